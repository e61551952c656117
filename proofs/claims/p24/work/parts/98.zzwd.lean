/-! WHAT DECODING GIVES; THE REFERENCE'S RUN. -/
theorem le_st {r : List Int32} {b : Int32} {M : Int} (h0 : 0 ≤ (ms_le r).toInt) (h1 : (ms_le r).toInt ≤ M) (hM : M ≤ 140737488355328) (b0 : 0 ≤ b.toInt) (b1 : b.toInt ≤ 255) : 0 ≤ (ms_le (b :: r)).toInt ∧ (ms_le (b :: r)).toInt ≤ M * 256 + 255 := by
  have e : (ms_le (b :: r)).toInt = (ms_le r).toInt * 256 + b.toInt := by
    show ((ms_le r <<< (((8 : Int32)).toInt64 &&& 63)) ||| b.toInt64).toInt = _
    exact l_or8 (l_shl8 rfl h0 (by omega)) (i_2l rfl) h0 (by omega) b0 b1
  omega
theorem le_rg : ∀ (L : List Int32), (∀ b, b ∈ L → 0 ≤ b.toInt ∧ b.toInt ≤ 255) → L.length ≤ 4 → 0 ≤ (ms_le L).toInt ∧ (ms_le L).toInt ≤ 4294967295 ∧ (L.length ≤ 1 → (ms_le L).toInt ≤ 255)
  | [], _, _ => by decide
  | [a], h, _ => by
    have k1 := le_st (r := []) (M := 0) (by decide) (by decide) (by decide) (h a (by simp)).1 (h a (by simp)).2
    omega
  | [a, b], h, _ => by
    have k1 := le_st (r := []) (M := 0) (by decide) (by decide) (by decide) (h b (by simp)).1 (h b (by simp)).2
    have k2 := le_st (M := 255) k1.1 (by omega) (by decide) (h a (by simp)).1 (h a (by simp)).2
    exact ⟨k2.1, by omega, fun e => absurd e (by simp)⟩
  | [a, b, c], h, _ => by
    have k1 := le_st (r := []) (M := 0) (by decide) (by decide) (by decide) (h c (by simp)).1 (h c (by simp)).2
    have k2 := le_st (M := 255) k1.1 (by omega) (by decide) (h b (by simp)).1 (h b (by simp)).2
    have k3 := le_st (M := 65535) k2.1 (by omega) (by decide) (h a (by simp)).1 (h a (by simp)).2
    exact ⟨k3.1, by omega, fun e => absurd e (by simp)⟩
  | [a, b, c, d], h, _ => by
    have k1 := le_st (r := []) (M := 0) (by decide) (by decide) (by decide) (h d (by simp)).1 (h d (by simp)).2
    have k2 := le_st (M := 255) k1.1 (by omega) (by decide) (h c (by simp)).1 (h c (by simp)).2
    have k3 := le_st (M := 65535) k2.1 (by omega) (by decide) (h b (by simp)).1 (h b (by simp)).2
    have k4 := le_st (M := 16777215) k3.1 (by omega) (by decide) (h a (by simp)).1 (h a (by simp)).2
    exact ⟨k4.1, by omega, fun e => absurd e (by simp)⟩
  | a :: b :: c :: d :: e :: r, _, h => absurd h (by simp)
def ms_by (bs : List Int32) : Prop := ∀ b, b ∈ bs → 0 ≤ b.toInt ∧ b.toInt ≤ 255
theorem bk_by {FI : Nat → Nat → Int32} {SH : Nat → Nat × Nat} {r A : Nat} {L : List Int32} (h : bk FI SH r A L) : ms_by L := fun b hb => by
  obtain ⟨i, hi⟩ := List.mem_iff_getElem?.mp hb
  exact (h.2.2.2 i b hi).2
theorem by_tk {bs : List Int32} {p k : Nat} (h : ms_by bs) : ms_by ((bs.drop p).take k) := fun b hb => h b (List.mem_of_mem_drop (List.mem_of_mem_take hb))
theorem sx_2 (v : Int64) : -32768 ≤ (ms_sx (2 : Int32) v).toInt ∧ (ms_sx (2 : Int32) v).toInt ≤ 32767 := by
  unfold ms_sx
  have e : ((((64 : Int32)) - (((8 : Int32)) * ((2 : Int32)))).toInt64 &&& 63) = Int64.ofNat (8 * 6) := by decide
  rw [e]
  generalize v <<< Int64.ofNat (8 * 6) = w
  have k : (w >>> Int64.ofNat (8 * 6)).toInt = w.toInt / 281474976710656 := by
    show (w >>> Int64.ofNat (8 * 6)).toBitVec.toInt = _
    rw [l_sshr w 6 (by decide), BitVec.toInt_sshiftRight, Int.shiftRight_eq_div_pow]
    rfl
  have := l_rng w
  omega
section MD
variable {bs : List Int32} {p : Nat} {x : ms_O}
theorem md_fx {k : Nat} (h : ms_o1 (ms_fx bs p k) = .inr x) : x = (ms_le ((bs.drop p).take k), 0, p + k, []) ∧ p + k ≤ bs.length := by
  unfold ms_fx at h
  by_cases h1 : bs.length < p + k
  · rw [if_pos h1] at h; cases h
  · rw [if_neg h1] at h
    cases h
    exact ⟨rfl, by omega⟩
theorem md_fs {k : Nat} (h : ms_o1 (ms_fs bs p k) = .inr x) : x = (ms_sx (Int32.ofNat k) (ms_le ((bs.drop p).take k)), 0, p + k, []) ∧ p + k ≤ bs.length := by
  unfold ms_fs at h
  by_cases h1 : bs.length < p + k
  · rw [if_pos h1] at h; cases h
  · rw [if_neg h1] at h
    cases h
    exact ⟨rfl, by omega⟩
theorem md_o1 {r : Int ⊕ (Int64 × Nat)} (h : ms_o1 r = .inr x) : x.2.1 = 0 := by
  unfold ms_o1 at h
  match r, h with
  | .inr y, h => cases h; rfl
theorem md_158 (h : ms_op 158 bs p = .inr x) : ∃ q k : Nat, x.1.toInt = k ∧ x.2.2.1 = q + k ∧ q + k ≤ bs.length ∧ x.2.2.2 = (bs.drop q).take k := by
  have h : ms_o3 bs (ms_lu bs p) = .inr x := h
  generalize ms_lu bs p = r at h
  match r, h with
  | .inr y, h =>
    unfold ms_o3 at h
    (try dsimp only at h)
    by_cases h1 : y.1.toInt < 0 ∨ (bs.length : Int) - y.2 < y.1.toInt
    · rw [if_pos h1] at h; cases h
    · rw [if_neg h1] at h
      cases h
      refine ⟨y.2, y.1.toInt.toNat, ?_, rfl, by omega, rfl⟩
      show y.1.toInt = _
      omega
theorem md_147 (h : ms_op 147 bs p = .inr x) : x.2.1 = 0 := md_o1 (r := ms_lu bs p) h
theorem md_21 (hb : ms_by bs) (h : ms_op 21 bs p = .inr x) : 0 ≤ x.1.toInt ∧ x.1.toInt ≤ 255 := by
  obtain ⟨e, hl⟩ := md_fx (k := 1) h
  rw [e]
  have k := le_rg ((bs.drop p).take 1) (by_tk hb) (by rw [ms_ln hl]; decide)
  exact ⟨k.1, k.2.2 (by rw [ms_ln hl]; decide)⟩
theorem md_152 (hb : ms_by bs) (h : ms_op 152 bs p = .inr x) : 0 ≤ x.1.toInt := by
  obtain ⟨e, hl⟩ := md_fx (k := 2) h
  rw [e]
  exact (le_rg ((bs.drop p).take 2) (by_tk hb) (by rw [ms_ln hl]; decide)).1
theorem md_153 (hb : ms_by bs) (h : ms_op 153 bs p = .inr x) : 0 ≤ x.1.toInt := by
  obtain ⟨e, hl⟩ := md_fx (k := 4) h
  rw [e]
  exact (le_rg ((bs.drop p).take 4) (by_tk hb) (by rw [ms_ln hl]; decide)).1
theorem md_jp {c : Int} (hc : c = 47 ∨ c = 40) (h : ms_op c bs p = .inr x) : -32768 ≤ x.1.toInt ∧ x.1.toInt ≤ 32767 := by
  have h : ms_o1 (ms_fs bs p 2) = .inr x := by
    rcases hc with rfl | rfl
    · exact h
    · exact h
  obtain ⟨e, -⟩ := md_fs (k := 2) h
  rw [e]
  exact sx_2 _
end MD
theorem bk_sub {FI : Nat → Nat → Int32} {SH : Nat → Nat × Nat} {r A q k : Nat} {L : List Int32} (h : bk FI SH r A L) (hq : q + k ≤ L.length) : bk FI SH r (A + q) ((L.drop q).take k) := by
  refine ⟨h.1, by rw [ms_ln hq]; have := h.2.1; omega, h.2.2.1, fun i b hi => ?_⟩
  have hi2 : i < k := by
    have := (List.getElem?_eq_some_iff.mp hi).1
    rw [ms_ln hq] at this
    exact this
  rw [List.getElem?_take_of_lt hi2, List.getElem?_drop] at hi
  rw [show A + q + i = A + (q + i) by omega]
  exact h.2.2.2 (q + i) b hi
section RN
variable {a1 a2 a3 l4 l5 l6 l7 : Int32} {n sl : Nat} {SH : Nat → Nat × Nat} {FI : Nat → Nat → Int32} {FL : Nat → Nat → Int64} {FR : Nat → Nat → Option Nat} {v : Int32} {st : hS} {E : ms_E} {A l o f p : Nat} {bs : List Int32} {s : ms_S}
variable {K : Int32 → Int32 → Int32 → Int32 → Nat → Nat → (Nat → Nat × Nat) → (Nat → Nat → Int32) → (Nat → Nat → Int64) → (Nat → Nat → Option Nat) → Int32 → hS → Prop}
/-- one turn of the loop, at an operation: from a state F1, L1 on that differs from FI, FL by what is counted and decoded alone -/
theorem rs_one (hl : l4.toInt = l) (h1 : l ≤ 1) (ho : (FI 121 29).toInt = o) (ho8 : o ≤ 8) (hb : bk FI SH 124 A bs) (hbl : bs.length ≤ 100000) (h5 : l5.toInt = ((A + p : Nat) : Int)) (h6 : l6.toInt = A) (h7 : l7.toInt = ((A + bs.length : Nat) : Int)) (hp : p < bs.length) (hE : rE FI FL SH E) (hv : rv FI FL SH l s) (hf : (FI 121 30).toInt = f) (hf2 : f ≤ 1000) (h : BX12_exec_18 K a1 a2 a3 l4 l5 l6 l7 n sl SH FI FL FR v st) : (f = 0 ∧ v.toInt = 12) ∨ (f ≠ 0 ∧ ∃ F1 L1, gz l o FI FL F1 L1 ∧ rv F1 L1 SH l s ∧ (F1 121 30).toInt = ((f - 1 : Nat) : Int) ∧ rs_c K E A bs l o l4 l6 l7 n sl SH F1 L1 FR v st (ms_one E l o bs p s)) := by
  obtain ⟨pl, h⟩ := rs_18 (by omega) h
  have b2 := hb.2.1
  have b3 := hb.2.2.1
  unfold RX12_exec_308 at h
  rw [hf] at h
  rcases h with ⟨q, h⟩ | ⟨q, -, h⟩
  · refine Or.inl ⟨by omega, ?_⟩
    rw [fl h]; decide
  refine Or.inr ⟨by omega, ?_⟩
  obtain ⟨b, hb0⟩ := ms_ex_i (bs := bs) (i := p) hp
  obtain ⟨fb1, fb2, fb3⟩ := hb.2.2.2 p b hb0
  rw [show l5.toInt.toNat = A + p by omega, fb1] at h
  have gA : gz l o FI FL (h_up (h_up FI 121 30 (FI 121 30 - (1 : Int32))) 121 31 (FI 121 31 + (1 : Int32))) FL := gz_i (gz_i gz_rf (Or.inl ⟨rfl, by decide, by decide⟩)) (Or.inl ⟨rfl, by decide, by decide⟩)
  have e30 : ((h_up (h_up FI 121 30 (FI 121 30 - (1 : Int32))) 121 31 (FI 121 31 + (1 : Int32))) 121 30).toInt = ((f - 1 : Nat) : Int) := by
    rw [h_up_ne (by decide), h_up_eq, i_sub hf (by decide : ((1 : Int32)).toInt = 1) (by omega) (by omega)]
    omega
  have eA : ∀ c, c ≠ 121 → (h_up (h_up FI 121 30 (FI 121 30 - (1 : Int32))) 121 31 (FI 121 31 + (1 : Int32))) c = FI c := fun c hc => by rw [h_up_nc hc, h_up_nc hc]
  generalize h_up (h_up FI 121 30 (FI 121 30 - (1 : Int32))) 121 31 (FI 121 31 + (1 : Int32)) = FA at h gA e30 eA
  have hvA : rv FA FL SH l s := rv_fr hv ⟨eA 124 (by decide), fun r hr => by rw [eA r (by omega)], fun r i hr _ _ => by rw [eA r (by omega)], rfl, fun _ _ _ => rfl, fun _ _ _ => rfl⟩
  unfold ms_one
  rw [hb0]
  (try dsimp only)
  rw [w_known fb2 fb3] at h
  rcases h with ⟨q2, h⟩ | ⟨q2, h⟩
  · refine ⟨FA, FL, gA, hvA, e30, ?_⟩
    have e : ms_op b.toInt bs (p + 1) = .inl 2 := by
      unfold ms_op
      rw [if_pos q2]
    rw [e]
    show v.toInt = 2
    rw [fl h]; decide
  have hk : ms_kn b.toInt = true := by
    cases hq : ms_kn b.toInt with
    | true => rfl
    | false => exact absurd hq q2
  obtain ⟨v8, n8, sl8, SH8, FI8, FL8, FR8, hop, h⟩ := h
  have gB : gz l o FI FL (h_up FA 121 37 (l5 + (1 : Int32))) FL := gz_i gA (Or.inl ⟨rfl, by decide, by decide⟩)
  have e31 : (h_up FA 121 37 (l5 + (1 : Int32))) 121 30 = FA 121 30 := h_up_ne (by decide)
  have hn : ((h_up FA 121 37 (l5 + (1 : Int32))) 121 37).toInt = ((A + (p + 1) : Nat) : Int) := by
    rw [h_up_eq, i_add h5 (by decide : ((1 : Int32)).toInt = 1) (by omega) (by omega)]
    omega
  have hbB : bk (h_up FA 121 37 (l5 + (1 : Int32))) SH 124 A bs := bk_fr hb (by rw [h_up_nc (by decide)]; exact eA 124 (by decide))
  have hvB : rv (h_up FA 121 37 (l5 + (1 : Int32))) FL SH l s := rv_fr hvA (lf_fk (fk_up (K := [37]) fk_rf (by decide)) (fk_rf (K := [])))
  generalize h_up FA 121 37 (l5 + (1 : Int32)) = FB at hop gB e31 hn hbB hvB
  obtain ⟨F2, L2, e2, ro1, ro2, ro3⟩ := ro_op (p := p + 1) hbB h7 hn (by omega) hk hop
  cases e2
  have g8 : gz l o FI FL FI8 FL8 := gz_tr gB (gz_fk ro1 ro2)
  have e38 : (FI8 121 30).toInt = ((f - 1 : Nat) : Int) := by rw [fk_at ro1 (by decide), e31]; exact e30
  have hb8 : bk FI8 SH 124 A bs := bk_fr hbB (fk_row ro1 (by decide))
  have hv8 : rv FI8 FL8 SH l s := rv_fr hvB (lf_fk ro1 ro2)
  have hE8 : rE FI8 FL8 SH E := rE_gf hE g8
  refine ⟨FI8, FL8, g8, hv8, e38, ?_⟩
  cases hx : ms_op b.toInt bs (p + 1) with
  | inl e =>
    rw [hx] at ro3
    obtain ⟨r1, r2⟩ := ro3
    have h := P_n h (by rw [r1]; exact r2)
    show v.toInt = e
    rw [fl h]; exact r1
  | inr x =>
    rw [hx] at ro3
    obtain ⟨r1, r2, r3, r4, r5, r6⟩ := ro3
    (try dsimp only)
    obtain ⟨-, h⟩ := P_p h r1
    have hd : rd_c E A bs l o s x l4 l6 l7 b (FI8 121 37) (FL8 121 35) (FL8 121 36) SH FI8 FL8 := by
      refine ⟨hl, h1, by rw [g8.2.2.1]; exact ho, ho8, hb8, h6, h7, r5, r6, hE8, hv8, ⟨fb2, fb3⟩, hk, r2, r2, fun e => r3 (decide_eq_false e), fun e => ?_, fun e => ?_, fun e => ?_, fun e => ?_, fun e => ?_⟩
      · rw [e] at hx
        obtain ⟨q9, k9, y1, y2, y3, y4⟩ := md_158 hx
        obtain ⟨z1, z2, z3⟩ := r4 (decide_eq_true e)
        refine ⟨A + q9, by rw [z3]; omega, by rw [y4]; exact bk_sub hb8 y3, by rw [y4, ms_ln y3]; exact y1, ?_⟩
        rw [y4, ms_ln y3]
        omega
      · rw [e] at hx; exact md_147 hx
      · rw [e] at hx; exact md_21 (bk_by hb) hx
      · rcases e with e | e
        · rw [e] at hx; exact md_152 (bk_by hb) hx
        · rw [e] at hx; exact md_153 (bk_by hb) hx
      · exact md_jp e hx
    have el : l4.toInt.toNat = l := by omega
    rw [el] at h
    have hk0 := hv8.2.2.2.1.1
    rw [hk0] at h
    have go : ∀ _ : ¬ (s.2.1.1 ≠ 0 ∧ ¬ (b.toInt = 147 ∨ b.toInt = 157 ∨ b.toInt = 150 ∨ b.toInt = 47 ∨ b.toInt = 152 ∨ b.toInt = 153)), RX12_exec_490 K a1 a2 a3 l4 l6 l7 (((128 : Int32)) * l4) pl b (FI8 121 37) (FL8 121 35) (FL8 121 36) n sl SH FI8 FL8 FR v st → rs_c K E A bs l o l4 l6 l7 n sl SH FI8 FL8 FR v st (ms_do E l o bs b.toInt x s) := fun q h => rs_490 hd q h
    rcases h with ⟨w, h⟩ | ⟨w, h⟩
    · exact go (fun e => e.1 w) h
    rw [show ((147 : Int32)).toInt = 147 by decide, show ((157 : Int32)).toInt = 157 by decide, show ((150 : Int32)).toInt = 150 by decide, show ((47 : Int32)).toInt = 47 by decide, show ((152 : Int32)).toInt = 152 by decide, show ((153 : Int32)).toInt = 153 by decide] at h
    rcases h with ⟨w1, h⟩ | ⟨w1, h⟩
    · exact go (by omega) h
    rcases h with ⟨w2, h⟩ | ⟨w2, h⟩
    · exact go (by omega) h
    rcases h with ⟨w3, h⟩ | ⟨w3, h⟩
    · exact go (by omega) h
    rcases h with ⟨w4, h⟩ | ⟨w4, h⟩
    · exact go (by omega) h
    rcases h with ⟨w5, h⟩ | ⟨w5, h⟩
    · exact go (by omega) h
    rcases h with ⟨w6, h⟩ | ⟨w6, h⟩
    · exact go (by omega) h
    unfold ms_do
    rw [if_pos (by omega)]
    show v.toInt = 9
    rw [fl h]; decide
end RN
