/-! THE CLASS'S CODER: places, locations, variables. -/
section WA
variable {FI F2 : Nat → Nat → Int32} {FL : Nat → Nat → Int64} {FR : Nat → Nat → Option Nat} {SH : Nat → Nat × Nat}
theorem w_pl_ag {c : Nat} {code : List Int} (h : ∀ c k, 176 ≤ c → F2 c k = FI c k) (hw : w_pl FI FL FR SH c code) : w_pl F2 FL FR SH c code := by
  obtain ⟨hc, hw⟩ := hw
  refine ⟨hc, ?_⟩
  rw [h c 0 hc]
  rcases hw with ⟨k, f, hf⟩ | hw | ⟨k, f, a, hf, e⟩ | ⟨k, b, bs, h1, h2, h3, h4, h5, h6⟩ | hw
  · exact Or.inl ⟨k, f, by rw [n_cd_ag h]; exact hf⟩
  · exact Or.inr (Or.inl hw)
  · exact Or.inr (Or.inr (Or.inl ⟨k, f, a, by rw [n_cd_ag h]; exact hf, e⟩))
  · exact Or.inr (Or.inr (Or.inr (Or.inl ⟨k, b, bs, h1, h2, h3, h4, fun i hi => by rw [h b i h2]; exact h5 i hi, h6⟩)))
  · exact Or.inr (Or.inr (Or.inr (Or.inr hw)))
theorem w_lc_ag (h : ∀ c k, 176 ≤ c → F2 c k = FI c k) : ∀ (f : Nat) (o : Option Nat) (code : List Int), w_lc FI FL FR SH f o code → w_lc F2 FL FR SH f o code := by
  intro f
  induction f with
  | zero => intro o code hw; exact hw.elim
  | succ f ih =>
    intro o code hw
    cases o with
    | none => exact hw
    | some c =>
      obtain ⟨a, r, h1, h2, h3, h4⟩ := hw
      refine ⟨a, r, w_pl_ag h h1, ih _ _ h2, ?_, ?_⟩
      · refine ⟨by rw [h c 4 h1.1]; exact h3.1, by rw [h c 4 h1.1]; exact h3.2.1, fun d hd => ?_⟩
        rw [hd] at h2
        rw [h d 4 (w_lc_ge h2)]
        exact h3.2.2 d hd
      · rw [h c 4 h1.1]; exact h4
end WA
theorem lc_u_s {v : Int} (h : v ≤ 127) : lc_u 9 v = [v] := by
  rw [lc_u, if_neg (by omega)]
section CP
variable {n sl : Nat} {SH : Nat → Nat × Nat} {FL : Nat → Nat → Int64} {FR : Nat → Nat → Option Nat}
theorem c_block_G {b : Nat} {bs : List Int} (hQ : h_S n SH) (hb : 176 ≤ b) (hl : (SH b).2 = bs.length) (h64 : bs.length ≤ 64) : ∀ (g : Nat) (l : Int32) (FI : Nat → Nat → Int32) (v : Unit) (s : hS) (i : Nat), GX0_putBlock_21 (some b) g l n sl SH FI FL FR v s → l.toInt = i → i ≤ bs.length → (∀ j, j < bs.length → (FI b j).toInt = bs.getD j 0 ∧ 0 ≤ bs.getD j 0 ∧ bs.getD j 0 ≤ 255) → c_ap n sl SH FI FL FR s (bs.drop i) := by
  have ez : (Int32.ofNat (SH b).2).toInt = (bs.length : Int) := by rw [hl]; exact i_lit (by omega)
  intro g
  induction g with
  | zero => intro l FI v s i h; exact h.elim
  | succ g ih =>
    intro l FI v s i h hi hle hB
    obtain ⟨c1, e1, h⟩ := h
    cases e1
    rcases h with ⟨hlt, h⟩ | ⟨hlt, -, rfl⟩
    · rw [ez] at hlt
      obtain ⟨c3, e3, -, v3, n3, sl3, SH3, FI3, FL3, FR3, hp, hK⟩ := h
      cases e3
      have em : l.toInt.toNat = i := by omega
      rw [em] at hp
      have hv := hB i (by omega)
      have q1 := c_put (b := bs.getD i 0) hQ hp (by rw [hv.1]; omega)
      have q1' := q1
      obtain ⟨F2, e, fr, -⟩ := q1'
      cases e
      have q2 := ih _ FI3 v s (i + 1) hK (by rw [i_add hi (by decide : ((1 : Int32)).toInt = 1) (by omega) (by omega)]; omega) (by omega) (fun j hj => by rw [fr b j (by omega) (by omega)]; exact hB j hj)
      refine c_ap_cg (c_ap_t q1 q2) ?_
      rw [List.singleton_append]
      have hlt2 : i < bs.length := by omega
      rw [List.drop_eq_getElem_cons hlt2, List.getD_eq_getElem?_getD, List.getElem?_eq_getElem hlt2]
      rfl
    · rw [ez] at hlt
      rw [List.drop_eq_nil_of_le (by omega)]
      exact c_ap_0
theorem c_place {FI : Nat → Nat → Int32} {c : Nat} {code : List Int} {v : Unit} {s : hS} (hQ : h_S n SH) (hw : w_pl FI FL FR SH c code) (h : RX0_putPlace (some c) n sl SH FI FL FR v s) : c_ap n sl SH FI FL FR s code := by
  obtain ⟨hc, hw⟩ := hw
  obtain ⟨c1, e1, h⟩ := h
  cases e1
  rcases h with ⟨k1, h⟩ | ⟨k1, h⟩
  · rcases hw with ⟨-, f, hf⟩ | ⟨k, -⟩ | ⟨k, -⟩ | ⟨k, -⟩ | ⟨k, -⟩
    · obtain ⟨c3, e3, v3, n3, sl3, SH3, FI3, FL3, FR3, ⟨g, hm⟩, -, rfl⟩ := h
      cases e3
      exact (c_tree hQ f).1 g _ _ 0 FI _ _ code hm (by decide) (by decide) (by decide) hf
    · exfalso; omega
    · exfalso; omega
    · exfalso; omega
    · exfalso; omega
  · rcases h with ⟨k2, h⟩ | ⟨k2, h⟩
    · rcases hw with ⟨k, -⟩ | ⟨-, w0, w31, rfl⟩ | ⟨k, -⟩ | ⟨k, -⟩ | ⟨k, -⟩
      · exfalso; omega
      · obtain ⟨c6, e6, v6, n6, sl6, SH6, FI6, FL6, FR6, hp, -, rfl⟩ := h
        cases e6
        have e : ((80 : Int32) + (FL c 1).toInt32).toInt = 80 + (FL c 1).toInt := i_add (by decide : ((80 : Int32)).toInt = 80) (l_2i rfl (by omega) (by omega)) (by omega) (by omega)
        exact c_put hQ hp (by rw [e]; omega)
      · exfalso; omega
      · exfalso; omega
      · exfalso; omega
    · rcases h with ⟨k3, h⟩ | ⟨k3, h⟩
      · rcases hw with ⟨k, -⟩ | ⟨k, -⟩ | ⟨-, f, a, hf, rfl⟩ | ⟨k, -⟩ | ⟨k, -⟩
        · exfalso; omega
        · exfalso; omega
        · obtain ⟨c9, e9, v9, n9, sl9, SH9, FI9, FL9, FR9, ⟨g, hm⟩, v10, n10, sl10, SH10, FI10, FL10, FR10, hp, -, rfl⟩ := h
          cases e9
          have q1 := (c_tree hQ f).1 g _ _ 0 FI _ _ a hm (by decide) (by decide) (by decide) hf
          have q1' := q1
          obtain ⟨F2, e, -⟩ := q1'
          cases e
          exact c_ap_t q1 (c_put hQ hp (by decide))
        · exfalso; omega
        · exfalso; omega
      · rcases h with ⟨k4, h⟩ | ⟨k4, h⟩
        · rcases hw with ⟨k, -⟩ | ⟨k, -⟩ | ⟨k, -⟩ | ⟨-, b, bs, hb, b176, hl, h64, hB, rfl⟩ | ⟨k, -⟩
          · exfalso; omega
          · exfalso; omega
          · exfalso; omega
          · obtain ⟨c13, e13, v13, n13, sl13, SH13, FI13, FL13, FR13, hm, -, rfl⟩ := h
            cases e13
            rw [hb] at hm
            rcases hm with ⟨hn, -⟩ | ⟨-, hm⟩
            · cases hn
            · obtain ⟨v1, n1, sl1, SH1, FI1, FL1, FR1, hp, c3, e3, v3, n3, sl3, SH3, FI3, FL3, FR3, hl2, ⟨g, hg⟩⟩ := hm
              cases e3
              have q1 := c_put (b := 158) hQ hp (by decide)
              have q1' := q1
              obtain ⟨F2, e, fr1, -⟩ := q1'
              cases e
              have ez : ((Int32.ofNat (SH b).2).toInt64).toInt = (bs.length : Int) := i_2l (by rw [hl]; exact i_lit (by omega))
              have q2 := c_leb hQ hl2 (by rw [ez]; omega)
              have q2' := q2
              obtain ⟨F3, e, fr2, -⟩ := q2'
              cases e
              rw [ez, lc_u_s (by omega)] at q2
              have q3 := c_block_G hQ b176 hl h64 g _ FI3 _ _ 0 hg (by decide) (by omega) (fun j hj => by rw [fr2 b j (by omega) (by omega), fr1 b j (by omega) (by omega)]; exact hB j hj)
              exact c_ap_cg (c_ap_t q1 (c_ap_t q2 q3)) (by simp)
          · exfalso; omega
        · rcases hw with ⟨k, -⟩ | ⟨k, -⟩ | ⟨k, -⟩ | ⟨k, -⟩ | ⟨-, rfl⟩
          · exfalso; omega
          · exfalso; omega
          · exfalso; omega
          · exfalso; omega
          · obtain ⟨-, rfl⟩ := h
            exact c_ap_0
/-- how far apart -/
theorem i_dst {p q : Nat} (hq : q ≤ 1000000) : (Int32.ofNat (p + q) - Int32.ofNat p).toInt = (q : Int) := by
  have e : Int32.ofNat (p + q) - Int32.ofNat p = Int32.ofNat q := by
    have h := i_dist (p := p) (q := q) (x := Int32.ofNat (p + (q + 2))) (y := Int32.ofNat p) rfl rfl
    rw [← h, show p + (q + 2) = (p + q) + 2 by omega, Int32.ofNat_add (p + q) 2]
    generalize Int32.ofNat (p + q) = a
    generalize Int32.ofNat p = b
    apply Int32.toBitVec_inj.mp
    simp only [Int32.toBitVec_sub, Int32.toBitVec_add]
    show a.toBitVec - b.toBitVec = a.toBitVec + 2#32 - b.toBitVec - 2#32
    generalize a.toBitVec = u
    generalize b.toBitVec = w
    bv_omega
  rw [e]
  exact i_lit (by omega)
theorem c_loc_G {a1 : Option Nat} (hQ : h_S n SH) : ∀ (g : Nat) (l2 : Int32) (o : Option Nat) (FI : Nat → Nat → Int32) (v : Int32) (s : hS) (f : Nat) (code B0 A0 : List Int), GX0_putLocation_7 a1 g l2 o n sl SH FI FL FR v s → w_lc FI FL FR SH f o code → c_vw FI (B0 ++ A0) → l2 = Int32.ofNat B0.length → (A0 ++ code).length ≤ 100000 → c_ap n sl SH FI FL FR s code ∧ (v = if 300 < (A0 ++ code).length then 0 else 1) := by
  have z300 : ((300 : Int32)).toInt = 300 := by decide
  intro g
  induction g with
  | zero => intro l2 o FI v s f code B0 A0 h; exact h.elim
  | succ g ih =>
    intro l2 o FI v s f code B0 A0 h hw hv hl hz
    cases f with
    | zero => exact hw.elim
    | succ f =>
      rcases h with ⟨ho, h⟩ | ⟨ho, h⟩
      · subst ho
        have hw : code = [] := hw
        subst hw
        rw [List.append_nil] at hz
        have e1 : FI 119 1 = Int32.ofNat (B0.length + A0.length) := by rw [hv.1, List.length_append]
        have ed : ((FI 119 1) - l2).toInt = (A0.length : Int) := by rw [e1, hl]; exact i_dst (by omega)
        rw [ed, z300] at h
        rw [List.append_nil]
        rcases h with ⟨h3, rfl, rfl⟩ | ⟨h3, rfl, rfl⟩
        · exact ⟨c_ap_0, by rw [if_pos (by omega)]⟩
        · exact ⟨c_ap_0, by rw [if_neg (by omega)]⟩
      · cases o with
        | none => exact absurd rfl ho
        | some c =>
          obtain ⟨pa, r, w1, w2, ⟨w3, -, -⟩, rfl⟩ := hw
          obtain ⟨v2, n2, sl2, SH2, FI2, FL2, FR2, hp, c4, e4, h⟩ := h
          cases e4
          have hc := w1.1
          have q1 := c_place hQ w1 hp
          have q1' := q1
          obtain ⟨F2, e, fr, av⟩ := q1'
          cases e
          have hv2 := av _ hv
          have w4 : FI2 c 4 = FI c 4 := fr c 4 (by omega) (by omega)
          have zm : ((-1 : Int32)).toInt = -1 := by decide
          rw [w4, zm] at h
          rcases h with ⟨h4, h⟩ | ⟨h4, h⟩
          · rw [if_pos h4, List.nil_append] at hz ⊢
            obtain ⟨c1, e1, h⟩ := h
            cases e1
            obtain ⟨q2, ev⟩ := ih l2 (FR c 5) FI2 v s f r B0 (A0 ++ pa) h (w_lc_ag (c_fr_n fr) f _ _ w2) (by rw [← List.append_assoc]; exact hv2) hl (by rw [List.append_assoc]; exact hz)
            exact ⟨c_ap_t q1 q2, by rw [ev, List.append_assoc]⟩
          · rw [if_neg h4] at hz ⊢
            obtain ⟨v5, n5, sl5, SH5, FI5, FL5, FR5, hp5, c7, e7, v7, n7, sl7, SH7, FI7, FL7, FR7, hp7, h⟩ := h
            cases e7
            have q5 := c_put (b := 147) hQ hp5 (by decide)
            have q5' := q5
            obtain ⟨F5, e, fr5, av5⟩ := q5'
            cases e
            have w5 : FI5 c 4 = FI c 4 := (fr5 c 4 (by omega) (by omega)).trans w4
            rw [w5] at hp7
            have ei : ((FI c 4).toInt64).toInt = (FI c 4).toInt := i_2l rfl
            have q7 := c_leb hQ hp7 (by rw [ei]; omega)
            have q7' := q7
            obtain ⟨F7, e, fr7, av7⟩ := q7'
            cases e
            rw [ei] at q7 av7
            obtain ⟨c1, e1, h⟩ := h
            cases e1
            have q8 := c_ap_t q1 (c_ap_t q5 q7)
            have frt := c_fr_t fr (c_fr_t fr5 fr7)
            have hv7 := av7 _ (av5 _ hv2)
            obtain ⟨q9, ev⟩ := ih l2 (FR c 5) FI7 v s f r B0 (A0 ++ (pa ++ 147 :: lc_u 9 (FI c 4).toInt)) h (w_lc_ag (c_fr_n frt) f _ _ w2) (by
              have e : B0 ++ (A0 ++ (pa ++ 147 :: lc_u 9 (FI c 4).toInt)) = B0 ++ A0 ++ pa ++ [147] ++ lc_u 9 (FI c 4).toInt := by simp
              rw [e]
              exact hv7) hl (by
              have e : A0 ++ (pa ++ 147 :: lc_u 9 (FI c 4).toInt) ++ r = A0 ++ (pa ++ (147 :: lc_u 9 (FI c 4).toInt ++ r)) := by simp
              rw [e]
              exact hz)
            refine ⟨c_ap_cg (c_ap_t q8 q9) (by simp), ?_⟩
            have e : A0 ++ (pa ++ 147 :: lc_u 9 (FI c 4).toInt) ++ r = A0 ++ (pa ++ (147 :: lc_u 9 (FI c 4).toInt ++ r)) := by simp
            rw [ev, e]
theorem c_location {FI : Nat → Nat → Int32} {o : Option Nat} {f : Nat} {code B : List Int} {v : Int32} {s : hS} (hQ : h_S n SH) (h : RX0_putLocation o n sl SH FI FL FR v s) (hw : w_lc FI FL FR SH f o code) (hv : c_vw FI B) (hz : code.length ≤ 100000) : c_ap n sl SH FI FL FR s code ∧ (v = if 300 < code.length then 0 else 1) := by
  obtain ⟨g, h⟩ := h
  have q := c_loc_G hQ g _ o FI v s f code B [] h hw (by rw [List.append_nil]; exact hv) hv.1 (by rw [List.nil_append]; exact hz)
  rw [List.nil_append] at q
  exact q
end CP
