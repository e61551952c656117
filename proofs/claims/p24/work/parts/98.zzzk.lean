/-! THE CLASS'S MEANINGS: locations, variables. -/
section CSY
variable {n sl : Nat} {SH : Nat → Nat × Nat} {st : hS} {E : ms_E} {fb : xX} {u : Unit} {v : Int32}
/-- pieces that meanings have added -/
def crp (FI : Nat → Nat → Int32) (FL : Nat → Nat → Int64) (FR : Nat → Nat → Option Nat) (SH : Nat → Nat × Nat) (A : List ms_P) : Prop := (FI 91 1).toInt = A.length ∧ A.length ≤ 16 ∧ lv (fun i p => cq FI FL FR SH (93 + i) p) A
/-- what saying leaves -/
def sa_c (n sl : Nat) (SH : Nat → Nat × Nat) (FI : Nat → Nat → Int32) (FL : Nat → Nat → Int64) (FR : Nat → Nat → Option Nat) (v : Int32) (st : hS) (r : Int ⊕ ms_Q) : Prop := ∃ F2 L2 R2, st = (n, sl, SH, F2, L2, R2) ∧ vz FI FL FR F2 L2 R2 ∧ match r with
  | .inl e => v.toInt = e ∧ e ≠ 0
  | .inr Q => v.toInt = 0 ∧ crx F2 L2 R2 SH 91 93 Q
theorem sa_up {FI F1 : Nat → Nat → Int32} {FL L1 : Nat → Nat → Int64} {FR R1 : Nat → Nat → Option Nat} {r : Int ⊕ ms_Q} (k : vz FI FL FR F1 L1 R1) (h : sa_c n sl SH F1 L1 R1 v st r) : sa_c n sl SH FI FL FR v st r := by
  obtain ⟨F2, L2, R2, h1, h2, h3⟩ := h
  exact ⟨F2, L2, R2, h1, vz_tr k h2, h3⟩
/-- behind a fault -/
theorem sa_f {FI : Nat → Nat → Int32} {FL : Nat → Nat → Int64} {FR : Nat → Nat → Option Nat} {a1 : Option Nat} {a2 : Int64} {g : Nat} {o : Option Nat} {e : Int} (ht : th FR ∧ thI FR) (t1 : tx FR 91 92 93) (h0 : (FI 90 4).toInt = e) (he : e ≠ 0) (h : GX2_say_23 a1 a2 g o n sl SH FI FL FR v st) : sa_c n sl SH FI FL FR v st (.inl e) := by
  have kr : vz FI FL FR FI FL FR := ⟨fun _ _ => ⟨rfl, rfl, rfl⟩, ht.1, ht.2, t1⟩
  cases g with
  | zero => exact h.elim
  | succ g =>
    rcases h with ⟨-, e1, e2⟩ | ⟨-, h⟩
    · exact ⟨_, _, _, e2, kr, by rw [e1]; exact h0, he⟩
    · obtain ⟨e1, e2⟩ := P_n h (by rw [h0]; exact he)
      exact ⟨_, _, _, e2, kr, by rw [e1]; exact h0, he⟩
/-- a piece comes to the others -/
theorem c_add9 {FI : Nat → Nat → Int32} {FL : Nat → Nat → Int64} {FR : Nat → Nat → Option Nat} {A : List ms_P} {H : ms_H} {w : Int32} {W0 : Int} (hS : h_S n SH) (ht : th FR ∧ thI FR) (t1 : tx FR 91 92 93) (hA : crp FI FL FR SH A) (hn : A.length < 16) (hc : chd FI FL FR SH 109 H) (hw : w.toInt = W0) (hW : 0 ≤ W0 ∧ W0 ≤ 4096) (h : RX8_addPiece 91 (some 109) w (0 : Int32) n sl SH FI FL FR u st) : ∃ F2 L2 R2, st = (n, sl, SH, F2, L2, R2) ∧ vz FI FL FR F2 L2 R2 ∧ (F2 90 = FI 90) ∧ crp F2 L2 R2 SH ((H, W0, 0) :: A) := by
  obtain ⟨a1, a2, a3⟩ := hA
  obtain ⟨c1, ec1, h⟩ := h
  rw [t1.1] at ec1
  cases ec1
  have h := P_p h (by rw [a1, hS.2 92 (by first | decide | (simp; done) | (simp [ms_0]; done)), show (Int32.ofNat (hs_L.getD 92 (0, 0)).2).toInt = 16 by decide +kernel]; omega)
  obtain ⟨c3, ec3, -, c4, ec4, v4, n4, sl4, SH4, FI4, FL4, FR4, h4, c6, ec6, c7, ec7, -, es⟩ := h
  rw [t1.1] at ec3
  cases ec3
  rw [show (FI 91 1).toInt.toNat = A.length by omega, t1.2 _ hn] at ec4 ec6 ec7
  cases ec4; cases ec6; cases ec7
  have hcq : cq FI FL FR SH 109 (H, 0, 0) := ⟨hc.1, by rw [hc.2.1]; show ((0 : Int32)).toInt = 0; (first | decide | (simp; done) | (simp [ms_0]; done)), by rw [hc.2.2]; show ((0 : Int32)).toInt = 0; (first | decide | (simp; done) | (simp [ms_0]; done)), by show (0 : Int) ≤ 0; (first | decide | (simp; done) | (simp [ms_0]; done)), by show (0 : Int) ≤ 4096; (first | decide | (simp; done) | (simp [ms_0]; done)), by show (0 : Int) ≤ 0; (first | decide | (simp; done) | (simp [ms_0]; done)), by show (0 : Int) ≤ 4096; (first | decide | (simp; done) | (simp [ms_0]; done))⟩
  obtain ⟨F5, L5, R5, e5, f5, q5⟩ := c_tk (q := 93 + A.length) (s0 := 109) (fun r hr => by have := rg_t (SH := SH) r hr; omega) (by omega) hcq h4
  first | (obtain ⟨zz1, zz2, zz3, zz4, zz5, zz6⟩ := st_c e5; (try subst zz1); (try subst zz2); (try subst zz3); (try subst zz4); (try subst zz5); (try subst zz6)) | cases e5
  generalize hq : 93 + A.length = q at f5 q5 es
  have o1 : (h_up (h_up F5 q 2 w) q 3 ((0 : Int32))) 91 1 = FI 91 1 := by rw [h_up_nc (by omega), h_up_nc (by omega), (f5 91 (by omega)).1]
  rw [o1] at es
  have fr : ∀ r, r ≠ q → r ≠ 91 → ∀ x y, (h_up (h_up (h_up (h_up F5 q 2 w) q 3 ((0 : Int32))) 91 1 x) 91 2 y) r = FI r := fun r r1 r2 x y => by rw [h_up_nc r2, h_up_nc r2, h_up_nc r1, h_up_nc r1]; exact (f5 r r1).1
  refine ⟨_, _, _, es, ⟨fun c hc => ⟨fr c (by omega) (by omega) _ _, (f5 c (by omega)).2.1, (f5 c (by omega)).2.2⟩, ?_⟩, fr 90 (by omega) (by first | decide | (simp; done) | (simp [ms_0]; done)) _ _, ?_, by simp only [List.length_cons]; omega, ⟨?_, ?_, ?_, hW.1, hW.2, by show (0 : Int) ≤ 0; (first | decide | (simp; done) | (simp [ms_0]; done)), by show (0 : Int) ≤ 4096; (first | decide | (simp; done) | (simp [ms_0]; done))⟩, lv_mono (fun i p hi _ hp => ?_) a3⟩
  · have q9 := th_eq (R2 := R5) ht (fun c c1 c2 => (f5 c (by omega)).2.2)
    exact ⟨q9.1, q9.2, tx_eq t1 (f5 91 (by omega)).2.2 (f5 92 (by omega)).2.2⟩
  · rw [h_up_ne (by first | decide | (simp; done) | (simp [ms_0]; done)), h_up_eq, i_add a1 (by first | decide | (simp; done) | (simp [ms_0]; done) : ((1 : Int32)).toInt = 1) (by omega) (by omega)]
    simp only [List.length_cons]
    omega
  · rw [hq]
    refine ct_cp q5.1 (fun r hr => ?_) ?_ rfl rfl ?_
    · have := rg_t (SH := SH) r hr
      rw [fr r (by omega) (by omega), (f5 r (by omega)).1]
    · rw [h_up_nc (by omega), h_up_nc (by omega), h_up_ne (by first | decide | (simp; done) | (simp [ms_0]; done)), h_up_ne (by first | decide | (simp; done) | (simp [ms_0]; done))]
    · rw [h_up_nc (by omega), h_up_nc (by omega), h_up_ne (by first | decide | (simp; done) | (simp [ms_0]; done)), h_up_ne (by first | decide | (simp; done) | (simp [ms_0]; done))]
  · rw [hq, h_up_nc (by omega), h_up_nc (by omega), h_up_ne (by first | decide | (simp; done) | (simp [ms_0]; done)), h_up_eq]
    exact hw
  · rw [hq, h_up_nc (by omega), h_up_nc (by omega), h_up_eq]
    show ((0 : Int32)).toInt = 0
    decide
  · refine cq_fr hp (fun r hr => ?_) ?_ ?_ ?_
    · have := rg_t (SH := SH) r hr
      exact fr r (by omega) (by omega) _ _
    · exact fr (93 + i) (by omega) (by omega) _ _
    · exact (f5 (93 + i) (by omega)).2.1
    · exact (f5 (93 + i) (by omega)).2.2
/-- its frame alone -/
theorem c_tkf {FI : Nat → Nat → Int32} {FL : Nat → Nat → Int64} {FR : Nat → Nat → Option Nat} {q s0 : Nat} (h : RX5_take q (some s0) n sl SH FI FL FR u st) : ∃ F2 L2 R2, st = (n, sl, SH, F2, L2, R2) ∧ (∀ r, r ≠ q → F2 r = FI r ∧ L2 r = FL r ∧ R2 r = FR r) := by
  obtain ⟨c1, e1, c2, e2, c3, e3, c4, e4, c5, e5, c6, e6, -, e⟩ := h
  exact ⟨_, _, _, e, fun r h1 => ⟨by rw [h_up_nc h1, h_up_nc h1, h_up_nc h1, h_up_nc h1], h_up_nc h1, h_up_nc h1⟩⟩
theorem c_add9_f {FI : Nat → Nat → Int32} {FL : Nat → Nat → Int64} {FR : Nat → Nat → Option Nat} {k : Nat} {w x : Int32} (ht : th FR ∧ thI FR) (t1 : tx FR 91 92 93) (hk : (FI 91 1).toInt = k) (hn : k < 16) (h : RX8_addPiece 91 (some 109) w x n sl SH FI FL FR u st) : ∃ F2 L2 R2, st = (n, sl, SH, F2, L2, R2) ∧ vz FI FL FR F2 L2 R2 ∧ F2 90 = FI 90 := by
  obtain ⟨c1, ec1, h⟩ := h
  rw [t1.1] at ec1
  cases ec1
  rcases h with ⟨-, h⟩ | ⟨-, -, es⟩
  · obtain ⟨c3, ec3, -, c4, ec4, v4, n4, sl4, SH4, FI4, FL4, FR4, h4, c6, ec6, c7, ec7, -, es⟩ := h
    rw [t1.1] at ec3
    cases ec3
    rw [show (FI 91 1).toInt.toNat = k by omega, t1.2 _ hn] at ec4 ec6 ec7
    cases ec4; cases ec6; cases ec7
    obtain ⟨F5, L5, R5, e5, f5⟩ := c_tkf h4
    cases e5
    generalize hq : 93 + k = q at f5 es
    have fr : ∀ r, r ≠ q → r ≠ 91 → ∀ x y, (h_up (h_up (h_up (h_up FI4 q 2 w) q 3 x) 91 1 ((h_up (h_up FI4 q 2 w) q 3 x) 91 1 + (1 : Int32))) 91 2 y) r = FI r := fun r r1 r2 x y => by rw [h_up_nc r2, h_up_nc r2, h_up_nc r1, h_up_nc r1]; exact (f5 r r1).1
    refine ⟨_, _, _, es, ⟨fun c hc => ⟨fr c (by omega) (by omega) _ _, (f5 c (by omega)).2.1, (f5 c (by omega)).2.2⟩, ?_⟩, fr 90 (by omega) (by first | decide | (simp; done) | (simp [ms_0]; done)) _ _⟩
    have q9 := th_eq (R2 := FR4) ht (fun c c1 c2 => (f5 c (by omega)).2.2)
    exact ⟨q9.1, q9.2, tx_eq t1 (f5 91 (by omega)).2.2 (f5 92 (by omega)).2.2⟩
  · exact ⟨_, _, _, es, ⟨fun _ _ => ⟨rfl, rfl, rfl⟩, ht.1, ht.2, t1⟩, rfl⟩
theorem crp_fr {FI F2 : Nat → Nat → Int32} {FL L2 : Nat → Nat → Int64} {FR R2 : Nat → Nat → Option Nat} {A : List ms_P} (h : crp FI FL FR SH A) (e0 : ∀ r, rw0 SH r → F2 r = FI r) (e : ∀ c, 90 < c → c < 109 → F2 c = FI c ∧ L2 c = FL c ∧ R2 c = FR c) : crp F2 L2 R2 SH A := by
  obtain ⟨a1, a2, a3⟩ := h
  exact ⟨by rw [(e 91 (by first | decide | (simp; done) | (simp [ms_0]; done)) (by first | decide | (simp; done) | (simp [ms_0]; done))).1]; exact a1, a2, lv_mono (fun i p hi _ hp => cq_fr hp e0 (e (93 + i) (by omega) (by omega)).1 (e (93 + i) (by omega) (by omega)).2.1 (e (93 + i) (by omega) (by omega)).2.2) a3⟩
/-- the pieces, one after another -/
theorem c_say_p {a1 : Option Nat} {a2 : Int64} (hS : h_S n SH) (hf : x_fb E fb) : ∀ (f g : Nat) (o : Option Nat) (Z : List mZ) (A : List ms_P) (FI : Nat → Nat → Int32) (FL : Nat → Nat → Int64) (FR : Nat → Nat → Option Nat), w_ls FI FL FR SH f o (mz_fl Z) → (∀ d, o = some d → 0 ≤ (FI d 4).toInt) → mz_ok E fb Z → Z.length + A.length ≤ 8 → 1 ≤ Z.length + A.length → (mz_fl Z).length ≤ 60000 → cE FI FL FR SH E → th FR ∧ thI FR → tx FR 91 92 93 → (FI 90 4).toInt = 0 → crp FI FL FR SH A → GX2_say_23 a1 a2 g o n sl SH FI FL FR v st → sa_c n sl SH FI FL FR v st (mz_rs Z A) := by
  intro f
  induction f with
  | zero => intro g o Z A FI FL FR hw; exact hw.elim
  | succ f ih =>
    intro g o Z A FI FL FR hw ho hZ hl hl1 hlen hE ht t1 h0 hA h
    have kr : vz FI FL FR FI FL FR := ⟨fun _ _ => ⟨rfl, rfl, rfl⟩, ht.1, ht.2, t1⟩
    cases g with
    | zero => exact h.elim
    | succ g =>
      cases o with
      | none =>
        have hw : mz_fl Z = [] := hw
        cases Z with
        | cons z Z =>
          exfalso
          have hw : z.1 ++ 147 :: (lc_u 9 z.2.2.1 ++ mz_fl Z) = [] := hw
          have := congrArg List.length hw
          rw [List.length_append, List.length_cons] at this
          simp at this
        | nil =>
          obtain ⟨e1, e2⟩ := P_p h rfl
          have hpos : 1 ≤ A.length := by simpa using hl1
          have h8 : A.length ≤ 8 := by simpa using hl
          exact ⟨_, _, _, e2, kr, by rw [e1]; exact h0, fun e => (by cases e), fun _ => hA.1, ⟨hpos, by show A.length ≤ 16; omega⟩, fun e => (by cases e), hA.2.2⟩
      | some c =>
        obtain ⟨a, r, w1, w2, ⟨w3, w4, w5⟩, w6⟩ := hw
        have hc4 := ho c rfl
        rw [if_neg (by omega)] at w6
        cases Z with
        | nil =>
          exfalso
          have w6 : [] = a ++ (147 :: lc_u 9 (FI c 4).toInt ++ r) := w6
          have := congrArg List.length w6
          rw [List.length_append, List.length_append, List.length_cons, List.length_nil] at this
          omega
        | cons z Z =>
          have w6 : z.1 ++ 147 :: (lc_u 9 z.2.2.1 ++ mz_fl Z) = a ++ (147 :: lc_u 9 (FI c 4).toInt ++ r) := w6
          have hla : a.length ≤ 60000 := by
            have e : mz_fl (z :: Z) = a ++ (147 :: lc_u 9 (FI c 4).toInt ++ r) := w6
            rw [e, List.length_append] at hlen
            omega
          have h := P_n h (by intro e; cases e)
          have h := P_p h h0
          obtain ⟨v2, n2, sl2, SH2, FI2, FL2, FR2, hm, c4, e4, h⟩ := h
          cases e4
          obtain ⟨k, H, m1, F3, L3, R3, m2, m3, m4, m5⟩ := c_meet hS hE ht t1 hf h0 w1 hla hm
          first | (obtain ⟨zz1, zz2, zz3, zz4, zz5, zz6⟩ := st_c m2; (try subst zz1); (try subst zz2); (try subst zz3); (try subst zz4); (try subst zz5); (try subst zz6)) | cases m2
          obtain ⟨z1, z2, z3⟩ := hZ z (List.mem_cons_self)
          obtain ⟨q1, q2, q3, q4⟩ := mp_u z1 m1 (Or.inr ⟨_, rfl⟩) (Or.inr ⟨_, rfl⟩) w6
          have q2 : (147 :: (lc_u 9 z.2.2.1 ++ mz_fl Z) : List Int) = 147 :: (lc_u 9 (FI c 4).toInt ++ r) := q2
          have q5 := (List.cons.inj q2).2
          have x1 := xu_9 (p := z.2.2.1) ⟨z2, by omega⟩ (mz_fl Z)
          have hi4 : (FI c 4).toInt ≤ 2147483647 := (i_rng _).2
          have x2 := xu_9 (p := (FI c 4).toInt) ⟨hc4, by omega⟩ r
          rw [q5, x2] at x1
          have y1 : (FI c 4).toInt = z.2.2.1 := congrArg Prod.fst x1
          have y2 : r = mz_fl Z := congrArg Prod.snd x1
          subst y2
          have d3 := vz_dyn m3
          have ec4 : F3 c 4 = FI c 4 := by rw [(d3 c w1.1).1]
          rw [ec4, show ((-1 : Int32)).toInt = -1 by first | decide | (simp; done) | (simp [ms_0]; done)] at h
          have h := P_n h (by omega)
          obtain ⟨c9, e9, v9, n9, sl9, SH9, FI9, FL9, FR9, hadd, h⟩ := h
          cases e9
          have w2' := w_ls_ag d3 f _ _ w2
          have ew : ((F3 c 4) * (8 : Int32)).toInt = 8 * z.2.2.1 := by
            rw [ec4, i_mul y1 (by first | decide | (simp; done) | (simp [ms_0]; done) : ((8 : Int32)).toInt = 8) (by omega) (by omega)]
            omega
          have er : ∀ r, rw0 SH r → F3 r = FI r := fun r hr => (m3.1 r (by have := rg_t (SH := SH) r hr; omega)).1
          have hA3 := crp_fr hA er m4
          have hln : (mz_fl Z).length ≤ 60000 := by
            have e : mz_fl (z :: Z) = z.1 ++ 147 :: (lc_u 9 z.2.2.1 ++ mz_fl Z) := rfl
            rw [e] at hlen
            simp only [List.length_append, List.length_cons] at hlen
            omega
          show sa_c n sl SH FI FL FR v st (match z.2.2.2 with
            | .inl e => Sum.inl e
            | .inr h => mz_rs Z ((h, 8 * z.2.2.1, 0) :: A))
          rw [q4]
          -- the link behind it
          have lk : ∀ {F9 : Nat → Nat → Int32} {L9 : Nat → Nat → Int64} {R9 : Nat → Nat → Option Nat}, vz F3 L3 R3 F9 L9 R9 → RX2_say_87 (GX2_say_23 a1 a2 g) a1 a2 (some c) n sl SH F9 L9 R9 v st → GX2_say_23 a1 a2 g (FR c 5) n sl SH F9 L9 R9 v st := by
            intro F9 L9 R9 hz h
            obtain ⟨c1, e1, h⟩ := h
            cases e1
            rw [(vz_dyn hz c w1.1).2.2, (d3 c w1.1).2.2] at h
            exact h
          match H, m5 with
          | .inl e, m5 =>
            -- a fault: what is added does not matter
            obtain ⟨F9, L9, R9, b1, b2, b3⟩ := c_add9_f (k := A.length) ⟨m3.2.1, m3.2.2.1⟩ m3.2.2.2 hA3.1 (by simp only [List.length_cons] at hl; omega) hadd
            cases b1
            exact sa_up (vz_tr m3 b2) (sa_f ⟨b2.2.1, b2.2.2.1⟩ b2.2.2.2 (by rw [b3]; exact m5.1) m5.2 (lk b2 h))
          | .inr h9, m5 =>
            obtain ⟨F9, L9, R9, b1, b2, b3, b4⟩ := c_add9 (H := h9) hS ⟨m3.2.1, m3.2.2.1⟩ m3.2.2.2 hA3 (by simp only [List.length_cons] at hl; omega) m5.2 ew (by omega) hadd
            first | (obtain ⟨zz1, zz2, zz3, zz4, zz5, zz6⟩ := st_c b1; (try subst zz1); (try subst zz2); (try subst zz3); (try subst zz4); (try subst zz5); (try subst zz6)) | cases b1
            have d9 := vz_dyn (vz_tr m3 b2)
            refine sa_up (vz_tr m3 b2) (ih g (FR c 5) Z _ F9 L9 R9 ?_ (fun d hd => ?_) (fun y hy => hZ y (List.mem_cons_of_mem _ hy)) (by simp only [List.length_cons] at hl ⊢; omega) (by simp only [List.length_cons]; omega) hln (cE_vz hE (vz_tr m3 b2)) ⟨b2.2.1, b2.2.2.1⟩ b2.2.2.2 (by rw [b3]; exact m5.1) b4 (lk b2 h))
            · have := w_ls_ag d9 f _ _ w2
              exact this
            · rw [hd] at w2
              rw [(d9 d (w_ls_ge w2)).1]
              exact w5 d hd
/-- a place's bytes, read to their end -/
theorem w_pl_ld {FI : Nat → Nat → Int32} {FL : Nat → Nat → Int64} {FR : Nat → Nat → Option Nat} {c : Nat} {code : List Int} (w : w_pl FI FL FR SH c code) : ∃ j k, ∀ g, ldx (g + j + 1) 0 (code ++ []) = some (k, []) := by
  obtain ⟨w0, w⟩ := w
  rcases w with ⟨-, f, hn⟩ | ⟨-, r1, r2, ec⟩ | ⟨-, f, a, hn, ec⟩ | ⟨-, b, bs, -, -, -, -, -, ec⟩ | ⟨-, ec⟩
  · obtain ⟨j, e⟩ := ((n_cd_lxx f 0 _ _ _ hn).1 (by first | decide | (simp; done) | (simp [ms_0]; done))).2 [] 0
    exact ⟨j, 1, fun g => by rw [show g + j + 1 = (g + 1) + j by omega, e]; rfl⟩
  · refine ⟨1, 2, fun g => ?_⟩
    rw [ec]
    show ldx (g + 1 + 1) 0 ((80 + (FL c 1).toInt) :: []) = _
    rw [ldx, if_neg (by omega), if_neg (by omega), if_pos (by omega)]
    rfl
  · obtain ⟨j, e⟩ := ((n_cd_lxx f 0 _ _ _ hn).1 (by first | decide | (simp; done) | (simp [ms_0]; done))).2 [159] 0
    refine ⟨j + 1, 3, fun g => ?_⟩
    rw [ec, List.append_nil, show g + (j + 1) + 1 = (g + 1 + 1) + j by omega, e, ldx, if_neg (by first | decide | (simp; done) | (simp [ms_0]; done)), if_pos rfl]
    rfl
  · refine ⟨1, 4, fun g => ?_⟩
    rw [ec, List.append_nil]
    show ldx (g + 1 + 1) 0 (158 :: ((bs.length : Int) :: bs)) = _
    rw [ldx, if_neg (by first | decide | (simp; done) | (simp [ms_0]; done)), if_neg (by first | decide | (simp; done) | (simp [ms_0]; done)), if_neg (by first | decide | (simp; done) | (simp [ms_0]; done)), if_pos rfl]
    show ldx (g + 1) 4 (bs.drop ((bs.length : Int)).toNat) = _
    rw [show ((bs.length : Int)).toNat = bs.length by omega, List.drop_length]
    rfl
  · exact ⟨0, 0, fun g => by rw [ec]; rfl⟩
/-- a location, said -/
theorem c_say_l {a1 : Option Nat} {a2 : Int64} {f g : Nat} {o : Option Nat} {code : List Int} {r : Int ⊕ ms_Q} {FI : Nat → Nat → Int32} {FL : Nat → Nat → Int64} {FR : Nat → Nat → Option Nat} (hS : h_S n SH) (hf : x_fb E fb) (hw : w_ls FI FL FR SH f o code) (hr : mloc E fb code r) (hlen : code.length ≤ 60000) (hE : cE FI FL FR SH E) (ht : th FR ∧ thI FR) (t1 : tx FR 91 92 93) (h0 : (FI 90 4).toInt = 0) (h1 : (FI 91 1).toInt = 0) (hc : cq FI FL FR SH 93 (ms_0, 0, 0)) (h : GX2_say_23 a1 a2 g o n sl SH FI FL FR v st) : sa_c n sl SH FI FL FR v st r := by
  have kr : vz FI FL FR FI FL FR := ⟨fun _ _ => ⟨rfl, rfl, rfl⟩, ht.1, ht.2, t1⟩
  cases f with
  | zero => exact hw.elim
  | succ f =>
    rcases hr with ⟨k, H, hp, er⟩ | ⟨Z, z0, z1, z2, z3, er⟩
    · cases o with
      | none =>
        have hw : code = [] := hw
        subst hw
        have q := (mp_u (R := []) (R2 := []) hp (Or.inr (Or.inr (Or.inr (Or.inr ⟨rfl, rfl, rfl⟩))) : mp E fb [] 0 (.inr ms_0)) (Or.inl rfl) (Or.inl rfl) rfl).2.2.2
        rw [er, q]
        cases g with
        | zero => exact h.elim
        | succ g =>
          obtain ⟨e1, e2⟩ := P_p h rfl
          exact ⟨_, _, _, e2, kr, by rw [e1]; exact h0, fun _ => h1, fun e => (by cases e), by show 1 ≤ [(ms_0, (0 : Int), (0 : Int))].length ∧ [(ms_0, (0 : Int), (0 : Int))].length ≤ 16; (first | decide | (simp; done) | (simp [ms_0]; done)), fun _ => rfl, ⟨hc, trivial⟩⟩
      | some c =>
        obtain ⟨a, r2, w1, w2, ⟨w3, w4, w5⟩, w6⟩ := hw
        cases g with
        | zero => exact h.elim
        | succ g =>
          have h := P_n h (by intro e; cases e)
          have h := P_p h h0
          obtain ⟨v2, n2, sl2, SH2, FI2, FL2, FR2, hm, c4, e4, h⟩ := h
          cases e4
          have hla : a.length ≤ 60000 := by
            rw [w6, List.length_append] at hlen
            omega
          obtain ⟨k2, H2, m1, F3, L3, R3, m2, m3, m4, m5⟩ := c_meet hS hE ht t1 hf h0 w1 hla hm
          first | (obtain ⟨zz1, zz2, zz3, zz4, zz5, zz6⟩ := st_c m2; (try subst zz1); (try subst zz2); (try subst zz3); (try subst zz4); (try subst zz5); (try subst zz6)) | cases m2
          have d3 := vz_dyn m3
          have ec4 : F3 c 4 = FI c 4 := by rw [(d3 c w1.1).1]
          by_cases hm1 : (FI c 4).toInt = -1
          · rw [if_pos hm1] at w6
            rw [w4 hm1] at w2
            have er2 : r2 = [] := by
              cases f with
              | zero => exact w2.elim
              | succ f => exact w2
            rw [er2] at w6
            have w6 : code = a := by rw [w6]; simp
            subst w6
            have qH := (mp_u (R := []) (R2 := []) hp m1 (Or.inl rfl) (Or.inl rfl) rfl).2.2.2
            rw [er, qH]
            rw [ec4, show ((-1 : Int32)).toInt = -1 by first | decide | (simp; done) | (simp [ms_0]; done)] at h
            have h := P_p h hm1
            obtain ⟨v5, n5, sl5, SH5, FI5, FL5, FR5, ho, c7, e7, v7, n7, sl7, SH7, FI7, FL7, FR7, hk, h⟩ := h
            obtain ⟨c8, e8, -, e9, e10⟩ := ho
            rw [m3.2.2.2.1] at e8
            cases e8
            cases e10
            rw [m3.2.2.2.2 0 (by first | decide | (simp; done) | (simp [ms_0]; done))] at e9
            rw [e9] at e7
            cases e7
            -- what is behind it
            have lk : ∀ {F9 : Nat → Nat → Int32} {L9 : Nat → Nat → Int64} {R9 : Nat → Nat → Option Nat}, (R9 c = R3 c) → RX2_say_87 (GX2_say_23 a1 a2 g) a1 a2 (some c) n sl SH F9 L9 R9 v st → GX2_say_23 a1 a2 g none n sl SH F9 L9 R9 v st := by
              intro F9 L9 R9 hz h
              obtain ⟨c1, e1, h⟩ := h
              cases e1
              rw [hz, (d3 c w1.1).2.2, w4 hm1] at h
              exact h
            have hc176 := w1.1
            match H2, m5 with
            | .inl e, m5 =>
              obtain ⟨F9, L9, R9, b1, b2⟩ := c_tkf hk
              first | (obtain ⟨zz1, zz2, zz3, zz4, zz5, zz6⟩ := st_c b1; (try subst zz1); (try subst zz2); (try subst zz3); (try subst zz4); (try subst zz5); (try subst zz6)) | cases b1
              have k9 : vz F3 L3 R3 F9 L9 R9 := by
                have q9 := th_eq (R2 := R9) ⟨m3.2.1, m3.2.2.1⟩ (fun q q1 q2 => (b2 q (by omega)).2.2)
                exact ⟨fun q hq => b2 q (by omega), q9.1, q9.2, tx_eq m3.2.2.2 (b2 91 (by first | decide | (simp; done) | (simp [ms_0]; done))).2.2 (b2 92 (by first | decide | (simp; done) | (simp [ms_0]; done))).2.2⟩
              exact sa_up (vz_tr m3 k9) (sa_f ⟨k9.2.1, k9.2.2.1⟩ k9.2.2.2 (by rw [(b2 90 (by first | decide | (simp; done) | (simp [ms_0]; done))).1]; exact m5.1) m5.2 (lk (b2 c (by omega)).2.2 h))
            | .inr h9, m5 =>
              have hcq : cq F3 L3 R3 SH 109 (h9, 0, 0) := ⟨m5.2.1, by rw [m5.2.2.1]; show ((0 : Int32)).toInt = 0; (first | decide | (simp; done) | (simp [ms_0]; done)), by rw [m5.2.2.2]; show ((0 : Int32)).toInt = 0; (first | decide | (simp; done) | (simp [ms_0]; done)), by show (0 : Int) ≤ 0; (first | decide | (simp; done) | (simp [ms_0]; done)), by show (0 : Int) ≤ 4096; (first | decide | (simp; done) | (simp [ms_0]; done)), by show (0 : Int) ≤ 0; (first | decide | (simp; done) | (simp [ms_0]; done)), by show (0 : Int) ≤ 4096; (first | decide | (simp; done) | (simp [ms_0]; done))⟩
              obtain ⟨F9, L9, R9, b1, b2, b3⟩ := c_tk (q := 93) (s0 := 109) (fun r hr => by have := rg_t (SH := SH) r hr; omega) (by first | decide | (simp; done) | (simp [ms_0]; done)) hcq hk
              first | (obtain ⟨zz1, zz2, zz3, zz4, zz5, zz6⟩ := st_c b1; (try subst zz1); (try subst zz2); (try subst zz3); (try subst zz4); (try subst zz5); (try subst zz6)) | cases b1
              have k9 : vz F3 L3 R3 F9 L9 R9 := by
                have q9 := th_eq (R2 := R9) ⟨m3.2.1, m3.2.2.1⟩ (fun q q1 q2 => (b2 q (by omega)).2.2)
                exact ⟨fun q hq => b2 q (by omega), q9.1, q9.2, tx_eq m3.2.2.2 (b2 91 (by first | decide | (simp; done) | (simp [ms_0]; done))).2.2 (b2 92 (by first | decide | (simp; done) | (simp [ms_0]; done))).2.2⟩
              refine sa_up (vz_tr m3 k9) ?_
              have h := lk (b2 c (by omega)).2.2 h
              cases g with
              | zero => exact h.elim
              | succ g =>
                obtain ⟨e1, e2⟩ := P_p h rfl
                refine ⟨_, _, _, e2, ⟨fun _ _ => ⟨rfl, rfl, rfl⟩, k9.2⟩, ?_, fun _ => ?_, fun e => (by cases e), by show 1 ≤ [(h9, (0 : Int), (0 : Int))].length ∧ [(h9, (0 : Int), (0 : Int))].length ≤ 16; (first | decide | (simp; done) | (simp [ms_0]; done)), fun _ => rfl, ⟨b3, trivial⟩⟩
                · rw [e1, (b2 90 (by first | decide | (simp; done) | (simp [ms_0]; done))).1]; exact m5.1
                · rw [(b2 91 (by first | decide | (simp; done) | (simp [ms_0]; done))).1, (m4 91 (by first | decide | (simp; done) | (simp [ms_0]; done)) (by first | decide | (simp; done) | (simp [ms_0]; done))).1]; exact h1
          · exfalso
            rw [if_neg hm1] at w6
            have w6 : code ++ [] = a ++ (147 :: (lc_u 9 (FI c 4).toInt ++ r2)) := by rw [List.append_nil]; exact w6
            have := (mp_u hp m1 (Or.inl rfl) (Or.inr ⟨_, rfl⟩) w6).2.1
            cases this
    · rw [er]
      subst z3
      have ho : ∀ d, o = some d → 0 ≤ (FI d 4).toInt := by
        intro d hd
        subst hd
        obtain ⟨a, r2, w1, w2, ⟨w3, w4, w5⟩, w6⟩ := id hw
        by_cases hm1 : (FI d 4).toInt = -1
        · exfalso
          rw [if_pos hm1] at w6
          rw [w4 hm1] at w2
          have er2 : r2 = [] := by
            cases f with
            | zero => exact w2.elim
            | succ f => exact w2
          rw [er2] at w6
          cases Z with
          | nil => exact z0 rfl
          | cons z Z =>
            -- what kind of place it is does not matter: its bytes end there
            have w6 : z.1 ++ 147 :: (lc_u 9 z.2.2.1 ++ mz_fl Z) = a ++ [] := by
              have w6 : mz_fl (z :: Z) = a ++ ([] ++ []) := w6
              exact w6
            obtain ⟨j, ej⟩ := mp_ld (z2 z (List.mem_cons_self)).1 (R := 147 :: (lc_u 9 z.2.2.1 ++ mz_fl Z)) (Or.inr ⟨_, rfl⟩)
            obtain ⟨j2, k2, ej2⟩ := w_pl_ld w1
            have a1 := ej j2
            have a2 := ej2 j
            rw [w6, show j2 + j + 1 = j + j2 + 1 by omega, a2] at a1
            have a1 := congrArg Prod.snd (Option.some.inj a1)
            cases a1
        · omega
      exact c_say_p hS hf (f + 1) g o Z [] FI FL FR hw ho z2 (by simpa using z1) (by cases Z with | nil => exact absurd rfl z0 | cons z Z => simp) hlen hE ht t1 h0 ⟨by rw [h1]; rfl, by simp, trivial⟩ h
end CSY
