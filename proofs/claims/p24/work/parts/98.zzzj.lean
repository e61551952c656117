/-! THE CLASS'S MEANINGS: places, locations. -/
/-- a location's parts as they hang together: one alone without a width, or all with one -/
def w_ls (F : Nat → Nat → Int32) (L : Nat → Nat → Int64) (R : Nat → Nat → Option Nat) (SH : Nat → Nat × Nat) : Nat → Option Nat → List Int → Prop
  | 0, _, _ => False
  | _ + 1, none, code => code = []
  | f + 1, some c, code => ∃ a r, w_pl F L R SH c a ∧ w_ls F L R SH f (R c 5) r ∧ (-1 ≤ (F c 4).toInt ∧ ((F c 4).toInt = -1 → R c 5 = none) ∧ ∀ d, R c 5 = some d → 0 ≤ (F d 4).toInt) ∧ code = a ++ ((if (F c 4).toInt = -1 then [] else 147 :: lc_u 9 (F c 4).toInt) ++ r)
/-- what meanings leave alone -/
def vz (FI : Nat → Nat → Int32) (FL : Nat → Nat → Int64) (FR : Nat → Nat → Option Nat) (F2 : Nat → Nat → Int32) (L2 : Nat → Nat → Int64) (R2 : Nat → Nat → Option Nat) : Prop := (∀ c, (c < 48 ∨ 109 < c) → F2 c = FI c ∧ L2 c = FL c ∧ R2 c = FR c) ∧ th R2 ∧ thI R2 ∧ tx R2 91 92 93
section CME
variable {n sl : Nat} {SH : Nat → Nat × Nat} {FI F2 F3 : Nat → Nat → Int32} {FL L2 L3 : Nat → Nat → Int64} {FR R2 R3 : Nat → Nat → Option Nat} {st : hS} {E : ms_E} {fb : xX} {u : Unit}
theorem w_pl_ag3 {c : Nat} {code : List Int} (h : ∀ c, 176 ≤ c → F2 c = FI c ∧ L2 c = FL c ∧ R2 c = FR c) (w : w_pl FI FL FR SH c code) : w_pl F2 L2 R2 SH c code := by
  obtain ⟨w0, w⟩ := w
  obtain ⟨e1, e2, e3⟩ := h c w0
  refine ⟨w0, ?_⟩
  rw [e1, e2, e3]
  rcases w with ⟨k, f, hf⟩ | hw | ⟨k, f, a, hf, e⟩ | ⟨k, b, bs, h1, h2, h3, h4, h5, h6⟩ | hw
  · exact Or.inl ⟨k, f, by rw [n_cd_ag3 h]; exact hf⟩
  · exact Or.inr (Or.inl hw)
  · exact Or.inr (Or.inr (Or.inl ⟨k, f, a, by rw [n_cd_ag3 h]; exact hf, e⟩))
  · exact Or.inr (Or.inr (Or.inr (Or.inl ⟨k, b, bs, h1, h2, h3, h4, fun i hi => by rw [(h b h2).1]; exact h5 i hi, h6⟩)))
  · exact Or.inr (Or.inr (Or.inr (Or.inr hw)))
theorem w_ls_ag3 (h : ∀ c, 176 ≤ c → F2 c = FI c ∧ L2 c = FL c ∧ R2 c = FR c) (hd : ∀ c d, 176 ≤ c → FR c 5 = some d → 0 ≤ (FI d 4).toInt → 0 ≤ (F2 d 4).toInt) : ∀ (f : Nat) (o : Option Nat) (code : List Int), w_ls FI FL FR SH f o code → w_ls F2 L2 R2 SH f o code := by
  intro f
  induction f with
  | zero => intro o code hw; exact hw.elim
  | succ f ih =>
    intro o code hw
    cases o with
    | none => exact hw
    | some c =>
      obtain ⟨a, r, h1, h2, ⟨h3, h5, h6⟩, h4⟩ := hw
      obtain ⟨e1, e2, e3⟩ := h c h1.1
      refine ⟨a, r, w_pl_ag3 h h1, by rw [e3]; exact ih _ _ h2, ⟨by rw [e1]; exact h3, by rw [e1, e3]; exact h5, fun d hd2 => ?_⟩, by rw [e1]; exact h4⟩
      rw [e3] at hd2
      exact hd c d h1.1 hd2 (h6 d hd2)
theorem w_ls_ge {f d : Nat} {code : List Int} (h : w_ls FI FL FR SH f (some d) code) : 176 ≤ d := by
  cases f with
  | zero => exact h.elim
  | succ f =>
    obtain ⟨a, r, h1, -⟩ := h
    exact h1.1
theorem w_ls_ag (h : ∀ c, 176 ≤ c → F2 c = FI c ∧ L2 c = FL c ∧ R2 c = FR c) : ∀ (f : Nat) (o : Option Nat) (code : List Int), w_ls FI FL FR SH f o code → w_ls F2 L2 R2 SH f o code := by
  intro f
  induction f with
  | zero => intro o code hw; exact hw.elim
  | succ f ih =>
    intro o code hw
    cases o with
    | none => exact hw
    | some c =>
      obtain ⟨a, r, h1, h2, ⟨h3, h5, h6⟩, h4⟩ := hw
      obtain ⟨e1, e2, e3⟩ := h c h1.1
      refine ⟨a, r, w_pl_ag3 h h1, by rw [e3]; exact ih _ _ h2, ⟨by rw [e1]; exact h3, by rw [e1, e3]; exact h5, fun d hd2 => ?_⟩, by rw [e1]; exact h4⟩
      rw [e3] at hd2
      rw [hd2] at h2
      rw [(h d (w_ls_ge h2)).1]
      exact h6 d hd2
theorem vz_tr (h : vz FI FL FR F2 L2 R2) (g : vz F2 L2 R2 F3 L3 R3) : vz FI FL FR F3 L3 R3 := ⟨fun c hc => ⟨(g.1 c hc).1.trans (h.1 c hc).1, (g.1 c hc).2.1.trans (h.1 c hc).2.1, (g.1 c hc).2.2.trans (h.1 c hc).2.2⟩, g.2⟩
theorem vz_dyn (h : vz FI FL FR F2 L2 R2) : ∀ c, 176 ≤ c → F2 c = FI c ∧ L2 c = FL c ∧ R2 c = FR c := fun c hc => h.1 c (by omega)
theorem tx_eq (h : tx FR 91 92 93) (e1 : R2 91 = FR 91) (e2 : R2 92 = FR 92) : tx R2 91 92 93 := by
  unfold tx
  rw [e1, e2]
  exact h
theorem vz_vk (t1 : tx FR 91 92 93) (h : vk FI FL FR F2 L2 R2) : vz FI FL FR F2 L2 R2 := ⟨fun c hc => h.1 c (by omega), h.2.2.2.2.1, h.2.2.2.2.2, tx_eq t1 (h.1 91 (by omega)).2.2 (h.1 92 (by omega)).2.2⟩
theorem cE_vz (hE : cE FI FL FR SH E) (h : vz FI FL FR F2 L2 R2) : cE F2 L2 R2 SH E := cE_fr hE rg_t (fun c hc => h.1 c (by omega))
/-- references of other cells do not matter to th, thI -/
theorem th_eq (h : th FR ∧ thI FR) (e : ∀ c, c ≠ 109 → (c < 93 ∨ 108 < c) → R2 c = FR c) : th R2 ∧ thI R2 := by
  obtain ⟨h1, h2⟩ := h
  refine ⟨?_, ?_⟩
  · unfold th at h1 ⊢
    rw [e 72 (by first | decide | (simp; done) | (simp [ms_0]; done)) (by first | decide | (simp; done) | (simp [ms_0]; done)), e 73 (by first | decide | (simp; done) | (simp [ms_0]; done)) (by first | decide | (simp; done) | (simp [ms_0]; done))]
    exact h1
  · unfold thI at h2 ⊢
    rw [e 52 (by first | decide | (simp; done) | (simp [ms_0]; done)) (by first | decide | (simp; done) | (simp [ms_0]; done)), e 53 (by first | decide | (simp; done) | (simp [ms_0]; done)) (by first | decide | (simp; done) | (simp [ms_0]; done))]
    exact h2
/-- the thing that is met -/
theorem c_bec {k : Int32} {y : Int64} {H : ms_H} (hk : k.toInt = H.1) (hy : y = H.2.1) (hok : ms_ok H) (h4 : H.1 ≠ 4) (h : RX5_become 109 k y n sl SH FI FL FR u st) : ∃ F2 L2, st = (n, sl, SH, F2, L2, FR) ∧ (∀ r, r ≠ 109 → F2 r = FI r ∧ L2 r = FL r) ∧ chd F2 L2 FR SH 109 H := by
  obtain ⟨-, e⟩ := h
  refine ⟨_, _, e, fun r hr => ⟨by rw [h_up_nc hr, h_up_nc hr, h_up_nc hr], h_up_nc hr⟩, ⟨?_, ?_, hok, fun e4 => absurd e4 h4⟩, ?_, h_up_eq⟩
  · rw [h_up_ne (by first | decide | (simp; done) | (simp [ms_0]; done)), h_up_ne (by first | decide | (simp; done) | (simp [ms_0]; done)), h_up_eq]; exact hk
  · rw [h_up_eq]; exact hy
  · rw [h_up_ne (by first | decide | (simp; done) | (simp [ms_0]; done)), h_up_eq]
/-- what meeting a place leaves -/
def me_p (n sl : Nat) (SH : Nat → Nat × Nat) (FI : Nat → Nat → Int32) (FL : Nat → Nat → Int64) (FR : Nat → Nat → Option Nat) (st : hS) (H : Int ⊕ ms_H) : Prop := ∃ F2 L2 R2, st = (n, sl, SH, F2, L2, R2) ∧ vz FI FL FR F2 L2 R2 ∧ (∀ c, 90 < c → c < 109 → F2 c = FI c ∧ L2 c = FL c ∧ R2 c = FR c) ∧ match H with
  | .inl e => (F2 90 4).toInt = e ∧ e ≠ 0
  | .inr h => (F2 90 4).toInt = 0 ∧ chd F2 L2 R2 SH 109 h
theorem c_meet {c : Nat} {code : List Int} (hS : h_S n SH) (hE : cE FI FL FR SH E) (ht : th FR ∧ thI FR) (t1 : tx FR 91 92 93) (hf : x_fb E fb) (h0 : (FI 90 4).toInt = 0) (w : w_pl FI FL FR SH c code) (hl : code.length ≤ 60000) (h : RX2_meet (some c) n sl SH FI FL FR u st) : ∃ k H, mp E fb code k H ∧ me_p n sl SH FI FL FR st H := by
  obtain ⟨w0, w⟩ := w
  -- a value
  have val : ∀ (kk : Int32) (K0 : Int) (f : Nat) (a : List Int) {v4 : Int64} {n4 sl4 n5 sl5 : Nat} {SH4 SH5 : Nat → Nat × Nat} {FI4 FI5 : Nat → Nat → Int32} {FL4 FL5 : Nat → Nat → Int64} {FR4 FR5 : Nat → Nat → Option Nat} {v5 : Unit}, kk.toInt = K0 → (K0 = 1 ∨ K0 = 3) → n_cd FI FL FR f 0 (FR c 2) 0 = some a → a.length ≤ 60000 → RX2_value_ (FR c 2) (0 : Int32) n sl SH FI FL FR v4 (n4, sl4, SH4, FI4, FL4, FR4) → RX5_become 109 kk v4 n4 sl4 SH4 FI4 FL4 FR4 v5 (n5, sl5, SH5, FI5, FL5, FR5) → st = (n5, sl5, SH5, FI5, FL5, FR5) → ∃ x, ce E fb a x ∧ me_p n sl SH FI FL FR st (xh K0 x) := by
    intro kk K0 f a v4 n4 sl4 n5 sl5 SH4 SH5 FI4 FI5 FL4 FL5 FR4 FR5 v5 ek hK hn hla hv hb es
    obtain ⟨g, hv⟩ := hv
    obtain ⟨x, x1, F2, L2, R2, y1, y2, y3⟩ := (c_val hS hf f).1 g (FR c 2) (0 : Int32) 0 FI FL FR v4 _ a hv (by first | decide | (simp; done) | (simp [ms_0]; done)) (by first | decide | (simp; done) | (simp [ms_0]; done)) (by first | decide | (simp; done) | (simp [ms_0]; done)) hn hla h0 ht hE
    first | (obtain ⟨zz1, zz2, zz3, zz4, zz5, zz6⟩ := st_c y1; (try subst zz1); (try subst zz2); (try subst zz3); (try subst zz4); (try subst zz5); (try subst zz6)) | cases y1
    refine ⟨x, x1, ?_⟩
    have v2 := vz_vk t1 y2
    have keep : ∀ {F7 : Nat → Nat → Int32} {L7 : Nat → Nat → Int64}, (∀ r, r ≠ 109 → F7 r = F2 r ∧ L7 r = L2 r) → vz FI FL FR F7 L7 R2 ∧ (∀ c, 90 < c → c < 109 → F7 c = FI c ∧ L7 c = FL c ∧ R2 c = FR c) := by
      intro F7 L7 hr
      refine ⟨⟨fun c hc => ⟨by rw [(hr c (by omega)).1]; exact (v2.1 c hc).1, by rw [(hr c (by omega)).2]; exact (v2.1 c hc).2.1, (v2.1 c hc).2.2⟩, v2.2⟩, fun c h1 h2 => ⟨by rw [(hr c (by omega)).1]; exact (y2.1 c (by omega)).1, by rw [(hr c (by omega)).2]; exact (y2.1 c (by omega)).2.1, (y2.1 c (by omega)).2.2⟩⟩
    match x, y3 with
    | .inl e, y3 =>
      obtain ⟨-, e7⟩ := hb
      cases e7
      obtain ⟨k1, k2⟩ := keep (F7 := h_up (h_up (h_up F2 109 0 kk) 109 2 ((0 : Int32))) 109 3 ((0 : Int32))) (L7 := h_up L2 109 1 v4) (fun r hr => ⟨by rw [h_up_nc hr, h_up_nc hr, h_up_nc hr], h_up_nc hr⟩)
      refine ⟨_, _, _, es, k1, k2, ?_⟩
      show ((h_up (h_up (h_up F2 109 0 kk) 109 2 ((0 : Int32))) 109 3 ((0 : Int32))) 90 4).toInt = e ∧ e ≠ 0
      rw [h_up_nc (by first | decide | (simp; done) | (simp [ms_0]; done)), h_up_nc (by first | decide | (simp; done) | (simp [ms_0]; done)), h_up_nc (by first | decide | (simp; done) | (simp [ms_0]; done))]
      exact y3
    | .inr t, y3 =>
      obtain ⟨F7, L7, e7, f7, c7⟩ := c_bec (H := (K0, t, [])) ek y3.1 (by
        rcases hK with e | e
        · exact Or.inr (Or.inl ⟨e, rfl⟩)
        · exact Or.inr (Or.inr (Or.inr (Or.inl ⟨e, rfl⟩)))) (by show K0 ≠ 4; omega) hb
      cases e7
      obtain ⟨k1, k2⟩ := keep f7
      refine ⟨_, _, _, es, k1, k2, ?_⟩
      show Int32.toInt _ = 0 ∧ chd _ _ _ SH 109 (K0, t, [])
      exact ⟨by rw [(f7 90 (by first | decide | (simp; done) | (simp [ms_0]; done))).1]; exact y3.2, c7⟩
  -- no value
  have pl : ∀ {kk : Int32} {y : Int64} {H : ms_H} {v5 : Unit} {n5 sl5 : Nat} {SH5 : Nat → Nat × Nat} {FI5 : Nat → Nat → Int32} {FL5 : Nat → Nat → Int64} {FR5 : Nat → Nat → Option Nat}, kk.toInt = H.1 → y = H.2.1 → ms_ok H → H.1 ≠ 4 → RX5_become 109 kk y n sl SH FI FL FR v5 (n5, sl5, SH5, FI5, FL5, FR5) → st = (n5, sl5, SH5, FI5, FL5, FR5) → me_p n sl SH FI FL FR st (.inr H) := by
    intro kk y H v5 n5 sl5 SH5 FI5 FL5 FR5 ek ey hok h4 hb es
    obtain ⟨F7, L7, e7, f7, c7⟩ := c_bec ek ey hok h4 hb
    cases e7
    exact ⟨_, _, _, es, ⟨fun c hc => ⟨(f7 c (by omega)).1, (f7 c (by omega)).2, rfl⟩, ht.1, ht.2, t1⟩, fun c h1 h2 => ⟨(f7 c (by omega)).1, (f7 c (by omega)).2, rfl⟩, by rw [(f7 90 (by first | decide | (simp; done) | (simp [ms_0]; done))).1]; exact h0, c7⟩
  obtain ⟨c1, e1, h⟩ := h
  cases e1
  rcases h with ⟨h13, h⟩ | ⟨h13, h⟩
  · obtain ⟨c3, e3, c4, e4, v4, n4, sl4, SH4, FI4, FL4, FR4, hv, v5, n5, sl5, SH5, FI5, FL5, FR5, hb, -, es⟩ := h
    cases e3; cases e4
    rcases w with ⟨k, f, hn⟩ | ⟨k, -⟩ | ⟨k, f, a, hn, ec⟩ | ⟨k, -⟩ | ⟨k, -⟩
    · obtain ⟨x, x1, x2⟩ := val (FI c 0) 1 f code k (Or.inl rfl) hn hl hv hb es
      exact ⟨1, _, Or.inl ⟨rfl, (n_cd_lxx f 0 _ _ _ hn).1 (by first | decide | (simp; done) | (simp [ms_0]; done)), x, x1, rfl⟩, x2⟩
    · exfalso; omega
    · obtain ⟨x, x1, x2⟩ := val (FI c 0) 3 f a k (Or.inr rfl) hn (by rw [ec, List.length_append] at hl; omega) hv hb es
      exact ⟨3, _, Or.inr (Or.inr (Or.inl ⟨rfl, a, x, (n_cd_lxx f 0 _ _ _ hn).1 (by first | decide | (simp; done) | (simp [ms_0]; done)), x1, ec, rfl⟩)), x2⟩
    · exfalso; omega
    · exfalso; omega
  rcases h with ⟨h2, h⟩ | ⟨h2, h⟩
  · obtain ⟨c8, e8, v5, n5, sl5, SH5, FI5, FL5, FR5, hb, -, es⟩ := h
    cases e8
    rcases w with ⟨k, -⟩ | ⟨-, r1, r2, ec⟩ | ⟨k, -⟩ | ⟨k, -⟩ | ⟨k, -⟩
    · exfalso; omega
    · refine ⟨2, .inr (2, Int64.ofInt (FL c 1).toInt, []), Or.inr (Or.inl ⟨rfl, (FL c 1).toInt, r1, r2, ec, rfl⟩), pl (H := (2, Int64.ofInt (FL c 1).toInt, [])) (by show ((2 : Int32)).toInt = 2; (first | decide | (simp; done) | (simp [ms_0]; done))) (l_oi _).symm ?_ (by show (2 : Int) ≠ 4; (first | decide | (simp; done) | (simp [ms_0]; done))) hb es⟩
      refine Or.inr (Or.inr (Or.inl ⟨rfl, rfl, ?_⟩))
      show 0 ≤ (Int64.ofInt (FL c 1).toInt).toInt ∧ (Int64.ofInt (FL c 1).toInt).toInt ≤ 31
      rw [l_oi]
      exact ⟨r1, r2⟩
    · exfalso; omega
    · exfalso; omega
    · exfalso; omega
  rcases h with ⟨h4, h⟩ | ⟨h4, h⟩
  · obtain ⟨c11, e11, c12, e12, h⟩ := h
    cases e11; cases e12
    rcases w with ⟨k, -⟩ | ⟨k, -⟩ | ⟨k, -⟩ | ⟨-, b, bs, b1, b2, b3, b4, b5, ec⟩ | ⟨k, -⟩
    · exfalso; omega
    · exfalso; omega
    · exfalso; omega
    · have h := P_n h (by rw [b1]; intro e; cases e)
      obtain ⟨c15, e15, c16, e16, v5, n5, sl5, SH5, FI5, FL5, FR5, hb, -, es⟩ := h
      cases e15
      rw [b1] at e16 hb
      cases e16
      obtain ⟨v6, n6, sl6, SH6, FI6, FL6, FR6, ⟨-, e6⟩, -, e7⟩ := hb
      cases e6
      cases e7
      have eL : (Int32.ofNat (SH b).2).toInt = (bs.length : Int) := by rw [b3]; exact i_lit (by omega)
      have eL2 : ((Int32.ofNat (SH b).2).toInt64) = Int64.ofInt (bs.length : Int) := Int64.toInt_inj.mp (by rw [i_2l eL, Int64.toInt_ofInt, l_bm (by omega) (by omega)])
      refine ⟨4, .inr (4, Int64.ofInt bs.length, bs.map Int32.ofInt), Or.inr (Or.inr (Or.inr (Or.inl ⟨rfl, bs, b4, ec, rfl⟩))), _, _, _, es, ⟨fun q hq => ⟨?_, ?_, ?_⟩, ?_⟩, fun q h1 h2 => ⟨?_, ?_, ?_⟩, ?_⟩
      · rw [h_up_nc (by omega), h_up_nc (by omega), h_up_nc (by omega), h_up_nc (by omega)]
      · rw [h_up_nc (by omega)]
      · rw [h_up_nc (by omega)]
      · have q := th_eq (R2 := h_up FR 109 4 (some b)) ht (fun q h1 _ => h_up_nc h1)
        exact ⟨q.1, q.2, tx_eq t1 (h_up_nc (by first | decide | (simp; done) | (simp [ms_0]; done))) (h_up_nc (by first | decide | (simp; done) | (simp [ms_0]; done)))⟩
      · rw [h_up_nc (by omega), h_up_nc (by omega), h_up_nc (by omega), h_up_nc (by omega)]
      · rw [h_up_nc (by omega)]
      · rw [h_up_nc (by omega)]
      · have f0 : ∀ k, k ≠ 0 → k ≠ 2 → k ≠ 3 → k ≠ 5 → (h_up (h_up (h_up (h_up FI 109 0 ((4 : Int32))) 109 2 ((0 : Int32))) 109 3 ((0 : Int32))) 109 5 ((0 : Int32))) 109 k = FI 109 k := fun k k0 k2 k3 k5 => by rw [h_up_ne k5, h_up_ne k3, h_up_ne k2, h_up_ne k0]
        have fb9 : (h_up (h_up (h_up (h_up FI 109 0 ((4 : Int32))) 109 2 ((0 : Int32))) 109 3 ((0 : Int32))) 109 5 ((0 : Int32))) b = FI b := by rw [h_up_nc (by omega), h_up_nc (by omega), h_up_nc (by omega), h_up_nc (by omega)]
        refine ⟨by rw [h_up_nc (by first | decide | (simp; done) | (simp [ms_0]; done)), h_up_nc (by first | decide | (simp; done) | (simp [ms_0]; done)), h_up_nc (by first | decide | (simp; done) | (simp [ms_0]; done)), h_up_nc (by first | decide | (simp; done) | (simp [ms_0]; done))]; exact h0, ⟨?_, ?_, Or.inr (Or.inr (Or.inr (Or.inr ⟨rfl, ?_⟩))), fun _ => ⟨b, 0, h_up_eq, by rw [h_up_eq]; (first | decide | (simp; done) | (simp [ms_0]; done)), ⟨⟨Nat.zero_le _, Or.inr (Or.inr b2)⟩, ?_, ?_, fun i y hy => ?_⟩⟩⟩, ?_, ?_⟩
        · rw [h_up_ne (by first | decide | (simp; done) | (simp [ms_0]; done)), h_up_ne (by first | decide | (simp; done) | (simp [ms_0]; done)), h_up_ne (by first | decide | (simp; done) | (simp [ms_0]; done)), h_up_eq]
          show ((4 : Int32)).toInt = 4
          decide
        · rw [h_up_eq]
          exact eL2
        · show (Int64.ofInt (bs.length : Int)).toInt = ((bs.map Int32.ofInt).length : Int)
          rw [List.length_map, Int64.toInt_ofInt, l_bm (by omega) (by omega)]
        · show 0 + (bs.map Int32.ofInt).length ≤ (SH b).2
          rw [List.length_map, b3]
          omega
        · rw [b3]
          omega
        · have hy : (bs.map Int32.ofInt)[i]? = some y := hy
          rw [List.getElem?_map] at hy
          cases hb : bs[i]? with
          | none => rw [hb] at hy; cases hy
          | some b0 =>
            rw [hb] at hy
            have hy : Int32.ofInt b0 = y := Option.some.inj hy
            have hi := (List.getElem?_eq_some_iff.mp hb).1
            obtain ⟨z1, z2, z3⟩ := b5 i hi
            have eg : bs.getD i 0 = b0 := by rw [List.getD_eq_getElem?_getD, hb]; rfl
            rw [eg] at z1 z2 z3
            have ey : y.toInt = b0 := by rw [← hy, Int32.toInt_ofInt, i_bm (by omega) (by omega)]
            rw [Nat.zero_add, fb9]
            exact ⟨i_eqv (by rw [z1, ey]), by omega, by omega⟩
        · rw [h_up_ne (by first | decide | (simp; done) | (simp [ms_0]; done)), h_up_ne (by first | decide | (simp; done) | (simp [ms_0]; done)), h_up_eq]
        · rw [h_up_ne (by first | decide | (simp; done) | (simp [ms_0]; done)), h_up_eq]
    · exfalso; omega
  · obtain ⟨v5, n5, sl5, SH5, FI5, FL5, FR5, hb, -, es⟩ := h
    rcases w with ⟨k, -⟩ | ⟨k, -⟩ | ⟨k, -⟩ | ⟨k, -⟩ | ⟨-, ec⟩
    · exfalso; omega
    · exfalso; omega
    · exfalso; omega
    · exfalso; omega
    · exact ⟨0, .inr ms_0, Or.inr (Or.inr (Or.inr (Or.inr ⟨rfl, ec, rfl⟩))), pl (H := ms_0) (by show ((0 : Int32)).toInt = 0; (first | decide | (simp; done) | (simp [ms_0]; done))) rfl (Or.inl ⟨rfl, rfl⟩) (by show (0 : Int) ≠ 4; (first | decide | (simp; done) | (simp [ms_0]; done))) hb es⟩
end CME
