/-! THE CLASS'S fetch. -/
section CFE
variable {n sl : Nat} {SH : Nat → Nat × Nat} {FL : Nat → Nat → Int64} {FR : Nat → Nat → Option Nat} {st : hS} {E : ms_E} {v : Int32} {Q : ms_Q}
theorem cE_20 {FI F2 : Nat → Nat → Int32} (hE : cE FI FL FR SH E) (h : ∀ c, c ≠ 20 → F2 c = FI c) : cE F2 FL FR SH E := by
  obtain ⟨h1, h2, h3, h4, h5, h6, h7, h8⟩ := hE
  refine ⟨h1, by rw [h 25 (by first | decide | (simp; done) | (simp [ms_0]; done))]; exact h2, fun k hk => ?_, by rw [h 23 (by first | decide | (simp; done) | (simp [ms_0]; done))]; exact h4, by rw [h 23 (by first | decide | (simp; done) | (simp [ms_0]; done))]; exact h5, h6, by rw [h 23 (by first | decide | (simp; done) | (simp [ms_0]; done))]; exact h7, by rw [h 23 (by first | decide | (simp; done) | (simp [ms_0]; done))]; exact h8⟩
  obtain ⟨r, r1, r2, r3, r4⟩ := h3 k hk
  exact ⟨r, r1, r2, r3, bk_fr r4 (h r (by have := r4.1.2; omega))⟩
theorem cE_mem {FI : Nat → Nat → Int32} (hE : cE FI FL FR SH E) : rE_mem E := fun a ha => (hE.2.1 a ha).2
theorem cq_20 {FI F2 : Nat → Nat → Int32} {q : Nat} {p : ms_P} (hc : cq FI FL FR SH q p) (hq : q ≠ 20) (h : ∀ c, c ≠ 20 → F2 c = FI c) : cq F2 FL FR SH q p := cq_fr hc (fun r hr => h r (by have := hr.2; omega)) (h q hq) rfl rfl
theorem c_fe88 {Kn : Int32 → Int32 → Int32 → Nat → Nat → (Nat → Nat × Nat) → (Nat → Nat → Int32) → (Nat → Nat → Int64) → (Nat → Nat → Option Nat) → Int32 → hS → Prop} {a1 l4 l6 : Int32} {N B q : Nat} {p : ms_P} (hS : h_S n SH) (hN : a1.toInt = N) (hN2 : N ≤ 512) (h6 : l6.toInt = B) (hB : B ≤ 4096) (hq : 3 ≤ q ∧ q ≤ 18) : ∀ (g i k : Nat) (s : (Nat → Int32) × Nat) (l2 l3 l7 : Int32) (FI : Nat → Nat → Int32), l7.toInt = i → i ≤ B → l3.toInt = k → k ≤ N → l2.toInt = s.2 → s.2 ≤ k → cE FI FL FR SH E → cq FI FL FR SH q p → (∀ x, x < 64 → FI 20 x = s.1 x) → GX11_fetch_88 Kn a1 g l2 l3 l4 (some q) l6 l7 n sl SH FI FL FR v st → ∃ k2 s2 l2' l3' F2, k2 ≤ N ∧ (∀ rest, fe E N (pl_1 p (B - i) i ++ rest) k s = fe E N rest k2 s2) ∧ l3'.toInt = ((k2 : Nat) : Int) ∧ l2'.toInt = ((s2.2 : Nat) : Int) ∧ s2.2 ≤ k2 ∧ (∀ c, c ≠ 20 → F2 c = FI c) ∧ (∀ x, x < 64 → F2 20 x = s2.1 x) ∧ Kn l2' l3' (l4 + (1 : Int32)) n sl SH F2 FL FR v st := by
  intro g
  induction g with
  | zero => intro i k s l2 l3 l7 FI _ _ _ _ _ _ _ _ _ h; exact h.elim
  | succ g ih =>
    intro i k s l2 l3 l7 FI h7 hi h3 hk h2 hsk hE hc ho h
    rcases h with ⟨b1, h⟩ | ⟨b1, h⟩
    · rw [h7, h6] at b1
      rw [show (l3.toInt < a1.toInt) = ((k : Int) < (N : Int)) by rw [h3, hN]] at h
      rcases h with ⟨b2, h⟩ | ⟨b2, h⟩
      · obtain ⟨c3, e3, v3, n3, sl3, SH3, FI3, FL3, FR3, hb, h⟩ := h
        cases e3
        obtain ⟨c1, c2, c3, c4, c5, c6, c7⟩ := id hc
        have ei : (FI q 3 + l7).toInt = ((p.2.2.toNat + i : Nat) : Int) := by
          rw [i_add c3 h7 (by omega) (by omega)]
          omega
        obtain ⟨y1, y2⟩ := c_bitOf hS hE c1 ei (by omega) hb
        cases y1
        have n7 : (l7 + (1 : Int32)).toInt = ((i + 1 : Nat) : Int) := by
          rw [i_add h7 (by first | decide | (simp; done) | (simp [ms_0]; done) : ((1 : Int32)).toInt = 1) (by omega) (by omega)]
          omega
        have n3 : (l3 + (1 : Int32)).toInt = ((k + 1 : Nat) : Int) := by
          rw [i_add h3 (by first | decide | (simp; done) | (simp [ms_0]; done) : ((1 : Int32)).toInt = 1) (by omega) (by omega)]
          omega
        have el : ∀ rest, fe E N (pl_1 p (B - i) i ++ rest) k s = fe E N (pl_1 p (B - (i + 1)) (i + 1) ++ rest) (k + 1) (fe_st E k (p, i) s) := fun rest => by
          rw [show B - i = (B - (i + 1)) + 1 by omega, pl_1]
          show fe E N ((p, i) :: (pl_1 p (B - (i + 1)) (i + 1) ++ rest)) k s = _
          rw [fe, if_pos (by omega)]
        have step : ∀ (F3 : Nat → Nat → Int32) (l2' : Int32) (s' : (Nat → Int32) × Nat), fe_st E k (p, i) s = s' → l2'.toInt = s'.2 → s'.2 ≤ k + 1 → (∀ c, c ≠ 20 → F3 c = FI c) → (∀ x, x < 64 → F3 20 x = s'.1 x) → GX11_fetch_88 Kn a1 g l2' (l3 + (1 : Int32)) l4 (some q) l6 (l7 + (1 : Int32)) n sl SH F3 FL FR v st → ∃ k2 s2 l2' l3' F2, k2 ≤ N ∧ (∀ rest, fe E N (pl_1 p (B - i) i ++ rest) k s = fe E N rest k2 s2) ∧ l3'.toInt = ((k2 : Nat) : Int) ∧ l2'.toInt = ((s2.2 : Nat) : Int) ∧ s2.2 ≤ k2 ∧ (∀ c, c ≠ 20 → F2 c = FI c) ∧ (∀ x, x < 64 → F2 20 x = s2.1 x) ∧ Kn l2' l3' (l4 + (1 : Int32)) n sl SH F2 FL FR v st := by
          intro F3 l2' s' es hl2 hs2 f1 f2 h
          obtain ⟨k2, s2, l2'', l3'', F2, z1, z2, z3, z4, z5, z6, z7, z8⟩ := ih (i + 1) (k + 1) s' l2' (l3 + (1 : Int32)) (l7 + (1 : Int32)) F3 n7 (by omega) n3 (by omega) hl2 hs2 (cE_20 hE f1) (cq_20 hc (by omega) f1) f2 h
          exact ⟨k2, s2, l2'', l3'', F2, z1, fun rest => by rw [el rest, es]; exact z2 rest, z3, z4, z5, fun c hc => by rw [z6 c hc, f1 c hc], z7, z8⟩
        cases hbt : ms_bq E p.1 (p.2.2.toNat + i) with
        | none =>
          rw [hbt] at y2
          have h := P_p h (by rw [y2]; rfl)
          refine step FI l2 s ?_ h2 (by omega) (fun _ _ => rfl) ho h
          unfold fe_st
          (try dsimp only)
          rw [hbt]
        | some b =>
          rw [hbt] at y2
          have y2 : v3 = b := y2
          have h01 : b = 0 ∨ b = 1 := by
            refine ms_bq_01 (cE_mem hE) (fun kk x hx => ?_) hbt
            by_cases k4 : p.1.1 = 4
            · exact ct_by c1 k4 kk x hx
            · exfalso
              have hnil : p.1.2.2 = [] := by
                rcases c1.2.2.1 with q | q | q | q | q
                · rw [q.2]; rfl
                · exact q.2
                · exact q.2.1
                · exact q.2
                · exact absurd q.1 k4
              rw [hnil] at hx
              simp at hx
          have h := P_n h (by
            rw [y2]
            rcases h01 with e | e
            · rw [e]; (first | decide | (simp; done) | (simp [ms_0]; done))
            · rw [e]; (first | decide | (simp; done) | (simp [ms_0]; done)))
          obtain ⟨-, -, -, -, h⟩ := h
          obtain ⟨d1, d2, d3⟩ := q_i8 h3 (by omega)
          rw [show (l3 / (8 : Int32)).toInt.toNat = k / 8 by omega, d2, y2] at h
          refine step _ (l2 + (1 : Int32)) (va_up s.1 (k / 8) (s.1 (k / 8) ||| (b <<< Int32.ofNat (k % 8))), s.2 + 1) ?_ ?_ (by show s.2 + 1 ≤ k + 1; omega) (fun c hc => h_up_nc hc) (fun x hx => ?_) h
          · unfold fe_st
            (try dsimp only)
            rw [hbt]
          · rw [i_add h2 (by first | decide | (simp; done) | (simp [ms_0]; done) : ((1 : Int32)).toInt = 1) (by omega) (by omega)]
            show (s.2 : Int) + 1 = ((s.2 + 1 : Nat) : Int)
            omega
          · show h_up FI 20 (k / 8) (FI 20 (k / 8) ||| b <<< Int32.ofNat (k % 8)) 20 x = va_up s.1 (k / 8) (s.1 (k / 8) ||| (b <<< Int32.ofNat (k % 8))) x
            by_cases ex : x = k / 8
            · subst ex
              rw [h_up_eq, va_s, ho _ hx]
            · rw [h_up_ne ex, va_o ex]
              exact ho x hx
      · exact ⟨k, s, l2, l3, FI, hk, fun rest => by rw [fe_n (by omega), fe_n (by omega)], h3, h2, hsk, fun _ _ => rfl, ho, h⟩
    · rw [h7, h6] at b1
      refine ⟨k, s, l2, l3, FI, hk, fun rest => ?_, h3, h2, hsk, fun _ _ => rfl, ho, h⟩
      rw [show B - i = 0 by omega]
      rfl
theorem cq_at {FI : Nat → Nat → Int32} {j : Nat} {p : ms_P} (h : crx FI FL FR SH 1 3 Q) (hp : Q.2.reverse[j]? = some p) : cq FI FL FR SH (3 + j) p ∧ j < Q.2.length := by
  have hl : j < Q.2.length := by
    have := (List.getElem?_eq_some_iff.mp hp).1
    rw [List.length_reverse] at this
    exact this
  rw [List.getElem?_reverse hl] at hp
  have := lv_get h.2.2.2.2 hp
  rw [show Q.2.length - 1 - (Q.2.length - 1 - j) = j by omega] at this
  exact ⟨this, hl⟩
theorem crx_20 {FI F2 : Nat → Nat → Int32} (h : crx FI FL FR SH 1 3 Q) (f : ∀ c, c ≠ 20 → F2 c = FI c) : crx F2 FL FR SH 1 3 Q := crx_fr h (fun r hr => f r (by have := hr.2; omega)) (f 1 (by first | decide | (simp; done) | (simp [ms_0]; done))) (fun i hi => ⟨f (3 + i) (by omega), rfl, rfl⟩)
theorem c_fe40 {a1 : Int32} {N : Nat} (hS : h_S n SH) (t1 : tx FR 1 2 3) (hN : a1.toInt = N) (hN2 : N ≤ 512) : ∀ (g j k : Nat) (s : (Nat → Int32) × Nat) (l2 l3 l4 : Int32) (FI : Nat → Nat → Int32), l4.toInt = j → j ≤ Q.2.length → l3.toInt = k → k ≤ N → l2.toInt = s.2 → s.2 ≤ k → cE FI FL FR SH E → crx FI FL FR SH 1 3 Q → (∀ x, x < 64 → FI 20 x = s.1 x) → GX11_fetch_40 a1 g l2 l3 l4 n sl SH FI FL FR v st → v.toInt = (fe E N (pl_f (pl_B Q.1 N) (Q.2.reverse.drop j)) k s).2 ∧ ∃ F2, st = (n, sl, SH, F2, FL, FR) ∧ (∀ c, c ≠ 20 → F2 c = FI c) ∧ (∀ x, x < 64 → F2 20 x = (fe E N (pl_f (pl_B Q.1 N) (Q.2.reverse.drop j)) k s).1 x) := by
  intro g
  induction g with
  | zero => intro j k s l2 l3 l4 FI _ _ _ _ _ _ _ _ _ h; exact h.elim
  | succ g ih =>
    intro j k s l2 l3 l4 FI h4 hj h3 hk h2 hsk hE hQ ho h
    have hn := crx_n hQ
    have h16 := hQ.2.2.1
    rcases h with ⟨b1, -, h⟩ | ⟨b1, e1, e⟩
    · rw [h4, hn] at b1
      obtain ⟨p, hp⟩ := lx_i (L := Q.2.reverse) (i := j) (by rw [List.length_reverse]; omega)
      obtain ⟨hc, hjl⟩ := cq_at hQ hp
      have er : FR 2 l4.toInt.toNat = some (3 + j) := by
        rw [show l4.toInt.toNat = j by omega]
        exact t1.2 j (by omega)
      have el : pl_f (pl_B Q.1 N) (Q.2.reverse.drop j) = pl_1 p (pl_B Q.1 N p - 0) 0 ++ pl_f (pl_B Q.1 N) (Q.2.reverse.drop (j + 1)) := by
        rw [pl_f_r]
        unfold pl_r
        rw [hp]
      have nj : (l4 + (1 : Int32)).toInt = ((j + 1 : Nat) : Int) := by
        rw [i_add h4 (by first | decide | (simp; done) | (simp [ms_0]; done) : ((1 : Int32)).toInt = 1) (by omega) (by omega)]
        omega
      have go : ∀ l6 : Int32, l6.toInt = ((pl_B Q.1 N p : Nat) : Int) → pl_B Q.1 N p ≤ 4096 → RX11_fetch_88 (GX11_fetch_40 a1 g) a1 l2 l3 l4 (FR 2 l4.toInt.toNat) l6 ((0 : Int32)) n sl SH FI FL FR v st → v.toInt = (fe E N (pl_f (pl_B Q.1 N) (Q.2.reverse.drop j)) k s).2 ∧ ∃ F2, st = (n, sl, SH, F2, FL, FR) ∧ (∀ c, c ≠ 20 → F2 c = FI c) ∧ (∀ x, x < 64 → F2 20 x = (fe E N (pl_f (pl_B Q.1 N) (Q.2.reverse.drop j)) k s).1 x) := by
        intro l6 h6 hB h
        obtain ⟨g2, h⟩ := h
        rw [er] at h
        obtain ⟨k2, s2, l2', l3', F2, z1, z2, z3, z4, z5, z6, z7, z8⟩ := c_fe88 (E := E) hS hN hN2 h6 hB (by omega) g2 0 k s l2 l3 0 FI (by first | decide | (simp; done) | (simp [ms_0]; done)) (by omega) h3 hk h2 hsk hE hc ho h
        rw [el, z2]
        obtain ⟨y1, F3, y2, y3, y4⟩ := ih (j + 1) k2 s2 l2' l3' (l4 + (1 : Int32)) F2 nj (by omega) z3 z1 z4 z5 (cE_20 hE z6) (crx_20 hQ z6) z7 z8
        exact ⟨y1, F3, y2, fun c hc => by rw [y3 c hc, z6 c hc], y4⟩
      rcases h with ⟨b2, h⟩ | ⟨b2, c4, e4, h⟩
      · have hf : Q.1 = false := by
          cases e : Q.1 with
          | false => rfl
          | true => have := hQ.2.1 e; exfalso; omega
        have eB : pl_B Q.1 N p = N := by unfold pl_B; rw [hf, if_neg (by first | decide | (simp; done) | (simp [ms_0]; done))]
        exact go a1 (by rw [eB]; exact hN) (by rw [eB]; omega) h
      · have ht : Q.1 = true := by
          cases e : Q.1 with
          | true => rfl
          | false => exact absurd (hQ.1 e) b2
        have eB : pl_B Q.1 N p = p.2.1.toNat := by unfold pl_B; rw [ht, if_pos rfl]
        rw [er] at e4
        cases e4
        obtain ⟨c1, c2, c3, c5, c6, c7, c8⟩ := hc
        exact go (FI (3 + j) 2) (by rw [eB, c2]; omega) (by rw [eB]; omega) h
    · rw [h4, hn] at b1
      have ej : j = Q.2.length := by omega
      rw [List.drop_eq_nil_of_le (by rw [List.length_reverse]; omega)]
      exact ⟨by rw [e1]; exact h2, FI, e, fun _ _ => rfl, ho⟩
/-- Arrays.fill -/
theorem c_fill {c z : Nat} {a2 : Int32} {u : Unit} (hz : (SH c).2 = z) (hz2 : z ≤ 100000) : ∀ (g i : Nat) (l2 l3 : Int32) (FI : Nat → Nat → Int32), l2.toInt = i → l3.toInt = z → i ≤ z → (∀ x, x < i → FI c x = a2) → GJ7_fill_53178_5 (some c) a2 g l2 l3 n sl SH FI FL FR u st → ∃ F2, st = (n, sl, SH, F2, FL, FR) ∧ (∀ d, d ≠ c → F2 d = FI d) ∧ (∀ x, x < z → F2 c x = a2) := by
  intro g
  induction g with
  | zero => intro i l2 l3 FI _ _ _ _ h; exact h.elim
  | succ g ih =>
    intro i l2 l3 FI h2 h3 hi hd h
    rcases h with ⟨b1, c2, e2, -, h⟩ | ⟨b1, -, e⟩
    · rw [h2, h3] at b1
      cases e2
      rw [show l2.toInt.toNat = i by omega] at h
      obtain ⟨F2, y1, y2, y3⟩ := ih (i + 1) (l2 + (1 : Int32)) l3 _ (by rw [i_add h2 (by first | decide | (simp; done) | (simp [ms_0]; done) : ((1 : Int32)).toInt = 1) (by omega) (by omega)]; omega) h3 (by omega) (fun x hx => by
        by_cases e : x = i
        · subst e; exact h_up_eq
        · rw [h_up_ne e]; exact hd x (by omega)) h
      exact ⟨F2, y1, fun d hd => by rw [y2 d hd, h_up_nc hd], y3⟩
    · rw [h2, h3] at b1
      exact ⟨FI, e, fun _ _ => rfl, fun x hx => hd x (by omega)⟩
theorem c_fetch {a1 : Int32} {N : Nat} {FI : Nat → Nat → Int32} (hS : h_S n SH) (t1 : tx FR 1 2 3) (hN : a1.toInt = N) (h1 : 1 ≤ N) (hN2 : N ≤ 512) (hE : cE FI FL FR SH E) (hQ : crx FI FL FR SH 1 3 Q) (h : RX11_fetch a1 n sl SH FI FL FR v st) : v.toInt = (fe E N (pl_Q N Q) 0 (fun _ => 0, 0)).2 ∧ ∃ F2, st = (n, sl, SH, F2, FL, FR) ∧ (∀ c, c ≠ 0 → c ≠ 20 → F2 c = FI c) ∧ (∀ k, k ≠ 10 → F2 0 k = FI 0 k) ∧ (F2 0 10).toInt = (((N + 7) / 8 : Nat) : Int) ∧ (∀ x, x < (N + 7) / 8 → F2 20 x = (fe E N (pl_Q N Q) 0 (fun _ => 0, 0)).1 x) := by
  have h := P_n h (by rw [hN, show ((1 : Int32)).toInt = 1 by first | decide | (simp; done) | (simp [ms_0]; done)]; omega)
  have h := P_n h (by rw [hN, show ((512 : Int32)).toInt = 512 by first | decide | (simp; done) | (simp [ms_0]; done)]; omega)
  obtain ⟨v2, n2, sl2, SH2, FI2, FL2, FR2, hf, -, g, h⟩ := h
  obtain ⟨c1, e1, g2, hf⟩ := hf
  cases e1
  have hz : (SH 20).2 = 64 := by rw [s20 hS]
  obtain ⟨F2, y1, y2, y3⟩ := c_fill hz (by first | decide | (simp; done) | (simp [ms_0]; done)) g2 0 0 _ FI (by first | decide | (simp; done) | (simp [ms_0]; done)) (by rw [hz]; (first | decide | (simp; done) | (simp [ms_0]; done))) (by omega) (fun x hx => by omega) hf
  first | (obtain ⟨zz1, zz2, zz3, zz4, zz5, zz6⟩ := st_c y1; (try subst zz1); (try subst zz2); (try subst zz3); (try subst zz4); (try subst zz5); (try subst zz6)) | cases y1
  have e7 : ((a1 + (7 : Int32)) / (8 : Int32)).toInt = (((N + 7) / 8 : Nat) : Int) := by
    rw [i_div (i_add hN (by first | decide | (simp; done) | (simp [ms_0]; done) : ((7 : Int32)).toInt = 7) (by omega) (by omega)) (by first | decide | (simp; done) | (simp [ms_0]; done) : ((8 : Int32)).toInt = 8) (by omega) (by first | decide | (simp; done) | (simp [ms_0]; done))]
    omega
  have F0 : ∀ c, c ≠ 0 → c ≠ 20 → (h_up F2 0 10 ((a1 + (7 : Int32)) / (8 : Int32))) c = FI c := fun c c1 c2 => by rw [h_up_nc c1, y2 c c2]
  have hE2 : cE (h_up F2 0 10 ((a1 + (7 : Int32)) / (8 : Int32))) FL FR SH E := by
    obtain ⟨h1, h2, h3, h4, h5, h6, h7, h8⟩ := hE
    refine ⟨h1, by rw [F0 25 (by first | decide | (simp; done) | (simp [ms_0]; done)) (by first | decide | (simp; done) | (simp [ms_0]; done))]; exact h2, fun k hk => ?_, by rw [F0 23 (by first | decide | (simp; done) | (simp [ms_0]; done)) (by first | decide | (simp; done) | (simp [ms_0]; done))]; exact h4, by rw [F0 23 (by first | decide | (simp; done) | (simp [ms_0]; done)) (by first | decide | (simp; done) | (simp [ms_0]; done))]; exact h5, h6, by rw [F0 23 (by first | decide | (simp; done) | (simp [ms_0]; done)) (by first | decide | (simp; done) | (simp [ms_0]; done))]; exact h7, by rw [F0 23 (by first | decide | (simp; done) | (simp [ms_0]; done)) (by first | decide | (simp; done) | (simp [ms_0]; done))]; exact h8⟩
    obtain ⟨r, r1, r2, r3, r4⟩ := h3 k hk
    exact ⟨r, r1, r2, r3, bk_fr r4 (F0 r (by have := r4.1.2; omega) (by have := r4.1.2; omega))⟩
  have hQ2 : crx (h_up F2 0 10 ((a1 + (7 : Int32)) / (8 : Int32))) FL FR SH 1 3 Q := crx_fr hQ (fun r hr => F0 r (by have := hr.2; omega) (by have := hr.2; omega)) (F0 1 (by first | decide | (simp; done) | (simp [ms_0]; done)) (by first | decide | (simp; done) | (simp [ms_0]; done))) (fun i hi => ⟨F0 (3 + i) (by omega) (by omega), rfl, rfl⟩)
  obtain ⟨z1, F4, z2, z3, z4⟩ := c_fe40 (E := E) (Q := Q) hS t1 hN hN2 g 0 0 (fun _ => 0, 0) 0 0 0 _ (by first | decide | (simp; done) | (simp [ms_0]; done)) (by omega) (by first | decide | (simp; done) | (simp [ms_0]; done)) (by omega) (by first | decide | (simp; done) | (simp [ms_0]; done)) (by first | decide | (simp; done) | (simp [ms_0]; done)) hE2 hQ2 (fun x hx => by rw [h_up_nc (by first | decide | (simp; done) | (simp [ms_0]; done))]; exact y3 x hx) h
  refine ⟨z1, F4, z2, fun c c1 c2 => by rw [z3 c c2, F0 c c1 c2], fun k hk => by rw [z3 0 (by first | decide | (simp; done) | (simp [ms_0]; done)), h_up_ne hk, y2 0 (by first | decide | (simp; done) | (simp [ms_0]; done))], ?_, fun x hx => z4 x (by omega)⟩
  rw [z3 0 (by first | decide | (simp; done) | (simp [ms_0]; done)), h_up_eq]
  exact e7
end CFE
