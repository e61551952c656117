/-! THE REFERENCE'S means. -/
theorem lp_rw_pos {K W : Nat → Int} {f : Nat} : ∀ (g m t t2 m2 : Nat) (c : List Int) (b : Bool), lp_rw K W f g m t = some (t2, m2, c, b) → m < m2 := by
  intro g
  induction g with
  | zero => intro m t t2 m2 c b h; cases h
  | succ g ih =>
    intro m t t2 m2 c b h
    rw [lp_rw] at h
    by_cases h1 : K t = 3 ∧ m < 8 ∧ K (t + 1) = 5 ∧ W (t + 1) = 256 ∧ K (t + 2) = 3 ∧ W t < W (t + 2) ∧ K (t + 3) = 5 ∧ W (t + 3) = 58
    · rw [if_pos h1] at h
      cases hl : lp_lc K W f (t + 4) with
      | none => rw [hl] at h; cases h
      | some p =>
        obtain ⟨t1, c1⟩ := p
        rw [hl] at h
        (try dsimp only at h)
        by_cases h2 : K t1 = 5 ∧ W t1 = 44
        · rw [if_pos h2] at h
          cases hr : lp_rw K W f g (m + 1) (t1 + 1) with
          | none => rw [hr] at h; cases h
          | some p2 =>
            obtain ⟨t3, m3, c3, b3⟩ := p2
            rw [hr] at h
            cases h
            have := ih _ _ _ _ _ _ hr
            omega
        · rw [if_neg h2] at h
          cases h
          omega
    · rw [if_neg h1] at h; cases h
/-- the rows that tokens tell -/
theorem lp_rw_Q {K W : Nat → Int} {f : Nat} (hg : tk_rg K W) : ∀ (g m t t2 m2 : Nat) (c : List Int) (b : Bool), lp_rw K W f g m t = some (t2, m2, c, b) → c.length ≤ 60000 → ∃ Q : List r_Q, m2 = m + Q.length ∧ 1 ≤ Q.length ∧ c = rw_fl Q ∧ (∀ q, q ∈ Q → 0 ≤ q.1 ∧ q.1 ≤ 9223372036854775807 ∧ 0 ≤ q.2.1 ∧ q.2.1 ≤ 9223372036854775807 ∧ q.2.2.length ≤ 60000) := by
  intro g
  induction g with
  | zero => intro m t t2 m2 c b h; cases h
  | succ g ih =>
    intro m t t2 m2 c b h hlen
    rw [lp_rw] at h
    by_cases h1 : K t = 3 ∧ m < 8 ∧ K (t + 1) = 5 ∧ W (t + 1) = 256 ∧ K (t + 2) = 3 ∧ W t < W (t + 2) ∧ K (t + 3) = 5 ∧ W (t + 3) = 58
    · rw [if_pos h1] at h
      have w0 := (hg t).1 h1.1
      have w2 := (hg (t + 2)).1 h1.2.2.2.2.1
      cases hl : lp_lc K W f (t + 4) with
      | none => rw [hl] at h; cases h
      | some p =>
        obtain ⟨t1, c1⟩ := p
        rw [hl] at h
        (try dsimp only at h)
        by_cases h2 : K t1 = 5 ∧ W t1 = 44
        · rw [if_pos h2] at h
          cases hr : lp_rw K W f g (m + 1) (t1 + 1) with
          | none => rw [hr] at h; cases h
          | some p2 =>
            obtain ⟨t3, m3, c3, b3⟩ := p2
            rw [hr] at h
            cases h
            simp only [List.length_append] at hlen
            obtain ⟨Q, q1, q2, q3, q4⟩ := ih _ _ _ _ _ _ hr (by omega)
            refine ⟨(W t, W (t + 2), c1) :: Q, by simp only [List.length_cons]; omega, by simp only [List.length_cons]; omega, by rw [rw_fl_c, q3], fun q hq => ?_⟩
            rcases List.mem_cons.mp hq with hq | hq
            · rw [hq]
              exact ⟨w0.1, by show W t ≤ 9223372036854775807; omega, w2.1, by show W (t + 2) ≤ 9223372036854775807; omega, by show c1.length ≤ 60000; omega⟩
            · exact q4 q hq
        · rw [if_neg h2] at h
          cases h
          simp only [List.length_append] at hlen
          refine ⟨[(W t, W (t + 2), c1)], by simp only [List.length_cons, List.length_nil], by first | decide | (simp; done) | (simp [ms_0]; done), by rw [rw_fl_c]; show _ = _ ++ (_ ++ (_ ++ (c1 ++ []))); rw [List.append_nil], fun q hq => ?_⟩
          rw [List.mem_singleton.mp hq]
          exact ⟨w0.1, by show W t ≤ 9223372036854775807; omega, w2.1, by show W (t + 2) ≤ 9223372036854775807; omega, by show c1.length ≤ 60000; omega⟩
    · rw [if_neg h1] at h; cases h
section MN
variable {n sl : Nat} {SH : Nat → Nat × Nat} {FR : Nat → Nat → Option Nat} {st : hS} {E : ms_E} {fb : xX} {K W : Nat → Int} {T : Nat} {v : Int32}
/-- the bytes of a block, to the result -/
theorem mo_306 {Kn : Int32 → Nat → Nat → (Nat → Nat × Nat) → (Nat → Nat → Int32) → (Nat → Nat → Int64) → (Nat → Nat → Option Nat) → Int32 → hS → Prop} {a1 : Int32} {a2 : Int64} {l4 : Int32} {kk : Nat} {B : List Int32} {FL : Nat → Nat → Int64} (h4 : l4.toInt = kk) (hk : kk < 8) (hB : B.length ≤ 64) (hv : (FL 170 kk).toInt = B.length) : ∀ (g j : Nat) (l5 : Int32) (FI : Nat → Nat → Int32), l5.toInt = j → j ≤ B.length → (∀ i b, B[i]? = some b → FI 172 (64 * kk + i) = b) → (∀ i b, i < j → B[i]? = some b → FI 147 (600 * kk + i) = b) → GX12_means_306 Kn a1 a2 g l4 l5 n sl SH FI FL FR v st → ∃ F2, Kn (l4 + (1 : Int32)) n sl SH F2 FL FR v st ∧ (∀ c, c ≠ 147 → F2 c = FI c) ∧ (∀ m, m < 600 * kk ∨ 600 * kk + 600 ≤ m → F2 147 m = FI 147 m) ∧ (∀ i b, B[i]? = some b → F2 147 (600 * kk + i) = b) := by
  intro g
  induction g with
  | zero => intro j l5 FI _ _ _ _ h; exact h.elim
  | succ g ih =>
    intro j l5 FI h5 hj hs hd h
    obtain ⟨-, h⟩ := h
    rw [show l4.toInt.toNat = kk by omega, i_2l h5, hv] at h
    rcases h with ⟨h0, -, -, h⟩ | ⟨h0, h⟩
    · have e1 : ((64 : Int32) * l4 + l5).toInt = ((64 * kk + j : Nat) : Int) := by
        rw [i_add (i_mul (by first | decide | (simp; done) | (simp [ms_0]; done) : ((64 : Int32)).toInt = 64) h4 (by omega) (by omega)) h5 (by omega) (by omega)]
        omega
      have e2 : ((600 : Int32) * l4 + l5).toInt = ((600 * kk + j : Nat) : Int) := by
        rw [i_add (i_mul (by first | decide | (simp; done) | (simp [ms_0]; done) : ((600 : Int32)).toInt = 600) h4 (by omega) (by omega)) h5 (by omega) (by omega)]
        omega
      obtain ⟨b, hb⟩ := ms_ex_i (bs := B) (i := j) (by omega)
      rw [show ((64 : Int32) * l4 + l5).toInt.toNat = 64 * kk + j by omega, show ((600 : Int32) * l4 + l5).toInt.toNat = 600 * kk + j by omega, hs j b hb] at h
      obtain ⟨F2, q1, q2, q3, q4⟩ := ih (j + 1) (l5 + (1 : Int32)) _ (by rw [i_add h5 (by first | decide | (simp; done) | (simp [ms_0]; done) : ((1 : Int32)).toInt = 1) (by omega) (by omega)]; omega) (by omega) (fun i b9 hb9 => by rw [h_up_nc (by first | decide | (simp; done) | (simp [ms_0]; done))]; exact hs i b9 hb9) (fun i b9 hi hb9 => by
        by_cases ei : i = j
        · subst ei
          rw [h_up_eq]
          rw [hb] at hb9
          exact Option.some.inj hb9
        · rw [h_up_ne (by omega)]
          exact hd i b9 (by omega) hb9) h
      exact ⟨F2, q1, fun c hc => by rw [q2 c hc, h_up_nc hc], fun m hm => by rw [q3 m hm, h_up_ne (by omega)], q4⟩
    · refine ⟨FI, h, fun _ _ => rfl, fun _ _ => rfl, fun i b hb => hd i b ?_ hb⟩
      have := (List.getElem?_eq_some_iff.mp hb).1
      omega
theorem lv_all {α : Type} {P : Nat → α → Prop} : ∀ {L : List α}, (∀ j x, j < L.length → L[L.length - 1 - j]? = some x → P j x) → lv P L
  | [], _ => trivial
  | x :: r, h => by
    refine ⟨h r.length x (by simp) (by simp), lv_all (fun j y hj hy => h j y (by simp only [List.length_cons]; omega) ?_)⟩
    rw [List.length_cons, show r.length + 1 - 1 - j = (r.length - 1 - j) + 1 by omega]
    exact hy
theorem lv_an {α : Type} {P : Nat → α → Prop} {L : List α} {j : Nat} (h : lv P L) (hj : j < L.length) : ∃ x, L[L.length - 1 - j]? = some x ∧ P j x := by
  obtain ⟨x, hx⟩ := lx_i (L := L) (i := L.length - 1 - j) (by omega)
  refine ⟨x, hx, ?_⟩
  have := lv_get h hx
  rw [show L.length - 1 - (L.length - 1 - j) = j by omega] at this
  exact this
theorem mw_fr {FI F2 : Nat → Nat → Int32} {FL L2 : Nat → Nat → Int64} {Q : ms_Q} (h : mw FI FL Q) (e1 : F2 121 94 = FI 121 94) (e2 : F2 121 95 = FI 121 95) (e3 : F2 169 = FI 169) (e4 : L2 170 = FL 170) (e5 : F2 171 = FI 171) (e6 : F2 172 = FI 172) : mw F2 L2 Q := by
  obtain ⟨h1, h2, h3, h4, h5⟩ := h
  exact ⟨by rw [e1]; exact h1, by rw [e2]; exact h2, h3, h4, lv_mono (fun i p _ _ hp => ⟨rm_cg hp.1 e3 e4 e6, by rw [e5]; exact hp.2.1, hp.2.2⟩) h5⟩
theorem mo_233 {a1 : Int32} {a2 : Int64} {Q : ms_Q} : ∀ (g kk : Nat) (l4 : Int32) (FI : Nat → Nat → Int32) (FL : Nat → Nat → Int64), l4.toInt = kk → kk ≤ Q.2.length → mw FI FL Q → (∀ j p, j < kk → Q.2[Q.2.length - 1 - j]? = some p → rp FI FL j p) → GX12_means_233 a1 a2 g l4 n sl SH FI FL FR v st → v = 0 ∧ ∃ F2 L2, st = (n, sl, SH, F2, L2, FR) ∧ xr FI FL F2 L2 ∧ F2 121 46 = FI 121 46 ∧ F2 121 47 = FI 121 47 ∧ lv (fun i p => rp F2 L2 i p) Q.2 := by
  intro g
  induction g with
  | zero => intro kk l4 FI FL _ _ _ _ h; exact h.elim
  | succ g ih =>
    intro kk l4 FI FL h4 hk hw hd h
    have w94 := hw.1
    have w8 := hw.2.2.1.2
    rcases h with ⟨h0, h⟩ | ⟨h0, h⟩
    · rw [h4, w94] at h0
      obtain ⟨-, -, -, -, -, -, -, -, h⟩ := h
      rw [show l4.toInt.toNat = kk by omega, show ((4 : Int32)).toInt = 4 by first | decide | (simp; done) | (simp [ms_0]; done)] at h
      obtain ⟨p, hp, pp⟩ := lv_an hw.2.2.2.2 (show kk < Q.2.length by omega)
      obtain ⟨⟨r1, r2, r3, r4, r5⟩, r6, r7, r8, r9⟩ := pp
      -- the row's other cells
      have e143 : ∀ c, c ≠ 143 → c ≠ 145 → c ≠ 146 → (h_up (h_up (h_up FI 143 kk (FI 169 kk)) 145 kk (FI 171 kk)) 146 kk (0 : Int32)) c = FI c := fun c c1 c2 c3 => by rw [h_up_nc c3, h_up_nc c2, h_up_nc c1]
      have nl4 : (l4 + (1 : Int32)).toInt = ((kk + 1 : Nat) : Int) := by
        rw [i_add h4 (by first | decide | (simp; done) | (simp [ms_0]; done) : ((1 : Int32)).toInt = 1) (by omega) (by omega)]
        omega
      have step : ∀ FB : Nat → Nat → Int32, (∀ c, c ≠ 147 → FB c = (h_up (h_up (h_up FI 143 kk (FI 169 kk)) 145 kk (FI 171 kk)) 146 kk (0 : Int32)) c) → (∀ m, m < 600 * kk ∨ 600 * kk + 600 ≤ m → FB 147 m = FI 147 m) → (∀ i b, p.1.2.2[i]? = some b → FB 147 (600 * kk + i) = b) → GX12_means_233 a1 a2 g (l4 + (1 : Int32)) n sl SH FB (h_up FL 144 kk (FL 170 kk)) FR v st → v = 0 ∧ ∃ F2 L2, st = (n, sl, SH, F2, L2, FR) ∧ xr FI FL F2 L2 ∧ F2 121 46 = FI 121 46 ∧ F2 121 47 = FI 121 47 ∧ lv (fun i p => rp F2 L2 i p) Q.2 := by
        intro FB b1 b2 b3 h
        have b121 : FB 121 = FI 121 := by rw [b1 121 (by first | decide | (simp; done) | (simp [ms_0]; done))]; exact e143 121 (by first | decide | (simp; done) | (simp [ms_0]; done)) (by first | decide | (simp; done) | (simp [ms_0]; done)) (by first | decide | (simp; done) | (simp [ms_0]; done))
        have bc : ∀ c, c ≠ 143 → c ≠ 145 → c ≠ 146 → c ≠ 147 → FB c = FI c := fun c c1 c2 c3 c4 => by rw [b1 c c4]; exact e143 c c1 c2 c3
        obtain ⟨s1, F2, L2, s2, s3, s4, s5, s6⟩ := ih (kk + 1) (l4 + (1 : Int32)) FB (h_up FL 144 kk (FL 170 kk)) nl4 (by omega) (mw_fr hw (by rw [b121]) (by rw [b121]) (bc 169 (by first | decide | (simp; done) | (simp [ms_0]; done)) (by first | decide | (simp; done) | (simp [ms_0]; done)) (by first | decide | (simp; done) | (simp [ms_0]; done)) (by first | decide | (simp; done) | (simp [ms_0]; done))) (h_up_nc (by first | decide | (simp; done) | (simp [ms_0]; done))) (bc 171 (by first | decide | (simp; done) | (simp [ms_0]; done)) (by first | decide | (simp; done) | (simp [ms_0]; done)) (by first | decide | (simp; done) | (simp [ms_0]; done)) (by first | decide | (simp; done) | (simp [ms_0]; done))) (bc 172 (by first | decide | (simp; done) | (simp [ms_0]; done)) (by first | decide | (simp; done) | (simp [ms_0]; done)) (by first | decide | (simp; done) | (simp [ms_0]; done)) (by first | decide | (simp; done) | (simp [ms_0]; done)))) (fun j q hj hq => by
          by_cases ej : j = kk
          · subst ej
            rw [hp] at hq
            have hq := Option.some.inj hq
            subst hq
            refine ⟨?_, ?_, ?_, ?_, r3, ⟨r8, r9, by rw [r7]; (first | decide | (simp; done) | (simp [ms_0]; done)), by rw [r7]; (first | decide | (simp; done) | (simp [ms_0]; done))⟩, by omega, fun i b hb => ⟨b3 i b hb, (r5 i b hb).2⟩⟩
            · rw [b1 143 (by first | decide | (simp; done) | (simp [ms_0]; done)), h_up_nc (by first | decide | (simp; done) | (simp [ms_0]; done)), h_up_nc (by first | decide | (simp; done) | (simp [ms_0]; done)), h_up_eq]; exact r1
            · rw [h_up_eq]; exact r2
            · rw [b1 145 (by first | decide | (simp; done) | (simp [ms_0]; done)), h_up_nc (by first | decide | (simp; done) | (simp [ms_0]; done)), h_up_eq]; exact r6
            · rw [b1 146 (by first | decide | (simp; done) | (simp [ms_0]; done)), h_up_eq, r7]; (first | decide | (simp; done) | (simp [ms_0]; done))
          · obtain ⟨t1, t2, t3, t4, t5, t6, t7, t8⟩ := hd j q (by omega) hq
            refine ⟨?_, ?_, ?_, ?_, t5, t6, t7, fun i b hb => ?_⟩
            · rw [b1 143 (by first | decide | (simp; done) | (simp [ms_0]; done)), h_up_nc (by first | decide | (simp; done) | (simp [ms_0]; done)), h_up_nc (by first | decide | (simp; done) | (simp [ms_0]; done)), h_up_ne ej]; exact t1
            · rw [h_up_ne ej]; exact t2
            · rw [b1 145 (by first | decide | (simp; done) | (simp [ms_0]; done)), h_up_nc (by first | decide | (simp; done) | (simp [ms_0]; done)), h_up_ne ej, h_up_nc (by first | decide | (simp; done) | (simp [ms_0]; done))]; exact t3
            · rw [b1 146 (by first | decide | (simp; done) | (simp [ms_0]; done)), h_up_ne ej, h_up_nc (by first | decide | (simp; done) | (simp [ms_0]; done)), h_up_nc (by first | decide | (simp; done) | (simp [ms_0]; done))]; exact t4
            · have hl := (List.getElem?_eq_some_iff.mp hb).1
              rw [b2 (600 * j + i) (by omega)]
              exact t8 i b hb) h
        refine ⟨s1, F2, L2, s2, ⟨fun c hc => ⟨?_, ?_⟩, fun k hk => ⟨?_, ?_⟩⟩, by rw [s4, b121], by rw [s5, b121], s6⟩
        · rw [(s3.1 c hc).1]; exact bc c (by omega) (by omega) (by omega) (by omega)
        · rw [(s3.1 c hc).2]; exact h_up_nc (by omega)
        · rw [(s3.2 k hk).1, b121]
        · rw [(s3.2 k hk).2, h_up_nc (by first | decide | (simp; done) | (simp [ms_0]; done))]
      rcases h with ⟨h44, g2, h⟩ | ⟨h44, h⟩
      · have hv : (FL 170 kk).toInt = p.1.2.2.length := by
          rw [r2]
          rcases r3 with q | q | q | q | q
          · exfalso; rw [r1] at h44; have := q.1; omega
          · exfalso; rw [r1] at h44; have := q.1; omega
          · exfalso; rw [r1] at h44; have := q.1; omega
          · exfalso; rw [r1] at h44; have := q.1; omega
          · exact q.2
        have hv2 : ((h_up FL 144 kk (FL 170 kk)) 170 kk).toInt = p.1.2.2.length := by rw [h_up_nc (by first | decide | (simp; done) | (simp [ms_0]; done))]; exact hv
        obtain ⟨F2, q1, q2, q3, q4⟩ := mo_306 (Kn := GX12_means_233 a1 a2 g) h4 (by omega) r4 hv2 g2 0 0 _ (by first | decide | (simp; done) | (simp [ms_0]; done)) (by omega) (fun i b hb => by rw [e143 172 (by first | decide | (simp; done) | (simp [ms_0]; done)) (by first | decide | (simp; done) | (simp [ms_0]; done)) (by first | decide | (simp; done) | (simp [ms_0]; done))]; exact (r5 i b hb).1) (fun i b hi => by omega) h
        exact step F2 q2 (fun m hm => by rw [q3 m hm, e143 147 (by first | decide | (simp; done) | (simp [ms_0]; done)) (by first | decide | (simp; done) | (simp [ms_0]; done)) (by first | decide | (simp; done) | (simp [ms_0]; done))]) q4 q1
      · have hnil : p.1.2.2 = [] := by
          rcases r3 with q | q | q | q | q
          · rw [q.2]; rfl
          · exact q.2
          · exact q.2.1
          · exact q.2
          · rw [r1] at h44; exact absurd q.1 h44
        exact step _ (fun c _ => rfl) (fun m _ => by rw [e143 147 (by first | decide | (simp; done) | (simp [ms_0]; done)) (by first | decide | (simp; done) | (simp [ms_0]; done)) (by first | decide | (simp; done) | (simp [ms_0]; done))]) (fun i b hb => by rw [hnil] at hb; simp at hb) h
    · rw [h4, w94] at h0
      obtain ⟨v2, n2, sl2, SH2, FI2, FL2, FR2, ht, e1, e2⟩ := h
      obtain ⟨q1, F2, q2, q3⟩ := r_tells ht
      first | (obtain ⟨zz1, zz2, zz3, zz4, zz5, zz6⟩ := st_c q2; (try subst zz1); (try subst zz2); (try subst zz3); (try subst zz4); (try subst zz5); (try subst zz6)) | cases q2
      refine ⟨e1.trans q1, F2, FL, e2, ⟨fun c hc => ⟨fk_row q3 (by omega), rfl⟩, fun k hk => ⟨fk_at q3 (by simp; omega), rfl⟩⟩, fk_at q3 (by first | decide | (simp; done) | (simp [ms_0]; done)), fk_at q3 (by first | decide | (simp; done) | (simp [ms_0]; done)), ?_⟩
      have ek : kk = Q.2.length := by omega
      refine lv_all (fun j p hj hp => ?_)
      have := hd j p (by omega) hp
      unfold rp at this ⊢
      rw [fk_row q3 (by first | decide | (simp; done) | (simp [ms_0]; done)), fk_row q3 (by first | decide | (simp; done) | (simp [ms_0]; done)), fk_row q3 (by first | decide | (simp; done) | (simp [ms_0]; done)), fk_row q3 (by first | decide | (simp; done) | (simp [ms_0]; done))]
      exact this
/-- what a meaning's end leaves -/
def me_c (FI : Nat → Nat → Int32) (FL : Nat → Nat → Int64) (n sl : Nat) (SH : Nat → Nat × Nat) (FR : Nat → Nat → Option Nat) (v : Int32) (st : hS) (r : Int ⊕ ms_Q) : Prop := ∃ F2 L2, st = (n, sl, SH, F2, L2, FR) ∧ xr FI FL F2 L2 ∧ match r with
  | .inl e => v.toInt = e ∧ e ≠ 0 ∧ F2 143 = FI 143 ∧ F2 145 = FI 145 ∧ F2 146 = FI 146 ∧ F2 147 = FI 147 ∧ L2 144 = FL 144 ∧ F2 121 46 = FI 121 46 ∧ F2 121 47 = FI 121 47
  | .inr Q => v.toInt = 0 ∧ rr F2 L2 Q
theorem mo_187 {a1 : Int32} {a2 : Int64} {FI : Nat → Nat → Int32} {FL : Nat → Nat → Int64} {r : Int ⊕ ms_Q} (hr : mw_r FI FL r) (h : RX12_means_187 a1 a2 n sl SH FI FL FR v st) : me_c FI FL n sl SH FR v st r := by
  rcases h with ⟨h0, g, h⟩ | ⟨h0, h⟩
  · match r, hr with
    | .inl e, hr => exact absurd (hr.1.symm.trans h0) hr.2
    | .inr Q, ⟨r1, r2⟩ =>
      have x0 : xr FI FL (h_up (h_up (h_up (h_up FI 121 31 ((0 : Int32))) 121 32 ((0 : Int32))) 121 46 (FI 121 94)) 121 47 (FI 121 95)) FL := ⟨fun c hc => ⟨by rw [h_up_nc (by omega), h_up_nc (by omega), h_up_nc (by omega), h_up_nc (by omega)], rfl⟩, fun k hk => ⟨by rw [h_up_x (by omega), h_up_x (by omega), h_up_x (by omega), h_up_x (by omega)], rfl⟩⟩
      obtain ⟨s1, F2, L2, s2, s3, s4, s5, s6⟩ := mo_233 g 0 0 _ FL (by first | decide | (simp; done) | (simp [ms_0]; done)) (by omega) (mw_fr r2 (x0.2 94 (by omega)).1 (x0.2 95 (by omega)).1 (x0.1 169 (by omega)).1 rfl (x0.1 171 (by omega)).1 (x0.1 172 (by omega)).1) (fun j p hj => by omega) h
      refine ⟨F2, L2, s2, xr_tr x0 s3, by rw [s1]; (first | decide | (simp; done) | (simp [ms_0]; done)), ?_, ?_, ⟨r2.2.2.1.1, by have := r2.2.2.1.2; omega⟩, r2.2.2.2.1, s6⟩
      · rw [s4, h_up_x (by first | decide | (simp; done) | (simp [ms_0]; done)), h_up_eq]; exact r2.1
      · rw [s5, h_up_eq]; exact r2.2.1
  · obtain ⟨v5, n5, sl5, SH5, FI5, FL5, FR5, ht, e1, e2⟩ := h
    obtain ⟨q1, F2, q2, q3⟩ := r_tells ht
    cases q2
    match r, hr with
    | .inr Q, hr => exact absurd hr.1 h0
    | .inl e, hr =>
      have x0 : ∀ c, c ≠ 121 → FI5 c = FI c := fun c hc => by rw [fk_row q3 hc, h_up_nc hc, h_up_nc hc]
      refine ⟨FI5, _, e2, ⟨fun c hc => ⟨x0 c (by omega), rfl⟩, fun k hk => ⟨by rw [fk_at q3 (by simp; omega), h_up_x (by omega), h_up_x (by omega)], rfl⟩⟩, by rw [e1, q1]; exact hr.1, hr.2, x0 143 (by first | decide | (simp; done) | (simp [ms_0]; done)), x0 145 (by first | decide | (simp; done) | (simp [ms_0]; done)), x0 146 (by first | decide | (simp; done) | (simp [ms_0]; done)), x0 147 (by first | decide | (simp; done) | (simp [ms_0]; done)), rfl, by rw [fk_at q3 (by first | decide | (simp; done) | (simp [ms_0]; done)), h_up_x (by first | decide | (simp; done) | (simp [ms_0]; done)), h_up_x (by first | decide | (simp; done) | (simp [ms_0]; done))], by rw [fk_at q3 (by first | decide | (simp; done) | (simp [ms_0]; done)), h_up_x (by first | decide | (simp; done) | (simp [ms_0]; done)), h_up_x (by first | decide | (simp; done) | (simp [ms_0]; done))]⟩
theorem ms_lt_0 {a b : Int64} {FI : Nat → Nat → Int32} {FL : Nat → Nat → Int64} : (fX12_isBelow a b SH FI FL FR).toInt = 0 ↔ ms_lt a b = false := by
  unfold fX12_isBelow ms_lt
  by_cases h : (a + (-9223372036854775808 : Int64)).toInt < (b + (-9223372036854775808 : Int64)).toInt
  · rw [if_pos h, decide_eq_true h]
    exact ⟨fun e => absurd e (by first | decide | (simp; done) | (simp [ms_0]; done)), fun e => by cases e⟩
  · rw [if_neg h, decide_eq_false h]
    exact ⟨fun _ => rfl, fun _ => by first | decide | (simp; done) | (simp [ms_0]; done)⟩
/-- the cells at a meaning's beginning -/
def mw_0 (FI : Nat → Nat → Int32) (FL : Nat → Nat → Int64) : Prop := (FI 121 93).toInt = 0 ∧ (FI 121 94).toInt = 1 ∧ (FI 121 95).toInt = 0 ∧ (FI 171 0).toInt = 0 ∧ rm FI FL 0 ms_0
theorem mw_0r {FI : Nat → Nat → Int32} {FL : Nat → Nat → Int64} (h : mw_0 FI FL) : mw_r FI FL (.inr (false, [(ms_0, 0, 0)])) := ⟨h.1, h.2.1, ⟨fun _ => rfl, fun _ => h.2.2.1⟩, by first | decide | (simp; done) | (simp [ms_0]; done), fun _ => rfl, ⟨h.2.2.2.2, h.2.2.2.1, rfl, by first | decide | (simp; done) | (simp [ms_0]; done), by first | decide | (simp; done) | (simp [ms_0]; done)⟩, trivial⟩
theorem mo_88 {a1 : Int32} {pc : Int64} {f i N : Nat} (hS : h_S n SH) (hK : K T = 0) (hT : T ≤ 1001) (hg : tk_rg K W) (hf : xfq E fb) (hi : a1.toInt = i) : ∀ (g g2 m t : Nat) (c : List Int) (b : Bool) (t2 : Nat) (l4 l5 : Int32) (FI : Nat → Nat → Int32) (FL : Nat → Nat → Int64), mtk K W T FI FL → rE FI FL SH E → (FI 121 92).toInt = t → t ≤ T → l5.toInt = m → l4.toInt = 0 → (FI 156 i).toInt = N → mw_0 FI FL → lp_rw K W f g2 m t = some (t2, N, c, b) → c.length ≤ 60000 → K t2 = 5 ∧ W t2 = 59 → GX12_means_88 a1 pc g l4 l5 n sl SH FI FL FR v st → ∃ Q : List r_Q, N = m + Q.length ∧ 1 ≤ Q.length ∧ c = rw_fl Q ∧ (∀ q, q ∈ Q → 0 ≤ q.1 ∧ q.1 ≤ 9223372036854775807 ∧ 0 ≤ q.2.1 ∧ q.2.1 ≤ 9223372036854775807 ∧ q.2.2.length ≤ 60000) ∧ ∃ r, mrws E fb pc Q r ∧ ∃ F1 L1, RX12_means_187 a1 pc n sl SH F1 L1 FR v st ∧ m9 FI FL F1 L1 ∧ mw_r F1 L1 r := by
  intro g
  induction g with
  | zero => intro g2 m t c b t2 l4 l5 FI FL _ _ _ _ _ _ _ _ _ _ _ h; exact h.elim
  | succ g ih =>
    intro g2 m t c b t2 l4 l5 FI FL htk hE h92 ht h5 h4 h156 h0 hl hlen hsm h
    have hmN := lp_rw_pos _ _ _ _ _ _ _ hl
    cases g2 with
    | zero => cases hl
    | succ g2 =>
      rw [lp_rw] at hl
      by_cases hc : K t = 3 ∧ m < 8 ∧ K (t + 1) = 5 ∧ W (t + 1) = 256 ∧ K (t + 2) = 3 ∧ W t < W (t + 2) ∧ K (t + 3) = 5 ∧ W (t + 3) = 58
      · rw [if_pos hc] at hl
        obtain ⟨-, h⟩ := h
        rw [show a1.toInt.toNat = i by omega, h156] at h
        have h := P_p (P_p h (by omega)) h4
        have a1' := lt_T hK ht (by omega)
        have a2' := lt_T hK a1' (by omega)
        have a3' := lt_T hK a2' (by show K (t + 2) ≠ 0; omega)
        have a4' := lt_T hK a3' (by show K (t + 3) ≠ 0; omega)
        have w0 := (hg t).1 hc.1
        have w2 := (hg (t + 2)).1 hc.2.2.2.2.1
        have n2 : (FI 121 92 + (2 : Int32)).toInt = ((t + 2 : Nat) : Int) := by
          rw [i_add h92 (by first | decide | (simp; done) | (simp [ms_0]; done) : ((2 : Int32)).toInt = 2) (by omega) (by omega)]
          omega
        have n4 : (FI 121 92 + (4 : Int32)).toInt = ((t + 4 : Nat) : Int) := by
          rw [i_add h92 (by first | decide | (simp; done) | (simp [ms_0]; done) : ((4 : Int32)).toInt = 4) (by omega) (by omega)]
          omega
        obtain ⟨-, -, h⟩ := h
        rw [show (FI 121 92).toInt.toNat = t by omega, show (FI 121 92 + (2 : Int32)).toInt.toNat = t + 2 by omega] at h
        have ew : Int64.ofInt (W t) = FL 153 t := by rw [← (htk t ht).2, l_oi]
        have ew2 : Int64.ofInt (W (t + 2)) = FL 153 (t + 2) := by rw [← (htk (t + 2) a2').2, l_oi]
        have kA : mk FI FL (h_up FI 121 92 (FI 121 92 + (4 : Int32))) FL := mk_f mk_rf (by omega)
        have zA : mw_0 (h_up FI 121 92 (FI 121 92 + (4 : Int32))) FL := by
          obtain ⟨z1, z2, z3, z4, z5⟩ := h0
          exact ⟨by rw [h_up_x (by first | decide | (simp; done) | (simp [ms_0]; done))]; exact z1, by rw [h_up_x (by first | decide | (simp; done) | (simp [ms_0]; done))]; exact z2, by rw [h_up_x (by first | decide | (simp; done) | (simp [ms_0]; done))]; exact z3, by rw [h_up_nc (by first | decide | (simp; done) | (simp [ms_0]; done))]; exact z4, rm_cg z5 (h_up_nc (by first | decide | (simp; done) | (simp [ms_0]; done))) rfl (h_up_nc (by first | decide | (simp; done) | (simp [ms_0]; done)))⟩
        have h92A : ((h_up FI 121 92 (FI 121 92 + (4 : Int32))) 121 92).toInt = ((t + 4 : Nat) : Int) := by rw [h_up_eq]; exact n4
        have hA156 : (h_up FI 121 92 (FI 121 92 + (4 : Int32))) 156 = FI 156 := h_up_nc (by first | decide | (simp; done) | (simp [ms_0]; done))
        generalize h_up FI 121 92 (FI 121 92 + (4 : Int32)) = FA at h kA zA h92A hA156
        cases hlc : lp_lc K W f (t + 4) with
        | none => rw [hlc] at hl; cases hl
        | some p =>
          obtain ⟨t1, c1⟩ := p
          rw [hlc] at hl
          (try dsimp only at hl)
          have hn1 : au_bn (K t1) (W t1) = 0 := by
            by_cases h44 : K t1 = 5 ∧ W t1 = 44
            · rw [h44.1, h44.2]; (first | decide | (simp; done) | (simp [ms_0]; done))
            · rw [if_neg h44] at hl
              cases hl
              rw [hsm.1, hsm.2]; (first | decide | (simp; done) | (simp [ms_0]; done))
          have lc1 : c1.length ≤ 60000 := by
            by_cases h44 : K t1 = 5 ∧ W t1 = 44
            · rw [if_pos h44] at hl
              cases hr : lp_rw K W f g2 (m + 1) (t1 + 1) with
              | none => rw [hr] at hl; cases hl
              | some p2 =>
                obtain ⟨t3, m3, c3, b3⟩ := p2
                rw [hr] at hl
                cases hl
                simp only [List.length_append] at hlen
                omega
            · rw [if_neg h44] at hl
              cases hl
              simp only [List.length_append] at hlen
              omega
          -- a row that holds
          have yes : mrow pc (W t, W (t + 2), c1) = true → RX12_means_163 (GX12_means_88 a1 pc g) a1 pc l5 (1 : Int32) n sl SH FA FL FR v st → ∃ r, mloc E fb c1 r ∧ ∃ F1 L1, RX12_means_187 a1 pc n sl SH F1 L1 FR v st ∧ m9 FI FL F1 L1 ∧ mw_r F1 L1 r := by
            intro _ h
            obtain ⟨v0, n0, sl0, SH0, FI0, FL0, FR0, hlo, h⟩ := h
            obtain ⟨-, s0, r, s1, F5, L5, s2, s3, s4, s5, s6, s7⟩ := mo_location (on := true) hS hK hT hg hf rfl (mt_mk htk kA) (rE_mk hE kA) h92A a4' zA.2.1 zA.2.2.1 zA.2.2.2.1 hlc lc1 hn1 hlo
            first | (obtain ⟨zz1, zz2, zz3, zz4, zz5, zz6⟩ := st_c s2; (try subst zz1); (try subst zz2); (try subst zz3); (try subst zz4); (try subst zz5); (try subst zz6)) | cases s2
            have fin : RX12_means_187 a1 pc n sl SH (h_up F5 121 92 (F5 121 92 + (1 : Int32))) L5 FR v st := by
              cases g with
              | zero => exact h.elim
              | succ g =>
                obtain ⟨-, h⟩ := h
                rcases h with ⟨-, h⟩ | ⟨-, h⟩
                · exact P_n h (by first | decide | (simp; done) | (simp [ms_0]; done))
                · exact h
            refine ⟨r, s1, _, _, fin, m9_f (m9_tr (m9_mk kA) s3) (by omega), ?_⟩
            have s7 := s7 rfl zA.1
            match r, s7 with
            | .inl e, s7 => exact ⟨by rw [h_up_x (by first | decide | (simp; done) | (simp [ms_0]; done))]; exact s7.1, s7.2⟩
            | .inr Q, s7 => exact ⟨by rw [h_up_x (by first | decide | (simp; done) | (simp [ms_0]; done))]; exact s7.1, mw_fr s7.2 (h_up_x (by first | decide | (simp; done) | (simp [ms_0]; done))) (h_up_x (by first | decide | (simp; done) | (simp [ms_0]; done))) (h_up_nc (by first | decide | (simp; done) | (simp [ms_0]; done))) rfl (h_up_nc (by first | decide | (simp; done) | (simp [ms_0]; done))) (h_up_nc (by first | decide | (simp; done) | (simp [ms_0]; done)))⟩
          -- a row that does not
          have no : ∀ {v0 : Unit} {n0 sl0 : Nat} {SH0 : Nat → Nat × Nat} {FI0 : Nat → Nat → Int32} {FL0 : Nat → Nat → Int64} {FR0 : Nat → Nat → Option Nat}, RX12_meantLocation (0 : Int32) n sl SH FA FL FR v0 (n0, sl0, SH0, FI0, FL0, FR0) → t1 ≤ T ∧ ∃ F5 L5, (n0, sl0, SH0, FI0, FL0, FR0) = (n, sl, SH, F5, L5, FR) ∧ m9 FI FL F5 L5 ∧ (F5 121 92).toInt = t1 ∧ mw_0 (h_up F5 121 92 (F5 121 92 + (1 : Int32))) L5 := by
            intro v0 n0 sl0 SH0 FI0 FL0 FR0 hlo
            obtain ⟨-, s0, r, s1, F5, L5, s2, s3, s4, s5, s6, s7⟩ := mo_location (on := false) hS hK hT hg hf rfl (mt_mk htk kA) (rE_mk hE kA) h92A a4' zA.2.1 zA.2.2.1 zA.2.2.2.1 hlc lc1 hn1 hlo
            refine ⟨s0, F5, L5, s2, m9_tr (m9_mk kA) s3, s4, ?_⟩
            obtain ⟨o1, o2, o3, o4, o5, o6⟩ := s5 rfl
            obtain ⟨z1, z2, z3, z4, z5⟩ := zA
            refine ⟨?_, ?_, ?_, ?_, ?_⟩
            · rw [h_up_x (by first | decide | (simp; done) | (simp [ms_0]; done)), s6 (fun e => by cases e.1)]; exact z1
            · rw [h_up_x (by first | decide | (simp; done) | (simp [ms_0]; done)), o5]; exact z2
            · rw [h_up_x (by first | decide | (simp; done) | (simp [ms_0]; done)), o6]; exact z3
            · rw [h_up_nc (by first | decide | (simp; done) | (simp [ms_0]; done)), o3]; exact z4
            · exact rm_cg z5 (by rw [h_up_nc (by first | decide | (simp; done) | (simp [ms_0]; done)), o1]) o2 (by rw [h_up_nc (by first | decide | (simp; done) | (simp [ms_0]; done)), o4])
          have nl5 : (l5 + (1 : Int32)).toInt = ((m + 1 : Nat) : Int) := by
            rw [i_add h5 (by first | decide | (simp; done) | (simp [ms_0]; done) : ((1 : Int32)).toInt = 1) (by omega) (by omega)]
            omega
          have rg1 : 0 ≤ (W t, W (t + 2), c1).1 ∧ (W t, W (t + 2), c1).1 ≤ 9223372036854775807 ∧ 0 ≤ (W t, W (t + 2), c1).2.1 ∧ (W t, W (t + 2), c1).2.1 ≤ 9223372036854775807 ∧ (W t, W (t + 2), c1).2.2.length ≤ 60000 := ⟨w0.1, by show W t ≤ 9223372036854775807; omega, w2.1, by show W (t + 2) ≤ 9223372036854775807; omega, lc1⟩
          -- both kinds of rows
          have key : (mrow pc (W t, W (t + 2), c1) = true ∧ RX12_means_163 (GX12_means_88 a1 pc g) a1 pc l5 (1 : Int32) n sl SH FA FL FR v st) ∨ (¬ mrow pc (W t, W (t + 2), c1) = true ∧ RX12_means_163 (GX12_means_88 a1 pc g) a1 pc l5 (0 : Int32) n sl SH FA FL FR v st) := by
            have em : mrow pc (W t, W (t + 2), c1) = (!(ms_lt pc (FL 153 t)) && ms_lt pc (FL 153 (t + 2))) := by
              show (!(ms_lt pc (Int64.ofInt (W t))) && ms_lt pc (Int64.ofInt (W (t + 2)))) = _
              rw [ew, ew2]
            rw [em]
            rcases h with ⟨b1, h⟩ | ⟨b1, h⟩
            · rw [ms_lt_0] at b1
              rcases h with ⟨b2, h⟩ | ⟨b2, h⟩
              · rw [ms_lt_0] at b2
                exact Or.inr ⟨by rw [b1, b2]; (first | decide | (simp; done) | (simp [ms_0]; done)), h⟩
              · have b2 : ms_lt pc (FL 153 (t + 2)) = true := by
                  cases e : ms_lt pc (FL 153 (t + 2)) with
                  | true => rfl
                  | false => exact absurd (ms_lt_0.mpr e) b2
                exact Or.inl ⟨by rw [b1, b2]; (first | decide | (simp; done) | (simp [ms_0]; done)), h⟩
            · have b1 : ms_lt pc (FL 153 t) = true := by
                cases e : ms_lt pc (FL 153 t) with
                | true => rfl
                | false => exact absurd (ms_lt_0.mpr e) b1
              exact Or.inr ⟨by rw [b1]; simp, h⟩
          by_cases h44 : K t1 = 5 ∧ W t1 = 44
          · rw [if_pos h44] at hl
            cases hr : lp_rw K W f g2 (m + 1) (t1 + 1) with
            | none => rw [hr] at hl; cases hl
            | some p2 =>
              obtain ⟨t3, m3, c3, b3⟩ := p2
              rw [hr] at hl
              cases hl
              have lc3 : c3.length ≤ 60000 := by
                simp only [List.length_append] at hlen
                omega
              -- what the other rows are: from their tokens alone
              obtain ⟨Q, q1, q2, q3, q4⟩ := lp_rw_Q hg g2 (m + 1) (t1 + 1) t2 N c3 b3 hr lc3
              refine ⟨(W t, W (t + 2), c1) :: Q, by simp only [List.length_cons]; omega, by simp only [List.length_cons]; omega, by rw [rw_fl_c, q3], ?_, ?_⟩
              · intro q hq
                rcases List.mem_cons.mp hq with hq | hq
                · rw [hq]; exact rg1
                · exact q4 q hq
              · rcases key with ⟨kr, h⟩ | ⟨kr, h⟩
                · obtain ⟨r, s1, s2⟩ := yes kr h
                  exact ⟨r, Or.inl ⟨kr, s1⟩, s2⟩
                · obtain ⟨v0, n0, sl0, SH0, FI0, FL0, FR0, hlo, h⟩ := h
                  obtain ⟨t1T, F5, L5, s2, s3, s4, s5⟩ := no hlo
                  first | (obtain ⟨zz1, zz2, zz3, zz4, zz5, zz6⟩ := st_c s2; (try subst zz1); (try subst zz2); (try subst zz3); (try subst zz4); (try subst zz5); (try subst zz6)) | cases s2
                  have ht1 := lt_T hK t1T (by omega)
                  have k5 : m9 FI FL (h_up F5 121 92 (F5 121 92 + (1 : Int32))) L5 := m9_f s3 (by omega)
                  obtain ⟨Q2, u1, u2, u3, u4, r, u5, F1, L1, u6, u7, u8⟩ := ih g2 (m + 1) (t1 + 1) c3 b3 t2 0 (l5 + (1 : Int32)) _ L5 (mt_m9 htk k5) (rE_m9 hE k5) (by rw [h_up_eq, i_add s4 (by first | decide | (simp; done) | (simp [ms_0]; done) : ((1 : Int32)).toInt = 1) (by omega) (by omega)]; omega) ht1 nl5 (by first | decide | (simp; done) | (simp [ms_0]; done)) (by rw [(k5.1 156 (by omega)).1]; exact h156) s5 hr lc3 hsm h
                  have eQ : Q = Q2 := rw_fl_u Q Q2 [] [] (by omega) q4 u4 (by rw [← q3, u3])
                  subst eQ
                  exact ⟨r, Or.inr ⟨kr, u5⟩, F1, L1, u6, m9_tr k5 u7, u8⟩
          · rw [if_neg h44] at hl
            cases hl
            refine ⟨[(W t, W (t + 2), c1)], by simp only [List.length_cons, List.length_nil], by first | decide | (simp; done) | (simp [ms_0]; done), by rw [rw_fl_c]; show _ = _ ++ (_ ++ (_ ++ (c1 ++ []))); rw [List.append_nil], ?_, ?_⟩
            · intro q hq
              rw [List.mem_singleton.mp hq]
              exact rg1
            · rcases key with ⟨kr, h⟩ | ⟨kr, h⟩
              · obtain ⟨r, s1, s2⟩ := yes kr h
                exact ⟨r, Or.inl ⟨kr, s1⟩, s2⟩
              · obtain ⟨v0, n0, sl0, SH0, FI0, FL0, FR0, hlo, h⟩ := h
                obtain ⟨t1T, F5, L5, s2, s3, s4, s5⟩ := no hlo
                first | (obtain ⟨zz1, zz2, zz3, zz4, zz5, zz6⟩ := st_c s2; (try subst zz1); (try subst zz2); (try subst zz3); (try subst zz4); (try subst zz5); (try subst zz6)) | cases s2
                have k5 : m9 FI FL (h_up F5 121 92 (F5 121 92 + (1 : Int32))) L5 := m9_f s3 (by omega)
                refine ⟨.inr (false, [(ms_0, 0, 0)]), Or.inr ⟨kr, rfl⟩, h_up F5 121 92 (F5 121 92 + (1 : Int32)), L5, ?_, k5, mw_0r s5⟩
                cases g with
                | zero => exact h.elim
                | succ g =>
                  obtain ⟨-, h⟩ := h
                  rw [show a1.toInt.toNat = i by omega, (k5.1 156 (by omega)).1, h156, nl5] at h
                  exact P_n h (by omega)
      · rw [if_neg hc] at hl; cases hl
/-- what means leaves alone -/
def m8 (FI : Nat → Nat → Int32) (FL : Nat → Nat → Int64) (F2 : Nat → Nat → Int32) (L2 : Nat → Nat → Int64) : Prop := (∀ c, (c < 121 ∨ (121 < c ∧ c < 127) ∨ (147 < c ∧ c < 165) ∨ c = 167 ∨ c = 168 ∨ 175 < c) → F2 c = FI c ∧ L2 c = FL c) ∧ (∀ k, ((0 < k ∧ k < 29) ∨ (57 < k ∧ k < 90) ∨ (95 < k ∧ k < 101) ∨ (101 < k ∧ k < 104) ∨ 104 < k) → F2 121 k = FI 121 k ∧ L2 121 k = FL 121 k)
/-- what means leaves: its answer, the result -/
def mn_c (FI : Nat → Nat → Int32) (FL : Nat → Nat → Int64) (n sl : Nat) (SH : Nat → Nat × Nat) (FR : Nat → Nat → Option Nat) (v : Int32) (st : hS) (r : Int ⊕ ms_Q) : Prop := ∃ F2 L2, st = (n, sl, SH, F2, L2, FR) ∧ m8 FI FL F2 L2 ∧ match r with
  | .inl e => v.toInt = e ∧ e ≠ 0 ∧ F2 143 = FI 143 ∧ F2 145 = FI 145 ∧ F2 146 = FI 146 ∧ F2 147 = FI 147 ∧ L2 144 = FL 144 ∧ F2 121 46 = FI 121 46 ∧ F2 121 47 = FI 121 47
  | .inr Q => v.toInt = 0 ∧ rr F2 L2 Q
theorem mn_of {FI F1 F0 : Nat → Nat → Int32} {FL L1 L0 : Nat → Nat → Int64} {r : Int ⊕ ms_Q} (h : me_c F1 L1 n sl SH FR v st r) (k9 : m9 F0 L0 F1 L1) (e0 : ∀ c, c < 165 → c ≠ 121 → F0 c = FI c ∧ L0 c = FL c) (e1 : ∀ c, (c = 167 ∨ c = 168 ∨ 175 < c) → F0 c = FI c ∧ L0 c = FL c) (e2 : ∀ k, k ≠ 0 → (k < 90 ∨ 95 < k) → F0 121 k = FI 121 k ∧ L0 121 k = FL 121 k) : mn_c FI FL n sl SH FR v st r := by
  obtain ⟨F2, L2, h1, h2, h3⟩ := h
  have c0 : ∀ c, (c < 121 ∨ (121 < c ∧ c < 127) ∨ (142 < c ∧ c < 165) ∨ c = 167 ∨ c = 168 ∨ 175 < c) → F1 c = FI c ∧ L1 c = FL c := fun c hc => by
    obtain ⟨a, b⟩ := k9.1 c hc
    rw [a, b]
    by_cases h165 : c < 165
    · exact e0 c h165 (by omega)
    · exact e1 c (by omega)
  have k0 : ∀ k, ((0 < k ∧ k < 29) ∨ (44 < k ∧ k < 90) ∨ (95 < k ∧ k < 101) ∨ (101 < k ∧ k < 104) ∨ 104 < k) → F1 121 k = FI 121 k ∧ L1 121 k = FL 121 k := fun k hk => by
    obtain ⟨a, b⟩ := k9.2 k (by omega)
    rw [a, b]
    exact e2 k (by omega) (by omega)
  refine ⟨F2, L2, h1, ⟨fun c hc => ?_, fun k hk => ?_⟩, ?_⟩
  · obtain ⟨a, b⟩ := h2.1 c (by omega)
    rw [a, b]
    exact c0 c (by omega)
  · obtain ⟨a, b⟩ := h2.2 k (by omega)
    rw [a, b]
    exact k0 k (by omega)
  · match r, h3 with
    | .inl e, ⟨a1, a2, a3, a4, a5, a6, a7, a8, a9⟩ => exact ⟨a1, a2, by rw [a3]; exact (c0 143 (by omega)).1, by rw [a4]; exact (c0 145 (by omega)).1, by rw [a5]; exact (c0 146 (by omega)).1, by rw [a6]; exact (c0 147 (by omega)).1, by rw [a7]; exact (c0 144 (by omega)).2, by rw [a8]; exact (k0 46 (by omega)).1, by rw [a9]; exact (k0 47 (by omega)).1⟩
    | .inr Q, h3 => exact h3
theorem r_means {a1 : Int32} {pc : Int64} {f i N t1 : Nat} {x : lp_V} {FI : Nat → Nat → Int32} {FL : Nat → Nat → Int64} (hS : h_S n SH) (hK : K T = 0) (hT : T ≤ 1001) (hg : tk_rg K W) (hf : xfq E fb) (htk : mtk K W T FI FL) (hE : rE FI FL SH E) (hi : a1.toInt = i) (h74 : (FI 121 74).toInt = N) (hiN : i < N) (h157 : (FI 157 i).toInt = x.2.1) (h156 : (FI 156 i).toInt = x.2.2.1) (hb : lp_bd K W f x.2.1 = some (t1, x.2.2.1, x.2.2.2.1, x.2.2.2.2)) (hsm : K t1 = 5 ∧ W t1 = 59) (hlen : x.2.2.2.1.length ≤ 600) (ht0 : x.2.1 ≤ T) (h : RX12_means a1 pc n sl SH FI FL FR v st) : ∃ r, mvar E fb pc x.2.2.1 x.2.2.2.1 r ∧ mn_c FI FL n sl SH FR v st r := by
  have h := P_n h (by omega)
  have h := P_p h (by omega)
  obtain ⟨-, -, -, -, -, h⟩ := h
  rw [show a1.toInt.toNat = i by omega] at h
  have z0 : ((0 : Int32)).toInt = 0 := by first | decide | (simp; done) | (simp [ms_0]; done)
  -- the beginning
  generalize hF : h_up (h_up (h_up (h_up (h_up (h_up (h_up FI 121 0 ((0 : Int32))) 121 93 ((0 : Int32))) 121 92 (FI 157 i)) 121 94 ((1 : Int32))) 121 95 ((0 : Int32))) 169 0 ((0 : Int32))) 171 0 ((0 : Int32)) = F0 at h
  have f121 : ∀ k, k ≠ 0 → k ≠ 92 → k ≠ 93 → k ≠ 94 → k ≠ 95 → F0 121 k = FI 121 k := fun k h1 h2 h3 h4 h5 => by rw [← hF, h_up_nc (by first | decide | (simp; done) | (simp [ms_0]; done)), h_up_nc (by first | decide | (simp; done) | (simp [ms_0]; done)), h_up_ne h5, h_up_ne h4, h_up_ne h2, h_up_ne h3, h_up_ne h1]
  have fc : ∀ c, c ≠ 121 → c ≠ 169 → c ≠ 171 → F0 c = FI c := fun c h1 h2 h3 => by rw [← hF, h_up_nc h3, h_up_nc h2, h_up_nc h1, h_up_nc h1, h_up_nc h1, h_up_nc h1, h_up_nc h1]
  have f92 : (F0 121 92).toInt = x.2.1 := by rw [← hF, h_up_nc (by first | decide | (simp; done) | (simp [ms_0]; done)), h_up_nc (by first | decide | (simp; done) | (simp [ms_0]; done)), h_up_ne (by first | decide | (simp; done) | (simp [ms_0]; done)), h_up_ne (by first | decide | (simp; done) | (simp [ms_0]; done)), h_up_eq]; exact h157
  have zz : mw_0 F0 (h_up FL 170 0 ((0 : Int64))) := by
    refine ⟨?_, ?_, ?_, ?_, ?_, h_up_eq, Or.inl ⟨rfl, rfl⟩, by first | decide | (simp; done) | (simp [ms_0]; done), fun k b hk => by simp [ms_0] at hk⟩
    · rw [← hF, h_up_nc (by first | decide | (simp; done) | (simp [ms_0]; done)), h_up_nc (by first | decide | (simp; done) | (simp [ms_0]; done)), h_up_ne (by first | decide | (simp; done) | (simp [ms_0]; done)), h_up_ne (by first | decide | (simp; done) | (simp [ms_0]; done)), h_up_ne (by first | decide | (simp; done) | (simp [ms_0]; done)), h_up_eq]; exact z0
    · rw [← hF, h_up_nc (by first | decide | (simp; done) | (simp [ms_0]; done)), h_up_nc (by first | decide | (simp; done) | (simp [ms_0]; done)), h_up_ne (by first | decide | (simp; done) | (simp [ms_0]; done)), h_up_eq]; (first | decide | (simp; done) | (simp [ms_0]; done))
    · rw [← hF, h_up_nc (by first | decide | (simp; done) | (simp [ms_0]; done)), h_up_nc (by first | decide | (simp; done) | (simp [ms_0]; done)), h_up_eq]; exact z0
    · rw [← hF, h_up_eq]; exact z0
    · rw [← hF, h_up_nc (by first | decide | (simp; done) | (simp [ms_0]; done)), h_up_eq]; exact z0
  have htk0 : mtk K W T F0 (h_up FL 170 0 ((0 : Int64))) := fun j hj => by
    rw [fc 152 (by first | decide | (simp; done) | (simp [ms_0]; done)) (by first | decide | (simp; done) | (simp [ms_0]; done)) (by first | decide | (simp; done) | (simp [ms_0]; done)), h_up_nc (by first | decide | (simp; done) | (simp [ms_0]; done))]
    exact htk j hj
  have hE0 : rE F0 (h_up FL 170 0 ((0 : Int64))) SH E := by
    obtain ⟨e1, e2, e3, e4, e5, e6, e7, e8⟩ := hE
    refine ⟨by rw [h_up_nc (by first | decide | (simp; done) | (simp [ms_0]; done))]; exact e1, by rw [fc 123 (by first | decide | (simp; done) | (simp [ms_0]; done)) (by first | decide | (simp; done) | (simp [ms_0]; done)) (by first | decide | (simp; done) | (simp [ms_0]; done))]; exact e2, fun k hk => ?_, ?_, ?_, by rw [h_up_nc (by first | decide | (simp; done) | (simp [ms_0]; done))]; exact e6, ?_, ?_⟩
    · rw [fc 125 (by first | decide | (simp; done) | (simp [ms_0]; done)) (by first | decide | (simp; done) | (simp [ms_0]; done)) (by first | decide | (simp; done) | (simp [ms_0]; done))]
      exact ⟨(e3 k hk).1, (e3 k hk).2.1, bk_fr (e3 k hk).2.2 (fc 124 (by first | decide | (simp; done) | (simp [ms_0]; done)) (by first | decide | (simp; done) | (simp [ms_0]; done)) (by first | decide | (simp; done) | (simp [ms_0]; done)))⟩
    · rw [f121 5 (by first | decide | (simp; done) | (simp [ms_0]; done)) (by first | decide | (simp; done) | (simp [ms_0]; done)) (by first | decide | (simp; done) | (simp [ms_0]; done)) (by first | decide | (simp; done) | (simp [ms_0]; done)) (by first | decide | (simp; done) | (simp [ms_0]; done))]; exact e4
    · rw [f121 6 (by first | decide | (simp; done) | (simp [ms_0]; done)) (by first | decide | (simp; done) | (simp [ms_0]; done)) (by first | decide | (simp; done) | (simp [ms_0]; done)) (by first | decide | (simp; done) | (simp [ms_0]; done)) (by first | decide | (simp; done) | (simp [ms_0]; done))]; exact e5
    · rw [f121 10 (by first | decide | (simp; done) | (simp [ms_0]; done)) (by first | decide | (simp; done) | (simp [ms_0]; done)) (by first | decide | (simp; done) | (simp [ms_0]; done)) (by first | decide | (simp; done) | (simp [ms_0]; done)) (by first | decide | (simp; done) | (simp [ms_0]; done)), h_up_nc (by first | decide | (simp; done) | (simp [ms_0]; done))]; exact e7
    · rw [f121 11 (by first | decide | (simp; done) | (simp [ms_0]; done)) (by first | decide | (simp; done) | (simp [ms_0]; done)) (by first | decide | (simp; done) | (simp [ms_0]; done)) (by first | decide | (simp; done) | (simp [ms_0]; done)) (by first | decide | (simp; done) | (simp [ms_0]; done)), h_up_nc (by first | decide | (simp; done) | (simp [ms_0]; done))]; exact e8
  have q0 : ∀ c, c < 165 → c ≠ 121 → F0 c = FI c ∧ (h_up FL 170 0 ((0 : Int64))) c = FL c := fun c h1 h2 => ⟨fc c h2 (by omega) (by omega), h_up_nc (by omega)⟩
  have q1 : ∀ c, (c = 167 ∨ c = 168 ∨ 175 < c) → F0 c = FI c ∧ (h_up FL 170 0 ((0 : Int64))) c = FL c := fun c h1 => ⟨fc c (by omega) (by omega) (by omega), h_up_nc (by omega)⟩
  have q2 : ∀ k, k ≠ 0 → (k < 90 ∨ 95 < k) → F0 121 k = FI 121 k ∧ (h_up FL 170 0 ((0 : Int64))) 121 k = FL 121 k := fun k h1 h2 => ⟨f121 k h1 (by omega) (by omega) (by omega) (by omega), by rw [h_up_nc (by first | decide | (simp; done) | (simp [ms_0]; done))]⟩
  rw [h156] at h
  unfold lp_bd at hb
  by_cases h3 : K x.2.1 = 3
  · rw [if_pos h3] at hb
    cases hr : lp_rw K W f 20 0 x.2.1 with
    | none => rw [hr] at hb; cases hb
    | some p =>
      obtain ⟨t2, m2, c2, b2⟩ := p
      rw [hr] at hb
      have hb : some (t2, m2, c2 ++ (lc_by 0 8 ++ lc_by 0 8), b2) = some (t1, x.2.2.1, x.2.2.2.1, x.2.2.2.2) := hb
      have hb := Option.some.inj hb
      have e1 : t2 = t1 := congrArg Prod.fst hb
      have e2 : m2 = x.2.2.1 := congrArg (fun z => z.2.1) hb
      have e3 : c2 ++ (lc_by 0 8 ++ lc_by 0 8) = x.2.2.2.1 := congrArg (fun z => z.2.2.1) hb
      have hp := lp_rw_pos _ _ _ _ _ _ _ hr
      obtain ⟨g, h⟩ := P_n h (by omega)
      rw [e1, e2] at hr
      have hl2 : c2.length ≤ 60000 := by
        rw [← e3, List.length_append] at hlen
        omega
      obtain ⟨Q, u1, u2, u3, u4, r, u5, F1, L1, u6, u7, u8⟩ := mo_88 (N := x.2.2.1) hS hK hT hg hf hi g 20 0 x.2.1 c2 b2 t1 0 0 F0 _ htk0 hE0 f92 ht0 z0 z0 (by rw [fc 156 (by first | decide | (simp; done) | (simp [ms_0]; done)) (by first | decide | (simp; done) | (simp [ms_0]; done)) (by first | decide | (simp; done) | (simp [ms_0]; done))]; exact h156) zz hr hl2 hsm h
      exact ⟨r, Or.inr ⟨Q, by omega, by omega, by rw [← e3, u3], u4, u5⟩, mn_of (mo_187 u8 u6) u7 q0 q1 q2⟩
  · rw [if_neg h3] at hb
    cases hr : lp_lc K W f x.2.1 with
    | none => rw [hr] at hb; cases hb
    | some p =>
      obtain ⟨t2, c2⟩ := p
      rw [hr] at hb
      have hb : some (t2, 0, c2, decide (300 < c2.length)) = some (t1, x.2.2.1, x.2.2.2.1, x.2.2.2.2) := hb
      have hb := Option.some.inj hb
      have e1 : t2 = t1 := congrArg Prod.fst hb
      have e2 : 0 = x.2.2.1 := congrArg (fun z => z.2.1) hb
      have e3 : c2 = x.2.2.2.1 := congrArg (fun z => z.2.2.1) hb
      subst e1
      obtain ⟨v8, n8, sl8, SH8, FI8, FL8, FR8, hlo, h⟩ := P_p h (by omega)
      have hn : au_bn (K t2) (W t2) = 0 := by rw [hsm.1, hsm.2]; (first | decide | (simp; done) | (simp [ms_0]; done))
      obtain ⟨-, s0, r, s1, F5, L5, s2, s3, s4, s5, s6, s7⟩ := mo_location (on := true) hS hK hT hg hf rfl htk0 hE0 f92 ht0 zz.2.1 zz.2.2.1 zz.2.2.2.1 hr (by rw [e3]; omega) hn hlo
      cases s2
      refine ⟨r, Or.inl ⟨e2.symm, by rw [← e3]; exact s1⟩, mn_of (mo_187 (s7 rfl zz.1) h) s3 q0 q1 q2⟩
end MN
