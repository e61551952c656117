/-! THE REFERENCE'S fetch, store: their loops. -/
section RFO
variable {n sl : Nat} {SH : Nat → Nat × Nat} {FR : Nat → Nat → Option Nat} {st : hS} {v : Int32}
theorem pl_r_c {B : ms_P → Nat} {L : List ms_P} {j i : Nat} {p : ms_P} (hp : L[j]? = some p) (hi : i < B p) : pl_r B L j i = (p, i) :: pl_r B L j (i + 1) := by
  unfold pl_r
  rw [hp]
  show pl_1 p (B p - i) i ++ pl_f B (L.drop (j + 1)) = (p, i) :: (pl_1 p (B p - (i + 1)) (i + 1) ++ pl_f B (L.drop (j + 1)))
  rw [show B p - i = (B p - (i + 1)) + 1 by omega, pl_1]
  rfl
def rE_mem (E : ms_E) : Prop := ∀ a, a < 4096 → 0 ≤ (ms_mm E a).toInt ∧ (ms_mm E a).toInt ≤ 255
theorem rp_by {FI : Nat → Nat → Int32} {FL : Nat → Nat → Int64} {j : Nat} {p : ms_P} (h : rp FI FL j p) : ∀ (k : Nat) (x : Int32), p.1.2.2[k]? = some x → 0 ≤ x.toInt ∧ x.toInt ≤ 255 := fun k x hk => (h.2.2.2.2.2.2.2 k x hk).2
theorem r_fe67 {a1 : Int32} {Q : ms_Q} {N : Nat} {E : ms_E} {FL : Nat → Nat → Int64} (hN : a1.toInt = N) (hN2 : N ≤ 512) (hm : rE_mem E) : ∀ (g k j i : Nat) (s : (Nat → Int32) × Nat) (l2 l3 : Int32) (FI : Nat → Nat → Int32), l3.toInt = k → l2.toInt = s.2 → s.2 ≤ k → k ≤ N → rr FI FL Q → rE FI FL SH E → (∀ x, x < 64 → FI 148 x = s.1 x) → (FI 121 58).toInt = j → (FI 121 59).toInt = i → i ≤ 10000 → (Q.1 = false → i = k ∧ j = 0) → GX12_fetch_67 a1 g l2 l3 n sl SH FI FL FR v st → v.toInt = (fe E N (pl_r (pl_B Q.1 N) Q.2.reverse j i) k s).2 ∧ ∃ F2, st = (n, sl, SH, F2, FL, FR) ∧ (∀ c, c ≠ 121 → c ≠ 148 → F2 c = FI c) ∧ (∀ x, x ≠ 58 → x ≠ 59 → F2 121 x = FI 121 x) ∧ (∀ x, x < 64 → F2 148 x = (fe E N (pl_r (pl_B Q.1 N) Q.2.reverse j i) k s).1 x) := by
  intro g
  induction g with
  | zero => intro k j i s l2 l3 FI _ _ _ _ _ _ _ _ _ _ _ h; exact h.elim
  | succ g ih =>
    intro k j i s l2 l3 FI h3 h2 hsk hkN hr hE ho hj hi hik hns h
    rcases h with ⟨h0, h⟩ | ⟨h0, e1, e⟩
    · rw [h3, hN] at h0
      obtain ⟨v1, n1, sl1, SH1, FI1, FL1, FR1, hg, h⟩ := h
      obtain ⟨g2, hg⟩ := hg
      obtain ⟨j2, i2, F2, s1, s2, s3, s4, s5, s6, s7, s8, s9, s10⟩ := r_goes (N := N) g2 j i FI hr hj hi (by omega) (fun e => ⟨by have := (hns e).1; omega, (hns e).2⟩) hg
      first | (obtain ⟨zz1, zz2, zz3, zz4, zz5, zz6⟩ := st_c s1; (try subst zz1); (try subst zz2); (try subst zz3); (try subst zz4); (try subst zz5); (try subst zz6)) | cases s1
      have hr2 : rr F2 FL Q := rr_fr hr (fun c hc => s2 c (by omega)) rfl (s3 46 (by first | decide | (simp; done) | (simp [ms_0]; done)) (by first | decide | (simp; done) | (simp [ms_0]; done))) (s3 47 (by first | decide | (simp; done) | (simp [ms_0]; done)) (by first | decide | (simp; done) | (simp [ms_0]; done)))
      have hE2 : rE F2 FL SH E := rE_fr hE (s2 123 (by first | decide | (simp; done) | (simp [ms_0]; done))) (s2 124 (by first | decide | (simp; done) | (simp [ms_0]; done))) (s2 125 (by first | decide | (simp; done) | (simp [ms_0]; done))) (fun k hk => s3 k (by omega) (by omega)) (fun _ _ => rfl) rfl
      rw [s7]
      rcases h with ⟨h1, e1, e⟩ | ⟨h1, -, h⟩
      · rw [s8.mp h1]
        exact ⟨by rw [e1]; exact h2, F2, e, fun c c1 _ => s2 c c1, s3, fun x hx => by rw [s2 148 (by first | decide | (simp; done) | (simp [ms_0]; done))]; exact ho x hx⟩
      · obtain ⟨hj2, p, hp, hi2⟩ := s9 h1
        obtain ⟨hpp, -⟩ := rp_at hr2 hp
        have hl16 := hr.2.2.1.2
        obtain ⟨p1, p2, p3, p4, p5, p6, p7, p8⟩ := id hpp
        have i2b : i2 ≤ 4096 + 512 := by
          unfold pl_B at hi2
          split at hi2
          · omega
          · omega
        have ea : ((F2 146 (F2 121 58).toInt.toNat).toInt64 + (F2 121 59).toInt64).toInt = ((p.2.2.toNat + i2 : Nat) : Int) := by
          rw [show (F2 121 58).toInt.toNat = j2 by omega, l_add (i_2l p4) (i_2l s5) (by omega) (by omega)]
          omega
        have hbit := r_bit (FR := FR) hE2 s4 (by omega) hpp ea (by omega)
        rw [hbit] at h
        rw [pl_r_c hp hi2, fe, if_pos (by omega)]
        have n59 : (F2 121 59 + (1 : Int32)).toInt = ((i2 + 1 : Nat) : Int) := by
          rw [i_add s5 (by first | decide | (simp; done) | (simp [ms_0]; done) : ((1 : Int32)).toInt = 1) (by omega) (by omega)]
          omega
        have nk : (l3 + (1 : Int32)).toInt = ((k + 1 : Nat) : Int) := by
          rw [i_add h3 (by first | decide | (simp; done) | (simp [ms_0]; done) : ((1 : Int32)).toInt = 1) (by omega) (by omega)]
          omega
        -- on
        have step : ∀ (F3 : Nat → Nat → Int32) (l2' : Int32) (s' : (Nat → Int32) × Nat), fe_st E k (p, i2) s = s' → l2'.toInt = s'.2 → s'.2 ≤ k + 1 → (∀ c, c ≠ 148 → F3 c = F2 c) → (∀ x, x < 64 → F3 148 x = s'.1 x) → GX12_fetch_67 a1 g l2' (l3 + (1 : Int32)) n sl SH (h_up F3 121 59 (F3 121 59 + (1 : Int32))) FL FR v st → v.toInt = (fe E N (pl_r (pl_B Q.1 N) Q.2.reverse j2 (i2 + 1)) (k + 1) (fe_st E k (p, i2) s)).2 ∧ ∃ F4, st = (n, sl, SH, F4, FL, FR) ∧ (∀ c, c ≠ 121 → c ≠ 148 → F4 c = FI c) ∧ (∀ x, x ≠ 58 → x ≠ 59 → F4 121 x = FI 121 x) ∧ (∀ x, x < 64 → F4 148 x = (fe E N (pl_r (pl_B Q.1 N) Q.2.reverse j2 (i2 + 1)) (k + 1) (fe_st E k (p, i2) s)).1 x) := by
          intro F3 l2' s' es hl2 hs2 f1 f2 h
          rw [es]
          have e121 : F3 121 = F2 121 := f1 121 (by first | decide | (simp; done) | (simp [ms_0]; done))
          have hE3 : rE (h_up F3 121 59 (F3 121 59 + (1 : Int32))) FL SH E := rE_fr hE2 (by rw [h_up_nc (by first | decide | (simp; done) | (simp [ms_0]; done)), f1 123 (by first | decide | (simp; done) | (simp [ms_0]; done))]) (by rw [h_up_nc (by first | decide | (simp; done) | (simp [ms_0]; done)), f1 124 (by first | decide | (simp; done) | (simp [ms_0]; done))]) (by rw [h_up_nc (by first | decide | (simp; done) | (simp [ms_0]; done)), f1 125 (by first | decide | (simp; done) | (simp [ms_0]; done))]) (fun k hk => by rw [h_up_ne (by omega), e121]) (fun _ _ => rfl) rfl
          have hr3 : rr (h_up F3 121 59 (F3 121 59 + (1 : Int32))) FL Q := rr_fr hr2 (fun c hc => by rw [h_up_nc (by omega), f1 c (by omega)]) rfl (by rw [h_up_ne (by first | decide | (simp; done) | (simp [ms_0]; done)), e121]) (by rw [h_up_ne (by first | decide | (simp; done) | (simp [ms_0]; done)), e121])
          obtain ⟨y1, F4, y2, y3, y4, y5⟩ := ih (k + 1) j2 (i2 + 1) s' l2' (l3 + (1 : Int32)) _ nk hl2 hs2 (by omega) hr3 hE3 (fun x hx => by rw [h_up_nc (by first | decide | (simp; done) | (simp [ms_0]; done))]; exact f2 x hx) (by rw [h_up_ne (by first | decide | (simp; done) | (simp [ms_0]; done)), e121]; exact s4) (by rw [h_up_eq, e121]; exact n59) (by omega) (fun e => ⟨by have := (s10 e).2; have := (hns e).1; omega, by have := (s10 e).1; have := (hns e).2; omega⟩) h
          exact ⟨y1, F4, y2, fun c c1 c2 => by rw [y3 c c1 c2, h_up_nc c1, f1 c c2, s2 c c1], fun x x1 x2 => by rw [y4 x x1 x2, h_up_ne x2, e121, s3 x x1 x2], y5⟩
        cases hb : ms_bq E p.1 (p.2.2.toNat + i2) with
        | none =>
          rw [hb] at h
          have h := P_p h (by show ((-1 : Int32)).toInt = ((-1 : Int32)).toInt; rfl)
          refine step F2 l2 s ?_ h2 (by omega) (fun _ _ => rfl) (fun x hx => by rw [s2 148 (by first | decide | (simp; done) | (simp [ms_0]; done))]; exact ho x hx) h
          unfold fe_st
          (try dsimp only)
          rw [hb]
        | some b =>
          rw [hb] at h
          have h01 := ms_bq_01 hm (rp_by hpp) hb
          have h := P_n h (by
            show ¬ b.toInt = ((-1 : Int32)).toInt
            rcases h01 with e | e
            · rw [e]; (first | decide | (simp; done) | (simp [ms_0]; done))
            · rw [e]; (first | decide | (simp; done) | (simp [ms_0]; done)))
          obtain ⟨-, -, -, -, -, h⟩ := h
          obtain ⟨d1, d2, d3⟩ := q_i8 h3 (by omega)
          rw [show (l3 / (8 : Int32)).toInt.toNat = k / 8 by omega, d2] at h
          refine step _ (l2 + (1 : Int32)) (va_up s.1 (k / 8) (s.1 (k / 8) ||| (b <<< Int32.ofNat (k % 8))), s.2 + 1) ?_ ?_ (by show s.2 + 1 ≤ k + 1; omega) (fun c hc => h_up_nc hc) (fun x hx => ?_) h
          · unfold fe_st
            (try dsimp only)
            rw [hb]
          · rw [i_add h2 (by first | decide | (simp; done) | (simp [ms_0]; done) : ((1 : Int32)).toInt = 1) (by omega) (by omega)]
            show (s.2 : Int) + 1 = ((s.2 + 1 : Nat) : Int)
            omega
          · have e148 : F2 148 = FI 148 := s2 148 (by first | decide | (simp; done) | (simp [ms_0]; done))
            show h_up F2 148 (k / 8) (F2 148 (k / 8) ||| bt_v (some b) <<< Int32.ofNat (k % 8)) 148 x = va_up s.1 (k / 8) (s.1 (k / 8) ||| (b <<< Int32.ofNat (k % 8))) x
            by_cases ex : x = k / 8
            · subst ex
              rw [h_up_eq, va_s, e148, ho _ hx]
              rfl
            · rw [h_up_ne ex, va_o ex, e148]
              exact ho x hx
    · rw [h3, hN] at h0
      rw [fe_n (by omega)]
      exact ⟨by rw [e1]; exact h2, FI, e, fun _ _ _ => rfl, fun _ _ _ => rfl, ho⟩
end RFO
