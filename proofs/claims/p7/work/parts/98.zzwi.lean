section
/-! THE REFERENCE'S runs. -/
theorem lv_of {α : Type} {Q : Nat → α → Prop} : ∀ {L : List α}, (∀ k x, L[k]? = some x → Q (L.length - 1 - k) x) → lv Q L
  | [], _ => trivial
  | y :: r, h => ⟨by have := h 0 y rfl; simpa using this, lv_of (fun k x hx => by
      have := h (k + 1) x (by rw [← hx]; rfl)
      rw [show (y :: r).length - 1 - (k + 1) = r.length - 1 - k by simp only [List.length_cons]; omega] at this
      exact this)⟩
section RI
variable {n sl : Nat} {SH : Nat → Nat × Nat} {FR : Nat → Nat → Option Nat} {st : hS} {E : ms_E} {v : Int32}
/-- the pieces become parts -/
theorem r_59 {a1 a2 a3 : Int32} {P : List ms_P} (hP : 1 ≤ P.length ∧ P.length ≤ 16) (hz : ∀ p, p ∈ P → p.1.2.2.length ≤ 600) : ∀ (g i : Nat) (l5 : Int32) (FI : Nat → Nat → Int32) (FL : Nat → Nat → Int64), l5.toInt = i → i ≤ P.length → (FI 121 46).toInt = P.length → (FI 121 47).toInt = 1 → lv (fun i q => rq FI FL SH (16 * 0 + i) q) P → (∀ j p, j < i → P[P.length - 1 - j]? = some p → rp FI FL j p) → GX12_runs_59 a1 a2 a3 g l5 n sl SH FI FL FR v st → v.toInt = 0 ∧ ∃ F2 L2, st = (n, sl, SH, F2, L2, FR) ∧ xr FI FL F2 L2 ∧ rr F2 L2 (true, P) := by
  intro g
  induction g with
  | zero => intro i l5 FI FL _ _ _ _ _ _ h; exact h.elim
  | succ g ih =>
    intro i l5 FI FL hi hil h46 h47 hl hd h
    rcases h with ⟨h0, -, -, -, -, -, u1, n1, sl1, SH1, FI1, FL1, FR1, hp, h⟩ | ⟨h0, v2, n2, sl2, SH2, FI2, FL2, FR2, ht, e1, e⟩
    · rw [h46] at h0
      obtain ⟨p, hp0⟩ : ∃ p, P[P.length - 1 - i]? = some p := ⟨_, List.getElem?_eq_getElem (by omega)⟩
      have hq := lv_get hl hp0
      (try dsimp only at hq)
      rw [show P.length - 1 - (P.length - 1 - i) = i by omega, show 16 * 0 + i = i by omega] at hq
      obtain ⟨⟨t1, t2, t3, t4⟩, q2, q3, q4, q5, q6, q7⟩ := hq
      rw [show l5.toInt.toNat = i by omega] at hp
      obtain ⟨F2, L2, e2, hr, hpf⟩ := r_part (T := p.1) (w := p.2.1) (f := p.2.2) hi (by omega) t1 t2 t3 t4 (hz p (List.mem_of_getElem? hp0)) q2 q3 ⟨q4, q5, q6, q7⟩ hp
      cases e2
      have hxr : xr FI FL FI1 FL1 := ⟨fun c hc => ⟨hpf.1 c (by omega) (by omega) (by omega) (by omega), hpf.2.1 c (by omega)⟩, fun k _ => ⟨by rw [hpf.1 121 (by first | decide | simp) (by first | decide | simp) (by first | decide | simp) (by first | decide | simp)], by rw [hpf.2.1 121 (by first | decide | simp)]⟩⟩
      obtain ⟨z1, F3, L3, z2, z3, z4⟩ := ih (i + 1) _ FI1 FL1 (by rw [i_add hi (by first | decide | simp : ((1 : Int32)).toInt = 1) (by omega) (by omega)]; omega) (by omega) (by rw [hpf.1 121 (by first | decide | simp) (by first | decide | simp) (by first | decide | simp) (by first | decide | simp)]; exact h46) (by rw [hpf.1 121 (by first | decide | simp) (by first | decide | simp) (by first | decide | simp) (by first | decide | simp)]; exact h47) (lv_mono (fun j q hj _ hq => rq_fr hq (hpf.1 124 (by first | decide | simp) (by first | decide | simp) (by first | decide | simp) (by first | decide | simp)) (fun r hr => by rw [hpf.1 r (by omega) (by omega) (by omega) (by omega)]) (by rw [hpf.2.1 131 (by first | decide | simp)])) hl) (fun j q hj hq => by
        by_cases ej : j = i
        · subst ej
          rw [hp0] at hq
          cases hq
          exact hr
        · exact rp_fr (hd j q (by omega) hq) hpf ej) h
      exact ⟨z1, F3, L3, z2, xr_tr hxr z3, z4⟩
    · rw [h46] at h0
      have ei : i = P.length := by omega
      obtain ⟨w1, F2, w2, w3⟩ := r_tells ht
      cases w2
      refine ⟨by rw [e1, w1]; decide, _, _, e, ⟨fun c hc => ⟨fk_row w3 (by omega), rfl⟩, fun k hk => ⟨fk_at w3 (by simp; omega), rfl⟩⟩, ?_⟩
      refine rr_fr (FI := FI) (FL := FL) ⟨h46, ⟨fun e => by omega, fun e => by cases e⟩, hP, fun e => (by cases e), lv_of (fun k x hx => ?_)⟩ (fun c hc => fk_row w3 (by omega)) rfl (fk_at w3 (by first | decide | simp)) (fk_at w3 (by first | decide | simp))
      have hk : k < P.length := (List.getElem?_eq_some_iff.mp hx).1
      exact hd (P.length - 1 - k) x (by omega) (by rw [show P.length - 1 - (P.length - 1 - k) = k by omega]; exact hx)
variable {FI : Nat → Nat → Int32} {FL : Nat → Nat → Int64}
theorem r_empty {u : Unit} (h : RX12_empty n sl SH FI FL FR u st) : ∃ F2 L2, st = (n, sl, SH, F2, L2, FR) ∧ rp F2 L2 0 (ms_0, 0, 0) ∧ pf 0 (h_up (h_up FI 121 46 ((1 : Int32))) 121 47 ((0 : Int32))) FL F2 L2 := by
  obtain ⟨u2, n2, sl2, SH2, FI2, FL2, FR2, hp, -, e⟩ := h
  obtain ⟨F2, L2, e2, q1, q2⟩ := r_part (T := ms_0) (i := 0) (w := 0) (f := 0) (by first | decide | simp) (by first | decide | simp) (by first | decide | simp) (Or.inl ⟨rfl, rfl⟩) (fun e => absurd e (by first | decide | simp)) (fun e => absurd e (by first | decide | simp)) (by first | decide | simp) (by first | decide | simp) (by first | decide | simp) (by first | decide | simp) hp
  cases e2
  exact ⟨_, _, e, q1, q2⟩
theorem r_runs {A f : Nat} {bs : List Int32} {a1 a2 a3 : Int32} {Q0 : ms_Q} (hb : bk FI SH 124 A bs) (hbl : bs.length ≤ 600) (h1 : a1.toInt = A) (h2 : a2.toInt = bs.length) (h3 : a3.toInt = f) (hf1 : f ≤ 1000) (hE : rE FI FL SH E) (hne : ∀ e, ms_R E 0 0 bs 0 f ([], ms_0, []) (.inl e) → e ≠ 0) (hQ : rr FI FL Q0) (h : RX12_runs a1 a2 a3 n sl SH FI FL FR v st) : ∃ q, ms_R E 0 0 bs 0 f ([], ms_0, []) q ∧ ∃ F2 L2, st = (n, sl, SH, F2, L2, FR) ∧ xr FI FL F2 L2 ∧ match ms_en q with
    | .inl e => v.toInt = e ∧ e ≠ 0 ∧ rr F2 L2 Q0
    | .inr Q => v.toInt = 0 ∧ rr F2 L2 Q := by
  have b2 := hb.2.1
  have b3 := hb.2.2.1
  obtain ⟨u0, n0, sl0, SH0, FI0, FL0, FR0, ⟨-, e0⟩, v1, n1, sl1, SH1, FI1, FL1, FR1, hx, h⟩ := h
  cases e0
  have j0 : fk [29, 30, 31, 32, 33] FI (h_up (h_up (h_up (h_up (h_up FI 121 30 a3) 121 31 ((0 : Int32))) 121 32 ((0 : Int32))) 121 29 ((0 : Int32))) 121 33 ((-1 : Int32))) := fk_up (fk_up (fk_up (fk_up (fk_up fk_rf (by first | decide | simp)) (by first | decide | simp)) (by first | decide | simp)) (by first | decide | simp)) (by first | decide | simp)
  have x30 : ((h_up (h_up (h_up (h_up (h_up FI 121 30 a3) 121 31 ((0 : Int32))) 121 32 ((0 : Int32))) 121 29 ((0 : Int32))) 121 33 ((-1 : Int32))) 121 30).toInt = f := by
    rw [h_up_ne (by first | decide | simp), h_up_ne (by first | decide | simp), h_up_ne (by first | decide | simp), h_up_ne (by first | decide | simp), h_up_eq]; exact h3
  have x29 : ((h_up (h_up (h_up (h_up (h_up FI 121 30 a3) 121 31 ((0 : Int32))) 121 32 ((0 : Int32))) 121 29 ((0 : Int32))) 121 33 ((-1 : Int32))) 121 29).toInt = 0 := by
    rw [h_up_ne (by first | decide | simp), h_up_eq]; decide
  generalize h_up (h_up (h_up (h_up (h_up FI 121 30 a3) 121 31 ((0 : Int32))) 121 32 ((0 : Int32))) 121 29 ((0 : Int32))) 121 33 ((-1 : Int32)) = FB at hx j0 x30 x29
  have hEB : rE FB FL SH E := rE_fr hE (fk_row j0 (by first | decide | simp)) (fk_row j0 (by first | decide | simp)) (fk_row j0 (by first | decide | simp)) (fun k hk => fk_at j0 (by simp; omega)) (fun _ _ => rfl) rfl
  have xB : xr FI FL FB FL := ⟨fun c hc => ⟨fk_row j0 (by omega), rfl⟩, fun k hk => ⟨fk_at j0 (by simp; omega), rfl⟩⟩
  have QB : rr FB FL Q0 := rr_fr hQ (fun c hc => fk_row j0 (by omega)) rfl (fk_at j0 (by first | decide | simp)) (fk_at j0 (by first | decide | simp))
  obtain ⟨q, hq, F1, L1, e1, x1, c143, c145, c146, c147, l144, c46, c47, hm⟩ := r_exec (bk_fr hb (fk_row j0 (by first | decide | simp))) hbl h1 (by rw [i_add h1 h2 (by omega) (by omega)]; omega) hEB x30 hf1 x29 hx
  cases e1
  have Q1 : rr FI1 FL1 Q0 := rr_fr QB (fun c hc => by rcases hc with rfl | rfl | rfl | rfl <;> assumption) l144 c46 c47
  refine ⟨q, hq, ?_⟩
  have fault : ∀ e : Int, e ≠ 0 → v1.toInt = e → ∃ F2 L2, st = (n, sl, SH, F2, L2, FR) ∧ xr FI FL F2 L2 ∧ v.toInt = e ∧ e ≠ 0 ∧ rr F2 L2 Q0 := by
    intro e he hv
    have h := P_n h (by rw [hv]; exact he)
    obtain ⟨v2, n2, sl2, SH2, FI2, FL2, FR2, ht, e1, e3⟩ := h
    obtain ⟨w1, F2, w2, w3⟩ := r_tells ht
    cases w2
    exact ⟨_, _, e3, xr_tr (xr_tr xB x1) ⟨fun c hc => ⟨fk_row w3 (by omega), rfl⟩, fun k hk => ⟨fk_at w3 (by simp; omega), rfl⟩⟩, by rw [e1, w1]; exact hv, he, rr_fr Q1 (fun c hc => fk_row w3 (by omega)) rfl (fk_at w3 (by first | decide | simp)) (fk_at w3 (by first | decide | simp))⟩
  match q, hq, hm with
  | .inl e, hq, hm => exact fault e (hne e hq) hm
  | .inr y, hq, Or.inl ⟨m1, m2, m3⟩ =>
    have : ms_en (.inr y) = .inl 13 := by
      show ms_fin y.2 = .inl 13
      unfold ms_fin
      rw [if_pos m1, if_pos m2]
    rw [this]
    exact fault 13 (by first | decide | simp) m3
  | .inr y, hq, Or.inr ⟨m1, m2, m3⟩ =>
    have hsz := ms_hz (fun k hk => (hE.2.2.1 k hk).2.1) hE.2.2.2.1.2.2 hq hbl sz_0
    have h := P_p h m2
    obtain ⟨-, h⟩ := h
    obtain ⟨w1, w2, w3, w4, w5, w6, w7, w8, w9, w10⟩ := id m3
    rcases h with ⟨hp, -, g, h⟩ | ⟨hp, h⟩
    · have hne2 : y.2.2.2 ≠ [] := fun e => by
        rw [w5, e] at hp
        exact absurd hp (by first | decide | simp)
      have : ms_en (.inr y) = .inr (true, y.2.2.2) := by
        show ms_fin y.2 = .inr (true, y.2.2.2)
        unfold ms_fin
        rw [if_pos hne2, if_neg (fun e => m1 ⟨hne2, e⟩)]
      rw [this]
      rw [w5] at hp
      obtain ⟨z1, F3, L3, z2, z3, z4⟩ := r_59 (P := y.2.2.2) ⟨by omega, w6⟩ hsz.2 g 0 _ _ _ (by first | decide | simp) (by omega) (by rw [h_up_ne (by first | decide | simp), h_up_eq]; exact w5) (by rw [h_up_eq]; decide) (lv_mono (fun j q hj _ hq => rq_fr hq (by rw [h_up_nc (by first | decide | simp), h_up_nc (by first | decide | simp)]) (fun r hr => by rw [h_up_nc (by omega), h_up_nc (by omega)]) rfl) w10) (fun j p hj => by omega) h
      refine ⟨F3, L3, z2, xr_tr (xr_tr xB x1) (xr_tr ⟨fun c hc => ⟨by rw [h_up_nc (by omega), h_up_nc (by omega)], rfl⟩, fun k hk => ⟨by rw [h_up_ne (by omega), h_up_ne (by omega)], rfl⟩⟩ z3), z1, z4⟩
    · have hnil : y.2.2.2 = [] := by
        cases hy : y.2.2.2 with
        | nil => rfl
        | cons a r => rw [w5, hy] at hp; simp only [List.length_cons] at hp; exfalso; omega
      have : ms_en (.inr y) = .inr (false, [(ms_tg y.2, 0, 0)]) := by
        show ms_fin y.2 = .inr (false, [(ms_tg y.2, 0, 0)])
        unfold ms_fin
        rw [if_neg (fun e => e hnil)]
      rw [this]
      obtain ⟨u6, n6, sl6, SH6, FI6, FL6, FR6, hem, -, h⟩ := h
      obtain ⟨F6, L6, e6, p6, f6⟩ := r_empty hem
      cases e6
      have r6 : ∀ c, c ≠ 121 → c ≠ 143 → c ≠ 145 → c ≠ 146 → c ≠ 147 → FI6 c = FI1 c := fun c c1 c2 c3 c4 c5 => by rw [f6.1 c c2 c3 c4 c5, h_up_nc c1, h_up_nc c1]
      have x6 : xr FI1 FL1 FI6 FL6 := ⟨fun c hc => ⟨r6 c (by omega) (by omega) (by omega) (by omega) (by omega), f6.2.1 c (by omega)⟩, fun k hk => ⟨by rw [f6.1 121 (by first | decide | simp) (by first | decide | simp) (by first | decide | simp) (by first | decide | simp), h_up_ne (by omega), h_up_ne (by omega)], by rw [f6.2.1 121 (by first | decide | simp)]⟩⟩
      have a46 : (FI6 121 46).toInt = 1 := by rw [f6.1 121 (by first | decide | simp) (by first | decide | simp) (by first | decide | simp) (by first | decide | simp), h_up_ne (by first | decide | simp), h_up_eq]; decide
      have a47 : (FI6 121 47).toInt = 0 := by rw [f6.1 121 (by first | decide | simp) (by first | decide | simp) (by first | decide | simp) (by first | decide | simp), h_up_eq]; decide
      have fin : ∀ {F7 : Nat → Nat → Int32} {L7 : Nat → Nat → Int64} {T : ms_H}, xr FI6 FL6 F7 L7 → F7 121 46 = FI6 121 46 → F7 121 47 = FI6 121 47 → rp F7 L7 0 (T, 0, 0) → T = ms_tg y.2 → P_bi (RX12_tells ((0 : Int32)) ((-1 : Int32)) n sl SH F7 L7 FR) (fun v10 n10 sl10 SH10 FI10 FL10 FR10 => P_ret v10 (n10, sl10, SH10, FI10, FL10, FR10)) v st → ∃ F2 L2, st = (n, sl, SH, F2, L2, FR) ∧ xr FI FL F2 L2 ∧ v.toInt = 0 ∧ rr F2 L2 (false, [(ms_tg y.2, 0, 0)]) := by
        intro F7 L7 T g1 g2 g3 g4 g5 h
        obtain ⟨v2, n2, sl2, SH2, FI2, FL2, FR2, ht, e1, e3⟩ := h
        obtain ⟨y1, F2, y2, y3⟩ := r_tells ht
        cases y2
        refine ⟨_, _, e3, xr_tr (xr_tr xB x1) (xr_tr x6 (xr_tr g1 ⟨fun c hc => ⟨fk_row y3 (by omega), rfl⟩, fun k hk => ⟨fk_at y3 (by simp; omega), rfl⟩⟩)), by rw [e1, y1]; decide, ?_⟩
        rw [← g5]
        exact rr_fr (FI := F7) (FL := L7) ⟨by rw [g2]; exact a46, ⟨fun _ => rfl, fun _ => by rw [g3]; exact a47⟩, ⟨by first | decide | simp, by simp⟩, fun _ => rfl, g4, trivial⟩ (fun c hc => fk_row y3 (by omega)) rfl (fk_at y3 (by first | decide | simp)) (fk_at y3 (by first | decide | simp))
      have one : ∀ {T : ms_H} {k z : Int32} {x : Int64}, k.toInt = T.1 → ms_ok T → ((T.1 = 1 ∨ T.1 = 2 ∨ T.1 = 3) → x = T.2.1) → (T.1 = 4 → ∃ D : Nat, x.toInt = D ∧ z.toInt = T.2.2.length ∧ bk FI6 SH 124 D T.2.2) → T.2.2.length ≤ 600 → T = ms_tg y.2 → P_bi (RX12_part ((0 : Int32)) k x ((0 : Int32)) ((0 : Int32)) z n sl SH FI6 FL6 FR) (fun v9 n9 sl9 SH9 FI9 FL9 FR9 => P_bi (RX12_tells ((0 : Int32)) ((-1 : Int32)) n9 sl9 SH9 FI9 FL9 FR9) (fun v10 n10 sl10 SH10 FI10 FL10 FR10 => P_ret v10 (n10, sl10, SH10, FI10, FL10, FR10))) v st → ∃ F2 L2, st = (n, sl, SH, F2, L2, FR) ∧ xr FI FL F2 L2 ∧ v.toInt = 0 ∧ rr F2 L2 (false, [(ms_tg y.2, 0, 0)]) := by
        intro T k z x g1 g2 g3 g4 g5 g6 h
        obtain ⟨u9, n9, sl9, SH9, FI9, FL9, FR9, hpt, h⟩ := h
        obtain ⟨F2, L2, e2, y1, y2⟩ := r_part (T := T) (i := 0) (w := 0) (f := 0) (by first | decide | simp) (by first | decide | simp) g1 g2 g3 g4 g5 (by first | decide | simp) (by first | decide | simp) (by first | decide | simp) hpt
        cases e2
        exact fin ⟨fun c hc => ⟨y2.1 c (by omega) (by omega) (by omega) (by omega), y2.2.1 c (by omega)⟩, fun k _ => ⟨by rw [y2.1 121 (by first | decide | simp) (by first | decide | simp) (by first | decide | simp) (by first | decide | simp)], by rw [y2.2.1 121 (by first | decide | simp)]⟩⟩ (by rw [y2.1 121 (by first | decide | simp) (by first | decide | simp) (by first | decide | simp) (by first | decide | simp)]) (by rw [y2.1 121 (by first | decide | simp) (by first | decide | simp) (by first | decide | simp) (by first | decide | simp)]) y1 g6 h
      rw [r6 136 (by first | decide | simp) (by first | decide | simp) (by first | decide | simp) (by first | decide | simp) (by first | decide | simp), w4.1] at h
      rcases h with ⟨hk, -, h⟩ | ⟨hk, -, -, -, h⟩
      · have hH := ms_ok0 w4.2.1 hk
        rw [r6 128 (by first | decide | simp) (by first | decide | simp) (by first | decide | simp) (by first | decide | simp) (by first | decide | simp), w1] at h
        rcases h with ⟨hs, -, -, h⟩ | ⟨hs, h⟩
        · cases hy : y.2.1 with
          | nil => rw [hy] at hs; exact absurd hs (by first | decide | simp)
          | cons t R =>
            have w1' := w1
            rw [hy] at w1'
            simp only [List.length_cons] at w1'
            have et : FL6 127 ((FI1 128 0) - (1 : Int32)).toInt.toNat = t := by
              rw [f6.2.1 127 (by first | decide | simp), i_sub w1' (by first | decide | simp : ((1 : Int32)).toInt = 1) (by omega) (by rw [hy] at w2; simp only [List.length_cons] at w2; omega), show (((R.length + 1 : Nat) : Int) - 1).toNat = 128 * 0 + R.length by omega]
              rw [hy] at w3
              exact w3.1
            rw [et] at h
            refine one (T := (1, t, [])) (by first | decide | simp) (Or.inr (Or.inl ⟨rfl, rfl⟩)) (fun _ => rfl) (fun e => absurd e (by first | decide | simp)) (by first | decide | simp) ?_ h
            unfold ms_tg
            rw [if_pos hk, hy]
        · refine fin ⟨fun _ _ => ⟨rfl, rfl⟩, fun _ _ => ⟨rfl, rfl⟩⟩ rfl rfl p6 ?_ h
          unfold ms_tg
          rw [if_pos hk]
          cases hy : y.2.1 with
          | nil => rfl
          | cons t R => rw [hy] at hs; simp only [List.length_cons] at hs; exfalso; omega
      · refine one (T := y.2.2.1) w4.1 w4.2.1 (fun e => by rw [f6.2.1 137 (by first | decide | simp)]; exact w4.2.2.1 e) (fun e => ?_) hsz.1.2 ?_ h
        · obtain ⟨D, d1, d2, d3⟩ := w4.2.2.2 e
          exact ⟨D, by rw [f6.2.1 137 (by first | decide | simp)]; exact d1, by rw [r6 138 (by first | decide | simp) (by first | decide | simp) (by first | decide | simp) (by first | decide | simp) (by first | decide | simp)]; exact d2, bk_fr d3 (r6 124 (by first | decide | simp) (by first | decide | simp) (by first | decide | simp) (by first | decide | simp) (by first | decide | simp))⟩
        · unfold ms_tg
          rw [if_neg hk]
end RI
end
section
/-! THE SEARCH OF A LIST, and the reference's. -/
theorem b_nat {a : Int32} (h : 0 ≤ a.toInt ∧ a.toInt ≤ 255) : a.toInt64.toBitVec.toNat < 256 := by
  have e : (a.toInt64).toInt = a.toInt := i_2l rfl
  have e2 : a.toInt64.toBitVec.toInt = a.toInt := e
  rw [BitVec.toInt_eq_toNat_cond] at e2
  have := a.toInt64.toBitVec.isLt
  split at e2 <;> omega
theorem ms_n2 {a b : Int32} (ha : 0 ≤ a.toInt ∧ a.toInt ≤ 255) (hb : 0 ≤ b.toInt ∧ b.toInt ≤ 255) : 0 ≤ (ms_le [a, b]).toInt ∧ (ms_le [a, b]).toInt ≤ 65535 := by
  have e1 : (ms_le [b]).toBitVec.toNat < 256 := by
    rw [ms_le_c, BitVec.toNat_or]
    refine Nat.or_lt_two_pow (n := 8) ?_ (b_nat hb)
    show ((0 : Int64).toBitVec <<< 8).toNat < 2 ^ 8
    decide
  have e2 : (ms_le [a, b]).toBitVec.toNat < 65536 := by
    rw [ms_le_c, BitVec.toNat_or]
    refine Nat.or_lt_two_pow (n := 16) ?_ (Nat.lt_of_lt_of_le (b_nat ha) (by first | decide | simp))
    rw [BitVec.toNat_shiftLeft, Nat.shiftLeft_eq]
    refine Nat.lt_of_le_of_lt (Nat.mod_le _ _) ?_
    omega
  have e3 : (ms_le [a, b]).toInt = (ms_le [a, b]).toBitVec.toInt := rfl
  rw [e3, BitVec.toInt_eq_toNat_cond]
  split <;> omega
def ms_nb (bs : List Int32) (p k : Nat) : Int64 := ms_le ((bs.drop p).take k)
def ms_bt (bs : List Int32) : Prop := ∀ (i : Nat) (b : Int32), bs[i]? = some b → 0 ≤ b.toInt ∧ b.toInt ≤ 255
theorem ms_n16 {bs : List Int32} {p : Nat} (hb : ms_bt bs) (h : p + 2 ≤ bs.length) : 0 ≤ (ms_nb bs p 2).toInt ∧ (ms_nb bs p 2).toInt ≤ 65535 := by
  obtain ⟨a, ha⟩ := ms_ex_i (bs := bs) (i := p + 0) (by omega)
  obtain ⟨b, hb2⟩ := ms_ex_i (bs := bs) (i := p + 1) (by omega)
  have e : (bs.drop p).take 2 = [a, b] := by
    rw [show (2 : Nat) = 1 + 1 from rfl, ms_tk (k := 2) hb2 (by first | decide | simp), show (1 : Nat) = 0 + 1 from rfl, ms_tk (k := 2) ha (by first | decide | simp)]
    rfl
  unfold ms_nb
  rw [e]
  exact ms_n2 (hb _ _ ha) (hb _ _ hb2)
abbrev ms_bw (a b : Int64) : Prop := (a + ((-9223372036854775808 : Int64))).toInt < (b + ((-9223372036854775808 : Int64))).toInt
/-- the search: a fault, nothing found, or the bytes to be run -/
def ms_sr (bs : List Int32) (pc : Int64) : Nat → Int64 → Nat → Option (Int ⊕ Option (List Int32))
  | 0, _, _ => none
  | g + 1, B, p =>
    if bs.length < p + 16 then some (.inl 1)
    else if (ms_nb bs p 8).toInt = 0 ∧ (ms_nb bs (p + 8) 8).toInt = 0 then some (.inr none)
    else if (ms_nb bs p 8).toInt = -1 then ms_sr bs pc g (ms_nb bs (p + 8) 8) (p + 16)
    else if bs.length < p + 18 then some (.inl 1)
    else if bs.length < p + 18 + (ms_nb bs (p + 16) 2).toInt.toNat then some (.inl 1)
    else if ¬ ms_bw pc (B + ms_nb bs p 8) ∧ ms_bw pc (B + ms_nb bs (p + 8) 8) then some (.inr (some ((bs.drop (p + 18)).take (ms_nb bs (p + 16) 2).toInt.toNat)))
    else ms_sr bs pc g B (p + 18 + (ms_nb bs (p + 16) 2).toInt.toNat)
theorem ms_sr_m {bs : List Int32} {pc : Int64} {r : Int ⊕ Option (List Int32)} : ∀ (g : Nat) (B : Int64) (p : Nat), ms_sr bs pc g B p = some r → ms_sr bs pc (g + 1) B p = some r := by
  intro g
  induction g with
  | zero => intro B p h; cases h
  | succ g ih =>
    intro B p h
    rw [ms_sr] at h ⊢
    by_cases h1 : bs.length < p + 16
    · rw [if_pos h1] at h ⊢; exact h
    rw [if_neg h1] at h ⊢
    by_cases h2 : (ms_nb bs p 8).toInt = 0 ∧ (ms_nb bs (p + 8) 8).toInt = 0
    · rw [if_pos h2] at h ⊢; exact h
    rw [if_neg h2] at h ⊢
    by_cases h3 : (ms_nb bs p 8).toInt = -1
    · rw [if_pos h3] at h ⊢; exact ih _ _ h
    rw [if_neg h3] at h ⊢
    by_cases h4 : bs.length < p + 18
    · rw [if_pos h4] at h ⊢; exact h
    rw [if_neg h4] at h ⊢
    by_cases h5 : bs.length < p + 18 + (ms_nb bs (p + 16) 2).toInt.toNat
    · rw [if_pos h5] at h ⊢; exact h
    rw [if_neg h5] at h ⊢
    by_cases h6 : ¬ ms_bw pc (B + ms_nb bs p 8) ∧ ms_bw pc (B + ms_nb bs (p + 8) 8)
    · rw [if_pos h6] at h ⊢; exact h
    rw [if_neg h6] at h ⊢
    exact ih _ _ h
theorem ms_sr_n {bs : List Int32} {pc : Int64} {r : Int ⊕ Option (List Int32)} {g g2 : Nat} {B : Int64} {p : Nat} (h : ms_sr bs pc g B p = some r) (hg : g ≤ g2) : ms_sr bs pc g2 B p = some r := by
  induction hg with
  | refl => exact h
  | step _ ih => exact ms_sr_m _ _ _ ih
def ms_SR (bs : List Int32) (pc B : Int64) (p : Nat) (r : Int ⊕ Option (List Int32)) : Prop := ∃ g, ms_sr bs pc g B p = some r
section SR
variable {bs : List Int32} {pc B : Int64} {p : Nat} {r r2 : Int ⊕ Option (List Int32)}
theorem ms_SR_u (h : ms_SR bs pc B p r) (h2 : ms_SR bs pc B p r2) : r = r2 := by
  obtain ⟨g, h⟩ := h
  obtain ⟨g2, h2⟩ := h2
  have a := ms_sr_n (g2 := g + g2) h (by omega)
  have b := ms_sr_n (g2 := g + g2) h2 (by omega)
  rw [a] at b
  exact Option.some.inj b
theorem sr_a (h : bs.length < p + 16) : ms_SR bs pc B p (.inl 1) := ⟨0 + 1, by rw [ms_sr, if_pos h]⟩
theorem sr_b (h : ¬ bs.length < p + 16) (h1 : (ms_nb bs p 8).toInt = 0) (h2 : (ms_nb bs (p + 8) 8).toInt = 0) : ms_SR bs pc B p (.inr none) := ⟨0 + 1, by rw [ms_sr, if_neg h, if_pos ⟨h1, h2⟩]⟩
theorem sr_c (h : ¬ bs.length < p + 16) (h2 : ¬ ((ms_nb bs p 8).toInt = 0 ∧ (ms_nb bs (p + 8) 8).toInt = 0)) (h3 : (ms_nb bs p 8).toInt = -1) (hr : ms_SR bs pc (ms_nb bs (p + 8) 8) (p + 16) r) : ms_SR bs pc B p r := by
  obtain ⟨g, hr⟩ := hr
  exact ⟨g + 1, by rw [ms_sr, if_neg h, if_neg h2, if_pos h3]; exact hr⟩
theorem sr_d (h : ¬ bs.length < p + 16) (h2 : ¬ ((ms_nb bs p 8).toInt = 0 ∧ (ms_nb bs (p + 8) 8).toInt = 0)) (h3 : ¬ (ms_nb bs p 8).toInt = -1) (h4 : bs.length < p + 18) : ms_SR bs pc B p (.inl 1) := ⟨0 + 1, by rw [ms_sr, if_neg h, if_neg h2, if_neg h3, if_pos h4]⟩
theorem sr_e (h : ¬ bs.length < p + 16) (h2 : ¬ ((ms_nb bs p 8).toInt = 0 ∧ (ms_nb bs (p + 8) 8).toInt = 0)) (h3 : ¬ (ms_nb bs p 8).toInt = -1) (h4 : ¬ bs.length < p + 18) (h5 : bs.length < p + 18 + (ms_nb bs (p + 16) 2).toInt.toNat) : ms_SR bs pc B p (.inl 1) := ⟨0 + 1, by rw [ms_sr, if_neg h, if_neg h2, if_neg h3, if_neg h4, if_pos h5]⟩
theorem sr_f (h : ¬ bs.length < p + 16) (h2 : ¬ ((ms_nb bs p 8).toInt = 0 ∧ (ms_nb bs (p + 8) 8).toInt = 0)) (h3 : ¬ (ms_nb bs p 8).toInt = -1) (h4 : ¬ bs.length < p + 18) (h5 : ¬ bs.length < p + 18 + (ms_nb bs (p + 16) 2).toInt.toNat) (h6 : ¬ ms_bw pc (B + ms_nb bs p 8)) (h7 : ms_bw pc (B + ms_nb bs (p + 8) 8)) : ms_SR bs pc B p (.inr (some ((bs.drop (p + 18)).take (ms_nb bs (p + 16) 2).toInt.toNat))) := ⟨0 + 1, by rw [ms_sr, if_neg h, if_neg h2, if_neg h3, if_neg h4, if_neg h5, if_pos ⟨h6, h7⟩]⟩
theorem sr_g (h : ¬ bs.length < p + 16) (h2 : ¬ ((ms_nb bs p 8).toInt = 0 ∧ (ms_nb bs (p + 8) 8).toInt = 0)) (h3 : ¬ (ms_nb bs p 8).toInt = -1) (h4 : ¬ bs.length < p + 18) (h5 : ¬ bs.length < p + 18 + (ms_nb bs (p + 16) 2).toInt.toNat) (h6 : ¬ (¬ ms_bw pc (B + ms_nb bs p 8) ∧ ms_bw pc (B + ms_nb bs (p + 8) 8))) (hr : ms_SR bs pc B (p + 18 + (ms_nb bs (p + 16) 2).toInt.toNat) r) : ms_SR bs pc B p r := by
  obtain ⟨g, hr⟩ := hr
  exact ⟨g + 1, by rw [ms_sr, if_neg h, if_neg h2, if_neg h3, if_neg h4, if_neg h5, if_neg h6]; exact hr⟩
end SR
theorem bk_bt {FI : Nat → Nat → Int32} {SH : Nat → Nat × Nat} {r A : Nat} {bs : List Int32} (h : bk FI SH r A bs) : ms_bt bs := fun i b hi => (h.2.2.2 i b hi).2
/-- what a search or a run has to answer -/
def ms_F (E : ms_E) (bs : List Int32) (pc B : Int64) (p f : Nat) (a : Int ⊕ ms_Q) : Prop := ∃ r, ms_SR bs pc B p r ∧ match r with
  | .inl e => a = .inl e
  | .inr none => a = .inr (false, [(ms_0, 0, 0)])
  | .inr (some L) => ∃ q, ms_R E 0 0 L 0 f ([], ms_0, []) q ∧ a = ms_en q
def ms_G (E : ms_E) (bs : List Int32) (f : Nat) (a : Int ⊕ ms_Q) : Prop := ∃ q, ms_R E 0 0 bs 0 f ([], ms_0, []) q ∧ a = ms_en q
theorem ms_G_u {E : ms_E} {bs : List Int32} {f : Nat} {a a2 : Int ⊕ ms_Q} (h : ms_G E bs f a) (h2 : ms_G E bs f a2) : a = a2 := by
  obtain ⟨q, h, e⟩ := h
  obtain ⟨q2, h2, e2⟩ := h2
  rw [e, e2, ms_R_u h h2]
theorem ms_F_u {E : ms_E} {bs : List Int32} {pc B : Int64} {p f : Nat} {a a2 : Int ⊕ ms_Q} (h : ms_F E bs pc B p f a) (h2 : ms_F E bs pc B p f a2) : a = a2 := by
  obtain ⟨r, h, e⟩ := h
  obtain ⟨r2, h2, e2⟩ := h2
  have er := ms_SR_u h h2
  subst er
  match r, e, e2 with
  | .inl x, e, e2 => rw [e, e2]
  | .inr none, e, e2 => rw [e, e2]
  | .inr (some L), e, e2 => exact ms_G_u e e2
/-- an answer, in the reference -/
def rz (FI : Nat → Nat → Int32) (FL : Nat → Nat → Int64) (Q0 : ms_Q) (v : Int32) : Int ⊕ ms_Q → Prop
  | .inl e => v.toInt = e ∧ e ≠ 0 ∧ rr FI FL Q0
  | .inr Q => v.toInt = 0 ∧ rr FI FL Q
section RJ
variable {n sl : Nat} {SH : Nat → Nat × Nat} {FR : Nat → Nat → Option Nat} {E : ms_E} {FI : Nat → Nat → Int32} {FL : Nat → Nat → Int64}
theorem i_bw {a b : Int64} : (fX12_isBelow a b SH FI FL FR).toInt = 0 ↔ ¬ ms_bw a b := by
  unfold fX12_isBelow ms_bw
  by_cases h : (a + ((-9223372036854775808 : Int64))).toInt < (b + ((-9223372036854775808 : Int64))).toInt
  · rw [if_pos h]; exact ⟨fun e => absurd e (by first | decide | simp), fun e => absurd h e⟩
  · rw [if_neg h]; exact ⟨fun _ => h, fun _ => by first | decide | simp⟩
theorem r_runs2 {A f : Nat} {bs : List Int32} {a1 a2 a3 v : Int32} {Q0 : ms_Q} {st : hS} (hb : bk FI SH 124 A bs) (hbl : bs.length ≤ 600) (h1 : a1.toInt = A) (h2 : a2.toInt = bs.length) (h3 : a3.toInt = f) (hf1 : f ≤ 1000) (hE : rE FI FL SH E) (hne : ∀ e, ms_R E 0 0 bs 0 f ([], ms_0, []) (.inl e) → e ≠ 0) (hQ : rr FI FL Q0) (h : RX12_runs a1 a2 a3 n sl SH FI FL FR v st) : ∃ a, ms_G E bs f a ∧ ∃ F2 L2, st = (n, sl, SH, F2, L2, FR) ∧ xr FI FL F2 L2 ∧ rz F2 L2 Q0 v a := by
  obtain ⟨q, hq, F2, L2, e, x, m⟩ := r_runs hb hbl h1 h2 h3 hf1 hE hne hQ h
  refine ⟨ms_en q, ⟨q, hq, rfl⟩, F2, L2, e, x, ?_⟩
  generalize ms_en q = a at m ⊢
  match a, m with
  | .inl e, m => exact m
  | .inr Q, m => exact m
theorem r_f12 {A f : Nat} {bs : List Int32} {a1 a2 a5 : Int32} {a3 a4 : Int64} {Q0 : ms_Q} (hb : bk FI SH 124 A bs) (hbl : bs.length ≤ 600) (h1 : a1.toInt = A) (h2 : a2.toInt = bs.length) (h5 : a5.toInt = f) (hf1 : f ≤ 1000) (hE : rE FI FL SH E) (hQ : rr FI FL Q0) : ∀ (g p : Nat) (B : Int64) (l10 v : Int32) (st : hS), l10.toInt = p → p ≤ bs.length → (∀ L, ms_SR bs a4 B p (.inr (some L)) → ∀ e, ms_R E 0 0 L 0 f ([], ms_0, []) (.inl e) → e ≠ 0) → GX12_finds_12 a1 a2 a3 a4 a5 g B l10 n sl SH FI FL FR v st → ∃ a, ms_F E bs a4 B p f a ∧ ∃ F2 L2, st = (n, sl, SH, F2, L2, FR) ∧ xr FI FL F2 L2 ∧ rz F2 L2 Q0 v a := by
  intro g
  induction g with
  | zero => intro p B l10 v st _ _ _ h; exact h.elim
  | succ g ih =>
    intro p B l10 v st hp hpl hne h
    have b2 := hb.2.1
    have b3 := hb.2.2.1
    have e16 : (l10 + (16 : Int32)).toInt = ((p + 16 : Nat) : Int) := by rw [i_add hp (by first | decide | simp : ((16 : Int32)).toInt = 16) (by omega) (by omega)]; omega
    have e18 : (l10 + (18 : Int32)).toInt = ((p + 18 : Nat) : Int) := by rw [i_add hp (by first | decide | simp : ((18 : Int32)).toInt = 18) (by omega) (by omega)]; omega
    have eA : (a1 + l10).toInt = ((A + p : Nat) : Int) := by rw [i_add h1 hp (by omega) (by omega)]; omega
    have eA8 : (a1 + l10 + (8 : Int32)).toInt = ((A + (p + 8) : Nat) : Int) := by rw [i_add eA (by first | decide | simp : ((8 : Int32)).toInt = 8) (by omega) (by omega)]; omega
    have eA16 : (a1 + l10 + (16 : Int32)).toInt = ((A + (p + 16) : Nat) : Int) := by rw [i_add eA (by first | decide | simp : ((16 : Int32)).toInt = 16) (by omega) (by omega)]; omega
    have eA18 : (a1 + l10 + (18 : Int32)).toInt = ((A + (p + 18) : Nat) : Int) := by rw [i_add eA (by first | decide | simp : ((18 : Int32)).toInt = 18) (by omega) (by omega)]; omega
    have fault1 : ms_SR bs a4 B p (.inl 1) → P_bi (RX12_tells ((1 : Int32)) l10 n sl SH FI FL FR) (fun v1 n1 sl1 SH1 FI1 FL1 FR1 => P_ret v1 (n1, sl1, SH1, FI1, FL1, FR1)) v st → ∃ a, ms_F E bs a4 B p f a ∧ ∃ F2 L2, st = (n, sl, SH, F2, L2, FR) ∧ xr FI FL F2 L2 ∧ rz F2 L2 Q0 v a := by
      intro hs h
      obtain ⟨v1, n1, sl1, SH1, FI1, FL1, FR1, ht, e1, e⟩ := h
      obtain ⟨w1, F2, w2, w3⟩ := r_tells ht
      cases w2
      exact ⟨.inl 1, ⟨.inl 1, hs, rfl⟩, _, _, e, ⟨fun c hc => ⟨fk_row w3 (by omega), rfl⟩, fun k hk => ⟨fk_at w3 (by simp; omega), rfl⟩⟩, by rw [e1, w1]; decide, by first | decide | simp, rr_fr hQ (fun c hc => fk_row w3 (by omega)) rfl (fk_at w3 (by first | decide | simp)) (fk_at w3 (by first | decide | simp))⟩
    rcases h with ⟨h0, h⟩ | ⟨h0, h⟩
    · rw [h2, e16] at h0
      exact fault1 (sr_a (by omega)) h
    rw [h2, e16] at h0
    have k0 : ¬ bs.length < p + 16 := by omega
    obtain ⟨v2, n2, sl2, SH2, FI2, FL2, FR2, hn2, v3, n3, sl3, SH3, FI3, FL3, FR3, hn3, h⟩ := h
    obtain ⟨w2, y2⟩ := rn_num (p := p) (k := 8) hb eA (by first | decide | simp) (by first | decide | simp) (by omega) hn2
    cases y2
    obtain ⟨w3, y3⟩ := rn_num (p := p + 8) (k := 8) hb eA8 (by first | decide | simp) (by first | decide | simp) (by omega) hn3
    cases y3
    have go : ¬ ((ms_nb bs p 8).toInt = 0 ∧ (ms_nb bs (p + 8) 8).toInt = 0) → RX12_finds_81 (GX12_finds_12 a1 a2 a3 a4 a5 g) a1 a2 a3 a4 a5 B l10 v2 v3 n sl SH FI FL FR v st → ∃ a, ms_F E bs a4 B p f a ∧ ∃ F2 L2, st = (n, sl, SH, F2, L2, FR) ∧ xr FI FL F2 L2 ∧ rz F2 L2 Q0 v a := by
      intro k1 h
      rw [w2, w3] at h
      rcases h with ⟨q1, h⟩ | ⟨q1, h⟩
      · have q1 : (ms_nb bs p 8).toInt = -1 := q1
        obtain ⟨a, ⟨r, r1, r2⟩, z⟩ := ih (p + 16) (ms_nb bs (p + 8) 8) _ v st e16 (by omega) (fun L hL => hne L (sr_c k0 k1 q1 hL)) h
        exact ⟨a, ⟨r, sr_c k0 k1 q1 r1, r2⟩, z⟩
      have q1 : ¬ (ms_nb bs p 8).toInt = -1 := q1
      rcases h with ⟨q2, h⟩ | ⟨q2, h⟩
      · rw [h2, e18] at q2
        exact fault1 (sr_d k0 k1 q1 (by omega)) h
      rw [h2, e18] at q2
      have k2 : ¬ bs.length < p + 18 := by omega
      obtain ⟨v4, n4, sl4, SH4, FI4, FL4, FR4, hn4, h⟩ := h
      obtain ⟨w4, y4⟩ := rn_num (p := p + 16) (k := 2) hb eA16 (by first | decide | simp) (by first | decide | simp) (by omega) hn4
      cases y4
      have hz := ms_n16 (p := p + 16) (bk_bt hb) (by omega)
      have w4 : v4 = ms_nb bs (p + 16) 2 := w4
      rw [w4] at h
      have ez : ((ms_nb bs (p + 16) 2).toInt32).toInt = (((ms_nb bs (p + 16) 2).toInt.toNat : Nat) : Int) := by rw [l_2i (A := (ms_nb bs (p + 16) 2).toInt) rfl (by omega) (by omega)]; omega
      generalize hzz : (ms_nb bs (p + 16) 2).toInt.toNat = z at ez
      have hz2 : z ≤ 65535 := by omega
      have e18z : (l10 + (18 : Int32) + (ms_nb bs (p + 16) 2).toInt32).toInt = ((p + 18 + z : Nat) : Int) := by rw [i_add e18 ez (by omega) (by omega)]; omega
      have on : ∀ _ : ¬ (bs.length < p + 18 + z), ¬ (¬ ms_bw a4 (B + ms_nb bs p 8) ∧ ms_bw a4 (B + ms_nb bs (p + 8) 8)) → GX12_finds_12 a1 a2 a3 a4 a5 g B (l10 + (18 : Int32) + (ms_nb bs (p + 16) 2).toInt32) n sl SH FI FL FR v st → ∃ a, ms_F E bs a4 B p f a ∧ ∃ F2 L2, st = (n, sl, SH, F2, L2, FR) ∧ xr FI FL F2 L2 ∧ rz F2 L2 Q0 v a := by
        intro k3 k4 h
        obtain ⟨a, ⟨r, r1, r2⟩, z2⟩ := ih (p + 18 + z) B _ v st e18z (by omega) (fun L hL => hne L (sr_g k0 k1 q1 k2 (by rw [hzz]; exact k3) k4 (by rw [hzz]; exact hL))) h
        exact ⟨a, ⟨r, sr_g k0 k1 q1 k2 (by rw [hzz]; exact k3) k4 (by rw [hzz]; exact r1), r2⟩, z2⟩
      rcases h with ⟨q3, h⟩ | ⟨q3, h⟩
      · rw [h2, e18z] at q3
        exact fault1 (sr_e k0 k1 q1 k2 (by rw [hzz]; omega)) h
      rw [h2, e18z] at q3
      have k3 : ¬ bs.length < p + 18 + z := by omega
      rcases h with ⟨q4, h⟩ | ⟨q4, h⟩
      · have q4 := i_bw.mp q4
        rcases h with ⟨q5, h⟩ | ⟨q5, h⟩
        · have q5 := i_bw.mp q5
          exact on k3 (fun e => q5 e.2) h
        · have q5 : ms_bw a4 (B + ms_nb bs (p + 8) 8) := Decidable.not_not.mp (fun e => q5 (i_bw.mpr e))
          obtain ⟨v9, n9, sl9, SH9, FI9, FL9, FR9, hru, e1, e⟩ := h
          have sub := bk_sub (q := p + 18) (k := z) hb (by omega)
          have ln : ((bs.drop (p + 18)).take z).length = z := ms_ln (by omega)
          have hf := sr_f k0 k1 q1 k2 (by rw [hzz]; exact k3) q4 q5
          rw [hzz] at hf
          obtain ⟨a, hG, F2, L2, e2, x, m⟩ := r_runs2 sub (by omega) eA18 (by rw [ez, ln]) h5 hf1 hE (hne _ hf) hQ hru
          cases e2
          exact ⟨a, ⟨_, hf, hG⟩, _, _, e, x, by rw [e1]; exact m⟩
      · have q4 : ms_bw a4 (B + ms_nb bs p 8) := Decidable.not_not.mp (fun e => q4 (i_bw.mpr e))
        exact on k3 (fun e => e.1 q4) h
    have t2 : v2.toInt = (ms_nb bs p 8).toInt := by rw [w2]; rfl
    have t3 : v3.toInt = (ms_nb bs (p + 8) 8).toInt := by rw [w3]; rfl
    rcases h with ⟨q1, h⟩ | ⟨q1, h⟩
    · rcases h with ⟨q2, h⟩ | ⟨q2, h⟩
      · obtain ⟨u6, n6, sl6, SH6, FI6, FL6, FR6, hem, v7, n7, sl7, SH7, FI7, FL7, FR7, ht, e1, e⟩ := h
        obtain ⟨F6, L6, y6, p6, f6⟩ := r_empty hem
        cases y6
        obtain ⟨w1, F2, y7, w7⟩ := r_tells ht
        cases y7
        have r6 : ∀ c, c ≠ 121 → c ≠ 143 → c ≠ 145 → c ≠ 146 → c ≠ 147 → FI6 c = FI c := fun c c1 c2 c3 c4 c5 => by rw [f6.1 c c2 c3 c4 c5, h_up_nc c1, h_up_nc c1]
        have x6 : xr FI FL FI6 FL6 := ⟨fun c hc => ⟨r6 c (by omega) (by omega) (by omega) (by omega) (by omega), f6.2.1 c (by omega)⟩, fun k hk => ⟨by rw [f6.1 121 (by first | decide | simp) (by first | decide | simp) (by first | decide | simp) (by first | decide | simp), h_up_ne (by omega), h_up_ne (by omega)], by rw [f6.2.1 121 (by first | decide | simp)]⟩⟩
        have a46 : (FI6 121 46).toInt = 1 := by rw [f6.1 121 (by first | decide | simp) (by first | decide | simp) (by first | decide | simp) (by first | decide | simp), h_up_ne (by first | decide | simp), h_up_eq]; decide
        have a47 : (FI6 121 47).toInt = 0 := by rw [f6.1 121 (by first | decide | simp) (by first | decide | simp) (by first | decide | simp) (by first | decide | simp), h_up_eq]; decide
        refine ⟨.inr (false, [(ms_0, 0, 0)]), ⟨.inr none, sr_b k0 (by rw [← t2]; exact q1) (by rw [← t3]; exact q2), rfl⟩, _, _, e, xr_tr x6 ⟨fun c hc => ⟨fk_row w7 (by omega), rfl⟩, fun k hk => ⟨fk_at w7 (by simp; omega), rfl⟩⟩, by rw [e1, w1]; decide, ?_⟩
        exact rr_fr (FI := FI6) (FL := FL6) ⟨a46, ⟨fun _ => rfl, fun _ => a47⟩, ⟨by first | decide | simp, by simp⟩, fun _ => rfl, p6, trivial⟩ (fun c hc => fk_row w7 (by omega)) rfl (fk_at w7 (by first | decide | simp)) (fk_at w7 (by first | decide | simp))
      · exact go (fun e => q2 (by rw [t3]; exact e.2)) h
    · exact go (fun e => q1 (by rw [t2]; exact e.1)) h
theorem r_finds {A f : Nat} {bs : List Int32} {a1 a2 a5 v : Int32} {a3 a4 : Int64} {Q0 : ms_Q} {st : hS} (hb : bk FI SH 124 A bs) (hbl : bs.length ≤ 600) (h1 : a1.toInt = A) (h2 : a2.toInt = bs.length) (h5 : a5.toInt = f) (hf1 : f ≤ 1000) (hE : rE FI FL SH E) (hQ : rr FI FL Q0) (hne : ∀ L, ms_SR bs a4 a3 0 (.inr (some L)) → ∀ e, ms_R E 0 0 L 0 f ([], ms_0, []) (.inl e) → e ≠ 0) (h : RX12_finds a1 a2 a3 a4 a5 n sl SH FI FL FR v st) : ∃ a, ms_F E bs a4 a3 0 f a ∧ ∃ F2 L2, st = (n, sl, SH, F2, L2, FR) ∧ xr FI FL F2 L2 ∧ rz F2 L2 Q0 v a := by
  obtain ⟨u0, n0, sl0, SH0, FI0, FL0, FR0, ⟨-, e0⟩, g, h⟩ := h
  cases e0
  have j0 : fk [29, 30, 31, 32, 33] FI (h_up (h_up (h_up (h_up (h_up FI 121 30 a5) 121 31 ((0 : Int32))) 121 32 ((0 : Int32))) 121 29 ((0 : Int32))) 121 33 ((-1 : Int32))) := fk_up (fk_up (fk_up (fk_up (fk_up fk_rf (by first | decide | simp)) (by first | decide | simp)) (by first | decide | simp)) (by first | decide | simp)) (by first | decide | simp)
  generalize h_up (h_up (h_up (h_up (h_up FI 121 30 a5) 121 31 ((0 : Int32))) 121 32 ((0 : Int32))) 121 29 ((0 : Int32))) 121 33 ((-1 : Int32)) = FB at h j0
  have hEB : rE FB FL SH E := rE_fr hE (fk_row j0 (by first | decide | simp)) (fk_row j0 (by first | decide | simp)) (fk_row j0 (by first | decide | simp)) (fun k hk => fk_at j0 (by simp; omega)) (fun _ _ => rfl) rfl
  have xB : xr FI FL FB FL := ⟨fun c hc => ⟨fk_row j0 (by omega), rfl⟩, fun k hk => ⟨fk_at j0 (by simp; omega), rfl⟩⟩
  have QB : rr FB FL Q0 := rr_fr hQ (fun c hc => fk_row j0 (by omega)) rfl (fk_at j0 (by first | decide | simp)) (fk_at j0 (by first | decide | simp))
  obtain ⟨a, z1, F2, L2, z2, z3, z4⟩ := r_f12 (A := A) (f := f) (bk_fr hb (fk_row j0 (by first | decide | simp))) hbl h1 h2 h5 hf1 hEB QB g 0 a3 _ v st (by first | decide | simp) (by omega) hne h
  exact ⟨a, z1, F2, L2, z2, xr_tr xB z3, z4⟩
end RJ
end
section
/-! THE CLASS'S RUN: what its cells tell of a run's state. -/
/-- a thing in a Part -/
def ct (FI : Nat → Nat → Int32) (FL : Nat → Nat → Int64) (FR : Nat → Nat → Option Nat) (SH : Nat → Nat × Nat) (q : Nat) (H : ms_H) : Prop := (FI q 0).toInt = H.1 ∧ FL q 1 = H.2.1 ∧ ms_ok H ∧ (H.1 = 4 → ∃ r A : Nat, FR q 4 = some r ∧ (FI q 5).toInt = (A : Int) ∧ bk FI SH r A H.2.2)
def chd (FI : Nat → Nat → Int32) (FL : Nat → Nat → Int64) (FR : Nat → Nat → Option Nat) (SH : Nat → Nat × Nat) (q : Nat) (H : ms_H) : Prop := ct FI FL FR SH q H ∧ FI q 2 = 0 ∧ FI q 3 = 0
def cq (FI : Nat → Nat → Int32) (FL : Nat → Nat → Int64) (FR : Nat → Nat → Option Nat) (SH : Nat → Nat × Nat) (q : Nat) (p : ms_P) : Prop := ct FI FL FR SH q p.1 ∧ (FI q 2).toInt = p.2.1 ∧ (FI q 3).toInt = p.2.2 ∧ 0 ≤ p.2.1 ∧ p.2.1 ≤ 4096 ∧ 0 ≤ p.2.2 ∧ p.2.2 ≤ 4096
/-- rows of bytes lie outside the runners -/
def rg (SH : Nat → Nat × Nat) : Prop := ∀ r, rw0 SH r → r < 48 ∨ 109 < r
theorem rg_of {n : Nat} {SH : Nat → Nat × Nat} (_ : h_S n SH) : rg SH := fun r hr => by
  have := hr.2
  omega
section CT
variable {FI F2 : Nat → Nat → Int32} {FL L2 : Nat → Nat → Int64} {FR R2 : Nat → Nat → Option Nat} {SH : Nat → Nat × Nat} {q q2 : Nat} {H : ms_H} {p : ms_P}
theorem ct_cp (h : ct FI FL FR SH q H) (e0 : ∀ r, rw0 SH r → F2 r = FI r) (e1 : F2 q2 0 = FI q 0) (e2 : L2 q2 1 = FL q 1) (e3 : R2 q2 4 = FR q 4) (e4 : F2 q2 5 = FI q 5) : ct F2 L2 R2 SH q2 H := by
  unfold ct
  rw [e1, e2, e3, e4]
  refine ⟨h.1, h.2.1, h.2.2.1, fun h4 => ?_⟩
  obtain ⟨r, A, a1, a2, a3⟩ := h.2.2.2 h4
  exact ⟨r, A, a1, a2, bk_fr a3 (e0 r a3.1)⟩
theorem ct_fr (h : ct FI FL FR SH q H) (e0 : ∀ r, rw0 SH r → F2 r = FI r) (e1 : F2 q = FI q) (e2 : L2 q = FL q) (e3 : R2 q = FR q) : ct F2 L2 R2 SH q H := ct_cp h e0 (by rw [e1]) (by rw [e2]) (by rw [e3]) (by rw [e1])
theorem chd_fr (h : chd FI FL FR SH q H) (e0 : ∀ r, rw0 SH r → F2 r = FI r) (e1 : F2 q = FI q) (e2 : L2 q = FL q) (e3 : R2 q = FR q) : chd F2 L2 R2 SH q H := ⟨ct_fr h.1 e0 e1 e2 e3, by rw [e1]; exact h.2.1, by rw [e1]; exact h.2.2⟩
theorem cq_fr (h : cq FI FL FR SH q p) (e0 : ∀ r, rw0 SH r → F2 r = FI r) (e1 : F2 q = FI q) (e2 : L2 q = FL q) (e3 : R2 q = FR q) : cq F2 L2 R2 SH q p := by
  unfold cq
  rw [e1]
  exact ⟨ct_fr h.1 e0 e1 e2 e3, h.2⟩
end CT
/-- what operations ask for, in the class's cells -/
def cE (FI : Nat → Nat → Int32) (FL : Nat → Nat → Int64) (FR : Nat → Nat → Option Nat) (SH : Nat → Nat × Nat) (E : ms_E) : Prop := (∀ i, i < 32 → FL 24 i = ms_rg E i) ∧ (∀ i, i < 4096 → FI 25 i = ms_mm E i ∧ 0 ≤ (ms_mm E i).toInt ∧ (ms_mm E i).toInt ≤ 255) ∧ (∀ k, k < 16 → ∃ r, FR 26 k = some r ∧ (SH r).2 = (ms_ex E k).length ∧ (ms_ex E k).length ≤ 600 ∧ bk FI SH r 0 (ms_ex E k)) ∧ ((FI 23 4).toInt = ms_fr E ∧ -1 ≤ ms_fr E ∧ ms_fr E ≤ 15) ∧ ((FI 23 5).toInt = ms_cr E ∧ -1 ≤ ms_cr E ∧ ms_cr E ≤ 31) ∧ FL 23 6 = ms_co E ∧ (((FI 23 7).toInt = 0 ∧ ms_ob E = none) ∨ ((FI 23 7).toInt ≠ 0 ∧ ms_ob E = some (FL 23 8))) ∧ (((FI 23 9).toInt = 0 ∧ ms_tl E = none) ∨ ((FI 23 9).toInt ≠ 0 ∧ ms_tl E = some (FL 23 10)))
theorem cE_fr {FI F2 : Nat → Nat → Int32} {FL L2 : Nat → Nat → Int64} {FR R2 : Nat → Nat → Option Nat} {SH : Nat → Nat × Nat} {E : ms_E} (h : cE FI FL FR SH E) (hr : rg SH) (e1 : ∀ c, c < 48 ∨ 109 < c → F2 c = FI c ∧ L2 c = FL c ∧ R2 c = FR c) : cE F2 L2 R2 SH E := by
  obtain ⟨h1, h2, h3, h4, h5, h6, h7, h8⟩ := h
  have a := (e1 23 (by omega)).1
  have b := (e1 23 (by omega)).2.1
  refine ⟨by rw [(e1 24 (by omega)).2.1]; exact h1, by rw [(e1 25 (by omega)).1]; exact h2, fun k hk => ?_, by rw [a]; exact h4, by rw [a]; exact h5, by rw [b]; exact h6, by rw [a, b]; exact h7, by rw [a, b]; exact h8⟩
  obtain ⟨r, r1, r2, r3, r4⟩ := h3 k hk
  exact ⟨r, by rw [(e1 26 (by omega)).2.2]; exact r1, r2, r3, bk_fr r4 (e1 r (hr r r4.1)).1⟩
/-- the runner 49 -/
def cvI (FI : Nat → Nat → Int32) (FL : Nat → Nat → Int64) (FR : Nat → Nat → Option Nat) (SH : Nat → Nat × Nat) (s : ms_S) : Prop := (FI 49 5).toInt = s.1.length ∧ s.1.length ≤ 128 ∧ lv (fun i x => FL 50 i = x) s.1 ∧ chd FI FL FR SH 51 s.2.1 ∧ (FI 52 1).toInt = s.2.2.length ∧ s.2.2.length ≤ 16 ∧ (FI 52 2).toInt = ms_tb s.2.2 ∧ 0 ≤ ms_tb s.2.2 ∧ ms_tb s.2.2 ≤ 4096 ∧ lv (fun i q => cq FI FL FR SH (54 + i) q) s.2.2
/-- its fuel -/
def cuI (FI : Nat → Nat → Int32) (f : Nat) : Prop := (FI 49 6).toInt - (FI 49 7).toInt = f ∧ 0 ≤ (FI 49 7).toInt ∧ (FI 49 6).toInt ≤ 1000
/-- what it leaves alone -/
def kzI (FI : Nat → Nat → Int32) (FL : Nat → Nat → Int64) (FR : Nat → Nat → Option Nat) (F2 : Nat → Nat → Int32) (L2 : Nat → Nat → Int64) (R2 : Nat → Nat → Option Nat) : Prop := (∀ c, (c < 49 ∨ 69 < c) → F2 c = FI c ∧ L2 c = FL c ∧ R2 c = FR c) ∧ (∀ c, c ≠ 51 ∧ (c < 54 ∨ 69 < c) → R2 c = FR c)
section CVI
variable {n sl : Nat} {FI F2 F3 : Nat → Nat → Int32} {FL L2 L3 : Nat → Nat → Int64} {FR R2 R3 : Nat → Nat → Option Nat} {SH : Nat → Nat × Nat} {s : ms_S} {f : Nat} {v : Int32} {st : hS} {x : Int64}
theorem kzI_rf : kzI FI FL FR FI FL FR := ⟨fun _ _ => ⟨rfl, rfl, rfl⟩, fun _ _ => rfl⟩
theorem kzI_tr (h : kzI FI FL FR F2 L2 R2) (g : kzI F2 L2 R2 F3 L3 R3) : kzI FI FL FR F3 L3 R3 := ⟨fun c hc => ⟨(g.1 c hc).1.trans (h.1 c hc).1, (g.1 c hc).2.1.trans (h.1 c hc).2.1, (g.1 c hc).2.2.trans (h.1 c hc).2.2⟩, fun c hc => (g.2 c hc).trans (h.2 c hc)⟩
theorem kzI_i {c k : Nat} {y : Int32} (h : kzI FI FL FR F2 L2 R2) (hc : 49 ≤ c ∧ c ≤ 69) : kzI FI FL FR (h_up F2 c k y) L2 R2 := ⟨fun c2 h2 => ⟨by rw [h_up_nc (by omega)]; exact (h.1 c2 h2).1, (h.1 c2 h2).2⟩, h.2⟩
theorem kzI_l {c k : Nat} {y : Int64} (h : kzI FI FL FR F2 L2 R2) (hc : 49 ≤ c ∧ c ≤ 69) : kzI FI FL FR F2 (h_up L2 c k y) R2 := ⟨fun c2 h2 => ⟨(h.1 c2 h2).1, by rw [h_up_nc (by omega)]; exact (h.1 c2 h2).2.1, (h.1 c2 h2).2.2⟩, h.2⟩
theorem kzI_r {c k : Nat} {y : Option Nat} (h : kzI FI FL FR F2 L2 R2) (hc : 49 ≤ c ∧ c ≤ 69) (hp : ¬ (c ≠ 51 ∧ (c < 54 ∨ 69 < c))) : kzI FI FL FR F2 L2 (h_up R2 c k y) := ⟨fun c2 h2 => ⟨(h.1 c2 h2).1, (h.1 c2 h2).2.1, by rw [h_up_nc (by omega)]; exact (h.1 c2 h2).2.2⟩, fun c2 h2 => by rw [h_up_nc (by omega)]; exact h.2 c2 h2⟩
theorem kzI_rows (h : kzI FI FL FR F2 L2 R2) (hr : rg SH) : ∀ r, rw0 SH r → F2 r = FI r := fun r h1 => (h.1 r (by have := hr r h1; omega)).1
theorem cE_kI {E : ms_E} (h : cE FI FL FR SH E) (hr : rg SH) (k : kzI FI FL FR F2 L2 R2) : cE F2 L2 R2 SH E := cE_fr h hr (fun c hc => k.1 c (by omega))
/-- fields of the runner that do not matter -/
theorem cvI_f {k : Nat} {y : Int32} (h : cvI FI FL FR SH s) (hr : rg SH) (hk : k ≠ 5) : cvI (h_up FI 49 k y) FL FR SH s := by
  obtain ⟨h1, h2, h3, h4, h5, h6, h7, h8, h9, h10⟩ := h
  have e0 : ∀ r, rw0 SH r → (h_up FI 49 k y) r = FI r := fun r h1 => h_up_nc (by have := hr r h1; omega)
  exact ⟨by rw [h_up_ne (Ne.symm hk)]; exact h1, h2, h3, chd_fr h4 e0 (h_up_nc (by first | decide | simp)) rfl rfl, by rw [h_up_nc (by first | decide | simp)]; exact h5, h6, by rw [h_up_nc (by first | decide | simp)]; exact h7, h8, h9, lv_mono (fun i p hi _ hp => cq_fr hp e0 (h_up_nc (by omega)) rfl rfl) h10⟩
theorem cvI_g {k : Nat} {y : Int64} (h : cvI FI FL FR SH s) : cvI FI (h_up FL 49 k y) FR SH s := by
  obtain ⟨h1, h2, h3, h4, h5, h6, h7, h8, h9, h10⟩ := h
  exact ⟨h1, h2, by rw [h_up_nc (by first | decide | simp)]; exact h3, chd_fr h4 (fun _ _ => rfl) rfl (h_up_nc (by first | decide | simp)) rfl, h5, h6, h7, h8, h9, lv_mono (fun i p hi _ hp => cq_fr hp (fun _ _ => rfl) rfl (h_up_nc (by omega)) rfl) h10⟩
theorem cvI_st {S : List Int64} {y : Int32} {L2 : Nat → Nat → Int64} (h : cvI FI FL FR SH s) (hr : rg SH) (e1 : y.toInt = S.length) (e2 : S.length ≤ 128) (e3 : ∀ r, r ≠ 50 → L2 r = FL r) (e4 : lv (fun i x => L2 50 i = x) S) : cvI (h_up FI 49 5 y) L2 FR SH (S, s.2) := by
  obtain ⟨h1, h2, h3, h4, h5, h6, h7, h8, h9, h10⟩ := h
  have e0 : ∀ r, rw0 SH r → (h_up FI 49 5 y) r = FI r := fun r h1 => h_up_nc (by have := hr r h1; omega)
  exact ⟨by rw [h_up_eq]; exact e1, e2, e4, chd_fr h4 e0 (h_up_nc (by first | decide | simp)) (e3 _ (by first | decide | simp)) rfl, by rw [h_up_nc (by first | decide | simp)]; exact h5, h6, by rw [h_up_nc (by first | decide | simp)]; exact h7, h8, h9, lv_mono (fun i p hi _ hp => cq_fr hp e0 (h_up_nc (by omega)) (e3 _ (by omega)) rfl) h10⟩
/-- a runner's answer: a fault, or its new state -/
def crI (n sl : Nat) (SH : Nat → Nat × Nat) (FI : Nat → Nat → Int32) (FL : Nat → Nat → Int64) (FR : Nat → Nat → Option Nat) (v : Int32) (st : hS) : Int ⊕ ms_S → Prop
  | .inl e => v.toInt = e ∧ e ≠ 0 ∧ ∃ F2 L2 R2, st = (n, sl, SH, F2, L2, R2) ∧ kzI FI FL FR F2 L2 R2
  | .inr s2 => v.toInt = 0 ∧ ∃ F2 L2 R2, st = (n, sl, SH, F2, L2, R2) ∧ kzI FI FL FR F2 L2 R2 ∧ cvI F2 L2 R2 SH s2 ∧ F2 49 6 = FI 49 6 ∧ F2 49 7 = FI 49 7 ∧ F2 49 10 = FI 49 10 ∧ L2 49 12 = FL 49 12 ∧ L2 49 13 = FL 49 13
theorem c_pushI (hS : h_S n SH) (hv : cvI FI FL FR SH s) (h : RX9_pushI x n sl SH FI FL FR v st) : crI n sl SH FI FL FR v st (if s.1.length = 128 then .inl 4 else .inr (x :: s.1, s.2)) := by
  have hr := rg_of hS
  have hsz := hv.1
  have hln := hv.2.1
  unfold RX9_pushI at h
  rw [show (Int32.ofNat (SH 50).2).toInt = 128 by rw [hS.2 50 (by first | decide | simp)]; decide +kernel, hsz] at h
  rcases h with ⟨h0, -, e1, e⟩ | ⟨h0, e1, e⟩
  · rw [if_neg (by omega)]
    refine ⟨by rw [e1]; decide, _, _, _, e, kzI_i (kzI_i (kzI_l kzI_rf (by first | decide | simp)) (by first | decide | simp)) (by first | decide | simp), ?_, ?_, ?_, ?_, ?_, ?_⟩
    · refine cvI_f (cvI_st (S := x :: s.1) hv hr ?_ (by simp only [List.length_cons]; omega) (fun r h1 => h_up_nc h1) ⟨?_, ?_⟩) hr (by first | decide | simp)
      · rw [i_add hsz (by first | decide | simp : ((1 : Int32)).toInt = 1) (by omega) (by omega)]
        simp only [List.length_cons]
        omega
      · show h_up FL 50 (s.1.length : Int).toNat x 50 s.1.length = x
        rw [Int.toNat_natCast, h_up_eq]
      · rw [Int.toNat_natCast]
        exact lv_mono (fun i y hi _ hy => by rw [h_up_ne (by omega)]; exact hy) hv.2.2.1
    · rw [h_up_ne (by first | decide | simp), h_up_ne (by first | decide | simp)]
    · rw [h_up_ne (by first | decide | simp), h_up_ne (by first | decide | simp)]
    · rw [h_up_ne (by first | decide | simp), h_up_ne (by first | decide | simp)]
    · rw [h_up_nc (by first | decide | simp)]
    · rw [h_up_nc (by first | decide | simp)]
  · rw [if_pos (by omega)]
    exact ⟨by rw [e1]; decide, by first | decide | simp, _, _, _, e, kzI_rf⟩
theorem c_popI {t : Int64} {R : List Int64} {w : Int64} (hS : h_S n SH) (hs : s.1 = t :: R) (hv : cvI FI FL FR SH s) (h : RX9_popI n sl SH FI FL FR w st) : w = t ∧ ∃ F2, st = (n, sl, SH, F2, FL, FR) ∧ F2 = h_up FI 49 5 (FI 49 5 - (1 : Int32)) ∧ kzI FI FL FR F2 FL FR ∧ cvI F2 FL FR SH (R, s.2) := by
  have hr := rg_of hS
  obtain ⟨S, sr⟩ := s
  (try dsimp only at hs)
  subst hs
  have hsz := hv.1
  have hln := hv.2.1
  simp only [List.length_cons] at hsz hln
  have e1 : (FI 49 5 - (1 : Int32)).toInt = (R.length : Int) := by rw [i_sub hsz (by first | decide | simp : ((1 : Int32)).toInt = 1) (by omega) (by omega)]; omega
  have h := P_p h (by rw [hsz]; omega)
  have h := P_n h (by rw [show (Int32.ofNat (SH 50).2).toInt = 128 by rw [hS.2 50 (by first | decide | simp)]; decide +kernel, hsz]; omega)
  obtain ⟨-, e2, e⟩ := h
  rw [e1, Int.toNat_natCast] at e2
  exact ⟨e2.trans hv.2.2.1.1, _, e, rfl, kzI_i kzI_rf (by first | decide | simp), cvI_st hv hr e1 (by omega) (fun _ _ => rfl) hv.2.2.1.2⟩
theorem c_belowI {i : Int32} {k : Nat} {y : Int64} (hS : h_S n SH) (hv : cvI FI FL FR SH s) (hi : i.toInt = k) (hy : s.1[k]? = some y) : fX9_belowI i SH FI FL FR = y := by
  have hsz := hv.1
  have hln := hv.2.1
  have hk := (List.getElem?_eq_some_iff.mp hy).1
  have e1 : ((FI 49 5 - (1 : Int32)) - i).toInt = ((s.1.length - 1 - k : Nat) : Int) := by rw [i_sub (i_sub hsz (by first | decide | simp : ((1 : Int32)).toInt = 1) (by omega) (by omega)) hi (by omega) (by omega)]; omega
  unfold fX9_belowI
  rw [show (Int32.ofNat (SH 50).2).toInt = 128 by rw [hS.2 50 (by first | decide | simp)]; decide +kernel, e1, if_neg (by omega), if_pos (by omega), Int.toNat_natCast]
  exact lv_get hv.2.2.1 hy
end CVI
/-- the runner 48 -/
def cv (FI : Nat → Nat → Int32) (FL : Nat → Nat → Int64) (FR : Nat → Nat → Option Nat) (SH : Nat → Nat × Nat) (s : ms_S) : Prop := (FI 48 5).toInt = s.1.length ∧ s.1.length ≤ 128 ∧ lv (fun i x => FL 70 i = x) s.1 ∧ chd FI FL FR SH 71 s.2.1 ∧ (FI 72 1).toInt = s.2.2.length ∧ s.2.2.length ≤ 16 ∧ (FI 72 2).toInt = ms_tb s.2.2 ∧ 0 ≤ ms_tb s.2.2 ∧ ms_tb s.2.2 ≤ 4096 ∧ lv (fun i q => cq FI FL FR SH (74 + i) q) s.2.2
/-- its fuel -/
def cu (FI : Nat → Nat → Int32) (f : Nat) : Prop := (FI 48 6).toInt - (FI 48 7).toInt = f ∧ 0 ≤ (FI 48 7).toInt ∧ (FI 48 6).toInt ≤ 1000
/-- what it leaves alone -/
def kz (FI : Nat → Nat → Int32) (FL : Nat → Nat → Int64) (FR : Nat → Nat → Option Nat) (F2 : Nat → Nat → Int32) (L2 : Nat → Nat → Int64) (R2 : Nat → Nat → Option Nat) : Prop := (∀ c, (c < 48 ∨ 89 < c) → F2 c = FI c ∧ L2 c = FL c ∧ R2 c = FR c) ∧ (∀ c, c ≠ 71 ∧ (c < 74 ∨ 89 < c) ∧ c ≠ 51 ∧ (c < 54 ∨ 69 < c) → R2 c = FR c)
section CV
variable {n sl : Nat} {FI F2 F3 : Nat → Nat → Int32} {FL L2 L3 : Nat → Nat → Int64} {FR R2 R3 : Nat → Nat → Option Nat} {SH : Nat → Nat × Nat} {s : ms_S} {f : Nat} {v : Int32} {st : hS} {x : Int64}
theorem kz_rf : kz FI FL FR FI FL FR := ⟨fun _ _ => ⟨rfl, rfl, rfl⟩, fun _ _ => rfl⟩
theorem kz_tr (h : kz FI FL FR F2 L2 R2) (g : kz F2 L2 R2 F3 L3 R3) : kz FI FL FR F3 L3 R3 := ⟨fun c hc => ⟨(g.1 c hc).1.trans (h.1 c hc).1, (g.1 c hc).2.1.trans (h.1 c hc).2.1, (g.1 c hc).2.2.trans (h.1 c hc).2.2⟩, fun c hc => (g.2 c hc).trans (h.2 c hc)⟩
theorem kz_i {c k : Nat} {y : Int32} (h : kz FI FL FR F2 L2 R2) (hc : 48 ≤ c ∧ c ≤ 89) : kz FI FL FR (h_up F2 c k y) L2 R2 := ⟨fun c2 h2 => ⟨by rw [h_up_nc (by omega)]; exact (h.1 c2 h2).1, (h.1 c2 h2).2⟩, h.2⟩
theorem kz_l {c k : Nat} {y : Int64} (h : kz FI FL FR F2 L2 R2) (hc : 48 ≤ c ∧ c ≤ 89) : kz FI FL FR F2 (h_up L2 c k y) R2 := ⟨fun c2 h2 => ⟨(h.1 c2 h2).1, by rw [h_up_nc (by omega)]; exact (h.1 c2 h2).2.1, (h.1 c2 h2).2.2⟩, h.2⟩
theorem kz_r {c k : Nat} {y : Option Nat} (h : kz FI FL FR F2 L2 R2) (hc : 48 ≤ c ∧ c ≤ 89) (hp : ¬ (c ≠ 71 ∧ (c < 74 ∨ 89 < c) ∧ c ≠ 51 ∧ (c < 54 ∨ 69 < c))) : kz FI FL FR F2 L2 (h_up R2 c k y) := ⟨fun c2 h2 => ⟨(h.1 c2 h2).1, (h.1 c2 h2).2.1, by rw [h_up_nc (by omega)]; exact (h.1 c2 h2).2.2⟩, fun c2 h2 => by rw [h_up_nc (by omega)]; exact h.2 c2 h2⟩
theorem kz_rows (h : kz FI FL FR F2 L2 R2) (hr : rg SH) : ∀ r, rw0 SH r → F2 r = FI r := fun r h1 => (h.1 r (by have := hr r h1; omega)).1
theorem cE_k {E : ms_E} (h : cE FI FL FR SH E) (hr : rg SH) (k : kz FI FL FR F2 L2 R2) : cE F2 L2 R2 SH E := cE_fr h hr (fun c hc => k.1 c (by omega))
/-- fields of the runner that do not matter -/
theorem cv_f {k : Nat} {y : Int32} (h : cv FI FL FR SH s) (hr : rg SH) (hk : k ≠ 5) : cv (h_up FI 48 k y) FL FR SH s := by
  obtain ⟨h1, h2, h3, h4, h5, h6, h7, h8, h9, h10⟩ := h
  have e0 : ∀ r, rw0 SH r → (h_up FI 48 k y) r = FI r := fun r h1 => h_up_nc (by have := hr r h1; omega)
  exact ⟨by rw [h_up_ne (Ne.symm hk)]; exact h1, h2, h3, chd_fr h4 e0 (h_up_nc (by first | decide | simp)) rfl rfl, by rw [h_up_nc (by first | decide | simp)]; exact h5, h6, by rw [h_up_nc (by first | decide | simp)]; exact h7, h8, h9, lv_mono (fun i p hi _ hp => cq_fr hp e0 (h_up_nc (by omega)) rfl rfl) h10⟩
theorem cv_g {k : Nat} {y : Int64} (h : cv FI FL FR SH s) : cv FI (h_up FL 48 k y) FR SH s := by
  obtain ⟨h1, h2, h3, h4, h5, h6, h7, h8, h9, h10⟩ := h
  exact ⟨h1, h2, by rw [h_up_nc (by first | decide | simp)]; exact h3, chd_fr h4 (fun _ _ => rfl) rfl (h_up_nc (by first | decide | simp)) rfl, h5, h6, h7, h8, h9, lv_mono (fun i p hi _ hp => cq_fr hp (fun _ _ => rfl) rfl (h_up_nc (by omega)) rfl) h10⟩
theorem cv_st {S : List Int64} {y : Int32} {L2 : Nat → Nat → Int64} (h : cv FI FL FR SH s) (hr : rg SH) (e1 : y.toInt = S.length) (e2 : S.length ≤ 128) (e3 : ∀ r, r ≠ 70 → L2 r = FL r) (e4 : lv (fun i x => L2 70 i = x) S) : cv (h_up FI 48 5 y) L2 FR SH (S, s.2) := by
  obtain ⟨h1, h2, h3, h4, h5, h6, h7, h8, h9, h10⟩ := h
  have e0 : ∀ r, rw0 SH r → (h_up FI 48 5 y) r = FI r := fun r h1 => h_up_nc (by have := hr r h1; omega)
  exact ⟨by rw [h_up_eq]; exact e1, e2, e4, chd_fr h4 e0 (h_up_nc (by first | decide | simp)) (e3 _ (by first | decide | simp)) rfl, by rw [h_up_nc (by first | decide | simp)]; exact h5, h6, by rw [h_up_nc (by first | decide | simp)]; exact h7, h8, h9, lv_mono (fun i p hi _ hp => cq_fr hp e0 (h_up_nc (by omega)) (e3 _ (by omega)) rfl) h10⟩
/-- a runner's answer: a fault, or its new state -/
def cr (n sl : Nat) (SH : Nat → Nat × Nat) (FI : Nat → Nat → Int32) (FL : Nat → Nat → Int64) (FR : Nat → Nat → Option Nat) (v : Int32) (st : hS) : Int ⊕ ms_S → Prop
  | .inl e => v.toInt = e ∧ e ≠ 0 ∧ ∃ F2 L2 R2, st = (n, sl, SH, F2, L2, R2) ∧ kz FI FL FR F2 L2 R2
  | .inr s2 => v.toInt = 0 ∧ ∃ F2 L2 R2, st = (n, sl, SH, F2, L2, R2) ∧ kz FI FL FR F2 L2 R2 ∧ cv F2 L2 R2 SH s2 ∧ F2 48 6 = FI 48 6 ∧ F2 48 7 = FI 48 7 ∧ F2 48 10 = FI 48 10 ∧ L2 48 12 = FL 48 12 ∧ L2 48 13 = FL 48 13
theorem c_push (hS : h_S n SH) (hv : cv FI FL FR SH s) (h : RX9_push x n sl SH FI FL FR v st) : cr n sl SH FI FL FR v st (if s.1.length = 128 then .inl 4 else .inr (x :: s.1, s.2)) := by
  have hr := rg_of hS
  have hsz := hv.1
  have hln := hv.2.1
  unfold RX9_push at h
  rw [show (Int32.ofNat (SH 70).2).toInt = 128 by rw [hS.2 70 (by first | decide | simp)]; decide +kernel, hsz] at h
  rcases h with ⟨h0, -, e1, e⟩ | ⟨h0, e1, e⟩
  · rw [if_neg (by omega)]
    refine ⟨by rw [e1]; decide, _, _, _, e, kz_i (kz_i (kz_l kz_rf (by first | decide | simp)) (by first | decide | simp)) (by first | decide | simp), ?_, ?_, ?_, ?_, ?_, ?_⟩
    · refine cv_f (cv_st (S := x :: s.1) hv hr ?_ (by simp only [List.length_cons]; omega) (fun r h1 => h_up_nc h1) ⟨?_, ?_⟩) hr (by first | decide | simp)
      · rw [i_add hsz (by first | decide | simp : ((1 : Int32)).toInt = 1) (by omega) (by omega)]
        simp only [List.length_cons]
        omega
      · show h_up FL 70 (s.1.length : Int).toNat x 70 s.1.length = x
        rw [Int.toNat_natCast, h_up_eq]
      · rw [Int.toNat_natCast]
        exact lv_mono (fun i y hi _ hy => by rw [h_up_ne (by omega)]; exact hy) hv.2.2.1
    · rw [h_up_ne (by first | decide | simp), h_up_ne (by first | decide | simp)]
    · rw [h_up_ne (by first | decide | simp), h_up_ne (by first | decide | simp)]
    · rw [h_up_ne (by first | decide | simp), h_up_ne (by first | decide | simp)]
    · rw [h_up_nc (by first | decide | simp)]
    · rw [h_up_nc (by first | decide | simp)]
  · rw [if_pos (by omega)]
    exact ⟨by rw [e1]; decide, by first | decide | simp, _, _, _, e, kz_rf⟩
theorem c_pop {t : Int64} {R : List Int64} {w : Int64} (hS : h_S n SH) (hs : s.1 = t :: R) (hv : cv FI FL FR SH s) (h : RX9_pop n sl SH FI FL FR w st) : w = t ∧ ∃ F2, st = (n, sl, SH, F2, FL, FR) ∧ F2 = h_up FI 48 5 (FI 48 5 - (1 : Int32)) ∧ kz FI FL FR F2 FL FR ∧ cv F2 FL FR SH (R, s.2) := by
  have hr := rg_of hS
  obtain ⟨S, sr⟩ := s
  (try dsimp only at hs)
  subst hs
  have hsz := hv.1
  have hln := hv.2.1
  simp only [List.length_cons] at hsz hln
  have e1 : (FI 48 5 - (1 : Int32)).toInt = (R.length : Int) := by rw [i_sub hsz (by first | decide | simp : ((1 : Int32)).toInt = 1) (by omega) (by omega)]; omega
  have h := P_p h (by rw [hsz]; omega)
  have h := P_n h (by rw [show (Int32.ofNat (SH 70).2).toInt = 128 by rw [hS.2 70 (by first | decide | simp)]; decide +kernel, hsz]; omega)
  obtain ⟨-, e2, e⟩ := h
  rw [e1, Int.toNat_natCast] at e2
  exact ⟨e2.trans hv.2.2.1.1, _, e, rfl, kz_i kz_rf (by first | decide | simp), cv_st hv hr e1 (by omega) (fun _ _ => rfl) hv.2.2.1.2⟩
theorem c_below {i : Int32} {k : Nat} {y : Int64} (hS : h_S n SH) (hv : cv FI FL FR SH s) (hi : i.toInt = k) (hy : s.1[k]? = some y) : fX9_below i SH FI FL FR = y := by
  have hsz := hv.1
  have hln := hv.2.1
  have hk := (List.getElem?_eq_some_iff.mp hy).1
  have e1 : ((FI 48 5 - (1 : Int32)) - i).toInt = ((s.1.length - 1 - k : Nat) : Int) := by rw [i_sub (i_sub hsz (by first | decide | simp : ((1 : Int32)).toInt = 1) (by omega) (by omega)) hi (by omega) (by omega)]; omega
  unfold fX9_below
  rw [show (Int32.ofNat (SH 70).2).toInt = 128 by rw [hS.2 70 (by first | decide | simp)]; decide +kernel, e1, if_neg (by omega), if_pos (by omega), Int.toNat_natCast]
  exact lv_get hv.2.2.1 hy
end CV
end
section
/-! THE CLASS DECODES. -/
theorem P_ite {p : Prop} [Decidable p] {A B : Int32 → hS → Prop} {a b x : Int32} {s0 s : hS} (hA : A x s → x = a ∧ s = s0) (hB : B x s → x = b ∧ s = s0) (h : P_if p A B x s) : x = (if p then a else b) ∧ s = s0 := by
  rcases h with ⟨hp, h⟩ | ⟨hp, h⟩
  · rw [if_pos hp]; exact hA h
  · rw [if_neg hp]; exact hB h
/-- a row of alternatives -/
def or_l (x : Int) : List Int → Prop
  | [] => False
  | [a] => x = a
  | a :: b :: L => x = a ∨ or_l x (b :: L)
theorem or_mem {x : Int} : ∀ {L : List Int}, or_l x L ↔ x ∈ L
  | [] => ⟨fun h => h.elim, fun h => by cases h⟩
  | [a] => ⟨fun h => by rw [show x = a from h]; exact List.mem_singleton.mpr rfl, fun h => List.mem_singleton.mp h⟩
  | a :: b :: L => by
    rw [List.mem_cons, ← or_mem]
    exact Iff.rfl
theorem P_itm {L : List Int} {x0 : Int} {A B : Int32 → hS → Prop} {a b x : Int32} {s0 s : hS} (hA : A x s → x = a ∧ s = s0) (hB : B x s → x = b ∧ s = s0) (h : P_if (or_l x0 L) A B x s) : x = (if x0 ∈ L then a else b) ∧ s = s0 := by
  rcases h with ⟨hp, h⟩ | ⟨hp, h⟩
  · rw [if_pos (or_mem.mp hp)]; exact hA h
  · rw [if_neg (fun e => hp (or_mem.mpr e))]; exact hB h
def gX9_shape_30 (a1 : Int32) : Int32 := (if ((a1).toInt = 3 ∨ (a1).toInt = 14) then ((8 : Int32)) else (if ((a1).toInt ∈ ([4, 5, 7, 24, 25, 26, 27, 28, 29, 30, 31, 32, 33, 34, 36, 37, 38, 39, 41, 42, 43, 44, 45, 46, 48, 49, 50, 51, 52, 53, 54, 55, 56, 57, 58, 59, 60, 61, 62, 63, 64, 65, 66, 67, 68, 69, 70, 71, 72, 73, 74, 75, 76, 77, 78, 79, 80, 81, 82, 83, 84, 85, 86, 87, 88, 89, 90, 91, 92, 93, 94, 95, 96, 97, 98, 99, 100, 101, 102, 103, 104, 105, 106, 107, 108, 109, 110, 111, 112, 113, 114, 115, 116, 117, 118, 119, 120, 121, 122, 123, 124, 125, 126, 127, 128, 129, 130, 131, 132, 133, 134, 135, 136, 137, 138, 139, 140, 141, 142, 143, 149, 154] : List Int)) then (if ((a1).toInt < ((25 : Int32)).toInt) then ((25 : Int32)) else (if (((46 : Int32)).toInt < (a1).toInt) then ((25 : Int32)) else ((0 : Int32)))) else (if ((a1).toInt ∈ ([6, 18, 19, 20, 22, 23, 150, 151, 155, 156, 159] : List Int)) then ((0 : Int32)) else (if ((a1).toInt = 8 ∨ (a1).toInt = 21 ∨ (a1).toInt = 148) then ((1 : Int32)) else (if ((a1).toInt = 9) then ((11 : Int32)) else (if ((a1).toInt = 10 ∨ (a1).toInt = 152) then ((2 : Int32)) else (if ((a1).toInt = 11 ∨ (a1).toInt = 40 ∨ (a1).toInt = 47) then ((12 : Int32)) else (if ((a1).toInt = 12 ∨ (a1).toInt = 153) then ((4 : Int32)) else (if ((a1).toInt = 13) then ((14 : Int32)) else (if ((a1).toInt = 15) then ((18 : Int32)) else (if ((a1).toInt = 16 ∨ (a1).toInt = 35 ∨ (a1).toInt = 144 ∨ (a1).toInt = 147) then ((20 : Int32)) else (if ((a1).toInt = 17 ∨ (a1).toInt = 145) then ((21 : Int32)) else (if ((a1).toInt = 146) then ((22 : Int32)) else (if ((a1).toInt = 157) then ((23 : Int32)) else (if ((a1).toInt = 158) then ((24 : Int32)) else (if ((a1).toInt < ((25 : Int32)).toInt) then ((25 : Int32)) else (if (((46 : Int32)).toInt < (a1).toInt) then ((25 : Int32)) else ((0 : Int32)))))))))))))))))))
set_option maxRecDepth 100000 in
theorem tX9_shape_30 {a1 : Int32} {n sl : Nat} {SH : Nat → Nat × Nat} {FI : Nat → Nat → Int32} {FL : Nat → Nat → Int64} {FR : Nat → Nat → Option Nat} {v : Int32} {s : hS} (h : RX9_shape_30 a1 n sl SH FI FL FR v s) : v = gX9_shape_30 a1 ∧ s = (n, sl, SH, FI, FL, FR) := (P_ite (fun h => h) (P_itm (L := [4, 5, 7, 24, 25, 26, 27, 28, 29, 30, 31, 32, 33, 34, 36, 37, 38, 39, 41, 42, 43, 44, 45, 46, 48, 49, 50, 51, 52, 53, 54, 55, 56, 57, 58, 59, 60, 61, 62, 63, 64, 65, 66, 67, 68, 69, 70, 71, 72, 73, 74, 75, 76, 77, 78, 79, 80, 81, 82, 83, 84, 85, 86, 87, 88, 89, 90, 91, 92, 93, 94, 95, 96, 97, 98, 99, 100, 101, 102, 103, 104, 105, 106, 107, 108, 109, 110, 111, 112, 113, 114, 115, 116, 117, 118, 119, 120, 121, 122, 123, 124, 125, 126, 127, 128, 129, 130, 131, 132, 133, 134, 135, 136, 137, 138, 139, 140, 141, 142, 143, 149, 154]) (P_ite (fun h => h) (P_ite (fun h => h) (fun h => h))) (P_itm (L := [6, 18, 19, 20, 22, 23, 150, 151, 155, 156, 159]) (fun h => h) (P_ite (fun h => h) (P_ite (fun h => h) (P_ite (fun h => h) (P_ite (fun h => h) (P_ite (fun h => h) (P_ite (fun h => h) (P_ite (fun h => h) (P_ite (fun h => h) (P_ite (fun h => h) (P_ite (fun h => h) (P_ite (fun h => h) (P_ite (fun h => h) (P_ite (fun h => h) (P_ite (fun h => h) (fun h => h)))))))))))))))))) h
def gX9_shape_14 (a1 : Int32) : Int32 := (if ((a1).toInt < ((112 : Int32)).toInt) then (gX9_shape_30 a1) else (if (((143 : Int32)).toInt < (a1).toInt) then (gX9_shape_30 a1) else ((21 : Int32))))
theorem tX9_shape_14 {a1 : Int32} {n sl : Nat} {SH : Nat → Nat × Nat} {FI : Nat → Nat → Int32} {FL : Nat → Nat → Int64} {FR : Nat → Nat → Option Nat} {v : Int32} {s : hS} (h : RX9_shape_14 a1 n sl SH FI FL FR v s) : v = gX9_shape_14 a1 ∧ s = (n, sl, SH, FI, FL, FR) := (P_ite (fun h => tX9_shape_30 h) (P_ite (fun h => tX9_shape_30 h) (fun h => h))) h
def gX9_shape (a1 : Int32) : Int32 := (if ((a1).toInt < ((48 : Int32)).toInt) then (gX9_shape_14 a1) else (if (((111 : Int32)).toInt < (a1).toInt) then (gX9_shape_14 a1) else ((0 : Int32))))
theorem tX9_shape {a1 : Int32} {n sl : Nat} {SH : Nat → Nat × Nat} {FI : Nat → Nat → Int32} {FL : Nat → Nat → Int64} {FR : Nat → Nat → Option Nat} {v : Int32} {s : hS} (h : RX9_shape a1 n sl SH FI FL FR v s) : v = gX9_shape a1 ∧ s = (n, sl, SH, FI, FL, FR) := (P_ite (fun h => tX9_shape_14 h) (P_ite (fun h => tX9_shape_14 h) (fun h => h))) h
theorem c_shape {c : Int32} {n sl : Nat} {SH : Nat → Nat × Nat} {FI : Nat → Nat → Int32} {FL : Nat → Nat → Int64} {FR : Nat → Nat → Option Nat} {v : Int32} {s : hS} (h0 : 0 ≤ c.toInt) (h1 : c.toInt ≤ 255) (h : RX9_shape c n sl SH FI FL FR v s) : v.toInt = (if ms_kn c.toInt = true then (ms_sh c.toInt : Int) else 25) ∧ s = (n, sl, SH, FI, FL, FR) := by
  obtain ⟨e, e2⟩ := tX9_shape h
  refine ⟨?_, e2⟩
  obtain ⟨k, hk, rfl⟩ := w_byte h0 h1
  have key : ∀ k : Nat, k < 256 → (gX9_shape (Int32.ofNat k)).toInt = (if ms_kn (Int32.ofNat k).toInt = true then (ms_sh (Int32.ofNat k).toInt : Int) else 25) := by decide +kernel
  rw [e]
  exact key k hk
/-- only these fields of a cell have changed -/
def fj {α : Type} (c0 : Nat) (K : List Nat) (F F2 : Nat → Nat → α) : Prop := ∀ c k, ¬ (c = c0 ∧ k ∈ K) → F2 c k = F c k
theorem fj_rf {α : Type} {c0 : Nat} {K : List Nat} {F : Nat → Nat → α} : fj c0 K F F := fun _ _ _ => rfl
theorem fj_up {α : Type} {c0 : Nat} {K : List Nat} {F F2 : Nat → Nat → α} {k : Nat} {x : α} (h : fj c0 K F F2) (hk : k ∈ K) : fj c0 K F (h_up F2 c0 k x) := fun c j hn => by
  rw [h_up_x (fun e => hn ⟨e.1, by rw [e.2]; exact hk⟩)]
  exact h c j hn
theorem fj_tr {α : Type} {c0 : Nat} {K : List Nat} {F F2 F3 : Nat → Nat → α} (h : fj c0 K F F2) (h2 : fj c0 K F2 F3) : fj c0 K F F3 := fun c k hn => (h2 c k hn).trans (h c k hn)
theorem fj_le {α : Type} {c0 : Nat} {K K2 : List Nat} {F F2 : Nat → Nat → α} (h : fj c0 K F F2) (hk : ∀ k, k ∈ K → k ∈ K2) : fj c0 K2 F F2 := fun c k hn => h c k (fun e => hn ⟨e.1, hk k e.2⟩)
theorem fj_row {α : Type} {c0 : Nat} {K : List Nat} {F F2 : Nat → Nat → α} {c : Nat} (h : fj c0 K F F2) (hc : c ≠ c0) : F2 c = F c := funext fun k => h c k (fun e => hc e.1)
theorem fj_at {α : Type} {c0 : Nat} {K : List Nat} {F F2 : Nat → Nat → α} {k : Nat} (h : fj c0 K F F2) (hk : k ∉ K) : F2 c0 k = F c0 k := h c0 k (fun e => hk e.2)
theorem e_77 : ∀ i : Nat, i < 10 → ((7 : Int32) * Int32.ofNat i) + (7 : Int32) = (7 : Int32) * Int32.ofNat (i + 1) := by first | decide | simp
theorem sh_in (c : Int) : ms_sh c ≤ 8 ∨ (11 ≤ ms_sh c ∧ ms_sh c ≤ 18) ∨ (20 ≤ ms_sh c ∧ ms_sh c ≤ 24) := by
  unfold ms_sh
  by_cases h0 : c = 8 ∨ c = 21 ∨ c = 148
  · rw [if_pos h0]; decide
  rw [if_neg h0]
  by_cases h1 : c = 10 ∨ c = 152
  · rw [if_pos h1]; decide
  rw [if_neg h1]
  by_cases h2 : c = 12 ∨ c = 153
  · rw [if_pos h2]; decide
  rw [if_neg h2]
  by_cases h3 : c = 3 ∨ c = 14
  · rw [if_pos h3]; decide
  rw [if_neg h3]
  by_cases h4 : c = 9
  · rw [if_pos h4]; decide
  rw [if_neg h4]
  by_cases h5 : c = 11 ∨ c = 40 ∨ c = 47
  · rw [if_pos h5]; decide
  rw [if_neg h5]
  by_cases h6 : c = 13
  · rw [if_pos h6]; decide
  rw [if_neg h6]
  by_cases h7 : c = 15
  · rw [if_pos h7]; decide
  rw [if_neg h7]
  by_cases h8 : c = 16 ∨ c = 35 ∨ c = 144 ∨ c = 147
  · rw [if_pos h8]; decide
  rw [if_neg h8]
  by_cases h9 : c = 17 ∨ c = 145 ∨ (112 ≤ c ∧ c ≤ 143)
  · rw [if_pos h9]; decide
  rw [if_neg h9]
  by_cases h10 : c = 146
  · rw [if_pos h10]; decide
  rw [if_neg h10]
  by_cases h11 : c = 157
  · rw [if_pos h11]; decide
  rw [if_neg h11]
  by_cases h12 : c = 158
  · rw [if_pos h12]; decide
  rw [if_neg h12]
  decide
section CDI
variable {n sl : Nat} {SH : Nat → Nat × Nat} {FI : Nat → Nat → Int32} {FL : Nat → Nat → Int64} {FR : Nat → Nat → Option Nat} {r A p : Nat} {bs : List Int32} {a2 a3 v : Int32} {st : hS}
def cl_cI (A : Nat) (bs : List Int32) (F2 : Nat → Nat → Int32) (L2 : Nat → Nat → Int64) (v : Int32) (q : Int ⊕ (Int64 × Nat)) : Prop := match q with
  | .inl e => v.toInt = e ∧ e ≠ 0
  | .inr x => v.toInt = 0 ∧ L2 49 14 = x.1 ∧ (F2 49 10).toInt = ((A + x.2 : Nat) : Int) ∧ x.2 ≤ bs.length
theorem cl_8I {sg : Bool} (hr : r ≠ 49) (hs : a3.toInt = 0 ↔ sg = false) (h3 : a2.toInt = ((A + bs.length : Nat) : Int)) : ∀ (g i p : Nat) (l4i : Int32) (FI : Nat → Nat → Int32) (FL : Nat → Nat → Int64) (v : Int32) (st : hS), l4i.toInt = i → i ≤ 10 → bk FI SH r A bs → (FI 49 10).toInt = ((A + p : Nat) : Int) → p ≤ bs.length → GX9_readLebI_8 (some r) a2 a3 g l4i n sl SH FI FL FR v st → ∃ F2 L2, st = (n, sl, SH, F2, L2, FR) ∧ fj 49 [10] FI F2 ∧ fj 49 [14] FL L2 ∧ cl_cI A bs F2 L2 v (ms_lb sg bs (10 - i) i p (FL 49 14)) := by
  intro g
  induction g with
  | zero => intro i p l4i FI FL v st _ _ _ _ _ h; exact h.elim
  | succ g ih =>
    intro i p l4i FI FL v st hi hik hb hn hp h
    have b2 := hb.2.1
    have b3 := hb.2.2.1
    have b4 := hb.2.2.2
    rcases h with ⟨h0, h⟩ | ⟨h0, e1, e2⟩
    · rw [show ((10 : Int32)).toInt = 10 by first | decide | simp] at h0
      rw [show 10 - i = (10 - (i + 1)) + 1 by omega, ms_lb]
      have h := P_n h (by rw [hn]; omega)
      rw [hn, h3] at h
      rcases h with ⟨h1, h⟩ | ⟨h1, e1, e2⟩
      · obtain ⟨q, eq, h⟩ := h
        cases eq
        have h := P_p h (by rw [i_lit (by omega)]; omega)
        obtain ⟨q, eq, -, h⟩ := h
        cases eq
        obtain ⟨b, hb0⟩ := ms_ex_i (bs := bs) (i := p) (by omega)
        have f1 := b4 p b hb0
        rw [hb0]
        (try dsimp only)
        rw [show (((A + p : Nat) : Int)).toNat = A + p by omega, f1.1, show ((128 : Int32)).toInt = 128 by first | decide | simp, i_of hi (by omega)] at h
        have hx : (FI 49 10 + (1 : Int32)).toInt = ((A + (p + 1) : Nat) : Int) := by rw [i_add hn (by first | decide | simp : ((1 : Int32)).toInt = 1) (by omega) (by omega)]; omega
        have k2 : ((h_up FI 49 10 (FI 49 10 + (1 : Int32))) 49 10).toInt = ((A + (p + 1) : Nat) : Int) := by rw [h_up_eq]; exact hx
        rcases h with ⟨hb1, h⟩ | ⟨hb1, h⟩
        · rw [if_pos hb1]
          rcases h with ⟨h2, e1, e2⟩ | ⟨h2, h⟩
          · exact ⟨_, _, e2, fj_up fj_rf (by first | decide | simp), fj_up fj_rf (by first | decide | simp), by rw [e1]; decide, by rw [if_neg (fun e => by rw [hs.mp h2] at e; exact absurd e.1 (by first | decide | simp)), h_up_eq]; rfl, k2, by omega⟩
          · have hsg : sg = true := by
              cases sg with
              | true => rfl
              | false => exact absurd (hs.mpr rfl) h2
            rw [i_lit (by omega), show ((9 : Int32)).toInt = 9 by first | decide | simp] at h
            rcases h with ⟨h5, h⟩ | ⟨h5, e1, e2⟩
            · rcases h with ⟨h6, e1, e2⟩ | ⟨h6, e1, e2⟩
              · exact ⟨_, _, e2, fj_up fj_rf (by first | decide | simp), fj_up fj_rf (by first | decide | simp), by rw [e1]; decide, by rw [if_neg (fun e => e.2.2 h6), h_up_eq]; rfl, k2, by omega⟩
              · exact ⟨_, _, e2, fj_up fj_rf (by first | decide | simp), fj_up (fj_up fj_rf (by first | decide | simp)) (by first | decide | simp), by rw [e1]; decide, by rw [if_pos ⟨hsg, by omega, h6⟩, h_up_eq, e_77 i (by omega)]; rfl, k2, by omega⟩
            · exact ⟨_, _, e2, fj_up fj_rf (by first | decide | simp), fj_up fj_rf (by first | decide | simp), by rw [e1]; decide, by rw [if_neg (fun e => h5 (by have := e.2.1; omega)), h_up_eq]; rfl, k2, by omega⟩
        · rw [if_neg hb1]
          have e7 : (Int32.ofNat i + (1 : Int32)).toInt = ((i + 1 : Nat) : Int) := by rw [i_add (i_lit (by omega)) (by first | decide | simp : ((1 : Int32)).toInt = 1) (by omega) (by omega)]; omega
          obtain ⟨F2, L2, e, f, f2, q⟩ := ih (i + 1) (p + 1) _ _ _ v st e7 (by omega) (bk_fr hb (h_up_nc hr)) k2 (by omega) h
          rw [h_up_eq] at q
          exact ⟨F2, L2, e, fj_tr (fj_up fj_rf (by first | decide | simp)) f, fj_tr (fj_up fj_rf (by first | decide | simp)) f2, q⟩
      · have e : p = bs.length := by omega
        rw [List.getElem?_eq_none (by omega)]
        exact ⟨_, _, e2, fj_rf, fj_rf, by rw [e1]; decide, by first | decide | simp⟩
    · rw [show ((10 : Int32)).toInt = 10 by first | decide | simp] at h0
      have e : i = 10 := by omega
      subst e
      show ∃ F2 L2, st = (n, sl, SH, F2, L2, FR) ∧ fj 49 [10] FI F2 ∧ fj 49 [14] FL L2 ∧ cl_cI A bs F2 L2 v (.inl 15)
      exact ⟨_, _, e2, fj_rf, fj_rf, by rw [e1]; decide, by first | decide | simp⟩
theorem cl_lebI {sg : Bool} (hr : r ≠ 49) (hs : a3.toInt = 0 ↔ sg = false) (h3 : a2.toInt = ((A + bs.length : Nat) : Int)) (hb : bk FI SH r A bs) (hn : (FI 49 10).toInt = ((A + p : Nat) : Int)) (hp : p ≤ bs.length) (h : RX9_readLebI (some r) a2 a3 n sl SH FI FL FR v st) : ∃ F2 L2, st = (n, sl, SH, F2, L2, FR) ∧ fj 49 [10] FI F2 ∧ fj 49 [14] FL L2 ∧ cl_cI A bs F2 L2 v (ms_lb sg bs 10 0 p 0) := by
  obtain ⟨g, h⟩ := h
  obtain ⟨F2, L2, e, f, f2, q⟩ := cl_8I hr hs h3 g 0 p _ FI _ v st (by first | decide | simp) (by omega) hb hn hp h
  rw [h_up_eq] at q
  exact ⟨F2, L2, e, f, fj_tr (fj_up fj_rf (by first | decide | simp)) f2, q⟩
/-- what decoding has left -/
def co_cI (A : Nat) (bs : List Int32) (w : Nat) (F2 : Nat → Nat → Int32) (L2 : Nat → Nat → Int64) (v : Int32) (q : Int ⊕ ms_O) : Prop := match q with
  | .inl e => v.toInt = e ∧ e ≠ 0
  | .inr x => v.toInt = 0 ∧ L2 49 12 = x.1 ∧ (w = 22 ∨ w = 23 → L2 49 13 = x.2.1) ∧ (w = 24 → 0 ≤ x.1.toInt ∧ x.1.toInt ≤ x.2.2.1 ∧ (L2 49 13).toInt = ((A + (x.2.2.1 - x.1.toInt.toNat) : Nat) : Int)) ∧ (F2 49 10).toInt = ((A + x.2.2.1 : Nat) : Int) ∧ x.2.2.1 ≤ bs.length
theorem co_numI {w : Nat} (hr : r ≠ 49) (h3 : a2.toInt = ((A + bs.length : Nat) : Int)) (hb : bk FI SH r A bs) (hn : (FI 49 10).toInt = ((A + p : Nat) : Int)) (hp : p ≤ bs.length) (hw : a3.toInt = w) (hw8 : w ≤ 8 ∨ (11 ≤ w ∧ w ≤ 18)) (h : RX9_readNumberI (some r) a2 a3 n sl SH FI FL FR v st) : ∃ F2 L2, st = (n, sl, SH, F2, L2, FR) ∧ fj 49 [10] FI F2 ∧ fj 49 [12, 13, 14] FL L2 ∧ co_cI A bs w F2 L2 v (ms_o1 (if 10 < w then ms_fs bs p (w - 10) else ms_fx bs p w)) := by
  have b2 := hb.2.1
  have b3 := hb.2.2.1
  have key : ∀ (k : Nat) (s0 : Int32), s0.toInt = k → k ≤ 8 → (10 < w → k = w - 10) → (¬ 10 < w → k = w) → RX9_readNumberI_14 (some r) a2 a3 s0 n sl SH FI FL FR v st → ∃ F2 L2, st = (n, sl, SH, F2, L2, FR) ∧ fj 49 [10] FI F2 ∧ fj 49 [12, 13, 14] FL L2 ∧ co_cI A bs w F2 L2 v (ms_o1 (if 10 < w then ms_fs bs p (w - 10) else ms_fx bs p w)) := by
    intro k s0 hk hk8 k1 k2 h
    unfold RX9_readNumberI_14 at h
    rw [i_sub h3 hn (by omega) (by omega), hk, show ((10 : Int32)).toInt = 10 by first | decide | simp, hw] at h
    have es : s0 = Int32.ofNat k := i_of hk (by omega)
    rcases h with ⟨h0, e1, e⟩ | ⟨h0, h⟩
    · refine ⟨_, _, e, fj_rf, fj_rf, ?_⟩
      by_cases hw2 : 10 < w
      · rw [if_pos hw2]; unfold ms_fs; rw [if_pos (by have := k1 hw2; omega)]
        exact ⟨by rw [e1]; decide, by first | decide | simp⟩
      · rw [if_neg hw2]; unfold ms_fx; rw [if_pos (by have := k2 hw2; omega)]
        exact ⟨by rw [e1]; decide, by first | decide | simp⟩
    · obtain ⟨v1, n1, sl1, SH1, FI1, FL1, FR1, hnum, h⟩ := h
      obtain ⟨ev, e1⟩ := cn_num (p := p) (k := k) (bk_0 hb) hn hk hk8 (by omega) hnum
      cases e1
      have nx : (FI 49 10 + s0).toInt = ((A + (p + k) : Nat) : Int) := by rw [i_add hn hk (by omega) (by omega)]; omega
      rcases h with ⟨h5, e1, e⟩ | ⟨h5, e1, e⟩
      · have kk := k1 (by omega)
        refine ⟨_, _, e, fj_up fj_rf (by first | decide | simp), fj_up (fj_up fj_rf (by first | decide | simp)) (by first | decide | simp), ?_⟩
        rw [if_pos (by omega)]; unfold ms_fs; rw [if_neg (by omega)]
        refine ⟨by rw [e1]; decide, ?_, fun e => by omega, fun e => by omega, ?_, ?_⟩
        · rw [h_up_eq, ev, ← kk, es]; rfl
        · rw [h_up_eq, ← kk]; exact nx
        · show p + (w - 10) ≤ bs.length
          omega
      · have kk := k2 (by omega)
        refine ⟨_, _, e, fj_up fj_rf (by first | decide | simp), fj_up fj_rf (by first | decide | simp), ?_⟩
        rw [if_neg (by omega)]; unfold ms_fx; rw [if_neg (by omega)]
        refine ⟨by rw [e1]; decide, ?_, fun e => by omega, fun e => by omega, ?_, ?_⟩
        · rw [h_up_eq, ev, ← kk]
        · rw [h_up_eq, ← kk]; exact nx
        · show p + w ≤ bs.length
          omega
  unfold RX9_readNumberI at h
  rw [show ((10 : Int32)).toInt = 10 by first | decide | simp, hw] at h
  rcases h with ⟨h0, h⟩ | ⟨h0, h⟩
  · exact key (w - 10) _ (by rw [i_sub hw (by first | decide | simp : ((10 : Int32)).toInt = 10) (by omega) (by omega)]; omega) (by omega) (fun _ => rfl) (fun e => by omega) h
  · exact key w _ hw (by omega) (fun e => by omega) (fun _ => rfl) h
theorem co_opI {c : Int32} {w : Int32} (hr : r ≠ 49) (h3 : a2.toInt = ((A + bs.length : Nat) : Int)) (hb : bk FI SH r A bs) (hn : (FI 49 10).toInt = ((A + p : Nat) : Int)) (hp : p ≤ bs.length) (hw : w.toInt = (if ms_kn c.toInt = true then (ms_sh c.toInt : Int) else 25)) (h : RX9_readOperandsI (some r) a2 w n sl SH FI FL FR v st) : ∃ F2 L2, st = (n, sl, SH, F2, L2, FR) ∧ fj 49 [10] FI F2 ∧ fj 49 [12, 13, 14] FL L2 ∧ co_cI A bs (ms_sh c.toInt) F2 L2 v (ms_op c.toInt bs p) := by
  have b2 := hb.2.1
  have b3 := hb.2.2.1
  unfold RX9_readOperandsI at h
  rw [show ((25 : Int32)).toInt = 25 by first | decide | simp, show ((20 : Int32)).toInt = 20 by first | decide | simp, show ((21 : Int32)).toInt = 21 by first | decide | simp] at h
  have hsh := sh_in c.toInt
  unfold ms_op
  cases hk : ms_kn c.toInt with
  | false =>
    rw [if_pos rfl]
    rw [hk, if_neg (by first | decide | simp)] at hw
    have h := P_p h hw
    exact ⟨_, _, h.2, fj_rf, fj_rf, by rw [h.1]; decide, by first | decide | simp⟩
  | true =>
    rw [if_neg (by first | decide | simp)]
    rw [hk, if_pos rfl] at hw
    generalize ms_sh c.toInt = w0 at hw hsh ⊢
    have h := P_n h (by rw [hw]; omega)
    rcases h with ⟨h0, h⟩ | ⟨h0, h⟩
    · rw [if_neg (by omega), if_neg (by omega), if_neg (by omega), if_neg (by omega), if_neg (by omega)]
      obtain ⟨v2, n2, sl2, SH2, FI2, FL2, FR2, hh, e1, e⟩ := h
      obtain ⟨F2, L2, e2, q1, q2, q3⟩ := co_numI (w := w0) hr h3 hb hn hp hw (by omega) hh
      cases e2
      rw [← e1] at q3
      refine ⟨_, _, e, q1, q2, ?_⟩
      by_cases h10 : 10 < w0
      · rw [if_pos h10]; rw [if_pos h10] at q3; exact q3
      · rw [if_neg h10]; rw [if_neg h10] at q3; exact q3
    · -- LEBs
      have st1 : ∀ (sg : Bool) (s0 : Int32), (s0.toInt = 0 ↔ sg = false) → RX9_readOperandsI_36 (some r) a2 w s0 a2 (some r) n sl SH FI FL FR v st → ∃ F1 L1 v1, fj 49 [10] FI F1 ∧ fj 49 [12, 13, 14] FL L1 ∧ cl_cI A bs F1 L1 v1 (ms_lb sg bs 10 0 p 0) ∧ L1 49 12 = L1 49 14 ∧ P_if (v1.toInt = 0) (P_if (w.toInt = ((22 : Int32)).toInt) (RX9_readOperandsI_66 (some r) a2 w n sl SH F1 L1 FR) (P_if (w.toInt = ((23 : Int32)).toInt) (RX9_readOperandsI_66 (some r) a2 w n sl SH F1 L1 FR) (RX9_readOperandsI_93 (some r) a2 w v1 n sl SH F1 L1 FR))) (RX9_readOperandsI_93 (some r) a2 w v1 n sl SH F1 L1 FR) v st := by
        intro sg s0 hs h
        obtain ⟨v0, n0, sl0, SH0, FI0, FL0, FR0, hh, h⟩ := h
        obtain ⟨F2, L2, e2, q1, q2, q3⟩ := cl_lebI (p := p) hr hs h3 hb hn hp hh
        cases e2
        refine ⟨_, _, _, q1, fj_up (fj_le q2 (by first | decide | simp)) (by first | decide | simp), ?_, ?_, h⟩
        · generalize ms_lb sg bs 10 0 p 0 = z at q3
          match z, q3 with
          | .inl e, q3 => exact q3
          | .inr x, q3 => exact ⟨q3.1, by rw [h_up_ne (by first | decide | simp)]; exact q3.2.1, q3.2.2⟩
        · rw [h_up_eq, h_up_ne (by first | decide | simp)]
      have f93 : ∀ {F1 : Nat → Nat → Int32} {L1 : Nat → Nat → Int64} {v1 : Int32}, w0 ≠ 24 → RX9_readOperandsI_93 (some r) a2 w v1 n sl SH F1 L1 FR v st → v = v1 ∧ st = (n, sl, SH, F1, L1, FR) := by
        intro F1 L1 v1 h24 h
        rcases h with ⟨-, h⟩ | ⟨-, h⟩
        · have h := P_n h (by rw [hw, show ((24 : Int32)).toInt = 24 by first | decide | simp]; omega)
          exact h
        · exact h
      by_cases w24 : w0 = 24
      · rw [if_pos w24]
        rcases h with ⟨h5, h⟩ | ⟨h5, h⟩
        · exfalso; omega
        obtain ⟨F1, L1, v1, q1, q2, q3, q4, h⟩ := st1 false _ (by first | decide | simp) h
        unfold ms_lu
        generalize ms_lb false bs 10 0 p 0 = z at q3
        match z, q3 with
        | .inl e, q3 =>
          obtain ⟨y1, y2⟩ := q3
          have h := P_n h (by rw [y1]; exact y2)
          have h := P_n h (by rw [y1]; exact y2)
          exact ⟨_, _, h.2, q1, q2, by rw [h.1]; exact y1, y2⟩
        | .inr x, q3 =>
          obtain ⟨y1, y2, y3, y4⟩ := q3
          have h := P_p h y1
          have h := P_n (P_n h (by rw [hw, show ((22 : Int32)).toInt = 22 by first | decide | simp]; omega)) (by rw [hw, show ((23 : Int32)).toInt = 23 by first | decide | simp]; omega)
          have h := P_p (P_p h y1) (by rw [hw, show ((24 : Int32)).toInt = 24 by first | decide | simp]; omega)
          have e12 : L1 49 12 = x.1 := by rw [q4]; exact y2
          rw [e12, show ((0 : Int64)).toInt = 0 by first | decide | simp, i_2l (i_sub h3 y3 (by omega) (by omega))] at h
          unfold ms_o3
          (try dsimp only)
          rcases h with ⟨g1, e1, e⟩ | ⟨g1, h⟩
          · rw [if_pos (Or.inl g1)]
            exact ⟨_, _, e, q1, q2, by rw [e1]; decide, by first | decide | simp⟩
          · rcases h with ⟨g2, e1, e⟩ | ⟨g2, e1, e⟩
            · rw [if_pos (Or.inr (by omega))]
              exact ⟨_, _, e, q1, q2, by rw [e1]; decide, by first | decide | simp⟩
            · rw [if_neg (by omega)]
              refine ⟨_, _, e, fj_up q1 (by first | decide | simp), fj_up q2 (by first | decide | simp), by rw [e1]; exact y1, by rw [h_up_ne (by first | decide | simp)]; exact e12, fun e => by omega, fun _ => ⟨by show 0 ≤ x.1.toInt; omega, ?_, ?_⟩, ?_, ?_⟩
              · show x.1.toInt ≤ ((x.2 + x.1.toInt.toNat : Nat) : Int)
                omega
              · rw [h_up_eq, i_2l y3]
                show _ = ((A + (x.2 + x.1.toInt.toNat - x.1.toInt.toNat) : Nat) : Int)
                omega
              · rw [h_up_eq, i_add y3 (l_2i rfl (by omega) (by omega)) (by omega) (by omega)]
                show _ = ((A + (x.2 + x.1.toInt.toNat) : Nat) : Int)
                omega
              · show x.2 + x.1.toInt.toNat ≤ bs.length
                omega
      rw [if_neg w24]
      have two : ∀ (sg : Bool) (s0 : Int32), (s0.toInt = 0 ↔ sg = false) → (w0 = 22 ∨ w0 = 23) → RX9_readOperandsI_36 (some r) a2 w ((0 : Int32)) a2 (some r) n sl SH FI FL FR v st → (∀ {F1 : Nat → Nat → Int32} {L1 : Nat → Nat → Int64}, RX9_readOperandsI_66 (some r) a2 w n sl SH F1 L1 FR v st → RX9_readOperandsI_80 (some r) a2 w s0 a2 (some r) n sl SH F1 L1 FR v st) → ∃ F2 L2, st = (n, sl, SH, F2, L2, FR) ∧ fj 49 [10] FI F2 ∧ fj 49 [12, 13, 14] FL L2 ∧ co_cI A bs w0 F2 L2 v (ms_o2 (ms_lu bs p) (fun q => ms_lb sg bs 10 0 q 0)) := by
        intro sg s0 hs hw2 h h66
        obtain ⟨F1, L1, v1, q1, q2, q3, q4, h⟩ := st1 false _ (by first | decide | simp) h
        unfold ms_lu
        generalize ms_lb false bs 10 0 p 0 = z at q3
        match z, q3 with
        | .inl e, q3 =>
          obtain ⟨y1, y2⟩ := q3
          have h := P_n h (by rw [y1]; exact y2)
          have h := f93 w24 h
          exact ⟨_, _, h.2, q1, q2, by rw [h.1]; exact y1, y2⟩
        | .inr x, q3 =>
          obtain ⟨y1, y2, y3, y4⟩ := q3
          have h := P_p h y1
          have h : RX9_readOperandsI_66 (some r) a2 w n sl SH F1 L1 FR v st := by
            rcases h with ⟨-, h⟩ | ⟨g, h⟩
            · exact h
            · rw [hw, show ((22 : Int32)).toInt = 22 by first | decide | simp] at g
              exact P_p h (by rw [hw, show ((23 : Int32)).toInt = 23 by first | decide | simp]; omega)
          obtain ⟨v0, n0, sl0, SH0, FI0, FL0, FR0, hh, h⟩ := h66 h
          obtain ⟨F2, L2, e2, z1, z2, z3⟩ := cl_lebI (p := x.2) hr hs h3 (bk_fr hb (fj_row q1 hr)) y3 y4 hh
          cases e2
          have h := f93 w24 h
          refine ⟨_, _, h.2, fj_tr q1 z1, fj_up (fj_tr q2 (fj_le z2 (by first | decide | simp))) (by first | decide | simp), ?_⟩
          rw [h.1]
          show co_cI A bs w0 FI0 _ v0 (match ms_lb sg bs 10 0 x.2 0 with | .inl e => .inl e | .inr y => .inr (x.1, y.1, y.2, []))
          generalize ms_lb sg bs 10 0 x.2 0 = zz at z3
          match zz, z3 with
          | .inl e, z3 => exact z3
          | .inr y, z3 =>
            obtain ⟨u1, u2, u3, u4⟩ := z3
            exact ⟨u1, by rw [h_up_ne (by first | decide | simp), fj_at z2 (by first | decide | simp), q4]; exact y2, fun _ => by rw [h_up_eq]; exact u2, fun e => absurd e w24, u3, u4⟩
      by_cases w23 : w0 = 23
      · rw [if_pos w23]
        rcases h with ⟨h5, h⟩ | ⟨h5, h⟩
        · exfalso; omega
        exact two false _ (by first | decide | simp) (Or.inr w23) h (fun h => P_n h (by rw [hw, show ((22 : Int32)).toInt = 22 by first | decide | simp]; omega))
      rw [if_neg w23]
      by_cases w22 : w0 = 22
      · rw [if_pos w22]
        rcases h with ⟨h5, h⟩ | ⟨h5, h⟩
        · exfalso; omega
        exact two true _ (by first | decide | simp) (Or.inl w22) h (fun h => P_p h (by rw [hw, show ((22 : Int32)).toInt = 22 by first | decide | simp]; omega))
      rw [if_neg w22]
      have one : ∀ (sg : Bool) (s0 : Int32), (s0.toInt = 0 ↔ sg = false) → RX9_readOperandsI_36 (some r) a2 w s0 a2 (some r) n sl SH FI FL FR v st → ∃ F2 L2, st = (n, sl, SH, F2, L2, FR) ∧ fj 49 [10] FI F2 ∧ fj 49 [12, 13, 14] FL L2 ∧ co_cI A bs w0 F2 L2 v (ms_o1 (ms_lb sg bs 10 0 p 0)) := by
        intro sg s0 hs h
        obtain ⟨F1, L1, v1, q1, q2, q3, q4, h⟩ := st1 sg _ hs h
        have h : v = v1 ∧ st = (n, sl, SH, F1, L1, FR) := by
          rcases h with ⟨-, h⟩ | ⟨-, h⟩
          · exact f93 w24 (P_n (P_n h (by rw [hw, show ((22 : Int32)).toInt = 22 by first | decide | simp]; omega)) (by rw [hw, show ((23 : Int32)).toInt = 23 by first | decide | simp]; omega))
          · exact f93 w24 h
        refine ⟨_, _, h.2, q1, q2, ?_⟩
        rw [h.1]
        generalize ms_lb sg bs 10 0 p 0 = z at q3
        match z, q3 with
        | .inl e, q3 => exact q3
        | .inr x, q3 => exact ⟨q3.1, by rw [q4]; exact q3.2.1, fun e => by omega, fun e => absurd e w24, q3.2.2⟩
      rcases h with ⟨h5, h⟩ | ⟨h5, h⟩
      · rw [if_pos (by omega)]
        exact one true _ (by first | decide | simp) h
      · rw [if_neg (by omega), if_pos (by omega)]
        exact one false _ (by first | decide | simp) h
end CDI
section CD
variable {n sl : Nat} {SH : Nat → Nat × Nat} {FI : Nat → Nat → Int32} {FL : Nat → Nat → Int64} {FR : Nat → Nat → Option Nat} {r A p : Nat} {bs : List Int32} {a2 a3 v : Int32} {st : hS}
def cl_c (A : Nat) (bs : List Int32) (F2 : Nat → Nat → Int32) (L2 : Nat → Nat → Int64) (v : Int32) (q : Int ⊕ (Int64 × Nat)) : Prop := match q with
  | .inl e => v.toInt = e ∧ e ≠ 0
  | .inr x => v.toInt = 0 ∧ L2 48 14 = x.1 ∧ (F2 48 10).toInt = ((A + x.2 : Nat) : Int) ∧ x.2 ≤ bs.length
theorem cl_8 {sg : Bool} (hr : r ≠ 48) (hs : a3.toInt = 0 ↔ sg = false) (h3 : a2.toInt = ((A + bs.length : Nat) : Int)) : ∀ (g i p : Nat) (l4i : Int32) (FI : Nat → Nat → Int32) (FL : Nat → Nat → Int64) (v : Int32) (st : hS), l4i.toInt = i → i ≤ 10 → bk FI SH r A bs → (FI 48 10).toInt = ((A + p : Nat) : Int) → p ≤ bs.length → GX9_readLeb_8 (some r) a2 a3 g l4i n sl SH FI FL FR v st → ∃ F2 L2, st = (n, sl, SH, F2, L2, FR) ∧ fj 48 [10] FI F2 ∧ fj 48 [14] FL L2 ∧ cl_c A bs F2 L2 v (ms_lb sg bs (10 - i) i p (FL 48 14)) := by
  intro g
  induction g with
  | zero => intro i p l4i FI FL v st _ _ _ _ _ h; exact h.elim
  | succ g ih =>
    intro i p l4i FI FL v st hi hik hb hn hp h
    have b2 := hb.2.1
    have b3 := hb.2.2.1
    have b4 := hb.2.2.2
    rcases h with ⟨h0, h⟩ | ⟨h0, e1, e2⟩
    · rw [show ((10 : Int32)).toInt = 10 by first | decide | simp] at h0
      rw [show 10 - i = (10 - (i + 1)) + 1 by omega, ms_lb]
      have h := P_n h (by rw [hn]; omega)
      rw [hn, h3] at h
      rcases h with ⟨h1, h⟩ | ⟨h1, e1, e2⟩
      · obtain ⟨q, eq, h⟩ := h
        cases eq
        have h := P_p h (by rw [i_lit (by omega)]; omega)
        obtain ⟨q, eq, -, h⟩ := h
        cases eq
        obtain ⟨b, hb0⟩ := ms_ex_i (bs := bs) (i := p) (by omega)
        have f1 := b4 p b hb0
        rw [hb0]
        (try dsimp only)
        rw [show (((A + p : Nat) : Int)).toNat = A + p by omega, f1.1, show ((128 : Int32)).toInt = 128 by first | decide | simp, i_of hi (by omega)] at h
        have hx : (FI 48 10 + (1 : Int32)).toInt = ((A + (p + 1) : Nat) : Int) := by rw [i_add hn (by first | decide | simp : ((1 : Int32)).toInt = 1) (by omega) (by omega)]; omega
        have k2 : ((h_up FI 48 10 (FI 48 10 + (1 : Int32))) 48 10).toInt = ((A + (p + 1) : Nat) : Int) := by rw [h_up_eq]; exact hx
        rcases h with ⟨hb1, h⟩ | ⟨hb1, h⟩
        · rw [if_pos hb1]
          rcases h with ⟨h2, e1, e2⟩ | ⟨h2, h⟩
          · exact ⟨_, _, e2, fj_up fj_rf (by first | decide | simp), fj_up fj_rf (by first | decide | simp), by rw [e1]; decide, by rw [if_neg (fun e => by rw [hs.mp h2] at e; exact absurd e.1 (by first | decide | simp)), h_up_eq]; rfl, k2, by omega⟩
          · have hsg : sg = true := by
              cases sg with
              | true => rfl
              | false => exact absurd (hs.mpr rfl) h2
            rw [i_lit (by omega), show ((9 : Int32)).toInt = 9 by first | decide | simp] at h
            rcases h with ⟨h5, h⟩ | ⟨h5, e1, e2⟩
            · rcases h with ⟨h6, e1, e2⟩ | ⟨h6, e1, e2⟩
              · exact ⟨_, _, e2, fj_up fj_rf (by first | decide | simp), fj_up fj_rf (by first | decide | simp), by rw [e1]; decide, by rw [if_neg (fun e => e.2.2 h6), h_up_eq]; rfl, k2, by omega⟩
              · exact ⟨_, _, e2, fj_up fj_rf (by first | decide | simp), fj_up (fj_up fj_rf (by first | decide | simp)) (by first | decide | simp), by rw [e1]; decide, by rw [if_pos ⟨hsg, by omega, h6⟩, h_up_eq, e_77 i (by omega)]; rfl, k2, by omega⟩
            · exact ⟨_, _, e2, fj_up fj_rf (by first | decide | simp), fj_up fj_rf (by first | decide | simp), by rw [e1]; decide, by rw [if_neg (fun e => h5 (by have := e.2.1; omega)), h_up_eq]; rfl, k2, by omega⟩
        · rw [if_neg hb1]
          have e7 : (Int32.ofNat i + (1 : Int32)).toInt = ((i + 1 : Nat) : Int) := by rw [i_add (i_lit (by omega)) (by first | decide | simp : ((1 : Int32)).toInt = 1) (by omega) (by omega)]; omega
          obtain ⟨F2, L2, e, f, f2, q⟩ := ih (i + 1) (p + 1) _ _ _ v st e7 (by omega) (bk_fr hb (h_up_nc hr)) k2 (by omega) h
          rw [h_up_eq] at q
          exact ⟨F2, L2, e, fj_tr (fj_up fj_rf (by first | decide | simp)) f, fj_tr (fj_up fj_rf (by first | decide | simp)) f2, q⟩
      · have e : p = bs.length := by omega
        rw [List.getElem?_eq_none (by omega)]
        exact ⟨_, _, e2, fj_rf, fj_rf, by rw [e1]; decide, by first | decide | simp⟩
    · rw [show ((10 : Int32)).toInt = 10 by first | decide | simp] at h0
      have e : i = 10 := by omega
      subst e
      show ∃ F2 L2, st = (n, sl, SH, F2, L2, FR) ∧ fj 48 [10] FI F2 ∧ fj 48 [14] FL L2 ∧ cl_c A bs F2 L2 v (.inl 15)
      exact ⟨_, _, e2, fj_rf, fj_rf, by rw [e1]; decide, by first | decide | simp⟩
theorem cl_leb {sg : Bool} (hr : r ≠ 48) (hs : a3.toInt = 0 ↔ sg = false) (h3 : a2.toInt = ((A + bs.length : Nat) : Int)) (hb : bk FI SH r A bs) (hn : (FI 48 10).toInt = ((A + p : Nat) : Int)) (hp : p ≤ bs.length) (h : RX9_readLeb (some r) a2 a3 n sl SH FI FL FR v st) : ∃ F2 L2, st = (n, sl, SH, F2, L2, FR) ∧ fj 48 [10] FI F2 ∧ fj 48 [14] FL L2 ∧ cl_c A bs F2 L2 v (ms_lb sg bs 10 0 p 0) := by
  obtain ⟨g, h⟩ := h
  obtain ⟨F2, L2, e, f, f2, q⟩ := cl_8 hr hs h3 g 0 p _ FI _ v st (by first | decide | simp) (by omega) hb hn hp h
  rw [h_up_eq] at q
  exact ⟨F2, L2, e, f, fj_tr (fj_up fj_rf (by first | decide | simp)) f2, q⟩
/-- what decoding has left -/
def co_c (A : Nat) (bs : List Int32) (w : Nat) (F2 : Nat → Nat → Int32) (L2 : Nat → Nat → Int64) (v : Int32) (q : Int ⊕ ms_O) : Prop := match q with
  | .inl e => v.toInt = e ∧ e ≠ 0
  | .inr x => v.toInt = 0 ∧ L2 48 12 = x.1 ∧ (w = 22 ∨ w = 23 → L2 48 13 = x.2.1) ∧ (w = 24 → 0 ≤ x.1.toInt ∧ x.1.toInt ≤ x.2.2.1 ∧ (L2 48 13).toInt = ((A + (x.2.2.1 - x.1.toInt.toNat) : Nat) : Int)) ∧ (F2 48 10).toInt = ((A + x.2.2.1 : Nat) : Int) ∧ x.2.2.1 ≤ bs.length
theorem co_num {w : Nat} (hr : r ≠ 48) (h3 : a2.toInt = ((A + bs.length : Nat) : Int)) (hb : bk FI SH r A bs) (hn : (FI 48 10).toInt = ((A + p : Nat) : Int)) (hp : p ≤ bs.length) (hw : a3.toInt = w) (hw8 : w ≤ 8 ∨ (11 ≤ w ∧ w ≤ 18)) (h : RX9_readNumber (some r) a2 a3 n sl SH FI FL FR v st) : ∃ F2 L2, st = (n, sl, SH, F2, L2, FR) ∧ fj 48 [10] FI F2 ∧ fj 48 [12, 13, 14] FL L2 ∧ co_c A bs w F2 L2 v (ms_o1 (if 10 < w then ms_fs bs p (w - 10) else ms_fx bs p w)) := by
  have b2 := hb.2.1
  have b3 := hb.2.2.1
  have key : ∀ (k : Nat) (s0 : Int32), s0.toInt = k → k ≤ 8 → (10 < w → k = w - 10) → (¬ 10 < w → k = w) → RX9_readNumber_14 (some r) a2 a3 s0 n sl SH FI FL FR v st → ∃ F2 L2, st = (n, sl, SH, F2, L2, FR) ∧ fj 48 [10] FI F2 ∧ fj 48 [12, 13, 14] FL L2 ∧ co_c A bs w F2 L2 v (ms_o1 (if 10 < w then ms_fs bs p (w - 10) else ms_fx bs p w)) := by
    intro k s0 hk hk8 k1 k2 h
    unfold RX9_readNumber_14 at h
    rw [i_sub h3 hn (by omega) (by omega), hk, show ((10 : Int32)).toInt = 10 by first | decide | simp, hw] at h
    have es : s0 = Int32.ofNat k := i_of hk (by omega)
    rcases h with ⟨h0, e1, e⟩ | ⟨h0, h⟩
    · refine ⟨_, _, e, fj_rf, fj_rf, ?_⟩
      by_cases hw2 : 10 < w
      · rw [if_pos hw2]; unfold ms_fs; rw [if_pos (by have := k1 hw2; omega)]
        exact ⟨by rw [e1]; decide, by first | decide | simp⟩
      · rw [if_neg hw2]; unfold ms_fx; rw [if_pos (by have := k2 hw2; omega)]
        exact ⟨by rw [e1]; decide, by first | decide | simp⟩
    · obtain ⟨v1, n1, sl1, SH1, FI1, FL1, FR1, hnum, h⟩ := h
      obtain ⟨ev, e1⟩ := cn_num (p := p) (k := k) (bk_0 hb) hn hk hk8 (by omega) hnum
      cases e1
      have nx : (FI 48 10 + s0).toInt = ((A + (p + k) : Nat) : Int) := by rw [i_add hn hk (by omega) (by omega)]; omega
      rcases h with ⟨h5, e1, e⟩ | ⟨h5, e1, e⟩
      · have kk := k1 (by omega)
        refine ⟨_, _, e, fj_up fj_rf (by first | decide | simp), fj_up (fj_up fj_rf (by first | decide | simp)) (by first | decide | simp), ?_⟩
        rw [if_pos (by omega)]; unfold ms_fs; rw [if_neg (by omega)]
        refine ⟨by rw [e1]; decide, ?_, fun e => by omega, fun e => by omega, ?_, ?_⟩
        · rw [h_up_eq, ev, ← kk, es]; rfl
        · rw [h_up_eq, ← kk]; exact nx
        · show p + (w - 10) ≤ bs.length
          omega
      · have kk := k2 (by omega)
        refine ⟨_, _, e, fj_up fj_rf (by first | decide | simp), fj_up fj_rf (by first | decide | simp), ?_⟩
        rw [if_neg (by omega)]; unfold ms_fx; rw [if_neg (by omega)]
        refine ⟨by rw [e1]; decide, ?_, fun e => by omega, fun e => by omega, ?_, ?_⟩
        · rw [h_up_eq, ev, ← kk]
        · rw [h_up_eq, ← kk]; exact nx
        · show p + w ≤ bs.length
          omega
  unfold RX9_readNumber at h
  rw [show ((10 : Int32)).toInt = 10 by first | decide | simp, hw] at h
  rcases h with ⟨h0, h⟩ | ⟨h0, h⟩
  · exact key (w - 10) _ (by rw [i_sub hw (by first | decide | simp : ((10 : Int32)).toInt = 10) (by omega) (by omega)]; omega) (by omega) (fun _ => rfl) (fun e => by omega) h
  · exact key w _ hw (by omega) (fun e => by omega) (fun _ => rfl) h
theorem co_op {c : Int32} {w : Int32} (hr : r ≠ 48) (h3 : a2.toInt = ((A + bs.length : Nat) : Int)) (hb : bk FI SH r A bs) (hn : (FI 48 10).toInt = ((A + p : Nat) : Int)) (hp : p ≤ bs.length) (hw : w.toInt = (if ms_kn c.toInt = true then (ms_sh c.toInt : Int) else 25)) (h : RX9_readOperands (some r) a2 w n sl SH FI FL FR v st) : ∃ F2 L2, st = (n, sl, SH, F2, L2, FR) ∧ fj 48 [10] FI F2 ∧ fj 48 [12, 13, 14] FL L2 ∧ co_c A bs (ms_sh c.toInt) F2 L2 v (ms_op c.toInt bs p) := by
  have b2 := hb.2.1
  have b3 := hb.2.2.1
  unfold RX9_readOperands at h
  rw [show ((25 : Int32)).toInt = 25 by first | decide | simp, show ((20 : Int32)).toInt = 20 by first | decide | simp, show ((21 : Int32)).toInt = 21 by first | decide | simp] at h
  have hsh := sh_in c.toInt
  unfold ms_op
  cases hk : ms_kn c.toInt with
  | false =>
    rw [if_pos rfl]
    rw [hk, if_neg (by first | decide | simp)] at hw
    have h := P_p h hw
    exact ⟨_, _, h.2, fj_rf, fj_rf, by rw [h.1]; decide, by first | decide | simp⟩
  | true =>
    rw [if_neg (by first | decide | simp)]
    rw [hk, if_pos rfl] at hw
    generalize ms_sh c.toInt = w0 at hw hsh ⊢
    have h := P_n h (by rw [hw]; omega)
    rcases h with ⟨h0, h⟩ | ⟨h0, h⟩
    · rw [if_neg (by omega), if_neg (by omega), if_neg (by omega), if_neg (by omega), if_neg (by omega)]
      obtain ⟨v2, n2, sl2, SH2, FI2, FL2, FR2, hh, e1, e⟩ := h
      obtain ⟨F2, L2, e2, q1, q2, q3⟩ := co_num (w := w0) hr h3 hb hn hp hw (by omega) hh
      cases e2
      rw [← e1] at q3
      refine ⟨_, _, e, q1, q2, ?_⟩
      by_cases h10 : 10 < w0
      · rw [if_pos h10]; rw [if_pos h10] at q3; exact q3
      · rw [if_neg h10]; rw [if_neg h10] at q3; exact q3
    · -- LEBs
      have st1 : ∀ (sg : Bool) (s0 : Int32), (s0.toInt = 0 ↔ sg = false) → RX9_readOperands_36 (some r) a2 w s0 a2 (some r) n sl SH FI FL FR v st → ∃ F1 L1 v1, fj 48 [10] FI F1 ∧ fj 48 [12, 13, 14] FL L1 ∧ cl_c A bs F1 L1 v1 (ms_lb sg bs 10 0 p 0) ∧ L1 48 12 = L1 48 14 ∧ P_if (v1.toInt = 0) (P_if (w.toInt = ((22 : Int32)).toInt) (RX9_readOperands_66 (some r) a2 w n sl SH F1 L1 FR) (P_if (w.toInt = ((23 : Int32)).toInt) (RX9_readOperands_66 (some r) a2 w n sl SH F1 L1 FR) (RX9_readOperands_93 (some r) a2 w v1 n sl SH F1 L1 FR))) (RX9_readOperands_93 (some r) a2 w v1 n sl SH F1 L1 FR) v st := by
        intro sg s0 hs h
        obtain ⟨v0, n0, sl0, SH0, FI0, FL0, FR0, hh, h⟩ := h
        obtain ⟨F2, L2, e2, q1, q2, q3⟩ := cl_leb (p := p) hr hs h3 hb hn hp hh
        cases e2
        refine ⟨_, _, _, q1, fj_up (fj_le q2 (by first | decide | simp)) (by first | decide | simp), ?_, ?_, h⟩
        · generalize ms_lb sg bs 10 0 p 0 = z at q3
          match z, q3 with
          | .inl e, q3 => exact q3
          | .inr x, q3 => exact ⟨q3.1, by rw [h_up_ne (by first | decide | simp)]; exact q3.2.1, q3.2.2⟩
        · rw [h_up_eq, h_up_ne (by first | decide | simp)]
      have f93 : ∀ {F1 : Nat → Nat → Int32} {L1 : Nat → Nat → Int64} {v1 : Int32}, w0 ≠ 24 → RX9_readOperands_93 (some r) a2 w v1 n sl SH F1 L1 FR v st → v = v1 ∧ st = (n, sl, SH, F1, L1, FR) := by
        intro F1 L1 v1 h24 h
        rcases h with ⟨-, h⟩ | ⟨-, h⟩
        · have h := P_n h (by rw [hw, show ((24 : Int32)).toInt = 24 by first | decide | simp]; omega)
          exact h
        · exact h
      by_cases w24 : w0 = 24
      · rw [if_pos w24]
        rcases h with ⟨h5, h⟩ | ⟨h5, h⟩
        · exfalso; omega
        obtain ⟨F1, L1, v1, q1, q2, q3, q4, h⟩ := st1 false _ (by first | decide | simp) h
        unfold ms_lu
        generalize ms_lb false bs 10 0 p 0 = z at q3
        match z, q3 with
        | .inl e, q3 =>
          obtain ⟨y1, y2⟩ := q3
          have h := P_n h (by rw [y1]; exact y2)
          have h := P_n h (by rw [y1]; exact y2)
          exact ⟨_, _, h.2, q1, q2, by rw [h.1]; exact y1, y2⟩
        | .inr x, q3 =>
          obtain ⟨y1, y2, y3, y4⟩ := q3
          have h := P_p h y1
          have h := P_n (P_n h (by rw [hw, show ((22 : Int32)).toInt = 22 by first | decide | simp]; omega)) (by rw [hw, show ((23 : Int32)).toInt = 23 by first | decide | simp]; omega)
          have h := P_p (P_p h y1) (by rw [hw, show ((24 : Int32)).toInt = 24 by first | decide | simp]; omega)
          have e12 : L1 48 12 = x.1 := by rw [q4]; exact y2
          rw [e12, show ((0 : Int64)).toInt = 0 by first | decide | simp, i_2l (i_sub h3 y3 (by omega) (by omega))] at h
          unfold ms_o3
          (try dsimp only)
          rcases h with ⟨g1, e1, e⟩ | ⟨g1, h⟩
          · rw [if_pos (Or.inl g1)]
            exact ⟨_, _, e, q1, q2, by rw [e1]; decide, by first | decide | simp⟩
          · rcases h with ⟨g2, e1, e⟩ | ⟨g2, e1, e⟩
            · rw [if_pos (Or.inr (by omega))]
              exact ⟨_, _, e, q1, q2, by rw [e1]; decide, by first | decide | simp⟩
            · rw [if_neg (by omega)]
              refine ⟨_, _, e, fj_up q1 (by first | decide | simp), fj_up q2 (by first | decide | simp), by rw [e1]; exact y1, by rw [h_up_ne (by first | decide | simp)]; exact e12, fun e => by omega, fun _ => ⟨by show 0 ≤ x.1.toInt; omega, ?_, ?_⟩, ?_, ?_⟩
              · show x.1.toInt ≤ ((x.2 + x.1.toInt.toNat : Nat) : Int)
                omega
              · rw [h_up_eq, i_2l y3]
                show _ = ((A + (x.2 + x.1.toInt.toNat - x.1.toInt.toNat) : Nat) : Int)
                omega
              · rw [h_up_eq, i_add y3 (l_2i rfl (by omega) (by omega)) (by omega) (by omega)]
                show _ = ((A + (x.2 + x.1.toInt.toNat) : Nat) : Int)
                omega
              · show x.2 + x.1.toInt.toNat ≤ bs.length
                omega
      rw [if_neg w24]
      have two : ∀ (sg : Bool) (s0 : Int32), (s0.toInt = 0 ↔ sg = false) → (w0 = 22 ∨ w0 = 23) → RX9_readOperands_36 (some r) a2 w ((0 : Int32)) a2 (some r) n sl SH FI FL FR v st → (∀ {F1 : Nat → Nat → Int32} {L1 : Nat → Nat → Int64}, RX9_readOperands_66 (some r) a2 w n sl SH F1 L1 FR v st → RX9_readOperands_80 (some r) a2 w s0 a2 (some r) n sl SH F1 L1 FR v st) → ∃ F2 L2, st = (n, sl, SH, F2, L2, FR) ∧ fj 48 [10] FI F2 ∧ fj 48 [12, 13, 14] FL L2 ∧ co_c A bs w0 F2 L2 v (ms_o2 (ms_lu bs p) (fun q => ms_lb sg bs 10 0 q 0)) := by
        intro sg s0 hs hw2 h h66
        obtain ⟨F1, L1, v1, q1, q2, q3, q4, h⟩ := st1 false _ (by first | decide | simp) h
        unfold ms_lu
        generalize ms_lb false bs 10 0 p 0 = z at q3
        match z, q3 with
        | .inl e, q3 =>
          obtain ⟨y1, y2⟩ := q3
          have h := P_n h (by rw [y1]; exact y2)
          have h := f93 w24 h
          exact ⟨_, _, h.2, q1, q2, by rw [h.1]; exact y1, y2⟩
        | .inr x, q3 =>
          obtain ⟨y1, y2, y3, y4⟩ := q3
          have h := P_p h y1
          have h : RX9_readOperands_66 (some r) a2 w n sl SH F1 L1 FR v st := by
            rcases h with ⟨-, h⟩ | ⟨g, h⟩
            · exact h
            · rw [hw, show ((22 : Int32)).toInt = 22 by first | decide | simp] at g
              exact P_p h (by rw [hw, show ((23 : Int32)).toInt = 23 by first | decide | simp]; omega)
          obtain ⟨v0, n0, sl0, SH0, FI0, FL0, FR0, hh, h⟩ := h66 h
          obtain ⟨F2, L2, e2, z1, z2, z3⟩ := cl_leb (p := x.2) hr hs h3 (bk_fr hb (fj_row q1 hr)) y3 y4 hh
          cases e2
          have h := f93 w24 h
          refine ⟨_, _, h.2, fj_tr q1 z1, fj_up (fj_tr q2 (fj_le z2 (by first | decide | simp))) (by first | decide | simp), ?_⟩
          rw [h.1]
          show co_c A bs w0 FI0 _ v0 (match ms_lb sg bs 10 0 x.2 0 with | .inl e => .inl e | .inr y => .inr (x.1, y.1, y.2, []))
          generalize ms_lb sg bs 10 0 x.2 0 = zz at z3
          match zz, z3 with
          | .inl e, z3 => exact z3
          | .inr y, z3 =>
            obtain ⟨u1, u2, u3, u4⟩ := z3
            exact ⟨u1, by rw [h_up_ne (by first | decide | simp), fj_at z2 (by first | decide | simp), q4]; exact y2, fun _ => by rw [h_up_eq]; exact u2, fun e => absurd e w24, u3, u4⟩
      by_cases w23 : w0 = 23
      · rw [if_pos w23]
        rcases h with ⟨h5, h⟩ | ⟨h5, h⟩
        · exfalso; omega
        exact two false _ (by first | decide | simp) (Or.inr w23) h (fun h => P_n h (by rw [hw, show ((22 : Int32)).toInt = 22 by first | decide | simp]; omega))
      rw [if_neg w23]
      by_cases w22 : w0 = 22
      · rw [if_pos w22]
        rcases h with ⟨h5, h⟩ | ⟨h5, h⟩
        · exfalso; omega
        exact two true _ (by first | decide | simp) (Or.inl w22) h (fun h => P_p h (by rw [hw, show ((22 : Int32)).toInt = 22 by first | decide | simp]; omega))
      rw [if_neg w22]
      have one : ∀ (sg : Bool) (s0 : Int32), (s0.toInt = 0 ↔ sg = false) → RX9_readOperands_36 (some r) a2 w s0 a2 (some r) n sl SH FI FL FR v st → ∃ F2 L2, st = (n, sl, SH, F2, L2, FR) ∧ fj 48 [10] FI F2 ∧ fj 48 [12, 13, 14] FL L2 ∧ co_c A bs w0 F2 L2 v (ms_o1 (ms_lb sg bs 10 0 p 0)) := by
        intro sg s0 hs h
        obtain ⟨F1, L1, v1, q1, q2, q3, q4, h⟩ := st1 sg _ hs h
        have h : v = v1 ∧ st = (n, sl, SH, F1, L1, FR) := by
          rcases h with ⟨-, h⟩ | ⟨-, h⟩
          · exact f93 w24 (P_n (P_n h (by rw [hw, show ((22 : Int32)).toInt = 22 by first | decide | simp]; omega)) (by rw [hw, show ((23 : Int32)).toInt = 23 by first | decide | simp]; omega))
          · exact f93 w24 h
        refine ⟨_, _, h.2, q1, q2, ?_⟩
        rw [h.1]
        generalize ms_lb sg bs 10 0 p 0 = z at q3
        match z, q3 with
        | .inl e, q3 => exact q3
        | .inr x, q3 => exact ⟨q3.1, by rw [q4]; exact q3.2.1, fun e => by omega, fun e => absurd e w24, q3.2.2⟩
      rcases h with ⟨h5, h⟩ | ⟨h5, h⟩
      · rw [if_pos (by omega)]
        exact one true _ (by first | decide | simp) h
      · rw [if_neg (by omega), if_pos (by omega)]
        exact one false _ (by first | decide | simp) h
end CD
end
section
/-! THE CLASS CHECKS, AND OPERATES. -/
def ms_ck (c : Int) (x : ms_O) (s : ms_S) : Int :=
  if s.2.1.1 ≠ 0 ∧ ¬ (c = 147 ∨ c = 157 ∨ c = 150 ∨ c = 47 ∨ c = 152 ∨ c = 153) then 9
  else if (c = 144 ∨ c = 146) ∧ (x.1.toInt < 0 ∨ 31 < x.1.toInt) then 14
  else if c = 148 ∧ (x.1.toInt < 1 ∨ 8 < x.1.toInt) then 10
  else if (c = 147 ∨ c = 157) ∧ ms_pc c x.1 x.2.1 s = none then 13
  else if (s.1.length : Int) < ms_wt c x.1 then 3
  else 0
theorem c_gw {c : Int32} {SH : Nat → Nat × Nat} {FI : Nat → Nat → Int32} {FL : Nat → Nat → Int64} {FR : Nat → Nat → Option Nat} : (fX9_goesWithHold c SH FI FL FR).toInt = 0 ↔ ¬ (c.toInt = 147 ∨ c.toInt = 157 ∨ c.toInt = 150 ∨ c.toInt = 47 ∨ c.toInt = 152 ∨ c.toInt = 153) := by
  unfold fX9_goesWithHold
  simp only [Int32.reduceToInt]
  by_cases h1 : c.toInt = 147
  · rw [if_pos h1]; exact ⟨fun e => absurd e (by first | decide | simp), fun e => absurd (Or.inl h1) e⟩
  rw [if_neg h1]
  by_cases h2 : c.toInt = 157
  · rw [if_pos h2]; exact ⟨fun e => absurd e (by first | decide | simp), fun e => by omega⟩
  rw [if_neg h2]
  by_cases h3 : c.toInt = 150
  · rw [if_pos h3]; exact ⟨fun e => absurd e (by first | decide | simp), fun e => by omega⟩
  rw [if_neg h3]
  by_cases h4 : c.toInt = 47
  · rw [if_pos h4]; exact ⟨fun e => absurd e (by first | decide | simp), fun e => by omega⟩
  rw [if_neg h4]
  by_cases h5 : c.toInt = 152
  · rw [if_pos h5]; exact ⟨fun e => absurd e (by first | decide | simp), fun e => by omega⟩
  rw [if_neg h5]
  by_cases h6 : c.toInt = 153
  · rw [if_pos h6]; exact ⟨fun e => absurd e (by first | decide | simp), fun e => by omega⟩
  rw [if_neg h6]
  exact ⟨fun _ => by omega, fun _ => by first | decide | simp⟩
theorem pc_n {c : Int} {a b : Int64} {s : ms_S} : ms_pc c a b s = none ↔ (s.2.2.length = 16 ∨ a.toInt < 0 ∨ (if c = 157 then 4096 else 512) < a.toInt ∨ (c = 157 ∧ (b.toInt < 0 ∨ 4096 < b.toInt)) ∨ 4096 < ms_tb s.2.2 + (if c = 157 then a.toInt else 8 * a.toInt)) := by
  unfold ms_pc
  by_cases h : (s.2.2.length = 16 ∨ a.toInt < 0 ∨ (if c = 157 then 4096 else 512) < a.toInt ∨ (c = 157 ∧ (b.toInt < 0 ∨ 4096 < b.toInt)) ∨ 4096 < ms_tb s.2.2 + (if c = 157 then a.toInt else 8 * a.toInt))
  · rw [if_pos h]; exact ⟨fun _ => h, fun _ => rfl⟩
  · rw [if_neg h]; exact ⟨fun e => (by cases e), fun e => absurd e h⟩
theorem wt_p {c : Int} {a : Int64} (h : c = 147 ∨ c = 157) : ms_wt c a = 0 := by
  unfold ms_wt
  rw [if_neg (by omega), if_neg (by omega), if_neg (by omega), if_neg (by omega), if_neg (by omega)]
section CKI
variable {n sl : Nat} {SH : Nat → Nat × Nat} {FI F1 : Nat → Nat → Int32} {FL L1 : Nat → Nat → Int64} {FR R1 : Nat → Nat → Option Nat} {c v : Int32} {st : hS} {s : ms_S} {x : ms_O} {E : ms_E}
theorem c_wantI {a : Int64} (ha : FL 49 12 = a) (h21 : c.toInt = 21 → 0 ≤ a.toInt ∧ a.toInt ≤ 255) : (fX9_wantedI c SH FI FL FR).toInt = ms_wt c.toInt a := by
  unfold fX9_wantedI ms_wt
  simp only [Int32.reduceToInt]
  by_cases h1 : c.toInt = 6 ∨ c.toInt = 18 ∨ c.toInt = 19 ∨ c.toInt = 25 ∨ c.toInt = 31 ∨ c.toInt = 32 ∨ c.toInt = 35 ∨ c.toInt = 40 ∨ c.toInt = 148 ∨ c.toInt = 155 ∨ c.toInt = 159
  · rw [if_pos h1, if_pos h1]; decide
  rw [if_neg h1, if_neg h1]
  by_cases h2 : c.toInt = 20 ∨ c.toInt = 22
  · rw [if_pos h2, if_pos h2]; decide
  rw [if_neg h2, if_neg h2]
  by_cases h3 : c.toInt = 21
  · rw [if_pos h3, if_pos h3, ha, i_add (l_2i rfl (by have := h21 h3; omega) (by have := h21 h3; omega)) (by first | decide | simp : ((1 : Int32)).toInt = 1) (by have := h21 h3; omega) (by have := h21 h3; omega)]
  rw [if_neg h3, if_neg h3]
  by_cases h4 : c.toInt = 23
  · rw [if_pos h4, if_pos h4]; decide
  rw [if_neg h4, if_neg h4]
  by_cases h5 : c.toInt < 26
  · rw [if_pos h5, if_neg (by omega)]; decide
  rw [if_neg h5]
  by_cases h6 : 46 < c.toInt
  · rw [if_pos h6, if_neg (by omega)]; decide
  rw [if_neg h6, if_pos (by omega)]; decide
theorem c_muchI (hv : cvI FI FL FR SH s) (hc : c.toInt = 147 ∨ c.toInt = 157) (h12 : FL 49 12 = x.1) (h13 : c.toInt = 157 → FL 49 13 = x.2.1) : (fX9_isTooMuchI c SH FI FL FR).toInt = 0 ↔ ms_pc c.toInt x.1 x.2.1 s ≠ none := by
  obtain ⟨v1, v2, v3, v4, v5, v6, v7, v8, v9, v10⟩ := hv
  rw [ne_eq, pc_n]
  unfold fX9_isTooMuchI
  have z1 : (((4096 : Int32)) / ((8 : Int32))).toInt64.toInt = 512 := by first | decide | simp
  have z2 : (((4096 : Int32)) / ((1 : Int32))).toInt64.toInt = 4096 := by first | decide | simp
  rw [z1, z2, h12, v5]
  simp only [Int32.reduceToInt, Int64.reduceToInt]
  rcases hc with hc | hc
  · rw [if_pos hc, if_neg (show ¬ c.toInt = 157 by omega), if_neg (show ¬ c.toInt = 157 by omega), if_neg (show ¬ c.toInt = 157 by omega)]
    by_cases g1 : (s.2.2.length : Int) < 16
    · rw [if_pos g1]
      by_cases g2 : x.1.toInt < 0
      · rw [if_pos g2]; exact ⟨fun e => absurd e (by first | decide | simp), fun e => by omega⟩
      rw [if_neg g2]
      by_cases g3 : 512 < x.1.toInt
      · rw [if_pos g3]; exact ⟨fun e => absurd e (by first | decide | simp), fun e => by omega⟩
      rw [if_neg g3]
      have e8 : (((FI 52 2).toInt64) + (x.1 * (((8 : Int32)).toInt64))).toInt = ms_tb s.2.2 + 8 * x.1.toInt := by
        rw [l_add (i_2l v7) (l_mul rfl (by first | decide | simp : (((8 : Int32)).toInt64).toInt = 8) (by omega) (by omega)) (by omega) (by omega)]
        omega
      rw [e8]
      by_cases g4 : 4096 < ms_tb s.2.2 + 8 * x.1.toInt
      · rw [if_pos g4]; exact ⟨fun e => absurd e (by first | decide | simp), fun e => by omega⟩
      · rw [if_neg g4]; exact ⟨fun _ => by omega, fun _ => by first | decide | simp⟩
    · rw [if_neg g1]; exact ⟨fun e => absurd e (by first | decide | simp), fun e => by omega⟩
  · rw [if_neg (show ¬ c.toInt = 147 by omega), if_pos hc, if_pos hc, if_pos hc, h13 hc]
    by_cases g1 : (s.2.2.length : Int) < 16
    · rw [if_pos g1]
      by_cases g2 : x.1.toInt < 0
      · rw [if_pos g2]; exact ⟨fun e => absurd e (by first | decide | simp), fun e => by omega⟩
      rw [if_neg g2]
      by_cases g3 : 4096 < x.1.toInt
      · rw [if_pos g3]; exact ⟨fun e => absurd e (by first | decide | simp), fun e => by omega⟩
      rw [if_neg g3]
      by_cases g5 : x.2.1.toInt < 0
      · rw [if_pos g5]; exact ⟨fun e => absurd e (by first | decide | simp), fun e => by omega⟩
      rw [if_neg g5]
      by_cases g6 : 4096 < x.2.1.toInt
      · rw [if_pos g6]; exact ⟨fun e => absurd e (by first | decide | simp), fun e => by omega⟩
      rw [if_neg g6]
      have e8 : (((FI 52 2).toInt64) + (x.1 * (((1 : Int32)).toInt64))).toInt = ms_tb s.2.2 + x.1.toInt := by
        rw [l_add (i_2l v7) (l_mul rfl (by first | decide | simp : (((1 : Int32)).toInt64).toInt = 1) (by omega) (by omega)) (by omega) (by omega)]
        omega
      rw [e8]
      by_cases g4 : 4096 < ms_tb s.2.2 + x.1.toInt
      · rw [if_pos g4]; exact ⟨fun e => absurd e (by first | decide | simp), fun e => by omega⟩
      · rw [if_neg g4]; exact ⟨fun _ => by omega, fun _ => by first | decide | simp⟩
    · rw [if_neg g1]; exact ⟨fun e => absurd e (by first | decide | simp), fun e => by omega⟩
theorem c_checkI (hv : cvI FI FL FR SH s) (h12 : FL 49 12 = x.1) (h13 : c.toInt = 157 → FL 49 13 = x.2.1) (h21 : c.toInt = 21 → 0 ≤ x.1.toInt ∧ x.1.toInt ≤ 255) (h : RX9_checkI c n sl SH FI FL FR v st) : v.toInt = ms_ck c.toInt x s ∧ st = (n, sl, SH, FI, FL, FR) := by
  have k0 := hv.2.2.2.1.1.1
  have ksz := hv.1
  unfold ms_ck
  unfold RX9_checkI at h
  rw [c_gw, k0] at h
  have go : ∀ _ : ¬ (s.2.1.1 ≠ 0 ∧ ¬ (c.toInt = 147 ∨ c.toInt = 157 ∨ c.toInt = 150 ∨ c.toInt = 47 ∨ c.toInt = 152 ∨ c.toInt = 153)), RX9_checkI_20 c n sl SH FI FL FR v st → v.toInt = (if (c.toInt = 144 ∨ c.toInt = 146) ∧ (x.1.toInt < 0 ∨ 31 < x.1.toInt) then 14 else if c.toInt = 148 ∧ (x.1.toInt < 1 ∨ 8 < x.1.toInt) then 10 else if (c.toInt = 147 ∨ c.toInt = 157) ∧ ms_pc c.toInt x.1 x.2.1 s = none then 13 else if (s.1.length : Int) < ms_wt c.toInt x.1 then 3 else 0) ∧ st = (n, sl, SH, FI, FL, FR) := by
    intro _ h
    have g112 : ∀ _ : ¬ ((c.toInt = 147 ∨ c.toInt = 157) ∧ ms_pc c.toInt x.1 x.2.1 s = none), RX9_checkI_112 c n sl SH FI FL FR v st → v.toInt = (if (c.toInt = 147 ∨ c.toInt = 157) ∧ ms_pc c.toInt x.1 x.2.1 s = none then 13 else if (s.1.length : Int) < ms_wt c.toInt x.1 then 3 else 0) ∧ st = (n, sl, SH, FI, FL, FR) := by
      intro q h
      unfold RX9_checkI_112 at h
      rw [c_wantI h12 h21, ksz] at h
      rw [if_neg q]
      rcases h with ⟨h0, e1, e⟩ | ⟨h0, e1, e⟩
      · rw [if_pos h0]; exact ⟨by rw [e1]; decide, e⟩
      · rw [if_neg h0]; exact ⟨by rw [e1]; decide, e⟩
    have g87 : RX9_checkI_87 c n sl SH FI FL FR v st → v.toInt = (if (c.toInt = 147 ∨ c.toInt = 157) ∧ ms_pc c.toInt x.1 x.2.1 s = none then 13 else if (s.1.length : Int) < ms_wt c.toInt x.1 then 3 else 0) ∧ st = (n, sl, SH, FI, FL, FR) := by
      intro h
      have g101 : ∀ _ : c.toInt = 147 ∨ c.toInt = 157, RX9_checkI_101 c n sl SH FI FL FR v st → v.toInt = (if (c.toInt = 147 ∨ c.toInt = 157) ∧ ms_pc c.toInt x.1 x.2.1 s = none then 13 else if (s.1.length : Int) < ms_wt c.toInt x.1 then 3 else 0) ∧ st = (n, sl, SH, FI, FL, FR) := by
        intro hc h
        unfold RX9_checkI_101 at h
        rw [c_muchI hv hc h12 h13] at h
        rcases h with ⟨h0, h⟩ | ⟨h0, e1, e⟩
        · exact g112 (fun e => h0 e.2) h
        · rw [if_pos ⟨hc, Classical.byContradiction h0⟩]
          exact ⟨by rw [e1]; decide, e⟩
      rcases h with ⟨g1, h⟩ | ⟨g1, h⟩
      · rw [show ((147 : Int32)).toInt = 147 by first | decide | simp] at g1
        exact g101 (Or.inl g1) h
      · rw [show ((147 : Int32)).toInt = 147 by first | decide | simp] at g1
        rcases h with ⟨g2, h⟩ | ⟨g2, h⟩
        · rw [show ((157 : Int32)).toInt = 157 by first | decide | simp] at g2
          exact g101 (Or.inr g2) h
        · rw [show ((157 : Int32)).toInt = 157 by first | decide | simp] at g2
          exact g112 (fun e => e.1.elim g1 g2) h
    have g57 : RX9_checkI_57 c n sl SH FI FL FR v st → v.toInt = (if c.toInt = 148 ∧ (x.1.toInt < 1 ∨ 8 < x.1.toInt) then 10 else if (c.toInt = 147 ∨ c.toInt = 157) ∧ ms_pc c.toInt x.1 x.2.1 s = none then 13 else if (s.1.length : Int) < ms_wt c.toInt x.1 then 3 else 0) ∧ st = (n, sl, SH, FI, FL, FR) := by
      intro h
      unfold RX9_checkI_57 at h
      rw [h12, show ((148 : Int32)).toInt = 148 by first | decide | simp, show ((1 : Int64)).toInt = 1 by first | decide | simp, show ((8 : Int64)).toInt = 8 by first | decide | simp] at h
      rcases h with ⟨g1, h⟩ | ⟨g1, h⟩
      · rcases h with ⟨g2, e1, e⟩ | ⟨g2, h⟩
        · rw [if_pos ⟨g1, Or.inl g2⟩]; exact ⟨by rw [e1]; decide, e⟩
        · rcases h with ⟨g3, e1, e⟩ | ⟨g3, h⟩
          · rw [if_pos ⟨g1, Or.inr g3⟩]; exact ⟨by rw [e1]; decide, e⟩
          · rw [if_neg (fun e => e.2.elim g2 g3)]; exact g87 h
      · rw [if_neg (fun e => g1 e.1)]; exact g87 h
    have g34 : ∀ _ : c.toInt = 144 ∨ c.toInt = 146, RX9_checkI_34 c n sl SH FI FL FR v st → v.toInt = (if (c.toInt = 144 ∨ c.toInt = 146) ∧ (x.1.toInt < 0 ∨ 31 < x.1.toInt) then 14 else if c.toInt = 148 ∧ (x.1.toInt < 1 ∨ 8 < x.1.toInt) then 10 else if (c.toInt = 147 ∨ c.toInt = 157) ∧ ms_pc c.toInt x.1 x.2.1 s = none then 13 else if (s.1.length : Int) < ms_wt c.toInt x.1 then 3 else 0) ∧ st = (n, sl, SH, FI, FL, FR) := by
      intro hc h
      unfold RX9_checkI_34 at h
      rw [h12, show ((0 : Int64)).toInt = 0 by first | decide | simp, show ((32 : Int64)).toInt = 32 by first | decide | simp] at h
      rcases h with ⟨g2, e1, e⟩ | ⟨g2, h⟩
      · rw [if_pos ⟨hc, Or.inl g2⟩]; exact ⟨by rw [e1]; decide, e⟩
      · rcases h with ⟨g3, h⟩ | ⟨g3, e1, e⟩
        · rw [if_neg (fun e => e.2.elim g2 (fun w => by omega))]; exact g57 h
        · rw [if_pos ⟨hc, Or.inr (by omega)⟩]; exact ⟨by rw [e1]; decide, e⟩
    rcases h with ⟨g1, h⟩ | ⟨g1, h⟩
    · rw [show ((144 : Int32)).toInt = 144 by first | decide | simp] at g1
      exact g34 (Or.inl g1) h
    · rw [show ((144 : Int32)).toInt = 144 by first | decide | simp] at g1
      rcases h with ⟨g2, h⟩ | ⟨g2, h⟩
      · rw [show ((146 : Int32)).toInt = 146 by first | decide | simp] at g2
        exact g34 (Or.inr g2) h
      · rw [show ((146 : Int32)).toInt = 146 by first | decide | simp] at g2
        rw [if_neg (fun e => e.1.elim g1 g2)]
        exact g57 h
  rcases h with ⟨h0, h⟩ | ⟨h0, h⟩
  · rw [if_neg (fun e => e.1 h0)]
    exact go (fun e => e.1 h0) h
  · rcases h with ⟨h1, e1, e⟩ | ⟨h1, h⟩
    · rw [if_pos ⟨h0, h1⟩]; exact ⟨by rw [e1]; decide, e⟩
    · rw [if_neg (fun e => h1 e.2)]
      exact go (fun e => h1 e.2) h
/-- operations one behind another -/
theorem crI_tr {q : Int ⊕ ms_S} (k : kzI FI FL FR F1 L1 R1) (e6 : F1 49 6 = FI 49 6) (e7 : F1 49 7 = FI 49 7) (e10 : F1 49 10 = FI 49 10) (e12 : L1 49 12 = FL 49 12) (e13 : L1 49 13 = FL 49 13) (h : crI n sl SH F1 L1 R1 v st q) : crI n sl SH FI FL FR v st q := by
  match q, h with
  | .inl e, ⟨h1, h2, F2, L2, R2, h3, h4⟩ => exact ⟨h1, h2, F2, L2, R2, h3, kzI_tr k h4⟩
  | .inr s2, ⟨h1, F2, L2, R2, h3, h4, h5, h6, h7, h8, h9, h10⟩ => exact ⟨h1, F2, L2, R2, h3, kzI_tr k h4, h5, h6.trans e6, h7.trans e7, h8.trans e10, h9.trans e12, h10.trans e13⟩
theorem crI_e {e : Int} (hv : v.toInt = e) (he : e ≠ 0) {F2 : Nat → Nat → Int32} {L2 : Nat → Nat → Int64} {R2 : Nat → Nat → Option Nat} (h : st = (n, sl, SH, F2, L2, R2)) (k : kzI FI FL FR F2 L2 R2) : crI n sl SH FI FL FR v st (.inl e) := ⟨hv, he, F2, L2, R2, h, k⟩
theorem cvI_hd {H : ms_H} {F2 : Nat → Nat → Int32} {L2 : Nat → Nat → Int64} {R2 : Nat → Nat → Option Nat} (hv : cvI FI FL FR SH s) (hr : rg SH) (e1 : ∀ r, r ≠ 51 → F2 r = FI r) (e2 : ∀ r, r ≠ 51 → L2 r = FL r) (e3 : ∀ r, r ≠ 51 → R2 r = FR r) (e4 : chd F2 L2 R2 SH 51 H) : cvI F2 L2 R2 SH (s.1, H, s.2.2) := by
  obtain ⟨h1, h2, h3, h4, h5, h6, h7, h8, h9, h10⟩ := hv
  have e0 : ∀ r, rw0 SH r → F2 r = FI r := fun r h1 => e1 r (by have := hr r h1; omega)
  exact ⟨by rw [e1 _ (by first | decide | simp)]; exact h1, h2, by rw [e2 _ (by first | decide | simp)]; exact h3, e4, by rw [e1 _ (by first | decide | simp)]; exact h5, h6, by rw [e1 _ (by first | decide | simp)]; exact h7, h8, h9, lv_mono (fun i p hi _ hp => cq_fr hp e0 (e1 _ (by omega)) (e2 _ (by omega)) (e3 _ (by omega))) h10⟩
theorem c_becomeI {k : Int32} {y : Int64} {u : Unit} {H : ms_H} (hS : h_S n SH) (hv : cvI FI FL FR SH s) (hk : k.toInt = H.1) (hy : y = H.2.1) (hok : ms_ok H) (h4 : H.1 ≠ 4) (h : RX5_become 51 k y n sl SH FI FL FR u st) : ∃ F2 L2, st = (n, sl, SH, F2, L2, FR) ∧ kzI FI FL FR F2 L2 FR ∧ cvI F2 L2 FR SH (s.1, H, s.2.2) ∧ (∀ r, r ≠ 51 → F2 r = FI r) ∧ (∀ r, r ≠ 51 → L2 r = FL r) ∧ F2 51 2 = 0 ∧ F2 51 3 = 0 := by
  have hr := rg_of hS
  have e := h.2
  refine ⟨_, _, e, kzI_i (kzI_i (kzI_i (kzI_l kzI_rf (by first | decide | simp)) (by first | decide | simp)) (by first | decide | simp)) (by first | decide | simp), cvI_hd hv hr (fun r h1 => by rw [h_up_nc h1, h_up_nc h1, h_up_nc h1]) (fun r h1 => h_up_nc h1) (fun _ _ => rfl) ⟨⟨?_, ?_, hok, fun e => absurd e h4⟩, by rw [h_up_ne (by first | decide | simp), h_up_eq], h_up_eq⟩, fun r h1 => by rw [h_up_nc h1, h_up_nc h1, h_up_nc h1], fun r h1 => h_up_nc h1, by rw [h_up_ne (by first | decide | simp), h_up_eq], h_up_eq⟩
  · rw [h_up_ne (by first | decide | simp), h_up_ne (by first | decide | simp), h_up_eq]; exact hk
  · rw [h_up_eq]; exact hy
end CKI
section CK
variable {n sl : Nat} {SH : Nat → Nat × Nat} {FI F1 : Nat → Nat → Int32} {FL L1 : Nat → Nat → Int64} {FR R1 : Nat → Nat → Option Nat} {c v : Int32} {st : hS} {s : ms_S} {x : ms_O} {E : ms_E}
theorem c_want {a : Int64} (ha : FL 48 12 = a) (h21 : c.toInt = 21 → 0 ≤ a.toInt ∧ a.toInt ≤ 255) : (fX9_wanted c SH FI FL FR).toInt = ms_wt c.toInt a := by
  unfold fX9_wanted ms_wt
  simp only [Int32.reduceToInt]
  by_cases h1 : c.toInt = 6 ∨ c.toInt = 18 ∨ c.toInt = 19 ∨ c.toInt = 25 ∨ c.toInt = 31 ∨ c.toInt = 32 ∨ c.toInt = 35 ∨ c.toInt = 40 ∨ c.toInt = 148 ∨ c.toInt = 155 ∨ c.toInt = 159
  · rw [if_pos h1, if_pos h1]; decide
  rw [if_neg h1, if_neg h1]
  by_cases h2 : c.toInt = 20 ∨ c.toInt = 22
  · rw [if_pos h2, if_pos h2]; decide
  rw [if_neg h2, if_neg h2]
  by_cases h3 : c.toInt = 21
  · rw [if_pos h3, if_pos h3, ha, i_add (l_2i rfl (by have := h21 h3; omega) (by have := h21 h3; omega)) (by first | decide | simp : ((1 : Int32)).toInt = 1) (by have := h21 h3; omega) (by have := h21 h3; omega)]
  rw [if_neg h3, if_neg h3]
  by_cases h4 : c.toInt = 23
  · rw [if_pos h4, if_pos h4]; decide
  rw [if_neg h4, if_neg h4]
  by_cases h5 : c.toInt < 26
  · rw [if_pos h5, if_neg (by omega)]; decide
  rw [if_neg h5]
  by_cases h6 : 46 < c.toInt
  · rw [if_pos h6, if_neg (by omega)]; decide
  rw [if_neg h6, if_pos (by omega)]; decide
theorem c_much (hv : cv FI FL FR SH s) (hc : c.toInt = 147 ∨ c.toInt = 157) (h12 : FL 48 12 = x.1) (h13 : c.toInt = 157 → FL 48 13 = x.2.1) : (fX9_isTooMuch c SH FI FL FR).toInt = 0 ↔ ms_pc c.toInt x.1 x.2.1 s ≠ none := by
  obtain ⟨v1, v2, v3, v4, v5, v6, v7, v8, v9, v10⟩ := hv
  rw [ne_eq, pc_n]
  unfold fX9_isTooMuch
  have z1 : (((4096 : Int32)) / ((8 : Int32))).toInt64.toInt = 512 := by first | decide | simp
  have z2 : (((4096 : Int32)) / ((1 : Int32))).toInt64.toInt = 4096 := by first | decide | simp
  rw [z1, z2, h12, v5]
  simp only [Int32.reduceToInt, Int64.reduceToInt]
  rcases hc with hc | hc
  · rw [if_pos hc, if_neg (show ¬ c.toInt = 157 by omega), if_neg (show ¬ c.toInt = 157 by omega), if_neg (show ¬ c.toInt = 157 by omega)]
    by_cases g1 : (s.2.2.length : Int) < 16
    · rw [if_pos g1]
      by_cases g2 : x.1.toInt < 0
      · rw [if_pos g2]; exact ⟨fun e => absurd e (by first | decide | simp), fun e => by omega⟩
      rw [if_neg g2]
      by_cases g3 : 512 < x.1.toInt
      · rw [if_pos g3]; exact ⟨fun e => absurd e (by first | decide | simp), fun e => by omega⟩
      rw [if_neg g3]
      have e8 : (((FI 72 2).toInt64) + (x.1 * (((8 : Int32)).toInt64))).toInt = ms_tb s.2.2 + 8 * x.1.toInt := by
        rw [l_add (i_2l v7) (l_mul rfl (by first | decide | simp : (((8 : Int32)).toInt64).toInt = 8) (by omega) (by omega)) (by omega) (by omega)]
        omega
      rw [e8]
      by_cases g4 : 4096 < ms_tb s.2.2 + 8 * x.1.toInt
      · rw [if_pos g4]; exact ⟨fun e => absurd e (by first | decide | simp), fun e => by omega⟩
      · rw [if_neg g4]; exact ⟨fun _ => by omega, fun _ => by first | decide | simp⟩
    · rw [if_neg g1]; exact ⟨fun e => absurd e (by first | decide | simp), fun e => by omega⟩
  · rw [if_neg (show ¬ c.toInt = 147 by omega), if_pos hc, if_pos hc, if_pos hc, h13 hc]
    by_cases g1 : (s.2.2.length : Int) < 16
    · rw [if_pos g1]
      by_cases g2 : x.1.toInt < 0
      · rw [if_pos g2]; exact ⟨fun e => absurd e (by first | decide | simp), fun e => by omega⟩
      rw [if_neg g2]
      by_cases g3 : 4096 < x.1.toInt
      · rw [if_pos g3]; exact ⟨fun e => absurd e (by first | decide | simp), fun e => by omega⟩
      rw [if_neg g3]
      by_cases g5 : x.2.1.toInt < 0
      · rw [if_pos g5]; exact ⟨fun e => absurd e (by first | decide | simp), fun e => by omega⟩
      rw [if_neg g5]
      by_cases g6 : 4096 < x.2.1.toInt
      · rw [if_pos g6]; exact ⟨fun e => absurd e (by first | decide | simp), fun e => by omega⟩
      rw [if_neg g6]
      have e8 : (((FI 72 2).toInt64) + (x.1 * (((1 : Int32)).toInt64))).toInt = ms_tb s.2.2 + x.1.toInt := by
        rw [l_add (i_2l v7) (l_mul rfl (by first | decide | simp : (((1 : Int32)).toInt64).toInt = 1) (by omega) (by omega)) (by omega) (by omega)]
        omega
      rw [e8]
      by_cases g4 : 4096 < ms_tb s.2.2 + x.1.toInt
      · rw [if_pos g4]; exact ⟨fun e => absurd e (by first | decide | simp), fun e => by omega⟩
      · rw [if_neg g4]; exact ⟨fun _ => by omega, fun _ => by first | decide | simp⟩
    · rw [if_neg g1]; exact ⟨fun e => absurd e (by first | decide | simp), fun e => by omega⟩
theorem c_check (hv : cv FI FL FR SH s) (h12 : FL 48 12 = x.1) (h13 : c.toInt = 157 → FL 48 13 = x.2.1) (h21 : c.toInt = 21 → 0 ≤ x.1.toInt ∧ x.1.toInt ≤ 255) (h : RX9_check c n sl SH FI FL FR v st) : v.toInt = ms_ck c.toInt x s ∧ st = (n, sl, SH, FI, FL, FR) := by
  have k0 := hv.2.2.2.1.1.1
  have ksz := hv.1
  unfold ms_ck
  unfold RX9_check at h
  rw [c_gw, k0] at h
  have go : ∀ _ : ¬ (s.2.1.1 ≠ 0 ∧ ¬ (c.toInt = 147 ∨ c.toInt = 157 ∨ c.toInt = 150 ∨ c.toInt = 47 ∨ c.toInt = 152 ∨ c.toInt = 153)), RX9_check_20 c n sl SH FI FL FR v st → v.toInt = (if (c.toInt = 144 ∨ c.toInt = 146) ∧ (x.1.toInt < 0 ∨ 31 < x.1.toInt) then 14 else if c.toInt = 148 ∧ (x.1.toInt < 1 ∨ 8 < x.1.toInt) then 10 else if (c.toInt = 147 ∨ c.toInt = 157) ∧ ms_pc c.toInt x.1 x.2.1 s = none then 13 else if (s.1.length : Int) < ms_wt c.toInt x.1 then 3 else 0) ∧ st = (n, sl, SH, FI, FL, FR) := by
    intro _ h
    have g112 : ∀ _ : ¬ ((c.toInt = 147 ∨ c.toInt = 157) ∧ ms_pc c.toInt x.1 x.2.1 s = none), RX9_check_112 c n sl SH FI FL FR v st → v.toInt = (if (c.toInt = 147 ∨ c.toInt = 157) ∧ ms_pc c.toInt x.1 x.2.1 s = none then 13 else if (s.1.length : Int) < ms_wt c.toInt x.1 then 3 else 0) ∧ st = (n, sl, SH, FI, FL, FR) := by
      intro q h
      unfold RX9_check_112 at h
      rw [c_want h12 h21, ksz] at h
      rw [if_neg q]
      rcases h with ⟨h0, e1, e⟩ | ⟨h0, e1, e⟩
      · rw [if_pos h0]; exact ⟨by rw [e1]; decide, e⟩
      · rw [if_neg h0]; exact ⟨by rw [e1]; decide, e⟩
    have g87 : RX9_check_87 c n sl SH FI FL FR v st → v.toInt = (if (c.toInt = 147 ∨ c.toInt = 157) ∧ ms_pc c.toInt x.1 x.2.1 s = none then 13 else if (s.1.length : Int) < ms_wt c.toInt x.1 then 3 else 0) ∧ st = (n, sl, SH, FI, FL, FR) := by
      intro h
      have g101 : ∀ _ : c.toInt = 147 ∨ c.toInt = 157, RX9_check_101 c n sl SH FI FL FR v st → v.toInt = (if (c.toInt = 147 ∨ c.toInt = 157) ∧ ms_pc c.toInt x.1 x.2.1 s = none then 13 else if (s.1.length : Int) < ms_wt c.toInt x.1 then 3 else 0) ∧ st = (n, sl, SH, FI, FL, FR) := by
        intro hc h
        unfold RX9_check_101 at h
        rw [c_much hv hc h12 h13] at h
        rcases h with ⟨h0, h⟩ | ⟨h0, e1, e⟩
        · exact g112 (fun e => h0 e.2) h
        · rw [if_pos ⟨hc, Classical.byContradiction h0⟩]
          exact ⟨by rw [e1]; decide, e⟩
      rcases h with ⟨g1, h⟩ | ⟨g1, h⟩
      · rw [show ((147 : Int32)).toInt = 147 by first | decide | simp] at g1
        exact g101 (Or.inl g1) h
      · rw [show ((147 : Int32)).toInt = 147 by first | decide | simp] at g1
        rcases h with ⟨g2, h⟩ | ⟨g2, h⟩
        · rw [show ((157 : Int32)).toInt = 157 by first | decide | simp] at g2
          exact g101 (Or.inr g2) h
        · rw [show ((157 : Int32)).toInt = 157 by first | decide | simp] at g2
          exact g112 (fun e => e.1.elim g1 g2) h
    have g57 : RX9_check_57 c n sl SH FI FL FR v st → v.toInt = (if c.toInt = 148 ∧ (x.1.toInt < 1 ∨ 8 < x.1.toInt) then 10 else if (c.toInt = 147 ∨ c.toInt = 157) ∧ ms_pc c.toInt x.1 x.2.1 s = none then 13 else if (s.1.length : Int) < ms_wt c.toInt x.1 then 3 else 0) ∧ st = (n, sl, SH, FI, FL, FR) := by
      intro h
      unfold RX9_check_57 at h
      rw [h12, show ((148 : Int32)).toInt = 148 by first | decide | simp, show ((1 : Int64)).toInt = 1 by first | decide | simp, show ((8 : Int64)).toInt = 8 by first | decide | simp] at h
      rcases h with ⟨g1, h⟩ | ⟨g1, h⟩
      · rcases h with ⟨g2, e1, e⟩ | ⟨g2, h⟩
        · rw [if_pos ⟨g1, Or.inl g2⟩]; exact ⟨by rw [e1]; decide, e⟩
        · rcases h with ⟨g3, e1, e⟩ | ⟨g3, h⟩
          · rw [if_pos ⟨g1, Or.inr g3⟩]; exact ⟨by rw [e1]; decide, e⟩
          · rw [if_neg (fun e => e.2.elim g2 g3)]; exact g87 h
      · rw [if_neg (fun e => g1 e.1)]; exact g87 h
    have g34 : ∀ _ : c.toInt = 144 ∨ c.toInt = 146, RX9_check_34 c n sl SH FI FL FR v st → v.toInt = (if (c.toInt = 144 ∨ c.toInt = 146) ∧ (x.1.toInt < 0 ∨ 31 < x.1.toInt) then 14 else if c.toInt = 148 ∧ (x.1.toInt < 1 ∨ 8 < x.1.toInt) then 10 else if (c.toInt = 147 ∨ c.toInt = 157) ∧ ms_pc c.toInt x.1 x.2.1 s = none then 13 else if (s.1.length : Int) < ms_wt c.toInt x.1 then 3 else 0) ∧ st = (n, sl, SH, FI, FL, FR) := by
      intro hc h
      unfold RX9_check_34 at h
      rw [h12, show ((0 : Int64)).toInt = 0 by first | decide | simp, show ((32 : Int64)).toInt = 32 by first | decide | simp] at h
      rcases h with ⟨g2, e1, e⟩ | ⟨g2, h⟩
      · rw [if_pos ⟨hc, Or.inl g2⟩]; exact ⟨by rw [e1]; decide, e⟩
      · rcases h with ⟨g3, h⟩ | ⟨g3, e1, e⟩
        · rw [if_neg (fun e => e.2.elim g2 (fun w => by omega))]; exact g57 h
        · rw [if_pos ⟨hc, Or.inr (by omega)⟩]; exact ⟨by rw [e1]; decide, e⟩
    rcases h with ⟨g1, h⟩ | ⟨g1, h⟩
    · rw [show ((144 : Int32)).toInt = 144 by first | decide | simp] at g1
      exact g34 (Or.inl g1) h
    · rw [show ((144 : Int32)).toInt = 144 by first | decide | simp] at g1
      rcases h with ⟨g2, h⟩ | ⟨g2, h⟩
      · rw [show ((146 : Int32)).toInt = 146 by first | decide | simp] at g2
        exact g34 (Or.inr g2) h
      · rw [show ((146 : Int32)).toInt = 146 by first | decide | simp] at g2
        rw [if_neg (fun e => e.1.elim g1 g2)]
        exact g57 h
  rcases h with ⟨h0, h⟩ | ⟨h0, h⟩
  · rw [if_neg (fun e => e.1 h0)]
    exact go (fun e => e.1 h0) h
  · rcases h with ⟨h1, e1, e⟩ | ⟨h1, h⟩
    · rw [if_pos ⟨h0, h1⟩]; exact ⟨by rw [e1]; decide, e⟩
    · rw [if_neg (fun e => h1 e.2)]
      exact go (fun e => h1 e.2) h
/-- operations one behind another -/
theorem cr_tr {q : Int ⊕ ms_S} (k : kz FI FL FR F1 L1 R1) (e6 : F1 48 6 = FI 48 6) (e7 : F1 48 7 = FI 48 7) (e10 : F1 48 10 = FI 48 10) (e12 : L1 48 12 = FL 48 12) (e13 : L1 48 13 = FL 48 13) (h : cr n sl SH F1 L1 R1 v st q) : cr n sl SH FI FL FR v st q := by
  match q, h with
  | .inl e, ⟨h1, h2, F2, L2, R2, h3, h4⟩ => exact ⟨h1, h2, F2, L2, R2, h3, kz_tr k h4⟩
  | .inr s2, ⟨h1, F2, L2, R2, h3, h4, h5, h6, h7, h8, h9, h10⟩ => exact ⟨h1, F2, L2, R2, h3, kz_tr k h4, h5, h6.trans e6, h7.trans e7, h8.trans e10, h9.trans e12, h10.trans e13⟩
theorem cr_e {e : Int} (hv : v.toInt = e) (he : e ≠ 0) {F2 : Nat → Nat → Int32} {L2 : Nat → Nat → Int64} {R2 : Nat → Nat → Option Nat} (h : st = (n, sl, SH, F2, L2, R2)) (k : kz FI FL FR F2 L2 R2) : cr n sl SH FI FL FR v st (.inl e) := ⟨hv, he, F2, L2, R2, h, k⟩
theorem cv_hd {H : ms_H} {F2 : Nat → Nat → Int32} {L2 : Nat → Nat → Int64} {R2 : Nat → Nat → Option Nat} (hv : cv FI FL FR SH s) (hr : rg SH) (e1 : ∀ r, r ≠ 71 → F2 r = FI r) (e2 : ∀ r, r ≠ 71 → L2 r = FL r) (e3 : ∀ r, r ≠ 71 → R2 r = FR r) (e4 : chd F2 L2 R2 SH 71 H) : cv F2 L2 R2 SH (s.1, H, s.2.2) := by
  obtain ⟨h1, h2, h3, h4, h5, h6, h7, h8, h9, h10⟩ := hv
  have e0 : ∀ r, rw0 SH r → F2 r = FI r := fun r h1 => e1 r (by have := hr r h1; omega)
  exact ⟨by rw [e1 _ (by first | decide | simp)]; exact h1, h2, by rw [e2 _ (by first | decide | simp)]; exact h3, e4, by rw [e1 _ (by first | decide | simp)]; exact h5, h6, by rw [e1 _ (by first | decide | simp)]; exact h7, h8, h9, lv_mono (fun i p hi _ hp => cq_fr hp e0 (e1 _ (by omega)) (e2 _ (by omega)) (e3 _ (by omega))) h10⟩
theorem c_become {k : Int32} {y : Int64} {u : Unit} {H : ms_H} (hS : h_S n SH) (hv : cv FI FL FR SH s) (hk : k.toInt = H.1) (hy : y = H.2.1) (hok : ms_ok H) (h4 : H.1 ≠ 4) (h : RX5_become 71 k y n sl SH FI FL FR u st) : ∃ F2 L2, st = (n, sl, SH, F2, L2, FR) ∧ kz FI FL FR F2 L2 FR ∧ cv F2 L2 FR SH (s.1, H, s.2.2) ∧ (∀ r, r ≠ 71 → F2 r = FI r) ∧ (∀ r, r ≠ 71 → L2 r = FL r) ∧ F2 71 2 = 0 ∧ F2 71 3 = 0 := by
  have hr := rg_of hS
  have e := h.2
  refine ⟨_, _, e, kz_i (kz_i (kz_i (kz_l kz_rf (by first | decide | simp)) (by first | decide | simp)) (by first | decide | simp)) (by first | decide | simp), cv_hd hv hr (fun r h1 => by rw [h_up_nc h1, h_up_nc h1, h_up_nc h1]) (fun r h1 => h_up_nc h1) (fun _ _ => rfl) ⟨⟨?_, ?_, hok, fun e => absurd e h4⟩, by rw [h_up_ne (by first | decide | simp), h_up_eq], h_up_eq⟩, fun r h1 => by rw [h_up_nc h1, h_up_nc h1, h_up_nc h1], fun r h1 => h_up_nc h1, by rw [h_up_ne (by first | decide | simp), h_up_eq], h_up_eq⟩
  · rw [h_up_ne (by first | decide | simp), h_up_ne (by first | decide | simp), h_up_eq]; exact hk
  · rw [h_up_eq]; exact hy
end CK
end
