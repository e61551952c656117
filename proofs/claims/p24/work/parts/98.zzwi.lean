/-! THE REFERENCE'S runs. -/
theorem lv_of {α : Type} {Q : Nat → α → Prop} : ∀ {L : List α}, (∀ k x, L[k]? = some x → Q (L.length - 1 - k) x) → lv Q L
  | [], _ => trivial
  | y :: r, h => ⟨by have := h 0 y rfl; simpa using this, lv_of (fun k x hx => by
      have := h (k + 1) x (by rw [← hx]; rfl)
      rw [show (y :: r).length - 1 - (k + 1) = r.length - 1 - k by simp only [List.length_cons]; omega] at this
      exact this)⟩
section RI
variable {n sl : Nat} {SH : Nat → Nat × Nat} {FR : Nat → Nat → Option Nat} {st : hS} {E : ms_E} {v : Int32}
/-- the pieces become parts -/
theorem r_59 {a1 a2 a3 : Int32} {P : List ms_P} (hP : 1 ≤ P.length ∧ P.length ≤ 16) (hz : ∀ p, p ∈ P → p.1.2.2.length ≤ 600) : ∀ (g i : Nat) (l5 : Int32) (FI : Nat → Nat → Int32) (FL : Nat → Nat → Int64), l5.toInt = i → i ≤ P.length → (FI 121 46).toInt = P.length → (FI 121 47).toInt = 1 → lv (fun i q => rq FI FL SH (16 * 0 + i) q) P → (∀ j p, j < i → P[P.length - 1 - j]? = some p → rp FI FL j p) → GX12_runs_59 a1 a2 a3 g l5 n sl SH FI FL FR v st → v.toInt = 0 ∧ ∃ F2 L2, st = (n, sl, SH, F2, L2, FR) ∧ xr FI FL F2 L2 ∧ rr F2 L2 (true, P) := by
  intro g
  induction g with
  | zero => intro i l5 FI FL _ _ _ _ _ _ h; exact h.elim
  | succ g ih =>
    intro i l5 FI FL hi hil h46 h47 hl hd h
    rcases h with ⟨h0, -, -, -, -, -, u1, n1, sl1, SH1, FI1, FL1, FR1, hp, h⟩ | ⟨h0, v2, n2, sl2, SH2, FI2, FL2, FR2, ht, e1, e⟩
    · rw [h46] at h0
      obtain ⟨p, hp0⟩ : ∃ p, P[P.length - 1 - i]? = some p := ⟨_, List.getElem?_eq_getElem (by omega)⟩
      have hq := lv_get hl hp0
      (try dsimp only at hq)
      rw [show P.length - 1 - (P.length - 1 - i) = i by omega, show 16 * 0 + i = i by omega] at hq
      obtain ⟨⟨t1, t2, t3, t4⟩, q2, q3, q4, q5, q6, q7⟩ := hq
      rw [show l5.toInt.toNat = i by omega] at hp
      obtain ⟨F2, L2, e2, hr, hpf⟩ := r_part (T := p.1) (w := p.2.1) (f := p.2.2) hi (by omega) t1 t2 t3 t4 (hz p (List.mem_of_getElem? hp0)) q2 q3 ⟨q4, q5, q6, q7⟩ hp
      cases e2
      have hxr : xr FI FL FI1 FL1 := ⟨fun c hc => ⟨hpf.1 c (by omega) (by omega) (by omega) (by omega), hpf.2.1 c (by omega)⟩, fun k _ => ⟨by rw [hpf.1 121 (by first | decide | simp) (by first | decide | simp) (by first | decide | simp) (by first | decide | simp)], by rw [hpf.2.1 121 (by first | decide | simp)]⟩⟩
      obtain ⟨z1, F3, L3, z2, z3, z4⟩ := ih (i + 1) _ FI1 FL1 (by rw [i_add hi (by first | decide | simp : ((1 : Int32)).toInt = 1) (by omega) (by omega)]; omega) (by omega) (by rw [hpf.1 121 (by first | decide | simp) (by first | decide | simp) (by first | decide | simp) (by first | decide | simp)]; exact h46) (by rw [hpf.1 121 (by first | decide | simp) (by first | decide | simp) (by first | decide | simp) (by first | decide | simp)]; exact h47) (lv_mono (fun j q hj _ hq => rq_fr hq (hpf.1 124 (by first | decide | simp) (by first | decide | simp) (by first | decide | simp) (by first | decide | simp)) (fun r hr => by rw [hpf.1 r (by omega) (by omega) (by omega) (by omega)]) (by rw [hpf.2.1 131 (by first | decide | simp)])) hl) (fun j q hj hq => by
        by_cases ej : j = i
        · subst ej
          rw [hp0] at hq
          cases hq
          exact hr
        · exact rp_fr (hd j q (by omega) hq) hpf ej) h
      exact ⟨z1, F3, L3, z2, xr_tr hxr z3, z4⟩
    · rw [h46] at h0
      have ei : i = P.length := by omega
      obtain ⟨w1, F2, w2, w3⟩ := r_tells ht
      cases w2
      refine ⟨by rw [e1, w1]; decide, _, _, e, ⟨fun c hc => ⟨fk_row w3 (by omega), rfl⟩, fun k hk => ⟨fk_at w3 (by simp; omega), rfl⟩⟩, ?_⟩
      refine rr_fr (FI := FI) (FL := FL) ⟨h46, ⟨fun e => by omega, fun e => by cases e⟩, hP, fun e => (by cases e), lv_of (fun k x hx => ?_)⟩ (fun c hc => fk_row w3 (by omega)) rfl (fk_at w3 (by first | decide | simp)) (fk_at w3 (by first | decide | simp))
      have hk : k < P.length := (List.getElem?_eq_some_iff.mp hx).1
      exact hd (P.length - 1 - k) x (by omega) (by rw [show P.length - 1 - (P.length - 1 - k) = k by omega]; exact hx)
variable {FI : Nat → Nat → Int32} {FL : Nat → Nat → Int64}
theorem r_empty {u : Unit} (h : RX12_empty n sl SH FI FL FR u st) : ∃ F2 L2, st = (n, sl, SH, F2, L2, FR) ∧ rp F2 L2 0 (ms_0, 0, 0) ∧ pf 0 (h_up (h_up FI 121 46 ((1 : Int32))) 121 47 ((0 : Int32))) FL F2 L2 := by
  obtain ⟨u2, n2, sl2, SH2, FI2, FL2, FR2, hp, -, e⟩ := h
  obtain ⟨F2, L2, e2, q1, q2⟩ := r_part (T := ms_0) (i := 0) (w := 0) (f := 0) (by first | decide | simp) (by first | decide | simp) (by first | decide | simp) (Or.inl ⟨rfl, rfl⟩) (fun e => absurd e (by first | decide | simp)) (fun e => absurd e (by first | decide | simp)) (by first | decide | simp) (by first | decide | simp) (by first | decide | simp) (by first | decide | simp) hp
  cases e2
  exact ⟨_, _, e, q1, q2⟩
theorem r_runs {A f : Nat} {bs : List Int32} {a1 a2 a3 : Int32} {Q0 : ms_Q} (hb : bk FI SH 124 A bs) (hbl : bs.length ≤ 600) (h1 : a1.toInt = A) (h2 : a2.toInt = bs.length) (h3 : a3.toInt = f) (hf1 : f ≤ 1000) (hE : rE FI FL SH E) (hne : ∀ e, ms_R E 0 0 bs 0 f ([], ms_0, []) (.inl e) → e ≠ 0) (hQ : rr FI FL Q0) (h : RX12_runs a1 a2 a3 n sl SH FI FL FR v st) : ∃ q, ms_R E 0 0 bs 0 f ([], ms_0, []) q ∧ ∃ F2 L2, st = (n, sl, SH, F2, L2, FR) ∧ xr FI FL F2 L2 ∧ match ms_en q with
    | .inl e => v.toInt = e ∧ e ≠ 0 ∧ rr F2 L2 Q0
    | .inr Q => v.toInt = 0 ∧ rr F2 L2 Q := by
  have b2 := hb.2.1
  have b3 := hb.2.2.1
  obtain ⟨u0, n0, sl0, SH0, FI0, FL0, FR0, ⟨-, e0⟩, v1, n1, sl1, SH1, FI1, FL1, FR1, hx, h⟩ := h
  cases e0
  have j0 : fk [29, 30, 31, 32, 33] FI (h_up (h_up (h_up (h_up (h_up FI 121 30 a3) 121 31 ((0 : Int32))) 121 32 ((0 : Int32))) 121 29 ((0 : Int32))) 121 33 ((-1 : Int32))) := fk_up (fk_up (fk_up (fk_up (fk_up fk_rf (by first | decide | simp)) (by first | decide | simp)) (by first | decide | simp)) (by first | decide | simp)) (by first | decide | simp)
  have x30 : ((h_up (h_up (h_up (h_up (h_up FI 121 30 a3) 121 31 ((0 : Int32))) 121 32 ((0 : Int32))) 121 29 ((0 : Int32))) 121 33 ((-1 : Int32))) 121 30).toInt = f := by
    rw [h_up_ne (by first | decide | simp), h_up_ne (by first | decide | simp), h_up_ne (by first | decide | simp), h_up_ne (by first | decide | simp), h_up_eq]; exact h3
  have x29 : ((h_up (h_up (h_up (h_up (h_up FI 121 30 a3) 121 31 ((0 : Int32))) 121 32 ((0 : Int32))) 121 29 ((0 : Int32))) 121 33 ((-1 : Int32))) 121 29).toInt = 0 := by
    rw [h_up_ne (by first | decide | simp), h_up_eq]; decide
  generalize h_up (h_up (h_up (h_up (h_up FI 121 30 a3) 121 31 ((0 : Int32))) 121 32 ((0 : Int32))) 121 29 ((0 : Int32))) 121 33 ((-1 : Int32)) = FB at hx j0 x30 x29
  have hEB : rE FB FL SH E := rE_fr hE (fk_row j0 (by first | decide | simp)) (fk_row j0 (by first | decide | simp)) (fk_row j0 (by first | decide | simp)) (fun k hk => fk_at j0 (by simp; omega)) (fun _ _ => rfl) rfl
  have xB : xr FI FL FB FL := ⟨fun c hc => ⟨fk_row j0 (by omega), rfl⟩, fun k hk => ⟨fk_at j0 (by simp; omega), rfl⟩⟩
  have QB : rr FB FL Q0 := rr_fr hQ (fun c hc => fk_row j0 (by omega)) rfl (fk_at j0 (by first | decide | simp)) (fk_at j0 (by first | decide | simp))
  obtain ⟨q, hq, F1, L1, e1, x1, c143, c145, c146, c147, l144, c46, c47, hm⟩ := r_exec (bk_fr hb (fk_row j0 (by first | decide | simp))) hbl h1 (by rw [i_add h1 h2 (by omega) (by omega)]; omega) hEB x30 hf1 x29 hx
  cases e1
  have Q1 : rr FI1 FL1 Q0 := rr_fr QB (fun c hc => by rcases hc with rfl | rfl | rfl | rfl <;> assumption) l144 c46 c47
  refine ⟨q, hq, ?_⟩
  have fault : ∀ e : Int, e ≠ 0 → v1.toInt = e → ∃ F2 L2, st = (n, sl, SH, F2, L2, FR) ∧ xr FI FL F2 L2 ∧ v.toInt = e ∧ e ≠ 0 ∧ rr F2 L2 Q0 := by
    intro e he hv
    have h := P_n h (by rw [hv]; exact he)
    obtain ⟨v2, n2, sl2, SH2, FI2, FL2, FR2, ht, e1, e3⟩ := h
    obtain ⟨w1, F2, w2, w3⟩ := r_tells ht
    cases w2
    exact ⟨_, _, e3, xr_tr (xr_tr xB x1) ⟨fun c hc => ⟨fk_row w3 (by omega), rfl⟩, fun k hk => ⟨fk_at w3 (by simp; omega), rfl⟩⟩, by rw [e1, w1]; exact hv, he, rr_fr Q1 (fun c hc => fk_row w3 (by omega)) rfl (fk_at w3 (by first | decide | simp)) (fk_at w3 (by first | decide | simp))⟩
  match q, hq, hm with
  | .inl e, hq, hm => exact fault e (hne e hq) hm
  | .inr y, hq, Or.inl ⟨m1, m2, m3⟩ =>
    have : ms_en (.inr y) = .inl 13 := by
      show ms_fin y.2 = .inl 13
      unfold ms_fin
      rw [if_pos m1, if_pos m2]
    rw [this]
    exact fault 13 (by first | decide | simp) m3
  | .inr y, hq, Or.inr ⟨m1, m2, m3⟩ =>
    have hsz := ms_hz (fun k hk => (hE.2.2.1 k hk).2.1) hE.2.2.2.1.2.2 hq hbl sz_0
    have h := P_p h m2
    obtain ⟨-, h⟩ := h
    obtain ⟨w1, w2, w3, w4, w5, w6, w7, w8, w9, w10⟩ := id m3
    rcases h with ⟨hp, -, g, h⟩ | ⟨hp, h⟩
    · have hne2 : y.2.2.2 ≠ [] := fun e => by
        rw [w5, e] at hp
        exact absurd hp (by first | decide | simp)
      have : ms_en (.inr y) = .inr (true, y.2.2.2) := by
        show ms_fin y.2 = .inr (true, y.2.2.2)
        unfold ms_fin
        rw [if_pos hne2, if_neg (fun e => m1 ⟨hne2, e⟩)]
      rw [this]
      rw [w5] at hp
      obtain ⟨z1, F3, L3, z2, z3, z4⟩ := r_59 (P := y.2.2.2) ⟨by omega, w6⟩ hsz.2 g 0 _ _ _ (by first | decide | simp) (by omega) (by rw [h_up_ne (by first | decide | simp), h_up_eq]; exact w5) (by rw [h_up_eq]; decide) (lv_mono (fun j q hj _ hq => rq_fr hq (by rw [h_up_nc (by first | decide | simp), h_up_nc (by first | decide | simp)]) (fun r hr => by rw [h_up_nc (by omega), h_up_nc (by omega)]) rfl) w10) (fun j p hj => by omega) h
      refine ⟨F3, L3, z2, xr_tr (xr_tr xB x1) (xr_tr ⟨fun c hc => ⟨by rw [h_up_nc (by omega), h_up_nc (by omega)], rfl⟩, fun k hk => ⟨by rw [h_up_ne (by omega), h_up_ne (by omega)], rfl⟩⟩ z3), z1, z4⟩
    · have hnil : y.2.2.2 = [] := by
        cases hy : y.2.2.2 with
        | nil => rfl
        | cons a r => rw [w5, hy] at hp; simp only [List.length_cons] at hp; exfalso; omega
      have : ms_en (.inr y) = .inr (false, [(ms_tg y.2, 0, 0)]) := by
        show ms_fin y.2 = .inr (false, [(ms_tg y.2, 0, 0)])
        unfold ms_fin
        rw [if_neg (fun e => e hnil)]
      rw [this]
      obtain ⟨u6, n6, sl6, SH6, FI6, FL6, FR6, hem, -, h⟩ := h
      obtain ⟨F6, L6, e6, p6, f6⟩ := r_empty hem
      cases e6
      have r6 : ∀ c, c ≠ 121 → c ≠ 143 → c ≠ 145 → c ≠ 146 → c ≠ 147 → FI6 c = FI1 c := fun c c1 c2 c3 c4 c5 => by rw [f6.1 c c2 c3 c4 c5, h_up_nc c1, h_up_nc c1]
      have x6 : xr FI1 FL1 FI6 FL6 := ⟨fun c hc => ⟨r6 c (by omega) (by omega) (by omega) (by omega) (by omega), f6.2.1 c (by omega)⟩, fun k hk => ⟨by rw [f6.1 121 (by first | decide | simp) (by first | decide | simp) (by first | decide | simp) (by first | decide | simp), h_up_ne (by omega), h_up_ne (by omega)], by rw [f6.2.1 121 (by first | decide | simp)]⟩⟩
      have a46 : (FI6 121 46).toInt = 1 := by rw [f6.1 121 (by first | decide | simp) (by first | decide | simp) (by first | decide | simp) (by first | decide | simp), h_up_ne (by first | decide | simp), h_up_eq]; decide
      have a47 : (FI6 121 47).toInt = 0 := by rw [f6.1 121 (by first | decide | simp) (by first | decide | simp) (by first | decide | simp) (by first | decide | simp), h_up_eq]; decide
      have fin : ∀ {F7 : Nat → Nat → Int32} {L7 : Nat → Nat → Int64} {T : ms_H}, xr FI6 FL6 F7 L7 → F7 121 46 = FI6 121 46 → F7 121 47 = FI6 121 47 → rp F7 L7 0 (T, 0, 0) → T = ms_tg y.2 → P_bi (RX12_tells ((0 : Int32)) ((-1 : Int32)) n sl SH F7 L7 FR) (fun v10 n10 sl10 SH10 FI10 FL10 FR10 => P_ret v10 (n10, sl10, SH10, FI10, FL10, FR10)) v st → ∃ F2 L2, st = (n, sl, SH, F2, L2, FR) ∧ xr FI FL F2 L2 ∧ v.toInt = 0 ∧ rr F2 L2 (false, [(ms_tg y.2, 0, 0)]) := by
        intro F7 L7 T g1 g2 g3 g4 g5 h
        obtain ⟨v2, n2, sl2, SH2, FI2, FL2, FR2, ht, e1, e3⟩ := h
        obtain ⟨y1, F2, y2, y3⟩ := r_tells ht
        cases y2
        refine ⟨_, _, e3, xr_tr (xr_tr xB x1) (xr_tr x6 (xr_tr g1 ⟨fun c hc => ⟨fk_row y3 (by omega), rfl⟩, fun k hk => ⟨fk_at y3 (by simp; omega), rfl⟩⟩)), by rw [e1, y1]; decide, ?_⟩
        rw [← g5]
        exact rr_fr (FI := F7) (FL := L7) ⟨by rw [g2]; exact a46, ⟨fun _ => rfl, fun _ => by rw [g3]; exact a47⟩, ⟨by first | decide | simp, by simp⟩, fun _ => rfl, g4, trivial⟩ (fun c hc => fk_row y3 (by omega)) rfl (fk_at y3 (by first | decide | simp)) (fk_at y3 (by first | decide | simp))
      have one : ∀ {T : ms_H} {k z : Int32} {x : Int64}, k.toInt = T.1 → ms_ok T → ((T.1 = 1 ∨ T.1 = 2 ∨ T.1 = 3) → x = T.2.1) → (T.1 = 4 → ∃ D : Nat, x.toInt = D ∧ z.toInt = T.2.2.length ∧ bk FI6 SH 124 D T.2.2) → T.2.2.length ≤ 600 → T = ms_tg y.2 → P_bi (RX12_part ((0 : Int32)) k x ((0 : Int32)) ((0 : Int32)) z n sl SH FI6 FL6 FR) (fun v9 n9 sl9 SH9 FI9 FL9 FR9 => P_bi (RX12_tells ((0 : Int32)) ((-1 : Int32)) n9 sl9 SH9 FI9 FL9 FR9) (fun v10 n10 sl10 SH10 FI10 FL10 FR10 => P_ret v10 (n10, sl10, SH10, FI10, FL10, FR10))) v st → ∃ F2 L2, st = (n, sl, SH, F2, L2, FR) ∧ xr FI FL F2 L2 ∧ v.toInt = 0 ∧ rr F2 L2 (false, [(ms_tg y.2, 0, 0)]) := by
        intro T k z x g1 g2 g3 g4 g5 g6 h
        obtain ⟨u9, n9, sl9, SH9, FI9, FL9, FR9, hpt, h⟩ := h
        obtain ⟨F2, L2, e2, y1, y2⟩ := r_part (T := T) (i := 0) (w := 0) (f := 0) (by first | decide | simp) (by first | decide | simp) g1 g2 g3 g4 g5 (by first | decide | simp) (by first | decide | simp) (by first | decide | simp) hpt
        cases e2
        exact fin ⟨fun c hc => ⟨y2.1 c (by omega) (by omega) (by omega) (by omega), y2.2.1 c (by omega)⟩, fun k _ => ⟨by rw [y2.1 121 (by first | decide | simp) (by first | decide | simp) (by first | decide | simp) (by first | decide | simp)], by rw [y2.2.1 121 (by first | decide | simp)]⟩⟩ (by rw [y2.1 121 (by first | decide | simp) (by first | decide | simp) (by first | decide | simp) (by first | decide | simp)]) (by rw [y2.1 121 (by first | decide | simp) (by first | decide | simp) (by first | decide | simp) (by first | decide | simp)]) y1 g6 h
      rw [r6 136 (by first | decide | simp) (by first | decide | simp) (by first | decide | simp) (by first | decide | simp) (by first | decide | simp), w4.1] at h
      rcases h with ⟨hk, -, h⟩ | ⟨hk, -, -, -, h⟩
      · have hH := ms_ok0 w4.2.1 hk
        rw [r6 128 (by first | decide | simp) (by first | decide | simp) (by first | decide | simp) (by first | decide | simp) (by first | decide | simp), w1] at h
        rcases h with ⟨hs, -, -, h⟩ | ⟨hs, h⟩
        · cases hy : y.2.1 with
          | nil => rw [hy] at hs; exact absurd hs (by first | decide | simp)
          | cons t R =>
            have w1' := w1
            rw [hy] at w1'
            simp only [List.length_cons] at w1'
            have et : FL6 127 ((FI1 128 0) - (1 : Int32)).toInt.toNat = t := by
              rw [f6.2.1 127 (by first | decide | simp), i_sub w1' (by first | decide | simp : ((1 : Int32)).toInt = 1) (by omega) (by rw [hy] at w2; simp only [List.length_cons] at w2; omega), show (((R.length + 1 : Nat) : Int) - 1).toNat = 128 * 0 + R.length by omega]
              rw [hy] at w3
              exact w3.1
            rw [et] at h
            refine one (T := (1, t, [])) (by first | decide | simp) (Or.inr (Or.inl ⟨rfl, rfl⟩)) (fun _ => rfl) (fun e => absurd e (by first | decide | simp)) (by first | decide | simp) ?_ h
            unfold ms_tg
            rw [if_pos hk, hy]
        · refine fin ⟨fun _ _ => ⟨rfl, rfl⟩, fun _ _ => ⟨rfl, rfl⟩⟩ rfl rfl p6 ?_ h
          unfold ms_tg
          rw [if_pos hk]
          cases hy : y.2.1 with
          | nil => rfl
          | cons t R => rw [hy] at hs; simp only [List.length_cons] at hs; exfalso; omega
      · refine one (T := y.2.2.1) w4.1 w4.2.1 (fun e => by rw [f6.2.1 137 (by first | decide | simp)]; exact w4.2.2.1 e) (fun e => ?_) hsz.1.2 ?_ h
        · obtain ⟨D, d1, d2, d3⟩ := w4.2.2.2 e
          exact ⟨D, by rw [f6.2.1 137 (by first | decide | simp)]; exact d1, by rw [r6 138 (by first | decide | simp) (by first | decide | simp) (by first | decide | simp) (by first | decide | simp) (by first | decide | simp)]; exact d2, bk_fr d3 (r6 124 (by first | decide | simp) (by first | decide | simp) (by first | decide | simp) (by first | decide | simp) (by first | decide | simp))⟩
        · unfold ms_tg
          rw [if_neg hk]
end RI
