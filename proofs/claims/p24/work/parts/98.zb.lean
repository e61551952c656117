/-! a token of the class; all of them. -/
def t_sk (X : Nat → Int) (N : Nat) : Nat → Nat → Nat
  | 0, i => i
  | f + 1, i => if i < N ∧ t_bl (t_sg X N i) = true then t_sk X N f (i + 1) else i
/-- what the class makes of the token at p: as the reference, or none, or eight letters of a name too long -/
def y_is (X : Nat → Int) (N p : Nat) (kd : Int) (e : Nat) (num : Int) : Prop :=
  if p < N then ((t_tk X N p).1 ≠ 6 ∧ kd = t_ck (t_tk X N p).1 (t_tk X N p).2.1 ∧ e = (t_tk X N p).2.2 ∧ ((t_tk X N p).1 = 3 ∨ (t_tk X N p).1 = 4 → num = (t_tk X N p).2.1)) ∨ ((t_tk X N p).1 = 6 ∧ (kd = 3 ∨ (kd = 4 ∧ e = p + 8 ∧ p + 8 < N ∧ t_al (t_sg X N (p + 8)) = true)))
  else kd = 2 ∧ e = p
section YA
variable {X : Nat → Int} {N tp : Nat} {n sl : Nat} {SH : Nat → Nat × Nat} {FI : Nat → Nat → Int32} {FL : Nat → Nat → Int64} {FR : Nat → Nat → Option Nat} {s : hS}
/-- what reading a token changes -/
def y_fr (FI F2 : Nat → Nat → Int32) (FL L2 : Nat → Nat → Int64) : Prop := (∀ c k, ¬ (c = 111 ∧ (k = 7 ∨ k = 8 ∨ k = 9)) → F2 c k = FI c k) ∧ (∀ c k, ¬ (c = 111 ∧ k = 10) → L2 c k = FL c k)
theorem y_52 {v : Unit} {p : Nat} (h : RX7_readToken_52 n sl SH FI FL FR v s) (hy : y_vw SH FI FR tp X N) (h8 : (FI 111 8).toInt = p) (hp : p ≤ N) : ∃ F2 L2 e, s = (n, sl, SH, F2, L2, FR) ∧ y_fr FI F2 FL L2 ∧ (F2 111 7).toInt = p ∧ (F2 111 8).toInt = ((e : Nat) : Int) ∧ y_is X N p (F2 111 9).toInt e (L2 111 10).toInt := by
  have hN := hy.2.1
  have hy7 : y_vw SH (h_up FI 111 7 (FI 111 8)) FR tp X N := y_fl hy (by decide)
  have h7 : (h_up FI 111 7 (FI 111 8) 111 7).toInt = p := by rw [h_up_eq]; exact h8
  have h78 : (h_up FI 111 7 (FI 111 8) 111 8).toInt = p := by rw [h_up_x (by decide)]; exact h8
  obtain ⟨v1, n1, sl1, SH1, FI1, FL1, FR1, hc, h⟩ := h
  obtain ⟨q1, q2⟩ := y_letter (i := p) hc hy7 h8
  cases q2
  have cm1 : ((-1 : Int32)).toInt = -1 := by decide
  have c64 : ((64 : Int32)).toInt = 64 := by decide
  have fr1 : ∀ c k, ¬ (c = 111 ∧ (k = 7 ∨ k = 8 ∨ k = 9)) → h_up FI 111 7 (FI 111 8) c k = FI c k := fun c k hck => h_up_x (by rintro ⟨rfl, rfl⟩; exact hck ⟨rfl, Or.inl rfl⟩)
  -- out of what a part of it says
  have out : ∀ {F2 : Nat → Nat → Int32} {L2 : Nat → Nat → Int64} {e : Nat} {kd : Int}, s = (n, sl, SH, F2, L2, FR) → y_to (h_up FI 111 7 (FI 111 8)) F2 FL L2 e kd → y_is X N p kd e (L2 111 10).toInt → ∃ F2 L2 e, s = (n, sl, SH, F2, L2, FR) ∧ y_fr FI F2 FL L2 ∧ (F2 111 7).toInt = p ∧ (F2 111 8).toInt = ((e : Nat) : Int) ∧ y_is X N p (F2 111 9).toInt e (L2 111 10).toInt := by
    intro F2 L2 e kd hs ht hi
    refine ⟨F2, L2, e, hs, ⟨fun c k hck => ?_, ht.2.1⟩, ?_, ht.2.2.1, by rw [ht.2.2.2]; exact hi⟩
    · rw [ht.1 c k (fun h => hck ⟨h.1, Or.inr h.2⟩)]
      exact fr1 c k hck
    · rw [ht.1 111 7 (by decide)]
      exact h7
  rcases h with ⟨h1, h⟩ | ⟨h1, h⟩
  · rw [q1, cm1] at h1
    obtain ⟨-, rfl⟩ := h
    have hNp : ¬ p < N := by
      intro hlt
      have := hy.2.2.2.2.2.2.2.2 p hlt
      unfold t_sg at h1
      rw [if_pos hlt] at h1
      omega
    refine ⟨_, FL, p, rfl, ⟨fun c k hck => ?_, fun _ _ _ => rfl⟩, by rw [h_up_x (by decide)]; exact h7, by rw [h_up_x (by decide)]; exact h78, ?_⟩
    · rw [h_up_x (by rintro ⟨rfl, rfl⟩; exact hck ⟨rfl, Or.inr (Or.inr rfl)⟩)]
      exact fr1 c k hck
    · unfold y_is
      rw [if_neg hNp, h_up_eq]
      exact ⟨by decide, rfl⟩
  · rw [q1, cm1] at h1
    have hpN := t_sg_lt h1
    have te := t_tk_e (X := X) hpN hN
    have hsm := y_small (SH := SH) (FI := h_up FI 111 7 (FI 111 8)) (FL := FL) (FR := FR) q1
    have hdg := y_digit (SH := SH) (FI := h_up FI 111 7 (FI 111 8)) (FL := FL) (FR := FR) q1
    rcases h with ⟨h2, h⟩ | ⟨h2, h⟩
    · have n2 := hsm.mp h2
      rcases h with ⟨h3, h⟩ | ⟨h3, h⟩
      · have n3 := hdg.mp h3
        rcases h with ⟨h4, h⟩ | ⟨h4, h⟩
        · rw [q1, c64] at h4
          obtain ⟨v9, n9, sl9, SH9, FI9, FL9, FR9, hr, -, rfl⟩ := h
          obtain ⟨v0, n0, sl0, SH0, FI0, FL0, FR0, hl, h⟩ := hr
          obtain ⟨r1, r2⟩ := y_letter (i := p + 1) hl hy7 (by rw [i_add h7 (by decide : ((1 : Int32)).toInt = 1) (by omega) (by omega)]; omega)
          cases r2
          have rg := y_sg_rg hy (p + 1)
          have hd := i_sub r1 (by decide : ((48 : Int32)).toInt = 48) (by omega) (by omega)
          have c1 : ((1 : Int32)).toInt = 1 := by decide
          have c8 : ((8 : Int32)).toInt = 8 := by decide
          have e2 : ((h_up FI 111 7 (FI 111 8) 111 7) + ((2 : Int32))).toInt = ((p + 2 : Nat) : Int) := by rw [i_add h7 (by decide : ((2 : Int32)).toInt = 2) (by omega) (by omega)]; omega
          have tk : t_tk X N p = (if 49 ≤ t_sg X N (p + 1) ∧ t_sg X N (p + 1) ≤ 56 then (4, t_sg X N (p + 1) - 48, p + 2) else (6, t_sg X N (p + 1) - 48, p + 1)) := by
            unfold t_tk
            rw [if_neg (by rw [n2]; simp), if_neg (by rw [n3]; simp), if_pos h4]
          have bad : ¬ (49 ≤ t_sg X N (p + 1) ∧ t_sg X N (p + 1) ≤ 56) → (n9, sl9, SH9, FI9, FL9, FR9) = (n, sl, SH, h_up (h_up (h_up FI 111 7 (FI 111 8)) 111 9 3) 111 8 ((h_up FI 111 7 (FI 111 8) 111 7) + ((2 : Int32))), h_up FL 111 10 ((v0 - ((48 : Int32))).toInt64), FR) → ∃ F2 L2 e, (n9, sl9, SH9, FI9, FL9, FR9) = (n, sl, SH, F2, L2, FR) ∧ y_fr FI F2 FL L2 ∧ (F2 111 7).toInt = p ∧ (F2 111 8).toInt = ((e : Nat) : Int) ∧ y_is X N p (F2 111 9).toInt e (L2 111 10).toInt := by
            intro hno hs
            refine out (e := p + 2) (kd := 3) hs ⟨(y_to_2 (FL := FL) (fun _ _ _ => rfl) rfl e2 (by decide : ((3 : Int32)).toInt = 3)).1, fun c k hck => h_up_x hck, (y_to_2 (FL := FL) (fun _ _ _ => rfl) rfl e2 (by decide : ((3 : Int32)).toInt = 3)).2.2⟩ ?_
            unfold y_is
            rw [if_pos hpN, tk, if_neg hno]
            exact Or.inr ⟨rfl, Or.inl rfl⟩
          rcases h with ⟨h5, h⟩ | ⟨h5, h⟩
          · rw [hd, c1] at h5
            exact bad (by omega) h.2
          · rw [hd, c1] at h5
            rcases h with ⟨h6, h⟩ | ⟨h6, h⟩
            · rw [hd, c8] at h6
              exact bad (by omega) h.2
            · rw [hd, c8] at h6
              refine out (e := p + 2) (kd := 6) h.2 ⟨(y_to_2 (FL := FL) (fun _ _ _ => rfl) rfl e2 (by decide : ((6 : Int32)).toInt = 6)).1, fun c k hck => h_up_x hck, (y_to_2 (FL := FL) (fun _ _ _ => rfl) rfl e2 (by decide : ((6 : Int32)).toInt = 6)).2.2⟩ ?_
              unfold y_is
              rw [if_pos hpN, tk, if_pos (by omega), h_up_eq]
              exact Or.inl ⟨by dsimp only; decide, by dsimp only; rfl, rfl, fun _ => i_2l hd⟩
        · rw [q1, c64] at h4
          obtain ⟨v9, n9, sl9, SH9, FI9, FL9, FR9, hr, -, rfl⟩ := h
          obtain ⟨F2, w1, w2⟩ := y_readSign hr hy7 h7 hpN q1
          have tk : t_tk X N p = ((t_sn (t_sg X N p) (t_sg X N (p + 1)) (t_sg X N (p + 2))).1, (t_sn (t_sg X N p) (t_sg X N (p + 1)) (t_sg X N (p + 2))).2.1, p + (t_sn (t_sg X N p) (t_sg X N (p + 1)) (t_sg X N (p + 2))).2.2) := by
            unfold t_tk
            rw [if_neg (by rw [n2]; simp), if_neg (by rw [n3]; simp), if_neg h4]
          refine out w1 w2 ?_
          unfold y_is
          rw [if_pos hpN, tk]
          by_cases h6 : (t_sn (t_sg X N p) (t_sg X N (p + 1)) (t_sg X N (p + 2))).1 = 6
          · refine Or.inr ⟨h6, Or.inl ?_⟩
            rw [h6]
            rfl
          · refine Or.inl ⟨h6, rfl, rfl, fun h34 => ?_⟩
            exfalso
            have : (t_sn (t_sg X N p) (t_sg X N (p + 1)) (t_sg X N (p + 2))).1 = 5 ∨ (t_sn (t_sg X N p) (t_sg X N (p + 1)) (t_sg X N (p + 2))).1 = 6 := by
              unfold t_sn
              split
              · exact Or.inl rfl
              · split
                · exact Or.inl rfl
                · exact Or.inr rfl
            dsimp only at h34
            omega
      · have n3 : t_dg (t_sg X N p) = true := by
          cases e : t_dg (t_sg X N p) with
          | true => rfl
          | false => exact absurd (hdg.mpr e) h3
        obtain ⟨v9, n9, sl9, SH9, FI9, FL9, FR9, ⟨g, hr⟩, -, rfl⟩ := h
        obtain ⟨F2, L2, w1, w2, w3⟩ := y_number_G (p := p) g 0 _ v9 _ 0 hr hy7 h7 hpN (by decide) (by omega) (by omega) (by rw [h_up_eq]; rfl)
        have tk : t_tk X N p = (if t_rn t_dg X N 1001 p - p > 18 then 6 else if t_lt (t_sg X N (t_rn t_dg X N 1001 p)) = true then 6 else 3, t_nv X N p (min (t_rn t_dg X N 1001 p - p) 18), t_rn t_dg X N 1001 p) := by
          unfold t_tk
          rw [if_neg (by rw [n2]; simp), if_pos n3]
        have hin := t_rn_in (p := t_dg) (X := X) (N := N) 1001 p
        have hout := t_rn_out (p := t_dg) t_dg_m1 (X := X) (N := N) 1001 p (by omega)
        have hge := t_rn_ge (p := t_dg) (X := X) (N := N) 1001 p
        refine out w1 ⟨w2.1, fun c k hck => by rw [w2.2.1 c k hck, h_up_x hck], w2.2.2⟩ ?_
        unfold y_is
        rw [if_pos hpN, tk, w3]
        rcases Nat.lt_or_ge 18 (t_rn t_dg X N 1001 p - p) with hb | hb
        · have e1 : min (t_rn t_dg X N 1001 p - p) 18 = 18 := by omega
          refine Or.inr ⟨by dsimp only; rw [if_pos hb], Or.inl ?_⟩
          rw [e1, if_pos (Or.inl (hin (p + 18) (by omega) (by omega)))]
        · have e1 : p + min (t_rn t_dg X N 1001 p - p) 18 = t_rn t_dg X N 1001 p := by omega
          rw [e1]
          dsimp only
          rw [if_neg (show ¬ (t_rn t_dg X N 1001 p - p > 18) by omega)]
          by_cases hl : t_lt (t_sg X N (t_rn t_dg X N 1001 p)) = true
          · rw [if_pos hl]
            exact Or.inr ⟨rfl, Or.inl (by rw [if_pos (Or.inr hl)])⟩
          · rw [if_neg hl]
            refine Or.inl ⟨by decide, ?_, rfl, fun _ => rfl⟩
            rw [if_neg (by rw [hout]; simpa using hl)]
            rfl
    · have n2 : t_sm (t_sg X N p) = true := by
        cases e : t_sm (t_sg X N p) with
        | true => rfl
        | false => exact absurd (hsm.mpr e) h2
      obtain ⟨v9, n9, sl9, SH9, FI9, FL9, FR9, ⟨g, hr⟩, -, rfl⟩ := h
      obtain ⟨kd, e, w1, w2, w3⟩ := y_readWord_G (p := p) g 0 v9 _ 0 hr hy7 h7 hpN (by decide) (by omega) (by omega)
      have tk : t_tk X N p = (if t_rn t_al X N 1001 p - p > 8 then (6, 0, t_rn t_al X N 1001 p) else if t_wd (t_wv X N p (t_rn t_al X N 1001 p - p)) = -1 then (1, t_wv X N p (t_rn t_al X N 1001 p - p), t_rn t_al X N 1001 p) else (2, t_wd (t_wv X N p (t_rn t_al X N 1001 p - p)), t_rn t_al X N 1001 p)) := by
        unfold t_tk
        rw [if_pos n2]
      have hin := t_rn_in (p := t_al) (X := X) (N := N) 1001 p
      have hge := t_rn_ge (p := t_al) (X := X) (N := N) 1001 p
      have hle := t_rn_le (p := t_al) t_al_m1 (X := X) (N := N) 1001 p (by omega)
      refine out (e := p + min (t_rn t_al X N 1001 p - p) 8) (kd := kd.toInt) w1 ⟨fun c k hck => ?_, fun _ _ _ => rfl, by rw [h_up_x (by decide), h_up_eq]; exact w2, by rw [h_up_eq]⟩ ?_
      · rw [h_up_x (by rintro ⟨rfl, rfl⟩; exact hck ⟨rfl, Or.inr rfl⟩), h_up_x (by rintro ⟨rfl, rfl⟩; exact hck ⟨rfl, Or.inl rfl⟩)]
      · unfold y_is
        rw [if_pos hpN, tk]
        rcases Nat.lt_or_ge 8 (t_rn t_al X N 1001 p - p) with hb | hb
        · have e1 : min (t_rn t_al X N 1001 p - p) 8 = 8 := by omega
          rw [if_pos hb]
          refine Or.inr ⟨rfl, Or.inr ⟨?_, by omega, by omega, hin (p + 8) (by omega) (by omega)⟩⟩
          rw [w3, e1, if_pos ?_]
          rcases t_wd_rg (t_wv X N p 8) with e | ⟨k2, e⟩
          · exact e
          · exfalso
            have hi2 := (t_is_wd (X := X) (N := N) (p := p) (m := 8) k2 (fun j hj => hin (p + j) (by omega) (by omega))).mpr e
            have := (t_wl_len k2).2.2
            have := hi2.1
            omega
        · have e1 : min (t_rn t_al X N 1001 p - p) 8 = t_rn t_al X N 1001 p - p := by omega
          rw [if_neg (show ¬ (t_rn t_al X N 1001 p - p > 8) by omega)]
          rw [e1] at w3 ⊢
          by_cases hw : t_wd (t_wv X N p (t_rn t_al X N 1001 p - p)) = -1
          · rw [if_pos hw] at w3 ⊢
            exact Or.inl ⟨by dsimp only; decide, by rw [w3]; rfl, by dsimp only; omega, fun h => by rcases h with h | h <;> exact absurd h (by dsimp only; decide)⟩
          · rw [if_neg hw] at w3 ⊢
            exact Or.inl ⟨by dsimp only; decide, by rw [w3]; rfl, by dsimp only; omega, fun h => by rcases h with h | h <;> exact absurd h (by dsimp only; decide)⟩
theorem y_readToken_G : ∀ (g : Nat) (FI : Nat → Nat → Int32) (v : Unit) (s : hS) (f b : Nat), GX7_readToken_0 g n sl SH FI FL FR v s → y_vw SH FI FR tp X N → (FI 111 8).toInt = b → b ≤ N → N - b < f → ∃ F2 L2 e, s = (n, sl, SH, F2, L2, FR) ∧ y_fr FI F2 FL L2 ∧ (F2 111 7).toInt = t_sk X N f b ∧ (F2 111 8).toInt = ((e : Nat) : Int) ∧ y_is X N (t_sk X N f b) (F2 111 9).toInt e (L2 111 10).toInt := by
  intro g
  induction g with
  | zero => intro FI v s f b h; exact h.elim
  | succ g ih =>
    intro FI v s f b h hy h8 hb hf
    have c10 : ((10 : Int32)).toInt = 10 := by decide
    have c32 : ((32 : Int32)).toInt = 32 := by decide
    have hN := hy.2.1
    have h8n : (FI 111 8).toInt.toNat = b := by omega
    cases f with
    | zero => omega
    | succ f =>
      rw [t_sk]
      have go : b < N → t_bl (t_sg X N b) = true → RX7_readToken_39 (GX7_readToken_0 g) n sl SH FI FL FR v s → ∃ F2 L2 e, s = (n, sl, SH, F2, L2, FR) ∧ y_fr FI F2 FL L2 ∧ (F2 111 7).toInt = (if b < N ∧ t_bl (t_sg X N b) = true then t_sk X N f (b + 1) else b : Nat) ∧ (F2 111 8).toInt = ((e : Nat) : Int) ∧ y_is X N (if b < N ∧ t_bl (t_sg X N b) = true then t_sk X N f (b + 1) else b) (F2 111 9).toInt e (L2 111 10).toInt := by
        intro hlt hbl h
        rw [if_pos ⟨hlt, hbl⟩]
        obtain ⟨F2, L2, e, w1, w2, w3, w4, w5⟩ := ih _ v s f (b + 1) h (y_fl hy (by decide)) (by rw [h_up_eq, i_add h8 (by decide : ((1 : Int32)).toInt = 1) (by omega) (by omega)]; omega) hlt (by omega)
        refine ⟨F2, L2, e, w1, ⟨fun c k hck => ?_, w2.2⟩, w3, w4, w5⟩
        rw [w2.1 c k hck, h_up_x (by rintro ⟨rfl, rfl⟩; exact hck ⟨rfl, Or.inr (Or.inl rfl)⟩)]
      have stop : ¬ (b < N ∧ t_bl (t_sg X N b) = true) → RX7_readToken_52 n sl SH FI FL FR v s → ∃ F2 L2 e, s = (n, sl, SH, F2, L2, FR) ∧ y_fr FI F2 FL L2 ∧ (F2 111 7).toInt = (if b < N ∧ t_bl (t_sg X N b) = true then t_sk X N f (b + 1) else b : Nat) ∧ (F2 111 8).toInt = ((e : Nat) : Int) ∧ y_is X N (if b < N ∧ t_bl (t_sg X N b) = true then t_sk X N f (b + 1) else b) (F2 111 9).toInt e (L2 111 10).toInt := by
        intro hno h
        rw [if_neg hno]
        exact y_52 h hy h8 hb
      rcases h with ⟨h1, h⟩ | ⟨h1, h⟩
      · rw [h8, hy.1] at h1
        have hlt : b < N := by omega
        have hsg : t_sg X N b = X b := by unfold t_sg; rw [if_pos hlt]
        have hX := (hy.2.2.2.2.2.2.2.2 b hlt).1
        obtain ⟨c2, e2, -, h⟩ := h
        rw [hy.2.2.1] at e2
        cases e2
        rw [h8n, hX, ← hsg, c10] at h
        rcases h with ⟨h2, h⟩ | ⟨h2, h⟩
        · exact go hlt (by unfold t_bl; exact decide_eq_true (Or.inr h2)) h
        · obtain ⟨c4, e4, -, h⟩ := h
          rw [hy.2.2.1] at e4
          cases e4
          rw [hX, ← hsg, c32] at h
          rcases h with ⟨h3, h⟩ | ⟨h3, h⟩
          · exact go hlt (by unfold t_bl; exact decide_eq_true (Or.inl h3)) h
          · exact stop (by unfold t_bl; rw [decide_eq_true_eq]; omega) h
      · rw [h8, hy.1] at h1
        exact stop (by omega) h
end YA
