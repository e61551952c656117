/-! wordKind: which word the letters are. -/
section YW
variable {X : Nat → Int} {N tp : Nat} {n sl : Nat} {SH : Nat → Nat × Nat} {FI : Nat → Nat → Int32} {FL : Nat → Nat → Int64} {FR : Nat → Nat → Option Nat} {s : hS}
/-- a word that the letters are begins as they do -/
theorem t_is_0 {p m : Nat} {k : Fin 10} (h : t_is X N p m k.val) : t_sg X N p = ((x_strB.getD k.val []).getD 0 0).toInt := by
  have hl : ∀ k : Fin 10, 0 < x_strN.getD k.val 0 := by decide
  have := h.2 0 (by rw [h.1]; exact hl k)
  rwa [Nat.add_zero] at this
theorem y_small {a : Int32} {c : Int} (ha : a.toInt = c) : (fX7_isSmall a SH FI FL FR).toInt = 0 ↔ t_sm c = false := by
  unfold fX7_isSmall t_sm
  have c97 : ((97 : Int32)).toInt = 97 := by decide
  have c122 : ((122 : Int32)).toInt = 122 := by decide
  rw [ha, c97, c122, decide_eq_false_iff_not]
  split
  · exact ⟨fun _ => by omega, fun _ => by decide⟩
  · split
    · exact ⟨fun _ => by omega, fun _ => by decide⟩
    · exact ⟨fun h => absurd h (by decide), fun h => by omega⟩
theorem y_digit {a : Int32} {c : Int} (ha : a.toInt = c) : (fX7_isDigit a SH FI FL FR).toInt = 0 ↔ t_dg c = false := by
  unfold fX7_isDigit t_dg
  have c97 : ((48 : Int32)).toInt = 48 := by decide
  have c122 : ((57 : Int32)).toInt = 57 := by decide
  rw [ha, c97, c122, decide_eq_false_iff_not]
  split
  · exact ⟨fun _ => by omega, fun _ => by decide⟩
  · split
    · exact ⟨fun _ => by omega, fun _ => by decide⟩
    · exact ⟨fun h => absurd h (by decide), fun h => by omega⟩
theorem t_wd_rg (v : Int) : t_wd v = -1 ∨ ∃ k : Fin 10, t_wd v = k.val := by
  unfold t_wd
  repeat' split
  · exact Or.inr ⟨0, rfl⟩
  · exact Or.inr ⟨1, rfl⟩
  · exact Or.inr ⟨2, rfl⟩
  · exact Or.inr ⟨3, rfl⟩
  · exact Or.inr ⟨4, rfl⟩
  · exact Or.inr ⟨5, rfl⟩
  · exact Or.inr ⟨6, rfl⟩
  · exact Or.inr ⟨7, rfl⟩
  · exact Or.inr ⟨8, rfl⟩
  · exact Or.inr ⟨9, rfl⟩
  · exact Or.inl rfl
theorem y_wordKind {v : Int32} {p m : Nat} (h : RX7_wordKind n sl SH FI FL FR v s) (hy : y_vw SH FI FR tp X N) (h7 : (FI 111 7).toInt = p) (h8 : (FI 111 8).toInt = ((p + m : Nat) : Int)) (hm : m ≤ 8) (hp : p ≤ 1000) (hal : ∀ j, j < m → t_al (t_sg X N (p + j)) = true) : s = (n, sl, SH, FI, FL, FR) ∧ v.toInt = (if t_wd (t_wv X N p m) = -1 then 4 else t_wd (t_wv X N p m) + 7) := by
  obtain ⟨v0, n0, sl0, SH0, FI0, FL0, FR0, hc, h⟩ := h
  obtain ⟨q1, q2⟩ := y_letter (i := p) hc hy h7
  cases q2
  rw [q1] at h
  -- the k-th word is looked for
  have look : ∀ (k : Fin 10) (kd : Int32), kd.toInt = k.val + 7 → (∀ k2 : Fin 10, t_is X N p m k2.val → k2 = k) → ∀ {v1 : Int32} {n1 sl1 : Nat} {SH1 : Nat → Nat × Nat} {FI1 : Nat → Nat → Int32} {FL1 : Nat → Nat → Int64} {FR1 : Nat → Nat → Option Nat}, RX7_isWord ⟨k.val, by omega⟩ n sl SH FI FL FR v1 (n1, sl1, SH1, FI1, FL1, FR1) → P_if (v1.toInt = 0) (P_ret (4 : Int32) (n1, sl1, SH1, FI1, FL1, FR1)) (P_ret kd (n1, sl1, SH1, FI1, FL1, FR1)) v s → s = (n, sl, SH, FI, FL, FR) ∧ v.toInt = (if t_wd (t_wv X N p m) = -1 then 4 else t_wd (t_wv X N p m) + 7) := by
    intro k kd hkd hu v1 n1 sl1 SH1 FI1 FL1 FR1 hw h
    obtain ⟨w1, w2, w3⟩ := y_isWord hw hy h7 h8 hm hp
    cases w1
    have hiff := t_is_wd (X := X) (N := N) (p := p) (m := m) k hal
    rcases h with ⟨h1, h⟩ | ⟨h1, h⟩
    · obtain ⟨rfl, rfl⟩ := h
      refine ⟨rfl, ?_⟩
      have hno : t_wd (t_wv X N p m) = -1 := by
        rcases t_wd_rg (t_wv X N p m) with e | ⟨k2, e⟩
        · exact e
        · exfalso
          have hi2 := (t_is_wd (X := X) (N := N) (p := p) (m := m) k2 hal).mpr e
          have e2 := hu k2 hi2
          subst e2
          have := w3.mpr hi2
          omega
      rw [if_pos hno]
      decide
    · obtain ⟨rfl, rfl⟩ := h
      refine ⟨rfl, ?_⟩
      have hyes := hiff.mp (w3.mp (by omega))
      rw [if_neg (by rw [hyes]; omega), hyes]
      exact hkd
  have none_ : (∀ k2 : Fin 10, ¬ t_is X N p m k2.val) → P_ret (4 : Int32) (n, sl, SH, FI, FL, FR) v s → s = (n, sl, SH, FI, FL, FR) ∧ v.toInt = (if t_wd (t_wv X N p m) = -1 then 4 else t_wd (t_wv X N p m) + 7) := by
    intro hno h
    obtain ⟨rfl, rfl⟩ := h
    refine ⟨rfl, ?_⟩
    have e : t_wd (t_wv X N p m) = -1 := by
      rcases t_wd_rg (t_wv X N p m) with e | ⟨k2, e⟩
      · exact e
      · exact absurd ((t_is_wd (X := X) (N := N) (p := p) (m := m) k2 hal).mpr e) (hno k2)
    rw [if_pos e]
    decide
  have firsts : ∀ k : Fin 10, ((x_strB.getD k.val []).getD 0 0).toInt = ([114, 118, 98, 110, 102, 99, 111, 116, 100, 109] : List Int).getD k.val 0 := by decide
  have uniq : ∀ (k : Fin 10) (c : Int), t_sg X N p = c → ([114, 118, 98, 110, 102, 99, 111, 116, 100, 109] : List Int).getD k.val 0 = c → ∀ k2 : Fin 10, t_is X N p m k2.val → k2 = k := by
    intro k c hc hk k2 h2
    have e := t_is_0 h2
    rw [hc, firsts k2, ← hk] at e
    have inj : ∀ a b : Fin 10, ([114, 118, 98, 110, 102, 99, 111, 116, 100, 109] : List Int).getD a.val 0 = ([114, 118, 98, 110, 102, 99, 111, 116, 100, 109] : List Int).getD b.val 0 → b = a := by decide
    exact inj k k2 e
  have nob : (∀ k : Fin 10, t_sg X N p ≠ ([114, 118, 98, 110, 102, 99, 111, 116, 100, 109] : List Int).getD k.val 0) → ∀ k2 : Fin 10, ¬ t_is X N p m k2.val := by
    intro hno k2 h2
    have e := t_is_0 h2
    rw [firsts k2] at e
    exact hno k2 e
  rcases h with ⟨h98, h⟩ | ⟨h98, h⟩
  · obtain ⟨v1, n1, sl1, SH1, FI1, FL1, FR1, hw, h⟩ := h
    exact look ⟨2, by decide⟩ 9 (by decide) (uniq ⟨2, by decide⟩ 98 h98 (by decide)) hw h
  · skip
    rcases h with ⟨h99, h⟩ | ⟨h99, h⟩
    · obtain ⟨v1, n1, sl1, SH1, FI1, FL1, FR1, hw, h⟩ := h
      exact look ⟨5, by decide⟩ 12 (by decide) (uniq ⟨5, by decide⟩ 99 h99 (by decide)) hw h
    · skip
      rcases h with ⟨h100, h⟩ | ⟨h100, h⟩
      · obtain ⟨v1, n1, sl1, SH1, FI1, FL1, FR1, hw, h⟩ := h
        exact look ⟨8, by decide⟩ 15 (by decide) (uniq ⟨8, by decide⟩ 100 h100 (by decide)) hw h
      · skip
        rcases h with ⟨hx, h⟩ | ⟨hx, h⟩
        · exact none_ (nob (by intro k; match k with | ⟨0, _⟩ => show t_sg X N p ≠ (114 : Int); omega | ⟨1, _⟩ => show t_sg X N p ≠ (118 : Int); omega | ⟨2, _⟩ => show t_sg X N p ≠ (98 : Int); omega | ⟨3, _⟩ => show t_sg X N p ≠ (110 : Int); omega | ⟨4, _⟩ => show t_sg X N p ≠ (102 : Int); omega | ⟨5, _⟩ => show t_sg X N p ≠ (99 : Int); omega | ⟨6, _⟩ => show t_sg X N p ≠ (111 : Int); omega | ⟨7, _⟩ => show t_sg X N p ≠ (116 : Int); omega | ⟨8, _⟩ => show t_sg X N p ≠ (100 : Int); omega | ⟨9, _⟩ => show t_sg X N p ≠ (109 : Int); omega)) h
        · skip
          rcases h with ⟨h102, h⟩ | ⟨h102, h⟩
          · obtain ⟨v1, n1, sl1, SH1, FI1, FL1, FR1, hw, h⟩ := h
            exact look ⟨4, by decide⟩ 11 (by decide) (uniq ⟨4, by decide⟩ 102 h102 (by decide)) hw h
          · skip
            rcases h with ⟨h109, h⟩ | ⟨h109, h⟩
            · obtain ⟨v1, n1, sl1, SH1, FI1, FL1, FR1, hw, h⟩ := h
              exact look ⟨9, by decide⟩ 16 (by decide) (uniq ⟨9, by decide⟩ 109 h109 (by decide)) hw h
            · skip
              rcases h with ⟨h110, h⟩ | ⟨h110, h⟩
              · obtain ⟨v1, n1, sl1, SH1, FI1, FL1, FR1, hw, h⟩ := h
                exact look ⟨3, by decide⟩ 10 (by decide) (uniq ⟨3, by decide⟩ 110 h110 (by decide)) hw h
              · skip
                rcases h with ⟨h111, h⟩ | ⟨h111, h⟩
                · obtain ⟨v1, n1, sl1, SH1, FI1, FL1, FR1, hw, h⟩ := h
                  exact look ⟨6, by decide⟩ 13 (by decide) (uniq ⟨6, by decide⟩ 111 h111 (by decide)) hw h
                · skip
                  rcases h with ⟨h114, h⟩ | ⟨h114, h⟩
                  · obtain ⟨v1, n1, sl1, SH1, FI1, FL1, FR1, hw, h⟩ := h
                    exact look ⟨0, by decide⟩ 7 (by decide) (uniq ⟨0, by decide⟩ 114 h114 (by decide)) hw h
                  · skip
                    rcases h with ⟨h116, h⟩ | ⟨h116, h⟩
                    · obtain ⟨v1, n1, sl1, SH1, FI1, FL1, FR1, hw, h⟩ := h
                      exact look ⟨7, by decide⟩ 14 (by decide) (uniq ⟨7, by decide⟩ 116 h116 (by decide)) hw h
                    · skip
                      rcases h with ⟨h118, h⟩ | ⟨h118, h⟩
                      · obtain ⟨v1, n1, sl1, SH1, FI1, FL1, FR1, hw, h⟩ := h
                        exact look ⟨1, by decide⟩ 8 (by decide) (uniq ⟨1, by decide⟩ 118 h118 (by decide)) hw h
                      · skip
                        exact none_ (nob (by intro k; match k with | ⟨0, _⟩ => show t_sg X N p ≠ (114 : Int); omega | ⟨1, _⟩ => show t_sg X N p ≠ (118 : Int); omega | ⟨2, _⟩ => show t_sg X N p ≠ (98 : Int); omega | ⟨3, _⟩ => show t_sg X N p ≠ (110 : Int); omega | ⟨4, _⟩ => show t_sg X N p ≠ (102 : Int); omega | ⟨5, _⟩ => show t_sg X N p ≠ (99 : Int); omega | ⟨6, _⟩ => show t_sg X N p ≠ (111 : Int); omega | ⟨7, _⟩ => show t_sg X N p ≠ (116 : Int); omega | ⟨8, _⟩ => show t_sg X N p ≠ (100 : Int); omega | ⟨9, _⟩ => show t_sg X N p ≠ (109 : Int); omega)) h
/-- a word's letters, eight at most -/
theorem y_readWord_G {p : Nat} : ∀ (g : Nat) (l1 : Int32) (v : Unit) (s : hS) (j : Nat), GX7_readWord_2 g l1 n sl SH FI FL FR v s → y_vw SH FI FR tp X N → (FI 111 7).toInt = p → p < N → l1.toInt = j → j ≤ 8 → j ≤ t_rn t_al X N 1001 p - p → ∃ kd e : Int32, s = (n, sl, SH, h_up (h_up FI 111 8 e) 111 9 kd, FL, FR) ∧ e.toInt = ((p + min (t_rn t_al X N 1001 p - p) 8 : Nat) : Int) ∧ kd.toInt = (if t_wd (t_wv X N p (min (t_rn t_al X N 1001 p - p) 8)) = -1 then 4 else t_wd (t_wv X N p (min (t_rn t_al X N 1001 p - p) 8)) + 7) := by
  intro g
  induction g with
  | zero => intro l1 v s j h; exact h.elim
  | succ g ih =>
    intro l1 v s j h hy h7 hpN hl hj hr
    have hN := hy.2.1
    have c8 : ((8 : Int32)).toInt = 8 := by decide
    have hin := t_rn_in (p := t_al) (X := X) (N := N) 1001 p
    have hout := t_rn_out (p := t_al) t_al_m1 (X := X) (N := N) 1001 p (by omega)
    have hge := t_rn_ge (p := t_al) (X := X) (N := N) 1001 p
    have hpj : ((FI 111 7) + l1).toInt = ((p + j : Nat) : Int) := by rw [i_add h7 hl (by omega) (by omega)]; omega
    have stop : ∀ {vw : Int32} {n8 sl8 : Nat} {SH8 : Nat → Nat × Nat} {FI8 : Nat → Nat → Int32} {FL8 : Nat → Nat → Int64} {FR8 : Nat → Nat → Option Nat}, min (t_rn t_al X N 1001 p - p) 8 = j → RX7_wordKind n sl SH (h_up FI 111 8 ((FI 111 7) + l1)) FL FR vw (n8, sl8, SH8, FI8, FL8, FR8) → P_ret () (n8, sl8, SH8, (h_up FI8 111 9 vw), FL8, FR8) v s → ∃ kd e : Int32, s = (n, sl, SH, h_up (h_up FI 111 8 e) 111 9 kd, FL, FR) ∧ e.toInt = ((p + min (t_rn t_al X N 1001 p - p) 8 : Nat) : Int) ∧ kd.toInt = (if t_wd (t_wv X N p (min (t_rn t_al X N 1001 p - p) 8)) = -1 then 4 else t_wd (t_wv X N p (min (t_rn t_al X N 1001 p - p) 8)) + 7) := by
      intro vw n8 sl8 SH8 FI8 FL8 FR8 hmin hw h
      obtain ⟨q1, q2⟩ := y_wordKind (m := j) hw (y_fl hy (by decide)) (by rw [h_up_x (by decide)]; exact h7) (by rw [h_up_eq]; exact hpj) hj (by omega) (fun i hi => hin (p + i) (by omega) (by omega))
      cases q1
      obtain ⟨-, rfl⟩ := h
      rw [hmin]
      exact ⟨vw, _, rfl, hpj, q2⟩
    rcases h with ⟨h1, h⟩ | ⟨h1, h⟩
    · rw [hl, c8] at h1
      obtain ⟨v1, n1, sl1, SH1, FI1, FL1, FR1, hc, h⟩ := h
      obtain ⟨q1, q2⟩ := y_letter (i := p + j) hc hy hpj
      cases q2
      have go : t_al (t_sg X N (p + j)) = true → GX7_readWord_2 g (l1 + 1) n sl SH FI FL FR v s → _ := fun ha h => ih (l1 + 1) v s (j + 1) h hy h7 hpN (by rw [i_add hl (by decide : ((1 : Int32)).toInt = 1) (by omega) (by omega)]; omega) (by omega) (by
        rcases Nat.lt_or_ge j (t_rn t_al X N 1001 p - p) with h2 | h2
        · omega
        · exfalso
          have e : p + j = t_rn t_al X N 1001 p := by omega
          rw [e, hout] at ha
          cases ha)
      have hsm := y_small (SH := SH) (FI := FI) (FL := FL) (FR := FR) q1
      rcases h with ⟨h2, h⟩ | ⟨h2, h⟩
      · have n2 := hsm.mp h2
        obtain ⟨v4, n4, sl4, SH4, FI4, FL4, FR4, hd, h⟩ := h
        obtain ⟨r1, r2⟩ := y_letter (i := p + j) hd hy hpj
        cases r2
        have hdg := y_digit (SH := SH) (FI := FI) (FL := FL) (FR := FR) r1
        rcases h with ⟨h3, h⟩ | ⟨h3, h⟩
        · have n3 := hdg.mp h3
          have na : t_al (t_sg X N (p + j)) = false := by unfold t_al; rw [n2, n3]; rfl
          have e : t_rn t_al X N 1001 p - p = j := by
            rcases Nat.lt_or_ge j (t_rn t_al X N 1001 p - p) with h2 | h2
            · have := hin (p + j) (by omega) (by omega)
              rw [na] at this
              cases this
            · omega
          obtain ⟨v8, n8, sl8, SH8, FI8, FL8, FR8, hw, h⟩ := h
          exact stop (by omega) hw h
        · have n3 : t_dg (t_sg X N (p + j)) = true := by
            cases e : t_dg (t_sg X N (p + j)) with
            | true => rfl
            | false => exact absurd (hdg.mpr e) h3
          exact go (by unfold t_al; rw [n3, Bool.or_true]) h
      · have n2 : t_sm (t_sg X N (p + j)) = true := by
          cases e : t_sm (t_sg X N (p + j)) with
          | true => rfl
          | false => exact absurd (hsm.mpr e) h2
        exact go (by unfold t_al; rw [n2, Bool.true_or]) h
    · rw [hl, c8] at h1
      obtain ⟨v8, n8, sl8, SH8, FI8, FL8, FR8, hw, h⟩ := h
      exact stop (by omega) hw h
end YW
