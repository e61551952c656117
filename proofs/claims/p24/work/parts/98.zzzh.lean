/-! THE REFERENCE'S MEANINGS: locations. -/
/-- a part's rows -/
def pv (FI : Nat → Nat → Int32) (FL : Nat → Nat → Int64) (i : Nat) (p : ms_P) : Prop := rm FI FL i p.1 ∧ (FI 171 i).toInt = p.2.1 ∧ p.2.2 = 0 ∧ 0 ≤ p.2.1 ∧ p.2.1 ≤ 4096
/-- what has been meant -/
def mw (FI : Nat → Nat → Int32) (FL : Nat → Nat → Int64) (Q : ms_Q) : Prop := (FI 121 94).toInt = Q.2.length ∧ ((FI 121 95).toInt = 0 ↔ Q.1 = false) ∧ (1 ≤ Q.2.length ∧ Q.2.length ≤ 8) ∧ (Q.1 = false → Q.2.length = 1) ∧ lv (fun i p => pv FI FL i p) Q.2
def mw_r (F2 : Nat → Nat → Int32) (L2 : Nat → Nat → Int64) (r : Int ⊕ ms_Q) : Prop := match r with
  | .inl e => (F2 121 93).toInt = e ∧ e ≠ 0
  | .inr Q => (F2 121 93).toInt = 0 ∧ mw F2 L2 Q
/-- what a location leaves -/
def lo_c (n sl : Nat) (SH : Nat → Nat × Nat) (FI : Nat → Nat → Int32) (FL : Nat → Nat → Int64) (FR : Nat → Nat → Option Nat) (on : Bool) (t1 : Nat) (st : hS) (r : Int ⊕ ms_Q) : Prop := ∃ F2 L2, st = (n, sl, SH, F2, L2, FR) ∧ m9 FI FL F2 L2 ∧ (F2 121 92).toInt = t1 ∧ (on = false → F2 169 = FI 169 ∧ L2 170 = FL 170 ∧ F2 171 = FI 171 ∧ F2 172 = FI 172 ∧ F2 121 94 = FI 121 94 ∧ F2 121 95 = FI 121 95) ∧ (¬ (on = true ∧ (FI 121 93).toInt = 0) → F2 121 93 = FI 121 93) ∧ (on = true → (FI 121 93).toInt = 0 → mw_r F2 L2 r)
section ML
variable {n sl : Nat} {SH : Nat → Nat × Nat} {F2 F3 : Nat → Nat → Int32} {L2 L3 : Nat → Nat → Int64} {FR : Nat → Nat → Option Nat} {st : hS} {E : ms_E} {fb : xX} {u : Unit} {K W : Nat → Int} {T : Nat}
theorem pv_fr {FI : Nat → Nat → Int32} {FL : Nat → Nat → Int64} {i j : Nat} {p : ms_P} (h : pv FI FL j p) (g : mf i FI FL F2 L2) (hj : j ≠ i) : pv F2 L2 j p := ⟨rm_fr h.1 g hj, by rw [g.2.2.1]; exact h.2.1, h.2.2⟩
theorem rm_cg {FI : Nat → Nat → Int32} {FL : Nat → Nat → Int64} {i : Nat} {H : ms_H} (h : rm FI FL i H) (e1 : F2 169 = FI 169) (e2 : L2 170 = FL 170) (e3 : F2 172 = FI 172) : rm F2 L2 i H := by
  unfold rm
  rw [e1, e2, e3]
  exact h
theorem mo_30 {a1 : Int32} {on : Bool} {f : Nat} (hS : h_S n SH) (hK : K T = 0) (hT : T ≤ 1001) (hg : tk_rg K W) (hf : xfq E fb) (ha : a1 = bi on) : ∀ (g g2 m t : Nat) (c : List Int) (t2 : Nat) (l2 l3 : Int32) (FI : Nat → Nat → Int32) (FL : Nat → Nat → Int64), mtk K W T FI FL → rE FI FL SH E → (FI 121 92).toInt = t → t ≤ T → l2.toInt = m → ¬ l3.toInt = 0 → lp_pt K W f g2 m t = some (t2, c) → c.length ≤ 60000 → GX12_meantLocation_30 a1 g l2 l3 n sl SH FI FL FR u st → t < t2 ∧ t2 ≤ T ∧ ∃ Z : List mZ, Z ≠ [] ∧ Z.length + m ≤ 8 ∧ mz_ok E fb Z ∧ c = mz_fl Z ∧ ∀ A : List ms_P, A.length = m → (on = true → (FI 121 93).toInt = 0 → lv (fun i p => pv FI FL i p) A) → lo_c n sl SH FI FL FR on t2 st (mz_rs Z A) := by
  intro g
  induction g with
  | zero => intro g2 m t c t2 l2 l3 FI FL _ _ _ _ _ _ _ _ h; exact h.elim
  | succ g ih =>
    intro g2 m t c t2 l2 l3 FI FL htk hE h92 ht hl2 hl3 hl hlen h
    cases g2 with
    | zero => cases hl
    | succ g2 =>
      rw [lp_pt] at hl
      by_cases his : lp_is (K t) (W t) = true ∧ m < 8
      · rw [if_pos his] at hl
        cases hp : lp_pl K W f 1 t with
        | none => rw [hp] at hl; cases hl
        | some pr =>
          obtain ⟨t1, c1⟩ := pr
          rw [hp] at hl
          (try dsimp only at hl)
          by_cases hw : K t1 = 5 ∧ W t1 = 47 ∧ K (t1 + 1) = 3 ∧ W (t1 + 1) ≤ 64
          · rw [if_pos hw] at hl
            have hn : au_bn (K t1) (W t1) = 0 := by rw [hw.1, hw.2.1]; (first | decide | (simp; done) | (simp [ms_0]; done))
            have hr := (hg (t1 + 1)).1 hw.2.2.1
            have h := P_n h hl3
            obtain ⟨v4, n4, sl4, SH4, FI4, FL4, FR4, hpl, h⟩ := h
            have lc1 : c1.length ≤ 60000 := by
              by_cases h44 : K (t1 + 2) = 5 ∧ W (t1 + 2) = 44
              · rw [if_pos h44] at hl
                cases hq : lp_pt K W f g2 (m + 1) (t1 + 3) with
                | none => rw [hq] at hl; cases hl
                | some p2 =>
                  obtain ⟨t3, c3⟩ := p2
                  rw [hq] at hl
                  cases hl
                  rw [List.length_append] at hlen
                  omega
              · rw [if_neg h44] at hl
                by_cases h125 : K (t1 + 2) = 5 ∧ W (t1 + 2) = 125
                · rw [if_pos h125] at hl
                  cases hl
                  rw [List.length_append] at hlen
                  omega
                · rw [if_neg h125] at hl; cases hl
            obtain ⟨p1, p2, k, H, p3, F4, L4, p4, p5, p6, p7, p8, p9, p10⟩ := mo_place hS hK hT hg hf htk hE h92 ht ha hl2 his.2 his.1 hp lc1 hn hpl
            first | (obtain ⟨zz1, zz2, zz3, zz4, zz5, zz6⟩ := st_c p4; (try subst zz1); (try subst zz2); (try subst zz3); (try subst zz4); (try subst zz5); (try subst zz6)) | cases p4
            have ht1 := lt_T hK p2 (by omega)
            have ht2 := lt_T hK ht1 (by omega)
            have htk4 := mt_m9 htk p5
            have q92 : (F4 121 92 + (1 : Int32)).toInt = ((t1 + 1 : Nat) : Int) := by
              rw [i_add p7 (by first | decide | (simp; done) | (simp [ms_0]; done) : ((1 : Int32)).toInt = 1) (by omega) (by omega)]
              omega
            have q93 : ((F4 121 92 + (1 : Int32)) + (1 : Int32)).toInt = ((t1 + 2 : Nat) : Int) := by
              rw [i_add q92 (by first | decide | (simp; done) | (simp [ms_0]; done) : ((1 : Int32)).toInt = 1) (by omega) (by omega)]
              omega
            have q94 : (((F4 121 92 + (1 : Int32)) + (1 : Int32)) + (1 : Int32)).toInt = ((t1 + 3 : Nat) : Int) := by
              rw [i_add q93 (by first | decide | (simp; done) | (simp [ms_0]; done) : ((1 : Int32)).toInt = 1) (by omega) (by omega)]
              omega
            have nl2 : (l2 + (1 : Int32)).toInt = ((m + 1 : Nat) : Int) := by
              rw [i_add hl2 (by first | decide | (simp; done) | (simp [ms_0]; done) : ((1 : Int32)).toInt = 1) (by omega) (by omega)]
              omega
            have hz1 : mp E fb c1 k H ∧ 0 ≤ W (t1 + 1) ∧ W (t1 + 1) ≤ 64 := ⟨p3, hr.1, hw.2.2.2⟩
            -- behind the width: FB
            have step : ∀ FB : Nat → Nat → Int32, m9 F4 L4 FB L4 → FB 121 92 = F4 121 92 + (1 : Int32) → FB 121 93 = F4 121 93 → FB 169 = F4 169 → FB 172 = F4 172 → FB 121 94 = F4 121 94 → FB 121 95 = F4 121 95 → (∀ j, j ≠ m → FB 171 j = F4 171 j) → (on = false → FB 171 = F4 171) → (on = true → (FB 171 m).toInt = 8 * W (t1 + 1)) → RX12_meantLocation_73 (GX12_meantLocation_30 a1 g) a1 l2 n sl SH FB L4 FR u st → t < t2 ∧ t2 ≤ T ∧ ∃ Z : List mZ, Z ≠ [] ∧ Z.length + m ≤ 8 ∧ mz_ok E fb Z ∧ c = mz_fl Z ∧ ∀ A : List ms_P, A.length = m → (on = true → (FI 121 93).toInt = 0 → lv (fun i p => pv FI FL i p) A) → lo_c n sl SH FI FL FR on t2 st (mz_rs Z A) := by
              intro FB b9 b92 b93 b169 b172 b94 b95 b171 b171o b171n h
              have h : GX12_meantLocation_30 a1 g (l2 + (1 : Int32)) (fX12_keepsSign (44 : Int32) SH (h_up FB 121 92 (FB 121 92 + (1 : Int32))) L4 FR) n sl SH (h_up (h_up FB 121 92 (FB 121 92 + (1 : Int32))) 121 92 ((FB 121 92 + (1 : Int32)) + (1 : Int32))) L4 FR u st := h
              rw [b92] at h
              have htkB : mtk K W T (h_up FB 121 92 ((F4 121 92 + (1 : Int32)) + (1 : Int32))) L4 := mt_m9 htk4 (m9_f b9 (by omega))
              obtain ⟨s1, s2⟩ := htkB (t1 + 2) ht2
              have sg := mo_sgn (SH := SH) (FR := FR) (A := 44) (a := (44 : Int32)) (by first | decide | (simp; done) | (simp [ms_0]; done)) (FI := h_up FB 121 92 ((F4 121 92 + (1 : Int32)) + (1 : Int32))) (FL := L4) (t := t1 + 2) (by rw [h_up_eq]; omega) s1 s2
              -- FC: where the next one begins
              have c9 : m9 F4 L4 (h_up (h_up FB 121 92 ((F4 121 92 + (1 : Int32)) + (1 : Int32))) 121 92 (((F4 121 92 + (1 : Int32)) + (1 : Int32)) + (1 : Int32))) L4 := m9_f (m9_f b9 (by omega)) (by omega)
              have c92 : ((h_up (h_up FB 121 92 ((F4 121 92 + (1 : Int32)) + (1 : Int32))) 121 92 (((F4 121 92 + (1 : Int32)) + (1 : Int32)) + (1 : Int32))) 121 92).toInt = ((t1 + 3 : Nat) : Int) := by rw [h_up_eq]; exact q94
              have cx : ∀ k, k ≠ 92 → (h_up (h_up FB 121 92 ((F4 121 92 + (1 : Int32)) + (1 : Int32))) 121 92 (((F4 121 92 + (1 : Int32)) + (1 : Int32)) + (1 : Int32))) 121 k = FB 121 k := fun k hk => by rw [h_up_ne hk, h_up_ne hk]
              have cc : ∀ c, c ≠ 121 → (h_up (h_up FB 121 92 ((F4 121 92 + (1 : Int32)) + (1 : Int32))) 121 92 (((F4 121 92 + (1 : Int32)) + (1 : Int32)) + (1 : Int32))) c = FB c := fun c hc => by rw [h_up_nc hc, h_up_nc hc]
              generalize h_up (h_up FB 121 92 ((F4 121 92 + (1 : Int32)) + (1 : Int32))) 121 92 (((F4 121 92 + (1 : Int32)) + (1 : Int32)) + (1 : Int32)) = FC at h c9 c92 cx cc
              have k93 : FC 121 93 = F4 121 93 := by rw [cx 93 (by first | decide | (simp; done) | (simp [ms_0]; done))]; exact b93
              have mD : mf m FI FL FC L4 → True := fun _ => trivial
              -- the parts up to here
              have parts : ∀ (A : List ms_P) (h0 : ms_H), H = .inr h0 → A.length = m → on = true → (FI 121 93).toInt = 0 → lv (fun i p => pv FI FL i p) A → lv (fun i p => pv FC L4 i p) ((h0, 8 * W (t1 + 1), 0) :: A) := by
                intro A h0 eH eA hon h9 hA
                have p10 := p10 hon h9
                rw [eH] at p10
                have p10 : (F4 121 93).toInt = 0 ∧ rm F4 L4 m h0 := p10
                refine ⟨⟨?_, ?_, rfl, by show 0 ≤ 8 * W (t1 + 1); omega, by show 8 * W (t1 + 1) ≤ 4096; omega⟩, lv_mono (fun i p hi _ hp => ?_) hA⟩
                · rw [eA]
                  exact rm_cg p10.2 (by rw [cc 169 (by first | decide | (simp; done) | (simp [ms_0]; done))]; exact b169) rfl (by rw [cc 172 (by first | decide | (simp; done) | (simp [ms_0]; done))]; exact b172)
                · rw [eA, cc 171 (by first | decide | (simp; done) | (simp [ms_0]; done))]
                  exact b171n hon
                · have := pv_fr hp p6 (by omega : i ≠ m)
                  refine ⟨rm_cg this.1 (by rw [cc 169 (by first | decide | (simp; done) | (simp [ms_0]; done))]; exact b169) rfl (by rw [cc 172 (by first | decide | (simp; done) | (simp [ms_0]; done))]; exact b172), ?_, this.2.2⟩
                  rw [cc 171 (by first | decide | (simp; done) | (simp [ms_0]; done)), b171 i (by omega)]
                  exact this.2.1
              have off : on = false → FC 169 = FI 169 ∧ L4 170 = FL 170 ∧ FC 171 = FI 171 ∧ FC 172 = FI 172 ∧ FC 121 94 = FI 121 94 ∧ FC 121 95 = FI 121 95 := by
                intro hof
                obtain ⟨o1, o2, o3⟩ := p8 hof
                refine ⟨?_, o2, ?_, ?_, ?_, ?_⟩
                · rw [cc 169 (by first | decide | (simp; done) | (simp [ms_0]; done)), b169, o1]
                · rw [cc 171 (by first | decide | (simp; done) | (simp [ms_0]; done)), b171o hof, p6.2.2.1]
                · rw [cc 172 (by first | decide | (simp; done) | (simp [ms_0]; done)), b172, o3]
                · rw [cx 94 (by first | decide | (simp; done) | (simp [ms_0]; done)), b94, p6.2.2.2.1]
                · rw [cx 95 (by first | decide | (simp; done) | (simp [ms_0]; done)), b95, p6.2.2.2.2]
              by_cases h44 : K (t1 + 2) = 5 ∧ W (t1 + 2) = 44
              · rw [if_pos h44] at hl
                cases hq : lp_pt K W f g2 (m + 1) (t1 + 3) with
                | none => rw [hq] at hl; cases hl
                | some p2' =>
                  obtain ⟨t3, c3⟩ := p2'
                  rw [hq] at hl
                  cases hl
                  have ht3 := lt_T hK ht2 (by show K (t1 + 2) ≠ 0; omega)
                  obtain ⟨r1, r2, Z, r3, r4, r5, r6, r7⟩ := ih g2 (m + 1) (t1 + 3) c3 t2 _ _ FC L4 (mt_m9 htk4 c9) (rE_m9 (rE_m9 hE p5) c9) c92 ht3 nl2 (fun e => sg.mp e h44) hq (by simp only [List.length_append, List.length_cons] at hlen; omega) h
                  refine ⟨by omega, r2, (c1, k, W (t1 + 1), H) :: Z, (fun e => by cases e), by simp only [List.length_cons]; omega, ?_, by rw [r6]; rfl, fun A eA hA => ?_⟩
                  · intro z hz
                    rcases List.mem_cons.mp hz with hz | hz
                    · rw [hz]; exact hz1
                    · exact r5 z hz
                  · -- the rest of the parts
                    by_cases hd : on = true ∧ (FI 121 93).toInt = 0
                    · cases hH : H with
                      | inl e =>
                        have p10' := p10 hd.1 hd.2
                        rw [hH] at p10'
                        have p10' : (F4 121 93).toInt = e ∧ e ≠ 0 := p10'
                        obtain ⟨F5, L5, s1, s2, s3, s4, s5, s6⟩ := r7 ((ms_0, 0, 0) :: A) (by simp only [List.length_cons]; omega) (fun _ h0 => by rw [k93, p10'.1] at h0; exact absurd h0 p10'.2)
                        refine ⟨F5, L5, s1, m9_tr p5 (m9_tr c9 s2), s3, fun hof => (by rw [hd.1] at hof; cases hof), fun hn => absurd hd hn, fun _ _ => ?_⟩
                        have e5 := s5 (fun e9 => by rw [k93, p10'.1] at e9; exact p10'.2 e9.2)
                        show (F5 121 93).toInt = e ∧ e ≠ 0
                        rw [e5, k93]
                        exact p10'
                      | inr h0 =>
                        have p10' := p10 hd.1 hd.2
                        rw [hH] at p10'
                        have p10' : (F4 121 93).toInt = 0 ∧ rm F4 L4 m h0 := p10'
                        obtain ⟨F5, L5, s1, s2, s3, s4, s5, s6⟩ := r7 ((h0, 8 * W (t1 + 1), 0) :: A) (by simp only [List.length_cons]; omega) (fun hon _ => parts A h0 hH eA hon hd.2 (hA hon hd.2))
                        exact ⟨F5, L5, s1, m9_tr p5 (m9_tr c9 s2), s3, fun hof => (by rw [hd.1] at hof; cases hof), fun hn => absurd hd hn, fun _ _ => s6 hd.1 (by rw [k93]; exact p10'.1)⟩
                    · have e4 := p9 hd
                      obtain ⟨F5, L5, s1, s2, s3, s4, s5, s6⟩ := r7 ((ms_0, 0, 0) :: A) (by simp only [List.length_cons]; omega) (fun hon h0 => absurd ⟨hon, by rw [k93, e4] at h0; exact h0⟩ hd)
                      refine ⟨F5, L5, s1, m9_tr p5 (m9_tr c9 s2), s3, fun hof => ?_, fun _ => ?_, fun hon h0 => absurd ⟨hon, h0⟩ hd⟩
                      · obtain ⟨o1, o2, o3, o4, o5, o6⟩ := off hof
                        obtain ⟨w1, w2, w3, w4, w5, w6⟩ := s4 hof
                        exact ⟨w1.trans o1, w2.trans o2, w3.trans o3, w4.trans o4, w5.trans o5, w6.trans o6⟩
                      · rw [s5 (fun e9 => hd ⟨e9.1, by rw [k93, e4] at e9; exact e9.2⟩), k93, e4]
              · rw [if_neg h44] at hl
                by_cases h125 : K (t1 + 2) = 5 ∧ W (t1 + 2) = 125
                · rw [if_pos h125] at hl
                  cases hl
                  have ht3 := lt_T hK ht2 (by show K (t1 + 2) ≠ 0; omega)
                  have hz0 := sg.mpr h44
                  refine ⟨by omega, ht3, [(c1, k, W (t1 + 1), H)], (fun e => by cases e), by simp only [List.length_cons, List.length_nil]; omega, ?_, by show _ = c1 ++ 147 :: (lc_u 9 (W (t1 + 1)) ++ []); rw [List.append_nil], fun A eA hA => ?_⟩
                  · intro z hz
                    rw [List.mem_singleton.mp hz]
                    exact hz1
                  · cases g with
                    | zero => exact h.elim
                    | succ g =>
                      have h := P_p h hz0
                      rcases h with ⟨o0, -, e⟩ | ⟨o0, -, e⟩
                      · have hof := (bi_t ha).mp o0
                        refine ⟨FC, L4, e, m9_tr p5 c9, c92, off, fun hn => by rw [k93]; exact p9 hn, fun hon => by rw [hof] at hon; cases hon⟩
                      · have hon : on = true := by
                          cases on with
                          | true => rfl
                          | false => exact absurd ((bi_t ha).mpr rfl) o0
                        have d93 : (h_up (h_up FC 121 94 (l2 + (1 : Int32))) 121 95 (1 : Int32)) 121 93 = F4 121 93 := by rw [h_up_x (by first | decide | (simp; done) | (simp [ms_0]; done)), h_up_x (by first | decide | (simp; done) | (simp [ms_0]; done))]; exact k93
                        refine ⟨_, L4, e, m9_f (m9_f (m9_tr p5 c9) (by omega)) (by omega), by rw [h_up_x (by first | decide | (simp; done) | (simp [ms_0]; done)), h_up_x (by first | decide | (simp; done) | (simp [ms_0]; done))]; exact c92, fun hof => (by rw [hon] at hof; cases hof), fun hn => by rw [d93]; exact p9 hn, fun _ h9 => ?_⟩
                        have p10' := p10 hon h9
                        cases hH : H with
                        | inl e9 =>
                          rw [hH] at p10'
                          have p10' : (F4 121 93).toInt = e9 ∧ e9 ≠ 0 := p10'
                          show (_ : Int32).toInt = e9 ∧ e9 ≠ 0
                          rw [d93]
                          exact p10'
                        | inr h0 =>
                          rw [hH] at p10'
                          have p10' : (F4 121 93).toInt = 0 ∧ rm F4 L4 m h0 := p10'
                          have pp := parts A h0 hH eA hon h9 (hA hon h9)
                          refine ⟨by rw [d93]; exact p10'.1, ?_, ?_, ?_, ?_, lv_mono (fun i p _ _ hp => ⟨rm_cg hp.1 (by rw [h_up_nc (by first | decide | (simp; done) | (simp [ms_0]; done)), h_up_nc (by first | decide | (simp; done) | (simp [ms_0]; done))]) rfl (by rw [h_up_nc (by first | decide | (simp; done) | (simp [ms_0]; done)), h_up_nc (by first | decide | (simp; done) | (simp [ms_0]; done))]), by rw [h_up_nc (by first | decide | (simp; done) | (simp [ms_0]; done)), h_up_nc (by first | decide | (simp; done) | (simp [ms_0]; done))]; exact hp.2.1, hp.2.2⟩) pp⟩
                          · rw [h_up_x (by first | decide | (simp; done) | (simp [ms_0]; done)), h_up_eq, nl2]
                            show ((m + 1 : Nat) : Int) = (((h0, 8 * W (t1 + 1), 0) :: A).length : Int)
                            rw [List.length_cons, eA]
                          · rw [h_up_eq]
                            exact ⟨fun e => absurd e (by first | decide | (simp; done) | (simp [ms_0]; done)), fun e => by cases e⟩
                          · show 1 ≤ ((h0, 8 * W (t1 + 1), 0) :: A).length ∧ ((h0, 8 * W (t1 + 1), 0) :: A).length ≤ 8
                            rw [List.length_cons, eA]
                            omega
                          · intro e
                            cases e
                · rw [if_neg h125] at hl; cases hl
            rcases h with ⟨o0, h⟩ | ⟨o0, -, -, h⟩
            · have hof := (bi_t ha).mp o0
              exact step _ (m9_f m9_rf (by omega)) h_up_eq (h_up_x (by first | decide | (simp; done) | (simp [ms_0]; done))) (h_up_nc (by first | decide | (simp; done) | (simp [ms_0]; done))) (h_up_nc (by first | decide | (simp; done) | (simp [ms_0]; done))) (h_up_x (by first | decide | (simp; done) | (simp [ms_0]; done))) (h_up_x (by first | decide | (simp; done) | (simp [ms_0]; done))) (fun j _ => by rw [h_up_nc (by first | decide | (simp; done) | (simp [ms_0]; done))]) (fun _ => h_up_nc (by first | decide | (simp; done) | (simp [ms_0]; done))) (fun hon => by rw [hof] at hon; cases hon) h
            · rw [show l2.toInt.toNat = m by omega, show (F4 121 92 + (1 : Int32)).toInt.toNat = t1 + 1 by omega] at h
              refine step _ (m9_i (m9_f m9_rf (by omega)) (by omega)) (by rw [h_up_nc (by first | decide | (simp; done) | (simp [ms_0]; done)), h_up_eq]) (by rw [h_up_nc (by first | decide | (simp; done) | (simp [ms_0]; done)), h_up_x (by first | decide | (simp; done) | (simp [ms_0]; done))]) (by rw [h_up_nc (by first | decide | (simp; done) | (simp [ms_0]; done)), h_up_nc (by first | decide | (simp; done) | (simp [ms_0]; done))]) (by rw [h_up_nc (by first | decide | (simp; done) | (simp [ms_0]; done)), h_up_nc (by first | decide | (simp; done) | (simp [ms_0]; done))]) (by rw [h_up_nc (by first | decide | (simp; done) | (simp [ms_0]; done)), h_up_x (by first | decide | (simp; done) | (simp [ms_0]; done))]) (by rw [h_up_nc (by first | decide | (simp; done) | (simp [ms_0]; done)), h_up_x (by first | decide | (simp; done) | (simp [ms_0]; done))]) (fun j hj => by rw [h_up_ne hj, h_up_nc (by first | decide | (simp; done) | (simp [ms_0]; done))]) (fun hof => absurd ((bi_t ha).mpr hof) o0) (fun _ => ?_) h
              rw [h_up_eq, i_mul (by first | decide | (simp; done) | (simp [ms_0]; done) : ((8 : Int32)).toInt = 8) (l_2i (htk4 (t1 + 1) ht1).2 (by omega) (by omega)) (by omega) (by omega)]
          · rw [if_neg hw] at hl; cases hl
      · rw [if_neg his] at hl; cases hl
theorem mo_location {a1 : Int32} {on : Bool} {f t t1 : Nat} {c : List Int} {FI : Nat → Nat → Int32} {FL : Nat → Nat → Int64} (hS : h_S n SH) (hK : K T = 0) (hT : T ≤ 1001) (hg : tk_rg K W) (hf : xfq E fb) (ha : a1 = bi on) (htk : mtk K W T FI FL) (hE : rE FI FL SH E) (h92 : (FI 121 92).toInt = t) (ht : t ≤ T) (h94 : (FI 121 94).toInt = 1) (h95 : (FI 121 95).toInt = 0) (h171 : (FI 171 0).toInt = 0) (hl : lp_lc K W f t = some (t1, c)) (hlen : c.length ≤ 60000) (hn : au_bn (K t1) (W t1) = 0) (h : RX12_meantLocation a1 n sl SH FI FL FR u st) : t < t1 ∧ t1 ≤ T ∧ ∃ r, mloc E fb c r ∧ lo_c n sl SH FI FL FR on t1 st r := by
  have et : (FI 121 92).toInt.toNat = t := by omega
  obtain ⟨k1, k2⟩ := htk t ht
  unfold lp_lc at hl
  rcases h with ⟨h0, h⟩ | ⟨h0, h⟩
  · rw [mo_sgn (A := 123) (by first | decide | (simp; done) | (simp [ms_0]; done)) et k1 k2] at h0
    rw [if_neg h0] at hl
    by_cases his : lp_is (K t) (W t) = true
    · rw [if_pos his] at hl
      obtain ⟨v2, n2, sl2, SH2, FI2, FL2, FR2, hp, -, e⟩ := h
      obtain ⟨p1, p2, k, H, p3, F4, L4, p4, p5, p6, p7, p8, p9, p10⟩ := mo_place hS hK hT hg hf htk hE h92 ht ha (i := 0) (by first | decide | (simp; done) | (simp [ms_0]; done)) (by first | decide | (simp; done) | (simp [ms_0]; done)) his hl hlen hn hp
      first | (obtain ⟨zz1, zz2, zz3, zz4, zz5, zz6⟩ := st_c p4; (try subst zz1); (try subst zz2); (try subst zz3); (try subst zz4); (try subst zz5); (try subst zz6)) | cases p4
      refine ⟨p1, p2, mz_1 H, Or.inl ⟨k, H, p3, rfl⟩, F4, L4, e, p5, p7, fun hof => ⟨(p8 hof).1, (p8 hof).2.1, p6.2.2.1, (p8 hof).2.2, p6.2.2.2.1, p6.2.2.2.2⟩, p9, fun hon h9 => ?_⟩
      have p10 := p10 hon h9
      match H, p10 with
      | .inl e9, p10 => exact p10
      | .inr h9', p10 =>
        refine ⟨p10.1, by rw [p6.2.2.2.1]; exact h94, ⟨fun _ => rfl, fun _ => by rw [p6.2.2.2.2]; exact h95⟩, by first | decide | (simp; done) | (simp [ms_0]; done), fun _ => rfl, ⟨p10.2, by show (F4 171 0).toInt = 0; rw [p6.2.2.1]; exact h171, rfl, by show (0 : Int) ≤ 0; (first | decide | (simp; done) | (simp [ms_0]; done)), by show (0 : Int) ≤ 4096; (first | decide | (simp; done) | (simp [ms_0]; done))⟩, trivial⟩
    · rw [if_neg his] at hl; cases hl
  · have h0 : K t = 5 ∧ W t = 123 := Classical.byContradiction (fun e => h0 ((mo_sgn (A := 123) (by first | decide | (simp; done) | (simp [ms_0]; done)) et k1 k2).mpr e))
    rw [if_pos h0] at hl
    have ht1 := lt_T hK ht (by omega)
    obtain ⟨g, h⟩ := h
    have n92 : ((h_up FI 121 92 (FI 121 92 + (1 : Int32))) 121 92).toInt = ((t + 1 : Nat) : Int) := by
      rw [h_up_eq, i_add h92 (by first | decide | (simp; done) | (simp [ms_0]; done) : ((1 : Int32)).toInt = 1) (by omega) (by omega)]
      omega
    have kA : mk FI FL (h_up FI 121 92 (FI 121 92 + (1 : Int32))) FL := mk_f mk_rf (by omega)
    obtain ⟨r1, r2, Z, r3, r4, r5, r6, r7⟩ := mo_30 hS hK hT hg hf ha g 20 0 (t + 1) c t1 0 1 _ FL (mt_mk htk kA) (rE_mk hE kA) n92 ht1 (by first | decide | (simp; done) | (simp [ms_0]; done)) (by first | decide | (simp; done) | (simp [ms_0]; done)) hl hlen h
    obtain ⟨F5, L5, s1, s2, s3, s4, s5, s6⟩ := r7 [] rfl (fun _ _ => trivial)
    have e93 : (h_up FI 121 92 (FI 121 92 + (1 : Int32))) 121 93 = FI 121 93 := h_up_x (by first | decide | (simp; done) | (simp [ms_0]; done))
    rw [e93] at s5 s6
    refine ⟨by omega, r2, mz_rs Z [], Or.inr ⟨Z, r3, by omega, r5, r6, rfl⟩, F5, L5, s1, m9_tr (m9_mk kA) s2, s3, fun hof => ?_, s5, s6⟩
    obtain ⟨w1, w2, w3, w4, w5, w6⟩ := s4 hof
    exact ⟨by rw [w1, h_up_nc (by first | decide | (simp; done) | (simp [ms_0]; done))], w2, by rw [w3, h_up_nc (by first | decide | (simp; done) | (simp [ms_0]; done))], by rw [w4, h_up_nc (by first | decide | (simp; done) | (simp [ms_0]; done))], by rw [w5, h_up_x (by first | decide | (simp; done) | (simp [ms_0]; done))], by rw [w6, h_up_x (by first | decide | (simp; done) | (simp [ms_0]; done))]⟩
end ML
