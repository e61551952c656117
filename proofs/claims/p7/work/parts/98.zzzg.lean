section
/-! THE REFERENCE'S MEANINGS: places. -/
def m9 (FI : Nat → Nat → Int32) (FL : Nat → Nat → Int64) (F2 : Nat → Nat → Int32) (L2 : Nat → Nat → Int64) : Prop := (∀ c, (c < 121 ∨ (121 < c ∧ c < 127) ∨ (142 < c ∧ c < 165) ∨ c = 167 ∨ c = 168 ∨ 175 < c) → F2 c = FI c ∧ L2 c = FL c) ∧ (∀ k, (k < 29 ∨ (44 < k ∧ k < 90) ∨ (95 < k ∧ k < 101) ∨ (101 < k ∧ k < 104) ∨ 104 < k) → F2 121 k = FI 121 k ∧ L2 121 k = FL 121 k)
/-- a place's rows -/
def rm (FI : Nat → Nat → Int32) (FL : Nat → Nat → Int64) (i : Nat) (H : ms_H) : Prop := (FI 169 i).toInt = H.1 ∧ FL 170 i = H.2.1 ∧ ms_ok H ∧ H.2.2.length ≤ 64 ∧ ∀ k b, H.2.2[k]? = some b → FI 172 (64 * i + k) = b ∧ 0 ≤ b.toInt ∧ b.toInt ≤ 255
/-- those of other places stay -/
def mf (i : Nat) (FI : Nat → Nat → Int32) (FL : Nat → Nat → Int64) (F2 : Nat → Nat → Int32) (L2 : Nat → Nat → Int64) : Prop := (∀ j, j ≠ i → F2 169 j = FI 169 j ∧ L2 170 j = FL 170 j) ∧ (∀ m, m < 64 * i ∨ 64 * i + 64 ≤ m → F2 172 m = FI 172 m) ∧ F2 171 = FI 171 ∧ F2 121 94 = FI 121 94 ∧ F2 121 95 = FI 121 95
section M9
variable {n sl : Nat} {SH : Nat → Nat × Nat} {FI F2 F3 : Nat → Nat → Int32} {FL L2 L3 : Nat → Nat → Int64} {FR : Nat → Nat → Option Nat} {st : hS} {E : ms_E} {fb : xX} {u : Unit} {K W : Nat → Int} {T t i : Nat}
theorem m9_mk (h : mk FI FL F2 L2) : m9 FI FL F2 L2 := ⟨fun c hc => h.1 c (by omega), fun k hk => h.2 k (by omega)⟩
theorem m9_rf : m9 FI FL FI FL := m9_mk mk_rf
theorem m9_tr (h : m9 FI FL F2 L2) (g : m9 F2 L2 F3 L3) : m9 FI FL F3 L3 := ⟨fun c hc => ⟨(g.1 c hc).1.trans (h.1 c hc).1, (g.1 c hc).2.trans (h.1 c hc).2⟩, fun k hk => ⟨(g.2 k hk).1.trans (h.2 k hk).1, (g.2 k hk).2.trans (h.2 k hk).2⟩⟩
theorem m9_f {k : Nat} {x : Int32} (h : m9 FI FL F2 L2) (hk : (90 ≤ k ∧ k ≤ 95) ∨ k = 101 ∨ k = 104 ∨ (29 ≤ k ∧ k ≤ 44)) : m9 FI FL (h_up F2 121 k x) L2 := ⟨fun c hc => ⟨by rw [h_up_nc (by omega)]; exact (h.1 c hc).1, (h.1 c hc).2⟩, fun j hj => ⟨by rw [h_up_x (by omega)]; exact (h.2 j hj).1, (h.2 j hj).2⟩⟩
theorem m9_i {c k : Nat} {x : Int32} (h : m9 FI FL F2 L2) (hc : (165 ≤ c ∧ c ≤ 166) ∨ (169 ≤ c ∧ c ≤ 175)) : m9 FI FL (h_up F2 c k x) L2 := ⟨fun d hd => ⟨by rw [h_up_nc (by omega)]; exact (h.1 d hd).1, (h.1 d hd).2⟩, fun j hj => ⟨by rw [h_up_x (by omega)]; exact (h.2 j hj).1, (h.2 j hj).2⟩⟩
theorem m9_l {c k : Nat} {x : Int64} (h : m9 FI FL F2 L2) (hc : (165 ≤ c ∧ c ≤ 166) ∨ (169 ≤ c ∧ c ≤ 175)) : m9 FI FL F2 (h_up L2 c k x) := ⟨fun d hd => ⟨(h.1 d hd).1, by rw [h_up_nc (by omega)]; exact (h.1 d hd).2⟩, fun j hj => ⟨(h.2 j hj).1, by rw [h_up_x (by omega)]; exact (h.2 j hj).2⟩⟩
theorem rE_m9 (h : rE FI FL SH E) (g : m9 FI FL F2 L2) : rE F2 L2 SH E := rE_fr h (g.1 123 (by omega)).1 (g.1 124 (by omega)).1 (g.1 125 (by omega)).1 (fun k hk => (g.2 k (Or.inl hk)).1) (fun k hk => (g.2 k (Or.inl hk)).2) (g.1 122 (by omega)).2
theorem mt_m9 (h : mtk K W T FI FL) (g : m9 FI FL F2 L2) : mtk K W T F2 L2 := fun i hi => by
  rw [(g.1 152 (by omega)).1, (g.1 153 (by omega)).2]
  exact h i hi
theorem mf_mk (h : mk FI FL F2 L2) : mf i FI FL F2 L2 := ⟨fun j _ => ⟨by rw [(h.1 169 (by omega)).1], by rw [(h.1 170 (by omega)).2]⟩, fun m _ => by rw [(h.1 172 (by omega)).1], (h.1 171 (by omega)).1, (h.2 94 (by omega)).1, (h.2 95 (by omega)).1⟩
theorem mf_tr (h : mf i FI FL F2 L2) (g : mf i F2 L2 F3 L3) : mf i FI FL F3 L3 := ⟨fun j hj => ⟨(g.1 j hj).1.trans (h.1 j hj).1, (g.1 j hj).2.trans (h.1 j hj).2⟩, fun m hm => (g.2.1 m hm).trans (h.2.1 m hm), g.2.2.1.trans h.2.2.1, g.2.2.2.1.trans h.2.2.2.1, g.2.2.2.2.trans h.2.2.2.2⟩
theorem rm_fr {j : Nat} {H : ms_H} (h : rm FI FL j H) (g : mf i FI FL F2 L2) (hj : j ≠ i) : rm F2 L2 j H := by
  obtain ⟨h1, h2, h3, h4, h5⟩ := h
  refine ⟨by rw [(g.1 j hj).1]; exact h1, by rw [(g.1 j hj).2]; exact h2, h3, h4, fun k b hk => ?_⟩
  have hl := (List.getElem?_eq_some_iff.mp hk).1
  rw [g.2.1 (64 * j + k) (by omega)]
  exact h5 k b hk
/-- what a place leaves -/
def pl_c (n sl : Nat) (SH : Nat → Nat × Nat) (FI : Nat → Nat → Int32) (FL : Nat → Nat → Int64) (FR : Nat → Nat → Option Nat) (on : Bool) (i t1 : Nat) (st : hS) (H : Int ⊕ ms_H) : Prop := ∃ F2 L2, st = (n, sl, SH, F2, L2, FR) ∧ m9 FI FL F2 L2 ∧ mf i FI FL F2 L2 ∧ (F2 121 92).toInt = t1 ∧ (on = false → F2 169 = FI 169 ∧ L2 170 = FL 170 ∧ F2 172 = FI 172) ∧ (¬ (on = true ∧ (FI 121 93).toInt = 0) → F2 121 93 = FI 121 93) ∧ (on = true → (FI 121 93).toInt = 0 → match H with
  | .inl e => (F2 121 93).toInt = e ∧ e ≠ 0
  | .inr h => (F2 121 93).toInt = 0 ∧ rm F2 L2 i h)
theorem bi_t {a1 : Int32} {on : Bool} (h : a1 = bi on) : a1.toInt = 0 ↔ on = false := by
  rw [h]
  exact bi_0
/-- the end of meantPlace -/
theorem mo_184 {a1 a2 l3 : Int32} {l4 : Int64} {on : Bool} {t1 : Nat} {H : Int ⊕ ms_H} {F1 : Nat → Nat → Int32} {L1 : Nat → Nat → Int64} (ha : a1 = bi on) (h2 : a2.toInt = i) (k9 : m9 FI FL F1 L1) (kf : mf i FI FL F1 L1) (h92 : (F1 121 92).toInt = t1) (ho : on = false → F1 169 = FI 169 ∧ L1 170 = FL 170 ∧ F1 172 = FI 172) (h93 : ¬ (on = true ∧ (FI 121 93).toInt = 0) → F1 121 93 = FI 121 93) (hH : on = true → (FI 121 93).toInt = 0 → match H with
    | .inl e => (F1 121 93).toInt = e ∧ e ≠ 0
    | .inr h => (F1 121 93).toInt = 0 ∧ l3.toInt = h.1 ∧ l4 = h.2.1 ∧ ms_ok h ∧ h.2.2.length ≤ 64 ∧ ∀ k b, h.2.2[k]? = some b → F1 172 (64 * i + k) = b ∧ 0 ≤ b.toInt ∧ b.toInt ≤ 255) (h : RX12_meantPlace_184 a1 a2 l3 l4 n sl SH F1 L1 FR u st) : pl_c n sl SH FI FL FR on i t1 st H := by
  rcases h with ⟨h0, -, e⟩ | ⟨h0, -, -, -, e⟩
  · have hof := (bi_t ha).mp h0
    exact ⟨F1, L1, e, k9, kf, h92, ho, h93, fun hon => by rw [hof] at hon; cases hon⟩
  · rw [show a2.toInt.toNat = i by omega] at e
    refine ⟨_, _, e, m9_l (m9_i k9 (by omega)) (by omega), ⟨fun j hj => ⟨?_, ?_⟩, fun m hm => ?_, ?_, ?_, ?_⟩, ?_, fun hof => ?_, fun hn => ?_, fun hon h9 => ?_⟩
    · rw [h_up_ne hj]; exact (kf.1 j hj).1
    · rw [h_up_ne hj]; exact (kf.1 j hj).2
    · rw [h_up_nc (by first | decide | (simp; done) | (simp [ms_0]; done))]; exact kf.2.1 m hm
    · rw [h_up_nc (by first | decide | (simp; done) | (simp [ms_0]; done))]; exact kf.2.2.1
    · rw [h_up_nc (by first | decide | (simp; done) | (simp [ms_0]; done))]; exact kf.2.2.2.1
    · rw [h_up_nc (by first | decide | (simp; done) | (simp [ms_0]; done))]; exact kf.2.2.2.2
    · rw [h_up_nc (by first | decide | (simp; done) | (simp [ms_0]; done))]; exact h92
    · exact absurd ((bi_t ha).mpr hof) h0
    · rw [h_up_nc (by first | decide | (simp; done) | (simp [ms_0]; done))]; exact h93 hn
    · have hH := hH hon h9
      match H, hH with
      | .inl e9, hH => exact ⟨by rw [h_up_nc (by first | decide | (simp; done) | (simp [ms_0]; done))]; exact hH.1, hH.2⟩
      | .inr h9, ⟨q1, q2, q3, q4, q5, q6⟩ =>
        refine ⟨by rw [h_up_nc (by first | decide | (simp; done) | (simp [ms_0]; done))]; exact q1, ?_, ?_, q4, q5, fun k b hk => ?_⟩
        · rw [h_up_eq]; exact q2
        · rw [h_up_eq]; exact q3
        · rw [h_up_nc (by first | decide | (simp; done) | (simp [ms_0]; done))]; exact q6 k b hk
/-- the bytes of a block -/
theorem mo_125 {a1 a2 : Int32} {on : Bool} (ha : a1 = bi on) (h2 : a2.toInt = i) (hi : i < 8) (hg : tk_rg K W) (hK : K T = 0) (hT : T ≤ 1001) : ∀ (g f m t : Nat) (bs : List Int) (t1 : Nat) (l3 : Int32) (l4 : Int64) (FI : Nat → Nat → Int32), mtk K W T FI FL → (FI 121 92).toInt = t → t ≤ T → l4.toInt = m → m ≤ 64 → lp_bl K W f m t = some (t1, bs) → GX12_meantPlace_125 a1 a2 g l3 l4 n sl SH FI FL FR u st → t ≤ t1 ∧ t1 ≤ T ∧ m + bs.length ≤ 64 ∧ (∀ b, b ∈ bs → 0 ≤ b ∧ b ≤ 255) ∧ ∃ F1 l5, l5.toInt = ((m + bs.length : Nat) : Int) ∧ RX12_meantPlace_184 a1 a2 l3 l5 n sl SH F1 FL FR u st ∧ (∀ c, c ≠ 121 → c ≠ 172 → F1 c = FI c) ∧ (∀ k, k ≠ 92 → F1 121 k = FI 121 k) ∧ (F1 121 92).toInt = t1 ∧ (∀ x, x < 64 * i + m ∨ 64 * i + 64 ≤ x → F1 172 x = FI 172 x) ∧ (on = false → F1 172 = FI 172) ∧ (on = true → ∀ k b, bs[k]? = some b → (F1 172 (64 * i + m + k)).toInt = b) := by
  have c3 : ((3 : Int32)).toInt = 3 := by first | decide | (simp; done) | (simp [ms_0]; done)
  intro g
  induction g with
  | zero => intro f m t bs t1 l3 l4 FI _ _ _ _ _ _ h; exact h.elim
  | succ g ih =>
    intro f m t bs t1 l3 l4 FI htk h92 ht hl4 hm hl h
    cases f with
    | zero => cases hl
    | succ f =>
      rw [lp_bl] at hl
      obtain ⟨k1, k2⟩ := htk t ht
      have et : (FI 121 92).toInt.toNat = t := by omega
      obtain ⟨-, h⟩ := h
      rw [et, k1, c3] at h
      rcases h with ⟨h3, h⟩ | ⟨h3, h⟩
      · rw [if_pos h3] at hl
        by_cases h255 : 255 < W t
        · rw [if_pos h255] at hl; cases hl
        rw [if_neg h255] at hl
        by_cases h64 : m = 64
        · rw [if_pos h64] at hl; cases hl
        rw [if_neg h64] at hl
        cases hb : lp_bl K W f (m + 1) (t + 1) with
        | none => rw [hb] at hl; cases hl
        | some p =>
          obtain ⟨t2, b2⟩ := p
          rw [hb] at hl
          cases hl
          have ht1 := lt_T hK ht (by rw [h3]; (first | decide | (simp; done) | (simp [ms_0]; done)))
          have hr := (hg t).1 h3
          have n92 : (FI 121 92 + (1 : Int32)).toInt = ((t + 1 : Nat) : Int) := by
            rw [i_add h92 (by first | decide | (simp; done) | (simp [ms_0]; done) : ((1 : Int32)).toInt = 1) (by omega) (by omega)]
            omega
          have n4 : (l4 + (1 : Int64)).toInt = ((m + 1 : Nat) : Int) := by
            rw [l_add hl4 (by first | decide | (simp; done) | (simp [ms_0]; done) : ((1 : Int64)).toInt = 1) (by omega) (by omega)]
            omega
          have step : ∀ FA : Nat → Nat → Int32, (∀ c, c ≠ 172 → FA c = FI c) → (∀ x, x < 64 * i + m ∨ 64 * i + 64 ≤ x → FA 172 x = FI 172 x) → (on = false → FA 172 = FI 172) → (on = true → (FA 172 (64 * i + m)).toInt = W t) → GX12_meantPlace_125 a1 a2 g l3 (l4 + (1 : Int64)) n sl SH (h_up FA 121 92 (FA 121 92 + (1 : Int32))) FL FR u st → t ≤ t1 ∧ t1 ≤ T ∧ m + (W t :: b2).length ≤ 64 ∧ (∀ b, b ∈ W t :: b2 → 0 ≤ b ∧ b ≤ 255) ∧ ∃ F1 l5, l5.toInt = ((m + (W t :: b2).length : Nat) : Int) ∧ RX12_meantPlace_184 a1 a2 l3 l5 n sl SH F1 FL FR u st ∧ (∀ c, c ≠ 121 → c ≠ 172 → F1 c = FI c) ∧ (∀ k, k ≠ 92 → F1 121 k = FI 121 k) ∧ (F1 121 92).toInt = t1 ∧ (∀ x, x < 64 * i + m ∨ 64 * i + 64 ≤ x → F1 172 x = FI 172 x) ∧ (on = false → F1 172 = FI 172) ∧ (on = true → ∀ k b, (W t :: b2)[k]? = some b → (F1 172 (64 * i + m + k)).toInt = b) := by
            intro FA e1 e2 e3 e4 h
            have e121 : FA 121 = FI 121 := e1 121 (by first | decide | (simp; done) | (simp [ms_0]; done))
            obtain ⟨r1, r2, r3, r4, F1, l5, r5, r6, r7, r8, r9, r10, r11, r12⟩ := ih f (m + 1) (t + 1) b2 t1 l3 (l4 + (1 : Int64)) (h_up FA 121 92 (FA 121 92 + (1 : Int32))) (fun j hj => by rw [h_up_nc (by first | decide | (simp; done) | (simp [ms_0]; done)), e1 152 (by first | decide | (simp; done) | (simp [ms_0]; done))]; exact htk j hj) (by rw [h_up_eq, e121]; exact n92) ht1 n4 (by omega) hb h
            refine ⟨by omega, r2, by simp only [List.length_cons]; omega, fun b hb => ?_, F1, l5, by simp only [List.length_cons]; omega, r6, fun c c1 c2 => ?_, fun k hk => ?_, r9, fun x hx => ?_, fun hof => ?_, fun hon k b hk => ?_⟩
            · rcases List.mem_cons.mp hb with hb | hb
              · rw [hb]; omega
              · exact r4 b hb
            · rw [r7 c c1 c2, h_up_nc c1, e1 c c2]
            · rw [r8 k hk, h_up_ne hk, e121]
            · rw [r10 x (by omega), h_up_nc (by first | decide | (simp; done) | (simp [ms_0]; done)), e2 x hx]
            · rw [r11 hof, h_up_nc (by first | decide | (simp; done) | (simp [ms_0]; done)), e3 hof]
            · cases k with
              | zero =>
                have hk : W t = b := Option.some.inj hk
                rw [← hk, Nat.add_zero, r10 (64 * i + m) (by omega), h_up_nc (by first | decide | (simp; done) | (simp [ms_0]; done))]
                exact e4 hon
              | succ k =>
                have hk : b2[k]? = some b := hk
                rw [show 64 * i + m + (k + 1) = 64 * i + (m + 1) + k by omega]
                exact r12 hon k b hk
          rcases h with ⟨h0, h⟩ | ⟨h0, -, -, h⟩
          · have hof := (bi_t ha).mp h0
            exact step FI (fun _ _ => rfl) (fun _ _ => rfl) (fun _ => rfl) (fun hon => by rw [hof] at hon; cases hon) h
          · have ei : ((64 : Int32) * a2 + l4.toInt32).toInt = ((64 * i + m : Nat) : Int) := by
              rw [i_add (i_mul (by first | decide | (simp; done) | (simp [ms_0]; done) : ((64 : Int32)).toInt = 64) h2 (by omega) (by omega)) (l_2i hl4 (by omega) (by omega)) (by omega) (by omega)]
              omega
            rw [show ((64 : Int32) * a2 + l4.toInt32).toInt.toNat = 64 * i + m by omega] at h
            have hno : ¬ on = false := fun e => h0 ((bi_t ha).mpr e)
            refine step _ (fun c hc => h_up_nc hc) (fun x hx => h_up_ne (by omega)) (fun e => absurd e hno) (fun _ => ?_) h
            rw [h_up_eq]
            exact l_2i k2 (by omega) (by omega)
      · rw [if_neg h3] at hl
        cases hl
        refine ⟨Nat.le_refl _, ht, by simp only [List.length_nil]; omega, fun b hb => by simp at hb, FI, l4, by simp only [List.length_nil]; omega, h, fun _ _ _ => rfl, fun _ _ => rfl, h92, fun _ _ => rfl, fun _ => rfl, fun _ k b hk => by simp at hk⟩
theorem mo_place {a1 a2 : Int32} {on : Bool} {f t1 : Nat} {o : Int} {c : List Int} (hS : h_S n SH) (hK : K T = 0) (hT : T ≤ 1001) (hg : tk_rg K W) (hf : xfq E fb) (htk : mtk K W T FI FL) (hE : rE FI FL SH E) (h92 : (FI 121 92).toInt = t) (ht : t ≤ T) (ha : a1 = bi on) (h2 : a2.toInt = i) (hi : i < 8) (his : lp_is (K t) (W t) = true) (hl : lp_pl K W f o t = some (t1, c)) (hc : c.length ≤ 60000) (hn : au_bn (K t1) (W t1) = 0) (h : RX12_meantPlace a1 a2 n sl SH FI FL FR u st) : t < t1 ∧ t1 ≤ T ∧ ∃ k H, mp E fb c k H ∧ pl_c n sl SH FI FL FR on i t1 st H := by
  have et : (FI 121 92).toInt.toNat = t := by omega
  obtain ⟨k1, k2⟩ := htk t ht
  have his2 : (K t = 5 ∧ W t = 91) ∨ (K t = 2 ∧ (W t = 0 ∨ W t = 1 ∨ W t = 2 ∨ W t = 3)) := of_decide_eq_true his
  have ht1 := lt_T hK ht (by omega)
  have n92 : (FI 121 92 + (1 : Int32)).toInt = ((t + 1 : Nat) : Int) := by
    rw [i_add h92 (by first | decide | (simp; done) | (simp [ms_0]; done) : ((1 : Int32)).toInt = 1) (by omega) (by omega)]
    omega
  have kA : mk FI FL (h_up FI 121 92 (FI 121 92 + (1 : Int32))) FL := mk_f mk_rf (by omega)
  have hA92 : ((h_up FI 121 92 (FI 121 92 + (1 : Int32))) 121 92).toInt = ((t + 1 : Nat) : Int) := by rw [h_up_eq]; exact n92
  have hA93 : (h_up FI 121 92 (FI 121 92 + (1 : Int32))) 121 93 = FI 121 93 := h_up_x (by first | decide | (simp; done) | (simp [ms_0]; done))
  unfold lp_pl at hl
  rcases h with ⟨h0, h⟩ | ⟨h0, h⟩
  · rw [mo_sgn (A := 91) (by first | decide | (simp; done) | (simp [ms_0]; done)) et k1 k2] at h0
    rw [if_neg h0] at hl
    obtain ⟨-, h⟩ := h
    have kw : ((FL 153 t).toInt32).toInt = W t := l_2i k2 (by omega) (by omega)
    rw [et, kw] at h
    rcases h with ⟨w0, h⟩ | ⟨w0, h⟩
    · -- reg
      rw [if_pos w0] at hl
      by_cases hr : K (t + 1) = 3 ∧ W (t + 1) ≤ 31
      · rw [if_pos hr] at hl
        cases hl
        have hw := (hg (t + 1)).1 hr.1
        have ht2 := lt_T hK ht1 (by omega)
        obtain ⟨-, h⟩ := h
        rw [show (FI 121 92 + (1 : Int32)).toInt.toNat = t + 1 by omega] at h
        refine ⟨by omega, ht2, 2, .inr (2, Int64.ofInt (W (t + 1)), []), Or.inr (Or.inl ⟨rfl, W (t + 1), hw.1, hr.2, rfl, rfl⟩), ?_⟩
        have kB : mk FI FL (h_up (h_up FI 121 92 (FI 121 92 + (1 : Int32))) 121 92 ((FI 121 92 + (1 : Int32)) + (1 : Int32))) FL := mk_f kA (by omega)
        refine mo_184 ha h2 (m9_mk kB) (mf_mk kB) ?_ (fun _ => ⟨(kB.1 169 (by omega)).1, rfl, (kB.1 172 (by omega)).1⟩) (fun _ => by rw [h_up_x (by first | decide | (simp; done) | (simp [ms_0]; done))]; exact hA93) (fun _ h9 => ⟨by rw [h_up_x (by first | decide | (simp; done) | (simp [ms_0]; done)), hA93]; exact h9, by first | decide | (simp; done) | (simp [ms_0]; done), ?_, ?_, by first | decide | (simp; done) | (simp [ms_0]; done), fun k b hk => by simp at hk⟩) h
        · rw [h_up_eq, i_add n92 (by first | decide | (simp; done) | (simp [ms_0]; done) : ((1 : Int32)).toInt = 1) (by omega) (by omega)]
          omega
        · rw [← (htk (t + 1) ht1).2, l_oi]
        · refine Or.inr (Or.inr (Or.inl ⟨rfl, rfl, ?_⟩))
          have : (Int64.ofInt (W (t + 1))).toInt = W (t + 1) := by rw [Int64.toInt_ofInt, l_bm (by omega) (by omega)]
          show 0 ≤ (Int64.ofInt (W (t + 1))).toInt ∧ (Int64.ofInt (W (t + 1))).toInt ≤ 31
          omega
      · rw [if_neg hr] at hl; cases hl
    rw [if_neg w0] at hl
    rw [show ((1 : Int32)).toInt = 1 by first | decide | (simp; done) | (simp [ms_0]; done)] at h
    rcases h with ⟨w1, h⟩ | ⟨w1, h⟩
    · -- value
      rw [if_pos w1] at hl
      cases hs : lc_ps K W f 0 o (t + 1) with
      | none => rw [hs] at hl; cases hl
      | some p =>
        obtain ⟨t2, a⟩ := p
        rw [hs] at hl
        cases hl
        obtain ⟨v6, n6, sl6, SH6, FI6, FL6, FR6, hch, h⟩ := h
        obtain ⟨g1, g2, g3, x, g4, F2, L2, g5, g6, g7, g8, g9⟩ := mo_choice hS hK hT hg hf (mt_mk htk kA) (rE_mk hE kA) hA92 ht1 ha hs (by rw [List.length_append] at hc; omega) hn hch
        first | (obtain ⟨zz1, zz2, zz3, zz4, zz5, zz6⟩ := st_c g5; (try subst zz1); (try subst zz2); (try subst zz3); (try subst zz4); (try subst zz5); (try subst zz6)) | cases g5
        have kB : mk FI FL F2 L2 := mk_tr kA g6
        rw [hA93] at g8 g9
        refine ⟨by omega, g2, 3, xh 3 x, Or.inr (Or.inr (Or.inl ⟨rfl, a, x, g3, g4, rfl, rfl⟩)), ?_⟩
        refine mo_184 ha h2 (m9_mk kB) (mf_mk kB) g7 (fun _ => ⟨(kB.1 169 (by omega)).1, (kB.1 170 (by omega)).2, (kB.1 172 (by omega)).1⟩) g8 (fun hon h9 => ?_) h
        have g9 := g9 hon h9
        match x, g9 with
        | .inl e, g9 => exact g9
        | .inr y, g9 => exact ⟨g9.2, by show ((3 : Int32)).toInt = 3; (first | decide | (simp; done) | (simp [ms_0]; done)), g9.1, Or.inr (Or.inr (Or.inr (Or.inl ⟨rfl, rfl⟩))), by show (0 : Nat) ≤ 64; (first | decide | (simp; done) | (simp [ms_0]; done)), fun k b hk => by simp at hk⟩
    rw [if_neg w1] at hl
    rw [show ((2 : Int32)).toInt = 2 by first | decide | (simp; done) | (simp [ms_0]; done)] at h
    rcases h with ⟨w2, h⟩ | ⟨w2, h⟩
    · -- bytes
      rw [if_pos w2] at hl
      by_cases h3 : K (t + 1) = 3
      · rw [if_pos h3] at hl
        cases hs : lp_bl K W 1100 0 (t + 1) with
        | none => rw [hs] at hl; cases hl
        | some p =>
          obtain ⟨t2, bs⟩ := p
          rw [hs] at hl
          cases hl
          obtain ⟨g, h⟩ := h
          obtain ⟨r1, r2, r3, r4, F1, l5, r5, r6, r7, r8, r9, r10, r11, r12⟩ := mo_125 ha h2 hi hg hK hT g 1100 0 (t + 1) bs t1 4 0 _ (mt_mk htk kA) hA92 ht1 (by first | decide | (simp; done) | (simp [ms_0]; done)) (by first | decide | (simp; done) | (simp [ms_0]; done)) hs h
          rw [Nat.zero_add] at r3 r5
          have k9 : m9 FI FL F1 FL := ⟨fun c hc => ⟨by rw [r7 c (by omega) (by omega), h_up_nc (by omega)], rfl⟩, fun k hk => ⟨by rw [r8 k (by omega), h_up_x (by omega)], rfl⟩⟩
          have kf : mf i FI FL F1 FL := ⟨fun j _ => ⟨by rw [r7 169 (by first | decide | (simp; done) | (simp [ms_0]; done)) (by first | decide | (simp; done) | (simp [ms_0]; done)), h_up_nc (by first | decide | (simp; done) | (simp [ms_0]; done))], rfl⟩, fun m hm => by rw [r10 m (by omega), h_up_nc (by first | decide | (simp; done) | (simp [ms_0]; done))], by rw [r7 171 (by first | decide | (simp; done) | (simp [ms_0]; done)) (by first | decide | (simp; done) | (simp [ms_0]; done)), h_up_nc (by first | decide | (simp; done) | (simp [ms_0]; done))], by rw [r8 94 (by first | decide | (simp; done) | (simp [ms_0]; done)), h_up_x (by first | decide | (simp; done) | (simp [ms_0]; done))], by rw [r8 95 (by first | decide | (simp; done) | (simp [ms_0]; done)), h_up_x (by first | decide | (simp; done) | (simp [ms_0]; done))]⟩
          have e93 : F1 121 93 = FI 121 93 := by rw [r8 93 (by first | decide | (simp; done) | (simp [ms_0]; done))]; exact hA93
          have eL : (Int64.ofInt (bs.length : Int)).toInt = (bs.length : Int) := by rw [Int64.toInt_ofInt, l_bm (by omega) (by omega)]
          refine ⟨by omega, r2, 4, .inr (4, Int64.ofInt bs.length, bs.map Int32.ofInt), Or.inr (Or.inr (Or.inr (Or.inl ⟨rfl, bs, r3, rfl, rfl⟩))), ?_⟩
          refine mo_184 ha h2 k9 kf r9 (fun hof => ⟨by rw [r7 169 (by first | decide | (simp; done) | (simp [ms_0]; done)) (by first | decide | (simp; done) | (simp [ms_0]; done)), h_up_nc (by first | decide | (simp; done) | (simp [ms_0]; done))], rfl, by rw [r11 hof, h_up_nc (by first | decide | (simp; done) | (simp [ms_0]; done))]⟩) (fun _ => e93) (fun hon h9 => ⟨by rw [e93]; exact h9, by show ((4 : Int32)).toInt = 4; (first | decide | (simp; done) | (simp [ms_0]; done)), Int64.toInt_inj.mp (by rw [r5]; exact eL.symm), Or.inr (Or.inr (Or.inr (Or.inr ⟨rfl, by show (Int64.ofInt (bs.length : Int)).toInt = ((bs.map Int32.ofInt).length : Int); rw [List.length_map]; exact eL⟩))), by show (bs.map Int32.ofInt).length ≤ 64; rw [List.length_map]; exact r3, fun k b hk => ?_⟩) r6
          have hk : (bs.map Int32.ofInt)[k]? = some b := hk
          rw [List.getElem?_map] at hk
          cases hb : bs[k]? with
          | none => rw [hb] at hk; cases hk
          | some b0 =>
            rw [hb] at hk
            have hk : Int32.ofInt b0 = b := Option.some.inj hk
            have hm := r4 b0 (List.mem_of_getElem? hb)
            have e0 := r12 hon k b0 hb
            rw [Nat.add_zero] at e0
            have eb : b.toInt = b0 := by rw [← hk, Int32.toInt_ofInt, i_bm (by omega) (by omega)]
            exact ⟨i_eqv (by rw [e0, eb]), by omega, by omega⟩
      · rw [if_neg h3] at hl; cases hl
    · -- none
      rw [if_neg w2] at hl
      cases hl
      refine ⟨by omega, ht1, 0, .inr ms_0, Or.inr (Or.inr (Or.inr (Or.inr ⟨rfl, rfl, rfl⟩))), ?_⟩
      refine mo_184 ha h2 (m9_mk kA) (mf_mk kA) hA92 (fun _ => ⟨(kA.1 169 (by omega)).1, rfl, (kA.1 172 (by omega)).1⟩) (fun _ => hA93) (fun _ h9 => ⟨by rw [hA93]; exact h9, by show ((0 : Int32)).toInt = 0; (first | decide | (simp; done) | (simp [ms_0]; done)), rfl, Or.inl ⟨rfl, rfl⟩, by show (0 : Nat) ≤ 64; (first | decide | (simp; done) | (simp [ms_0]; done)), fun k b hk => by simp [ms_0] at hk⟩) h
  · have h0 : K t = 5 ∧ W t = 91 := Classical.byContradiction (fun e => h0 ((mo_sgn (A := 91) (by first | decide | (simp; done) | (simp [ms_0]; done)) et k1 k2).mpr e))
    rw [if_pos h0] at hl
    by_cases h12 : 12 ≤ o
    · rw [if_pos h12] at hl; cases hl
    rw [if_neg h12] at hl
    cases hs : lc_ps K W f 0 (o + 1) (t + 1) with
    | none => rw [hs] at hl; cases hl
    | some p =>
      obtain ⟨t2, a⟩ := p
      rw [hs] at hl
      (try dsimp only at hl)
      by_cases hk : K t2 = 5 ∧ W t2 = 93
      · rw [if_pos hk] at hl
        cases hl
        have hn2 : au_bn (K t2) (W t2) = 0 := by rw [hk.1, hk.2]; (first | decide | (simp; done) | (simp [ms_0]; done))
        obtain ⟨v6, n6, sl6, SH6, FI6, FL6, FR6, hch, h⟩ := h
        obtain ⟨g1, g2, g3, x, g4, F2, L2, g5, g6, g7, g8, g9⟩ := mo_choice hS hK hT hg hf (mt_mk htk kA) (rE_mk hE kA) hA92 ht1 ha hs hc hn2 hch
        first | (obtain ⟨zz1, zz2, zz3, zz4, zz5, zz6⟩ := st_c g5; (try subst zz1); (try subst zz2); (try subst zz3); (try subst zz4); (try subst zz5); (try subst zz6)) | cases g5
        have ht2 := lt_T hK g2 (by omega)
        have kB : mk FI FL (h_up F2 121 92 (F2 121 92 + (1 : Int32))) L2 := mk_f (mk_tr kA g6) (by omega)
        have eB : (h_up F2 121 92 (F2 121 92 + (1 : Int32))) 121 93 = F2 121 93 := h_up_x (by first | decide | (simp; done) | (simp [ms_0]; done))
        rw [hA93] at g8 g9
        refine ⟨by omega, ht2, 1, xh 1 x, Or.inl ⟨rfl, g3, x, g4, rfl⟩, ?_⟩
        refine mo_184 ha h2 (m9_mk kB) (mf_mk kB) ?_ (fun _ => ⟨(kB.1 169 (by omega)).1, (kB.1 170 (by omega)).2, (kB.1 172 (by omega)).1⟩) (fun e => by rw [eB]; exact g8 e) (fun hon h9 => ?_) h
        · rw [h_up_eq, i_add g7 (by first | decide | (simp; done) | (simp [ms_0]; done) : ((1 : Int32)).toInt = 1) (by omega) (by omega)]
          omega
        · have g9 := g9 hon h9
          rw [eB]
          match x, g9 with
          | .inl e, g9 => exact g9
          | .inr y, g9 => exact ⟨g9.2, by show ((1 : Int32)).toInt = 1; (first | decide | (simp; done) | (simp [ms_0]; done)), g9.1, Or.inr (Or.inl ⟨rfl, rfl⟩), by show (0 : Nat) ≤ 64; (first | decide | (simp; done) | (simp [ms_0]; done)), fun k b hk => by simp at hk⟩
      · rw [if_neg hk] at hl; cases hl
end M9
end
section
/-! THE REFERENCE'S MEANINGS: locations. -/
/-- a part's rows -/
def pv (FI : Nat → Nat → Int32) (FL : Nat → Nat → Int64) (i : Nat) (p : ms_P) : Prop := rm FI FL i p.1 ∧ (FI 171 i).toInt = p.2.1 ∧ p.2.2 = 0 ∧ 0 ≤ p.2.1 ∧ p.2.1 ≤ 4096
/-- what has been meant -/
def mw (FI : Nat → Nat → Int32) (FL : Nat → Nat → Int64) (Q : ms_Q) : Prop := (FI 121 94).toInt = Q.2.length ∧ ((FI 121 95).toInt = 0 ↔ Q.1 = false) ∧ (1 ≤ Q.2.length ∧ Q.2.length ≤ 8) ∧ (Q.1 = false → Q.2.length = 1) ∧ lv (fun i p => pv FI FL i p) Q.2
def mw_r (F2 : Nat → Nat → Int32) (L2 : Nat → Nat → Int64) (r : Int ⊕ ms_Q) : Prop := match r with
  | .inl e => (F2 121 93).toInt = e ∧ e ≠ 0
  | .inr Q => (F2 121 93).toInt = 0 ∧ mw F2 L2 Q
/-- what a location leaves -/
def lo_c (n sl : Nat) (SH : Nat → Nat × Nat) (FI : Nat → Nat → Int32) (FL : Nat → Nat → Int64) (FR : Nat → Nat → Option Nat) (on : Bool) (t1 : Nat) (st : hS) (r : Int ⊕ ms_Q) : Prop := ∃ F2 L2, st = (n, sl, SH, F2, L2, FR) ∧ m9 FI FL F2 L2 ∧ (F2 121 92).toInt = t1 ∧ (on = false → F2 169 = FI 169 ∧ L2 170 = FL 170 ∧ F2 171 = FI 171 ∧ F2 172 = FI 172 ∧ F2 121 94 = FI 121 94 ∧ F2 121 95 = FI 121 95) ∧ (¬ (on = true ∧ (FI 121 93).toInt = 0) → F2 121 93 = FI 121 93) ∧ (on = true → (FI 121 93).toInt = 0 → mw_r F2 L2 r)
section ML
variable {n sl : Nat} {SH : Nat → Nat × Nat} {F2 F3 : Nat → Nat → Int32} {L2 L3 : Nat → Nat → Int64} {FR : Nat → Nat → Option Nat} {st : hS} {E : ms_E} {fb : xX} {u : Unit} {K W : Nat → Int} {T : Nat}
theorem pv_fr {FI : Nat → Nat → Int32} {FL : Nat → Nat → Int64} {i j : Nat} {p : ms_P} (h : pv FI FL j p) (g : mf i FI FL F2 L2) (hj : j ≠ i) : pv F2 L2 j p := ⟨rm_fr h.1 g hj, by rw [g.2.2.1]; exact h.2.1, h.2.2⟩
theorem rm_cg {FI : Nat → Nat → Int32} {FL : Nat → Nat → Int64} {i : Nat} {H : ms_H} (h : rm FI FL i H) (e1 : F2 169 = FI 169) (e2 : L2 170 = FL 170) (e3 : F2 172 = FI 172) : rm F2 L2 i H := by
  unfold rm
  rw [e1, e2, e3]
  exact h
theorem mo_30 {a1 : Int32} {on : Bool} {f : Nat} (hS : h_S n SH) (hK : K T = 0) (hT : T ≤ 1001) (hg : tk_rg K W) (hf : xfq E fb) (ha : a1 = bi on) : ∀ (g g2 m t : Nat) (c : List Int) (t2 : Nat) (l2 l3 : Int32) (FI : Nat → Nat → Int32) (FL : Nat → Nat → Int64), mtk K W T FI FL → rE FI FL SH E → (FI 121 92).toInt = t → t ≤ T → l2.toInt = m → ¬ l3.toInt = 0 → lp_pt K W f g2 m t = some (t2, c) → c.length ≤ 60000 → GX12_meantLocation_30 a1 g l2 l3 n sl SH FI FL FR u st → t < t2 ∧ t2 ≤ T ∧ ∃ Z : List mZ, Z ≠ [] ∧ Z.length + m ≤ 8 ∧ mz_ok E fb Z ∧ c = mz_fl Z ∧ ∀ A : List ms_P, A.length = m → (on = true → (FI 121 93).toInt = 0 → lv (fun i p => pv FI FL i p) A) → lo_c n sl SH FI FL FR on t2 st (mz_rs Z A) := by
  intro g
  induction g with
  | zero => intro g2 m t c t2 l2 l3 FI FL _ _ _ _ _ _ _ _ h; exact h.elim
  | succ g ih =>
    intro g2 m t c t2 l2 l3 FI FL htk hE h92 ht hl2 hl3 hl hlen h
    cases g2 with
    | zero => cases hl
    | succ g2 =>
      rw [lp_pt] at hl
      by_cases his : lp_is (K t) (W t) = true ∧ m < 8
      · rw [if_pos his] at hl
        cases hp : lp_pl K W f 1 t with
        | none => rw [hp] at hl; cases hl
        | some pr =>
          obtain ⟨t1, c1⟩ := pr
          rw [hp] at hl
          (try dsimp only at hl)
          by_cases hw : K t1 = 5 ∧ W t1 = 47 ∧ K (t1 + 1) = 3 ∧ W (t1 + 1) ≤ 64
          · rw [if_pos hw] at hl
            have hn : au_bn (K t1) (W t1) = 0 := by rw [hw.1, hw.2.1]; (first | decide | (simp; done) | (simp [ms_0]; done))
            have hr := (hg (t1 + 1)).1 hw.2.2.1
            have h := P_n h hl3
            obtain ⟨v4, n4, sl4, SH4, FI4, FL4, FR4, hpl, h⟩ := h
            have lc1 : c1.length ≤ 60000 := by
              by_cases h44 : K (t1 + 2) = 5 ∧ W (t1 + 2) = 44
              · rw [if_pos h44] at hl
                cases hq : lp_pt K W f g2 (m + 1) (t1 + 3) with
                | none => rw [hq] at hl; cases hl
                | some p2 =>
                  obtain ⟨t3, c3⟩ := p2
                  rw [hq] at hl
                  cases hl
                  rw [List.length_append] at hlen
                  omega
              · rw [if_neg h44] at hl
                by_cases h125 : K (t1 + 2) = 5 ∧ W (t1 + 2) = 125
                · rw [if_pos h125] at hl
                  cases hl
                  rw [List.length_append] at hlen
                  omega
                · rw [if_neg h125] at hl; cases hl
            obtain ⟨p1, p2, k, H, p3, F4, L4, p4, p5, p6, p7, p8, p9, p10⟩ := mo_place hS hK hT hg hf htk hE h92 ht ha hl2 his.2 his.1 hp lc1 hn hpl
            first | (obtain ⟨zz1, zz2, zz3, zz4, zz5, zz6⟩ := st_c p4; (try subst zz1); (try subst zz2); (try subst zz3); (try subst zz4); (try subst zz5); (try subst zz6)) | cases p4
            have ht1 := lt_T hK p2 (by omega)
            have ht2 := lt_T hK ht1 (by omega)
            have htk4 := mt_m9 htk p5
            have q92 : (F4 121 92 + (1 : Int32)).toInt = ((t1 + 1 : Nat) : Int) := by
              rw [i_add p7 (by first | decide | (simp; done) | (simp [ms_0]; done) : ((1 : Int32)).toInt = 1) (by omega) (by omega)]
              omega
            have q93 : ((F4 121 92 + (1 : Int32)) + (1 : Int32)).toInt = ((t1 + 2 : Nat) : Int) := by
              rw [i_add q92 (by first | decide | (simp; done) | (simp [ms_0]; done) : ((1 : Int32)).toInt = 1) (by omega) (by omega)]
              omega
            have q94 : (((F4 121 92 + (1 : Int32)) + (1 : Int32)) + (1 : Int32)).toInt = ((t1 + 3 : Nat) : Int) := by
              rw [i_add q93 (by first | decide | (simp; done) | (simp [ms_0]; done) : ((1 : Int32)).toInt = 1) (by omega) (by omega)]
              omega
            have nl2 : (l2 + (1 : Int32)).toInt = ((m + 1 : Nat) : Int) := by
              rw [i_add hl2 (by first | decide | (simp; done) | (simp [ms_0]; done) : ((1 : Int32)).toInt = 1) (by omega) (by omega)]
              omega
            have hz1 : mp E fb c1 k H ∧ 0 ≤ W (t1 + 1) ∧ W (t1 + 1) ≤ 64 := ⟨p3, hr.1, hw.2.2.2⟩
            -- behind the width: FB
            have step : ∀ FB : Nat → Nat → Int32, m9 F4 L4 FB L4 → FB 121 92 = F4 121 92 + (1 : Int32) → FB 121 93 = F4 121 93 → FB 169 = F4 169 → FB 172 = F4 172 → FB 121 94 = F4 121 94 → FB 121 95 = F4 121 95 → (∀ j, j ≠ m → FB 171 j = F4 171 j) → (on = false → FB 171 = F4 171) → (on = true → (FB 171 m).toInt = 8 * W (t1 + 1)) → RX12_meantLocation_73 (GX12_meantLocation_30 a1 g) a1 l2 n sl SH FB L4 FR u st → t < t2 ∧ t2 ≤ T ∧ ∃ Z : List mZ, Z ≠ [] ∧ Z.length + m ≤ 8 ∧ mz_ok E fb Z ∧ c = mz_fl Z ∧ ∀ A : List ms_P, A.length = m → (on = true → (FI 121 93).toInt = 0 → lv (fun i p => pv FI FL i p) A) → lo_c n sl SH FI FL FR on t2 st (mz_rs Z A) := by
              intro FB b9 b92 b93 b169 b172 b94 b95 b171 b171o b171n h
              have h : GX12_meantLocation_30 a1 g (l2 + (1 : Int32)) (fX12_keepsSign (44 : Int32) SH (h_up FB 121 92 (FB 121 92 + (1 : Int32))) L4 FR) n sl SH (h_up (h_up FB 121 92 (FB 121 92 + (1 : Int32))) 121 92 ((FB 121 92 + (1 : Int32)) + (1 : Int32))) L4 FR u st := h
              rw [b92] at h
              have htkB : mtk K W T (h_up FB 121 92 ((F4 121 92 + (1 : Int32)) + (1 : Int32))) L4 := mt_m9 htk4 (m9_f b9 (by omega))
              obtain ⟨s1, s2⟩ := htkB (t1 + 2) ht2
              have sg := mo_sgn (SH := SH) (FR := FR) (A := 44) (a := (44 : Int32)) (by first | decide | (simp; done) | (simp [ms_0]; done)) (FI := h_up FB 121 92 ((F4 121 92 + (1 : Int32)) + (1 : Int32))) (FL := L4) (t := t1 + 2) (by rw [h_up_eq]; omega) s1 s2
              -- FC: where the next one begins
              have c9 : m9 F4 L4 (h_up (h_up FB 121 92 ((F4 121 92 + (1 : Int32)) + (1 : Int32))) 121 92 (((F4 121 92 + (1 : Int32)) + (1 : Int32)) + (1 : Int32))) L4 := m9_f (m9_f b9 (by omega)) (by omega)
              have c92 : ((h_up (h_up FB 121 92 ((F4 121 92 + (1 : Int32)) + (1 : Int32))) 121 92 (((F4 121 92 + (1 : Int32)) + (1 : Int32)) + (1 : Int32))) 121 92).toInt = ((t1 + 3 : Nat) : Int) := by rw [h_up_eq]; exact q94
              have cx : ∀ k, k ≠ 92 → (h_up (h_up FB 121 92 ((F4 121 92 + (1 : Int32)) + (1 : Int32))) 121 92 (((F4 121 92 + (1 : Int32)) + (1 : Int32)) + (1 : Int32))) 121 k = FB 121 k := fun k hk => by rw [h_up_ne hk, h_up_ne hk]
              have cc : ∀ c, c ≠ 121 → (h_up (h_up FB 121 92 ((F4 121 92 + (1 : Int32)) + (1 : Int32))) 121 92 (((F4 121 92 + (1 : Int32)) + (1 : Int32)) + (1 : Int32))) c = FB c := fun c hc => by rw [h_up_nc hc, h_up_nc hc]
              generalize h_up (h_up FB 121 92 ((F4 121 92 + (1 : Int32)) + (1 : Int32))) 121 92 (((F4 121 92 + (1 : Int32)) + (1 : Int32)) + (1 : Int32)) = FC at h c9 c92 cx cc
              have k93 : FC 121 93 = F4 121 93 := by rw [cx 93 (by first | decide | (simp; done) | (simp [ms_0]; done))]; exact b93
              have mD : mf m FI FL FC L4 → True := fun _ => trivial
              -- the parts up to here
              have parts : ∀ (A : List ms_P) (h0 : ms_H), H = .inr h0 → A.length = m → on = true → (FI 121 93).toInt = 0 → lv (fun i p => pv FI FL i p) A → lv (fun i p => pv FC L4 i p) ((h0, 8 * W (t1 + 1), 0) :: A) := by
                intro A h0 eH eA hon h9 hA
                have p10 := p10 hon h9
                rw [eH] at p10
                have p10 : (F4 121 93).toInt = 0 ∧ rm F4 L4 m h0 := p10
                refine ⟨⟨?_, ?_, rfl, by show 0 ≤ 8 * W (t1 + 1); omega, by show 8 * W (t1 + 1) ≤ 4096; omega⟩, lv_mono (fun i p hi _ hp => ?_) hA⟩
                · rw [eA]
                  exact rm_cg p10.2 (by rw [cc 169 (by first | decide | (simp; done) | (simp [ms_0]; done))]; exact b169) rfl (by rw [cc 172 (by first | decide | (simp; done) | (simp [ms_0]; done))]; exact b172)
                · rw [eA, cc 171 (by first | decide | (simp; done) | (simp [ms_0]; done))]
                  exact b171n hon
                · have := pv_fr hp p6 (by omega : i ≠ m)
                  refine ⟨rm_cg this.1 (by rw [cc 169 (by first | decide | (simp; done) | (simp [ms_0]; done))]; exact b169) rfl (by rw [cc 172 (by first | decide | (simp; done) | (simp [ms_0]; done))]; exact b172), ?_, this.2.2⟩
                  rw [cc 171 (by first | decide | (simp; done) | (simp [ms_0]; done)), b171 i (by omega)]
                  exact this.2.1
              have off : on = false → FC 169 = FI 169 ∧ L4 170 = FL 170 ∧ FC 171 = FI 171 ∧ FC 172 = FI 172 ∧ FC 121 94 = FI 121 94 ∧ FC 121 95 = FI 121 95 := by
                intro hof
                obtain ⟨o1, o2, o3⟩ := p8 hof
                refine ⟨?_, o2, ?_, ?_, ?_, ?_⟩
                · rw [cc 169 (by first | decide | (simp; done) | (simp [ms_0]; done)), b169, o1]
                · rw [cc 171 (by first | decide | (simp; done) | (simp [ms_0]; done)), b171o hof, p6.2.2.1]
                · rw [cc 172 (by first | decide | (simp; done) | (simp [ms_0]; done)), b172, o3]
                · rw [cx 94 (by first | decide | (simp; done) | (simp [ms_0]; done)), b94, p6.2.2.2.1]
                · rw [cx 95 (by first | decide | (simp; done) | (simp [ms_0]; done)), b95, p6.2.2.2.2]
              by_cases h44 : K (t1 + 2) = 5 ∧ W (t1 + 2) = 44
              · rw [if_pos h44] at hl
                cases hq : lp_pt K W f g2 (m + 1) (t1 + 3) with
                | none => rw [hq] at hl; cases hl
                | some p2' =>
                  obtain ⟨t3, c3⟩ := p2'
                  rw [hq] at hl
                  cases hl
                  have ht3 := lt_T hK ht2 (by show K (t1 + 2) ≠ 0; omega)
                  obtain ⟨r1, r2, Z, r3, r4, r5, r6, r7⟩ := ih g2 (m + 1) (t1 + 3) c3 t2 _ _ FC L4 (mt_m9 htk4 c9) (rE_m9 (rE_m9 hE p5) c9) c92 ht3 nl2 (fun e => sg.mp e h44) hq (by simp only [List.length_append, List.length_cons] at hlen; omega) h
                  refine ⟨by omega, r2, (c1, k, W (t1 + 1), H) :: Z, (fun e => by cases e), by simp only [List.length_cons]; omega, ?_, by rw [r6]; rfl, fun A eA hA => ?_⟩
                  · intro z hz
                    rcases List.mem_cons.mp hz with hz | hz
                    · rw [hz]; exact hz1
                    · exact r5 z hz
                  · -- the rest of the parts
                    by_cases hd : on = true ∧ (FI 121 93).toInt = 0
                    · cases hH : H with
                      | inl e =>
                        have p10' := p10 hd.1 hd.2
                        rw [hH] at p10'
                        have p10' : (F4 121 93).toInt = e ∧ e ≠ 0 := p10'
                        obtain ⟨F5, L5, s1, s2, s3, s4, s5, s6⟩ := r7 ((ms_0, 0, 0) :: A) (by simp only [List.length_cons]; omega) (fun _ h0 => by rw [k93, p10'.1] at h0; exact absurd h0 p10'.2)
                        refine ⟨F5, L5, s1, m9_tr p5 (m9_tr c9 s2), s3, fun hof => (by rw [hd.1] at hof; cases hof), fun hn => absurd hd hn, fun _ _ => ?_⟩
                        have e5 := s5 (fun e9 => by rw [k93, p10'.1] at e9; exact p10'.2 e9.2)
                        show (F5 121 93).toInt = e ∧ e ≠ 0
                        rw [e5, k93]
                        exact p10'
                      | inr h0 =>
                        have p10' := p10 hd.1 hd.2
                        rw [hH] at p10'
                        have p10' : (F4 121 93).toInt = 0 ∧ rm F4 L4 m h0 := p10'
                        obtain ⟨F5, L5, s1, s2, s3, s4, s5, s6⟩ := r7 ((h0, 8 * W (t1 + 1), 0) :: A) (by simp only [List.length_cons]; omega) (fun hon _ => parts A h0 hH eA hon hd.2 (hA hon hd.2))
                        exact ⟨F5, L5, s1, m9_tr p5 (m9_tr c9 s2), s3, fun hof => (by rw [hd.1] at hof; cases hof), fun hn => absurd hd hn, fun _ _ => s6 hd.1 (by rw [k93]; exact p10'.1)⟩
                    · have e4 := p9 hd
                      obtain ⟨F5, L5, s1, s2, s3, s4, s5, s6⟩ := r7 ((ms_0, 0, 0) :: A) (by simp only [List.length_cons]; omega) (fun hon h0 => absurd ⟨hon, by rw [k93, e4] at h0; exact h0⟩ hd)
                      refine ⟨F5, L5, s1, m9_tr p5 (m9_tr c9 s2), s3, fun hof => ?_, fun _ => ?_, fun hon h0 => absurd ⟨hon, h0⟩ hd⟩
                      · obtain ⟨o1, o2, o3, o4, o5, o6⟩ := off hof
                        obtain ⟨w1, w2, w3, w4, w5, w6⟩ := s4 hof
                        exact ⟨w1.trans o1, w2.trans o2, w3.trans o3, w4.trans o4, w5.trans o5, w6.trans o6⟩
                      · rw [s5 (fun e9 => hd ⟨e9.1, by rw [k93, e4] at e9; exact e9.2⟩), k93, e4]
              · rw [if_neg h44] at hl
                by_cases h125 : K (t1 + 2) = 5 ∧ W (t1 + 2) = 125
                · rw [if_pos h125] at hl
                  cases hl
                  have ht3 := lt_T hK ht2 (by show K (t1 + 2) ≠ 0; omega)
                  have hz0 := sg.mpr h44
                  refine ⟨by omega, ht3, [(c1, k, W (t1 + 1), H)], (fun e => by cases e), by simp only [List.length_cons, List.length_nil]; omega, ?_, by show _ = c1 ++ 147 :: (lc_u 9 (W (t1 + 1)) ++ []); rw [List.append_nil], fun A eA hA => ?_⟩
                  · intro z hz
                    rw [List.mem_singleton.mp hz]
                    exact hz1
                  · cases g with
                    | zero => exact h.elim
                    | succ g =>
                      have h := P_p h hz0
                      rcases h with ⟨o0, -, e⟩ | ⟨o0, -, e⟩
                      · have hof := (bi_t ha).mp o0
                        refine ⟨FC, L4, e, m9_tr p5 c9, c92, off, fun hn => by rw [k93]; exact p9 hn, fun hon => by rw [hof] at hon; cases hon⟩
                      · have hon : on = true := by
                          cases on with
                          | true => rfl
                          | false => exact absurd ((bi_t ha).mpr rfl) o0
                        have d93 : (h_up (h_up FC 121 94 (l2 + (1 : Int32))) 121 95 (1 : Int32)) 121 93 = F4 121 93 := by rw [h_up_x (by first | decide | (simp; done) | (simp [ms_0]; done)), h_up_x (by first | decide | (simp; done) | (simp [ms_0]; done))]; exact k93
                        refine ⟨_, L4, e, m9_f (m9_f (m9_tr p5 c9) (by omega)) (by omega), by rw [h_up_x (by first | decide | (simp; done) | (simp [ms_0]; done)), h_up_x (by first | decide | (simp; done) | (simp [ms_0]; done))]; exact c92, fun hof => (by rw [hon] at hof; cases hof), fun hn => by rw [d93]; exact p9 hn, fun _ h9 => ?_⟩
                        have p10' := p10 hon h9
                        cases hH : H with
                        | inl e9 =>
                          rw [hH] at p10'
                          have p10' : (F4 121 93).toInt = e9 ∧ e9 ≠ 0 := p10'
                          show (_ : Int32).toInt = e9 ∧ e9 ≠ 0
                          rw [d93]
                          exact p10'
                        | inr h0 =>
                          rw [hH] at p10'
                          have p10' : (F4 121 93).toInt = 0 ∧ rm F4 L4 m h0 := p10'
                          have pp := parts A h0 hH eA hon h9 (hA hon h9)
                          refine ⟨by rw [d93]; exact p10'.1, ?_, ?_, ?_, ?_, lv_mono (fun i p _ _ hp => ⟨rm_cg hp.1 (by rw [h_up_nc (by first | decide | (simp; done) | (simp [ms_0]; done)), h_up_nc (by first | decide | (simp; done) | (simp [ms_0]; done))]) rfl (by rw [h_up_nc (by first | decide | (simp; done) | (simp [ms_0]; done)), h_up_nc (by first | decide | (simp; done) | (simp [ms_0]; done))]), by rw [h_up_nc (by first | decide | (simp; done) | (simp [ms_0]; done)), h_up_nc (by first | decide | (simp; done) | (simp [ms_0]; done))]; exact hp.2.1, hp.2.2⟩) pp⟩
                          · rw [h_up_x (by first | decide | (simp; done) | (simp [ms_0]; done)), h_up_eq, nl2]
                            show ((m + 1 : Nat) : Int) = (((h0, 8 * W (t1 + 1), 0) :: A).length : Int)
                            rw [List.length_cons, eA]
                          · rw [h_up_eq]
                            exact ⟨fun e => absurd e (by first | decide | (simp; done) | (simp [ms_0]; done)), fun e => by cases e⟩
                          · show 1 ≤ ((h0, 8 * W (t1 + 1), 0) :: A).length ∧ ((h0, 8 * W (t1 + 1), 0) :: A).length ≤ 8
                            rw [List.length_cons, eA]
                            omega
                          · intro e
                            cases e
                · rw [if_neg h125] at hl; cases hl
            rcases h with ⟨o0, h⟩ | ⟨o0, -, -, h⟩
            · have hof := (bi_t ha).mp o0
              exact step _ (m9_f m9_rf (by omega)) h_up_eq (h_up_x (by first | decide | (simp; done) | (simp [ms_0]; done))) (h_up_nc (by first | decide | (simp; done) | (simp [ms_0]; done))) (h_up_nc (by first | decide | (simp; done) | (simp [ms_0]; done))) (h_up_x (by first | decide | (simp; done) | (simp [ms_0]; done))) (h_up_x (by first | decide | (simp; done) | (simp [ms_0]; done))) (fun j _ => by rw [h_up_nc (by first | decide | (simp; done) | (simp [ms_0]; done))]) (fun _ => h_up_nc (by first | decide | (simp; done) | (simp [ms_0]; done))) (fun hon => by rw [hof] at hon; cases hon) h
            · rw [show l2.toInt.toNat = m by omega, show (F4 121 92 + (1 : Int32)).toInt.toNat = t1 + 1 by omega] at h
              refine step _ (m9_i (m9_f m9_rf (by omega)) (by omega)) (by rw [h_up_nc (by first | decide | (simp; done) | (simp [ms_0]; done)), h_up_eq]) (by rw [h_up_nc (by first | decide | (simp; done) | (simp [ms_0]; done)), h_up_x (by first | decide | (simp; done) | (simp [ms_0]; done))]) (by rw [h_up_nc (by first | decide | (simp; done) | (simp [ms_0]; done)), h_up_nc (by first | decide | (simp; done) | (simp [ms_0]; done))]) (by rw [h_up_nc (by first | decide | (simp; done) | (simp [ms_0]; done)), h_up_nc (by first | decide | (simp; done) | (simp [ms_0]; done))]) (by rw [h_up_nc (by first | decide | (simp; done) | (simp [ms_0]; done)), h_up_x (by first | decide | (simp; done) | (simp [ms_0]; done))]) (by rw [h_up_nc (by first | decide | (simp; done) | (simp [ms_0]; done)), h_up_x (by first | decide | (simp; done) | (simp [ms_0]; done))]) (fun j hj => by rw [h_up_ne hj, h_up_nc (by first | decide | (simp; done) | (simp [ms_0]; done))]) (fun hof => absurd ((bi_t ha).mpr hof) o0) (fun _ => ?_) h
              rw [h_up_eq, i_mul (by first | decide | (simp; done) | (simp [ms_0]; done) : ((8 : Int32)).toInt = 8) (l_2i (htk4 (t1 + 1) ht1).2 (by omega) (by omega)) (by omega) (by omega)]
          · rw [if_neg hw] at hl; cases hl
      · rw [if_neg his] at hl; cases hl
theorem mo_location {a1 : Int32} {on : Bool} {f t t1 : Nat} {c : List Int} {FI : Nat → Nat → Int32} {FL : Nat → Nat → Int64} (hS : h_S n SH) (hK : K T = 0) (hT : T ≤ 1001) (hg : tk_rg K W) (hf : xfq E fb) (ha : a1 = bi on) (htk : mtk K W T FI FL) (hE : rE FI FL SH E) (h92 : (FI 121 92).toInt = t) (ht : t ≤ T) (h94 : (FI 121 94).toInt = 1) (h95 : (FI 121 95).toInt = 0) (h171 : (FI 171 0).toInt = 0) (hl : lp_lc K W f t = some (t1, c)) (hlen : c.length ≤ 60000) (hn : au_bn (K t1) (W t1) = 0) (h : RX12_meantLocation a1 n sl SH FI FL FR u st) : t < t1 ∧ t1 ≤ T ∧ ∃ r, mloc E fb c r ∧ lo_c n sl SH FI FL FR on t1 st r := by
  have et : (FI 121 92).toInt.toNat = t := by omega
  obtain ⟨k1, k2⟩ := htk t ht
  unfold lp_lc at hl
  rcases h with ⟨h0, h⟩ | ⟨h0, h⟩
  · rw [mo_sgn (A := 123) (by first | decide | (simp; done) | (simp [ms_0]; done)) et k1 k2] at h0
    rw [if_neg h0] at hl
    by_cases his : lp_is (K t) (W t) = true
    · rw [if_pos his] at hl
      obtain ⟨v2, n2, sl2, SH2, FI2, FL2, FR2, hp, -, e⟩ := h
      obtain ⟨p1, p2, k, H, p3, F4, L4, p4, p5, p6, p7, p8, p9, p10⟩ := mo_place hS hK hT hg hf htk hE h92 ht ha (i := 0) (by first | decide | (simp; done) | (simp [ms_0]; done)) (by first | decide | (simp; done) | (simp [ms_0]; done)) his hl hlen hn hp
      first | (obtain ⟨zz1, zz2, zz3, zz4, zz5, zz6⟩ := st_c p4; (try subst zz1); (try subst zz2); (try subst zz3); (try subst zz4); (try subst zz5); (try subst zz6)) | cases p4
      refine ⟨p1, p2, mz_1 H, Or.inl ⟨k, H, p3, rfl⟩, F4, L4, e, p5, p7, fun hof => ⟨(p8 hof).1, (p8 hof).2.1, p6.2.2.1, (p8 hof).2.2, p6.2.2.2.1, p6.2.2.2.2⟩, p9, fun hon h9 => ?_⟩
      have p10 := p10 hon h9
      match H, p10 with
      | .inl e9, p10 => exact p10
      | .inr h9', p10 =>
        refine ⟨p10.1, by rw [p6.2.2.2.1]; exact h94, ⟨fun _ => rfl, fun _ => by rw [p6.2.2.2.2]; exact h95⟩, by first | decide | (simp; done) | (simp [ms_0]; done), fun _ => rfl, ⟨p10.2, by show (F4 171 0).toInt = 0; rw [p6.2.2.1]; exact h171, rfl, by show (0 : Int) ≤ 0; (first | decide | (simp; done) | (simp [ms_0]; done)), by show (0 : Int) ≤ 4096; (first | decide | (simp; done) | (simp [ms_0]; done))⟩, trivial⟩
    · rw [if_neg his] at hl; cases hl
  · have h0 : K t = 5 ∧ W t = 123 := Classical.byContradiction (fun e => h0 ((mo_sgn (A := 123) (by first | decide | (simp; done) | (simp [ms_0]; done)) et k1 k2).mpr e))
    rw [if_pos h0] at hl
    have ht1 := lt_T hK ht (by omega)
    obtain ⟨g, h⟩ := h
    have n92 : ((h_up FI 121 92 (FI 121 92 + (1 : Int32))) 121 92).toInt = ((t + 1 : Nat) : Int) := by
      rw [h_up_eq, i_add h92 (by first | decide | (simp; done) | (simp [ms_0]; done) : ((1 : Int32)).toInt = 1) (by omega) (by omega)]
      omega
    have kA : mk FI FL (h_up FI 121 92 (FI 121 92 + (1 : Int32))) FL := mk_f mk_rf (by omega)
    obtain ⟨r1, r2, Z, r3, r4, r5, r6, r7⟩ := mo_30 hS hK hT hg hf ha g 20 0 (t + 1) c t1 0 1 _ FL (mt_mk htk kA) (rE_mk hE kA) n92 ht1 (by first | decide | (simp; done) | (simp [ms_0]; done)) (by first | decide | (simp; done) | (simp [ms_0]; done)) hl hlen h
    obtain ⟨F5, L5, s1, s2, s3, s4, s5, s6⟩ := r7 [] rfl (fun _ _ => trivial)
    have e93 : (h_up FI 121 92 (FI 121 92 + (1 : Int32))) 121 93 = FI 121 93 := h_up_x (by first | decide | (simp; done) | (simp [ms_0]; done))
    rw [e93] at s5 s6
    refine ⟨by omega, r2, mz_rs Z [], Or.inr ⟨Z, r3, by omega, r5, r6, rfl⟩, F5, L5, s1, m9_tr (m9_mk kA) s2, s3, fun hof => ?_, s5, s6⟩
    obtain ⟨w1, w2, w3, w4, w5, w6⟩ := s4 hof
    exact ⟨by rw [w1, h_up_nc (by first | decide | (simp; done) | (simp [ms_0]; done))], w2, by rw [w3, h_up_nc (by first | decide | (simp; done) | (simp [ms_0]; done))], by rw [w4, h_up_nc (by first | decide | (simp; done) | (simp [ms_0]; done))], by rw [w5, h_up_x (by first | decide | (simp; done) | (simp [ms_0]; done))], by rw [w6, h_up_x (by first | decide | (simp; done) | (simp [ms_0]; done))]⟩
end ML
end
section
/-! THE REFERENCE'S means. -/
theorem lp_rw_pos {K W : Nat → Int} {f : Nat} : ∀ (g m t t2 m2 : Nat) (c : List Int) (b : Bool), lp_rw K W f g m t = some (t2, m2, c, b) → m < m2 := by
  intro g
  induction g with
  | zero => intro m t t2 m2 c b h; cases h
  | succ g ih =>
    intro m t t2 m2 c b h
    rw [lp_rw] at h
    by_cases h1 : K t = 3 ∧ m < 8 ∧ K (t + 1) = 5 ∧ W (t + 1) = 256 ∧ K (t + 2) = 3 ∧ W t < W (t + 2) ∧ K (t + 3) = 5 ∧ W (t + 3) = 58
    · rw [if_pos h1] at h
      cases hl : lp_lc K W f (t + 4) with
      | none => rw [hl] at h; cases h
      | some p =>
        obtain ⟨t1, c1⟩ := p
        rw [hl] at h
        (try dsimp only at h)
        by_cases h2 : K t1 = 5 ∧ W t1 = 44
        · rw [if_pos h2] at h
          cases hr : lp_rw K W f g (m + 1) (t1 + 1) with
          | none => rw [hr] at h; cases h
          | some p2 =>
            obtain ⟨t3, m3, c3, b3⟩ := p2
            rw [hr] at h
            cases h
            have := ih _ _ _ _ _ _ hr
            omega
        · rw [if_neg h2] at h
          cases h
          omega
    · rw [if_neg h1] at h; cases h
/-- the rows that tokens tell -/
theorem lp_rw_Q {K W : Nat → Int} {f : Nat} (hg : tk_rg K W) : ∀ (g m t t2 m2 : Nat) (c : List Int) (b : Bool), lp_rw K W f g m t = some (t2, m2, c, b) → c.length ≤ 60000 → ∃ Q : List r_Q, m2 = m + Q.length ∧ 1 ≤ Q.length ∧ c = rw_fl Q ∧ (∀ q, q ∈ Q → 0 ≤ q.1 ∧ q.1 ≤ 9223372036854775807 ∧ 0 ≤ q.2.1 ∧ q.2.1 ≤ 9223372036854775807 ∧ q.2.2.length ≤ 60000) := by
  intro g
  induction g with
  | zero => intro m t t2 m2 c b h; cases h
  | succ g ih =>
    intro m t t2 m2 c b h hlen
    rw [lp_rw] at h
    by_cases h1 : K t = 3 ∧ m < 8 ∧ K (t + 1) = 5 ∧ W (t + 1) = 256 ∧ K (t + 2) = 3 ∧ W t < W (t + 2) ∧ K (t + 3) = 5 ∧ W (t + 3) = 58
    · rw [if_pos h1] at h
      have w0 := (hg t).1 h1.1
      have w2 := (hg (t + 2)).1 h1.2.2.2.2.1
      cases hl : lp_lc K W f (t + 4) with
      | none => rw [hl] at h; cases h
      | some p =>
        obtain ⟨t1, c1⟩ := p
        rw [hl] at h
        (try dsimp only at h)
        by_cases h2 : K t1 = 5 ∧ W t1 = 44
        · rw [if_pos h2] at h
          cases hr : lp_rw K W f g (m + 1) (t1 + 1) with
          | none => rw [hr] at h; cases h
          | some p2 =>
            obtain ⟨t3, m3, c3, b3⟩ := p2
            rw [hr] at h
            cases h
            simp only [List.length_append] at hlen
            obtain ⟨Q, q1, q2, q3, q4⟩ := ih _ _ _ _ _ _ hr (by omega)
            refine ⟨(W t, W (t + 2), c1) :: Q, by simp only [List.length_cons]; omega, by simp only [List.length_cons]; omega, by rw [rw_fl_c, q3], fun q hq => ?_⟩
            rcases List.mem_cons.mp hq with hq | hq
            · rw [hq]
              exact ⟨w0.1, by show W t ≤ 9223372036854775807; omega, w2.1, by show W (t + 2) ≤ 9223372036854775807; omega, by show c1.length ≤ 60000; omega⟩
            · exact q4 q hq
        · rw [if_neg h2] at h
          cases h
          simp only [List.length_append] at hlen
          refine ⟨[(W t, W (t + 2), c1)], by simp only [List.length_cons, List.length_nil], by first | decide | (simp; done) | (simp [ms_0]; done), by rw [rw_fl_c]; show _ = _ ++ (_ ++ (_ ++ (c1 ++ []))); rw [List.append_nil], fun q hq => ?_⟩
          rw [List.mem_singleton.mp hq]
          exact ⟨w0.1, by show W t ≤ 9223372036854775807; omega, w2.1, by show W (t + 2) ≤ 9223372036854775807; omega, by show c1.length ≤ 60000; omega⟩
    · rw [if_neg h1] at h; cases h
section MN
variable {n sl : Nat} {SH : Nat → Nat × Nat} {FR : Nat → Nat → Option Nat} {st : hS} {E : ms_E} {fb : xX} {K W : Nat → Int} {T : Nat} {v : Int32}
/-- the bytes of a block, to the result -/
theorem mo_306 {Kn : Int32 → Nat → Nat → (Nat → Nat × Nat) → (Nat → Nat → Int32) → (Nat → Nat → Int64) → (Nat → Nat → Option Nat) → Int32 → hS → Prop} {a1 : Int32} {a2 : Int64} {l4 : Int32} {kk : Nat} {B : List Int32} {FL : Nat → Nat → Int64} (h4 : l4.toInt = kk) (hk : kk < 8) (hB : B.length ≤ 64) (hv : (FL 170 kk).toInt = B.length) : ∀ (g j : Nat) (l5 : Int32) (FI : Nat → Nat → Int32), l5.toInt = j → j ≤ B.length → (∀ i b, B[i]? = some b → FI 172 (64 * kk + i) = b) → (∀ i b, i < j → B[i]? = some b → FI 147 (600 * kk + i) = b) → GX12_means_306 Kn a1 a2 g l4 l5 n sl SH FI FL FR v st → ∃ F2, Kn (l4 + (1 : Int32)) n sl SH F2 FL FR v st ∧ (∀ c, c ≠ 147 → F2 c = FI c) ∧ (∀ m, m < 600 * kk ∨ 600 * kk + 600 ≤ m → F2 147 m = FI 147 m) ∧ (∀ i b, B[i]? = some b → F2 147 (600 * kk + i) = b) := by
  intro g
  induction g with
  | zero => intro j l5 FI _ _ _ _ h; exact h.elim
  | succ g ih =>
    intro j l5 FI h5 hj hs hd h
    obtain ⟨-, h⟩ := h
    rw [show l4.toInt.toNat = kk by omega, i_2l h5, hv] at h
    rcases h with ⟨h0, -, -, h⟩ | ⟨h0, h⟩
    · have e1 : ((64 : Int32) * l4 + l5).toInt = ((64 * kk + j : Nat) : Int) := by
        rw [i_add (i_mul (by first | decide | (simp; done) | (simp [ms_0]; done) : ((64 : Int32)).toInt = 64) h4 (by omega) (by omega)) h5 (by omega) (by omega)]
        omega
      have e2 : ((600 : Int32) * l4 + l5).toInt = ((600 * kk + j : Nat) : Int) := by
        rw [i_add (i_mul (by first | decide | (simp; done) | (simp [ms_0]; done) : ((600 : Int32)).toInt = 600) h4 (by omega) (by omega)) h5 (by omega) (by omega)]
        omega
      obtain ⟨b, hb⟩ := ms_ex_i (bs := B) (i := j) (by omega)
      rw [show ((64 : Int32) * l4 + l5).toInt.toNat = 64 * kk + j by omega, show ((600 : Int32) * l4 + l5).toInt.toNat = 600 * kk + j by omega, hs j b hb] at h
      obtain ⟨F2, q1, q2, q3, q4⟩ := ih (j + 1) (l5 + (1 : Int32)) _ (by rw [i_add h5 (by first | decide | (simp; done) | (simp [ms_0]; done) : ((1 : Int32)).toInt = 1) (by omega) (by omega)]; omega) (by omega) (fun i b9 hb9 => by rw [h_up_nc (by first | decide | (simp; done) | (simp [ms_0]; done))]; exact hs i b9 hb9) (fun i b9 hi hb9 => by
        by_cases ei : i = j
        · subst ei
          rw [h_up_eq]
          rw [hb] at hb9
          exact Option.some.inj hb9
        · rw [h_up_ne (by omega)]
          exact hd i b9 (by omega) hb9) h
      exact ⟨F2, q1, fun c hc => by rw [q2 c hc, h_up_nc hc], fun m hm => by rw [q3 m hm, h_up_ne (by omega)], q4⟩
    · refine ⟨FI, h, fun _ _ => rfl, fun _ _ => rfl, fun i b hb => hd i b ?_ hb⟩
      have := (List.getElem?_eq_some_iff.mp hb).1
      omega
theorem lv_all {α : Type} {P : Nat → α → Prop} : ∀ {L : List α}, (∀ j x, j < L.length → L[L.length - 1 - j]? = some x → P j x) → lv P L
  | [], _ => trivial
  | x :: r, h => by
    refine ⟨h r.length x (by simp) (by simp), lv_all (fun j y hj hy => h j y (by simp only [List.length_cons]; omega) ?_)⟩
    rw [List.length_cons, show r.length + 1 - 1 - j = (r.length - 1 - j) + 1 by omega]
    exact hy
theorem lv_an {α : Type} {P : Nat → α → Prop} {L : List α} {j : Nat} (h : lv P L) (hj : j < L.length) : ∃ x, L[L.length - 1 - j]? = some x ∧ P j x := by
  obtain ⟨x, hx⟩ := lx_i (L := L) (i := L.length - 1 - j) (by omega)
  refine ⟨x, hx, ?_⟩
  have := lv_get h hx
  rw [show L.length - 1 - (L.length - 1 - j) = j by omega] at this
  exact this
theorem mw_fr {FI F2 : Nat → Nat → Int32} {FL L2 : Nat → Nat → Int64} {Q : ms_Q} (h : mw FI FL Q) (e1 : F2 121 94 = FI 121 94) (e2 : F2 121 95 = FI 121 95) (e3 : F2 169 = FI 169) (e4 : L2 170 = FL 170) (e5 : F2 171 = FI 171) (e6 : F2 172 = FI 172) : mw F2 L2 Q := by
  obtain ⟨h1, h2, h3, h4, h5⟩ := h
  exact ⟨by rw [e1]; exact h1, by rw [e2]; exact h2, h3, h4, lv_mono (fun i p _ _ hp => ⟨rm_cg hp.1 e3 e4 e6, by rw [e5]; exact hp.2.1, hp.2.2⟩) h5⟩
theorem mo_233 {a1 : Int32} {a2 : Int64} {Q : ms_Q} : ∀ (g kk : Nat) (l4 : Int32) (FI : Nat → Nat → Int32) (FL : Nat → Nat → Int64), l4.toInt = kk → kk ≤ Q.2.length → mw FI FL Q → (∀ j p, j < kk → Q.2[Q.2.length - 1 - j]? = some p → rp FI FL j p) → GX12_means_233 a1 a2 g l4 n sl SH FI FL FR v st → v = 0 ∧ ∃ F2 L2, st = (n, sl, SH, F2, L2, FR) ∧ xr FI FL F2 L2 ∧ F2 121 46 = FI 121 46 ∧ F2 121 47 = FI 121 47 ∧ lv (fun i p => rp F2 L2 i p) Q.2 := by
  intro g
  induction g with
  | zero => intro kk l4 FI FL _ _ _ _ h; exact h.elim
  | succ g ih =>
    intro kk l4 FI FL h4 hk hw hd h
    have w94 := hw.1
    have w8 := hw.2.2.1.2
    rcases h with ⟨h0, h⟩ | ⟨h0, h⟩
    · rw [h4, w94] at h0
      obtain ⟨-, -, -, -, -, -, -, -, h⟩ := h
      rw [show l4.toInt.toNat = kk by omega, show ((4 : Int32)).toInt = 4 by first | decide | (simp; done) | (simp [ms_0]; done)] at h
      obtain ⟨p, hp, pp⟩ := lv_an hw.2.2.2.2 (show kk < Q.2.length by omega)
      obtain ⟨⟨r1, r2, r3, r4, r5⟩, r6, r7, r8, r9⟩ := pp
      -- the row's other cells
      have e143 : ∀ c, c ≠ 143 → c ≠ 145 → c ≠ 146 → (h_up (h_up (h_up FI 143 kk (FI 169 kk)) 145 kk (FI 171 kk)) 146 kk (0 : Int32)) c = FI c := fun c c1 c2 c3 => by rw [h_up_nc c3, h_up_nc c2, h_up_nc c1]
      have nl4 : (l4 + (1 : Int32)).toInt = ((kk + 1 : Nat) : Int) := by
        rw [i_add h4 (by first | decide | (simp; done) | (simp [ms_0]; done) : ((1 : Int32)).toInt = 1) (by omega) (by omega)]
        omega
      have step : ∀ FB : Nat → Nat → Int32, (∀ c, c ≠ 147 → FB c = (h_up (h_up (h_up FI 143 kk (FI 169 kk)) 145 kk (FI 171 kk)) 146 kk (0 : Int32)) c) → (∀ m, m < 600 * kk ∨ 600 * kk + 600 ≤ m → FB 147 m = FI 147 m) → (∀ i b, p.1.2.2[i]? = some b → FB 147 (600 * kk + i) = b) → GX12_means_233 a1 a2 g (l4 + (1 : Int32)) n sl SH FB (h_up FL 144 kk (FL 170 kk)) FR v st → v = 0 ∧ ∃ F2 L2, st = (n, sl, SH, F2, L2, FR) ∧ xr FI FL F2 L2 ∧ F2 121 46 = FI 121 46 ∧ F2 121 47 = FI 121 47 ∧ lv (fun i p => rp F2 L2 i p) Q.2 := by
        intro FB b1 b2 b3 h
        have b121 : FB 121 = FI 121 := by rw [b1 121 (by first | decide | (simp; done) | (simp [ms_0]; done))]; exact e143 121 (by first | decide | (simp; done) | (simp [ms_0]; done)) (by first | decide | (simp; done) | (simp [ms_0]; done)) (by first | decide | (simp; done) | (simp [ms_0]; done))
        have bc : ∀ c, c ≠ 143 → c ≠ 145 → c ≠ 146 → c ≠ 147 → FB c = FI c := fun c c1 c2 c3 c4 => by rw [b1 c c4]; exact e143 c c1 c2 c3
        obtain ⟨s1, F2, L2, s2, s3, s4, s5, s6⟩ := ih (kk + 1) (l4 + (1 : Int32)) FB (h_up FL 144 kk (FL 170 kk)) nl4 (by omega) (mw_fr hw (by rw [b121]) (by rw [b121]) (bc 169 (by first | decide | (simp; done) | (simp [ms_0]; done)) (by first | decide | (simp; done) | (simp [ms_0]; done)) (by first | decide | (simp; done) | (simp [ms_0]; done)) (by first | decide | (simp; done) | (simp [ms_0]; done))) (h_up_nc (by first | decide | (simp; done) | (simp [ms_0]; done))) (bc 171 (by first | decide | (simp; done) | (simp [ms_0]; done)) (by first | decide | (simp; done) | (simp [ms_0]; done)) (by first | decide | (simp; done) | (simp [ms_0]; done)) (by first | decide | (simp; done) | (simp [ms_0]; done))) (bc 172 (by first | decide | (simp; done) | (simp [ms_0]; done)) (by first | decide | (simp; done) | (simp [ms_0]; done)) (by first | decide | (simp; done) | (simp [ms_0]; done)) (by first | decide | (simp; done) | (simp [ms_0]; done)))) (fun j q hj hq => by
          by_cases ej : j = kk
          · subst ej
            rw [hp] at hq
            have hq := Option.some.inj hq
            subst hq
            refine ⟨?_, ?_, ?_, ?_, r3, ⟨r8, r9, by rw [r7]; (first | decide | (simp; done) | (simp [ms_0]; done)), by rw [r7]; (first | decide | (simp; done) | (simp [ms_0]; done))⟩, by omega, fun i b hb => ⟨b3 i b hb, (r5 i b hb).2⟩⟩
            · rw [b1 143 (by first | decide | (simp; done) | (simp [ms_0]; done)), h_up_nc (by first | decide | (simp; done) | (simp [ms_0]; done)), h_up_nc (by first | decide | (simp; done) | (simp [ms_0]; done)), h_up_eq]; exact r1
            · rw [h_up_eq]; exact r2
            · rw [b1 145 (by first | decide | (simp; done) | (simp [ms_0]; done)), h_up_nc (by first | decide | (simp; done) | (simp [ms_0]; done)), h_up_eq]; exact r6
            · rw [b1 146 (by first | decide | (simp; done) | (simp [ms_0]; done)), h_up_eq, r7]; (first | decide | (simp; done) | (simp [ms_0]; done))
          · obtain ⟨t1, t2, t3, t4, t5, t6, t7, t8⟩ := hd j q (by omega) hq
            refine ⟨?_, ?_, ?_, ?_, t5, t6, t7, fun i b hb => ?_⟩
            · rw [b1 143 (by first | decide | (simp; done) | (simp [ms_0]; done)), h_up_nc (by first | decide | (simp; done) | (simp [ms_0]; done)), h_up_nc (by first | decide | (simp; done) | (simp [ms_0]; done)), h_up_ne ej]; exact t1
            · rw [h_up_ne ej]; exact t2
            · rw [b1 145 (by first | decide | (simp; done) | (simp [ms_0]; done)), h_up_nc (by first | decide | (simp; done) | (simp [ms_0]; done)), h_up_ne ej, h_up_nc (by first | decide | (simp; done) | (simp [ms_0]; done))]; exact t3
            · rw [b1 146 (by first | decide | (simp; done) | (simp [ms_0]; done)), h_up_ne ej, h_up_nc (by first | decide | (simp; done) | (simp [ms_0]; done)), h_up_nc (by first | decide | (simp; done) | (simp [ms_0]; done))]; exact t4
            · have hl := (List.getElem?_eq_some_iff.mp hb).1
              rw [b2 (600 * j + i) (by omega)]
              exact t8 i b hb) h
        refine ⟨s1, F2, L2, s2, ⟨fun c hc => ⟨?_, ?_⟩, fun k hk => ⟨?_, ?_⟩⟩, by rw [s4, b121], by rw [s5, b121], s6⟩
        · rw [(s3.1 c hc).1]; exact bc c (by omega) (by omega) (by omega) (by omega)
        · rw [(s3.1 c hc).2]; exact h_up_nc (by omega)
        · rw [(s3.2 k hk).1, b121]
        · rw [(s3.2 k hk).2, h_up_nc (by first | decide | (simp; done) | (simp [ms_0]; done))]
      rcases h with ⟨h44, g2, h⟩ | ⟨h44, h⟩
      · have hv : (FL 170 kk).toInt = p.1.2.2.length := by
          rw [r2]
          rcases r3 with q | q | q | q | q
          · exfalso; rw [r1] at h44; have := q.1; omega
          · exfalso; rw [r1] at h44; have := q.1; omega
          · exfalso; rw [r1] at h44; have := q.1; omega
          · exfalso; rw [r1] at h44; have := q.1; omega
          · exact q.2
        have hv2 : ((h_up FL 144 kk (FL 170 kk)) 170 kk).toInt = p.1.2.2.length := by rw [h_up_nc (by first | decide | (simp; done) | (simp [ms_0]; done))]; exact hv
        obtain ⟨F2, q1, q2, q3, q4⟩ := mo_306 (Kn := GX12_means_233 a1 a2 g) h4 (by omega) r4 hv2 g2 0 0 _ (by first | decide | (simp; done) | (simp [ms_0]; done)) (by omega) (fun i b hb => by rw [e143 172 (by first | decide | (simp; done) | (simp [ms_0]; done)) (by first | decide | (simp; done) | (simp [ms_0]; done)) (by first | decide | (simp; done) | (simp [ms_0]; done))]; exact (r5 i b hb).1) (fun i b hi => by omega) h
        exact step F2 q2 (fun m hm => by rw [q3 m hm, e143 147 (by first | decide | (simp; done) | (simp [ms_0]; done)) (by first | decide | (simp; done) | (simp [ms_0]; done)) (by first | decide | (simp; done) | (simp [ms_0]; done))]) q4 q1
      · have hnil : p.1.2.2 = [] := by
          rcases r3 with q | q | q | q | q
          · rw [q.2]; rfl
          · exact q.2
          · exact q.2.1
          · exact q.2
          · rw [r1] at h44; exact absurd q.1 h44
        exact step _ (fun c _ => rfl) (fun m _ => by rw [e143 147 (by first | decide | (simp; done) | (simp [ms_0]; done)) (by first | decide | (simp; done) | (simp [ms_0]; done)) (by first | decide | (simp; done) | (simp [ms_0]; done))]) (fun i b hb => by rw [hnil] at hb; simp at hb) h
    · rw [h4, w94] at h0
      obtain ⟨v2, n2, sl2, SH2, FI2, FL2, FR2, ht, e1, e2⟩ := h
      obtain ⟨q1, F2, q2, q3⟩ := r_tells ht
      first | (obtain ⟨zz1, zz2, zz3, zz4, zz5, zz6⟩ := st_c q2; (try subst zz1); (try subst zz2); (try subst zz3); (try subst zz4); (try subst zz5); (try subst zz6)) | cases q2
      refine ⟨e1.trans q1, F2, FL, e2, ⟨fun c hc => ⟨fk_row q3 (by omega), rfl⟩, fun k hk => ⟨fk_at q3 (by simp; omega), rfl⟩⟩, fk_at q3 (by first | decide | (simp; done) | (simp [ms_0]; done)), fk_at q3 (by first | decide | (simp; done) | (simp [ms_0]; done)), ?_⟩
      have ek : kk = Q.2.length := by omega
      refine lv_all (fun j p hj hp => ?_)
      have := hd j p (by omega) hp
      unfold rp at this ⊢
      rw [fk_row q3 (by first | decide | (simp; done) | (simp [ms_0]; done)), fk_row q3 (by first | decide | (simp; done) | (simp [ms_0]; done)), fk_row q3 (by first | decide | (simp; done) | (simp [ms_0]; done)), fk_row q3 (by first | decide | (simp; done) | (simp [ms_0]; done))]
      exact this
/-- what a meaning's end leaves -/
def me_c (FI : Nat → Nat → Int32) (FL : Nat → Nat → Int64) (n sl : Nat) (SH : Nat → Nat × Nat) (FR : Nat → Nat → Option Nat) (v : Int32) (st : hS) (r : Int ⊕ ms_Q) : Prop := ∃ F2 L2, st = (n, sl, SH, F2, L2, FR) ∧ xr FI FL F2 L2 ∧ match r with
  | .inl e => v.toInt = e ∧ e ≠ 0 ∧ F2 143 = FI 143 ∧ F2 145 = FI 145 ∧ F2 146 = FI 146 ∧ F2 147 = FI 147 ∧ L2 144 = FL 144 ∧ F2 121 46 = FI 121 46 ∧ F2 121 47 = FI 121 47
  | .inr Q => v.toInt = 0 ∧ rr F2 L2 Q
theorem mo_187 {a1 : Int32} {a2 : Int64} {FI : Nat → Nat → Int32} {FL : Nat → Nat → Int64} {r : Int ⊕ ms_Q} (hr : mw_r FI FL r) (h : RX12_means_187 a1 a2 n sl SH FI FL FR v st) : me_c FI FL n sl SH FR v st r := by
  rcases h with ⟨h0, g, h⟩ | ⟨h0, h⟩
  · match r, hr with
    | .inl e, hr => exact absurd (hr.1.symm.trans h0) hr.2
    | .inr Q, ⟨r1, r2⟩ =>
      have x0 : xr FI FL (h_up (h_up (h_up (h_up FI 121 31 ((0 : Int32))) 121 32 ((0 : Int32))) 121 46 (FI 121 94)) 121 47 (FI 121 95)) FL := ⟨fun c hc => ⟨by rw [h_up_nc (by omega), h_up_nc (by omega), h_up_nc (by omega), h_up_nc (by omega)], rfl⟩, fun k hk => ⟨by rw [h_up_x (by omega), h_up_x (by omega), h_up_x (by omega), h_up_x (by omega)], rfl⟩⟩
      obtain ⟨s1, F2, L2, s2, s3, s4, s5, s6⟩ := mo_233 g 0 0 _ FL (by first | decide | (simp; done) | (simp [ms_0]; done)) (by omega) (mw_fr r2 (x0.2 94 (by omega)).1 (x0.2 95 (by omega)).1 (x0.1 169 (by omega)).1 rfl (x0.1 171 (by omega)).1 (x0.1 172 (by omega)).1) (fun j p hj => by omega) h
      refine ⟨F2, L2, s2, xr_tr x0 s3, by rw [s1]; (first | decide | (simp; done) | (simp [ms_0]; done)), ?_, ?_, ⟨r2.2.2.1.1, by have := r2.2.2.1.2; omega⟩, r2.2.2.2.1, s6⟩
      · rw [s4, h_up_x (by first | decide | (simp; done) | (simp [ms_0]; done)), h_up_eq]; exact r2.1
      · rw [s5, h_up_eq]; exact r2.2.1
  · obtain ⟨v5, n5, sl5, SH5, FI5, FL5, FR5, ht, e1, e2⟩ := h
    obtain ⟨q1, F2, q2, q3⟩ := r_tells ht
    cases q2
    match r, hr with
    | .inr Q, hr => exact absurd hr.1 h0
    | .inl e, hr =>
      have x0 : ∀ c, c ≠ 121 → FI5 c = FI c := fun c hc => by rw [fk_row q3 hc, h_up_nc hc, h_up_nc hc]
      refine ⟨FI5, _, e2, ⟨fun c hc => ⟨x0 c (by omega), rfl⟩, fun k hk => ⟨by rw [fk_at q3 (by simp; omega), h_up_x (by omega), h_up_x (by omega)], rfl⟩⟩, by rw [e1, q1]; exact hr.1, hr.2, x0 143 (by first | decide | (simp; done) | (simp [ms_0]; done)), x0 145 (by first | decide | (simp; done) | (simp [ms_0]; done)), x0 146 (by first | decide | (simp; done) | (simp [ms_0]; done)), x0 147 (by first | decide | (simp; done) | (simp [ms_0]; done)), rfl, by rw [fk_at q3 (by first | decide | (simp; done) | (simp [ms_0]; done)), h_up_x (by first | decide | (simp; done) | (simp [ms_0]; done)), h_up_x (by first | decide | (simp; done) | (simp [ms_0]; done))], by rw [fk_at q3 (by first | decide | (simp; done) | (simp [ms_0]; done)), h_up_x (by first | decide | (simp; done) | (simp [ms_0]; done)), h_up_x (by first | decide | (simp; done) | (simp [ms_0]; done))]⟩
theorem ms_lt_0 {a b : Int64} {FI : Nat → Nat → Int32} {FL : Nat → Nat → Int64} : (fX12_isBelow a b SH FI FL FR).toInt = 0 ↔ ms_lt a b = false := by
  unfold fX12_isBelow ms_lt
  by_cases h : (a + (-9223372036854775808 : Int64)).toInt < (b + (-9223372036854775808 : Int64)).toInt
  · rw [if_pos h, decide_eq_true h]
    exact ⟨fun e => absurd e (by first | decide | (simp; done) | (simp [ms_0]; done)), fun e => by cases e⟩
  · rw [if_neg h, decide_eq_false h]
    exact ⟨fun _ => rfl, fun _ => by first | decide | (simp; done) | (simp [ms_0]; done)⟩
/-- the cells at a meaning's beginning -/
def mw_0 (FI : Nat → Nat → Int32) (FL : Nat → Nat → Int64) : Prop := (FI 121 93).toInt = 0 ∧ (FI 121 94).toInt = 1 ∧ (FI 121 95).toInt = 0 ∧ (FI 171 0).toInt = 0 ∧ rm FI FL 0 ms_0
theorem mw_0r {FI : Nat → Nat → Int32} {FL : Nat → Nat → Int64} (h : mw_0 FI FL) : mw_r FI FL (.inr (false, [(ms_0, 0, 0)])) := ⟨h.1, h.2.1, ⟨fun _ => rfl, fun _ => h.2.2.1⟩, by first | decide | (simp; done) | (simp [ms_0]; done), fun _ => rfl, ⟨h.2.2.2.2, h.2.2.2.1, rfl, by first | decide | (simp; done) | (simp [ms_0]; done), by first | decide | (simp; done) | (simp [ms_0]; done)⟩, trivial⟩
theorem mo_88 {a1 : Int32} {pc : Int64} {f i N : Nat} (hS : h_S n SH) (hK : K T = 0) (hT : T ≤ 1001) (hg : tk_rg K W) (hf : xfq E fb) (hi : a1.toInt = i) : ∀ (g g2 m t : Nat) (c : List Int) (b : Bool) (t2 : Nat) (l4 l5 : Int32) (FI : Nat → Nat → Int32) (FL : Nat → Nat → Int64), mtk K W T FI FL → rE FI FL SH E → (FI 121 92).toInt = t → t ≤ T → l5.toInt = m → l4.toInt = 0 → (FI 156 i).toInt = N → mw_0 FI FL → lp_rw K W f g2 m t = some (t2, N, c, b) → c.length ≤ 60000 → K t2 = 5 ∧ W t2 = 59 → GX12_means_88 a1 pc g l4 l5 n sl SH FI FL FR v st → ∃ Q : List r_Q, N = m + Q.length ∧ 1 ≤ Q.length ∧ c = rw_fl Q ∧ (∀ q, q ∈ Q → 0 ≤ q.1 ∧ q.1 ≤ 9223372036854775807 ∧ 0 ≤ q.2.1 ∧ q.2.1 ≤ 9223372036854775807 ∧ q.2.2.length ≤ 60000) ∧ ∃ r, mrws E fb pc Q r ∧ ∃ F1 L1, RX12_means_187 a1 pc n sl SH F1 L1 FR v st ∧ m9 FI FL F1 L1 ∧ mw_r F1 L1 r := by
  intro g
  induction g with
  | zero => intro g2 m t c b t2 l4 l5 FI FL _ _ _ _ _ _ _ _ _ _ _ h; exact h.elim
  | succ g ih =>
    intro g2 m t c b t2 l4 l5 FI FL htk hE h92 ht h5 h4 h156 h0 hl hlen hsm h
    have hmN := lp_rw_pos _ _ _ _ _ _ _ hl
    cases g2 with
    | zero => cases hl
    | succ g2 =>
      rw [lp_rw] at hl
      by_cases hc : K t = 3 ∧ m < 8 ∧ K (t + 1) = 5 ∧ W (t + 1) = 256 ∧ K (t + 2) = 3 ∧ W t < W (t + 2) ∧ K (t + 3) = 5 ∧ W (t + 3) = 58
      · rw [if_pos hc] at hl
        obtain ⟨-, h⟩ := h
        rw [show a1.toInt.toNat = i by omega, h156] at h
        have h := P_p (P_p h (by omega)) h4
        have a1' := lt_T hK ht (by omega)
        have a2' := lt_T hK a1' (by omega)
        have a3' := lt_T hK a2' (by show K (t + 2) ≠ 0; omega)
        have a4' := lt_T hK a3' (by show K (t + 3) ≠ 0; omega)
        have w0 := (hg t).1 hc.1
        have w2 := (hg (t + 2)).1 hc.2.2.2.2.1
        have n2 : (FI 121 92 + (2 : Int32)).toInt = ((t + 2 : Nat) : Int) := by
          rw [i_add h92 (by first | decide | (simp; done) | (simp [ms_0]; done) : ((2 : Int32)).toInt = 2) (by omega) (by omega)]
          omega
        have n4 : (FI 121 92 + (4 : Int32)).toInt = ((t + 4 : Nat) : Int) := by
          rw [i_add h92 (by first | decide | (simp; done) | (simp [ms_0]; done) : ((4 : Int32)).toInt = 4) (by omega) (by omega)]
          omega
        obtain ⟨-, -, h⟩ := h
        rw [show (FI 121 92).toInt.toNat = t by omega, show (FI 121 92 + (2 : Int32)).toInt.toNat = t + 2 by omega] at h
        have ew : Int64.ofInt (W t) = FL 153 t := by rw [← (htk t ht).2, l_oi]
        have ew2 : Int64.ofInt (W (t + 2)) = FL 153 (t + 2) := by rw [← (htk (t + 2) a2').2, l_oi]
        have kA : mk FI FL (h_up FI 121 92 (FI 121 92 + (4 : Int32))) FL := mk_f mk_rf (by omega)
        have zA : mw_0 (h_up FI 121 92 (FI 121 92 + (4 : Int32))) FL := by
          obtain ⟨z1, z2, z3, z4, z5⟩ := h0
          exact ⟨by rw [h_up_x (by first | decide | (simp; done) | (simp [ms_0]; done))]; exact z1, by rw [h_up_x (by first | decide | (simp; done) | (simp [ms_0]; done))]; exact z2, by rw [h_up_x (by first | decide | (simp; done) | (simp [ms_0]; done))]; exact z3, by rw [h_up_nc (by first | decide | (simp; done) | (simp [ms_0]; done))]; exact z4, rm_cg z5 (h_up_nc (by first | decide | (simp; done) | (simp [ms_0]; done))) rfl (h_up_nc (by first | decide | (simp; done) | (simp [ms_0]; done)))⟩
        have h92A : ((h_up FI 121 92 (FI 121 92 + (4 : Int32))) 121 92).toInt = ((t + 4 : Nat) : Int) := by rw [h_up_eq]; exact n4
        have hA156 : (h_up FI 121 92 (FI 121 92 + (4 : Int32))) 156 = FI 156 := h_up_nc (by first | decide | (simp; done) | (simp [ms_0]; done))
        generalize h_up FI 121 92 (FI 121 92 + (4 : Int32)) = FA at h kA zA h92A hA156
        cases hlc : lp_lc K W f (t + 4) with
        | none => rw [hlc] at hl; cases hl
        | some p =>
          obtain ⟨t1, c1⟩ := p
          rw [hlc] at hl
          (try dsimp only at hl)
          have hn1 : au_bn (K t1) (W t1) = 0 := by
            by_cases h44 : K t1 = 5 ∧ W t1 = 44
            · rw [h44.1, h44.2]; (first | decide | (simp; done) | (simp [ms_0]; done))
            · rw [if_neg h44] at hl
              cases hl
              rw [hsm.1, hsm.2]; (first | decide | (simp; done) | (simp [ms_0]; done))
          have lc1 : c1.length ≤ 60000 := by
            by_cases h44 : K t1 = 5 ∧ W t1 = 44
            · rw [if_pos h44] at hl
              cases hr : lp_rw K W f g2 (m + 1) (t1 + 1) with
              | none => rw [hr] at hl; cases hl
              | some p2 =>
                obtain ⟨t3, m3, c3, b3⟩ := p2
                rw [hr] at hl
                cases hl
                simp only [List.length_append] at hlen
                omega
            · rw [if_neg h44] at hl
              cases hl
              simp only [List.length_append] at hlen
              omega
          -- a row that holds
          have yes : mrow pc (W t, W (t + 2), c1) = true → RX12_means_163 (GX12_means_88 a1 pc g) a1 pc l5 (1 : Int32) n sl SH FA FL FR v st → ∃ r, mloc E fb c1 r ∧ ∃ F1 L1, RX12_means_187 a1 pc n sl SH F1 L1 FR v st ∧ m9 FI FL F1 L1 ∧ mw_r F1 L1 r := by
            intro _ h
            obtain ⟨v0, n0, sl0, SH0, FI0, FL0, FR0, hlo, h⟩ := h
            obtain ⟨-, s0, r, s1, F5, L5, s2, s3, s4, s5, s6, s7⟩ := mo_location (on := true) hS hK hT hg hf rfl (mt_mk htk kA) (rE_mk hE kA) h92A a4' zA.2.1 zA.2.2.1 zA.2.2.2.1 hlc lc1 hn1 hlo
            first | (obtain ⟨zz1, zz2, zz3, zz4, zz5, zz6⟩ := st_c s2; (try subst zz1); (try subst zz2); (try subst zz3); (try subst zz4); (try subst zz5); (try subst zz6)) | cases s2
            have fin : RX12_means_187 a1 pc n sl SH (h_up F5 121 92 (F5 121 92 + (1 : Int32))) L5 FR v st := by
              cases g with
              | zero => exact h.elim
              | succ g =>
                obtain ⟨-, h⟩ := h
                rcases h with ⟨-, h⟩ | ⟨-, h⟩
                · exact P_n h (by first | decide | (simp; done) | (simp [ms_0]; done))
                · exact h
            refine ⟨r, s1, _, _, fin, m9_f (m9_tr (m9_mk kA) s3) (by omega), ?_⟩
            have s7 := s7 rfl zA.1
            match r, s7 with
            | .inl e, s7 => exact ⟨by rw [h_up_x (by first | decide | (simp; done) | (simp [ms_0]; done))]; exact s7.1, s7.2⟩
            | .inr Q, s7 => exact ⟨by rw [h_up_x (by first | decide | (simp; done) | (simp [ms_0]; done))]; exact s7.1, mw_fr s7.2 (h_up_x (by first | decide | (simp; done) | (simp [ms_0]; done))) (h_up_x (by first | decide | (simp; done) | (simp [ms_0]; done))) (h_up_nc (by first | decide | (simp; done) | (simp [ms_0]; done))) rfl (h_up_nc (by first | decide | (simp; done) | (simp [ms_0]; done))) (h_up_nc (by first | decide | (simp; done) | (simp [ms_0]; done)))⟩
          -- a row that does not
          have no : ∀ {v0 : Unit} {n0 sl0 : Nat} {SH0 : Nat → Nat × Nat} {FI0 : Nat → Nat → Int32} {FL0 : Nat → Nat → Int64} {FR0 : Nat → Nat → Option Nat}, RX12_meantLocation (0 : Int32) n sl SH FA FL FR v0 (n0, sl0, SH0, FI0, FL0, FR0) → t1 ≤ T ∧ ∃ F5 L5, (n0, sl0, SH0, FI0, FL0, FR0) = (n, sl, SH, F5, L5, FR) ∧ m9 FI FL F5 L5 ∧ (F5 121 92).toInt = t1 ∧ mw_0 (h_up F5 121 92 (F5 121 92 + (1 : Int32))) L5 := by
            intro v0 n0 sl0 SH0 FI0 FL0 FR0 hlo
            obtain ⟨-, s0, r, s1, F5, L5, s2, s3, s4, s5, s6, s7⟩ := mo_location (on := false) hS hK hT hg hf rfl (mt_mk htk kA) (rE_mk hE kA) h92A a4' zA.2.1 zA.2.2.1 zA.2.2.2.1 hlc lc1 hn1 hlo
            refine ⟨s0, F5, L5, s2, m9_tr (m9_mk kA) s3, s4, ?_⟩
            obtain ⟨o1, o2, o3, o4, o5, o6⟩ := s5 rfl
            obtain ⟨z1, z2, z3, z4, z5⟩ := zA
            refine ⟨?_, ?_, ?_, ?_, ?_⟩
            · rw [h_up_x (by first | decide | (simp; done) | (simp [ms_0]; done)), s6 (fun e => by cases e.1)]; exact z1
            · rw [h_up_x (by first | decide | (simp; done) | (simp [ms_0]; done)), o5]; exact z2
            · rw [h_up_x (by first | decide | (simp; done) | (simp [ms_0]; done)), o6]; exact z3
            · rw [h_up_nc (by first | decide | (simp; done) | (simp [ms_0]; done)), o3]; exact z4
            · exact rm_cg z5 (by rw [h_up_nc (by first | decide | (simp; done) | (simp [ms_0]; done)), o1]) o2 (by rw [h_up_nc (by first | decide | (simp; done) | (simp [ms_0]; done)), o4])
          have nl5 : (l5 + (1 : Int32)).toInt = ((m + 1 : Nat) : Int) := by
            rw [i_add h5 (by first | decide | (simp; done) | (simp [ms_0]; done) : ((1 : Int32)).toInt = 1) (by omega) (by omega)]
            omega
          have rg1 : 0 ≤ (W t, W (t + 2), c1).1 ∧ (W t, W (t + 2), c1).1 ≤ 9223372036854775807 ∧ 0 ≤ (W t, W (t + 2), c1).2.1 ∧ (W t, W (t + 2), c1).2.1 ≤ 9223372036854775807 ∧ (W t, W (t + 2), c1).2.2.length ≤ 60000 := ⟨w0.1, by show W t ≤ 9223372036854775807; omega, w2.1, by show W (t + 2) ≤ 9223372036854775807; omega, lc1⟩
          -- both kinds of rows
          have key : (mrow pc (W t, W (t + 2), c1) = true ∧ RX12_means_163 (GX12_means_88 a1 pc g) a1 pc l5 (1 : Int32) n sl SH FA FL FR v st) ∨ (¬ mrow pc (W t, W (t + 2), c1) = true ∧ RX12_means_163 (GX12_means_88 a1 pc g) a1 pc l5 (0 : Int32) n sl SH FA FL FR v st) := by
            have em : mrow pc (W t, W (t + 2), c1) = (!(ms_lt pc (FL 153 t)) && ms_lt pc (FL 153 (t + 2))) := by
              show (!(ms_lt pc (Int64.ofInt (W t))) && ms_lt pc (Int64.ofInt (W (t + 2)))) = _
              rw [ew, ew2]
            rw [em]
            rcases h with ⟨b1, h⟩ | ⟨b1, h⟩
            · rw [ms_lt_0] at b1
              rcases h with ⟨b2, h⟩ | ⟨b2, h⟩
              · rw [ms_lt_0] at b2
                exact Or.inr ⟨by rw [b1, b2]; (first | decide | (simp; done) | (simp [ms_0]; done)), h⟩
              · have b2 : ms_lt pc (FL 153 (t + 2)) = true := by
                  cases e : ms_lt pc (FL 153 (t + 2)) with
                  | true => rfl
                  | false => exact absurd (ms_lt_0.mpr e) b2
                exact Or.inl ⟨by rw [b1, b2]; (first | decide | (simp; done) | (simp [ms_0]; done)), h⟩
            · have b1 : ms_lt pc (FL 153 t) = true := by
                cases e : ms_lt pc (FL 153 t) with
                | true => rfl
                | false => exact absurd (ms_lt_0.mpr e) b1
              exact Or.inr ⟨by rw [b1]; simp, h⟩
          by_cases h44 : K t1 = 5 ∧ W t1 = 44
          · rw [if_pos h44] at hl
            cases hr : lp_rw K W f g2 (m + 1) (t1 + 1) with
            | none => rw [hr] at hl; cases hl
            | some p2 =>
              obtain ⟨t3, m3, c3, b3⟩ := p2
              rw [hr] at hl
              cases hl
              have lc3 : c3.length ≤ 60000 := by
                simp only [List.length_append] at hlen
                omega
              -- what the other rows are: from their tokens alone
              obtain ⟨Q, q1, q2, q3, q4⟩ := lp_rw_Q hg g2 (m + 1) (t1 + 1) t2 N c3 b3 hr lc3
              refine ⟨(W t, W (t + 2), c1) :: Q, by simp only [List.length_cons]; omega, by simp only [List.length_cons]; omega, by rw [rw_fl_c, q3], ?_, ?_⟩
              · intro q hq
                rcases List.mem_cons.mp hq with hq | hq
                · rw [hq]; exact rg1
                · exact q4 q hq
              · rcases key with ⟨kr, h⟩ | ⟨kr, h⟩
                · obtain ⟨r, s1, s2⟩ := yes kr h
                  exact ⟨r, Or.inl ⟨kr, s1⟩, s2⟩
                · obtain ⟨v0, n0, sl0, SH0, FI0, FL0, FR0, hlo, h⟩ := h
                  obtain ⟨t1T, F5, L5, s2, s3, s4, s5⟩ := no hlo
                  first | (obtain ⟨zz1, zz2, zz3, zz4, zz5, zz6⟩ := st_c s2; (try subst zz1); (try subst zz2); (try subst zz3); (try subst zz4); (try subst zz5); (try subst zz6)) | cases s2
                  have ht1 := lt_T hK t1T (by omega)
                  have k5 : m9 FI FL (h_up F5 121 92 (F5 121 92 + (1 : Int32))) L5 := m9_f s3 (by omega)
                  obtain ⟨Q2, u1, u2, u3, u4, r, u5, F1, L1, u6, u7, u8⟩ := ih g2 (m + 1) (t1 + 1) c3 b3 t2 0 (l5 + (1 : Int32)) _ L5 (mt_m9 htk k5) (rE_m9 hE k5) (by rw [h_up_eq, i_add s4 (by first | decide | (simp; done) | (simp [ms_0]; done) : ((1 : Int32)).toInt = 1) (by omega) (by omega)]; omega) ht1 nl5 (by first | decide | (simp; done) | (simp [ms_0]; done)) (by rw [(k5.1 156 (by omega)).1]; exact h156) s5 hr lc3 hsm h
                  have eQ : Q = Q2 := rw_fl_u Q Q2 [] [] (by omega) q4 u4 (by rw [← q3, u3])
                  subst eQ
                  exact ⟨r, Or.inr ⟨kr, u5⟩, F1, L1, u6, m9_tr k5 u7, u8⟩
          · rw [if_neg h44] at hl
            cases hl
            refine ⟨[(W t, W (t + 2), c1)], by simp only [List.length_cons, List.length_nil], by first | decide | (simp; done) | (simp [ms_0]; done), by rw [rw_fl_c]; show _ = _ ++ (_ ++ (_ ++ (c1 ++ []))); rw [List.append_nil], ?_, ?_⟩
            · intro q hq
              rw [List.mem_singleton.mp hq]
              exact rg1
            · rcases key with ⟨kr, h⟩ | ⟨kr, h⟩
              · obtain ⟨r, s1, s2⟩ := yes kr h
                exact ⟨r, Or.inl ⟨kr, s1⟩, s2⟩
              · obtain ⟨v0, n0, sl0, SH0, FI0, FL0, FR0, hlo, h⟩ := h
                obtain ⟨t1T, F5, L5, s2, s3, s4, s5⟩ := no hlo
                first | (obtain ⟨zz1, zz2, zz3, zz4, zz5, zz6⟩ := st_c s2; (try subst zz1); (try subst zz2); (try subst zz3); (try subst zz4); (try subst zz5); (try subst zz6)) | cases s2
                have k5 : m9 FI FL (h_up F5 121 92 (F5 121 92 + (1 : Int32))) L5 := m9_f s3 (by omega)
                refine ⟨.inr (false, [(ms_0, 0, 0)]), Or.inr ⟨kr, rfl⟩, h_up F5 121 92 (F5 121 92 + (1 : Int32)), L5, ?_, k5, mw_0r s5⟩
                cases g with
                | zero => exact h.elim
                | succ g =>
                  obtain ⟨-, h⟩ := h
                  rw [show a1.toInt.toNat = i by omega, (k5.1 156 (by omega)).1, h156, nl5] at h
                  exact P_n h (by omega)
      · rw [if_neg hc] at hl; cases hl
/-- what means leaves alone -/
def m8 (FI : Nat → Nat → Int32) (FL : Nat → Nat → Int64) (F2 : Nat → Nat → Int32) (L2 : Nat → Nat → Int64) : Prop := (∀ c, (c < 121 ∨ (121 < c ∧ c < 127) ∨ (147 < c ∧ c < 165) ∨ c = 167 ∨ c = 168 ∨ 175 < c) → F2 c = FI c ∧ L2 c = FL c) ∧ (∀ k, ((0 < k ∧ k < 29) ∨ (57 < k ∧ k < 90) ∨ (95 < k ∧ k < 101) ∨ (101 < k ∧ k < 104) ∨ 104 < k) → F2 121 k = FI 121 k ∧ L2 121 k = FL 121 k)
/-- what means leaves: its answer, the result -/
def mn_c (FI : Nat → Nat → Int32) (FL : Nat → Nat → Int64) (n sl : Nat) (SH : Nat → Nat × Nat) (FR : Nat → Nat → Option Nat) (v : Int32) (st : hS) (r : Int ⊕ ms_Q) : Prop := ∃ F2 L2, st = (n, sl, SH, F2, L2, FR) ∧ m8 FI FL F2 L2 ∧ match r with
  | .inl e => v.toInt = e ∧ e ≠ 0 ∧ F2 143 = FI 143 ∧ F2 145 = FI 145 ∧ F2 146 = FI 146 ∧ F2 147 = FI 147 ∧ L2 144 = FL 144 ∧ F2 121 46 = FI 121 46 ∧ F2 121 47 = FI 121 47
  | .inr Q => v.toInt = 0 ∧ rr F2 L2 Q
theorem mn_of {FI F1 F0 : Nat → Nat → Int32} {FL L1 L0 : Nat → Nat → Int64} {r : Int ⊕ ms_Q} (h : me_c F1 L1 n sl SH FR v st r) (k9 : m9 F0 L0 F1 L1) (e0 : ∀ c, c < 165 → c ≠ 121 → F0 c = FI c ∧ L0 c = FL c) (e1 : ∀ c, (c = 167 ∨ c = 168 ∨ 175 < c) → F0 c = FI c ∧ L0 c = FL c) (e2 : ∀ k, k ≠ 0 → (k < 90 ∨ 95 < k) → F0 121 k = FI 121 k ∧ L0 121 k = FL 121 k) : mn_c FI FL n sl SH FR v st r := by
  obtain ⟨F2, L2, h1, h2, h3⟩ := h
  have c0 : ∀ c, (c < 121 ∨ (121 < c ∧ c < 127) ∨ (142 < c ∧ c < 165) ∨ c = 167 ∨ c = 168 ∨ 175 < c) → F1 c = FI c ∧ L1 c = FL c := fun c hc => by
    obtain ⟨a, b⟩ := k9.1 c hc
    rw [a, b]
    by_cases h165 : c < 165
    · exact e0 c h165 (by omega)
    · exact e1 c (by omega)
  have k0 : ∀ k, ((0 < k ∧ k < 29) ∨ (44 < k ∧ k < 90) ∨ (95 < k ∧ k < 101) ∨ (101 < k ∧ k < 104) ∨ 104 < k) → F1 121 k = FI 121 k ∧ L1 121 k = FL 121 k := fun k hk => by
    obtain ⟨a, b⟩ := k9.2 k (by omega)
    rw [a, b]
    exact e2 k (by omega) (by omega)
  refine ⟨F2, L2, h1, ⟨fun c hc => ?_, fun k hk => ?_⟩, ?_⟩
  · obtain ⟨a, b⟩ := h2.1 c (by omega)
    rw [a, b]
    exact c0 c (by omega)
  · obtain ⟨a, b⟩ := h2.2 k (by omega)
    rw [a, b]
    exact k0 k (by omega)
  · match r, h3 with
    | .inl e, ⟨a1, a2, a3, a4, a5, a6, a7, a8, a9⟩ => exact ⟨a1, a2, by rw [a3]; exact (c0 143 (by omega)).1, by rw [a4]; exact (c0 145 (by omega)).1, by rw [a5]; exact (c0 146 (by omega)).1, by rw [a6]; exact (c0 147 (by omega)).1, by rw [a7]; exact (c0 144 (by omega)).2, by rw [a8]; exact (k0 46 (by omega)).1, by rw [a9]; exact (k0 47 (by omega)).1⟩
    | .inr Q, h3 => exact h3
theorem r_means {a1 : Int32} {pc : Int64} {f i N t1 : Nat} {x : lp_V} {FI : Nat → Nat → Int32} {FL : Nat → Nat → Int64} (hS : h_S n SH) (hK : K T = 0) (hT : T ≤ 1001) (hg : tk_rg K W) (hf : xfq E fb) (htk : mtk K W T FI FL) (hE : rE FI FL SH E) (hi : a1.toInt = i) (h74 : (FI 121 74).toInt = N) (hiN : i < N) (h157 : (FI 157 i).toInt = x.2.1) (h156 : (FI 156 i).toInt = x.2.2.1) (hb : lp_bd K W f x.2.1 = some (t1, x.2.2.1, x.2.2.2.1, x.2.2.2.2)) (hsm : K t1 = 5 ∧ W t1 = 59) (hlen : x.2.2.2.1.length ≤ 600) (ht0 : x.2.1 ≤ T) (h : RX12_means a1 pc n sl SH FI FL FR v st) : ∃ r, mvar E fb pc x.2.2.1 x.2.2.2.1 r ∧ mn_c FI FL n sl SH FR v st r := by
  have h := P_n h (by omega)
  have h := P_p h (by omega)
  obtain ⟨-, -, -, -, -, h⟩ := h
  rw [show a1.toInt.toNat = i by omega] at h
  have z0 : ((0 : Int32)).toInt = 0 := by first | decide | (simp; done) | (simp [ms_0]; done)
  -- the beginning
  generalize hF : h_up (h_up (h_up (h_up (h_up (h_up (h_up FI 121 0 ((0 : Int32))) 121 93 ((0 : Int32))) 121 92 (FI 157 i)) 121 94 ((1 : Int32))) 121 95 ((0 : Int32))) 169 0 ((0 : Int32))) 171 0 ((0 : Int32)) = F0 at h
  have f121 : ∀ k, k ≠ 0 → k ≠ 92 → k ≠ 93 → k ≠ 94 → k ≠ 95 → F0 121 k = FI 121 k := fun k h1 h2 h3 h4 h5 => by rw [← hF, h_up_nc (by first | decide | (simp; done) | (simp [ms_0]; done)), h_up_nc (by first | decide | (simp; done) | (simp [ms_0]; done)), h_up_ne h5, h_up_ne h4, h_up_ne h2, h_up_ne h3, h_up_ne h1]
  have fc : ∀ c, c ≠ 121 → c ≠ 169 → c ≠ 171 → F0 c = FI c := fun c h1 h2 h3 => by rw [← hF, h_up_nc h3, h_up_nc h2, h_up_nc h1, h_up_nc h1, h_up_nc h1, h_up_nc h1, h_up_nc h1]
  have f92 : (F0 121 92).toInt = x.2.1 := by rw [← hF, h_up_nc (by first | decide | (simp; done) | (simp [ms_0]; done)), h_up_nc (by first | decide | (simp; done) | (simp [ms_0]; done)), h_up_ne (by first | decide | (simp; done) | (simp [ms_0]; done)), h_up_ne (by first | decide | (simp; done) | (simp [ms_0]; done)), h_up_eq]; exact h157
  have zz : mw_0 F0 (h_up FL 170 0 ((0 : Int64))) := by
    refine ⟨?_, ?_, ?_, ?_, ?_, h_up_eq, Or.inl ⟨rfl, rfl⟩, by first | decide | (simp; done) | (simp [ms_0]; done), fun k b hk => by simp [ms_0] at hk⟩
    · rw [← hF, h_up_nc (by first | decide | (simp; done) | (simp [ms_0]; done)), h_up_nc (by first | decide | (simp; done) | (simp [ms_0]; done)), h_up_ne (by first | decide | (simp; done) | (simp [ms_0]; done)), h_up_ne (by first | decide | (simp; done) | (simp [ms_0]; done)), h_up_ne (by first | decide | (simp; done) | (simp [ms_0]; done)), h_up_eq]; exact z0
    · rw [← hF, h_up_nc (by first | decide | (simp; done) | (simp [ms_0]; done)), h_up_nc (by first | decide | (simp; done) | (simp [ms_0]; done)), h_up_ne (by first | decide | (simp; done) | (simp [ms_0]; done)), h_up_eq]; (first | decide | (simp; done) | (simp [ms_0]; done))
    · rw [← hF, h_up_nc (by first | decide | (simp; done) | (simp [ms_0]; done)), h_up_nc (by first | decide | (simp; done) | (simp [ms_0]; done)), h_up_eq]; exact z0
    · rw [← hF, h_up_eq]; exact z0
    · rw [← hF, h_up_nc (by first | decide | (simp; done) | (simp [ms_0]; done)), h_up_eq]; exact z0
  have htk0 : mtk K W T F0 (h_up FL 170 0 ((0 : Int64))) := fun j hj => by
    rw [fc 152 (by first | decide | (simp; done) | (simp [ms_0]; done)) (by first | decide | (simp; done) | (simp [ms_0]; done)) (by first | decide | (simp; done) | (simp [ms_0]; done)), h_up_nc (by first | decide | (simp; done) | (simp [ms_0]; done))]
    exact htk j hj
  have hE0 : rE F0 (h_up FL 170 0 ((0 : Int64))) SH E := by
    obtain ⟨e1, e2, e3, e4, e5, e6, e7, e8⟩ := hE
    refine ⟨by rw [h_up_nc (by first | decide | (simp; done) | (simp [ms_0]; done))]; exact e1, by rw [fc 123 (by first | decide | (simp; done) | (simp [ms_0]; done)) (by first | decide | (simp; done) | (simp [ms_0]; done)) (by first | decide | (simp; done) | (simp [ms_0]; done))]; exact e2, fun k hk => ?_, ?_, ?_, by rw [h_up_nc (by first | decide | (simp; done) | (simp [ms_0]; done))]; exact e6, ?_, ?_⟩
    · rw [fc 125 (by first | decide | (simp; done) | (simp [ms_0]; done)) (by first | decide | (simp; done) | (simp [ms_0]; done)) (by first | decide | (simp; done) | (simp [ms_0]; done))]
      exact ⟨(e3 k hk).1, (e3 k hk).2.1, bk_fr (e3 k hk).2.2 (fc 124 (by first | decide | (simp; done) | (simp [ms_0]; done)) (by first | decide | (simp; done) | (simp [ms_0]; done)) (by first | decide | (simp; done) | (simp [ms_0]; done)))⟩
    · rw [f121 5 (by first | decide | (simp; done) | (simp [ms_0]; done)) (by first | decide | (simp; done) | (simp [ms_0]; done)) (by first | decide | (simp; done) | (simp [ms_0]; done)) (by first | decide | (simp; done) | (simp [ms_0]; done)) (by first | decide | (simp; done) | (simp [ms_0]; done))]; exact e4
    · rw [f121 6 (by first | decide | (simp; done) | (simp [ms_0]; done)) (by first | decide | (simp; done) | (simp [ms_0]; done)) (by first | decide | (simp; done) | (simp [ms_0]; done)) (by first | decide | (simp; done) | (simp [ms_0]; done)) (by first | decide | (simp; done) | (simp [ms_0]; done))]; exact e5
    · rw [f121 10 (by first | decide | (simp; done) | (simp [ms_0]; done)) (by first | decide | (simp; done) | (simp [ms_0]; done)) (by first | decide | (simp; done) | (simp [ms_0]; done)) (by first | decide | (simp; done) | (simp [ms_0]; done)) (by first | decide | (simp; done) | (simp [ms_0]; done)), h_up_nc (by first | decide | (simp; done) | (simp [ms_0]; done))]; exact e7
    · rw [f121 11 (by first | decide | (simp; done) | (simp [ms_0]; done)) (by first | decide | (simp; done) | (simp [ms_0]; done)) (by first | decide | (simp; done) | (simp [ms_0]; done)) (by first | decide | (simp; done) | (simp [ms_0]; done)) (by first | decide | (simp; done) | (simp [ms_0]; done)), h_up_nc (by first | decide | (simp; done) | (simp [ms_0]; done))]; exact e8
  have q0 : ∀ c, c < 165 → c ≠ 121 → F0 c = FI c ∧ (h_up FL 170 0 ((0 : Int64))) c = FL c := fun c h1 h2 => ⟨fc c h2 (by omega) (by omega), h_up_nc (by omega)⟩
  have q1 : ∀ c, (c = 167 ∨ c = 168 ∨ 175 < c) → F0 c = FI c ∧ (h_up FL 170 0 ((0 : Int64))) c = FL c := fun c h1 => ⟨fc c (by omega) (by omega) (by omega), h_up_nc (by omega)⟩
  have q2 : ∀ k, k ≠ 0 → (k < 90 ∨ 95 < k) → F0 121 k = FI 121 k ∧ (h_up FL 170 0 ((0 : Int64))) 121 k = FL 121 k := fun k h1 h2 => ⟨f121 k h1 (by omega) (by omega) (by omega) (by omega), by rw [h_up_nc (by first | decide | (simp; done) | (simp [ms_0]; done))]⟩
  rw [h156] at h
  unfold lp_bd at hb
  by_cases h3 : K x.2.1 = 3
  · rw [if_pos h3] at hb
    cases hr : lp_rw K W f 20 0 x.2.1 with
    | none => rw [hr] at hb; cases hb
    | some p =>
      obtain ⟨t2, m2, c2, b2⟩ := p
      rw [hr] at hb
      have hb : some (t2, m2, c2 ++ (lc_by 0 8 ++ lc_by 0 8), b2) = some (t1, x.2.2.1, x.2.2.2.1, x.2.2.2.2) := hb
      have hb := Option.some.inj hb
      have e1 : t2 = t1 := congrArg Prod.fst hb
      have e2 : m2 = x.2.2.1 := congrArg (fun z => z.2.1) hb
      have e3 : c2 ++ (lc_by 0 8 ++ lc_by 0 8) = x.2.2.2.1 := congrArg (fun z => z.2.2.1) hb
      have hp := lp_rw_pos _ _ _ _ _ _ _ hr
      obtain ⟨g, h⟩ := P_n h (by omega)
      rw [e1, e2] at hr
      have hl2 : c2.length ≤ 60000 := by
        rw [← e3, List.length_append] at hlen
        omega
      obtain ⟨Q, u1, u2, u3, u4, r, u5, F1, L1, u6, u7, u8⟩ := mo_88 (N := x.2.2.1) hS hK hT hg hf hi g 20 0 x.2.1 c2 b2 t1 0 0 F0 _ htk0 hE0 f92 ht0 z0 z0 (by rw [fc 156 (by first | decide | (simp; done) | (simp [ms_0]; done)) (by first | decide | (simp; done) | (simp [ms_0]; done)) (by first | decide | (simp; done) | (simp [ms_0]; done))]; exact h156) zz hr hl2 hsm h
      exact ⟨r, Or.inr ⟨Q, by omega, by omega, by rw [← e3, u3], u4, u5⟩, mn_of (mo_187 u8 u6) u7 q0 q1 q2⟩
  · rw [if_neg h3] at hb
    cases hr : lp_lc K W f x.2.1 with
    | none => rw [hr] at hb; cases hb
    | some p =>
      obtain ⟨t2, c2⟩ := p
      rw [hr] at hb
      have hb : some (t2, 0, c2, decide (300 < c2.length)) = some (t1, x.2.2.1, x.2.2.2.1, x.2.2.2.2) := hb
      have hb := Option.some.inj hb
      have e1 : t2 = t1 := congrArg Prod.fst hb
      have e2 : 0 = x.2.2.1 := congrArg (fun z => z.2.1) hb
      have e3 : c2 = x.2.2.2.1 := congrArg (fun z => z.2.2.1) hb
      subst e1
      obtain ⟨v8, n8, sl8, SH8, FI8, FL8, FR8, hlo, h⟩ := P_p h (by omega)
      have hn : au_bn (K t2) (W t2) = 0 := by rw [hsm.1, hsm.2]; (first | decide | (simp; done) | (simp [ms_0]; done))
      obtain ⟨-, s0, r, s1, F5, L5, s2, s3, s4, s5, s6, s7⟩ := mo_location (on := true) hS hK hT hg hf rfl htk0 hE0 f92 ht0 zz.2.1 zz.2.2.1 zz.2.2.2.1 hr (by rw [e3]; omega) hn hlo
      cases s2
      refine ⟨r, Or.inl ⟨e2.symm, by rw [← e3]; exact s1⟩, mn_of (mo_187 (s7 rfl zz.1) h) s3 q0 q1 q2⟩
end MN
end
section
/-! THE CLASS'S MEANINGS: places, locations. -/
/-- a location's parts as they hang together: one alone without a width, or all with one -/
def w_ls (F : Nat → Nat → Int32) (L : Nat → Nat → Int64) (R : Nat → Nat → Option Nat) (SH : Nat → Nat × Nat) : Nat → Option Nat → List Int → Prop
  | 0, _, _ => False
  | _ + 1, none, code => code = []
  | f + 1, some c, code => ∃ a r, w_pl F L R SH c a ∧ w_ls F L R SH f (R c 5) r ∧ (-1 ≤ (F c 4).toInt ∧ ((F c 4).toInt = -1 → R c 5 = none) ∧ ∀ d, R c 5 = some d → 0 ≤ (F d 4).toInt) ∧ code = a ++ ((if (F c 4).toInt = -1 then [] else 147 :: lc_u 9 (F c 4).toInt) ++ r)
/-- what meanings leave alone -/
def vz (FI : Nat → Nat → Int32) (FL : Nat → Nat → Int64) (FR : Nat → Nat → Option Nat) (F2 : Nat → Nat → Int32) (L2 : Nat → Nat → Int64) (R2 : Nat → Nat → Option Nat) : Prop := (∀ c, (c < 48 ∨ 109 < c) → F2 c = FI c ∧ L2 c = FL c ∧ R2 c = FR c) ∧ th R2 ∧ thI R2 ∧ tx R2 91 92 93
section CME
variable {n sl : Nat} {SH : Nat → Nat × Nat} {FI F2 F3 : Nat → Nat → Int32} {FL L2 L3 : Nat → Nat → Int64} {FR R2 R3 : Nat → Nat → Option Nat} {st : hS} {E : ms_E} {fb : xX} {u : Unit}
theorem w_pl_ag3 {c : Nat} {code : List Int} (h : ∀ c, 176 ≤ c → F2 c = FI c ∧ L2 c = FL c ∧ R2 c = FR c) (w : w_pl FI FL FR SH c code) : w_pl F2 L2 R2 SH c code := by
  obtain ⟨w0, w⟩ := w
  obtain ⟨e1, e2, e3⟩ := h c w0
  refine ⟨w0, ?_⟩
  rw [e1, e2, e3]
  rcases w with ⟨k, f, hf⟩ | hw | ⟨k, f, a, hf, e⟩ | ⟨k, b, bs, h1, h2, h3, h4, h5, h6⟩ | hw
  · exact Or.inl ⟨k, f, by rw [n_cd_ag3 h]; exact hf⟩
  · exact Or.inr (Or.inl hw)
  · exact Or.inr (Or.inr (Or.inl ⟨k, f, a, by rw [n_cd_ag3 h]; exact hf, e⟩))
  · exact Or.inr (Or.inr (Or.inr (Or.inl ⟨k, b, bs, h1, h2, h3, h4, fun i hi => by rw [(h b h2).1]; exact h5 i hi, h6⟩)))
  · exact Or.inr (Or.inr (Or.inr (Or.inr hw)))
theorem w_ls_ag3 (h : ∀ c, 176 ≤ c → F2 c = FI c ∧ L2 c = FL c ∧ R2 c = FR c) (hd : ∀ c d, 176 ≤ c → FR c 5 = some d → 0 ≤ (FI d 4).toInt → 0 ≤ (F2 d 4).toInt) : ∀ (f : Nat) (o : Option Nat) (code : List Int), w_ls FI FL FR SH f o code → w_ls F2 L2 R2 SH f o code := by
  intro f
  induction f with
  | zero => intro o code hw; exact hw.elim
  | succ f ih =>
    intro o code hw
    cases o with
    | none => exact hw
    | some c =>
      obtain ⟨a, r, h1, h2, ⟨h3, h5, h6⟩, h4⟩ := hw
      obtain ⟨e1, e2, e3⟩ := h c h1.1
      refine ⟨a, r, w_pl_ag3 h h1, by rw [e3]; exact ih _ _ h2, ⟨by rw [e1]; exact h3, by rw [e1, e3]; exact h5, fun d hd2 => ?_⟩, by rw [e1]; exact h4⟩
      rw [e3] at hd2
      exact hd c d h1.1 hd2 (h6 d hd2)
theorem w_ls_ge {f d : Nat} {code : List Int} (h : w_ls FI FL FR SH f (some d) code) : 176 ≤ d := by
  cases f with
  | zero => exact h.elim
  | succ f =>
    obtain ⟨a, r, h1, -⟩ := h
    exact h1.1
theorem w_ls_ag (h : ∀ c, 176 ≤ c → F2 c = FI c ∧ L2 c = FL c ∧ R2 c = FR c) : ∀ (f : Nat) (o : Option Nat) (code : List Int), w_ls FI FL FR SH f o code → w_ls F2 L2 R2 SH f o code := by
  intro f
  induction f with
  | zero => intro o code hw; exact hw.elim
  | succ f ih =>
    intro o code hw
    cases o with
    | none => exact hw
    | some c =>
      obtain ⟨a, r, h1, h2, ⟨h3, h5, h6⟩, h4⟩ := hw
      obtain ⟨e1, e2, e3⟩ := h c h1.1
      refine ⟨a, r, w_pl_ag3 h h1, by rw [e3]; exact ih _ _ h2, ⟨by rw [e1]; exact h3, by rw [e1, e3]; exact h5, fun d hd2 => ?_⟩, by rw [e1]; exact h4⟩
      rw [e3] at hd2
      rw [hd2] at h2
      rw [(h d (w_ls_ge h2)).1]
      exact h6 d hd2
theorem vz_tr (h : vz FI FL FR F2 L2 R2) (g : vz F2 L2 R2 F3 L3 R3) : vz FI FL FR F3 L3 R3 := ⟨fun c hc => ⟨(g.1 c hc).1.trans (h.1 c hc).1, (g.1 c hc).2.1.trans (h.1 c hc).2.1, (g.1 c hc).2.2.trans (h.1 c hc).2.2⟩, g.2⟩
theorem vz_dyn (h : vz FI FL FR F2 L2 R2) : ∀ c, 176 ≤ c → F2 c = FI c ∧ L2 c = FL c ∧ R2 c = FR c := fun c hc => h.1 c (by omega)
theorem tx_eq (h : tx FR 91 92 93) (e1 : R2 91 = FR 91) (e2 : R2 92 = FR 92) : tx R2 91 92 93 := by
  unfold tx
  rw [e1, e2]
  exact h
theorem vz_vk (t1 : tx FR 91 92 93) (h : vk FI FL FR F2 L2 R2) : vz FI FL FR F2 L2 R2 := ⟨fun c hc => h.1 c (by omega), h.2.2.2.2.1, h.2.2.2.2.2, tx_eq t1 (h.1 91 (by omega)).2.2 (h.1 92 (by omega)).2.2⟩
theorem cE_vz (hE : cE FI FL FR SH E) (h : vz FI FL FR F2 L2 R2) : cE F2 L2 R2 SH E := cE_fr hE rg_t (fun c hc => h.1 c (by omega))
/-- references of other cells do not matter to th, thI -/
theorem th_eq (h : th FR ∧ thI FR) (e : ∀ c, c ≠ 109 → (c < 93 ∨ 108 < c) → R2 c = FR c) : th R2 ∧ thI R2 := by
  obtain ⟨h1, h2⟩ := h
  refine ⟨?_, ?_⟩
  · unfold th at h1 ⊢
    rw [e 72 (by first | decide | (simp; done) | (simp [ms_0]; done)) (by first | decide | (simp; done) | (simp [ms_0]; done)), e 73 (by first | decide | (simp; done) | (simp [ms_0]; done)) (by first | decide | (simp; done) | (simp [ms_0]; done))]
    exact h1
  · unfold thI at h2 ⊢
    rw [e 52 (by first | decide | (simp; done) | (simp [ms_0]; done)) (by first | decide | (simp; done) | (simp [ms_0]; done)), e 53 (by first | decide | (simp; done) | (simp [ms_0]; done)) (by first | decide | (simp; done) | (simp [ms_0]; done))]
    exact h2
/-- the thing that is met -/
theorem c_bec {k : Int32} {y : Int64} {H : ms_H} (hk : k.toInt = H.1) (hy : y = H.2.1) (hok : ms_ok H) (h4 : H.1 ≠ 4) (h : RX5_become 109 k y n sl SH FI FL FR u st) : ∃ F2 L2, st = (n, sl, SH, F2, L2, FR) ∧ (∀ r, r ≠ 109 → F2 r = FI r ∧ L2 r = FL r) ∧ chd F2 L2 FR SH 109 H := by
  obtain ⟨-, e⟩ := h
  refine ⟨_, _, e, fun r hr => ⟨by rw [h_up_nc hr, h_up_nc hr, h_up_nc hr], h_up_nc hr⟩, ⟨?_, ?_, hok, fun e4 => absurd e4 h4⟩, ?_, h_up_eq⟩
  · rw [h_up_ne (by first | decide | (simp; done) | (simp [ms_0]; done)), h_up_ne (by first | decide | (simp; done) | (simp [ms_0]; done)), h_up_eq]; exact hk
  · rw [h_up_eq]; exact hy
  · rw [h_up_ne (by first | decide | (simp; done) | (simp [ms_0]; done)), h_up_eq]
/-- what meeting a place leaves -/
def me_p (n sl : Nat) (SH : Nat → Nat × Nat) (FI : Nat → Nat → Int32) (FL : Nat → Nat → Int64) (FR : Nat → Nat → Option Nat) (st : hS) (H : Int ⊕ ms_H) : Prop := ∃ F2 L2 R2, st = (n, sl, SH, F2, L2, R2) ∧ vz FI FL FR F2 L2 R2 ∧ (∀ c, 90 < c → c < 109 → F2 c = FI c ∧ L2 c = FL c ∧ R2 c = FR c) ∧ match H with
  | .inl e => (F2 90 4).toInt = e ∧ e ≠ 0
  | .inr h => (F2 90 4).toInt = 0 ∧ chd F2 L2 R2 SH 109 h
theorem c_meet {c : Nat} {code : List Int} (hS : h_S n SH) (hE : cE FI FL FR SH E) (ht : th FR ∧ thI FR) (t1 : tx FR 91 92 93) (hf : x_fb E fb) (h0 : (FI 90 4).toInt = 0) (w : w_pl FI FL FR SH c code) (hl : code.length ≤ 60000) (h : RX2_meet (some c) n sl SH FI FL FR u st) : ∃ k H, mp E fb code k H ∧ me_p n sl SH FI FL FR st H := by
  obtain ⟨w0, w⟩ := w
  -- a value
  have val : ∀ (kk : Int32) (K0 : Int) (f : Nat) (a : List Int) {v4 : Int64} {n4 sl4 n5 sl5 : Nat} {SH4 SH5 : Nat → Nat × Nat} {FI4 FI5 : Nat → Nat → Int32} {FL4 FL5 : Nat → Nat → Int64} {FR4 FR5 : Nat → Nat → Option Nat} {v5 : Unit}, kk.toInt = K0 → (K0 = 1 ∨ K0 = 3) → n_cd FI FL FR f 0 (FR c 2) 0 = some a → a.length ≤ 60000 → RX2_value_ (FR c 2) (0 : Int32) n sl SH FI FL FR v4 (n4, sl4, SH4, FI4, FL4, FR4) → RX5_become 109 kk v4 n4 sl4 SH4 FI4 FL4 FR4 v5 (n5, sl5, SH5, FI5, FL5, FR5) → st = (n5, sl5, SH5, FI5, FL5, FR5) → ∃ x, ce E fb a x ∧ me_p n sl SH FI FL FR st (xh K0 x) := by
    intro kk K0 f a v4 n4 sl4 n5 sl5 SH4 SH5 FI4 FI5 FL4 FL5 FR4 FR5 v5 ek hK hn hla hv hb es
    obtain ⟨g, hv⟩ := hv
    obtain ⟨x, x1, F2, L2, R2, y1, y2, y3⟩ := (c_val hS hf f).1 g (FR c 2) (0 : Int32) 0 FI FL FR v4 _ a hv (by first | decide | (simp; done) | (simp [ms_0]; done)) (by first | decide | (simp; done) | (simp [ms_0]; done)) (by first | decide | (simp; done) | (simp [ms_0]; done)) hn hla h0 ht hE
    first | (obtain ⟨zz1, zz2, zz3, zz4, zz5, zz6⟩ := st_c y1; (try subst zz1); (try subst zz2); (try subst zz3); (try subst zz4); (try subst zz5); (try subst zz6)) | cases y1
    refine ⟨x, x1, ?_⟩
    have v2 := vz_vk t1 y2
    have keep : ∀ {F7 : Nat → Nat → Int32} {L7 : Nat → Nat → Int64}, (∀ r, r ≠ 109 → F7 r = F2 r ∧ L7 r = L2 r) → vz FI FL FR F7 L7 R2 ∧ (∀ c, 90 < c → c < 109 → F7 c = FI c ∧ L7 c = FL c ∧ R2 c = FR c) := by
      intro F7 L7 hr
      refine ⟨⟨fun c hc => ⟨by rw [(hr c (by omega)).1]; exact (v2.1 c hc).1, by rw [(hr c (by omega)).2]; exact (v2.1 c hc).2.1, (v2.1 c hc).2.2⟩, v2.2⟩, fun c h1 h2 => ⟨by rw [(hr c (by omega)).1]; exact (y2.1 c (by omega)).1, by rw [(hr c (by omega)).2]; exact (y2.1 c (by omega)).2.1, (y2.1 c (by omega)).2.2⟩⟩
    match x, y3 with
    | .inl e, y3 =>
      obtain ⟨-, e7⟩ := hb
      cases e7
      obtain ⟨k1, k2⟩ := keep (F7 := h_up (h_up (h_up F2 109 0 kk) 109 2 ((0 : Int32))) 109 3 ((0 : Int32))) (L7 := h_up L2 109 1 v4) (fun r hr => ⟨by rw [h_up_nc hr, h_up_nc hr, h_up_nc hr], h_up_nc hr⟩)
      refine ⟨_, _, _, es, k1, k2, ?_⟩
      show ((h_up (h_up (h_up F2 109 0 kk) 109 2 ((0 : Int32))) 109 3 ((0 : Int32))) 90 4).toInt = e ∧ e ≠ 0
      rw [h_up_nc (by first | decide | (simp; done) | (simp [ms_0]; done)), h_up_nc (by first | decide | (simp; done) | (simp [ms_0]; done)), h_up_nc (by first | decide | (simp; done) | (simp [ms_0]; done))]
      exact y3
    | .inr t, y3 =>
      obtain ⟨F7, L7, e7, f7, c7⟩ := c_bec (H := (K0, t, [])) ek y3.1 (by
        rcases hK with e | e
        · exact Or.inr (Or.inl ⟨e, rfl⟩)
        · exact Or.inr (Or.inr (Or.inr (Or.inl ⟨e, rfl⟩)))) (by show K0 ≠ 4; omega) hb
      cases e7
      obtain ⟨k1, k2⟩ := keep f7
      refine ⟨_, _, _, es, k1, k2, ?_⟩
      show Int32.toInt _ = 0 ∧ chd _ _ _ SH 109 (K0, t, [])
      exact ⟨by rw [(f7 90 (by first | decide | (simp; done) | (simp [ms_0]; done))).1]; exact y3.2, c7⟩
  -- no value
  have pl : ∀ {kk : Int32} {y : Int64} {H : ms_H} {v5 : Unit} {n5 sl5 : Nat} {SH5 : Nat → Nat × Nat} {FI5 : Nat → Nat → Int32} {FL5 : Nat → Nat → Int64} {FR5 : Nat → Nat → Option Nat}, kk.toInt = H.1 → y = H.2.1 → ms_ok H → H.1 ≠ 4 → RX5_become 109 kk y n sl SH FI FL FR v5 (n5, sl5, SH5, FI5, FL5, FR5) → st = (n5, sl5, SH5, FI5, FL5, FR5) → me_p n sl SH FI FL FR st (.inr H) := by
    intro kk y H v5 n5 sl5 SH5 FI5 FL5 FR5 ek ey hok h4 hb es
    obtain ⟨F7, L7, e7, f7, c7⟩ := c_bec ek ey hok h4 hb
    cases e7
    exact ⟨_, _, _, es, ⟨fun c hc => ⟨(f7 c (by omega)).1, (f7 c (by omega)).2, rfl⟩, ht.1, ht.2, t1⟩, fun c h1 h2 => ⟨(f7 c (by omega)).1, (f7 c (by omega)).2, rfl⟩, by rw [(f7 90 (by first | decide | (simp; done) | (simp [ms_0]; done))).1]; exact h0, c7⟩
  obtain ⟨c1, e1, h⟩ := h
  cases e1
  rcases h with ⟨h13, h⟩ | ⟨h13, h⟩
  · obtain ⟨c3, e3, c4, e4, v4, n4, sl4, SH4, FI4, FL4, FR4, hv, v5, n5, sl5, SH5, FI5, FL5, FR5, hb, -, es⟩ := h
    cases e3; cases e4
    rcases w with ⟨k, f, hn⟩ | ⟨k, -⟩ | ⟨k, f, a, hn, ec⟩ | ⟨k, -⟩ | ⟨k, -⟩
    · obtain ⟨x, x1, x2⟩ := val (FI c 0) 1 f code k (Or.inl rfl) hn hl hv hb es
      exact ⟨1, _, Or.inl ⟨rfl, (n_cd_lxx f 0 _ _ _ hn).1 (by first | decide | (simp; done) | (simp [ms_0]; done)), x, x1, rfl⟩, x2⟩
    · exfalso; omega
    · obtain ⟨x, x1, x2⟩ := val (FI c 0) 3 f a k (Or.inr rfl) hn (by rw [ec, List.length_append] at hl; omega) hv hb es
      exact ⟨3, _, Or.inr (Or.inr (Or.inl ⟨rfl, a, x, (n_cd_lxx f 0 _ _ _ hn).1 (by first | decide | (simp; done) | (simp [ms_0]; done)), x1, ec, rfl⟩)), x2⟩
    · exfalso; omega
    · exfalso; omega
  rcases h with ⟨h2, h⟩ | ⟨h2, h⟩
  · obtain ⟨c8, e8, v5, n5, sl5, SH5, FI5, FL5, FR5, hb, -, es⟩ := h
    cases e8
    rcases w with ⟨k, -⟩ | ⟨-, r1, r2, ec⟩ | ⟨k, -⟩ | ⟨k, -⟩ | ⟨k, -⟩
    · exfalso; omega
    · refine ⟨2, .inr (2, Int64.ofInt (FL c 1).toInt, []), Or.inr (Or.inl ⟨rfl, (FL c 1).toInt, r1, r2, ec, rfl⟩), pl (H := (2, Int64.ofInt (FL c 1).toInt, [])) (by show ((2 : Int32)).toInt = 2; (first | decide | (simp; done) | (simp [ms_0]; done))) (l_oi _).symm ?_ (by show (2 : Int) ≠ 4; (first | decide | (simp; done) | (simp [ms_0]; done))) hb es⟩
      refine Or.inr (Or.inr (Or.inl ⟨rfl, rfl, ?_⟩))
      show 0 ≤ (Int64.ofInt (FL c 1).toInt).toInt ∧ (Int64.ofInt (FL c 1).toInt).toInt ≤ 31
      rw [l_oi]
      exact ⟨r1, r2⟩
    · exfalso; omega
    · exfalso; omega
    · exfalso; omega
  rcases h with ⟨h4, h⟩ | ⟨h4, h⟩
  · obtain ⟨c11, e11, c12, e12, h⟩ := h
    cases e11; cases e12
    rcases w with ⟨k, -⟩ | ⟨k, -⟩ | ⟨k, -⟩ | ⟨-, b, bs, b1, b2, b3, b4, b5, ec⟩ | ⟨k, -⟩
    · exfalso; omega
    · exfalso; omega
    · exfalso; omega
    · have h := P_n h (by rw [b1]; intro e; cases e)
      obtain ⟨c15, e15, c16, e16, v5, n5, sl5, SH5, FI5, FL5, FR5, hb, -, es⟩ := h
      cases e15
      rw [b1] at e16 hb
      cases e16
      obtain ⟨v6, n6, sl6, SH6, FI6, FL6, FR6, ⟨-, e6⟩, -, e7⟩ := hb
      cases e6
      cases e7
      have eL : (Int32.ofNat (SH b).2).toInt = (bs.length : Int) := by rw [b3]; exact i_lit (by omega)
      have eL2 : ((Int32.ofNat (SH b).2).toInt64) = Int64.ofInt (bs.length : Int) := Int64.toInt_inj.mp (by rw [i_2l eL, Int64.toInt_ofInt, l_bm (by omega) (by omega)])
      refine ⟨4, .inr (4, Int64.ofInt bs.length, bs.map Int32.ofInt), Or.inr (Or.inr (Or.inr (Or.inl ⟨rfl, bs, b4, ec, rfl⟩))), _, _, _, es, ⟨fun q hq => ⟨?_, ?_, ?_⟩, ?_⟩, fun q h1 h2 => ⟨?_, ?_, ?_⟩, ?_⟩
      · rw [h_up_nc (by omega), h_up_nc (by omega), h_up_nc (by omega), h_up_nc (by omega)]
      · rw [h_up_nc (by omega)]
      · rw [h_up_nc (by omega)]
      · have q := th_eq (R2 := h_up FR 109 4 (some b)) ht (fun q h1 _ => h_up_nc h1)
        exact ⟨q.1, q.2, tx_eq t1 (h_up_nc (by first | decide | (simp; done) | (simp [ms_0]; done))) (h_up_nc (by first | decide | (simp; done) | (simp [ms_0]; done)))⟩
      · rw [h_up_nc (by omega), h_up_nc (by omega), h_up_nc (by omega), h_up_nc (by omega)]
      · rw [h_up_nc (by omega)]
      · rw [h_up_nc (by omega)]
      · have f0 : ∀ k, k ≠ 0 → k ≠ 2 → k ≠ 3 → k ≠ 5 → (h_up (h_up (h_up (h_up FI 109 0 ((4 : Int32))) 109 2 ((0 : Int32))) 109 3 ((0 : Int32))) 109 5 ((0 : Int32))) 109 k = FI 109 k := fun k k0 k2 k3 k5 => by rw [h_up_ne k5, h_up_ne k3, h_up_ne k2, h_up_ne k0]
        have fb9 : (h_up (h_up (h_up (h_up FI 109 0 ((4 : Int32))) 109 2 ((0 : Int32))) 109 3 ((0 : Int32))) 109 5 ((0 : Int32))) b = FI b := by rw [h_up_nc (by omega), h_up_nc (by omega), h_up_nc (by omega), h_up_nc (by omega)]
        refine ⟨by rw [h_up_nc (by first | decide | (simp; done) | (simp [ms_0]; done)), h_up_nc (by first | decide | (simp; done) | (simp [ms_0]; done)), h_up_nc (by first | decide | (simp; done) | (simp [ms_0]; done)), h_up_nc (by first | decide | (simp; done) | (simp [ms_0]; done))]; exact h0, ⟨?_, ?_, Or.inr (Or.inr (Or.inr (Or.inr ⟨rfl, ?_⟩))), fun _ => ⟨b, 0, h_up_eq, by rw [h_up_eq]; (first | decide | (simp; done) | (simp [ms_0]; done)), ⟨⟨Nat.zero_le _, Or.inr (Or.inr b2)⟩, ?_, ?_, fun i y hy => ?_⟩⟩⟩, ?_, ?_⟩
        · rw [h_up_ne (by first | decide | (simp; done) | (simp [ms_0]; done)), h_up_ne (by first | decide | (simp; done) | (simp [ms_0]; done)), h_up_ne (by first | decide | (simp; done) | (simp [ms_0]; done)), h_up_eq]
          show ((4 : Int32)).toInt = 4
          decide
        · rw [h_up_eq]
          exact eL2
        · show (Int64.ofInt (bs.length : Int)).toInt = ((bs.map Int32.ofInt).length : Int)
          rw [List.length_map, Int64.toInt_ofInt, l_bm (by omega) (by omega)]
        · show 0 + (bs.map Int32.ofInt).length ≤ (SH b).2
          rw [List.length_map, b3]
          omega
        · rw [b3]
          omega
        · have hy : (bs.map Int32.ofInt)[i]? = some y := hy
          rw [List.getElem?_map] at hy
          cases hb : bs[i]? with
          | none => rw [hb] at hy; cases hy
          | some b0 =>
            rw [hb] at hy
            have hy : Int32.ofInt b0 = y := Option.some.inj hy
            have hi := (List.getElem?_eq_some_iff.mp hb).1
            obtain ⟨z1, z2, z3⟩ := b5 i hi
            have eg : bs.getD i 0 = b0 := by rw [List.getD_eq_getElem?_getD, hb]; rfl
            rw [eg] at z1 z2 z3
            have ey : y.toInt = b0 := by rw [← hy, Int32.toInt_ofInt, i_bm (by omega) (by omega)]
            rw [Nat.zero_add, fb9]
            exact ⟨i_eqv (by rw [z1, ey]), by omega, by omega⟩
        · rw [h_up_ne (by first | decide | (simp; done) | (simp [ms_0]; done)), h_up_ne (by first | decide | (simp; done) | (simp [ms_0]; done)), h_up_eq]
        · rw [h_up_ne (by first | decide | (simp; done) | (simp [ms_0]; done)), h_up_eq]
    · exfalso; omega
  · obtain ⟨v5, n5, sl5, SH5, FI5, FL5, FR5, hb, -, es⟩ := h
    rcases w with ⟨k, -⟩ | ⟨k, -⟩ | ⟨k, -⟩ | ⟨k, -⟩ | ⟨-, ec⟩
    · exfalso; omega
    · exfalso; omega
    · exfalso; omega
    · exfalso; omega
    · exact ⟨0, .inr ms_0, Or.inr (Or.inr (Or.inr (Or.inr ⟨rfl, ec, rfl⟩))), pl (H := ms_0) (by show ((0 : Int32)).toInt = 0; (first | decide | (simp; done) | (simp [ms_0]; done))) rfl (Or.inl ⟨rfl, rfl⟩) (by show (0 : Int) ≠ 4; (first | decide | (simp; done) | (simp [ms_0]; done))) hb es⟩
end CME
end
section
/-! THE CLASS'S MEANINGS: locations, variables. -/
section CSY
variable {n sl : Nat} {SH : Nat → Nat × Nat} {st : hS} {E : ms_E} {fb : xX} {u : Unit} {v : Int32}
/-- pieces that meanings have added -/
def crp (FI : Nat → Nat → Int32) (FL : Nat → Nat → Int64) (FR : Nat → Nat → Option Nat) (SH : Nat → Nat × Nat) (A : List ms_P) : Prop := (FI 91 1).toInt = A.length ∧ A.length ≤ 16 ∧ lv (fun i p => cq FI FL FR SH (93 + i) p) A
/-- what saying leaves -/
def sa_c (n sl : Nat) (SH : Nat → Nat × Nat) (FI : Nat → Nat → Int32) (FL : Nat → Nat → Int64) (FR : Nat → Nat → Option Nat) (v : Int32) (st : hS) (r : Int ⊕ ms_Q) : Prop := ∃ F2 L2 R2, st = (n, sl, SH, F2, L2, R2) ∧ vz FI FL FR F2 L2 R2 ∧ match r with
  | .inl e => v.toInt = e ∧ e ≠ 0
  | .inr Q => v.toInt = 0 ∧ crx F2 L2 R2 SH 91 93 Q
theorem sa_up {FI F1 : Nat → Nat → Int32} {FL L1 : Nat → Nat → Int64} {FR R1 : Nat → Nat → Option Nat} {r : Int ⊕ ms_Q} (k : vz FI FL FR F1 L1 R1) (h : sa_c n sl SH F1 L1 R1 v st r) : sa_c n sl SH FI FL FR v st r := by
  obtain ⟨F2, L2, R2, h1, h2, h3⟩ := h
  exact ⟨F2, L2, R2, h1, vz_tr k h2, h3⟩
/-- behind a fault -/
theorem sa_f {FI : Nat → Nat → Int32} {FL : Nat → Nat → Int64} {FR : Nat → Nat → Option Nat} {a1 : Option Nat} {a2 : Int64} {g : Nat} {o : Option Nat} {e : Int} (ht : th FR ∧ thI FR) (t1 : tx FR 91 92 93) (h0 : (FI 90 4).toInt = e) (he : e ≠ 0) (h : GX2_say_23 a1 a2 g o n sl SH FI FL FR v st) : sa_c n sl SH FI FL FR v st (.inl e) := by
  have kr : vz FI FL FR FI FL FR := ⟨fun _ _ => ⟨rfl, rfl, rfl⟩, ht.1, ht.2, t1⟩
  cases g with
  | zero => exact h.elim
  | succ g =>
    rcases h with ⟨-, e1, e2⟩ | ⟨-, h⟩
    · exact ⟨_, _, _, e2, kr, by rw [e1]; exact h0, he⟩
    · obtain ⟨e1, e2⟩ := P_n h (by rw [h0]; exact he)
      exact ⟨_, _, _, e2, kr, by rw [e1]; exact h0, he⟩
/-- a piece comes to the others -/
theorem c_add9 {FI : Nat → Nat → Int32} {FL : Nat → Nat → Int64} {FR : Nat → Nat → Option Nat} {A : List ms_P} {H : ms_H} {w : Int32} {W0 : Int} (hS : h_S n SH) (ht : th FR ∧ thI FR) (t1 : tx FR 91 92 93) (hA : crp FI FL FR SH A) (hn : A.length < 16) (hc : chd FI FL FR SH 109 H) (hw : w.toInt = W0) (hW : 0 ≤ W0 ∧ W0 ≤ 4096) (h : RX8_addPiece 91 (some 109) w (0 : Int32) n sl SH FI FL FR u st) : ∃ F2 L2 R2, st = (n, sl, SH, F2, L2, R2) ∧ vz FI FL FR F2 L2 R2 ∧ (F2 90 = FI 90) ∧ crp F2 L2 R2 SH ((H, W0, 0) :: A) := by
  obtain ⟨a1, a2, a3⟩ := hA
  obtain ⟨c1, ec1, h⟩ := h
  rw [t1.1] at ec1
  cases ec1
  have h := P_p h (by rw [a1, hS.2 92 (by first | decide | (simp; done) | (simp [ms_0]; done)), show (Int32.ofNat (hs_L.getD 92 (0, 0)).2).toInt = 16 by decide +kernel]; omega)
  obtain ⟨c3, ec3, -, c4, ec4, v4, n4, sl4, SH4, FI4, FL4, FR4, h4, c6, ec6, c7, ec7, -, es⟩ := h
  rw [t1.1] at ec3
  cases ec3
  rw [show (FI 91 1).toInt.toNat = A.length by omega, t1.2 _ hn] at ec4 ec6 ec7
  cases ec4; cases ec6; cases ec7
  have hcq : cq FI FL FR SH 109 (H, 0, 0) := ⟨hc.1, by rw [hc.2.1]; show ((0 : Int32)).toInt = 0; (first | decide | (simp; done) | (simp [ms_0]; done)), by rw [hc.2.2]; show ((0 : Int32)).toInt = 0; (first | decide | (simp; done) | (simp [ms_0]; done)), by show (0 : Int) ≤ 0; (first | decide | (simp; done) | (simp [ms_0]; done)), by show (0 : Int) ≤ 4096; (first | decide | (simp; done) | (simp [ms_0]; done)), by show (0 : Int) ≤ 0; (first | decide | (simp; done) | (simp [ms_0]; done)), by show (0 : Int) ≤ 4096; (first | decide | (simp; done) | (simp [ms_0]; done))⟩
  obtain ⟨F5, L5, R5, e5, f5, q5⟩ := c_tk (q := 93 + A.length) (s0 := 109) (fun r hr => by have := rg_t (SH := SH) r hr; omega) (by omega) hcq h4
  first | (obtain ⟨zz1, zz2, zz3, zz4, zz5, zz6⟩ := st_c e5; (try subst zz1); (try subst zz2); (try subst zz3); (try subst zz4); (try subst zz5); (try subst zz6)) | cases e5
  generalize hq : 93 + A.length = q at f5 q5 es
  have o1 : (h_up (h_up F5 q 2 w) q 3 ((0 : Int32))) 91 1 = FI 91 1 := by rw [h_up_nc (by omega), h_up_nc (by omega), (f5 91 (by omega)).1]
  rw [o1] at es
  have fr : ∀ r, r ≠ q → r ≠ 91 → ∀ x y, (h_up (h_up (h_up (h_up F5 q 2 w) q 3 ((0 : Int32))) 91 1 x) 91 2 y) r = FI r := fun r r1 r2 x y => by rw [h_up_nc r2, h_up_nc r2, h_up_nc r1, h_up_nc r1]; exact (f5 r r1).1
  refine ⟨_, _, _, es, ⟨fun c hc => ⟨fr c (by omega) (by omega) _ _, (f5 c (by omega)).2.1, (f5 c (by omega)).2.2⟩, ?_⟩, fr 90 (by omega) (by first | decide | (simp; done) | (simp [ms_0]; done)) _ _, ?_, by simp only [List.length_cons]; omega, ⟨?_, ?_, ?_, hW.1, hW.2, by show (0 : Int) ≤ 0; (first | decide | (simp; done) | (simp [ms_0]; done)), by show (0 : Int) ≤ 4096; (first | decide | (simp; done) | (simp [ms_0]; done))⟩, lv_mono (fun i p hi _ hp => ?_) a3⟩
  · have q9 := th_eq (R2 := R5) ht (fun c c1 c2 => (f5 c (by omega)).2.2)
    exact ⟨q9.1, q9.2, tx_eq t1 (f5 91 (by omega)).2.2 (f5 92 (by omega)).2.2⟩
  · rw [h_up_ne (by first | decide | (simp; done) | (simp [ms_0]; done)), h_up_eq, i_add a1 (by first | decide | (simp; done) | (simp [ms_0]; done) : ((1 : Int32)).toInt = 1) (by omega) (by omega)]
    simp only [List.length_cons]
    omega
  · rw [hq]
    refine ct_cp q5.1 (fun r hr => ?_) ?_ rfl rfl ?_
    · have := rg_t (SH := SH) r hr
      rw [fr r (by omega) (by omega), (f5 r (by omega)).1]
    · rw [h_up_nc (by omega), h_up_nc (by omega), h_up_ne (by first | decide | (simp; done) | (simp [ms_0]; done)), h_up_ne (by first | decide | (simp; done) | (simp [ms_0]; done))]
    · rw [h_up_nc (by omega), h_up_nc (by omega), h_up_ne (by first | decide | (simp; done) | (simp [ms_0]; done)), h_up_ne (by first | decide | (simp; done) | (simp [ms_0]; done))]
  · rw [hq, h_up_nc (by omega), h_up_nc (by omega), h_up_ne (by first | decide | (simp; done) | (simp [ms_0]; done)), h_up_eq]
    exact hw
  · rw [hq, h_up_nc (by omega), h_up_nc (by omega), h_up_eq]
    show ((0 : Int32)).toInt = 0
    decide
  · refine cq_fr hp (fun r hr => ?_) ?_ ?_ ?_
    · have := rg_t (SH := SH) r hr
      exact fr r (by omega) (by omega) _ _
    · exact fr (93 + i) (by omega) (by omega) _ _
    · exact (f5 (93 + i) (by omega)).2.1
    · exact (f5 (93 + i) (by omega)).2.2
/-- its frame alone -/
theorem c_tkf {FI : Nat → Nat → Int32} {FL : Nat → Nat → Int64} {FR : Nat → Nat → Option Nat} {q s0 : Nat} (h : RX5_take q (some s0) n sl SH FI FL FR u st) : ∃ F2 L2 R2, st = (n, sl, SH, F2, L2, R2) ∧ (∀ r, r ≠ q → F2 r = FI r ∧ L2 r = FL r ∧ R2 r = FR r) := by
  obtain ⟨c1, e1, c2, e2, c3, e3, c4, e4, c5, e5, c6, e6, -, e⟩ := h
  exact ⟨_, _, _, e, fun r h1 => ⟨by rw [h_up_nc h1, h_up_nc h1, h_up_nc h1, h_up_nc h1], h_up_nc h1, h_up_nc h1⟩⟩
theorem c_add9_f {FI : Nat → Nat → Int32} {FL : Nat → Nat → Int64} {FR : Nat → Nat → Option Nat} {k : Nat} {w x : Int32} (ht : th FR ∧ thI FR) (t1 : tx FR 91 92 93) (hk : (FI 91 1).toInt = k) (hn : k < 16) (h : RX8_addPiece 91 (some 109) w x n sl SH FI FL FR u st) : ∃ F2 L2 R2, st = (n, sl, SH, F2, L2, R2) ∧ vz FI FL FR F2 L2 R2 ∧ F2 90 = FI 90 := by
  obtain ⟨c1, ec1, h⟩ := h
  rw [t1.1] at ec1
  cases ec1
  rcases h with ⟨-, h⟩ | ⟨-, -, es⟩
  · obtain ⟨c3, ec3, -, c4, ec4, v4, n4, sl4, SH4, FI4, FL4, FR4, h4, c6, ec6, c7, ec7, -, es⟩ := h
    rw [t1.1] at ec3
    cases ec3
    rw [show (FI 91 1).toInt.toNat = k by omega, t1.2 _ hn] at ec4 ec6 ec7
    cases ec4; cases ec6; cases ec7
    obtain ⟨F5, L5, R5, e5, f5⟩ := c_tkf h4
    cases e5
    generalize hq : 93 + k = q at f5 es
    have fr : ∀ r, r ≠ q → r ≠ 91 → ∀ x y, (h_up (h_up (h_up (h_up FI4 q 2 w) q 3 x) 91 1 ((h_up (h_up FI4 q 2 w) q 3 x) 91 1 + (1 : Int32))) 91 2 y) r = FI r := fun r r1 r2 x y => by rw [h_up_nc r2, h_up_nc r2, h_up_nc r1, h_up_nc r1]; exact (f5 r r1).1
    refine ⟨_, _, _, es, ⟨fun c hc => ⟨fr c (by omega) (by omega) _ _, (f5 c (by omega)).2.1, (f5 c (by omega)).2.2⟩, ?_⟩, fr 90 (by omega) (by first | decide | (simp; done) | (simp [ms_0]; done)) _ _⟩
    have q9 := th_eq (R2 := FR4) ht (fun c c1 c2 => (f5 c (by omega)).2.2)
    exact ⟨q9.1, q9.2, tx_eq t1 (f5 91 (by omega)).2.2 (f5 92 (by omega)).2.2⟩
  · exact ⟨_, _, _, es, ⟨fun _ _ => ⟨rfl, rfl, rfl⟩, ht.1, ht.2, t1⟩, rfl⟩
theorem crp_fr {FI F2 : Nat → Nat → Int32} {FL L2 : Nat → Nat → Int64} {FR R2 : Nat → Nat → Option Nat} {A : List ms_P} (h : crp FI FL FR SH A) (e0 : ∀ r, rw0 SH r → F2 r = FI r) (e : ∀ c, 90 < c → c < 109 → F2 c = FI c ∧ L2 c = FL c ∧ R2 c = FR c) : crp F2 L2 R2 SH A := by
  obtain ⟨a1, a2, a3⟩ := h
  exact ⟨by rw [(e 91 (by first | decide | (simp; done) | (simp [ms_0]; done)) (by first | decide | (simp; done) | (simp [ms_0]; done))).1]; exact a1, a2, lv_mono (fun i p hi _ hp => cq_fr hp e0 (e (93 + i) (by omega) (by omega)).1 (e (93 + i) (by omega) (by omega)).2.1 (e (93 + i) (by omega) (by omega)).2.2) a3⟩
/-- the pieces, one after another -/
theorem c_say_p {a1 : Option Nat} {a2 : Int64} (hS : h_S n SH) (hf : x_fb E fb) : ∀ (f g : Nat) (o : Option Nat) (Z : List mZ) (A : List ms_P) (FI : Nat → Nat → Int32) (FL : Nat → Nat → Int64) (FR : Nat → Nat → Option Nat), w_ls FI FL FR SH f o (mz_fl Z) → (∀ d, o = some d → 0 ≤ (FI d 4).toInt) → mz_ok E fb Z → Z.length + A.length ≤ 8 → 1 ≤ Z.length + A.length → (mz_fl Z).length ≤ 60000 → cE FI FL FR SH E → th FR ∧ thI FR → tx FR 91 92 93 → (FI 90 4).toInt = 0 → crp FI FL FR SH A → GX2_say_23 a1 a2 g o n sl SH FI FL FR v st → sa_c n sl SH FI FL FR v st (mz_rs Z A) := by
  intro f
  induction f with
  | zero => intro g o Z A FI FL FR hw; exact hw.elim
  | succ f ih =>
    intro g o Z A FI FL FR hw ho hZ hl hl1 hlen hE ht t1 h0 hA h
    have kr : vz FI FL FR FI FL FR := ⟨fun _ _ => ⟨rfl, rfl, rfl⟩, ht.1, ht.2, t1⟩
    cases g with
    | zero => exact h.elim
    | succ g =>
      cases o with
      | none =>
        have hw : mz_fl Z = [] := hw
        cases Z with
        | cons z Z =>
          exfalso
          have hw : z.1 ++ 147 :: (lc_u 9 z.2.2.1 ++ mz_fl Z) = [] := hw
          have := congrArg List.length hw
          rw [List.length_append, List.length_cons] at this
          simp at this
        | nil =>
          obtain ⟨e1, e2⟩ := P_p h rfl
          have hpos : 1 ≤ A.length := by simpa using hl1
          have h8 : A.length ≤ 8 := by simpa using hl
          exact ⟨_, _, _, e2, kr, by rw [e1]; exact h0, fun e => (by cases e), fun _ => hA.1, ⟨hpos, by show A.length ≤ 16; omega⟩, fun e => (by cases e), hA.2.2⟩
      | some c =>
        obtain ⟨a, r, w1, w2, ⟨w3, w4, w5⟩, w6⟩ := hw
        have hc4 := ho c rfl
        rw [if_neg (by omega)] at w6
        cases Z with
        | nil =>
          exfalso
          have w6 : [] = a ++ (147 :: lc_u 9 (FI c 4).toInt ++ r) := w6
          have := congrArg List.length w6
          rw [List.length_append, List.length_append, List.length_cons, List.length_nil] at this
          omega
        | cons z Z =>
          have w6 : z.1 ++ 147 :: (lc_u 9 z.2.2.1 ++ mz_fl Z) = a ++ (147 :: lc_u 9 (FI c 4).toInt ++ r) := w6
          have hla : a.length ≤ 60000 := by
            have e : mz_fl (z :: Z) = a ++ (147 :: lc_u 9 (FI c 4).toInt ++ r) := w6
            rw [e, List.length_append] at hlen
            omega
          have h := P_n h (by intro e; cases e)
          have h := P_p h h0
          obtain ⟨v2, n2, sl2, SH2, FI2, FL2, FR2, hm, c4, e4, h⟩ := h
          cases e4
          obtain ⟨k, H, m1, F3, L3, R3, m2, m3, m4, m5⟩ := c_meet hS hE ht t1 hf h0 w1 hla hm
          first | (obtain ⟨zz1, zz2, zz3, zz4, zz5, zz6⟩ := st_c m2; (try subst zz1); (try subst zz2); (try subst zz3); (try subst zz4); (try subst zz5); (try subst zz6)) | cases m2
          obtain ⟨z1, z2, z3⟩ := hZ z (List.mem_cons_self)
          obtain ⟨q1, q2, q3, q4⟩ := mp_u z1 m1 (Or.inr ⟨_, rfl⟩) (Or.inr ⟨_, rfl⟩) w6
          have q2 : (147 :: (lc_u 9 z.2.2.1 ++ mz_fl Z) : List Int) = 147 :: (lc_u 9 (FI c 4).toInt ++ r) := q2
          have q5 := (List.cons.inj q2).2
          have x1 := xu_9 (p := z.2.2.1) ⟨z2, by omega⟩ (mz_fl Z)
          have hi4 : (FI c 4).toInt ≤ 2147483647 := (i_rng _).2
          have x2 := xu_9 (p := (FI c 4).toInt) ⟨hc4, by omega⟩ r
          rw [q5, x2] at x1
          have y1 : (FI c 4).toInt = z.2.2.1 := congrArg Prod.fst x1
          have y2 : r = mz_fl Z := congrArg Prod.snd x1
          subst y2
          have d3 := vz_dyn m3
          have ec4 : F3 c 4 = FI c 4 := by rw [(d3 c w1.1).1]
          rw [ec4, show ((-1 : Int32)).toInt = -1 by first | decide | (simp; done) | (simp [ms_0]; done)] at h
          have h := P_n h (by omega)
          obtain ⟨c9, e9, v9, n9, sl9, SH9, FI9, FL9, FR9, hadd, h⟩ := h
          cases e9
          have w2' := w_ls_ag d3 f _ _ w2
          have ew : ((F3 c 4) * (8 : Int32)).toInt = 8 * z.2.2.1 := by
            rw [ec4, i_mul y1 (by first | decide | (simp; done) | (simp [ms_0]; done) : ((8 : Int32)).toInt = 8) (by omega) (by omega)]
            omega
          have er : ∀ r, rw0 SH r → F3 r = FI r := fun r hr => (m3.1 r (by have := rg_t (SH := SH) r hr; omega)).1
          have hA3 := crp_fr hA er m4
          have hln : (mz_fl Z).length ≤ 60000 := by
            have e : mz_fl (z :: Z) = z.1 ++ 147 :: (lc_u 9 z.2.2.1 ++ mz_fl Z) := rfl
            rw [e] at hlen
            simp only [List.length_append, List.length_cons] at hlen
            omega
          show sa_c n sl SH FI FL FR v st (match z.2.2.2 with
            | .inl e => Sum.inl e
            | .inr h => mz_rs Z ((h, 8 * z.2.2.1, 0) :: A))
          rw [q4]
          -- the link behind it
          have lk : ∀ {F9 : Nat → Nat → Int32} {L9 : Nat → Nat → Int64} {R9 : Nat → Nat → Option Nat}, vz F3 L3 R3 F9 L9 R9 → RX2_say_87 (GX2_say_23 a1 a2 g) a1 a2 (some c) n sl SH F9 L9 R9 v st → GX2_say_23 a1 a2 g (FR c 5) n sl SH F9 L9 R9 v st := by
            intro F9 L9 R9 hz h
            obtain ⟨c1, e1, h⟩ := h
            cases e1
            rw [(vz_dyn hz c w1.1).2.2, (d3 c w1.1).2.2] at h
            exact h
          match H, m5 with
          | .inl e, m5 =>
            -- a fault: what is added does not matter
            obtain ⟨F9, L9, R9, b1, b2, b3⟩ := c_add9_f (k := A.length) ⟨m3.2.1, m3.2.2.1⟩ m3.2.2.2 hA3.1 (by simp only [List.length_cons] at hl; omega) hadd
            cases b1
            exact sa_up (vz_tr m3 b2) (sa_f ⟨b2.2.1, b2.2.2.1⟩ b2.2.2.2 (by rw [b3]; exact m5.1) m5.2 (lk b2 h))
          | .inr h9, m5 =>
            obtain ⟨F9, L9, R9, b1, b2, b3, b4⟩ := c_add9 (H := h9) hS ⟨m3.2.1, m3.2.2.1⟩ m3.2.2.2 hA3 (by simp only [List.length_cons] at hl; omega) m5.2 ew (by omega) hadd
            first | (obtain ⟨zz1, zz2, zz3, zz4, zz5, zz6⟩ := st_c b1; (try subst zz1); (try subst zz2); (try subst zz3); (try subst zz4); (try subst zz5); (try subst zz6)) | cases b1
            have d9 := vz_dyn (vz_tr m3 b2)
            refine sa_up (vz_tr m3 b2) (ih g (FR c 5) Z _ F9 L9 R9 ?_ (fun d hd => ?_) (fun y hy => hZ y (List.mem_cons_of_mem _ hy)) (by simp only [List.length_cons] at hl ⊢; omega) (by simp only [List.length_cons]; omega) hln (cE_vz hE (vz_tr m3 b2)) ⟨b2.2.1, b2.2.2.1⟩ b2.2.2.2 (by rw [b3]; exact m5.1) b4 (lk b2 h))
            · have := w_ls_ag d9 f _ _ w2
              exact this
            · rw [hd] at w2
              rw [(d9 d (w_ls_ge w2)).1]
              exact w5 d hd
/-- a place's bytes, read to their end -/
theorem w_pl_ld {FI : Nat → Nat → Int32} {FL : Nat → Nat → Int64} {FR : Nat → Nat → Option Nat} {c : Nat} {code : List Int} (w : w_pl FI FL FR SH c code) : ∃ j k, ∀ g, ldx (g + j + 1) 0 (code ++ []) = some (k, []) := by
  obtain ⟨w0, w⟩ := w
  rcases w with ⟨-, f, hn⟩ | ⟨-, r1, r2, ec⟩ | ⟨-, f, a, hn, ec⟩ | ⟨-, b, bs, -, -, -, -, -, ec⟩ | ⟨-, ec⟩
  · obtain ⟨j, e⟩ := ((n_cd_lxx f 0 _ _ _ hn).1 (by first | decide | (simp; done) | (simp [ms_0]; done))).2 [] 0
    exact ⟨j, 1, fun g => by rw [show g + j + 1 = (g + 1) + j by omega, e]; rfl⟩
  · refine ⟨1, 2, fun g => ?_⟩
    rw [ec]
    show ldx (g + 1 + 1) 0 ((80 + (FL c 1).toInt) :: []) = _
    rw [ldx, if_neg (by omega), if_neg (by omega), if_pos (by omega)]
    rfl
  · obtain ⟨j, e⟩ := ((n_cd_lxx f 0 _ _ _ hn).1 (by first | decide | (simp; done) | (simp [ms_0]; done))).2 [159] 0
    refine ⟨j + 1, 3, fun g => ?_⟩
    rw [ec, List.append_nil, show g + (j + 1) + 1 = (g + 1 + 1) + j by omega, e, ldx, if_neg (by first | decide | (simp; done) | (simp [ms_0]; done)), if_pos rfl]
    rfl
  · refine ⟨1, 4, fun g => ?_⟩
    rw [ec, List.append_nil]
    show ldx (g + 1 + 1) 0 (158 :: ((bs.length : Int) :: bs)) = _
    rw [ldx, if_neg (by first | decide | (simp; done) | (simp [ms_0]; done)), if_neg (by first | decide | (simp; done) | (simp [ms_0]; done)), if_neg (by first | decide | (simp; done) | (simp [ms_0]; done)), if_pos rfl]
    show ldx (g + 1) 4 (bs.drop ((bs.length : Int)).toNat) = _
    rw [show ((bs.length : Int)).toNat = bs.length by omega, List.drop_length]
    rfl
  · exact ⟨0, 0, fun g => by rw [ec]; rfl⟩
/-- a location, said -/
theorem c_say_l {a1 : Option Nat} {a2 : Int64} {f g : Nat} {o : Option Nat} {code : List Int} {r : Int ⊕ ms_Q} {FI : Nat → Nat → Int32} {FL : Nat → Nat → Int64} {FR : Nat → Nat → Option Nat} (hS : h_S n SH) (hf : x_fb E fb) (hw : w_ls FI FL FR SH f o code) (hr : mloc E fb code r) (hlen : code.length ≤ 60000) (hE : cE FI FL FR SH E) (ht : th FR ∧ thI FR) (t1 : tx FR 91 92 93) (h0 : (FI 90 4).toInt = 0) (h1 : (FI 91 1).toInt = 0) (hc : cq FI FL FR SH 93 (ms_0, 0, 0)) (h : GX2_say_23 a1 a2 g o n sl SH FI FL FR v st) : sa_c n sl SH FI FL FR v st r := by
  have kr : vz FI FL FR FI FL FR := ⟨fun _ _ => ⟨rfl, rfl, rfl⟩, ht.1, ht.2, t1⟩
  cases f with
  | zero => exact hw.elim
  | succ f =>
    rcases hr with ⟨k, H, hp, er⟩ | ⟨Z, z0, z1, z2, z3, er⟩
    · cases o with
      | none =>
        have hw : code = [] := hw
        subst hw
        have q := (mp_u (R := []) (R2 := []) hp (Or.inr (Or.inr (Or.inr (Or.inr ⟨rfl, rfl, rfl⟩))) : mp E fb [] 0 (.inr ms_0)) (Or.inl rfl) (Or.inl rfl) rfl).2.2.2
        rw [er, q]
        cases g with
        | zero => exact h.elim
        | succ g =>
          obtain ⟨e1, e2⟩ := P_p h rfl
          exact ⟨_, _, _, e2, kr, by rw [e1]; exact h0, fun _ => h1, fun e => (by cases e), by show 1 ≤ [(ms_0, (0 : Int), (0 : Int))].length ∧ [(ms_0, (0 : Int), (0 : Int))].length ≤ 16; (first | decide | (simp; done) | (simp [ms_0]; done)), fun _ => rfl, ⟨hc, trivial⟩⟩
      | some c =>
        obtain ⟨a, r2, w1, w2, ⟨w3, w4, w5⟩, w6⟩ := hw
        cases g with
        | zero => exact h.elim
        | succ g =>
          have h := P_n h (by intro e; cases e)
          have h := P_p h h0
          obtain ⟨v2, n2, sl2, SH2, FI2, FL2, FR2, hm, c4, e4, h⟩ := h
          cases e4
          have hla : a.length ≤ 60000 := by
            rw [w6, List.length_append] at hlen
            omega
          obtain ⟨k2, H2, m1, F3, L3, R3, m2, m3, m4, m5⟩ := c_meet hS hE ht t1 hf h0 w1 hla hm
          first | (obtain ⟨zz1, zz2, zz3, zz4, zz5, zz6⟩ := st_c m2; (try subst zz1); (try subst zz2); (try subst zz3); (try subst zz4); (try subst zz5); (try subst zz6)) | cases m2
          have d3 := vz_dyn m3
          have ec4 : F3 c 4 = FI c 4 := by rw [(d3 c w1.1).1]
          by_cases hm1 : (FI c 4).toInt = -1
          · rw [if_pos hm1] at w6
            rw [w4 hm1] at w2
            have er2 : r2 = [] := by
              cases f with
              | zero => exact w2.elim
              | succ f => exact w2
            rw [er2] at w6
            have w6 : code = a := by rw [w6]; simp
            subst w6
            have qH := (mp_u (R := []) (R2 := []) hp m1 (Or.inl rfl) (Or.inl rfl) rfl).2.2.2
            rw [er, qH]
            rw [ec4, show ((-1 : Int32)).toInt = -1 by first | decide | (simp; done) | (simp [ms_0]; done)] at h
            have h := P_p h hm1
            obtain ⟨v5, n5, sl5, SH5, FI5, FL5, FR5, ho, c7, e7, v7, n7, sl7, SH7, FI7, FL7, FR7, hk, h⟩ := h
            obtain ⟨c8, e8, -, e9, e10⟩ := ho
            rw [m3.2.2.2.1] at e8
            cases e8
            cases e10
            rw [m3.2.2.2.2 0 (by first | decide | (simp; done) | (simp [ms_0]; done))] at e9
            rw [e9] at e7
            cases e7
            -- what is behind it
            have lk : ∀ {F9 : Nat → Nat → Int32} {L9 : Nat → Nat → Int64} {R9 : Nat → Nat → Option Nat}, (R9 c = R3 c) → RX2_say_87 (GX2_say_23 a1 a2 g) a1 a2 (some c) n sl SH F9 L9 R9 v st → GX2_say_23 a1 a2 g none n sl SH F9 L9 R9 v st := by
              intro F9 L9 R9 hz h
              obtain ⟨c1, e1, h⟩ := h
              cases e1
              rw [hz, (d3 c w1.1).2.2, w4 hm1] at h
              exact h
            have hc176 := w1.1
            match H2, m5 with
            | .inl e, m5 =>
              obtain ⟨F9, L9, R9, b1, b2⟩ := c_tkf hk
              first | (obtain ⟨zz1, zz2, zz3, zz4, zz5, zz6⟩ := st_c b1; (try subst zz1); (try subst zz2); (try subst zz3); (try subst zz4); (try subst zz5); (try subst zz6)) | cases b1
              have k9 : vz F3 L3 R3 F9 L9 R9 := by
                have q9 := th_eq (R2 := R9) ⟨m3.2.1, m3.2.2.1⟩ (fun q q1 q2 => (b2 q (by omega)).2.2)
                exact ⟨fun q hq => b2 q (by omega), q9.1, q9.2, tx_eq m3.2.2.2 (b2 91 (by first | decide | (simp; done) | (simp [ms_0]; done))).2.2 (b2 92 (by first | decide | (simp; done) | (simp [ms_0]; done))).2.2⟩
              exact sa_up (vz_tr m3 k9) (sa_f ⟨k9.2.1, k9.2.2.1⟩ k9.2.2.2 (by rw [(b2 90 (by first | decide | (simp; done) | (simp [ms_0]; done))).1]; exact m5.1) m5.2 (lk (b2 c (by omega)).2.2 h))
            | .inr h9, m5 =>
              have hcq : cq F3 L3 R3 SH 109 (h9, 0, 0) := ⟨m5.2.1, by rw [m5.2.2.1]; show ((0 : Int32)).toInt = 0; (first | decide | (simp; done) | (simp [ms_0]; done)), by rw [m5.2.2.2]; show ((0 : Int32)).toInt = 0; (first | decide | (simp; done) | (simp [ms_0]; done)), by show (0 : Int) ≤ 0; (first | decide | (simp; done) | (simp [ms_0]; done)), by show (0 : Int) ≤ 4096; (first | decide | (simp; done) | (simp [ms_0]; done)), by show (0 : Int) ≤ 0; (first | decide | (simp; done) | (simp [ms_0]; done)), by show (0 : Int) ≤ 4096; (first | decide | (simp; done) | (simp [ms_0]; done))⟩
              obtain ⟨F9, L9, R9, b1, b2, b3⟩ := c_tk (q := 93) (s0 := 109) (fun r hr => by have := rg_t (SH := SH) r hr; omega) (by first | decide | (simp; done) | (simp [ms_0]; done)) hcq hk
              first | (obtain ⟨zz1, zz2, zz3, zz4, zz5, zz6⟩ := st_c b1; (try subst zz1); (try subst zz2); (try subst zz3); (try subst zz4); (try subst zz5); (try subst zz6)) | cases b1
              have k9 : vz F3 L3 R3 F9 L9 R9 := by
                have q9 := th_eq (R2 := R9) ⟨m3.2.1, m3.2.2.1⟩ (fun q q1 q2 => (b2 q (by omega)).2.2)
                exact ⟨fun q hq => b2 q (by omega), q9.1, q9.2, tx_eq m3.2.2.2 (b2 91 (by first | decide | (simp; done) | (simp [ms_0]; done))).2.2 (b2 92 (by first | decide | (simp; done) | (simp [ms_0]; done))).2.2⟩
              refine sa_up (vz_tr m3 k9) ?_
              have h := lk (b2 c (by omega)).2.2 h
              cases g with
              | zero => exact h.elim
              | succ g =>
                obtain ⟨e1, e2⟩ := P_p h rfl
                refine ⟨_, _, _, e2, ⟨fun _ _ => ⟨rfl, rfl, rfl⟩, k9.2⟩, ?_, fun _ => ?_, fun e => (by cases e), by show 1 ≤ [(h9, (0 : Int), (0 : Int))].length ∧ [(h9, (0 : Int), (0 : Int))].length ≤ 16; (first | decide | (simp; done) | (simp [ms_0]; done)), fun _ => rfl, ⟨b3, trivial⟩⟩
                · rw [e1, (b2 90 (by first | decide | (simp; done) | (simp [ms_0]; done))).1]; exact m5.1
                · rw [(b2 91 (by first | decide | (simp; done) | (simp [ms_0]; done))).1, (m4 91 (by first | decide | (simp; done) | (simp [ms_0]; done)) (by first | decide | (simp; done) | (simp [ms_0]; done))).1]; exact h1
          · exfalso
            rw [if_neg hm1] at w6
            have w6 : code ++ [] = a ++ (147 :: (lc_u 9 (FI c 4).toInt ++ r2)) := by rw [List.append_nil]; exact w6
            have := (mp_u hp m1 (Or.inl rfl) (Or.inr ⟨_, rfl⟩) w6).2.1
            cases this
    · rw [er]
      subst z3
      have ho : ∀ d, o = some d → 0 ≤ (FI d 4).toInt := by
        intro d hd
        subst hd
        obtain ⟨a, r2, w1, w2, ⟨w3, w4, w5⟩, w6⟩ := id hw
        by_cases hm1 : (FI d 4).toInt = -1
        · exfalso
          rw [if_pos hm1] at w6
          rw [w4 hm1] at w2
          have er2 : r2 = [] := by
            cases f with
            | zero => exact w2.elim
            | succ f => exact w2
          rw [er2] at w6
          cases Z with
          | nil => exact z0 rfl
          | cons z Z =>
            -- what kind of place it is does not matter: its bytes end there
            have w6 : z.1 ++ 147 :: (lc_u 9 z.2.2.1 ++ mz_fl Z) = a ++ [] := by
              have w6 : mz_fl (z :: Z) = a ++ ([] ++ []) := w6
              exact w6
            obtain ⟨j, ej⟩ := mp_ld (z2 z (List.mem_cons_self)).1 (R := 147 :: (lc_u 9 z.2.2.1 ++ mz_fl Z)) (Or.inr ⟨_, rfl⟩)
            obtain ⟨j2, k2, ej2⟩ := w_pl_ld w1
            have a1 := ej j2
            have a2 := ej2 j
            rw [w6, show j2 + j + 1 = j + j2 + 1 by omega, a2] at a1
            have a1 := congrArg Prod.snd (Option.some.inj a1)
            cases a1
        · omega
      exact c_say_p hS hf (f + 1) g o Z [] FI FL FR hw ho z2 (by simpa using z1) (by cases Z with | nil => exact absurd rfl z0 | cons z Z => simp) hlen hE ht t1 h0 ⟨by rw [h1]; rfl, by simp, trivial⟩ h
end CSY
end
