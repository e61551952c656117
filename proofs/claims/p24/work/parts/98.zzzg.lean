/-! THE REFERENCE'S MEANINGS: places. -/
def m9 (FI : Nat → Nat → Int32) (FL : Nat → Nat → Int64) (F2 : Nat → Nat → Int32) (L2 : Nat → Nat → Int64) : Prop := (∀ c, (c < 121 ∨ (121 < c ∧ c < 127) ∨ (142 < c ∧ c < 165) ∨ c = 167 ∨ c = 168 ∨ 175 < c) → F2 c = FI c ∧ L2 c = FL c) ∧ (∀ k, (k < 29 ∨ (44 < k ∧ k < 90) ∨ (95 < k ∧ k < 101) ∨ (101 < k ∧ k < 104) ∨ 104 < k) → F2 121 k = FI 121 k ∧ L2 121 k = FL 121 k)
/-- a place's rows -/
def rm (FI : Nat → Nat → Int32) (FL : Nat → Nat → Int64) (i : Nat) (H : ms_H) : Prop := (FI 169 i).toInt = H.1 ∧ FL 170 i = H.2.1 ∧ ms_ok H ∧ H.2.2.length ≤ 64 ∧ ∀ k b, H.2.2[k]? = some b → FI 172 (64 * i + k) = b ∧ 0 ≤ b.toInt ∧ b.toInt ≤ 255
/-- those of other places stay -/
def mf (i : Nat) (FI : Nat → Nat → Int32) (FL : Nat → Nat → Int64) (F2 : Nat → Nat → Int32) (L2 : Nat → Nat → Int64) : Prop := (∀ j, j ≠ i → F2 169 j = FI 169 j ∧ L2 170 j = FL 170 j) ∧ (∀ m, m < 64 * i ∨ 64 * i + 64 ≤ m → F2 172 m = FI 172 m) ∧ F2 171 = FI 171 ∧ F2 121 94 = FI 121 94 ∧ F2 121 95 = FI 121 95
section M9
variable {n sl : Nat} {SH : Nat → Nat × Nat} {FI F2 F3 : Nat → Nat → Int32} {FL L2 L3 : Nat → Nat → Int64} {FR : Nat → Nat → Option Nat} {st : hS} {E : ms_E} {fb : xX} {u : Unit} {K W : Nat → Int} {T t i : Nat}
theorem m9_mk (h : mk FI FL F2 L2) : m9 FI FL F2 L2 := ⟨fun c hc => h.1 c (by omega), fun k hk => h.2 k (by omega)⟩
theorem m9_rf : m9 FI FL FI FL := m9_mk mk_rf
theorem m9_tr (h : m9 FI FL F2 L2) (g : m9 F2 L2 F3 L3) : m9 FI FL F3 L3 := ⟨fun c hc => ⟨(g.1 c hc).1.trans (h.1 c hc).1, (g.1 c hc).2.trans (h.1 c hc).2⟩, fun k hk => ⟨(g.2 k hk).1.trans (h.2 k hk).1, (g.2 k hk).2.trans (h.2 k hk).2⟩⟩
theorem m9_f {k : Nat} {x : Int32} (h : m9 FI FL F2 L2) (hk : (90 ≤ k ∧ k ≤ 95) ∨ k = 101 ∨ k = 104 ∨ (29 ≤ k ∧ k ≤ 44)) : m9 FI FL (h_up F2 121 k x) L2 := ⟨fun c hc => ⟨by rw [h_up_nc (by omega)]; exact (h.1 c hc).1, (h.1 c hc).2⟩, fun j hj => ⟨by rw [h_up_x (by omega)]; exact (h.2 j hj).1, (h.2 j hj).2⟩⟩
theorem m9_i {c k : Nat} {x : Int32} (h : m9 FI FL F2 L2) (hc : (165 ≤ c ∧ c ≤ 166) ∨ (169 ≤ c ∧ c ≤ 175)) : m9 FI FL (h_up F2 c k x) L2 := ⟨fun d hd => ⟨by rw [h_up_nc (by omega)]; exact (h.1 d hd).1, (h.1 d hd).2⟩, fun j hj => ⟨by rw [h_up_x (by omega)]; exact (h.2 j hj).1, (h.2 j hj).2⟩⟩
theorem m9_l {c k : Nat} {x : Int64} (h : m9 FI FL F2 L2) (hc : (165 ≤ c ∧ c ≤ 166) ∨ (169 ≤ c ∧ c ≤ 175)) : m9 FI FL F2 (h_up L2 c k x) := ⟨fun d hd => ⟨(h.1 d hd).1, by rw [h_up_nc (by omega)]; exact (h.1 d hd).2⟩, fun j hj => ⟨(h.2 j hj).1, by rw [h_up_x (by omega)]; exact (h.2 j hj).2⟩⟩
theorem rE_m9 (h : rE FI FL SH E) (g : m9 FI FL F2 L2) : rE F2 L2 SH E := rE_fr h (g.1 123 (by omega)).1 (g.1 124 (by omega)).1 (g.1 125 (by omega)).1 (fun k hk => (g.2 k (Or.inl hk)).1) (fun k hk => (g.2 k (Or.inl hk)).2) (g.1 122 (by omega)).2
theorem mt_m9 (h : mtk K W T FI FL) (g : m9 FI FL F2 L2) : mtk K W T F2 L2 := fun i hi => by
  rw [(g.1 152 (by omega)).1, (g.1 153 (by omega)).2]
  exact h i hi
theorem mf_mk (h : mk FI FL F2 L2) : mf i FI FL F2 L2 := ⟨fun j _ => ⟨by rw [(h.1 169 (by omega)).1], by rw [(h.1 170 (by omega)).2]⟩, fun m _ => by rw [(h.1 172 (by omega)).1], (h.1 171 (by omega)).1, (h.2 94 (by omega)).1, (h.2 95 (by omega)).1⟩
theorem mf_tr (h : mf i FI FL F2 L2) (g : mf i F2 L2 F3 L3) : mf i FI FL F3 L3 := ⟨fun j hj => ⟨(g.1 j hj).1.trans (h.1 j hj).1, (g.1 j hj).2.trans (h.1 j hj).2⟩, fun m hm => (g.2.1 m hm).trans (h.2.1 m hm), g.2.2.1.trans h.2.2.1, g.2.2.2.1.trans h.2.2.2.1, g.2.2.2.2.trans h.2.2.2.2⟩
theorem rm_fr {j : Nat} {H : ms_H} (h : rm FI FL j H) (g : mf i FI FL F2 L2) (hj : j ≠ i) : rm F2 L2 j H := by
  obtain ⟨h1, h2, h3, h4, h5⟩ := h
  refine ⟨by rw [(g.1 j hj).1]; exact h1, by rw [(g.1 j hj).2]; exact h2, h3, h4, fun k b hk => ?_⟩
  have hl := (List.getElem?_eq_some_iff.mp hk).1
  rw [g.2.1 (64 * j + k) (by omega)]
  exact h5 k b hk
/-- what a place leaves -/
def pl_c (n sl : Nat) (SH : Nat → Nat × Nat) (FI : Nat → Nat → Int32) (FL : Nat → Nat → Int64) (FR : Nat → Nat → Option Nat) (on : Bool) (i t1 : Nat) (st : hS) (H : Int ⊕ ms_H) : Prop := ∃ F2 L2, st = (n, sl, SH, F2, L2, FR) ∧ m9 FI FL F2 L2 ∧ mf i FI FL F2 L2 ∧ (F2 121 92).toInt = t1 ∧ (on = false → F2 169 = FI 169 ∧ L2 170 = FL 170 ∧ F2 172 = FI 172) ∧ (¬ (on = true ∧ (FI 121 93).toInt = 0) → F2 121 93 = FI 121 93) ∧ (on = true → (FI 121 93).toInt = 0 → match H with
  | .inl e => (F2 121 93).toInt = e ∧ e ≠ 0
  | .inr h => (F2 121 93).toInt = 0 ∧ rm F2 L2 i h)
theorem bi_t {a1 : Int32} {on : Bool} (h : a1 = bi on) : a1.toInt = 0 ↔ on = false := by
  rw [h]
  exact bi_0
/-- the end of meantPlace -/
theorem mo_184 {a1 a2 l3 : Int32} {l4 : Int64} {on : Bool} {t1 : Nat} {H : Int ⊕ ms_H} {F1 : Nat → Nat → Int32} {L1 : Nat → Nat → Int64} (ha : a1 = bi on) (h2 : a2.toInt = i) (k9 : m9 FI FL F1 L1) (kf : mf i FI FL F1 L1) (h92 : (F1 121 92).toInt = t1) (ho : on = false → F1 169 = FI 169 ∧ L1 170 = FL 170 ∧ F1 172 = FI 172) (h93 : ¬ (on = true ∧ (FI 121 93).toInt = 0) → F1 121 93 = FI 121 93) (hH : on = true → (FI 121 93).toInt = 0 → match H with
    | .inl e => (F1 121 93).toInt = e ∧ e ≠ 0
    | .inr h => (F1 121 93).toInt = 0 ∧ l3.toInt = h.1 ∧ l4 = h.2.1 ∧ ms_ok h ∧ h.2.2.length ≤ 64 ∧ ∀ k b, h.2.2[k]? = some b → F1 172 (64 * i + k) = b ∧ 0 ≤ b.toInt ∧ b.toInt ≤ 255) (h : RX12_meantPlace_184 a1 a2 l3 l4 n sl SH F1 L1 FR u st) : pl_c n sl SH FI FL FR on i t1 st H := by
  rcases h with ⟨h0, -, e⟩ | ⟨h0, -, -, -, e⟩
  · have hof := (bi_t ha).mp h0
    exact ⟨F1, L1, e, k9, kf, h92, ho, h93, fun hon => by rw [hof] at hon; cases hon⟩
  · rw [show a2.toInt.toNat = i by omega] at e
    refine ⟨_, _, e, m9_l (m9_i k9 (by omega)) (by omega), ⟨fun j hj => ⟨?_, ?_⟩, fun m hm => ?_, ?_, ?_, ?_⟩, ?_, fun hof => ?_, fun hn => ?_, fun hon h9 => ?_⟩
    · rw [h_up_ne hj]; exact (kf.1 j hj).1
    · rw [h_up_ne hj]; exact (kf.1 j hj).2
    · rw [h_up_nc (by first | decide | (simp; done) | (simp [ms_0]; done))]; exact kf.2.1 m hm
    · rw [h_up_nc (by first | decide | (simp; done) | (simp [ms_0]; done))]; exact kf.2.2.1
    · rw [h_up_nc (by first | decide | (simp; done) | (simp [ms_0]; done))]; exact kf.2.2.2.1
    · rw [h_up_nc (by first | decide | (simp; done) | (simp [ms_0]; done))]; exact kf.2.2.2.2
    · rw [h_up_nc (by first | decide | (simp; done) | (simp [ms_0]; done))]; exact h92
    · exact absurd ((bi_t ha).mpr hof) h0
    · rw [h_up_nc (by first | decide | (simp; done) | (simp [ms_0]; done))]; exact h93 hn
    · have hH := hH hon h9
      match H, hH with
      | .inl e9, hH => exact ⟨by rw [h_up_nc (by first | decide | (simp; done) | (simp [ms_0]; done))]; exact hH.1, hH.2⟩
      | .inr h9, ⟨q1, q2, q3, q4, q5, q6⟩ =>
        refine ⟨by rw [h_up_nc (by first | decide | (simp; done) | (simp [ms_0]; done))]; exact q1, ?_, ?_, q4, q5, fun k b hk => ?_⟩
        · rw [h_up_eq]; exact q2
        · rw [h_up_eq]; exact q3
        · rw [h_up_nc (by first | decide | (simp; done) | (simp [ms_0]; done))]; exact q6 k b hk
/-- the bytes of a block -/
theorem mo_125 {a1 a2 : Int32} {on : Bool} (ha : a1 = bi on) (h2 : a2.toInt = i) (hi : i < 8) (hg : tk_rg K W) (hK : K T = 0) (hT : T ≤ 1001) : ∀ (g f m t : Nat) (bs : List Int) (t1 : Nat) (l3 : Int32) (l4 : Int64) (FI : Nat → Nat → Int32), mtk K W T FI FL → (FI 121 92).toInt = t → t ≤ T → l4.toInt = m → m ≤ 64 → lp_bl K W f m t = some (t1, bs) → GX12_meantPlace_125 a1 a2 g l3 l4 n sl SH FI FL FR u st → t ≤ t1 ∧ t1 ≤ T ∧ m + bs.length ≤ 64 ∧ (∀ b, b ∈ bs → 0 ≤ b ∧ b ≤ 255) ∧ ∃ F1 l5, l5.toInt = ((m + bs.length : Nat) : Int) ∧ RX12_meantPlace_184 a1 a2 l3 l5 n sl SH F1 FL FR u st ∧ (∀ c, c ≠ 121 → c ≠ 172 → F1 c = FI c) ∧ (∀ k, k ≠ 92 → F1 121 k = FI 121 k) ∧ (F1 121 92).toInt = t1 ∧ (∀ x, x < 64 * i + m ∨ 64 * i + 64 ≤ x → F1 172 x = FI 172 x) ∧ (on = false → F1 172 = FI 172) ∧ (on = true → ∀ k b, bs[k]? = some b → (F1 172 (64 * i + m + k)).toInt = b) := by
  have c3 : ((3 : Int32)).toInt = 3 := by first | decide | (simp; done) | (simp [ms_0]; done)
  intro g
  induction g with
  | zero => intro f m t bs t1 l3 l4 FI _ _ _ _ _ _ h; exact h.elim
  | succ g ih =>
    intro f m t bs t1 l3 l4 FI htk h92 ht hl4 hm hl h
    cases f with
    | zero => cases hl
    | succ f =>
      rw [lp_bl] at hl
      obtain ⟨k1, k2⟩ := htk t ht
      have et : (FI 121 92).toInt.toNat = t := by omega
      obtain ⟨-, h⟩ := h
      rw [et, k1, c3] at h
      rcases h with ⟨h3, h⟩ | ⟨h3, h⟩
      · rw [if_pos h3] at hl
        by_cases h255 : 255 < W t
        · rw [if_pos h255] at hl; cases hl
        rw [if_neg h255] at hl
        by_cases h64 : m = 64
        · rw [if_pos h64] at hl; cases hl
        rw [if_neg h64] at hl
        cases hb : lp_bl K W f (m + 1) (t + 1) with
        | none => rw [hb] at hl; cases hl
        | some p =>
          obtain ⟨t2, b2⟩ := p
          rw [hb] at hl
          cases hl
          have ht1 := lt_T hK ht (by rw [h3]; (first | decide | (simp; done) | (simp [ms_0]; done)))
          have hr := (hg t).1 h3
          have n92 : (FI 121 92 + (1 : Int32)).toInt = ((t + 1 : Nat) : Int) := by
            rw [i_add h92 (by first | decide | (simp; done) | (simp [ms_0]; done) : ((1 : Int32)).toInt = 1) (by omega) (by omega)]
            omega
          have n4 : (l4 + (1 : Int64)).toInt = ((m + 1 : Nat) : Int) := by
            rw [l_add hl4 (by first | decide | (simp; done) | (simp [ms_0]; done) : ((1 : Int64)).toInt = 1) (by omega) (by omega)]
            omega
          have step : ∀ FA : Nat → Nat → Int32, (∀ c, c ≠ 172 → FA c = FI c) → (∀ x, x < 64 * i + m ∨ 64 * i + 64 ≤ x → FA 172 x = FI 172 x) → (on = false → FA 172 = FI 172) → (on = true → (FA 172 (64 * i + m)).toInt = W t) → GX12_meantPlace_125 a1 a2 g l3 (l4 + (1 : Int64)) n sl SH (h_up FA 121 92 (FA 121 92 + (1 : Int32))) FL FR u st → t ≤ t1 ∧ t1 ≤ T ∧ m + (W t :: b2).length ≤ 64 ∧ (∀ b, b ∈ W t :: b2 → 0 ≤ b ∧ b ≤ 255) ∧ ∃ F1 l5, l5.toInt = ((m + (W t :: b2).length : Nat) : Int) ∧ RX12_meantPlace_184 a1 a2 l3 l5 n sl SH F1 FL FR u st ∧ (∀ c, c ≠ 121 → c ≠ 172 → F1 c = FI c) ∧ (∀ k, k ≠ 92 → F1 121 k = FI 121 k) ∧ (F1 121 92).toInt = t1 ∧ (∀ x, x < 64 * i + m ∨ 64 * i + 64 ≤ x → F1 172 x = FI 172 x) ∧ (on = false → F1 172 = FI 172) ∧ (on = true → ∀ k b, (W t :: b2)[k]? = some b → (F1 172 (64 * i + m + k)).toInt = b) := by
            intro FA e1 e2 e3 e4 h
            have e121 : FA 121 = FI 121 := e1 121 (by first | decide | (simp; done) | (simp [ms_0]; done))
            obtain ⟨r1, r2, r3, r4, F1, l5, r5, r6, r7, r8, r9, r10, r11, r12⟩ := ih f (m + 1) (t + 1) b2 t1 l3 (l4 + (1 : Int64)) (h_up FA 121 92 (FA 121 92 + (1 : Int32))) (fun j hj => by rw [h_up_nc (by first | decide | (simp; done) | (simp [ms_0]; done)), e1 152 (by first | decide | (simp; done) | (simp [ms_0]; done))]; exact htk j hj) (by rw [h_up_eq, e121]; exact n92) ht1 n4 (by omega) hb h
            refine ⟨by omega, r2, by simp only [List.length_cons]; omega, fun b hb => ?_, F1, l5, by simp only [List.length_cons]; omega, r6, fun c c1 c2 => ?_, fun k hk => ?_, r9, fun x hx => ?_, fun hof => ?_, fun hon k b hk => ?_⟩
            · rcases List.mem_cons.mp hb with hb | hb
              · rw [hb]; omega
              · exact r4 b hb
            · rw [r7 c c1 c2, h_up_nc c1, e1 c c2]
            · rw [r8 k hk, h_up_ne hk, e121]
            · rw [r10 x (by omega), h_up_nc (by first | decide | (simp; done) | (simp [ms_0]; done)), e2 x hx]
            · rw [r11 hof, h_up_nc (by first | decide | (simp; done) | (simp [ms_0]; done)), e3 hof]
            · cases k with
              | zero =>
                have hk : W t = b := Option.some.inj hk
                rw [← hk, Nat.add_zero, r10 (64 * i + m) (by omega), h_up_nc (by first | decide | (simp; done) | (simp [ms_0]; done))]
                exact e4 hon
              | succ k =>
                have hk : b2[k]? = some b := hk
                rw [show 64 * i + m + (k + 1) = 64 * i + (m + 1) + k by omega]
                exact r12 hon k b hk
          rcases h with ⟨h0, h⟩ | ⟨h0, -, -, h⟩
          · have hof := (bi_t ha).mp h0
            exact step FI (fun _ _ => rfl) (fun _ _ => rfl) (fun _ => rfl) (fun hon => by rw [hof] at hon; cases hon) h
          · have ei : ((64 : Int32) * a2 + l4.toInt32).toInt = ((64 * i + m : Nat) : Int) := by
              rw [i_add (i_mul (by first | decide | (simp; done) | (simp [ms_0]; done) : ((64 : Int32)).toInt = 64) h2 (by omega) (by omega)) (l_2i hl4 (by omega) (by omega)) (by omega) (by omega)]
              omega
            rw [show ((64 : Int32) * a2 + l4.toInt32).toInt.toNat = 64 * i + m by omega] at h
            have hno : ¬ on = false := fun e => h0 ((bi_t ha).mpr e)
            refine step _ (fun c hc => h_up_nc hc) (fun x hx => h_up_ne (by omega)) (fun e => absurd e hno) (fun _ => ?_) h
            rw [h_up_eq]
            exact l_2i k2 (by omega) (by omega)
      · rw [if_neg h3] at hl
        cases hl
        refine ⟨Nat.le_refl _, ht, by simp only [List.length_nil]; omega, fun b hb => by simp at hb, FI, l4, by simp only [List.length_nil]; omega, h, fun _ _ _ => rfl, fun _ _ => rfl, h92, fun _ _ => rfl, fun _ => rfl, fun _ k b hk => by simp at hk⟩
theorem mo_place {a1 a2 : Int32} {on : Bool} {f t1 : Nat} {o : Int} {c : List Int} (hS : h_S n SH) (hK : K T = 0) (hT : T ≤ 1001) (hg : tk_rg K W) (hf : xfq E fb) (htk : mtk K W T FI FL) (hE : rE FI FL SH E) (h92 : (FI 121 92).toInt = t) (ht : t ≤ T) (ha : a1 = bi on) (h2 : a2.toInt = i) (hi : i < 8) (his : lp_is (K t) (W t) = true) (hl : lp_pl K W f o t = some (t1, c)) (hc : c.length ≤ 60000) (hn : au_bn (K t1) (W t1) = 0) (h : RX12_meantPlace a1 a2 n sl SH FI FL FR u st) : t < t1 ∧ t1 ≤ T ∧ ∃ k H, mp E fb c k H ∧ pl_c n sl SH FI FL FR on i t1 st H := by
  have et : (FI 121 92).toInt.toNat = t := by omega
  obtain ⟨k1, k2⟩ := htk t ht
  have his2 : (K t = 5 ∧ W t = 91) ∨ (K t = 2 ∧ (W t = 0 ∨ W t = 1 ∨ W t = 2 ∨ W t = 3)) := of_decide_eq_true his
  have ht1 := lt_T hK ht (by omega)
  have n92 : (FI 121 92 + (1 : Int32)).toInt = ((t + 1 : Nat) : Int) := by
    rw [i_add h92 (by first | decide | (simp; done) | (simp [ms_0]; done) : ((1 : Int32)).toInt = 1) (by omega) (by omega)]
    omega
  have kA : mk FI FL (h_up FI 121 92 (FI 121 92 + (1 : Int32))) FL := mk_f mk_rf (by omega)
  have hA92 : ((h_up FI 121 92 (FI 121 92 + (1 : Int32))) 121 92).toInt = ((t + 1 : Nat) : Int) := by rw [h_up_eq]; exact n92
  have hA93 : (h_up FI 121 92 (FI 121 92 + (1 : Int32))) 121 93 = FI 121 93 := h_up_x (by first | decide | (simp; done) | (simp [ms_0]; done))
  unfold lp_pl at hl
  rcases h with ⟨h0, h⟩ | ⟨h0, h⟩
  · rw [mo_sgn (A := 91) (by first | decide | (simp; done) | (simp [ms_0]; done)) et k1 k2] at h0
    rw [if_neg h0] at hl
    obtain ⟨-, h⟩ := h
    have kw : ((FL 153 t).toInt32).toInt = W t := l_2i k2 (by omega) (by omega)
    rw [et, kw] at h
    rcases h with ⟨w0, h⟩ | ⟨w0, h⟩
    · -- reg
      rw [if_pos w0] at hl
      by_cases hr : K (t + 1) = 3 ∧ W (t + 1) ≤ 31
      · rw [if_pos hr] at hl
        cases hl
        have hw := (hg (t + 1)).1 hr.1
        have ht2 := lt_T hK ht1 (by omega)
        obtain ⟨-, h⟩ := h
        rw [show (FI 121 92 + (1 : Int32)).toInt.toNat = t + 1 by omega] at h
        refine ⟨by omega, ht2, 2, .inr (2, Int64.ofInt (W (t + 1)), []), Or.inr (Or.inl ⟨rfl, W (t + 1), hw.1, hr.2, rfl, rfl⟩), ?_⟩
        have kB : mk FI FL (h_up (h_up FI 121 92 (FI 121 92 + (1 : Int32))) 121 92 ((FI 121 92 + (1 : Int32)) + (1 : Int32))) FL := mk_f kA (by omega)
        refine mo_184 ha h2 (m9_mk kB) (mf_mk kB) ?_ (fun _ => ⟨(kB.1 169 (by omega)).1, rfl, (kB.1 172 (by omega)).1⟩) (fun _ => by rw [h_up_x (by first | decide | (simp; done) | (simp [ms_0]; done))]; exact hA93) (fun _ h9 => ⟨by rw [h_up_x (by first | decide | (simp; done) | (simp [ms_0]; done)), hA93]; exact h9, by first | decide | (simp; done) | (simp [ms_0]; done), ?_, ?_, by first | decide | (simp; done) | (simp [ms_0]; done), fun k b hk => by simp at hk⟩) h
        · rw [h_up_eq, i_add n92 (by first | decide | (simp; done) | (simp [ms_0]; done) : ((1 : Int32)).toInt = 1) (by omega) (by omega)]
          omega
        · rw [← (htk (t + 1) ht1).2, l_oi]
        · refine Or.inr (Or.inr (Or.inl ⟨rfl, rfl, ?_⟩))
          have : (Int64.ofInt (W (t + 1))).toInt = W (t + 1) := by rw [Int64.toInt_ofInt, l_bm (by omega) (by omega)]
          show 0 ≤ (Int64.ofInt (W (t + 1))).toInt ∧ (Int64.ofInt (W (t + 1))).toInt ≤ 31
          omega
      · rw [if_neg hr] at hl; cases hl
    rw [if_neg w0] at hl
    rw [show ((1 : Int32)).toInt = 1 by first | decide | (simp; done) | (simp [ms_0]; done)] at h
    rcases h with ⟨w1, h⟩ | ⟨w1, h⟩
    · -- value
      rw [if_pos w1] at hl
      cases hs : lc_ps K W f 0 o (t + 1) with
      | none => rw [hs] at hl; cases hl
      | some p =>
        obtain ⟨t2, a⟩ := p
        rw [hs] at hl
        cases hl
        obtain ⟨v6, n6, sl6, SH6, FI6, FL6, FR6, hch, h⟩ := h
        obtain ⟨g1, g2, g3, x, g4, F2, L2, g5, g6, g7, g8, g9⟩ := mo_choice hS hK hT hg hf (mt_mk htk kA) (rE_mk hE kA) hA92 ht1 ha hs (by rw [List.length_append] at hc; omega) hn hch
        first | (obtain ⟨zz1, zz2, zz3, zz4, zz5, zz6⟩ := st_c g5; (try subst zz1); (try subst zz2); (try subst zz3); (try subst zz4); (try subst zz5); (try subst zz6)) | cases g5
        have kB : mk FI FL F2 L2 := mk_tr kA g6
        rw [hA93] at g8 g9
        refine ⟨by omega, g2, 3, xh 3 x, Or.inr (Or.inr (Or.inl ⟨rfl, a, x, g3, g4, rfl, rfl⟩)), ?_⟩
        refine mo_184 ha h2 (m9_mk kB) (mf_mk kB) g7 (fun _ => ⟨(kB.1 169 (by omega)).1, (kB.1 170 (by omega)).2, (kB.1 172 (by omega)).1⟩) g8 (fun hon h9 => ?_) h
        have g9 := g9 hon h9
        match x, g9 with
        | .inl e, g9 => exact g9
        | .inr y, g9 => exact ⟨g9.2, by show ((3 : Int32)).toInt = 3; (first | decide | (simp; done) | (simp [ms_0]; done)), g9.1, Or.inr (Or.inr (Or.inr (Or.inl ⟨rfl, rfl⟩))), by show (0 : Nat) ≤ 64; (first | decide | (simp; done) | (simp [ms_0]; done)), fun k b hk => by simp at hk⟩
    rw [if_neg w1] at hl
    rw [show ((2 : Int32)).toInt = 2 by first | decide | (simp; done) | (simp [ms_0]; done)] at h
    rcases h with ⟨w2, h⟩ | ⟨w2, h⟩
    · -- bytes
      rw [if_pos w2] at hl
      by_cases h3 : K (t + 1) = 3
      · rw [if_pos h3] at hl
        cases hs : lp_bl K W 1100 0 (t + 1) with
        | none => rw [hs] at hl; cases hl
        | some p =>
          obtain ⟨t2, bs⟩ := p
          rw [hs] at hl
          cases hl
          obtain ⟨g, h⟩ := h
          obtain ⟨r1, r2, r3, r4, F1, l5, r5, r6, r7, r8, r9, r10, r11, r12⟩ := mo_125 ha h2 hi hg hK hT g 1100 0 (t + 1) bs t1 4 0 _ (mt_mk htk kA) hA92 ht1 (by first | decide | (simp; done) | (simp [ms_0]; done)) (by first | decide | (simp; done) | (simp [ms_0]; done)) hs h
          rw [Nat.zero_add] at r3 r5
          have k9 : m9 FI FL F1 FL := ⟨fun c hc => ⟨by rw [r7 c (by omega) (by omega), h_up_nc (by omega)], rfl⟩, fun k hk => ⟨by rw [r8 k (by omega), h_up_x (by omega)], rfl⟩⟩
          have kf : mf i FI FL F1 FL := ⟨fun j _ => ⟨by rw [r7 169 (by first | decide | (simp; done) | (simp [ms_0]; done)) (by first | decide | (simp; done) | (simp [ms_0]; done)), h_up_nc (by first | decide | (simp; done) | (simp [ms_0]; done))], rfl⟩, fun m hm => by rw [r10 m (by omega), h_up_nc (by first | decide | (simp; done) | (simp [ms_0]; done))], by rw [r7 171 (by first | decide | (simp; done) | (simp [ms_0]; done)) (by first | decide | (simp; done) | (simp [ms_0]; done)), h_up_nc (by first | decide | (simp; done) | (simp [ms_0]; done))], by rw [r8 94 (by first | decide | (simp; done) | (simp [ms_0]; done)), h_up_x (by first | decide | (simp; done) | (simp [ms_0]; done))], by rw [r8 95 (by first | decide | (simp; done) | (simp [ms_0]; done)), h_up_x (by first | decide | (simp; done) | (simp [ms_0]; done))]⟩
          have e93 : F1 121 93 = FI 121 93 := by rw [r8 93 (by first | decide | (simp; done) | (simp [ms_0]; done))]; exact hA93
          have eL : (Int64.ofInt (bs.length : Int)).toInt = (bs.length : Int) := by rw [Int64.toInt_ofInt, l_bm (by omega) (by omega)]
          refine ⟨by omega, r2, 4, .inr (4, Int64.ofInt bs.length, bs.map Int32.ofInt), Or.inr (Or.inr (Or.inr (Or.inl ⟨rfl, bs, r3, rfl, rfl⟩))), ?_⟩
          refine mo_184 ha h2 k9 kf r9 (fun hof => ⟨by rw [r7 169 (by first | decide | (simp; done) | (simp [ms_0]; done)) (by first | decide | (simp; done) | (simp [ms_0]; done)), h_up_nc (by first | decide | (simp; done) | (simp [ms_0]; done))], rfl, by rw [r11 hof, h_up_nc (by first | decide | (simp; done) | (simp [ms_0]; done))]⟩) (fun _ => e93) (fun hon h9 => ⟨by rw [e93]; exact h9, by show ((4 : Int32)).toInt = 4; (first | decide | (simp; done) | (simp [ms_0]; done)), Int64.toInt_inj.mp (by rw [r5]; exact eL.symm), Or.inr (Or.inr (Or.inr (Or.inr ⟨rfl, by show (Int64.ofInt (bs.length : Int)).toInt = ((bs.map Int32.ofInt).length : Int); rw [List.length_map]; exact eL⟩))), by show (bs.map Int32.ofInt).length ≤ 64; rw [List.length_map]; exact r3, fun k b hk => ?_⟩) r6
          have hk : (bs.map Int32.ofInt)[k]? = some b := hk
          rw [List.getElem?_map] at hk
          cases hb : bs[k]? with
          | none => rw [hb] at hk; cases hk
          | some b0 =>
            rw [hb] at hk
            have hk : Int32.ofInt b0 = b := Option.some.inj hk
            have hm := r4 b0 (List.mem_of_getElem? hb)
            have e0 := r12 hon k b0 hb
            rw [Nat.add_zero] at e0
            have eb : b.toInt = b0 := by rw [← hk, Int32.toInt_ofInt, i_bm (by omega) (by omega)]
            exact ⟨i_eqv (by rw [e0, eb]), by omega, by omega⟩
      · rw [if_neg h3] at hl; cases hl
    · -- none
      rw [if_neg w2] at hl
      cases hl
      refine ⟨by omega, ht1, 0, .inr ms_0, Or.inr (Or.inr (Or.inr (Or.inr ⟨rfl, rfl, rfl⟩))), ?_⟩
      refine mo_184 ha h2 (m9_mk kA) (mf_mk kA) hA92 (fun _ => ⟨(kA.1 169 (by omega)).1, rfl, (kA.1 172 (by omega)).1⟩) (fun _ => hA93) (fun _ h9 => ⟨by rw [hA93]; exact h9, by show ((0 : Int32)).toInt = 0; (first | decide | (simp; done) | (simp [ms_0]; done)), rfl, Or.inl ⟨rfl, rfl⟩, by show (0 : Nat) ≤ 64; (first | decide | (simp; done) | (simp [ms_0]; done)), fun k b hk => by simp [ms_0] at hk⟩) h
  · have h0 : K t = 5 ∧ W t = 91 := Classical.byContradiction (fun e => h0 ((mo_sgn (A := 91) (by first | decide | (simp; done) | (simp [ms_0]; done)) et k1 k2).mpr e))
    rw [if_pos h0] at hl
    by_cases h12 : 12 ≤ o
    · rw [if_pos h12] at hl; cases hl
    rw [if_neg h12] at hl
    cases hs : lc_ps K W f 0 (o + 1) (t + 1) with
    | none => rw [hs] at hl; cases hl
    | some p =>
      obtain ⟨t2, a⟩ := p
      rw [hs] at hl
      (try dsimp only at hl)
      by_cases hk : K t2 = 5 ∧ W t2 = 93
      · rw [if_pos hk] at hl
        cases hl
        have hn2 : au_bn (K t2) (W t2) = 0 := by rw [hk.1, hk.2]; (first | decide | (simp; done) | (simp [ms_0]; done))
        obtain ⟨v6, n6, sl6, SH6, FI6, FL6, FR6, hch, h⟩ := h
        obtain ⟨g1, g2, g3, x, g4, F2, L2, g5, g6, g7, g8, g9⟩ := mo_choice hS hK hT hg hf (mt_mk htk kA) (rE_mk hE kA) hA92 ht1 ha hs hc hn2 hch
        first | (obtain ⟨zz1, zz2, zz3, zz4, zz5, zz6⟩ := st_c g5; (try subst zz1); (try subst zz2); (try subst zz3); (try subst zz4); (try subst zz5); (try subst zz6)) | cases g5
        have ht2 := lt_T hK g2 (by omega)
        have kB : mk FI FL (h_up F2 121 92 (F2 121 92 + (1 : Int32))) L2 := mk_f (mk_tr kA g6) (by omega)
        have eB : (h_up F2 121 92 (F2 121 92 + (1 : Int32))) 121 93 = F2 121 93 := h_up_x (by first | decide | (simp; done) | (simp [ms_0]; done))
        rw [hA93] at g8 g9
        refine ⟨by omega, ht2, 1, xh 1 x, Or.inl ⟨rfl, g3, x, g4, rfl⟩, ?_⟩
        refine mo_184 ha h2 (m9_mk kB) (mf_mk kB) ?_ (fun _ => ⟨(kB.1 169 (by omega)).1, (kB.1 170 (by omega)).2, (kB.1 172 (by omega)).1⟩) (fun e => by rw [eB]; exact g8 e) (fun hon h9 => ?_) h
        · rw [h_up_eq, i_add g7 (by first | decide | (simp; done) | (simp [ms_0]; done) : ((1 : Int32)).toInt = 1) (by omega) (by omega)]
          omega
        · have g9 := g9 hon h9
          rw [eB]
          match x, g9 with
          | .inl e, g9 => exact g9
          | .inr y, g9 => exact ⟨g9.2, by show ((1 : Int32)).toInt = 1; (first | decide | (simp; done) | (simp [ms_0]; done)), g9.1, Or.inr (Or.inl ⟨rfl, rfl⟩), by show (0 : Nat) ≤ 64; (first | decide | (simp; done) | (simp [ms_0]; done)), fun k b hk => by simp at hk⟩
      · rw [if_neg hk] at hl; cases hl
end M9
