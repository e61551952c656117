/-! WHAT TWO DESCRIPTIONS OF ONE HEAP SHARE, and the variables between two calls. -/
section SM
variable {base n sl n2 sl2 : Nat} {SH SH2 : Nat → Nat × Nat} {FI F2 : Nat → Nat → Int32} {FL L2 : Nat → Nat → Int64} {FR R2 : Nat → Nat → Option Nat} {c t k z : Nat}
theorem sm_n (h : h_sm base (n, sl, SH, FI, FL, FR) (n2, sl2, SH2, F2, L2, R2)) : n2 = n := by
  obtain ⟨H, ⟨a1, -, -⟩, b1, -, -⟩ := h
  have a1 : H.length = n := a1
  have b1 : H.length = n2 := b1
  omega
theorem sm_c (h : h_sm base (n, sl, SH, FI, FL, FR) (n2, sl2, SH2, F2, L2, R2)) (hc : c < n) : h_cell base (SH c) (FI c) (FL c) (FR c) = h_cell base (SH2 c) (F2 c) (L2 c) (R2 c) := by
  have hn := sm_n h
  obtain ⟨H, ⟨a1, -, a3⟩, b1, -, b3⟩ := h
  have e1 := a3 c hc
  have e2 := b3 c (by show c < n2; omega)
  dsimp only at e1 e2
  rw [e1] at e2
  exact Option.some.inj e2
theorem sm_o (h : h_sm base (n, sl, SH, FI, FL, FR) (n2, sl2, SH2, F2, L2, R2)) (hc : c < n) (ht : (SH c).1 = t) (h1 : t < 100) : (SH2 c).1 = t ∧ h_fs base t (FI c) (FL c) (FR c) = h_fs base t (F2 c) (L2 c) (R2 c) := by
  have e := sm_c h hc
  rw [h_obj ht h1] at e
  unfold h_cell at e
  by_cases q : (SH2 c).1 < 100
  · rw [if_pos q] at e
    have e := Sum.inr.inj e
    have e1 : t = (SH2 c).1 := congrArg Prod.fst e
    rw [← e1] at e
    exact ⟨e1.symm, congrArg Prod.snd e⟩
  · rw [if_neg q] at e
    cases e
theorem sm_f (h : h_sm base (n, sl, SH, FI, FL, FR) (n2, sl2, SH2, F2, L2, R2)) (hc : c < n) (ht : (SH c).1 = t) (h1 : t < 100) (hk : k < h_nf t) : h_fv base (h_ty t k) (FI c k) (FL c k) (FR c k) = h_fv base (h_ty t k) (F2 c k) (L2 c k) (R2 c k) := by
  have e := (sm_o h hc ht h1).2
  have e1 := h_fs_at (base := base) (t := t) (k := k) (f := FI c) (g := FL c) (r := FR c) hk
  have e2 := h_fs_at (base := base) (t := t) (k := k) (f := F2 c) (g := L2 c) (r := R2 c) hk
  rw [e, e2] at e1
  exact (Option.some.inj e1).symm
theorem rf_inj {a b : Option Nat} (h : va_rf (h_rf base a) = va_rf (h_rf base b)) : a = b := by
  have h := va_rf_inj h
  match a, b, h with
  | none, none, _ => rfl
  | none, some y, h => cases h
  | some x, none, h => cases h
  | some x, some y, h =>
    have e : base + x = base + y := Option.some.inj h
    rw [show x = y by omega]
theorem sm_i (h : h_sm base (n, sl, SH, FI, FL, FR) (n2, sl2, SH2, F2, L2, R2)) (hc : c < n) (ht : (SH c).1 = t) (h1 : t < 100) (hk : k < h_nf t) (hy : ∀ x y r, h_fv base (h_ty t k) x y r = .int x) : FI c k = F2 c k := by
  have e := sm_f h hc ht h1 hk
  rw [hy, hy] at e
  exact Value.int.inj e
theorem sm_l (h : h_sm base (n, sl, SH, FI, FL, FR) (n2, sl2, SH2, F2, L2, R2)) (hc : c < n) (ht : (SH c).1 = t) (h1 : t < 100) (hk : k < h_nf t) (hy : ∀ x y r, h_fv base (h_ty t k) x y r = .long y) : FL c k = L2 c k := by
  have e := sm_f h hc ht h1 hk
  rw [hy, hy] at e
  exact Value.long.inj e
theorem sm_r (h : h_sm base (n, sl, SH, FI, FL, FR) (n2, sl2, SH2, F2, L2, R2)) (hc : c < n) (ht : (SH c).1 = t) (h1 : t < 100) (hk : k < h_nf t) (hy : ∀ x y r, h_fv base (h_ty t k) x y r = va_rf (h_rf base r)) : FR c k = R2 c k := by
  have e := sm_f h hc ht h1 hk
  rw [hy, hy] at e
  exact rf_inj e
theorem sm_a (h : h_sm base (n, sl, SH, FI, FL, FR) (n2, sl2, SH2, F2, L2, R2)) (hc : c < n) (hs : SH c = (100 + k, z)) : SH2 c = (100 + k, z) ∧ h_av base k (FI c) (FL c) (FR c) = h_av base k (F2 c) (L2 c) (R2 c) := by
  have e := sm_c h hc
  rw [h_arr hs] at e
  unfold h_cell at e
  by_cases q : (SH2 c).1 < 100
  · rw [if_pos q] at e
    cases e
  · rw [if_neg q] at e
    have e := Sum.inl.inj e
    have e1 : k = (SH2 c).1 - 100 := congrArg Prod.fst e
    have e2 : z = (SH2 c).2 := congrArg (fun q => q.2.1) e
    have e3 : h_av base k (FI c) (FL c) (FR c) = h_av base ((SH2 c).1 - 100) (F2 c) (L2 c) (R2 c) := congrArg (fun q => q.2.2) e
    rw [← e1] at e3
    exact ⟨Prod.ext (by show (SH2 c).1 = 100 + k; omega) e2.symm, e3⟩
theorem sm_ia (h : h_sm base (n, sl, SH, FI, FL, FR) (n2, sl2, SH2, F2, L2, R2)) (hc : c < n) (hs : (SH c).1 = 100) : SH2 c = SH c ∧ FI c = F2 c := by
  have e : SH c = (100 + 0, (SH c).2) := Prod.ext hs rfl
  obtain ⟨a, b⟩ := sm_a h hc e
  exact ⟨a.trans e.symm, Sum.inl.inj b⟩
theorem sm_la (h : h_sm base (n, sl, SH, FI, FL, FR) (n2, sl2, SH2, F2, L2, R2)) (hc : c < n) (hs : (SH c).1 = 101) : SH2 c = SH c ∧ FL c = L2 c := by
  have e : SH c = (100 + 1, (SH c).2) := Prod.ext hs rfl
  obtain ⟨a, b⟩ := sm_a h hc e
  exact ⟨a.trans e.symm, Sum.inl.inj (Sum.inr.inj b)⟩
theorem sm_ra (h : h_sm base (n, sl, SH, FI, FL, FR) (n2, sl2, SH2, F2, L2, R2)) (hc : c < n) (hs : (SH c).1 = 104) : SH2 c = SH c ∧ FR c = R2 c := by
  have e : SH c = (100 + 4, (SH c).2) := Prod.ext hs rfl
  obtain ⟨a, b⟩ := sm_a h hc e
  have b : (fun i => h_rf base (FR c i)) = fun i => h_rf base (R2 c i) := Sum.inr.inj (Sum.inr.inj (Sum.inr.inj (Sum.inr.inj b)))
  refine ⟨a.trans e.symm, funext fun i => rf_inj (base := base) ?_⟩
  have this : h_rf base (FR c i) = h_rf base (R2 c i) := congrFun b i
  rw [this]
/-- the variables that the class has, in both descriptions -/
theorem v_cl_sm {V : List lp_V} (sm : h_sm base (n, sl, SH, FI, FL, FR) (n2, sl2, SH2, F2, L2, R2)) (hS : h_S n SH) (hR : g_R n SH FR) (h : v_cl F2 R2 SH2 n2 V) : v_cl FI FR SH n V := by
  obtain ⟨vc, y1, y2, y3, y4, y5, y6⟩ := h
  have t0 : (SH 0).1 = 11 := by rw [s0 hS]
  have r11 : FR 0 11 = some vc := (sm_r sm (c0 hS) t0 (by decide) (by decide) (fun _ _ _ => rfl)).trans y1
  have i12 : FI 0 12 = F2 0 12 := sm_i sm (c0 hS) t0 (by decide) (by decide) (fun _ _ _ => rfl)
  obtain ⟨g1, g2, g3, -⟩ := hR.2.1 0 11 vc (c0 hS) (Or.inl (by decide)) r11
  rw [t0] at g3
  have g3 : (SH vc).1 = 104 := g3.trans (by decide)
  obtain ⟨a1, a2⟩ := sm_ra sm g1 g3
  refine ⟨vc, r11, g1, by rw [← a1]; exact y3, by rw [i12]; exact y4, y5, fun i v hv => ?_⟩
  obtain ⟨x, x1, x2, d1, ⟨nm, d2, d3, d4, d5⟩, cc, d6, d7, d8, d9, d10, d11⟩ := y6 i v hv
  have x1' : FR vc i = some x := by rw [a2]; exact x1
  obtain ⟨q1, q2, q3, -⟩ := hR.2.1 vc i x g1 g2 x1'
  rw [g3] at q3
  have q3 : (SH x).1 = 10 := q3.trans rfl
  have e5 : FI x 5 = F2 x 5 := sm_i sm q1 q3 (by decide) (by decide) (fun _ _ _ => rfl)
  have e0 : FR x 0 = R2 x 0 := sm_r sm q1 q3 (by decide) (by decide) (fun _ _ _ => rfl)
  have e6 : FR x 6 = R2 x 6 := sm_r sm q1 q3 (by decide) (by decide) (fun _ _ _ => rfl)
  obtain ⟨p1, p2, p3, -⟩ := hR.2.1 x 0 nm q1 q2 (e0.trans d2)
  rw [q3] at p3
  have p3 : (SH nm).1 = 100 := p3.trans (by decide)
  obtain ⟨o1, o2, o3, -⟩ := hR.2.1 x 6 cc q1 q2 (e6.trans d6)
  rw [q3] at o3
  have o3 : (SH cc).1 = 100 := o3.trans (by decide)
  obtain ⟨m1, m2⟩ := sm_ia sm p1 p3
  obtain ⟨l1, l2⟩ := sm_ia sm o1 o3
  exact ⟨x, x1', q1, by rw [e5]; exact d1, ⟨nm, e0.trans d2, d3, p1, nm_fr d5 m2 m1.symm⟩, cc, e6.trans d6, o1, d8, by rw [← l1]; exact d9, d10, fun k hk => by rw [l2]; exact d11 k hk⟩
end SM
/-- also ahead of the first compile -/
def v_any (F : Nat → Nat → Int32) (R : Nat → Nat → Option Nat) (SH : Nat → Nat × Nat) (n : Nat) (V : List lp_V) : Prop := v_cl F R SH n V ∨ (V = [] ∧ (F 0 12).toInt = 0)
def g_UV (n : Nat) (SH : Nat → Nat × Nat) (FI : Nat → Nat → Int32) (FL : Nat → Nat → Int64) (FR : Nat → Nat → Option Nat) : Prop := ∃ K W T V, u_vw FI FL K W T V ∧ v_any FI FR SH n V
/-- a call that leaves the variables alone -/
def g_UK (n : Nat) (SH : Nat → Nat × Nat) (FI : Nat → Nat → Int32) (FL : Nat → Nat → Int64) (FR : Nat → Nat → Option Nat) (n2 : Nat) (SH2 : Nat → Nat × Nat) (F2 : Nat → Nat → Int32) (L2 : Nat → Nat → Int64) (R2 : Nat → Nat → Option Nat) : Prop := ∀ K W T V, (u_vw FI FL K W T V → u_vw F2 L2 K W T V) ∧ (v_any FI FR SH n V → v_any F2 R2 SH2 n2 V)
def u_e6 (FI F2 : Nat → Nat → Int32) (FL L2 : Nat → Nat → Int64) : Prop := F2 156 = FI 156 ∧ F2 157 = FI 157 ∧ F2 152 = FI 152 ∧ L2 153 = FL 153 ∧ L2 155 = FL 155 ∧ F2 121 74 = FI 121 74
section UV
variable {n n2 : Nat} {SH SH2 : Nat → Nat × Nat} {FI F2 : Nat → Nat → Int32} {FL L2 : Nat → Nat → Int64} {FR R2 : Nat → Nat → Option Nat} {V : List lp_V}
theorem uv_up (h : g_UK n SH FI FL FR n2 SH2 F2 L2 R2) (u : g_UV n SH FI FL FR) : g_UV n2 SH2 F2 L2 R2 := by
  obtain ⟨K, W, T, V, u1, u2⟩ := u
  exact ⟨K, W, T, V, (h K W T V).1 u1, (h K W T V).2 u2⟩
theorem u_vw_e {K W : Nat → Int} {T : Nat} (h : u_vw FI FL K W T V) (e : u_e6 FI F2 FL L2) (e4 : ∀ k, 12000 ≤ k → F2 124 k = FI 124 k) (e5 : ∀ k, 20 ≤ k → F2 125 k = FI 125 k) : u_vw F2 L2 K W T V := by
  obtain ⟨h1, h2, h3, h4⟩ := h
  obtain ⟨a1, a2, a3, a4, a5, a6⟩ := e
  refine ⟨by rw [a6]; exact h1, h2, fun i v hi => ?_, fun i hi => by rw [a3, a4]; exact h4 i hi⟩
  obtain ⟨q1, q2, q3, q4, q5, q6⟩ := h3 i v hi
  exact ⟨by rw [a5]; exact q1, by rw [a2]; exact q2, by rw [a1]; exact q3, by rw [e5 _ (by omega)]; exact q4, q5, fun k hk => by rw [e4 _ (by omega)]; exact q6 k hk⟩
theorem v_any_fr (hV : g_V SH FI FR) (ex : g_ex n SH n2 SH2) (e12 : F2 0 12 = FI 0 12) (e11 : R2 0 11 = FR 0 11) (dI : ∀ c k, 176 ≤ c → c < n → F2 c k = FI c k) (dR : ∀ c k, 176 ≤ c → c < n → R2 c k = FR c k) (h : v_any FI FR SH n V) : v_any F2 R2 SH2 n2 V := by
  rcases h with ⟨vc, y1, y2, y3, y4, y5, y6⟩ | ⟨h1, h2⟩
  · refine Or.inl ⟨vc, by rw [e11]; exact y1, Nat.lt_of_lt_of_le y2 ex.1, by rw [ex.2 vc y2]; exact y3, by rw [e12]; exact y4, y5, fun i v hv => ?_⟩
    obtain ⟨x, x1, x2, d1, ⟨nm, d2, d3, d4, d5⟩, cc, d6, d7, d8, d9, d10, d11⟩ := y6 i v hv
    have hi : (i : Int) < (FI 0 12).toInt := by
      have := (List.getElem?_eq_some_iff.mp hv).1
      omega
    obtain ⟨v', g1, g2⟩ := hV
    rw [y1] at g1
    cases g1
    obtain ⟨g3, r, g4, g5, -⟩ := g2 i hi
    rw [x1] at g4
    cases g4
    have up : ∀ q, q < n → q < n2 := fun q hq => Nat.lt_of_lt_of_le hq ex.1
    exact ⟨x, by rw [dR vc i g3 y2]; exact x1, up x x2, by rw [dI x 5 g5 x2]; exact d1, ⟨nm, by rw [dR x 0 g5 x2]; exact d2, d3, up nm d4, nm_fr d5 (funext fun k => dI nm k d3 d4) (ex.2 nm d4)⟩, cc, by rw [dR x 6 g5 x2]; exact d6, up cc d7, d8, by rw [ex.2 cc d7]; exact d9, d10, fun k hk => by rw [dI cc k d8 d7]; exact d11 k hk⟩
  · exact Or.inr ⟨h1, by rw [e12]; exact h2⟩
/-- frames that leave what came later alone -/
def uv_d (L : List (Nat × Nat)) (A T : List Nat) : Bool := L.all (fun p => decide (p.1 < 176)) && (A.all (fun q => decide (q < 176)) && T.all (fun t => decide (t < 1000)))
theorem uv_d_at {α : Type} {F G : Nat → Nat → α} {L : List (Nat × Nat)} {A T : List Nat} (f : g_fr n (shd SH) L A T F G) (m : uv_d L A T = true) : ∀ c k, 176 ≤ c → c < n → G c k = F c k := by
  unfold uv_d at m
  rw [Bool.and_eq_true, Bool.and_eq_true] at m
  obtain ⟨m1, m2, m3⟩ := m
  intro c k h1 h2
  refine f c k h2 (fun h => ?_) (fun h => ?_) (fun h => ?_)
  · have := of_decide_eq_true (List.all_eq_true.mp m1 (c, k) h)
    dsimp only at this
    omega
  · have := of_decide_eq_true (List.all_eq_true.mp m2 c h)
    omega
  · have h3 := of_decide_eq_true (List.all_eq_true.mp m3 _ h)
    unfold shd at h3
    rw [if_pos h1] at h3
    dsimp only at h3
    omega
/-- a call of the class leaves the reference's variables alone -/
theorem u_cls {L1 L3 : List (Nat × Nat)} {A1 T1 A3 T3 : List Nat} (hS : h_S n SH) (f1 : g_fr n (shd SH) L1 A1 T1 FI F2) (f2 : g_fr n (shd SH) L3 A3 T3 FL L2) (m1 : g_cls L1 A1 T1 = true) (m2 : g_cls L3 A3 T3 = true) : ∀ K W T V, u_vw FI FL K W T V → u_vw F2 L2 K W T V := by
  have e : ∀ c, 121 ≤ c → c < 176 → F2 c = FI c := fun c h1 h2 => funext fun k => g_cls_at f1 m1 hS.1 h1 h2
  have g : ∀ c, 121 ≤ c → c < 176 → L2 c = FL c := fun c h1 h2 => funext fun k => g_cls_at f2 m2 hS.1 h1 h2
  intro K W T V h
  exact u_vw_e h ⟨e 156 (by decide) (by decide), e 157 (by decide) (by decide), e 152 (by decide) (by decide), g 153 (by decide) (by decide), g 155 (by decide) (by decide), by rw [e 121 (by decide) (by decide)]⟩ (fun k _ => by rw [e 124 (by decide) (by decide)]) (fun k _ => by rw [e 125 (by decide) (by decide)])
/-- a call of the class that leaves the variables alone -/
theorem uk_cls {L1 L3 L4 : List (Nat × Nat)} {A1 T1 A3 T3 A4 T4 : List Nat} (h : g_INV n SH FI FL FR) (ex : g_ex n SH n2 SH2) (f1 : g_fr n (shd SH) L1 A1 T1 FI F2) (f2 : g_fr n (shd SH) L3 A3 T3 FL L2) (f3 : g_fr n (shd SH) L4 A4 T4 FR R2) (m1 : g_cls L1 A1 T1 = true) (m2 : g_cls L3 A3 T3 = true) (d1 : uv_d L1 A1 T1 = true) (d3 : uv_d L4 A4 T4 = true) (z1 : (L1.contains (0, 12) || A1.contains 0 || T1.contains 11) = false) (z3 : (L4.contains (0, 11) || A4.contains 0 || T4.contains 11) = false) : g_UK n SH FI FL FR n2 SH2 F2 L2 R2 := fun K W T V => ⟨u_cls h.1 f1 f2 m1 m2 K W T V, v_any_fr h.2.2.2.2.1 ex (gf_at f1 (c0 h.1) (shd_f (by decide) (s0 h.1)) z1 rfl) (gf_at f3 (c0 h.1) (shd_f (by decide) (s0 h.1)) z3 rfl) (uv_d_at f1 d1) (uv_d_at f3 d3)⟩
/-- a call of the reference leaves the class's variables alone -/
theorem v_ref {L1 : List (Nat × Nat)} {A1 : List Nat} (h : g_INV n SH FI FL FR) (f1 : g_fr n SH L1 A1 [] FI F2) (m : (L1.all (fun p => decide (121 ≤ p.1 ∧ p.1 < 176)) && A1.all (fun q => decide (121 ≤ q ∧ q < 176))) = true) : ∀ V, v_any FI FR SH n V → v_any F2 FR SH n V := by
  rw [Bool.and_eq_true] at m
  have e : ∀ c k, c < n → (c < 121 ∨ 176 ≤ c) → F2 c k = FI c k := fun c k hc h1 => by
    refine f1 c k hc (fun h => ?_) (fun h => ?_) (by simp)
    · have := of_decide_eq_true (List.all_eq_true.mp m.1 (c, k) h)
      dsimp only at this
      omega
    · have := of_decide_eq_true (List.all_eq_true.mp m.2 c h)
      omega
  intro V hv
  exact v_any_fr h.2.2.2.2.1 ex_rf (e 0 12 (c0 h.1) (Or.inl (by decide))) rfl (fun c k h1 h2 => e c k h2 (Or.inr h1)) (fun _ _ _ _ => rfl) hv
theorem uk_ref {L1 : List (Nat × Nat)} {A1 : List Nat} (h : g_INV n SH FI FL FR) (f1 : g_fr n SH L1 A1 [] FI F2) (m : (L1.all (fun p => decide (121 ≤ p.1 ∧ p.1 < 176)) && A1.all (fun q => decide (121 ≤ q ∧ q < 176))) = true) (e : u_e6 FI F2 FL L2) (e4 : F2 124 = FI 124) (e5 : F2 125 = FI 125) : g_UK n SH FI FL FR n SH F2 L2 FR := fun K W T V => ⟨fun hu => u_vw_e hu e (fun k _ => by rw [e4]) (fun k _ => by rw [e5]), v_ref h f1 m V⟩
/-- the names have digits -/
theorem v_any_D (h : v_any FI FR SH n V) : ∀ (j : Nat) (v : lp_V), V[j]? = some v → ∃ D, v_dg D ∧ v.1 = t_tv D := by
  intro j v hv
  rcases h with ⟨vc, y1, y2, y3, y4, y5, y6⟩ | ⟨h1, h2⟩
  · obtain ⟨x, x1, x2, d1, ⟨nm, d2, d3, d4, D, o1, o2, o3, o4, o5⟩, -⟩ := y6 j v hv
    exact ⟨D, ⟨o2, o3⟩, o4⟩
  · rw [h1] at hv
    simp at hv
theorem c_var2 {sl : Nat} {a1 a2 v : Int32} {s : hS} (hv : v_any FI FR SH n V) (h : RX11_variable a1 a2 n sl SH FI FL FR v s) : va_is V a1.toInt a2.toInt v.toInt := by
  rcases hv with hv | ⟨h1, h2⟩
  · exact (c_var hv h).2
  · subst h1
    obtain ⟨v0, n0, sl0, SH0, FI0, FL0, FR0, hi, h⟩ := h
    have h0 : v0.toInt = 0 := by
      rcases hi with ⟨-, e, -⟩ | ⟨h0, hi⟩
      · rw [e]; decide
      · rcases hi with ⟨h1, -⟩ | ⟨-, e, -⟩
        · rw [h2] at h1
          exact absurd h1 h0
        · rw [e]; decide
    rcases h with ⟨-, e1, -⟩ | ⟨hn, -⟩
    · exact ⟨fun _ => by rw [e1]; decide, fun v' _ hv' => by simp at hv'⟩
    · exact absurd h0 hn
theorem uv_0 (h12 : (FI 0 12).toInt = 0) (h74 : (FI 121 74).toInt = 0) : g_UV n SH FI FL FR := ⟨fun i => (FI 152 i).toInt, fun i => (FL 153 i).toInt, 0, [], ⟨by rw [h74]; rfl, by decide, fun i v hi => by simp at hi, fun i _ => ⟨rfl, rfl⟩⟩, Or.inr ⟨rfl, h12⟩⟩
end UV
