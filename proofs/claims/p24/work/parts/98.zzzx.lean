/-! WHAT THE REFERENCE'S COMPILE LEAVES ALONE, of what other calls read. -/
def ck (FI : Nat → Nat → Int32) (FL : Nat → Nat → Int64) (F2 : Nat → Nat → Int32) (L2 : Nat → Nat → Int64) : Prop := (∀ c, (c = 122 ∨ c = 123 ∨ (143 ≤ c ∧ c ≤ 148)) → F2 c = FI c ∧ L2 c = FL c) ∧ (∀ k, ((5 ≤ k ∧ k ≤ 11) ∨ k = 46 ∨ k = 47 ∨ k = 61) → F2 121 k = FI 121 k ∧ L2 121 k = FL 121 k) ∧ (∀ k, k < 12000 → F2 124 k = FI 124 k) ∧ (∀ k, k < 20 → F2 125 k = FI 125 k)
theorem ck_rf {FI : Nat → Nat → Int32} {FL : Nat → Nat → Int64} : ck FI FL FI FL := ⟨fun _ _ => ⟨rfl, rfl⟩, fun _ _ => ⟨rfl, rfl⟩, fun _ _ => rfl, fun _ _ => rfl⟩
theorem ck_tr {FI F2 F3 : Nat → Nat → Int32} {FL L2 L3 : Nat → Nat → Int64} (h : ck FI FL F2 L2) (g : ck F2 L2 F3 L3) : ck FI FL F3 L3 := ⟨fun c hc => ⟨(g.1 c hc).1.trans (h.1 c hc).1, (g.1 c hc).2.trans (h.1 c hc).2⟩, fun k hk => ⟨(g.2.1 k hk).1.trans (h.2.1 k hk).1, (g.2.1 k hk).2.trans (h.2.1 k hk).2⟩, fun k hk => (g.2.2.1 k hk).trans (h.2.2.1 k hk), fun k hk => (g.2.2.2 k hk).trans (h.2.2.2 k hk)⟩
theorem ck_up {FI : Nat → Nat → Int32} {FL : Nat → Nat → Int64} {c k : Nat} {x : Int32} (h : (c = 121 ∧ ¬ ((5 ≤ k ∧ k ≤ 11) ∨ k = 46 ∨ k = 47 ∨ k = 61)) ∨ 148 < c) : ck FI FL (h_up FI c k x) FL := by
  refine ⟨fun q hq => ⟨h_up_nc (by omega), rfl⟩, fun j hj => ⟨h_up_x (fun e => ?_), rfl⟩, fun j hj => h_up_x (by omega), fun j hj => h_up_x (by omega)⟩
  rcases h with h | h
  · exact h.2 (by rw [← e.2]; exact hj)
  · have := e.1
    omega
theorem ck_lp {FI : Nat → Nat → Int32} {FL : Nat → Nat → Int64} {c k : Nat} {x : Int64} (h : 148 < c) : ck FI FL FI (h_up FL c k x) := ⟨fun q hq => ⟨rfl, h_up_nc (by omega)⟩, fun j hj => ⟨rfl, h_up_x (by omega)⟩, fun _ _ => rfl, fun _ _ => rfl⟩
def k_ck (m : k_M) : Bool := k_no m 122 && k_no m 123 && k_no m 124 && k_no m 125 && k_no m 143 && k_no m 144 && k_no m 145 && k_no m 146 && k_no m 147 && k_no m 148 && [5, 6, 7, 8, 9, 10, 11, 46, 47, 61].all (fun k => !k_in m.1 m.2.1 121 k) && [122, 123, 143, 144, 145, 146, 147, 148, 121].all (fun c => k_no (m.2.2.1, m.2.2.2, [], []) c)
theorem ck_kq {m : k_M} {a b : hS} (h : kq m a b) (hm : k_ck m = true) : ck a.2.2.2.1 a.2.2.2.2.1 b.2.2.2.1 b.2.2.2.2.1 := by
  unfold k_ck at hm
  simp only [Bool.and_eq_true] at hm
  obtain ⟨⟨⟨⟨⟨⟨⟨⟨⟨⟨⟨m1, m2⟩, m3⟩, m4⟩, m5⟩, m6⟩, m7⟩, m8⟩, m9⟩, m10⟩, m11⟩, m12⟩ := hm
  have l : ∀ c, (c = 122 ∨ c = 123 ∨ (143 ≤ c ∧ c ≤ 148) ∨ c = 121) → b.2.2.2.2.1 c = a.2.2.2.2.1 c := fun c hc => kq_fl h (List.all_eq_true.mp m12 c (by
    have : c = 122 ∨ c = 123 ∨ c = 143 ∨ c = 144 ∨ c = 145 ∨ c = 146 ∨ c = 147 ∨ c = 148 ∨ c = 121 := by omega
    rcases this with e | e | e | e | e | e | e | e | e <;> rw [e] <;> decide))
  refine ⟨fun c hc => ⟨?_, l c (by omega)⟩, fun k hk => ⟨?_, by rw [l 121 (by omega)]⟩, fun k _ => by rw [kq_cell h m3], fun k _ => by rw [kq_cell h m4]⟩
  · have : c = 122 ∨ c = 123 ∨ c = 143 ∨ c = 144 ∨ c = 145 ∨ c = 146 ∨ c = 147 ∨ c = 148 := by omega
    rcases this with e | e | e | e | e | e | e | e
    · rw [e]; exact kq_cell h m1
    · rw [e]; exact kq_cell h m2
    · rw [e]; exact kq_cell h m5
    · rw [e]; exact kq_cell h m6
    · rw [e]; exact kq_cell h m7
    · rw [e]; exact kq_cell h m8
    · rw [e]; exact kq_cell h m9
    · rw [e]; exact kq_cell h m10
  · refine kq_fld h ?_
    have : k = 5 ∨ k = 6 ∨ k = 7 ∨ k = 8 ∨ k = 9 ∨ k = 10 ∨ k = 11 ∨ k = 46 ∨ k = 47 ∨ k = 61 := by omega
    have q := List.all_eq_true.mp m11 k (by rcases this with e | e | e | e | e | e | e | e | e | e <;> rw [e] <;> decide)
    simpa using q
section CK
variable {K W : Nat → Int} {P : Nat → Nat} {n sl : Nat} {SH : Nat → Nat × Nat} {FI : Nat → Nat → Int32} {FL : Nat → Nat → Int64} {FR : Nat → Nat → Option Nat} {t T f : Nat} {o : Int} {B : List Int} {s : hS} {V : List lp_V}
theorem c_faultyk {a b v : Int32} (h : RX12_faulty a b n sl SH FI FL FR v s) : v = -1 ∧ (u_eq FI s.2.2.2.1 FL s.2.2.2.2.1 ∧ ck FI FL s.2.2.2.1 s.2.2.2.2.1) := ⟨(c_faulty h).1, (c_faulty h).2, ck_kq (kX12_faulty h) (by first | decide | (simp; done) | (simp [ms_0]; done))⟩
theorem ck_277 : ∀ (g : Nat) (l1 : Int32) (n sl : Nat) (SH : Nat → Nat × Nat) (FI : Nat → Nat → Int32) (FL : Nat → Nat → Int64) (FR : Nat → Nat → Option Nat) (v : Int32) (s : hS), GX12_compile_277 g l1 n sl SH FI FL FR v s → ck FI FL s.2.2.2.1 s.2.2.2.2.1 := by
  intro g
  induction g with
  | zero => intro l1 n sl SH FI FL FR v s h; exact h.elim
  | succ g ih =>
    intro l1 n sl SH FI FL FR v s h
    rcases h with ⟨-, -, -, -, -, h⟩ | ⟨-, v3, n3, sl3, SH3, FI3, FL3, FR3, ht, -, rfl⟩
    · exact ck_tr (ck_up (Or.inr (by first | decide | (simp; done) | (simp [ms_0]; done)))) (ck_tr (ck_lp (by first | decide | (simp; done) | (simp [ms_0]; done))) (ih _ _ _ _ _ _ _ _ _ h))
    · exact ck_tr (ck_up (Or.inl ⟨rfl, by omega⟩)) (ck_tr (ck_up (Or.inl ⟨rfl, by omega⟩)) (ck_kq (kX12_tells ht) (by first | decide | (simp; done) | (simp [ms_0]; done))))
theorem c_34k (hk : tk_ok K W P T) (hf : 12 * T + 20 < f) : ∀ (g n sl : Nat) (SH : Nat → Nat × Nat) (FI : Nat → Nat → Int32) (FL : Nat → Nat → Int64) (FR : Nat → Nat → Option Nat) (v : Int32) (s : hS) (g2 t : Nat) (o : Int) (V : List lp_V), GX12_compile_34 g n sl SH FI FL FR v s → h_S n SH → d_vw K W FI FL t o (lp_fl V) → v_vw FI FL V → t ≤ T → T - t < g2 → (lp_fl V).length ≤ 4 * P t → ∃ n2 sl2 SH2 FI2 FL2 FR2, RX12_compile_60 n2 sl2 SH2 FI2 FL2 FR2 v s ∧ h_S n2 SH2 ∧ (u_eq FI FI2 FL FL2 ∧ ck FI FL FI2 FL2) ∧ FI2 121 67 = FI 121 67 ∧ match lp_tx K W f g2 t V with
    | none => (FI2 121 69).toInt ≠ 0
    | some V1 => (∃ o1, d_vw K W FI2 FL2 T o1 (lp_fl V1)) ∧ v_vw FI2 FL2 V1 ∧ (lp_fl V1).length ≤ 4000 := by
  intro g
  induction g with
  | zero => intro n sl SH FI FL FR v s g2 t o V h; exact h.elim
  | succ g ih =>
    intro n sl SH FI FL FR v s g2 t o V h hS hd hv ht hg2 hL
    have hK : (FI 149 (FI 121 68).toInt.toNat).toInt = K t := by rw [tk_i hd.1, tk_K hd.1]
    cases g2 with
    | zero => omega
    | succ g2 =>
      rw [lp_tx_st]
      rcases h with ⟨h1, h⟩ | ⟨h1, h⟩
      · obtain ⟨-, h⟩ := h
        rcases h with ⟨h2, h⟩ | ⟨h2, h⟩
        · rw [hK] at h2
          rw [if_pos h2]
          have e : t = T := by
            rcases Nat.lt_or_ge t T with h3 | h3
            · exact absurd h2 (hk.2.2.2.2.1 t h3)
            · omega
          subst e
          have := hk.2.2.2.2.2
          exact ⟨n, sl, SH, FI, FL, FR, h, hS, ⟨u_rf, ck_rf⟩, rfl, ⟨o, hd⟩, hv, by omega⟩
        · rw [hK] at h2
          rw [if_neg h2]
          obtain ⟨v2, n2, sl2, SH2, FI2, FL2, FR2, hc, h⟩ := h
          have kc := kX12_declared hc
          have hS2 : h_S n2 SH2 := by rw [show n2 = n from kc.1, show SH2 = SH from kc.2.2.1]; exact hS
          have hu : u_eq FI FI2 FL FL2 ∧ ck FI FL FI2 FL2 := ⟨u_kq kc (by first | decide | (simp; done) | (simp [ms_0]; done)), ck_kq kc (by first | decide | (simp; done) | (simp [ms_0]; done))⟩
          have h67 : FI2 121 67 = FI 121 67 := kq_fld kc (by first | decide | (simp; done) | (simp [ms_0]; done))
          have q := d_declared (f := f) hc hS hk hf ht hd hv
          cases hr : lp_st K W f t V with
          | none =>
            rw [hr] at q
            have q' : (FI2 121 69).toInt ≠ 0 := q
            cases g with
            | zero => exact h.elim
            | succ g =>
              rcases h with ⟨h3, h⟩ | ⟨h3, h⟩
              · exact absurd h3 q'
              · exact ⟨n2, sl2, SH2, FI2, FL2, FR2, h, hS2, hu, h67, q'⟩
          | some r =>
            obtain ⟨t1, V1⟩ := r
            rw [hr] at q
            obtain ⟨q1, q2, ⟨o1, q3⟩, q4⟩ := q
            have hp := lp_st_P hk.2.1 hr
            obtain ⟨n3, sl3, SH3, FI3, FL3, FR3, k1, k2, k3, k4, k5⟩ := ih n2 sl2 SH2 FI2 FL2 FR2 v s g2 t1 o1 V1 h hS2 q3 q4 q2 (by omega) (by omega)
            exact ⟨n3, sl3, SH3, FI3, FL3, FR3, k1, k2, ⟨u_tr hu.1 k3.1, ck_tr hu.2 k3.2⟩, k4.trans h67, k5⟩
      · exact absurd hd.2.1 h1
theorem c_82k (hv : v_vw FI FL V) (hl : (lp_fl V).length ≤ 4000) : ∀ (g : Nat) (l1 : Int32) (n sl : Nat) (SH : Nat → Nat × Nat) (FR : Nat → Nat → Option Nat) (v : Int32) (s : hS) (i : Nat), GX12_compile_82 g l1 n sl SH FI FL FR v s → l1.toInt = i → i ≤ V.length → ((∃ j x, i ≤ j ∧ V[j]? = some x ∧ ¬ (x.2.2.2.2 = false ∧ x.2.2.2.1.length ≤ 600)) ∧ v = -1 ∧ (u_eq FI s.2.2.2.1 FL s.2.2.2.2.1 ∧ ck FI FL s.2.2.2.1 s.2.2.2.2.1)) ∨ ((∀ j x, i ≤ j → V[j]? = some x → x.2.2.2.2 = false ∧ x.2.2.2.1.length ≤ 600) ∧ RX12_compile_151 0 n sl SH (h_up FI 121 74 (FI 121 78)) FL FR v s) := by
  intro g
  induction g with
  | zero => intro l1 n sl SH FR v s i h; exact h.elim
  | succ g ih =>
    intro l1 n sl SH FR v s i h hl1 hi
    have c600 : ((600 : Int32)).toInt = 600 := by first | decide | (simp; done) | (simp [ms_0]; done)
    have hm := hv.1
    have h12 := hv.2.1
    rcases h with ⟨h1, h⟩ | ⟨h1, h⟩
    · have hlt : i < V.length := by omega
      have hx := List.getElem?_eq_getElem hlt
      have q := hv.2.2.1 i V[i] hx
      have q161 := v_161 hv hx hl
      have hi0 : l1.toInt.toNat = i := by omega
      have hl1' : (l1 + (1 : Int32)).toInt = ((i + 1 : Nat) : Int) := by
        rw [i_add hl1 (by first | decide | (simp; done) | (simp [ms_0]; done) : ((1 : Int32)).toInt = 1) (by omega) (by omega)]; omega
      have hi1 : (l1 + (1 : Int32)).toInt.toNat = i + 1 := by omega
      obtain ⟨-, -, -, h⟩ := h
      rw [hi0, hi1, q161.2, c600, q.2.2.2.1] at h
      rcases h with ⟨h2, h⟩ | ⟨h2, h⟩
      · have hb : V[i].2.2.2.2 = false := by
          cases e : V[i].2.2.2.2 with
          | false => rfl
          | true => rw [e] at h2; exact absurd h2 (by first | decide | (simp; done) | (simp [ms_0]; done))
        rcases h with ⟨h3, h⟩ | ⟨h3, h⟩
        · obtain ⟨-, v3, n3, sl3, SH3, FI3, FL3, FR3, hc, rfl, rfl⟩ := h
          obtain ⟨e1, e2⟩ := c_faultyk hc
          exact Or.inl ⟨⟨i, V[i], Nat.le_refl _, hx, fun e => by omega⟩, e1, e2⟩
        · rcases ih (l1 + 1) n sl SH FR v s (i + 1) h hl1' (by omega) with ⟨⟨j, x, k1, k2, k3⟩, k4⟩ | ⟨k1, k2⟩
          · exact Or.inl ⟨⟨j, x, by omega, k2, k3⟩, k4⟩
          · refine Or.inr ⟨fun j x hj hxj => ?_, k2⟩
            by_cases e : j = i
            · subst e
              rw [hx] at hxj
              cases hxj
              exact ⟨hb, by omega⟩
            · exact k1 j x (by omega) hxj
      · have hb : V[i].2.2.2.2 = true := by
          cases e : V[i].2.2.2.2 with
          | true => rfl
          | false => rw [e] at h2; exact absurd (show (if false = true then (1 : Int32) else 0).toInt = 0 by first | decide | (simp; done) | (simp [ms_0]; done)) h2
        obtain ⟨-, v3, n3, sl3, SH3, FI3, FL3, FR3, hc, rfl, rfl⟩ := h
        obtain ⟨e1, e2⟩ := c_faultyk hc
        exact Or.inl ⟨⟨i, V[i], Nat.le_refl _, hx, fun e => by rw [hb] at e; exact Bool.noConfusion e.1⟩, e1, e2⟩
    · refine Or.inr ⟨fun j x hj hxj => ?_, h⟩
      exfalso
      have := (List.getElem?_eq_some_iff.mp hxj).1
      omega
theorem c_151k (hk : tk_ok K W P T) (hlen : (lp_fl V).length ≤ 4000) (hok : ∀ (j : Nat) (x : lp_V), V[j]? = some x → x.2.2.2.2 = false ∧ x.2.2.2.1.length ≤ 600) : ∀ (g : Nat) (l1 : Int32) (n sl : Nat) (SH : Nat → Nat × Nat) (FI : Nat → Nat → Int32) (FL : Nat → Nat → Int64) (FR : Nat → Nat → Option Nat) (v : Int32) (s : hS) (i : Nat), GX12_compile_151 g l1 n sl SH FI FL FR v s → l1.toInt = i → i ≤ V.length → v_vw FI FL V → (∃ o t, d_vw K W FI FL t o (lp_fl V)) → (FI 121 67).toInt = ((T + 1 : Nat) : Int) → (FI 121 74).toInt = V.length → w_dn FI FL V i → ck FI FL s.2.2.2.1 s.2.2.2.2.1 := by
  intro g
  induction g with
  | zero => intro l1 n sl SH FI FL FR v s i h; exact h.elim
  | succ g ih =>
    intro l1 n sl SH FI FL FR v s i h hl hi hv hd h67 h74 hdn
    have hm := hv.1
    have h12 := hv.2.1
    obtain ⟨o, t, hd⟩ := hd
    rcases h with ⟨h1, h⟩ | ⟨h1, h⟩
    · have hlt : i < V.length := by omega
      have hx := List.getElem?_eq_getElem hlt
      have q := hv.2.2.1 i V[i] hx
      have q161 := v_161 hv hx hlen
      have hbl := lp_len_le hx
      have hi0 : l1.toInt.toNat = i := by omega
      have hl1' : (l1 + (1 : Int32)).toInt = ((i + 1 : Nat) : Int) := by
        rw [i_add hl (by first | decide | (simp; done) | (simp [ms_0]; done) : ((1 : Int32)).toInt = 1) (by omega) (by omega)]; omega
      have hi1 : (l1 + (1 : Int32)).toInt.toNat = i + 1 := by omega
      have e20 : (((20 : Int32)) + l1).toInt.toNat = 20 + i := by
        rw [i_add (by first | decide | (simp; done) | (simp [ms_0]; done) : ((20 : Int32)).toInt = 20) hl (by omega) (by omega)]; omega
      obtain ⟨-, -, -, -, -, -, -, -, -, gg, h⟩ := h
      rw [hi0, hi1, e20] at h
      obtain ⟨F2, k1, k2, k3, k4⟩ := c_221 (i := i) (len := V[i].2.2.2.1.length) (A := (lp_fl (V.take i)).length) hl (by omega) (hok i _ hx).2 (by omega) gg 0 n sl SH _ _ FR v s 0 h (by first | decide | (simp; done) | (simp [ms_0]; done)) (by omega) (by rw [h_up_eq]; exact q161.2) (by rw [h_up_nc (by first | decide | (simp; done) | (simp [ms_0]; done)), h_up_nc (by first | decide | (simp; done) | (simp [ms_0]; done)), h_up_nc (by first | decide | (simp; done) | (simp [ms_0]; done))]; exact q161.1)
      have k2' : ∀ c, c ≠ 124 → c ≠ 125 → c ≠ 156 → c ≠ 157 → F2 c = FI c := by
        intro c a1 a2 a3 a4
        rw [k2 c a1, h_up_nc a2, h_up_nc a4, h_up_nc a3]
      have hfl : ∀ c, c ≠ 155 → (h_up FL 155 i (FL 158 i)) c = FL c := fun c hc => h_up_nc hc
      have hB := hd.2.2.2.2 (by omega)
      have k0 : ck FI FL F2 (h_up FL 155 i (FL 158 i)) := ⟨fun c hc => ⟨k2' c (by omega) (by omega) (by omega) (by omega), hfl c (by omega)⟩, fun k _ => ⟨by rw [k2' 121 (by first | decide | (simp; done) | (simp [ms_0]; done)) (by first | decide | (simp; done) | (simp [ms_0]; done)) (by first | decide | (simp; done) | (simp [ms_0]; done)) (by first | decide | (simp; done) | (simp [ms_0]; done))], by rw [hfl 121 (by first | decide | (simp; done) | (simp [ms_0]; done))]⟩, fun k hk2 => by rw [k3 k (Or.inl (by omega)), h_up_nc (c2 := 124) (by first | decide | (simp; done) | (simp [ms_0]; done)), h_up_nc (c2 := 124) (by first | decide | (simp; done) | (simp [ms_0]; done)), h_up_nc (c2 := 124) (by first | decide | (simp; done) | (simp [ms_0]; done))], fun k hk2 => by rw [k2 125 (by first | decide | (simp; done) | (simp [ms_0]; done)), h_up_ne (by omega), h_up_nc (c2 := 125) (by first | decide | (simp; done) | (simp [ms_0]; done)), h_up_nc (c2 := 125) (by first | decide | (simp; done) | (simp [ms_0]; done))]⟩
      refine ck_tr k0 (ih (l1 + 1) n sl SH F2 _ FR v s (i + 1) k1 hl1' (by omega) ?_ ⟨o, t, ?_⟩ (by rw [k2' 121 (by first | decide | (simp; done) | (simp [ms_0]; done)) (by first | decide | (simp; done) | (simp [ms_0]; done)) (by first | decide | (simp; done) | (simp [ms_0]; done)) (by first | decide | (simp; done) | (simp [ms_0]; done))]; exact h67) (by rw [k2' 121 (by first | decide | (simp; done) | (simp [ms_0]; done)) (by first | decide | (simp; done) | (simp [ms_0]; done)) (by first | decide | (simp; done) | (simp [ms_0]; done)) (by first | decide | (simp; done) | (simp [ms_0]; done))]; exact h74) ?_)
      · refine ⟨by rw [k2' 121 (by first | decide | (simp; done) | (simp [ms_0]; done)) (by first | decide | (simp; done) | (simp [ms_0]; done)) (by first | decide | (simp; done) | (simp [ms_0]; done)) (by first | decide | (simp; done) | (simp [ms_0]; done))]; exact hm, h12, fun j x hj => ?_, fun e => by rw [k2' 161 (by first | decide | (simp; done) | (simp [ms_0]; done)) (by first | decide | (simp; done) | (simp [ms_0]; done)) (by first | decide | (simp; done) | (simp [ms_0]; done)) (by first | decide | (simp; done) | (simp [ms_0]; done))]; exact hv.2.2.2 e⟩
        rw [hfl 158 (by first | decide | (simp; done) | (simp [ms_0]; done)), k2' 160 (by first | decide | (simp; done) | (simp [ms_0]; done)) (by first | decide | (simp; done) | (simp [ms_0]; done)) (by first | decide | (simp; done) | (simp [ms_0]; done)) (by first | decide | (simp; done) | (simp [ms_0]; done)), k2' 159 (by first | decide | (simp; done) | (simp [ms_0]; done)) (by first | decide | (simp; done) | (simp [ms_0]; done)) (by first | decide | (simp; done) | (simp [ms_0]; done)) (by first | decide | (simp; done) | (simp [ms_0]; done)), k2' 163 (by first | decide | (simp; done) | (simp [ms_0]; done)) (by first | decide | (simp; done) | (simp [ms_0]; done)) (by first | decide | (simp; done) | (simp [ms_0]; done)) (by first | decide | (simp; done) | (simp [ms_0]; done)), k2' 161 (by first | decide | (simp; done) | (simp [ms_0]; done)) (by first | decide | (simp; done) | (simp [ms_0]; done)) (by first | decide | (simp; done) | (simp [ms_0]; done)) (by first | decide | (simp; done) | (simp [ms_0]; done))]
        exact hv.2.2.1 j x hj
      · refine ⟨⟨by rw [k2' 149 (by first | decide | (simp; done) | (simp [ms_0]; done)) (by first | decide | (simp; done) | (simp [ms_0]; done)) (by first | decide | (simp; done) | (simp [ms_0]; done)) (by first | decide | (simp; done) | (simp [ms_0]; done))]; exact hd.1.1, by rw [hfl 150 (by first | decide | (simp; done) | (simp [ms_0]; done))]; exact hd.1.2.1, by rw [k2' 121 (by first | decide | (simp; done) | (simp [ms_0]; done)) (by first | decide | (simp; done) | (simp [ms_0]; done)) (by first | decide | (simp; done) | (simp [ms_0]; done)) (by first | decide | (simp; done) | (simp [ms_0]; done))]; exact hd.1.2.2.1, hd.1.2.2.2⟩, by rw [k2' 121 (by first | decide | (simp; done) | (simp [ms_0]; done)) (by first | decide | (simp; done) | (simp [ms_0]; done)) (by first | decide | (simp; done) | (simp [ms_0]; done)) (by first | decide | (simp; done) | (simp [ms_0]; done))]; exact hd.2.1, by rw [k2' 121 (by first | decide | (simp; done) | (simp [ms_0]; done)) (by first | decide | (simp; done) | (simp [ms_0]; done)) (by first | decide | (simp; done) | (simp [ms_0]; done)) (by first | decide | (simp; done) | (simp [ms_0]; done))]; exact hd.2.2.1, by rw [k2' 121 (by first | decide | (simp; done) | (simp [ms_0]; done)) (by first | decide | (simp; done) | (simp [ms_0]; done)) (by first | decide | (simp; done) | (simp [ms_0]; done)) (by first | decide | (simp; done) | (simp [ms_0]; done))]; exact hd.2.2.2.1, fun a b c => by rw [k2' 154 (by first | decide | (simp; done) | (simp [ms_0]; done)) (by first | decide | (simp; done) | (simp [ms_0]; done)) (by first | decide | (simp; done) | (simp [ms_0]; done)) (by first | decide | (simp; done) | (simp [ms_0]; done))]; exact hd.2.2.2.2 a b c⟩
      · intro j x hj hxj
        have hjl := (List.getElem?_eq_some_iff.mp hxj).1
        by_cases e : j = i
        · subst e
          rw [hx] at hxj
          cases hxj
          refine ⟨by rw [h_up_eq]; exact q.1, ?_, ?_, ?_, (hok j _ hx).2, fun k hk2 => ?_⟩
          · rw [k2 157 (by first | decide | (simp; done) | (simp [ms_0]; done)), h_up_nc (by first | decide | (simp; done) | (simp [ms_0]; done)), h_up_eq]; exact q.2.1
          · rw [k2 156 (by first | decide | (simp; done) | (simp [ms_0]; done)), h_up_nc (by first | decide | (simp; done) | (simp [ms_0]; done)), h_up_nc (by first | decide | (simp; done) | (simp [ms_0]; done)), h_up_eq]; exact q.2.2.1
          · rw [k2 125 (by first | decide | (simp; done) | (simp [ms_0]; done)), h_up_eq]; exact q161.2
          · rw [k4 k (by omega) hk2, h_up_nc (by first | decide | (simp; done) | (simp [ms_0]; done)), h_up_nc (by first | decide | (simp; done) | (simp [ms_0]; done)), h_up_nc (by first | decide | (simp; done) | (simp [ms_0]; done)), hB _ (by omega)]
            exact lp_fl_get hx hk2
        · have p := hdn j x (by omega) hxj
          refine ⟨by rw [h_up_ne e]; exact p.1, ?_, ?_, ?_, p.2.2.2.2.1, fun k hk2 => ?_⟩
          · rw [k2 157 (by first | decide | (simp; done) | (simp [ms_0]; done)), h_up_nc (by first | decide | (simp; done) | (simp [ms_0]; done)), h_up_ne e, h_up_nc (by first | decide | (simp; done) | (simp [ms_0]; done))]; exact p.2.1
          · rw [k2 156 (by first | decide | (simp; done) | (simp [ms_0]; done)), h_up_nc (by first | decide | (simp; done) | (simp [ms_0]; done)), h_up_nc (by first | decide | (simp; done) | (simp [ms_0]; done)), h_up_ne e]; exact p.2.2.1
          · rw [k2 125 (by first | decide | (simp; done) | (simp [ms_0]; done)), h_up_ne (by omega), h_up_nc (by first | decide | (simp; done) | (simp [ms_0]; done)), h_up_nc (by first | decide | (simp; done) | (simp [ms_0]; done))]; exact p.2.2.2.1
          · have := p.2.2.2.2.1
            rw [k3 _ (by omega), h_up_nc (by first | decide | (simp; done) | (simp [ms_0]; done)), h_up_nc (by first | decide | (simp; done) | (simp [ms_0]; done)), h_up_nc (by first | decide | (simp; done) | (simp [ms_0]; done))]
            exact p.2.2.2.2.2 k hk2
    · obtain ⟨gg, h⟩ := h
      exact ck_277 gg _ _ _ _ _ _ _ _ _ h
theorem c_compilek {v : Int32} (hk : tk_ok K W P T) (hf : 12 * T + 20 < f) (h : RX12_compile_34 n sl SH FI FL FR v s) (hS : h_S n SH) (hd : d_vw K W FI FL 0 o []) (h78 : (FI 121 78).toInt = 0) (h67 : (FI 121 67).toInt = ((T + 1 : Nat) : Int)) : ck FI FL s.2.2.2.1 s.2.2.2.2.1 := by
  obtain ⟨g, h⟩ := h
  have hv0 : v_vw FI FL [] := ⟨h78, by first | decide | (simp; done) | (simp [ms_0]; done), fun i v hv => by simp at hv, fun e => absurd rfl e⟩
  have hT2 := hk.2.2.2.1
  obtain ⟨n2, sl2, SH2, FI2, FL2, FR2, k1, k2, k3, k4, k5⟩ := c_34k hk hf g n sl SH FI FL FR v s 1100 0 o [] h hS hd hv0 (by omega) (by omega) (by simp [lp_fl])
  generalize lp_tx K W f 1100 0 [] = r at k5
  match r, k5 with
  | none, k5 =>
    rcases k1 with ⟨h1, h⟩ | ⟨h1, h⟩
    · exact absurd h1 k5
    · obtain ⟨v3, n3, sl3, SH3, FI3, FL3, FR3, hc, rfl, rfl⟩ := h
      exact ck_tr k3.2 (c_faultyk hc).2.2
  | some V, ⟨⟨o1, q1⟩, q2, q3⟩ =>
    rcases k1 with ⟨h1, h⟩ | ⟨h1, h⟩
    · obtain ⟨g2, h⟩ := h
      rcases c_82k q2 q3 g2 0 n2 sl2 SH2 FR2 v s 0 h (by first | decide | (simp; done) | (simp [ms_0]; done)) (by omega) with ⟨-, -, -, a5⟩ | ⟨a1, a2⟩
      · exact ck_tr k3.2 a5
      · obtain ⟨g3, a2⟩ := a2
        refine ck_tr k3.2 (ck_tr (ck_up (Or.inl ⟨rfl, by omega⟩)) (c_151k hk q3 (fun j x hj => a1 j x (by omega) hj) g3 0 n2 sl2 SH2 _ FL2 FR2 v s 0 a2 (by first | decide | (simp; done) | (simp [ms_0]; done)) (by omega) ?_ ⟨o1, T, d_fl q1 (by first | decide | (simp; done) | (simp [ms_0]; done)) (by first | decide | (simp; done) | (simp [ms_0]; done)) (by first | decide | (simp; done) | (simp [ms_0]; done)) (by first | decide | (simp; done) | (simp [ms_0]; done))⟩ ?_ ?_ (fun j v hj => by omega)))
        · refine ⟨by rw [h_up_x (by first | decide | (simp; done) | (simp [ms_0]; done))]; exact q2.1, q2.2.1, fun j x hj => ?_, fun e => by rw [h_up_nc (by first | decide | (simp; done) | (simp [ms_0]; done))]; exact q2.2.2.2 e⟩
          rw [h_up_nc (by first | decide | (simp; done) | (simp [ms_0]; done)), h_up_nc (by first | decide | (simp; done) | (simp [ms_0]; done)), h_up_nc (by first | decide | (simp; done) | (simp [ms_0]; done)), h_up_nc (by first | decide | (simp; done) | (simp [ms_0]; done))]
          exact q2.2.2.1 j x hj
        · rw [h_up_x (by first | decide | (simp; done) | (simp [ms_0]; done)), k4]; exact h67
        · rw [h_up_eq]; exact q2.1
    · exact absurd q1.2.1 h1
end CK
theorem r_ck {n sl N : Nat} {X : Nat → Int} {SH : Nat → Nat × Nat} {FI : Nat → Nat → Int32} {FL : Nat → Nat → Int64} {FR : Nat → Nat → Option Nat} {v : Int32} {s : hS} (hS : h_S n SH) (h : RX12_compile n sl SH FI FL FR v s) (hx : x_vw FI X N) (hr : rl_t (FI 149) (FL 150)) : ck FI FL s.2.2.2.1 s.2.2.2.2.1 := by
  obtain ⟨v1, n1, sl1, SH1, FI1, FL1, FR1, ht, h⟩ := h
  have kt := kX12_tokens ht
  have e1 : n1 = n := kt.1
  have e2 : SH1 = SH := kt.2.2.1
  subst e1 e2
  have hx2 : x_vw (h_up FI 121 0 0) X N := ⟨by rw [h_up_x (by first | decide | (simp; done) | (simp [ms_0]; done))]; exact hx.1, hx.2.1, by rw [h_up_nc (by first | decide | (simp; done) | (simp [ms_0]; done))]; exact hx.2.2⟩
  obtain ⟨P, T, r1, r2, r3, r4⟩ := t_tokens ht hx2 (by rw [h_up_nc (by first | decide | (simp; done) | (simp [ms_0]; done))]; exact hr)
  have hdv := (⟨⟨by rw [h_up_nc (by first | decide | (simp; done) | (simp [ms_0]; done)), h_up_nc (by first | decide | (simp; done) | (simp [ms_0]; done)), h_up_nc (by first | decide | (simp; done) | (simp [ms_0]; done)), h_up_nc (by first | decide | (simp; done) | (simp [ms_0]; done)), h_up_nc (by first | decide | (simp; done) | (simp [ms_0]; done))], rfl, by rw [h_up_x (by first | decide | (simp; done) | (simp [ms_0]; done)), h_up_x (by first | decide | (simp; done) | (simp [ms_0]; done)), h_up_x (by first | decide | (simp; done) | (simp [ms_0]; done)), h_up_eq]; rfl, Nat.zero_le _⟩, by rw [h_up_x (by first | decide | (simp; done) | (simp [ms_0]; done)), h_up_x (by first | decide | (simp; done) | (simp [ms_0]; done)), h_up_eq]; (first | decide | (simp; done) | (simp [ms_0]; done)), rfl, by rw [h_up_eq]; rfl, fun _ i hi => by rw [List.length_nil] at hi; omega⟩ : d_vw (kf (FI1 149)) (wf (FL1 150)) (h_up (h_up (h_up (h_up (h_up FI1 121 13 ((0 : Int32))) 121 68 ((0 : Int32))) 121 69 ((0 : Int32))) 121 78 ((0 : Int32))) 121 73 ((0 : Int32))) FL1 0 ((h_up (h_up (h_up (h_up (h_up FI1 121 13 ((0 : Int32))) 121 68 ((0 : Int32))) 121 69 ((0 : Int32))) 121 78 ((0 : Int32))) 121 73 ((0 : Int32))) 121 71).toInt [])
  have h78 := ((by rw [h_up_x (by first | decide | (simp; done) | (simp [ms_0]; done)), h_up_eq]; (first | decide | (simp; done) | (simp [ms_0]; done))) : ((h_up (h_up (h_up (h_up (h_up FI1 121 13 ((0 : Int32))) 121 68 ((0 : Int32))) 121 69 ((0 : Int32))) 121 78 ((0 : Int32))) 121 73 ((0 : Int32))) 121 78).toInt = 0)
  have q := c_compilek (f := 12 * T + 21) r2 (by omega) h hS hdv h78 (by rw [h_up_x (by first | decide | (simp; done) | (simp [ms_0]; done)), h_up_x (by first | decide | (simp; done) | (simp [ms_0]; done)), h_up_x (by first | decide | (simp; done) | (simp [ms_0]; done)), h_up_x (by first | decide | (simp; done) | (simp [ms_0]; done)), h_up_x (by first | decide | (simp; done) | (simp [ms_0]; done))]; exact r3)
  refine ck_tr (ck_up (Or.inl ⟨rfl, by omega⟩)) (ck_tr (ck_kq kt (by first | decide | (simp; done) | (simp [ms_0]; done))) (ck_tr ?_ q))
  exact ck_tr (ck_up (Or.inl ⟨rfl, by omega⟩)) (ck_tr (ck_up (Or.inl ⟨rfl, by omega⟩)) (ck_tr (ck_up (Or.inl ⟨rfl, by omega⟩)) (ck_tr (ck_up (Or.inl ⟨rfl, by omega⟩)) (ck_up (Or.inl ⟨rfl, by omega⟩)))))
/-- so the reference's view stays -/
theorem rB_ck {SH : Nat → Nat × Nat} {FI F2 : Nat → Nat → Int32} {FL L2 : Nat → Nat → Int64} {A : ab_A} (k : ck FI FL F2 L2) (h : rB SH FI FL A) : rB SH F2 L2 A := by
  obtain ⟨k1, k2, k3, k4⟩ := k
  have bb : ∀ {j : Nat} {L : List Int32}, j < 20 → L.length ≤ 600 → bk FI SH 124 (600 * j) L → bk F2 SH 124 (600 * j) L := by
    intro j L hj hl hb
    refine ⟨hb.1, hb.2.1, hb.2.2.1, fun i b hi => ?_⟩
    have hil := (List.getElem?_eq_some_iff.mp hi).1
    rw [k3 (600 * j + i) (by omega)]
    exact hb.2.2.2 i b hi
  obtain ⟨⟨e1, e2, e3, e4, e5, e6, e7, e8⟩, hl, hq, o⟩ := h
  have a : ∀ k, ((5 ≤ k ∧ k ≤ 11) ∨ k = 46 ∨ k = 47 ∨ k = 61) → F2 121 k = FI 121 k := fun k hk => (k2 k hk).1
  have b : ∀ k, (5 ≤ k ∧ k ≤ 11) → L2 121 k = FL 121 k := fun k hk => (k2 k (Or.inl hk)).2
  refine ⟨⟨by rw [(k1 122 (by omega)).2]; exact e1, by rw [(k1 123 (by omega)).1]; exact e2, fun k hk => ?_, by rw [a 5 (by omega)]; exact e4, by rw [a 6 (by omega)]; exact e5, by rw [b 7 (by omega)]; exact e6, by rw [a 10 (by omega), b 8 (by omega)]; exact e7, by rw [a 11 (by omega), b 9 (by omega)]; exact e8⟩, fun k hk => ?_, rr_fr hq (fun c hc => (k1 c (by omega)).1) (k1 144 (by omega)).2 (a 46 (by omega)) (a 47 (by omega)), ?_⟩
  · obtain ⟨r1, r2, r3⟩ := e3 k hk
    exact ⟨by rw [k4 k (by omega)]; exact r1, r2, bb (by omega) r2 r3⟩
  · obtain ⟨r1, r2, r3⟩ := hl k hk
    exact ⟨by rw [k4 (16 + k) (by omega)]; exact r1, r2, bb (by omega) r2 r3⟩
  · rw [a 61 (by omega), (k1 148 (by omega)).1]
    exact o
