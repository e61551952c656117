/-! THE LANGUAGE's texts compiled, by their tokens: places, locations, rows, declarations. -/
def lp_f (K : Nat → Int) : Nat := 20000
def lp_is (k w : Int) : Bool := decide ((k = 5 ∧ w = 91) ∨ (k = 2 ∧ (w = 0 ∨ w = 1 ∨ w = 2 ∨ w = 3)))
def lp_bl (K W : Nat → Int) : Nat → Nat → Nat → Option (Nat × List Int)
  | 0, _, _ => none
  | f + 1, m, t => if K t = 3 then (if 255 < W t then none else if m = 64 then none else
      match lp_bl K W f (m + 1) (t + 1) with
      | none => none
      | some (t1, c) => some (t1, W t :: c)) else some (t, [])
def lp_pl (K W : Nat → Int) (f : Nat) (o : Int) (t : Nat) : Option (Nat × List Int) :=
  if K t = 5 ∧ W t = 91 then
    if 12 ≤ o then none else
    match lc_ps K W f 0 (o + 1) (t + 1) with
    | none => none
    | some (t1, c) => if K t1 = 5 ∧ W t1 = 93 then some (t1 + 1, c) else none
  else if W t = 0 then (if K (t + 1) = 3 ∧ W (t + 1) ≤ 31 then some (t + 2, [80 + W (t + 1)]) else none)
  else if W t = 1 then
    match lc_ps K W f 0 o (t + 1) with
    | none => none
    | some (t1, c) => some (t1, c ++ [159])
  else if W t = 2 then
    if K (t + 1) = 3 then
      match lp_bl K W 1100 0 (t + 1) with
      | none => none
      | some (t1, c) => some (t1, 158 :: (c.length : Int) :: c)
    else none
  else some (t + 1, [])
/-- parts, from the m-th on, at its first token -/
def lp_pt (K W : Nat → Int) (f : Nat) : Nat → Nat → Nat → Option (Nat × List Int)
  | 0, _, _ => none
  | g + 1, m, t =>
    if lp_is (K t) (W t) = true ∧ m < 8 then
      match lp_pl K W f 1 t with
      | none => none
      | some (t1, c) =>
        if K t1 = 5 ∧ W t1 = 47 ∧ K (t1 + 1) = 3 ∧ W (t1 + 1) ≤ 64 then
          if K (t1 + 2) = 5 ∧ W (t1 + 2) = 44 then
            match lp_pt K W f g (m + 1) (t1 + 3) with
            | none => none
            | some (t2, c2) => some (t2, c ++ 147 :: (lc_u 9 (W (t1 + 1)) ++ c2))
          else if K (t1 + 2) = 5 ∧ W (t1 + 2) = 125 then some (t1 + 3, c ++ 147 :: lc_u 9 (W (t1 + 1))) else none
        else none
    else none
def lp_lc (K W : Nat → Int) (f : Nat) (t : Nat) : Option (Nat × List Int) :=
  if K t = 5 ∧ W t = 123 then lp_pt K W f 20 0 (t + 1) else if lp_is (K t) (W t) = true then lp_pl K W f 0 t else none
/-- rows, from the m-th on: how many, their bytes, whether one of their locations is too long -/
def lp_rw (K W : Nat → Int) (f : Nat) : Nat → Nat → Nat → Option (Nat × Nat × List Int × Bool)
  | 0, _, _ => none
  | g + 1, m, t =>
    if K t = 3 ∧ m < 8 ∧ K (t + 1) = 5 ∧ W (t + 1) = 256 ∧ K (t + 2) = 3 ∧ W t < W (t + 2) ∧ K (t + 3) = 5 ∧ W (t + 3) = 58 then
      match lp_lc K W f (t + 4) with
      | none => none
      | some (t1, c) =>
        if K t1 = 5 ∧ W t1 = 44 then
          match lp_rw K W f g (m + 1) (t1 + 1) with
          | none => none
          | some (t2, m2, c2, b2) => some (t2, m2, lc_by (W t) 8 ++ (lc_by (W (t + 2)) 8 ++ (lc_by c.length 2 ++ (c ++ c2))), decide (300 < c.length) || b2)
        else some (t1, m + 1, lc_by (W t) 8 ++ (lc_by (W (t + 2)) 8 ++ (lc_by c.length 2 ++ c)), decide (300 < c.length))
    else none
/-- what a declaration says behind its = : its end, its rows, its bytes, whether it is too long -/
def lp_bd (K W : Nat → Int) (f : Nat) (t : Nat) : Option (Nat × Nat × List Int × Bool) :=
  if K t = 3 then
    match lp_rw K W f 20 0 t with
    | none => none
    | some (t1, m, c, b) => some (t1, m, c ++ (lc_by 0 8 ++ lc_by 0 8), b)
  else
    match lp_lc K W f t with
    | none => none
    | some (t1, c) => some (t1, 0, c, decide (300 < c.length))
/-- a variable: its name, where its body begins, its rows, its bytes, whether it is too long -/
abbrev lp_V : Type := Int × Nat × Nat × List Int × Bool
def lp_tx (K W : Nat → Int) (f : Nat) : Nat → Nat → List lp_V → Option (List lp_V)
  | 0, _, _ => none
  | g + 1, t, V =>
    if K t = 0 then some V else
    if K t = 1 ∧ (∀ v, v ∈ V → v.1 ≠ W t) ∧ V.length < 12 ∧ K (t + 1) = 5 ∧ W (t + 1) = 61 then
      match lp_bd K W f (t + 2) with
      | none => none
      | some (t1, m, c, b) => if K t1 = 5 ∧ W t1 = 59 then lp_tx K W f g (t1 + 1) (V ++ [(W t, t + 2, m, c, b)]) else none
    else none
def lp_ok (V : List lp_V) : Prop := ∀ v, v ∈ V → v.2.2.2.2 = false ∧ v.2.2.2.1.length ≤ 600
/-! PLACE, as the reference reads it. -/
section PL
variable {K W : Nat → Int} {n sl : Nat} {SH : Nat → Nat × Nat} {FI : Nat → Nat → Int32} {FL : Nat → Nat → Int64} {FR : Nat → Nat → Option Nat} {t T f : Nat} {o : Int} {B : List Int} {s : hS}
/-- between expressions: the token, no fault, what is open, the bytes -/
def d_vw (K W : Nat → Int) (FI : Nat → Nat → Int32) (FL : Nat → Nat → Int64) (t : Nat) (o : Int) (B : List Int) : Prop := p_tk K W FI FL t ∧ (FI 121 69).toInt = 0 ∧ (FI 121 71).toInt = o ∧ e_vw FI B
def k_dv (m : k_M) : Bool := k_no m 149 && k_no (m.2.2.1, m.2.2.2, [], []) 150 && !k_in m.1 m.2.1 121 68 && !k_in m.1 m.2.1 121 69 && !k_in m.1 m.2.1 121 71
theorem d_em {m : k_M} {a b : hS} {c : List Int} (h : d_vw K W a.2.2.2.1 a.2.2.2.2.1 t o B) (hk : kq m a b) (he : e_ap a.2.2.2.1 b.2.2.2.1 c) (hm : k_dv m = true) : d_vw K W b.2.2.2.1 b.2.2.2.2.1 t o (B ++ c) := by
  unfold k_dv at hm
  simp only [Bool.and_eq_true, Bool.not_eq_true'] at hm
  obtain ⟨⟨⟨⟨m1, m2⟩, m3⟩, m4⟩, m5⟩ := hm
  obtain ⟨⟨h1, h2, h3, h4⟩, h5, h6, h7⟩ := h
  exact ⟨⟨by rw [kq_cell hk m1]; exact h1, by rw [kq_fl hk m2]; exact h2, by rw [kq_fld hk m3]; exact h3, h4⟩, by rw [kq_fld hk m4]; exact h5, by rw [kq_fld hk m5]; exact h6, he B h7⟩
theorem d_ti {x : Int32} {t1 : Nat} (h : d_vw K W FI FL t o B) (hx : x.toInt = t1) (ht : t1 ≤ 2000) : d_vw K W (h_up FI 121 68 x) FL t1 o B := by
  refine ⟨⟨by rw [h_up_nc (by decide)]; exact h.1.1, h.1.2.1, ?_, ht⟩, by rw [h_up_x (by decide)]; exact h.2.1, by rw [h_up_x (by decide)]; exact h.2.2.1, e_vw_f h.2.2.2 (by decide)⟩
  rw [h_up_eq]
  exact i_eqv (by rw [hx, i_lit (by omega)])
theorem d_fl {k : Nat} {x : Int32} (h : d_vw K W FI FL t o B) (h1 : k ≠ 68) (h2 : k ≠ 69) (h3 : k ≠ 71) (h4 : k ≠ 73) : d_vw K W (h_up FI 121 k x) FL t o B := ⟨p_tk_f h.1 h1, by rw [h_up_x (by rintro ⟨-, e⟩; exact h2 e.symm)]; exact h.2.1, by rw [h_up_x (by rintro ⟨-, e⟩; exact h3 e.symm)]; exact h.2.2.1, e_vw_f h.2.2.2 h4⟩
theorem d_op {x : Int32} {o1 : Int} (h : d_vw K W FI FL t o B) (hx : x.toInt = o1) : d_vw K W (h_up FI 121 71 x) FL t o1 B := ⟨p_tk_f h.1 (by decide), by rw [h_up_x (by decide)]; exact h.2.1, by rw [h_up_eq]; exact hx, e_vw_f h.2.2.2 (by decide)⟩
theorem d_ce {c k : Nat} {x : Int32} (h : d_vw K W FI FL t o B) (h1 : c ≠ 121) (h2 : c ≠ 149) (h3 : c ≠ 154) : d_vw K W (h_up FI c k x) FL t o B := ⟨⟨by rw [h_up_nc (fun e => h2 e.symm)]; exact h.1.1, h.1.2.1, by rw [h_up_nc (fun e => h1 e.symm)]; exact h.1.2.2.1, h.1.2.2.2⟩, by rw [h_up_nc (fun e => h1 e.symm)]; exact h.2.1, by rw [h_up_nc (fun e => h1 e.symm)]; exact h.2.2.1, e_vw_c h.2.2.2 h1 h3⟩
/-- need: the sign, or a fault -/
theorem d_need {a : Int32} {A : Int} {v : Unit} (h : RX12_need a n sl SH FI FL FR v s) (ha : a.toInt = A) (hd : d_vw K W FI FL t o B) (ht : t + 1 ≤ 2000) : (K t = 5 ∧ W t = A ∧ d_vw K W s.2.2.2.1 s.2.2.2.2.1 (t + 1) o B) ∨ (¬ (K t = 5 ∧ W t = A) ∧ (s.2.2.2.1 121 69).toInt ≠ 0) := by
  rcases h with ⟨h1, h⟩ | ⟨h1, h⟩
  · rcases h with ⟨h2, h⟩ | ⟨h2, h⟩
    · rw [tk_sign hd.1 ha] at h2
      obtain ⟨v1, n1, sl1, SH1, FI1, FL1, FR1, hc, h⟩ := h
      obtain ⟨-, rfl⟩ := h
      exact Or.inr ⟨h2, f_fault hc (by decide)⟩
    · rw [tk_sign hd.1 ha] at h2
      have h2' : K t = 5 ∧ W t = A := Classical.byContradiction (fun hn => h2 hn)
      obtain ⟨-, rfl⟩ := h
      exact Or.inl ⟨h2'.1, h2'.2, d_ti hd (tk_n1 hd.1) ht⟩
  · exact absurd hd.2.1 h1
theorem d_opens {v : Unit} (h : RX12_opens n sl SH FI FL FR v s) (hd : d_vw K W FI FL t o B) (ht : t + 1 ≤ 2000) (ho : 0 ≤ o) (ho2 : o ≤ 12) : (12 ≤ o ∧ (s.2.2.2.1 121 69).toInt ≠ 0) ∨ (¬ 12 ≤ o ∧ d_vw K W s.2.2.2.1 s.2.2.2.2.1 (t + 1) (o + 1) B) := by
  rcases p_opens h hd.1 ht hd.2.2.1 ho2 ho with ⟨g1, g2⟩ | ⟨g1, rfl⟩
  · exact Or.inl ⟨by omega, g2⟩
  · refine Or.inr ⟨by omega, ?_⟩
    have h2 := d_op (x := FI 121 71 + 1) (o1 := o + 1) hd (i_add hd.2.2.1 (by decide : ((1 : Int32)).toInt = 1) (by omega) (by omega))
    exact d_ti h2 (tk_n1 hd.1) ht
/-- an expression: refused, or at its end, or at a comparison too many -/
theorem d_chosen {v : Unit} (h : RX12_chosen n sl SH FI FL FR v s) (hS : h_S n SH) (hg : tk_rg K W) (hT : K T = 0) (ht : t ≤ T) (hf : 12 * (T - t) + 9 < f) (hd : d_vw K W FI FL t o B) (ho : 0 ≤ o) (ho2 : o ≤ 12) : match lc_ps K W f 0 o t with
    | none => (s.2.2.2.1 121 69).toInt ≠ 0
    | some (t1, c) => t < t1 ∧ t1 ≤ T ∧ ((au_bn (K t1) (W t1) = 4 ∧ (s.2.2.2.1 121 69).toInt ≠ 0) ∨ (au_bn (K t1) (W t1) = 0 ∧ d_vw K W s.2.2.2.1 s.2.2.2.2.1 t1 o (B ++ c))) := by
  have q := op_chosen h hS hg hT ht hf hd.1 hd.2.1 hd.2.2.1 ho ho2 hd.2.2.2
  generalize lc_ps K W f 0 o t = r at q
  match r, q with
  | none, q => exact q
  | some (t1, c), ⟨q1, q2, q3⟩ =>
    refine ⟨q1, q2, ?_⟩
    rcases q3 with q3 | ⟨q3, q4, q5, q6, q7, q8⟩
    · exact Or.inl q3
    · exact Or.inr ⟨q3, q5, q6, q7, q8⟩
end PL
