/-! The same, as the methods that read tokens use it. -/
def wp (a : Nat → Int32) (t : Int32) : Int := (a t.toInt.toNat).toInt
section WP
variable {T t u : Int32} {k a : Nat → Int32} {w : Nat → Int64}
theorem wp_v (h : rl_w T k w a) (h0 : 0 ≤ t.toInt) (h1 : u.toInt = t.toInt + 1) (h2 : u.toInt < T.toInt) : wp a t + wl (kf k t.toInt.toNat) (wf w t.toInt.toNat) ≤ wp a u := by
  have h3 := (h t.toInt.toNat (by omega)).2 (by omega)
  unfold wp
  rw [show u.toInt.toNat = t.toInt.toNat + 1 by omega]
  exact h3
theorem wp_i (h : rl_w T k w a) : ∀ (d i : Nat), ((i + d : Nat) : Int) < T.toInt → (a i).toInt + (d : Int) ≤ (a (i + d)).toInt
  | 0, i, _ => by simp
  | d + 1, i, h1 => by
    have h2 := wp_i h d i (by omega)
    have h3 := (h (i + d) (by omega)).2 (by omega)
    have h4 := wl_1 (k (i + d)).toInt (w (i + d)).toInt
    rw [show i + (d + 1) = i + d + 1 by omega]
    push_cast
    omega
theorem wp_n (h : rl_w T k w a) (h0 : 0 ≤ t.toInt) (h1 : t.toInt ≤ u.toInt) (h2 : u.toInt < T.toInt) : wp a t + (u.toInt - t.toInt) ≤ wp a u := by
  have h3 := wp_i h (u.toInt - t.toInt).toNat t.toInt.toNat (by omega)
  unfold wp
  rw [show u.toInt.toNat = t.toInt.toNat + (u.toInt - t.toInt).toNat by omega]
  omega
theorem wp_r (h : rl_w T k w a) (h0 : 0 ≤ t.toInt) (h2 : t.toInt < T.toInt) : 0 ≤ wp a t ∧ wp a t ≤ 1000 := (h t.toInt.toNat (by omega)).1
end WP
def au_q : List Int → Nat
  | [] => 0
  | x :: l => (if x = -2 then 1 else 0) + au_q l
theorem au_q_c {x : Int} {l : List Int} (h : x ≠ -2) : au_q (x :: l) = au_q l := by simp [au_q, h]
theorem au_q_2 {l : List Int} : au_q (-2 :: l) = au_q l + 1 := by simp [au_q]; omega
theorem au_q_dw {p : Int → Bool} (hp : p (-2) = false) : ∀ {l : List Int}, au_q (l.dropWhile p) = au_q l
  | [] => rfl
  | x :: l => by
    rw [List.dropWhile_cons]
    split
    · rename_i hx
      rw [au_q_dw hp, au_q_c]
      intro e; subst e; rw [hp] at hx; cases hx
    · rfl
theorem au_q_fin {l : List Int} : au_q (au_fin l) = au_q l := au_q_dw (by decide)
theorem au_q_red {b : Int} (hb : 1 ≤ b) {l : List Int} : au_q (au_red b l) = au_q l := au_q_dw (by simp; omega)
theorem au_q_all {l : List Int} : au_q (au_all l) = au_q l := au_q_dw (by decide)
