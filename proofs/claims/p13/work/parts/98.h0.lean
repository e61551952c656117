/-! Trees that grow. -/
theorem gw_ne {gw : Nat → Nat} {c W : Nat} {o : Option Nat} (h : o ≠ some c) : g_w (va_up gw c W) o = g_w gw o := by
  cases o with
  | none => rfl
  | some x =>
    have : x ≠ c := fun e => h (by rw [e])
    simp [g_w, va_up, this]
theorem va_s {α : Type} {f : Nat → α} {c : Nat} {x : α} : va_up f c x c = x := if_pos rfl
theorem va_o {α : Type} {f : Nat → α} {c d : Nat} {x : α} (h : d ≠ c) : va_up f c x d = f d := if_neg h
section GG
variable {n n2 : Nat} {SH SH2 : Nat → Nat × Nat} {FI FI2 : Nat → Nat → Int32} {FR FR2 : Nat → Nat → Option Nat} {gp gw gs : Nat → Nat} {c z z2 r l k : Nat} {o : Option Nat} {x : Int32}
/-- nothing hangs over what has no parent -/
theorem gT_no (hS : h_S n SH) (H : g_T n SH FI FR gp gw gs) (h0 : gp c = 0) : (∀ d k, d < n → (SH d).1 = 3 → (FI d 0).toInt ≠ 25 → k = 3 ∨ k = 4 ∨ k = 5 → FR d k ≠ some c) ∧ (∀ d, d < n → (SH d).1 = 3 → (FI d 0).toInt = 25 → FR d 3 ≠ some c) ∧ (∀ d, d < n → (SH d).1 = 3 → FR d 6 ≠ some c) ∧ ∀ d, d < n → (SH d).1 = 6 → FR d 2 ≠ some c := by
  refine ⟨fun d k hd hs hk h3 e => ?_, fun d hd hs hk e => ?_, fun d hd hs e => ?_, fun d hd hs e => ?_⟩
  · have h1 := ((H.1 d hd hs).2.1 hk).2 k c h3 e
    have := g_dynt hS hs (by decide +kernel)
    omega
  · have h1 := (H.1 d hd hs).2.2.1 hk c e
    have := g_dynt hS hs (by decide +kernel)
    omega
  · have h1 := (H.1 d hd hs).2.2.2.1 c e
    omega
  · have h1 := (H.2 d hd hs).2.2.2.2 c e
    have := g_dynt hS hs (by decide +kernel)
    omega
theorem gT_link (hS : h_S n SH) (H : g_T n SH FI FR gp gw gs) (hc : c < n) (hs : SH c = (3, z)) (hr : r < n) (hk : k = 3 ∨ k = 4 ∨ k = 5) (hn : FR c k = none) (hx : (FI c 0).toInt ≠ 25) (h0 : gp c = 0) (h1 : gp r = 0) (hne : r ≠ c) (u : FR2 = h_up FR c k (some r)) : g_T n SH FI FR2 (va_up gp r c) (va_up gw c (gw c + gw r)) gs := by
  have hsc : (SH c).1 = 3 := by rw [hs]
  have hc0 : 176 ≤ c := g_dynt hS hsc (by decide +kernel)
  have hz0 : (SH 0).1 ≠ 3 := by rw [s0 hS]; decide
  obtain ⟨q1, q2, q3, q4⟩ := gT_no hS H h0
  obtain ⟨p1, p2, p3, p4⟩ := gT_no hS H h1
  have ek : FR2 c k = some r := up_eq u
  have eo : ∀ j, j ≠ k → FR2 c j = FR c j := fun j h => up_k u h rfl
  have ed : ∀ d j, d ≠ c → FR2 d j = FR d j := fun d j h => up_c u h rfl
  refine ⟨fun d hd hsd => ?_, fun p hp hsp => ?_⟩
  · obtain ⟨a1, a2, a3, a4, a5, a6⟩ := H.1 d hd hsd
    have hd0 : 176 ≤ d := g_dynt hS hsd (by decide +kernel)
    by_cases hdc : d = c
    · subst hdc
      rw [va_s]
      have b := (a2 hx).1
      refine ⟨by omega, fun _ => ⟨?_, fun j y hj e => ?_⟩, fun h => absurd h hx, fun y e => ?_, ?_, fun ht hh => ?_⟩
      · have g : ∀ j, j = 3 ∨ j = 4 ∨ j = 5 → g_w (va_up gw d (gw d + gw r)) (FR2 d j) = if j = k then gw r else g_w gw (FR d j) := by
          intro j hj
          by_cases hjk : j = k
          · subst hjk; rw [ek, if_pos rfl]; simp [g_w, va_up, hne]
          · rw [eo j hjk, if_neg hjk]; exact gw_ne (q1 d j hd hsd hx hj)
        rw [g 3 (by omega), g 4 (by omega), g 5 (by omega)]
        have hz : g_w gw (FR d k) = 0 := by rw [hn]; rfl
        rcases hk with rfl | rfl | rfl <;> simp <;> omega
      · by_cases hjk : j = k
        · subst hjk; rw [ek] at e; cases e; exact va_s
        · rw [eo j hjk] at e
          have := (a2 hx).2 j y hj e
          rw [va_o (fun h => by subst h; omega)]; exact this
      · rw [eo 6 (by omega)] at e
        have := a4 y e
        omega
      · rw [va_o (Ne.symm hne), h0]; omega
      · rw [va_o (Ne.symm hne), h0] at ht; exact absurd ht hz0
    · rw [va_o hdc]
      simp only [ed d _ hdc]
      refine ⟨a1, fun h => ⟨?_, fun j y hj e => ?_⟩, fun h y e => ?_, fun y e => ?_, ?_⟩
      · rw [gw_ne (q1 d 3 hd hsd h (by omega)), gw_ne (q1 d 4 hd hsd h (by omega)), gw_ne (q1 d 5 hd hsd h (by omega))]; exact (a2 h).1
      · have := (a2 h).2 j y hj e
        rw [va_o (fun h => by subst h; omega)]; exact this
      · have := a3 h y e
        rw [va_o (fun h => by subst h; omega)]; exact this
      · obtain ⟨b1, b2, b3⟩ := a4 y e
        rw [va_o (fun h => by subst h; omega), va_o (fun h => by subst h; omega)]; exact ⟨b1, b2, b3⟩
      · by_cases hdr : d = r
        · subst hdr; rw [va_s]; exact ⟨hc, fun _ h => absurd h hx⟩
        · rw [va_o hdr]
          refine ⟨a5, fun ht hh => ?_⟩
          rw [va_o (fun h => by rw [h] at hh; exact hx hh)]
          exact a6 ht hh
  · obtain ⟨a1, a2, a3, a4, a5⟩ := H.2 p hp hsp
    have hpc : p ≠ c := fun e => by rw [e, hsc] at hsp; cases hsp
    rw [va_o hpc]
    simp only [ed p _ hpc]
    refine ⟨by rw [gw_ne (q4 p hp hsp)]; exact a1, a2, a3, a4, fun y e => ?_⟩
    have := a5 y e
    have hp0 : 176 ≤ p := g_dynt hS hsp (by decide +kernel)
    rw [va_o (fun h => by subst h; omega)]; exact this
/-- the first of a chain, or the next: r comes to the chain c; W is c's new weight -/
theorem gT_mem {W G : Nat} (hS : h_S n SH) (hR : g_R n SH FR) (H : g_T n SH FI FR gp gw gs) (hc : c < n) (hs : SH c = (3, z)) (hr : r < n) (hsr : SH r = (3, z2)) (hx : (FI c 0).toInt = 25) (h0 : gp c = 0) (h1 : gp r = 0) (hne : r ≠ c) (hl : l < n) {z3 : Nat} (hsl : SH l = (3, z3)) (hW : gw c ≤ W) (hG : G + gw r + 20 ≤ W) (hcase : (l = c ∧ k = 3 ∧ FR c 3 = none) ∨ (l ≠ c ∧ l ≠ r ∧ k = 6 ∧ gp l = c ∧ gs l + gw l + 20 ≤ G)) (u : FR2 = h_up FR l k (some r)) : g_T n SH FI FR2 (va_up gp r c) (va_up gw c W) (va_up gs r G) := by
  have hsc : (SH c).1 = 3 := by rw [hs]
  have hc0 : 176 ≤ c := g_dynt hS hsc (by decide +kernel)
  have hz0 : (SH 0).1 ≠ 3 := by rw [s0 hS]; decide
  obtain ⟨q1, q2, q3, q4⟩ := gT_no hS H h0
  obtain ⟨p1, p2, p3, p4⟩ := gT_no hS H h1
  have ek : FR2 l k = some r := up_eq u
  have eo : ∀ j, j ≠ k → FR2 l j = FR l j := fun j h => up_k u h rfl
  have ed : ∀ d j, d ≠ l → FR2 d j = FR d j := fun d j h => up_c u h rfl
  refine ⟨fun d hd hsd => ?_, fun p hp hsp => ?_⟩
  · obtain ⟨a1, a2, a3, a4, a5, a6⟩ := H.1 d hd hsd
    have hd0 : 176 ≤ d := g_dynt hS hsd (by decide +kernel)
    -- a field below: the same, but the one that was set
    have ef : ∀ j y, FR2 d j = some y → (d = l ∧ j = k ∧ y = r) ∨ FR d j = some y := by
      intro j y e
      by_cases hdl : d = l
      · subst hdl
        by_cases hjk : j = k
        · subst hjk; rw [ek] at e; cases e; exact Or.inl ⟨rfl, rfl, rfl⟩
        · rw [eo j hjk] at e; exact Or.inr e
      · rw [ed d j hdl] at e; exact Or.inr e
    have e5 : ∀ j, j = 3 ∨ j = 4 ∨ j = 5 → (FI d 0).toInt ≠ 25 → FR2 d j = FR d j := by
      intro j hj h
      by_cases hdl : d = l
      · subst hdl
        refine eo j ?_
        rcases hcase with ⟨e1, -, -⟩ | ⟨-, -, e2, -⟩
        · subst e1; exact absurd hx h
        · omega
      · exact ed d j hdl
    have hw : 20 ≤ va_up gw c W d ∧ gw d ≤ va_up gw c W d := by
      by_cases hdc : d = c
      · subst hdc; rw [va_s]; omega
      · rw [va_o hdc]; omega
    refine ⟨hw.1, fun h => ?_, fun h y e => ?_, fun y e => ?_, ?_⟩
    · have hdc : d ≠ c := fun e => by subst e; exact h hx
      rw [e5 3 (by omega) h, e5 4 (by omega) h, e5 5 (by omega) h, va_o hdc, gw_ne (q1 d 3 hd hsd h (by omega)), gw_ne (q1 d 4 hd hsd h (by omega)), gw_ne (q1 d 5 hd hsd h (by omega))]
      refine ⟨(a2 h).1, fun j y hj e => ?_⟩
      rw [e5 j hj h] at e
      have := (a2 h).2 j y hj e
      rw [va_o (fun h => by subst h; omega)]; exact this
    · rcases ef 3 y e with ⟨e1, e2, e3⟩ | e1
      · subst e3
        rw [va_s]
        rcases hcase with ⟨e4, -, -⟩ | ⟨-, -, e4, -⟩
        · rw [e1, e4]
        · omega
      · have := a3 h y e1
        rw [va_o (fun h => by subst h; omega)]; exact this
    · rcases ef 6 y e with ⟨e1, e2, e3⟩ | e1
      · subst e3
        rcases hcase with ⟨-, e4, -⟩ | ⟨f1, f2, -, f4, f5⟩
        · omega
        · subst e1
          rw [va_s, va_s, va_o f2, va_o f1, va_o f2]
          exact ⟨f4.symm, by omega, f5⟩
      · obtain ⟨b1, b2, b3⟩ := a4 y e1
        have hy : y ≠ r := fun h => by subst h; omega
        have hdr : d ≠ r := fun h => by subst h; omega
        have hdc : d ≠ c := fun h => by subst h; omega
        rw [va_o hy, va_o hdr, va_o hdr, va_o hdc, va_o hy]
        exact ⟨b1, b2, b3⟩
    · by_cases hdr : d = r
      · subst hdr
        rw [va_s, va_s, va_o hne, va_s]
        exact ⟨hc, fun _ _ => hG⟩
      · rw [va_o hdr, va_o hdr]
        refine ⟨a5, fun ht hh => ?_⟩
        have b := a6 ht hh
        have hdc : d ≠ c := fun h => by subst h; rw [h0] at ht; exact hz0 ht
        rw [va_o hdc]
        by_cases hgc : gp d = c
        · rw [hgc, va_s]; rw [hgc] at b; omega
        · rw [va_o hgc]; exact b
  · obtain ⟨a1, a2, a3, a4, a5⟩ := H.2 p hp hsp
    have hpc : p ≠ c := fun e => by rw [e, hsc] at hsp; cases hsp
    have hpl : p ≠ l := fun e => by rw [e, hsl] at hsp; cases hsp
    have hpr : p ≠ r := fun e => by rw [e, hsr] at hsp; cases hsp
    rw [va_o hpc, va_o hpr]
    simp only [ed p _ hpl]
    have hp0 : 176 ≤ p := g_dynt hS hsp (by decide +kernel)
    refine ⟨by rw [gw_ne (q4 p hp hsp)]; exact a1, a2, fun y e => ?_, a4, fun y e => ?_⟩
    · have hy := a3 y e
      by_cases h : y = r
      · subst h; rw [va_s]
        have := (gR_get (t := 6) (z := (SH p).2) hR hp (Or.inr hp0) (Prod.ext hsp rfl) e).2.2
        rw [hsr] at this
        cases this
      · rw [va_o h]; exact hy
    · have := a5 y e
      rw [va_o (fun h => by subst h; omega)]; exact this
theorem gR_t {d t y : Nat} (hR : g_R n SH FR) (hd : d < n) (h0 : 176 ≤ d) (ht : (SH d).1 = t) (e : FR d k = some y) : y < n ∧ (SH y).1 = g_ty t k := by
  have h := gR_get (t := t) (z := (SH d).2) hR hd (Or.inr h0) (Prod.ext ht rfl) e
  exact ⟨h.1, by rw [h.2.2]⟩
theorem gT_pe (hS : h_S n SH) (hR : g_R n SH FR) (H : g_T n SH FI FR gp gw gs) (hc : c < n) (hs : SH c = (6, z)) (hr : r < n) (hsr : SH r = (3, z2)) (hn : FR c 5 = none) (h1 : gp r = 0) (hm : gs c + gw c + gw r ≤ 200000000) (hn2 : FR c 2 = none) (u : FR2 = h_up FR c 2 (some r)) : g_T n SH FI FR2 (va_up gp r c) (va_up gw c (gw c + gw r)) gs := by
  have hsc : (SH c).1 = 6 := by rw [hs]
  have hc0 : 176 ≤ c := g_dynt hS hsc (by decide +kernel)
  obtain ⟨p1, p2, p3, p4⟩ := gT_no hS H h1
  have ek : FR2 c 2 = some r := up_eq u
  have eo : ∀ j, j ≠ 2 → FR2 c j = FR c j := fun j h => up_k u h rfl
  have ed : ∀ d j, d ≠ c → FR2 d j = FR d j := fun d j h => up_c u h rfl
  refine ⟨fun d hd hsd => ?_, fun p hp hsp => ?_⟩
  · obtain ⟨a1, a2, a3, a4, a5, a6⟩ := H.1 d hd hsd
    have hd0 : 176 ≤ d := g_dynt hS hsd (by decide +kernel)
    have hdc : d ≠ c := fun e => by rw [e, hsc] at hsd; cases hsd
    have nc : ∀ j, j = 3 ∨ j = 4 ∨ j = 5 → FR d j ≠ some c := fun j hj e => by
      have := (gR_t hR hd hd0 hsd e).2
      rw [hsc] at this
      rcases hj with rfl | rfl | rfl <;> exact absurd this (by decide)
    rw [va_o hdc]
    simp only [ed d _ hdc]
    refine ⟨a1, fun h => ⟨?_, fun j y hj e => ?_⟩, fun h y e => ?_, fun y e => ?_, ?_⟩
    · rw [gw_ne (nc 3 (by omega)), gw_ne (nc 4 (by omega)), gw_ne (nc 5 (by omega))]; exact (a2 h).1
    · have := (a2 h).2 j y hj e
      rw [va_o (fun h => by subst h; omega)]; exact this
    · have := a3 h y e
      rw [va_o (fun h => by subst h; omega)]; exact this
    · obtain ⟨b1, b2, b3⟩ := a4 y e
      rw [va_o (fun h => by subst h; omega), va_o (fun h => by subst h; omega)]; exact ⟨b1, b2, b3⟩
    · by_cases hdr : d = r
      · subst hdr; rw [va_s]; exact ⟨hc, fun h => by rw [hsc] at h; cases h⟩
      · rw [va_o hdr]
        refine ⟨a5, fun ht hh => ?_⟩
        rw [va_o (fun h => by rw [h, hsc] at ht; cases ht)]
        exact a6 ht hh
  · obtain ⟨a1, a2, a3, a4, a5⟩ := H.2 p hp hsp
    have hp0 : 176 ≤ p := g_dynt hS hsp (by decide +kernel)
    by_cases hpc : p = c
    · subst hpc
      rw [va_s, ek, eo 3 (by decide), eo 5 (by decide)]
      have hrp : r ≠ p := fun e => by rw [e, hs] at hsr; cases hsr
      rw [hn2] at a1
      refine ⟨?_, a2, fun y e => (by rw [hn] at e; cases e), by omega, fun y e => by cases e; exact va_s⟩
      show va_up gw p (gw p + gw r) r + 200 ≤ gw p + gw r
      rw [va_o hrp]
      have : g_w gw none = 0 := rfl
      omega
    · rw [va_o hpc]
      simp only [ed p _ hpc]
      refine ⟨?_, a2, a3, a4, fun y e => ?_⟩
      · rw [gw_ne (fun e => by have := (gR_t hR hp hp0 hsp e).2; rw [hsc] at this; exact absurd this (by decide))]; exact a1
      · have := a5 y e
        rw [va_o (fun h => by subst h; omega)]; exact this
theorem gT_pb (hS : h_S n SH) (H : g_T n SH FI FR gp gw gs) (hc : c < n) (hs : SH c = (6, z)) (hm : ∀ q, o = some q → (SH q).2 ≤ 64) (u : FR2 = h_up FR c 3 o) : g_T n SH FI FR2 gp gw gs := by
  have hsc : (SH c).1 = 6 := by rw [hs]
  have eo : ∀ j, j ≠ 3 → FR2 c j = FR c j := fun j h => up_k u h rfl
  have ed : ∀ d j, d ≠ c → FR2 d j = FR d j := fun d j h => up_c u h rfl
  refine ⟨fun d hd hsd => ?_, fun p hp hsp => ?_⟩
  · have hdc : d ≠ c := fun e => by rw [e, hsc] at hsd; cases hsd
    simp only [ed d _ hdc]
    exact H.1 d hd hsd
  · by_cases hpc : p = c
    · subst hpc
      obtain ⟨a1, a2, a3, a4, a5⟩ := H.2 p hp hsp
      rw [eo 2 (by decide), eo 5 (by decide)]
      exact ⟨a1, fun y e => hm y (by rw [← e]; exact (up_eq u).symm), a3, a4, a5⟩
    · simp only [ed p _ hpc]
      exact H.2 p hp hsp
theorem gT_pn (hS : h_S n SH) (hR : g_R n SH FR) (H : g_T n SH FI FR gp gw gs) (hl : l < n) (hsl : SH l = (6, z)) (hr : r < n) (hsr : SH r = (6, z2)) (hn : FR r 5 = none) (hne : l ≠ r) (hg : gs r ≤ gs l + gw l + 20) (hm : gs l + gw l + 20 + gw r ≤ 200000000) (u : FR2 = h_up FR l 5 (some r)) : g_T n SH FI FR2 gp gw (va_up gs r (gs l + gw l + 20)) := by
  have hs1 : (SH l).1 = 6 := by rw [hsl]
  have hs2 : (SH r).1 = 6 := by rw [hsr]
  have ek : FR2 l 5 = some r := up_eq u
  have eo : ∀ j, j ≠ 5 → FR2 l j = FR l j := fun j h => up_k u h rfl
  have ed : ∀ d j, d ≠ l → FR2 d j = FR d j := fun d j h => up_c u h rfl
  have up : ∀ y, gs y ≤ va_up gs r (gs l + gw l + 20) y := fun y => by
    by_cases h : y = r
    · subst h; rw [va_s]; exact hg
    · rw [va_o h]; exact Nat.le_refl _
  refine ⟨fun d hd hsd => ?_, fun p hp hsp => ?_⟩
  · have hdl : d ≠ l := fun e => by rw [e, hs1] at hsd; cases hsd
    have hdr : d ≠ r := fun e => by rw [e, hs2] at hsd; cases hsd
    simp only [ed d _ hdl]
    rw [va_o hdr]
    obtain ⟨a1, a2, a3, a4, a5⟩ := H.1 d hd hsd
    refine ⟨a1, a2, a3, fun y e => ?_, a5⟩
    obtain ⟨b1, b2, b3⟩ := a4 y e
    exact ⟨b1, b2, Nat.le_trans b3 (up y)⟩
  · obtain ⟨a1, a2, a3, a4, a5⟩ := H.2 p hp hsp
    by_cases hpl : p = l
    · subst hpl
      rw [eo 2 (by decide), eo 3 (by decide), ek, va_o hne]
      exact ⟨a1, a2, fun y e => (by cases e; rw [va_s]; exact Nat.le_refl _), a4, a5⟩
    · simp only [ed p _ hpl]
      by_cases hpr : p = r
      · subst hpr
        rw [va_s]
        exact ⟨a1, a2, fun y e => (by rw [hn] at e; cases e), by omega, a5⟩
      · rw [va_o hpr]
        exact ⟨a1, a2, fun y e => Nat.le_trans (a3 y e) (up y), a4, a5⟩
theorem gT_mk {t W : Nat} (hS : h_S n SH) (hR : g_R n SH FR) (H : g_T n SH FI FR gp gw gs) (hn : n2 = n + 1) (ex : g_ex n SH n2 SH2) (hs : SH2 n = (t, z)) (hW : (t = 3 → 20 ≤ W) ∧ (t = 6 → 200 ≤ W ∧ W ≤ 200000000)) (eI : ∀ c, c < n → FI2 c 0 = FI c 0) (eR : ∀ c k, c < n → FR2 c k = FR c k) (zR : ∀ k, FR2 n k = none) : g_T n2 SH2 FI2 FR2 (va_up gp n 0) (va_up gw n W) (va_up gs n 0) := by
  have hz0 : (SH2 0).1 ≠ 3 := by rw [ex.2 0 (by have := hS.1; omega), s0 hS]; decide
  have hn0 : 176 ≤ n := hS.1
  refine ⟨fun d hd hsd => ?_, fun p hp hsp => ?_⟩
  · by_cases hdn : d = n
    · subst hdn
      rw [hs] at hsd
      simp only [va_s, zR]
      refine ⟨hW.1 hsd, fun _ => ⟨?_, fun j y _ e => (by cases e)⟩, fun _ y e => (by cases e), fun y e => (by cases e), by omega, fun h => ?_⟩
      · have := hW.1 hsd
        have : g_w (va_up gw d W) none = 0 := rfl
        omega
      · exact absurd h hz0
    · have hd' : d < n := by omega
      rw [ex.2 d hd'] at hsd
      have hd0 : 176 ≤ d := g_dynt hS hsd (by decide +kernel)
      obtain ⟨a1, a2, a3, a4, a5, a6⟩ := H.1 d hd' hsd
      have nn : ∀ j, FR d j ≠ some n := fun j e => by have := (gR_t hR hd' hd0 hsd e).1; omega
      have gn : ∀ j y, FR d j = some y → y ≠ n := fun j y e h => nn j (by rw [e, h])
      simp only [eR d _ hd', eI d hd', va_o hdn]
      refine ⟨a1, fun h => ⟨?_, fun j y hj e => ?_⟩, fun h y e => ?_, fun y e => ?_, by omega, fun ht hh => ?_⟩
      · rw [gw_ne (nn 3), gw_ne (nn 4), gw_ne (nn 5)]; exact (a2 h).1
      · rw [va_o (gn j y e)]; exact (a2 h).2 j y hj e
      · rw [va_o (gn 3 y e)]; exact a3 h y e
      · rw [va_o (gn 6 y e), va_o (gn 6 y e)]; exact a4 y e
      · rw [va_o (show gp d ≠ n by omega)]
        rw [ex.2 _ a5] at ht
        rw [eI _ a5] at hh
        exact a6 ht hh
  · by_cases hpn : p = n
    · subst hpn
      rw [hs] at hsp
      simp only [va_s, zR]
      have := hW.2 hsp
      have h0 : g_w (va_up gw p W) none = 0 := rfl
      exact ⟨by omega, fun y e => (by cases e), fun y e => (by cases e), by omega, fun y e => (by cases e)⟩
    · have hp' : p < n := by omega
      rw [ex.2 p hp'] at hsp
      have hp0 : 176 ≤ p := g_dynt hS hsp (by decide +kernel)
      obtain ⟨a1, a2, a3, a4, a5⟩ := H.2 p hp' hsp
      have nn : ∀ j, FR p j ≠ some n := fun j e => by have := (gR_t hR hp' hp0 hsp e).1; omega
      have gn : ∀ j y, FR p j = some y → y ≠ n := fun j y e h => nn j (by rw [e, h])
      simp only [eR p _ hp', va_o hpn]
      refine ⟨by rw [gw_ne (nn 2)]; exact a1, fun y e => ?_, fun y e => ?_, a4, fun y e => ?_⟩
      · rw [ex.2 y (gR_t hR hp' hp0 hsp e).1]; exact a2 y e
      · rw [va_o (gn 5 y e)]; exact a3 y e
      · rw [va_o (gn 2 y e)]; exact a5 y e
theorem gT_wi (H : g_T n SH FI FR gp gw gs) (hk : (SH c).1 = 3 → k ≠ 0) (u : FI2 = h_up FI c k x) : g_T n SH FI2 FR gp gw gs := by
  have e : ∀ d, (SH d).1 = 3 → FI2 d 0 = FI d 0 := fun d hd => by
    by_cases hdc : d = c
    · subst hdc; exact up_k u (fun h => hk hd h.symm) rfl
    · exact up_c u hdc rfl
  refine ⟨fun d hd hsd => ?_, H.2⟩
  obtain ⟨a1, a2, a3, a4, a5, a6⟩ := H.1 d hd hsd
  rw [e d hsd]
  exact ⟨a1, a2, a3, a4, a5, fun ht hh => a6 ht (by rw [← e _ ht]; exact hh)⟩
theorem gT_wo (H : g_T n SH FI FR gp gw gs) (h3 : (SH c).1 ≠ 3) (h6 : (SH c).1 ≠ 6) (u : FR2 = h_up FR c k o) : g_T n SH FI FR2 gp gw gs := by
  refine ⟨fun d hd hsd => ?_, fun d hd hsd => ?_⟩
  · have hdc : d ≠ c := fun e => by rw [e] at hsd; exact h3 hsd
    have ed : ∀ j, FR2 d j = FR d j := fun j => up_c u hdc rfl
    simp only [ed]
    exact H.1 d hd hsd
  · have hdc : d ≠ c := fun e => by rw [e] at hsd; exact h6 hsd
    have ed : ∀ j, FR2 d j = FR d j := fun j => up_c u hdc rfl
    simp only [ed]
    exact H.2 d hd hsd
end GG
