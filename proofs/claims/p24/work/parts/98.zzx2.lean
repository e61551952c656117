/-! THE CLASS DECODES. -/
theorem P_ite {p : Prop} [Decidable p] {A B : Int32 → hS → Prop} {a b x : Int32} {s0 s : hS} (hA : A x s → x = a ∧ s = s0) (hB : B x s → x = b ∧ s = s0) (h : P_if p A B x s) : x = (if p then a else b) ∧ s = s0 := by
  rcases h with ⟨hp, h⟩ | ⟨hp, h⟩
  · rw [if_pos hp]; exact hA h
  · rw [if_neg hp]; exact hB h
/-- a row of alternatives -/
def or_l (x : Int) : List Int → Prop
  | [] => False
  | [a] => x = a
  | a :: b :: L => x = a ∨ or_l x (b :: L)
theorem or_mem {x : Int} : ∀ {L : List Int}, or_l x L ↔ x ∈ L
  | [] => ⟨fun h => h.elim, fun h => by cases h⟩
  | [a] => ⟨fun h => by rw [show x = a from h]; exact List.mem_singleton.mpr rfl, fun h => List.mem_singleton.mp h⟩
  | a :: b :: L => by
    rw [List.mem_cons, ← or_mem]
    exact Iff.rfl
theorem P_itm {L : List Int} {x0 : Int} {A B : Int32 → hS → Prop} {a b x : Int32} {s0 s : hS} (hA : A x s → x = a ∧ s = s0) (hB : B x s → x = b ∧ s = s0) (h : P_if (or_l x0 L) A B x s) : x = (if x0 ∈ L then a else b) ∧ s = s0 := by
  rcases h with ⟨hp, h⟩ | ⟨hp, h⟩
  · rw [if_pos (or_mem.mp hp)]; exact hA h
  · rw [if_neg (fun e => hp (or_mem.mpr e))]; exact hB h
def gX9_shape_30 (a1 : Int32) : Int32 := (if ((a1).toInt = 3 ∨ (a1).toInt = 14) then ((8 : Int32)) else (if ((a1).toInt ∈ ([4, 5, 7, 24, 25, 26, 27, 28, 29, 30, 31, 32, 33, 34, 36, 37, 38, 39, 41, 42, 43, 44, 45, 46, 48, 49, 50, 51, 52, 53, 54, 55, 56, 57, 58, 59, 60, 61, 62, 63, 64, 65, 66, 67, 68, 69, 70, 71, 72, 73, 74, 75, 76, 77, 78, 79, 80, 81, 82, 83, 84, 85, 86, 87, 88, 89, 90, 91, 92, 93, 94, 95, 96, 97, 98, 99, 100, 101, 102, 103, 104, 105, 106, 107, 108, 109, 110, 111, 112, 113, 114, 115, 116, 117, 118, 119, 120, 121, 122, 123, 124, 125, 126, 127, 128, 129, 130, 131, 132, 133, 134, 135, 136, 137, 138, 139, 140, 141, 142, 143, 149, 154] : List Int)) then (if ((a1).toInt < ((25 : Int32)).toInt) then ((25 : Int32)) else (if (((46 : Int32)).toInt < (a1).toInt) then ((25 : Int32)) else ((0 : Int32)))) else (if ((a1).toInt ∈ ([6, 18, 19, 20, 22, 23, 150, 151, 155, 156, 159] : List Int)) then ((0 : Int32)) else (if ((a1).toInt = 8 ∨ (a1).toInt = 21 ∨ (a1).toInt = 148) then ((1 : Int32)) else (if ((a1).toInt = 9) then ((11 : Int32)) else (if ((a1).toInt = 10 ∨ (a1).toInt = 152) then ((2 : Int32)) else (if ((a1).toInt = 11 ∨ (a1).toInt = 40 ∨ (a1).toInt = 47) then ((12 : Int32)) else (if ((a1).toInt = 12 ∨ (a1).toInt = 153) then ((4 : Int32)) else (if ((a1).toInt = 13) then ((14 : Int32)) else (if ((a1).toInt = 15) then ((18 : Int32)) else (if ((a1).toInt = 16 ∨ (a1).toInt = 35 ∨ (a1).toInt = 144 ∨ (a1).toInt = 147) then ((20 : Int32)) else (if ((a1).toInt = 17 ∨ (a1).toInt = 145) then ((21 : Int32)) else (if ((a1).toInt = 146) then ((22 : Int32)) else (if ((a1).toInt = 157) then ((23 : Int32)) else (if ((a1).toInt = 158) then ((24 : Int32)) else (if ((a1).toInt < ((25 : Int32)).toInt) then ((25 : Int32)) else (if (((46 : Int32)).toInt < (a1).toInt) then ((25 : Int32)) else ((0 : Int32)))))))))))))))))))
set_option maxRecDepth 100000 in
theorem tX9_shape_30 {a1 : Int32} {n sl : Nat} {SH : Nat → Nat × Nat} {FI : Nat → Nat → Int32} {FL : Nat → Nat → Int64} {FR : Nat → Nat → Option Nat} {v : Int32} {s : hS} (h : RX9_shape_30 a1 n sl SH FI FL FR v s) : v = gX9_shape_30 a1 ∧ s = (n, sl, SH, FI, FL, FR) := (P_ite (fun h => h) (P_itm (L := [4, 5, 7, 24, 25, 26, 27, 28, 29, 30, 31, 32, 33, 34, 36, 37, 38, 39, 41, 42, 43, 44, 45, 46, 48, 49, 50, 51, 52, 53, 54, 55, 56, 57, 58, 59, 60, 61, 62, 63, 64, 65, 66, 67, 68, 69, 70, 71, 72, 73, 74, 75, 76, 77, 78, 79, 80, 81, 82, 83, 84, 85, 86, 87, 88, 89, 90, 91, 92, 93, 94, 95, 96, 97, 98, 99, 100, 101, 102, 103, 104, 105, 106, 107, 108, 109, 110, 111, 112, 113, 114, 115, 116, 117, 118, 119, 120, 121, 122, 123, 124, 125, 126, 127, 128, 129, 130, 131, 132, 133, 134, 135, 136, 137, 138, 139, 140, 141, 142, 143, 149, 154]) (P_ite (fun h => h) (P_ite (fun h => h) (fun h => h))) (P_itm (L := [6, 18, 19, 20, 22, 23, 150, 151, 155, 156, 159]) (fun h => h) (P_ite (fun h => h) (P_ite (fun h => h) (P_ite (fun h => h) (P_ite (fun h => h) (P_ite (fun h => h) (P_ite (fun h => h) (P_ite (fun h => h) (P_ite (fun h => h) (P_ite (fun h => h) (P_ite (fun h => h) (P_ite (fun h => h) (P_ite (fun h => h) (P_ite (fun h => h) (P_ite (fun h => h) (fun h => h)))))))))))))))))) h
def gX9_shape_14 (a1 : Int32) : Int32 := (if ((a1).toInt < ((112 : Int32)).toInt) then (gX9_shape_30 a1) else (if (((143 : Int32)).toInt < (a1).toInt) then (gX9_shape_30 a1) else ((21 : Int32))))
theorem tX9_shape_14 {a1 : Int32} {n sl : Nat} {SH : Nat → Nat × Nat} {FI : Nat → Nat → Int32} {FL : Nat → Nat → Int64} {FR : Nat → Nat → Option Nat} {v : Int32} {s : hS} (h : RX9_shape_14 a1 n sl SH FI FL FR v s) : v = gX9_shape_14 a1 ∧ s = (n, sl, SH, FI, FL, FR) := (P_ite (fun h => tX9_shape_30 h) (P_ite (fun h => tX9_shape_30 h) (fun h => h))) h
def gX9_shape (a1 : Int32) : Int32 := (if ((a1).toInt < ((48 : Int32)).toInt) then (gX9_shape_14 a1) else (if (((111 : Int32)).toInt < (a1).toInt) then (gX9_shape_14 a1) else ((0 : Int32))))
theorem tX9_shape {a1 : Int32} {n sl : Nat} {SH : Nat → Nat × Nat} {FI : Nat → Nat → Int32} {FL : Nat → Nat → Int64} {FR : Nat → Nat → Option Nat} {v : Int32} {s : hS} (h : RX9_shape a1 n sl SH FI FL FR v s) : v = gX9_shape a1 ∧ s = (n, sl, SH, FI, FL, FR) := (P_ite (fun h => tX9_shape_14 h) (P_ite (fun h => tX9_shape_14 h) (fun h => h))) h
theorem c_shape {c : Int32} {n sl : Nat} {SH : Nat → Nat × Nat} {FI : Nat → Nat → Int32} {FL : Nat → Nat → Int64} {FR : Nat → Nat → Option Nat} {v : Int32} {s : hS} (h0 : 0 ≤ c.toInt) (h1 : c.toInt ≤ 255) (h : RX9_shape c n sl SH FI FL FR v s) : v.toInt = (if ms_kn c.toInt = true then (ms_sh c.toInt : Int) else 25) ∧ s = (n, sl, SH, FI, FL, FR) := by
  obtain ⟨e, e2⟩ := tX9_shape h
  refine ⟨?_, e2⟩
  obtain ⟨k, hk, rfl⟩ := w_byte h0 h1
  have key : ∀ k : Nat, k < 256 → (gX9_shape (Int32.ofNat k)).toInt = (if ms_kn (Int32.ofNat k).toInt = true then (ms_sh (Int32.ofNat k).toInt : Int) else 25) := by decide +kernel
  rw [e]
  exact key k hk
/-- only these fields of a cell have changed -/
def fj {α : Type} (c0 : Nat) (K : List Nat) (F F2 : Nat → Nat → α) : Prop := ∀ c k, ¬ (c = c0 ∧ k ∈ K) → F2 c k = F c k
theorem fj_rf {α : Type} {c0 : Nat} {K : List Nat} {F : Nat → Nat → α} : fj c0 K F F := fun _ _ _ => rfl
theorem fj_up {α : Type} {c0 : Nat} {K : List Nat} {F F2 : Nat → Nat → α} {k : Nat} {x : α} (h : fj c0 K F F2) (hk : k ∈ K) : fj c0 K F (h_up F2 c0 k x) := fun c j hn => by
  rw [h_up_x (fun e => hn ⟨e.1, by rw [e.2]; exact hk⟩)]
  exact h c j hn
theorem fj_tr {α : Type} {c0 : Nat} {K : List Nat} {F F2 F3 : Nat → Nat → α} (h : fj c0 K F F2) (h2 : fj c0 K F2 F3) : fj c0 K F F3 := fun c k hn => (h2 c k hn).trans (h c k hn)
theorem fj_le {α : Type} {c0 : Nat} {K K2 : List Nat} {F F2 : Nat → Nat → α} (h : fj c0 K F F2) (hk : ∀ k, k ∈ K → k ∈ K2) : fj c0 K2 F F2 := fun c k hn => h c k (fun e => hn ⟨e.1, hk k e.2⟩)
theorem fj_row {α : Type} {c0 : Nat} {K : List Nat} {F F2 : Nat → Nat → α} {c : Nat} (h : fj c0 K F F2) (hc : c ≠ c0) : F2 c = F c := funext fun k => h c k (fun e => hc e.1)
theorem fj_at {α : Type} {c0 : Nat} {K : List Nat} {F F2 : Nat → Nat → α} {k : Nat} (h : fj c0 K F F2) (hk : k ∉ K) : F2 c0 k = F c0 k := h c0 k (fun e => hk e.2)
theorem e_77 : ∀ i : Nat, i < 10 → ((7 : Int32) * Int32.ofNat i) + (7 : Int32) = (7 : Int32) * Int32.ofNat (i + 1) := by first | decide | simp
theorem sh_in (c : Int) : ms_sh c ≤ 8 ∨ (11 ≤ ms_sh c ∧ ms_sh c ≤ 18) ∨ (20 ≤ ms_sh c ∧ ms_sh c ≤ 24) := by
  unfold ms_sh
  by_cases h0 : c = 8 ∨ c = 21 ∨ c = 148
  · rw [if_pos h0]; decide
  rw [if_neg h0]
  by_cases h1 : c = 10 ∨ c = 152
  · rw [if_pos h1]; decide
  rw [if_neg h1]
  by_cases h2 : c = 12 ∨ c = 153
  · rw [if_pos h2]; decide
  rw [if_neg h2]
  by_cases h3 : c = 3 ∨ c = 14
  · rw [if_pos h3]; decide
  rw [if_neg h3]
  by_cases h4 : c = 9
  · rw [if_pos h4]; decide
  rw [if_neg h4]
  by_cases h5 : c = 11 ∨ c = 40 ∨ c = 47
  · rw [if_pos h5]; decide
  rw [if_neg h5]
  by_cases h6 : c = 13
  · rw [if_pos h6]; decide
  rw [if_neg h6]
  by_cases h7 : c = 15
  · rw [if_pos h7]; decide
  rw [if_neg h7]
  by_cases h8 : c = 16 ∨ c = 35 ∨ c = 144 ∨ c = 147
  · rw [if_pos h8]; decide
  rw [if_neg h8]
  by_cases h9 : c = 17 ∨ c = 145 ∨ (112 ≤ c ∧ c ≤ 143)
  · rw [if_pos h9]; decide
  rw [if_neg h9]
  by_cases h10 : c = 146
  · rw [if_pos h10]; decide
  rw [if_neg h10]
  by_cases h11 : c = 157
  · rw [if_pos h11]; decide
  rw [if_neg h11]
  by_cases h12 : c = 158
  · rw [if_pos h12]; decide
  rw [if_neg h12]
  decide
section CDI
variable {n sl : Nat} {SH : Nat → Nat × Nat} {FI : Nat → Nat → Int32} {FL : Nat → Nat → Int64} {FR : Nat → Nat → Option Nat} {r A p : Nat} {bs : List Int32} {a2 a3 v : Int32} {st : hS}
def cl_cI (A : Nat) (bs : List Int32) (F2 : Nat → Nat → Int32) (L2 : Nat → Nat → Int64) (v : Int32) (q : Int ⊕ (Int64 × Nat)) : Prop := match q with
  | .inl e => v.toInt = e ∧ e ≠ 0
  | .inr x => v.toInt = 0 ∧ L2 49 14 = x.1 ∧ (F2 49 10).toInt = ((A + x.2 : Nat) : Int) ∧ x.2 ≤ bs.length
theorem cl_8I {sg : Bool} (hr : r ≠ 49) (hs : a3.toInt = 0 ↔ sg = false) (h3 : a2.toInt = ((A + bs.length : Nat) : Int)) : ∀ (g i p : Nat) (l4i : Int32) (FI : Nat → Nat → Int32) (FL : Nat → Nat → Int64) (v : Int32) (st : hS), l4i.toInt = i → i ≤ 10 → bk FI SH r A bs → (FI 49 10).toInt = ((A + p : Nat) : Int) → p ≤ bs.length → GX9_readLebI_8 (some r) a2 a3 g l4i n sl SH FI FL FR v st → ∃ F2 L2, st = (n, sl, SH, F2, L2, FR) ∧ fj 49 [10] FI F2 ∧ fj 49 [14] FL L2 ∧ cl_cI A bs F2 L2 v (ms_lb sg bs (10 - i) i p (FL 49 14)) := by
  intro g
  induction g with
  | zero => intro i p l4i FI FL v st _ _ _ _ _ h; exact h.elim
  | succ g ih =>
    intro i p l4i FI FL v st hi hik hb hn hp h
    have b2 := hb.2.1
    have b3 := hb.2.2.1
    have b4 := hb.2.2.2
    rcases h with ⟨h0, h⟩ | ⟨h0, e1, e2⟩
    · rw [show ((10 : Int32)).toInt = 10 by first | decide | simp] at h0
      rw [show 10 - i = (10 - (i + 1)) + 1 by omega, ms_lb]
      have h := P_n h (by rw [hn]; omega)
      rw [hn, h3] at h
      rcases h with ⟨h1, h⟩ | ⟨h1, e1, e2⟩
      · obtain ⟨q, eq, h⟩ := h
        cases eq
        have h := P_p h (by rw [i_lit (by omega)]; omega)
        obtain ⟨q, eq, -, h⟩ := h
        cases eq
        obtain ⟨b, hb0⟩ := ms_ex_i (bs := bs) (i := p) (by omega)
        have f1 := b4 p b hb0
        rw [hb0]
        (try dsimp only)
        rw [show (((A + p : Nat) : Int)).toNat = A + p by omega, f1.1, show ((128 : Int32)).toInt = 128 by first | decide | simp, i_of hi (by omega)] at h
        have hx : (FI 49 10 + (1 : Int32)).toInt = ((A + (p + 1) : Nat) : Int) := by rw [i_add hn (by first | decide | simp : ((1 : Int32)).toInt = 1) (by omega) (by omega)]; omega
        have k2 : ((h_up FI 49 10 (FI 49 10 + (1 : Int32))) 49 10).toInt = ((A + (p + 1) : Nat) : Int) := by rw [h_up_eq]; exact hx
        rcases h with ⟨hb1, h⟩ | ⟨hb1, h⟩
        · rw [if_pos hb1]
          rcases h with ⟨h2, e1, e2⟩ | ⟨h2, h⟩
          · exact ⟨_, _, e2, fj_up fj_rf (by first | decide | simp), fj_up fj_rf (by first | decide | simp), by rw [e1]; decide, by rw [if_neg (fun e => by rw [hs.mp h2] at e; exact absurd e.1 (by first | decide | simp)), h_up_eq]; rfl, k2, by omega⟩
          · have hsg : sg = true := by
              cases sg with
              | true => rfl
              | false => exact absurd (hs.mpr rfl) h2
            rw [i_lit (by omega), show ((9 : Int32)).toInt = 9 by first | decide | simp] at h
            rcases h with ⟨h5, h⟩ | ⟨h5, e1, e2⟩
            · rcases h with ⟨h6, e1, e2⟩ | ⟨h6, e1, e2⟩
              · exact ⟨_, _, e2, fj_up fj_rf (by first | decide | simp), fj_up fj_rf (by first | decide | simp), by rw [e1]; decide, by rw [if_neg (fun e => e.2.2 h6), h_up_eq]; rfl, k2, by omega⟩
              · exact ⟨_, _, e2, fj_up fj_rf (by first | decide | simp), fj_up (fj_up fj_rf (by first | decide | simp)) (by first | decide | simp), by rw [e1]; decide, by rw [if_pos ⟨hsg, by omega, h6⟩, h_up_eq, e_77 i (by omega)]; rfl, k2, by omega⟩
            · exact ⟨_, _, e2, fj_up fj_rf (by first | decide | simp), fj_up fj_rf (by first | decide | simp), by rw [e1]; decide, by rw [if_neg (fun e => h5 (by have := e.2.1; omega)), h_up_eq]; rfl, k2, by omega⟩
        · rw [if_neg hb1]
          have e7 : (Int32.ofNat i + (1 : Int32)).toInt = ((i + 1 : Nat) : Int) := by rw [i_add (i_lit (by omega)) (by first | decide | simp : ((1 : Int32)).toInt = 1) (by omega) (by omega)]; omega
          obtain ⟨F2, L2, e, f, f2, q⟩ := ih (i + 1) (p + 1) _ _ _ v st e7 (by omega) (bk_fr hb (h_up_nc hr)) k2 (by omega) h
          rw [h_up_eq] at q
          exact ⟨F2, L2, e, fj_tr (fj_up fj_rf (by first | decide | simp)) f, fj_tr (fj_up fj_rf (by first | decide | simp)) f2, q⟩
      · have e : p = bs.length := by omega
        rw [List.getElem?_eq_none (by omega)]
        exact ⟨_, _, e2, fj_rf, fj_rf, by rw [e1]; decide, by first | decide | simp⟩
    · rw [show ((10 : Int32)).toInt = 10 by first | decide | simp] at h0
      have e : i = 10 := by omega
      subst e
      show ∃ F2 L2, st = (n, sl, SH, F2, L2, FR) ∧ fj 49 [10] FI F2 ∧ fj 49 [14] FL L2 ∧ cl_cI A bs F2 L2 v (.inl 15)
      exact ⟨_, _, e2, fj_rf, fj_rf, by rw [e1]; decide, by first | decide | simp⟩
theorem cl_lebI {sg : Bool} (hr : r ≠ 49) (hs : a3.toInt = 0 ↔ sg = false) (h3 : a2.toInt = ((A + bs.length : Nat) : Int)) (hb : bk FI SH r A bs) (hn : (FI 49 10).toInt = ((A + p : Nat) : Int)) (hp : p ≤ bs.length) (h : RX9_readLebI (some r) a2 a3 n sl SH FI FL FR v st) : ∃ F2 L2, st = (n, sl, SH, F2, L2, FR) ∧ fj 49 [10] FI F2 ∧ fj 49 [14] FL L2 ∧ cl_cI A bs F2 L2 v (ms_lb sg bs 10 0 p 0) := by
  obtain ⟨g, h⟩ := h
  obtain ⟨F2, L2, e, f, f2, q⟩ := cl_8I hr hs h3 g 0 p _ FI _ v st (by first | decide | simp) (by omega) hb hn hp h
  rw [h_up_eq] at q
  exact ⟨F2, L2, e, f, fj_tr (fj_up fj_rf (by first | decide | simp)) f2, q⟩
/-- what decoding has left -/
def co_cI (A : Nat) (bs : List Int32) (w : Nat) (F2 : Nat → Nat → Int32) (L2 : Nat → Nat → Int64) (v : Int32) (q : Int ⊕ ms_O) : Prop := match q with
  | .inl e => v.toInt = e ∧ e ≠ 0
  | .inr x => v.toInt = 0 ∧ L2 49 12 = x.1 ∧ (w = 22 ∨ w = 23 → L2 49 13 = x.2.1) ∧ (w = 24 → 0 ≤ x.1.toInt ∧ x.1.toInt ≤ x.2.2.1 ∧ (L2 49 13).toInt = ((A + (x.2.2.1 - x.1.toInt.toNat) : Nat) : Int)) ∧ (F2 49 10).toInt = ((A + x.2.2.1 : Nat) : Int) ∧ x.2.2.1 ≤ bs.length
theorem co_numI {w : Nat} (hr : r ≠ 49) (h3 : a2.toInt = ((A + bs.length : Nat) : Int)) (hb : bk FI SH r A bs) (hn : (FI 49 10).toInt = ((A + p : Nat) : Int)) (hp : p ≤ bs.length) (hw : a3.toInt = w) (hw8 : w ≤ 8 ∨ (11 ≤ w ∧ w ≤ 18)) (h : RX9_readNumberI (some r) a2 a3 n sl SH FI FL FR v st) : ∃ F2 L2, st = (n, sl, SH, F2, L2, FR) ∧ fj 49 [10] FI F2 ∧ fj 49 [12, 13, 14] FL L2 ∧ co_cI A bs w F2 L2 v (ms_o1 (if 10 < w then ms_fs bs p (w - 10) else ms_fx bs p w)) := by
  have b2 := hb.2.1
  have b3 := hb.2.2.1
  have key : ∀ (k : Nat) (s0 : Int32), s0.toInt = k → k ≤ 8 → (10 < w → k = w - 10) → (¬ 10 < w → k = w) → RX9_readNumberI_14 (some r) a2 a3 s0 n sl SH FI FL FR v st → ∃ F2 L2, st = (n, sl, SH, F2, L2, FR) ∧ fj 49 [10] FI F2 ∧ fj 49 [12, 13, 14] FL L2 ∧ co_cI A bs w F2 L2 v (ms_o1 (if 10 < w then ms_fs bs p (w - 10) else ms_fx bs p w)) := by
    intro k s0 hk hk8 k1 k2 h
    unfold RX9_readNumberI_14 at h
    rw [i_sub h3 hn (by omega) (by omega), hk, show ((10 : Int32)).toInt = 10 by first | decide | simp, hw] at h
    have es : s0 = Int32.ofNat k := i_of hk (by omega)
    rcases h with ⟨h0, e1, e⟩ | ⟨h0, h⟩
    · refine ⟨_, _, e, fj_rf, fj_rf, ?_⟩
      by_cases hw2 : 10 < w
      · rw [if_pos hw2]; unfold ms_fs; rw [if_pos (by have := k1 hw2; omega)]
        exact ⟨by rw [e1]; decide, by first | decide | simp⟩
      · rw [if_neg hw2]; unfold ms_fx; rw [if_pos (by have := k2 hw2; omega)]
        exact ⟨by rw [e1]; decide, by first | decide | simp⟩
    · obtain ⟨v1, n1, sl1, SH1, FI1, FL1, FR1, hnum, h⟩ := h
      obtain ⟨ev, e1⟩ := cn_num (p := p) (k := k) (bk_0 hb) hn hk hk8 (by omega) hnum
      cases e1
      have nx : (FI 49 10 + s0).toInt = ((A + (p + k) : Nat) : Int) := by rw [i_add hn hk (by omega) (by omega)]; omega
      rcases h with ⟨h5, e1, e⟩ | ⟨h5, e1, e⟩
      · have kk := k1 (by omega)
        refine ⟨_, _, e, fj_up fj_rf (by first | decide | simp), fj_up (fj_up fj_rf (by first | decide | simp)) (by first | decide | simp), ?_⟩
        rw [if_pos (by omega)]; unfold ms_fs; rw [if_neg (by omega)]
        refine ⟨by rw [e1]; decide, ?_, fun e => by omega, fun e => by omega, ?_, ?_⟩
        · rw [h_up_eq, ev, ← kk, es]; rfl
        · rw [h_up_eq, ← kk]; exact nx
        · show p + (w - 10) ≤ bs.length
          omega
      · have kk := k2 (by omega)
        refine ⟨_, _, e, fj_up fj_rf (by first | decide | simp), fj_up fj_rf (by first | decide | simp), ?_⟩
        rw [if_neg (by omega)]; unfold ms_fx; rw [if_neg (by omega)]
        refine ⟨by rw [e1]; decide, ?_, fun e => by omega, fun e => by omega, ?_, ?_⟩
        · rw [h_up_eq, ev, ← kk]
        · rw [h_up_eq, ← kk]; exact nx
        · show p + w ≤ bs.length
          omega
  unfold RX9_readNumberI at h
  rw [show ((10 : Int32)).toInt = 10 by first | decide | simp, hw] at h
  rcases h with ⟨h0, h⟩ | ⟨h0, h⟩
  · exact key (w - 10) _ (by rw [i_sub hw (by first | decide | simp : ((10 : Int32)).toInt = 10) (by omega) (by omega)]; omega) (by omega) (fun _ => rfl) (fun e => by omega) h
  · exact key w _ hw (by omega) (fun e => by omega) (fun _ => rfl) h
theorem co_opI {c : Int32} {w : Int32} (hr : r ≠ 49) (h3 : a2.toInt = ((A + bs.length : Nat) : Int)) (hb : bk FI SH r A bs) (hn : (FI 49 10).toInt = ((A + p : Nat) : Int)) (hp : p ≤ bs.length) (hw : w.toInt = (if ms_kn c.toInt = true then (ms_sh c.toInt : Int) else 25)) (h : RX9_readOperandsI (some r) a2 w n sl SH FI FL FR v st) : ∃ F2 L2, st = (n, sl, SH, F2, L2, FR) ∧ fj 49 [10] FI F2 ∧ fj 49 [12, 13, 14] FL L2 ∧ co_cI A bs (ms_sh c.toInt) F2 L2 v (ms_op c.toInt bs p) := by
  have b2 := hb.2.1
  have b3 := hb.2.2.1
  unfold RX9_readOperandsI at h
  rw [show ((25 : Int32)).toInt = 25 by first | decide | simp, show ((20 : Int32)).toInt = 20 by first | decide | simp, show ((21 : Int32)).toInt = 21 by first | decide | simp] at h
  have hsh := sh_in c.toInt
  unfold ms_op
  cases hk : ms_kn c.toInt with
  | false =>
    rw [if_pos rfl]
    rw [hk, if_neg (by first | decide | simp)] at hw
    have h := P_p h hw
    exact ⟨_, _, h.2, fj_rf, fj_rf, by rw [h.1]; decide, by first | decide | simp⟩
  | true =>
    rw [if_neg (by first | decide | simp)]
    rw [hk, if_pos rfl] at hw
    generalize ms_sh c.toInt = w0 at hw hsh ⊢
    have h := P_n h (by rw [hw]; omega)
    rcases h with ⟨h0, h⟩ | ⟨h0, h⟩
    · rw [if_neg (by omega), if_neg (by omega), if_neg (by omega), if_neg (by omega), if_neg (by omega)]
      obtain ⟨v2, n2, sl2, SH2, FI2, FL2, FR2, hh, e1, e⟩ := h
      obtain ⟨F2, L2, e2, q1, q2, q3⟩ := co_numI (w := w0) hr h3 hb hn hp hw (by omega) hh
      cases e2
      rw [← e1] at q3
      refine ⟨_, _, e, q1, q2, ?_⟩
      by_cases h10 : 10 < w0
      · rw [if_pos h10]; rw [if_pos h10] at q3; exact q3
      · rw [if_neg h10]; rw [if_neg h10] at q3; exact q3
    · -- LEBs
      have st1 : ∀ (sg : Bool) (s0 : Int32), (s0.toInt = 0 ↔ sg = false) → RX9_readOperandsI_36 (some r) a2 w s0 a2 (some r) n sl SH FI FL FR v st → ∃ F1 L1 v1, fj 49 [10] FI F1 ∧ fj 49 [12, 13, 14] FL L1 ∧ cl_cI A bs F1 L1 v1 (ms_lb sg bs 10 0 p 0) ∧ L1 49 12 = L1 49 14 ∧ P_if (v1.toInt = 0) (P_if (w.toInt = ((22 : Int32)).toInt) (RX9_readOperandsI_66 (some r) a2 w n sl SH F1 L1 FR) (P_if (w.toInt = ((23 : Int32)).toInt) (RX9_readOperandsI_66 (some r) a2 w n sl SH F1 L1 FR) (RX9_readOperandsI_93 (some r) a2 w v1 n sl SH F1 L1 FR))) (RX9_readOperandsI_93 (some r) a2 w v1 n sl SH F1 L1 FR) v st := by
        intro sg s0 hs h
        obtain ⟨v0, n0, sl0, SH0, FI0, FL0, FR0, hh, h⟩ := h
        obtain ⟨F2, L2, e2, q1, q2, q3⟩ := cl_lebI (p := p) hr hs h3 hb hn hp hh
        cases e2
        refine ⟨_, _, _, q1, fj_up (fj_le q2 (by first | decide | simp)) (by first | decide | simp), ?_, ?_, h⟩
        · generalize ms_lb sg bs 10 0 p 0 = z at q3
          match z, q3 with
          | .inl e, q3 => exact q3
          | .inr x, q3 => exact ⟨q3.1, by rw [h_up_ne (by first | decide | simp)]; exact q3.2.1, q3.2.2⟩
        · rw [h_up_eq, h_up_ne (by first | decide | simp)]
      have f93 : ∀ {F1 : Nat → Nat → Int32} {L1 : Nat → Nat → Int64} {v1 : Int32}, w0 ≠ 24 → RX9_readOperandsI_93 (some r) a2 w v1 n sl SH F1 L1 FR v st → v = v1 ∧ st = (n, sl, SH, F1, L1, FR) := by
        intro F1 L1 v1 h24 h
        rcases h with ⟨-, h⟩ | ⟨-, h⟩
        · have h := P_n h (by rw [hw, show ((24 : Int32)).toInt = 24 by first | decide | simp]; omega)
          exact h
        · exact h
      by_cases w24 : w0 = 24
      · rw [if_pos w24]
        rcases h with ⟨h5, h⟩ | ⟨h5, h⟩
        · exfalso; omega
        obtain ⟨F1, L1, v1, q1, q2, q3, q4, h⟩ := st1 false _ (by first | decide | simp) h
        unfold ms_lu
        generalize ms_lb false bs 10 0 p 0 = z at q3
        match z, q3 with
        | .inl e, q3 =>
          obtain ⟨y1, y2⟩ := q3
          have h := P_n h (by rw [y1]; exact y2)
          have h := P_n h (by rw [y1]; exact y2)
          exact ⟨_, _, h.2, q1, q2, by rw [h.1]; exact y1, y2⟩
        | .inr x, q3 =>
          obtain ⟨y1, y2, y3, y4⟩ := q3
          have h := P_p h y1
          have h := P_n (P_n h (by rw [hw, show ((22 : Int32)).toInt = 22 by first | decide | simp]; omega)) (by rw [hw, show ((23 : Int32)).toInt = 23 by first | decide | simp]; omega)
          have h := P_p (P_p h y1) (by rw [hw, show ((24 : Int32)).toInt = 24 by first | decide | simp]; omega)
          have e12 : L1 49 12 = x.1 := by rw [q4]; exact y2
          rw [e12, show ((0 : Int64)).toInt = 0 by first | decide | simp, i_2l (i_sub h3 y3 (by omega) (by omega))] at h
          unfold ms_o3
          (try dsimp only)
          rcases h with ⟨g1, e1, e⟩ | ⟨g1, h⟩
          · rw [if_pos (Or.inl g1)]
            exact ⟨_, _, e, q1, q2, by rw [e1]; decide, by first | decide | simp⟩
          · rcases h with ⟨g2, e1, e⟩ | ⟨g2, e1, e⟩
            · rw [if_pos (Or.inr (by omega))]
              exact ⟨_, _, e, q1, q2, by rw [e1]; decide, by first | decide | simp⟩
            · rw [if_neg (by omega)]
              refine ⟨_, _, e, fj_up q1 (by first | decide | simp), fj_up q2 (by first | decide | simp), by rw [e1]; exact y1, by rw [h_up_ne (by first | decide | simp)]; exact e12, fun e => by omega, fun _ => ⟨by show 0 ≤ x.1.toInt; omega, ?_, ?_⟩, ?_, ?_⟩
              · show x.1.toInt ≤ ((x.2 + x.1.toInt.toNat : Nat) : Int)
                omega
              · rw [h_up_eq, i_2l y3]
                show _ = ((A + (x.2 + x.1.toInt.toNat - x.1.toInt.toNat) : Nat) : Int)
                omega
              · rw [h_up_eq, i_add y3 (l_2i rfl (by omega) (by omega)) (by omega) (by omega)]
                show _ = ((A + (x.2 + x.1.toInt.toNat) : Nat) : Int)
                omega
              · show x.2 + x.1.toInt.toNat ≤ bs.length
                omega
      rw [if_neg w24]
      have two : ∀ (sg : Bool) (s0 : Int32), (s0.toInt = 0 ↔ sg = false) → (w0 = 22 ∨ w0 = 23) → RX9_readOperandsI_36 (some r) a2 w ((0 : Int32)) a2 (some r) n sl SH FI FL FR v st → (∀ {F1 : Nat → Nat → Int32} {L1 : Nat → Nat → Int64}, RX9_readOperandsI_66 (some r) a2 w n sl SH F1 L1 FR v st → RX9_readOperandsI_80 (some r) a2 w s0 a2 (some r) n sl SH F1 L1 FR v st) → ∃ F2 L2, st = (n, sl, SH, F2, L2, FR) ∧ fj 49 [10] FI F2 ∧ fj 49 [12, 13, 14] FL L2 ∧ co_cI A bs w0 F2 L2 v (ms_o2 (ms_lu bs p) (fun q => ms_lb sg bs 10 0 q 0)) := by
        intro sg s0 hs hw2 h h66
        obtain ⟨F1, L1, v1, q1, q2, q3, q4, h⟩ := st1 false _ (by first | decide | simp) h
        unfold ms_lu
        generalize ms_lb false bs 10 0 p 0 = z at q3
        match z, q3 with
        | .inl e, q3 =>
          obtain ⟨y1, y2⟩ := q3
          have h := P_n h (by rw [y1]; exact y2)
          have h := f93 w24 h
          exact ⟨_, _, h.2, q1, q2, by rw [h.1]; exact y1, y2⟩
        | .inr x, q3 =>
          obtain ⟨y1, y2, y3, y4⟩ := q3
          have h := P_p h y1
          have h : RX9_readOperandsI_66 (some r) a2 w n sl SH F1 L1 FR v st := by
            rcases h with ⟨-, h⟩ | ⟨g, h⟩
            · exact h
            · rw [hw, show ((22 : Int32)).toInt = 22 by first | decide | simp] at g
              exact P_p h (by rw [hw, show ((23 : Int32)).toInt = 23 by first | decide | simp]; omega)
          obtain ⟨v0, n0, sl0, SH0, FI0, FL0, FR0, hh, h⟩ := h66 h
          obtain ⟨F2, L2, e2, z1, z2, z3⟩ := cl_lebI (p := x.2) hr hs h3 (bk_fr hb (fj_row q1 hr)) y3 y4 hh
          cases e2
          have h := f93 w24 h
          refine ⟨_, _, h.2, fj_tr q1 z1, fj_up (fj_tr q2 (fj_le z2 (by first | decide | simp))) (by first | decide | simp), ?_⟩
          rw [h.1]
          show co_cI A bs w0 FI0 _ v0 (match ms_lb sg bs 10 0 x.2 0 with | .inl e => .inl e | .inr y => .inr (x.1, y.1, y.2, []))
          generalize ms_lb sg bs 10 0 x.2 0 = zz at z3
          match zz, z3 with
          | .inl e, z3 => exact z3
          | .inr y, z3 =>
            obtain ⟨u1, u2, u3, u4⟩ := z3
            exact ⟨u1, by rw [h_up_ne (by first | decide | simp), fj_at z2 (by first | decide | simp), q4]; exact y2, fun _ => by rw [h_up_eq]; exact u2, fun e => absurd e w24, u3, u4⟩
      by_cases w23 : w0 = 23
      · rw [if_pos w23]
        rcases h with ⟨h5, h⟩ | ⟨h5, h⟩
        · exfalso; omega
        exact two false _ (by first | decide | simp) (Or.inr w23) h (fun h => P_n h (by rw [hw, show ((22 : Int32)).toInt = 22 by first | decide | simp]; omega))
      rw [if_neg w23]
      by_cases w22 : w0 = 22
      · rw [if_pos w22]
        rcases h with ⟨h5, h⟩ | ⟨h5, h⟩
        · exfalso; omega
        exact two true _ (by first | decide | simp) (Or.inl w22) h (fun h => P_p h (by rw [hw, show ((22 : Int32)).toInt = 22 by first | decide | simp]; omega))
      rw [if_neg w22]
      have one : ∀ (sg : Bool) (s0 : Int32), (s0.toInt = 0 ↔ sg = false) → RX9_readOperandsI_36 (some r) a2 w s0 a2 (some r) n sl SH FI FL FR v st → ∃ F2 L2, st = (n, sl, SH, F2, L2, FR) ∧ fj 49 [10] FI F2 ∧ fj 49 [12, 13, 14] FL L2 ∧ co_cI A bs w0 F2 L2 v (ms_o1 (ms_lb sg bs 10 0 p 0)) := by
        intro sg s0 hs h
        obtain ⟨F1, L1, v1, q1, q2, q3, q4, h⟩ := st1 sg _ hs h
        have h : v = v1 ∧ st = (n, sl, SH, F1, L1, FR) := by
          rcases h with ⟨-, h⟩ | ⟨-, h⟩
          · exact f93 w24 (P_n (P_n h (by rw [hw, show ((22 : Int32)).toInt = 22 by first | decide | simp]; omega)) (by rw [hw, show ((23 : Int32)).toInt = 23 by first | decide | simp]; omega))
          · exact f93 w24 h
        refine ⟨_, _, h.2, q1, q2, ?_⟩
        rw [h.1]
        generalize ms_lb sg bs 10 0 p 0 = z at q3
        match z, q3 with
        | .inl e, q3 => exact q3
        | .inr x, q3 => exact ⟨q3.1, by rw [q4]; exact q3.2.1, fun e => by omega, fun e => absurd e w24, q3.2.2⟩
      rcases h with ⟨h5, h⟩ | ⟨h5, h⟩
      · rw [if_pos (by omega)]
        exact one true _ (by first | decide | simp) h
      · rw [if_neg (by omega), if_pos (by omega)]
        exact one false _ (by first | decide | simp) h
end CDI
section CD
variable {n sl : Nat} {SH : Nat → Nat × Nat} {FI : Nat → Nat → Int32} {FL : Nat → Nat → Int64} {FR : Nat → Nat → Option Nat} {r A p : Nat} {bs : List Int32} {a2 a3 v : Int32} {st : hS}
def cl_c (A : Nat) (bs : List Int32) (F2 : Nat → Nat → Int32) (L2 : Nat → Nat → Int64) (v : Int32) (q : Int ⊕ (Int64 × Nat)) : Prop := match q with
  | .inl e => v.toInt = e ∧ e ≠ 0
  | .inr x => v.toInt = 0 ∧ L2 48 14 = x.1 ∧ (F2 48 10).toInt = ((A + x.2 : Nat) : Int) ∧ x.2 ≤ bs.length
theorem cl_8 {sg : Bool} (hr : r ≠ 48) (hs : a3.toInt = 0 ↔ sg = false) (h3 : a2.toInt = ((A + bs.length : Nat) : Int)) : ∀ (g i p : Nat) (l4i : Int32) (FI : Nat → Nat → Int32) (FL : Nat → Nat → Int64) (v : Int32) (st : hS), l4i.toInt = i → i ≤ 10 → bk FI SH r A bs → (FI 48 10).toInt = ((A + p : Nat) : Int) → p ≤ bs.length → GX9_readLeb_8 (some r) a2 a3 g l4i n sl SH FI FL FR v st → ∃ F2 L2, st = (n, sl, SH, F2, L2, FR) ∧ fj 48 [10] FI F2 ∧ fj 48 [14] FL L2 ∧ cl_c A bs F2 L2 v (ms_lb sg bs (10 - i) i p (FL 48 14)) := by
  intro g
  induction g with
  | zero => intro i p l4i FI FL v st _ _ _ _ _ h; exact h.elim
  | succ g ih =>
    intro i p l4i FI FL v st hi hik hb hn hp h
    have b2 := hb.2.1
    have b3 := hb.2.2.1
    have b4 := hb.2.2.2
    rcases h with ⟨h0, h⟩ | ⟨h0, e1, e2⟩
    · rw [show ((10 : Int32)).toInt = 10 by first | decide | simp] at h0
      rw [show 10 - i = (10 - (i + 1)) + 1 by omega, ms_lb]
      have h := P_n h (by rw [hn]; omega)
      rw [hn, h3] at h
      rcases h with ⟨h1, h⟩ | ⟨h1, e1, e2⟩
      · obtain ⟨q, eq, h⟩ := h
        cases eq
        have h := P_p h (by rw [i_lit (by omega)]; omega)
        obtain ⟨q, eq, -, h⟩ := h
        cases eq
        obtain ⟨b, hb0⟩ := ms_ex_i (bs := bs) (i := p) (by omega)
        have f1 := b4 p b hb0
        rw [hb0]
        (try dsimp only)
        rw [show (((A + p : Nat) : Int)).toNat = A + p by omega, f1.1, show ((128 : Int32)).toInt = 128 by first | decide | simp, i_of hi (by omega)] at h
        have hx : (FI 48 10 + (1 : Int32)).toInt = ((A + (p + 1) : Nat) : Int) := by rw [i_add hn (by first | decide | simp : ((1 : Int32)).toInt = 1) (by omega) (by omega)]; omega
        have k2 : ((h_up FI 48 10 (FI 48 10 + (1 : Int32))) 48 10).toInt = ((A + (p + 1) : Nat) : Int) := by rw [h_up_eq]; exact hx
        rcases h with ⟨hb1, h⟩ | ⟨hb1, h⟩
        · rw [if_pos hb1]
          rcases h with ⟨h2, e1, e2⟩ | ⟨h2, h⟩
          · exact ⟨_, _, e2, fj_up fj_rf (by first | decide | simp), fj_up fj_rf (by first | decide | simp), by rw [e1]; decide, by rw [if_neg (fun e => by rw [hs.mp h2] at e; exact absurd e.1 (by first | decide | simp)), h_up_eq]; rfl, k2, by omega⟩
          · have hsg : sg = true := by
              cases sg with
              | true => rfl
              | false => exact absurd (hs.mpr rfl) h2
            rw [i_lit (by omega), show ((9 : Int32)).toInt = 9 by first | decide | simp] at h
            rcases h with ⟨h5, h⟩ | ⟨h5, e1, e2⟩
            · rcases h with ⟨h6, e1, e2⟩ | ⟨h6, e1, e2⟩
              · exact ⟨_, _, e2, fj_up fj_rf (by first | decide | simp), fj_up fj_rf (by first | decide | simp), by rw [e1]; decide, by rw [if_neg (fun e => e.2.2 h6), h_up_eq]; rfl, k2, by omega⟩
              · exact ⟨_, _, e2, fj_up fj_rf (by first | decide | simp), fj_up (fj_up fj_rf (by first | decide | simp)) (by first | decide | simp), by rw [e1]; decide, by rw [if_pos ⟨hsg, by omega, h6⟩, h_up_eq, e_77 i (by omega)]; rfl, k2, by omega⟩
            · exact ⟨_, _, e2, fj_up fj_rf (by first | decide | simp), fj_up fj_rf (by first | decide | simp), by rw [e1]; decide, by rw [if_neg (fun e => h5 (by have := e.2.1; omega)), h_up_eq]; rfl, k2, by omega⟩
        · rw [if_neg hb1]
          have e7 : (Int32.ofNat i + (1 : Int32)).toInt = ((i + 1 : Nat) : Int) := by rw [i_add (i_lit (by omega)) (by first | decide | simp : ((1 : Int32)).toInt = 1) (by omega) (by omega)]; omega
          obtain ⟨F2, L2, e, f, f2, q⟩ := ih (i + 1) (p + 1) _ _ _ v st e7 (by omega) (bk_fr hb (h_up_nc hr)) k2 (by omega) h
          rw [h_up_eq] at q
          exact ⟨F2, L2, e, fj_tr (fj_up fj_rf (by first | decide | simp)) f, fj_tr (fj_up fj_rf (by first | decide | simp)) f2, q⟩
      · have e : p = bs.length := by omega
        rw [List.getElem?_eq_none (by omega)]
        exact ⟨_, _, e2, fj_rf, fj_rf, by rw [e1]; decide, by first | decide | simp⟩
    · rw [show ((10 : Int32)).toInt = 10 by first | decide | simp] at h0
      have e : i = 10 := by omega
      subst e
      show ∃ F2 L2, st = (n, sl, SH, F2, L2, FR) ∧ fj 48 [10] FI F2 ∧ fj 48 [14] FL L2 ∧ cl_c A bs F2 L2 v (.inl 15)
      exact ⟨_, _, e2, fj_rf, fj_rf, by rw [e1]; decide, by first | decide | simp⟩
theorem cl_leb {sg : Bool} (hr : r ≠ 48) (hs : a3.toInt = 0 ↔ sg = false) (h3 : a2.toInt = ((A + bs.length : Nat) : Int)) (hb : bk FI SH r A bs) (hn : (FI 48 10).toInt = ((A + p : Nat) : Int)) (hp : p ≤ bs.length) (h : RX9_readLeb (some r) a2 a3 n sl SH FI FL FR v st) : ∃ F2 L2, st = (n, sl, SH, F2, L2, FR) ∧ fj 48 [10] FI F2 ∧ fj 48 [14] FL L2 ∧ cl_c A bs F2 L2 v (ms_lb sg bs 10 0 p 0) := by
  obtain ⟨g, h⟩ := h
  obtain ⟨F2, L2, e, f, f2, q⟩ := cl_8 hr hs h3 g 0 p _ FI _ v st (by first | decide | simp) (by omega) hb hn hp h
  rw [h_up_eq] at q
  exact ⟨F2, L2, e, f, fj_tr (fj_up fj_rf (by first | decide | simp)) f2, q⟩
/-- what decoding has left -/
def co_c (A : Nat) (bs : List Int32) (w : Nat) (F2 : Nat → Nat → Int32) (L2 : Nat → Nat → Int64) (v : Int32) (q : Int ⊕ ms_O) : Prop := match q with
  | .inl e => v.toInt = e ∧ e ≠ 0
  | .inr x => v.toInt = 0 ∧ L2 48 12 = x.1 ∧ (w = 22 ∨ w = 23 → L2 48 13 = x.2.1) ∧ (w = 24 → 0 ≤ x.1.toInt ∧ x.1.toInt ≤ x.2.2.1 ∧ (L2 48 13).toInt = ((A + (x.2.2.1 - x.1.toInt.toNat) : Nat) : Int)) ∧ (F2 48 10).toInt = ((A + x.2.2.1 : Nat) : Int) ∧ x.2.2.1 ≤ bs.length
theorem co_num {w : Nat} (hr : r ≠ 48) (h3 : a2.toInt = ((A + bs.length : Nat) : Int)) (hb : bk FI SH r A bs) (hn : (FI 48 10).toInt = ((A + p : Nat) : Int)) (hp : p ≤ bs.length) (hw : a3.toInt = w) (hw8 : w ≤ 8 ∨ (11 ≤ w ∧ w ≤ 18)) (h : RX9_readNumber (some r) a2 a3 n sl SH FI FL FR v st) : ∃ F2 L2, st = (n, sl, SH, F2, L2, FR) ∧ fj 48 [10] FI F2 ∧ fj 48 [12, 13, 14] FL L2 ∧ co_c A bs w F2 L2 v (ms_o1 (if 10 < w then ms_fs bs p (w - 10) else ms_fx bs p w)) := by
  have b2 := hb.2.1
  have b3 := hb.2.2.1
  have key : ∀ (k : Nat) (s0 : Int32), s0.toInt = k → k ≤ 8 → (10 < w → k = w - 10) → (¬ 10 < w → k = w) → RX9_readNumber_14 (some r) a2 a3 s0 n sl SH FI FL FR v st → ∃ F2 L2, st = (n, sl, SH, F2, L2, FR) ∧ fj 48 [10] FI F2 ∧ fj 48 [12, 13, 14] FL L2 ∧ co_c A bs w F2 L2 v (ms_o1 (if 10 < w then ms_fs bs p (w - 10) else ms_fx bs p w)) := by
    intro k s0 hk hk8 k1 k2 h
    unfold RX9_readNumber_14 at h
    rw [i_sub h3 hn (by omega) (by omega), hk, show ((10 : Int32)).toInt = 10 by first | decide | simp, hw] at h
    have es : s0 = Int32.ofNat k := i_of hk (by omega)
    rcases h with ⟨h0, e1, e⟩ | ⟨h0, h⟩
    · refine ⟨_, _, e, fj_rf, fj_rf, ?_⟩
      by_cases hw2 : 10 < w
      · rw [if_pos hw2]; unfold ms_fs; rw [if_pos (by have := k1 hw2; omega)]
        exact ⟨by rw [e1]; decide, by first | decide | simp⟩
      · rw [if_neg hw2]; unfold ms_fx; rw [if_pos (by have := k2 hw2; omega)]
        exact ⟨by rw [e1]; decide, by first | decide | simp⟩
    · obtain ⟨v1, n1, sl1, SH1, FI1, FL1, FR1, hnum, h⟩ := h
      obtain ⟨ev, e1⟩ := cn_num (p := p) (k := k) (bk_0 hb) hn hk hk8 (by omega) hnum
      cases e1
      have nx : (FI 48 10 + s0).toInt = ((A + (p + k) : Nat) : Int) := by rw [i_add hn hk (by omega) (by omega)]; omega
      rcases h with ⟨h5, e1, e⟩ | ⟨h5, e1, e⟩
      · have kk := k1 (by omega)
        refine ⟨_, _, e, fj_up fj_rf (by first | decide | simp), fj_up (fj_up fj_rf (by first | decide | simp)) (by first | decide | simp), ?_⟩
        rw [if_pos (by omega)]; unfold ms_fs; rw [if_neg (by omega)]
        refine ⟨by rw [e1]; decide, ?_, fun e => by omega, fun e => by omega, ?_, ?_⟩
        · rw [h_up_eq, ev, ← kk, es]; rfl
        · rw [h_up_eq, ← kk]; exact nx
        · show p + (w - 10) ≤ bs.length
          omega
      · have kk := k2 (by omega)
        refine ⟨_, _, e, fj_up fj_rf (by first | decide | simp), fj_up fj_rf (by first | decide | simp), ?_⟩
        rw [if_neg (by omega)]; unfold ms_fx; rw [if_neg (by omega)]
        refine ⟨by rw [e1]; decide, ?_, fun e => by omega, fun e => by omega, ?_, ?_⟩
        · rw [h_up_eq, ev, ← kk]
        · rw [h_up_eq, ← kk]; exact nx
        · show p + w ≤ bs.length
          omega
  unfold RX9_readNumber at h
  rw [show ((10 : Int32)).toInt = 10 by first | decide | simp, hw] at h
  rcases h with ⟨h0, h⟩ | ⟨h0, h⟩
  · exact key (w - 10) _ (by rw [i_sub hw (by first | decide | simp : ((10 : Int32)).toInt = 10) (by omega) (by omega)]; omega) (by omega) (fun _ => rfl) (fun e => by omega) h
  · exact key w _ hw (by omega) (fun e => by omega) (fun _ => rfl) h
theorem co_op {c : Int32} {w : Int32} (hr : r ≠ 48) (h3 : a2.toInt = ((A + bs.length : Nat) : Int)) (hb : bk FI SH r A bs) (hn : (FI 48 10).toInt = ((A + p : Nat) : Int)) (hp : p ≤ bs.length) (hw : w.toInt = (if ms_kn c.toInt = true then (ms_sh c.toInt : Int) else 25)) (h : RX9_readOperands (some r) a2 w n sl SH FI FL FR v st) : ∃ F2 L2, st = (n, sl, SH, F2, L2, FR) ∧ fj 48 [10] FI F2 ∧ fj 48 [12, 13, 14] FL L2 ∧ co_c A bs (ms_sh c.toInt) F2 L2 v (ms_op c.toInt bs p) := by
  have b2 := hb.2.1
  have b3 := hb.2.2.1
  unfold RX9_readOperands at h
  rw [show ((25 : Int32)).toInt = 25 by first | decide | simp, show ((20 : Int32)).toInt = 20 by first | decide | simp, show ((21 : Int32)).toInt = 21 by first | decide | simp] at h
  have hsh := sh_in c.toInt
  unfold ms_op
  cases hk : ms_kn c.toInt with
  | false =>
    rw [if_pos rfl]
    rw [hk, if_neg (by first | decide | simp)] at hw
    have h := P_p h hw
    exact ⟨_, _, h.2, fj_rf, fj_rf, by rw [h.1]; decide, by first | decide | simp⟩
  | true =>
    rw [if_neg (by first | decide | simp)]
    rw [hk, if_pos rfl] at hw
    generalize ms_sh c.toInt = w0 at hw hsh ⊢
    have h := P_n h (by rw [hw]; omega)
    rcases h with ⟨h0, h⟩ | ⟨h0, h⟩
    · rw [if_neg (by omega), if_neg (by omega), if_neg (by omega), if_neg (by omega), if_neg (by omega)]
      obtain ⟨v2, n2, sl2, SH2, FI2, FL2, FR2, hh, e1, e⟩ := h
      obtain ⟨F2, L2, e2, q1, q2, q3⟩ := co_num (w := w0) hr h3 hb hn hp hw (by omega) hh
      cases e2
      rw [← e1] at q3
      refine ⟨_, _, e, q1, q2, ?_⟩
      by_cases h10 : 10 < w0
      · rw [if_pos h10]; rw [if_pos h10] at q3; exact q3
      · rw [if_neg h10]; rw [if_neg h10] at q3; exact q3
    · -- LEBs
      have st1 : ∀ (sg : Bool) (s0 : Int32), (s0.toInt = 0 ↔ sg = false) → RX9_readOperands_36 (some r) a2 w s0 a2 (some r) n sl SH FI FL FR v st → ∃ F1 L1 v1, fj 48 [10] FI F1 ∧ fj 48 [12, 13, 14] FL L1 ∧ cl_c A bs F1 L1 v1 (ms_lb sg bs 10 0 p 0) ∧ L1 48 12 = L1 48 14 ∧ P_if (v1.toInt = 0) (P_if (w.toInt = ((22 : Int32)).toInt) (RX9_readOperands_66 (some r) a2 w n sl SH F1 L1 FR) (P_if (w.toInt = ((23 : Int32)).toInt) (RX9_readOperands_66 (some r) a2 w n sl SH F1 L1 FR) (RX9_readOperands_93 (some r) a2 w v1 n sl SH F1 L1 FR))) (RX9_readOperands_93 (some r) a2 w v1 n sl SH F1 L1 FR) v st := by
        intro sg s0 hs h
        obtain ⟨v0, n0, sl0, SH0, FI0, FL0, FR0, hh, h⟩ := h
        obtain ⟨F2, L2, e2, q1, q2, q3⟩ := cl_leb (p := p) hr hs h3 hb hn hp hh
        cases e2
        refine ⟨_, _, _, q1, fj_up (fj_le q2 (by first | decide | simp)) (by first | decide | simp), ?_, ?_, h⟩
        · generalize ms_lb sg bs 10 0 p 0 = z at q3
          match z, q3 with
          | .inl e, q3 => exact q3
          | .inr x, q3 => exact ⟨q3.1, by rw [h_up_ne (by first | decide | simp)]; exact q3.2.1, q3.2.2⟩
        · rw [h_up_eq, h_up_ne (by first | decide | simp)]
      have f93 : ∀ {F1 : Nat → Nat → Int32} {L1 : Nat → Nat → Int64} {v1 : Int32}, w0 ≠ 24 → RX9_readOperands_93 (some r) a2 w v1 n sl SH F1 L1 FR v st → v = v1 ∧ st = (n, sl, SH, F1, L1, FR) := by
        intro F1 L1 v1 h24 h
        rcases h with ⟨-, h⟩ | ⟨-, h⟩
        · have h := P_n h (by rw [hw, show ((24 : Int32)).toInt = 24 by first | decide | simp]; omega)
          exact h
        · exact h
      by_cases w24 : w0 = 24
      · rw [if_pos w24]
        rcases h with ⟨h5, h⟩ | ⟨h5, h⟩
        · exfalso; omega
        obtain ⟨F1, L1, v1, q1, q2, q3, q4, h⟩ := st1 false _ (by first | decide | simp) h
        unfold ms_lu
        generalize ms_lb false bs 10 0 p 0 = z at q3
        match z, q3 with
        | .inl e, q3 =>
          obtain ⟨y1, y2⟩ := q3
          have h := P_n h (by rw [y1]; exact y2)
          have h := P_n h (by rw [y1]; exact y2)
          exact ⟨_, _, h.2, q1, q2, by rw [h.1]; exact y1, y2⟩
        | .inr x, q3 =>
          obtain ⟨y1, y2, y3, y4⟩ := q3
          have h := P_p h y1
          have h := P_n (P_n h (by rw [hw, show ((22 : Int32)).toInt = 22 by first | decide | simp]; omega)) (by rw [hw, show ((23 : Int32)).toInt = 23 by first | decide | simp]; omega)
          have h := P_p (P_p h y1) (by rw [hw, show ((24 : Int32)).toInt = 24 by first | decide | simp]; omega)
          have e12 : L1 48 12 = x.1 := by rw [q4]; exact y2
          rw [e12, show ((0 : Int64)).toInt = 0 by first | decide | simp, i_2l (i_sub h3 y3 (by omega) (by omega))] at h
          unfold ms_o3
          (try dsimp only)
          rcases h with ⟨g1, e1, e⟩ | ⟨g1, h⟩
          · rw [if_pos (Or.inl g1)]
            exact ⟨_, _, e, q1, q2, by rw [e1]; decide, by first | decide | simp⟩
          · rcases h with ⟨g2, e1, e⟩ | ⟨g2, e1, e⟩
            · rw [if_pos (Or.inr (by omega))]
              exact ⟨_, _, e, q1, q2, by rw [e1]; decide, by first | decide | simp⟩
            · rw [if_neg (by omega)]
              refine ⟨_, _, e, fj_up q1 (by first | decide | simp), fj_up q2 (by first | decide | simp), by rw [e1]; exact y1, by rw [h_up_ne (by first | decide | simp)]; exact e12, fun e => by omega, fun _ => ⟨by show 0 ≤ x.1.toInt; omega, ?_, ?_⟩, ?_, ?_⟩
              · show x.1.toInt ≤ ((x.2 + x.1.toInt.toNat : Nat) : Int)
                omega
              · rw [h_up_eq, i_2l y3]
                show _ = ((A + (x.2 + x.1.toInt.toNat - x.1.toInt.toNat) : Nat) : Int)
                omega
              · rw [h_up_eq, i_add y3 (l_2i rfl (by omega) (by omega)) (by omega) (by omega)]
                show _ = ((A + (x.2 + x.1.toInt.toNat) : Nat) : Int)
                omega
              · show x.2 + x.1.toInt.toNat ≤ bs.length
                omega
      rw [if_neg w24]
      have two : ∀ (sg : Bool) (s0 : Int32), (s0.toInt = 0 ↔ sg = false) → (w0 = 22 ∨ w0 = 23) → RX9_readOperands_36 (some r) a2 w ((0 : Int32)) a2 (some r) n sl SH FI FL FR v st → (∀ {F1 : Nat → Nat → Int32} {L1 : Nat → Nat → Int64}, RX9_readOperands_66 (some r) a2 w n sl SH F1 L1 FR v st → RX9_readOperands_80 (some r) a2 w s0 a2 (some r) n sl SH F1 L1 FR v st) → ∃ F2 L2, st = (n, sl, SH, F2, L2, FR) ∧ fj 48 [10] FI F2 ∧ fj 48 [12, 13, 14] FL L2 ∧ co_c A bs w0 F2 L2 v (ms_o2 (ms_lu bs p) (fun q => ms_lb sg bs 10 0 q 0)) := by
        intro sg s0 hs hw2 h h66
        obtain ⟨F1, L1, v1, q1, q2, q3, q4, h⟩ := st1 false _ (by first | decide | simp) h
        unfold ms_lu
        generalize ms_lb false bs 10 0 p 0 = z at q3
        match z, q3 with
        | .inl e, q3 =>
          obtain ⟨y1, y2⟩ := q3
          have h := P_n h (by rw [y1]; exact y2)
          have h := f93 w24 h
          exact ⟨_, _, h.2, q1, q2, by rw [h.1]; exact y1, y2⟩
        | .inr x, q3 =>
          obtain ⟨y1, y2, y3, y4⟩ := q3
          have h := P_p h y1
          have h : RX9_readOperands_66 (some r) a2 w n sl SH F1 L1 FR v st := by
            rcases h with ⟨-, h⟩ | ⟨g, h⟩
            · exact h
            · rw [hw, show ((22 : Int32)).toInt = 22 by first | decide | simp] at g
              exact P_p h (by rw [hw, show ((23 : Int32)).toInt = 23 by first | decide | simp]; omega)
          obtain ⟨v0, n0, sl0, SH0, FI0, FL0, FR0, hh, h⟩ := h66 h
          obtain ⟨F2, L2, e2, z1, z2, z3⟩ := cl_leb (p := x.2) hr hs h3 (bk_fr hb (fj_row q1 hr)) y3 y4 hh
          cases e2
          have h := f93 w24 h
          refine ⟨_, _, h.2, fj_tr q1 z1, fj_up (fj_tr q2 (fj_le z2 (by first | decide | simp))) (by first | decide | simp), ?_⟩
          rw [h.1]
          show co_c A bs w0 FI0 _ v0 (match ms_lb sg bs 10 0 x.2 0 with | .inl e => .inl e | .inr y => .inr (x.1, y.1, y.2, []))
          generalize ms_lb sg bs 10 0 x.2 0 = zz at z3
          match zz, z3 with
          | .inl e, z3 => exact z3
          | .inr y, z3 =>
            obtain ⟨u1, u2, u3, u4⟩ := z3
            exact ⟨u1, by rw [h_up_ne (by first | decide | simp), fj_at z2 (by first | decide | simp), q4]; exact y2, fun _ => by rw [h_up_eq]; exact u2, fun e => absurd e w24, u3, u4⟩
      by_cases w23 : w0 = 23
      · rw [if_pos w23]
        rcases h with ⟨h5, h⟩ | ⟨h5, h⟩
        · exfalso; omega
        exact two false _ (by first | decide | simp) (Or.inr w23) h (fun h => P_n h (by rw [hw, show ((22 : Int32)).toInt = 22 by first | decide | simp]; omega))
      rw [if_neg w23]
      by_cases w22 : w0 = 22
      · rw [if_pos w22]
        rcases h with ⟨h5, h⟩ | ⟨h5, h⟩
        · exfalso; omega
        exact two true _ (by first | decide | simp) (Or.inl w22) h (fun h => P_p h (by rw [hw, show ((22 : Int32)).toInt = 22 by first | decide | simp]; omega))
      rw [if_neg w22]
      have one : ∀ (sg : Bool) (s0 : Int32), (s0.toInt = 0 ↔ sg = false) → RX9_readOperands_36 (some r) a2 w s0 a2 (some r) n sl SH FI FL FR v st → ∃ F2 L2, st = (n, sl, SH, F2, L2, FR) ∧ fj 48 [10] FI F2 ∧ fj 48 [12, 13, 14] FL L2 ∧ co_c A bs w0 F2 L2 v (ms_o1 (ms_lb sg bs 10 0 p 0)) := by
        intro sg s0 hs h
        obtain ⟨F1, L1, v1, q1, q2, q3, q4, h⟩ := st1 sg _ hs h
        have h : v = v1 ∧ st = (n, sl, SH, F1, L1, FR) := by
          rcases h with ⟨-, h⟩ | ⟨-, h⟩
          · exact f93 w24 (P_n (P_n h (by rw [hw, show ((22 : Int32)).toInt = 22 by first | decide | simp]; omega)) (by rw [hw, show ((23 : Int32)).toInt = 23 by first | decide | simp]; omega))
          · exact f93 w24 h
        refine ⟨_, _, h.2, q1, q2, ?_⟩
        rw [h.1]
        generalize ms_lb sg bs 10 0 p 0 = z at q3
        match z, q3 with
        | .inl e, q3 => exact q3
        | .inr x, q3 => exact ⟨q3.1, by rw [q4]; exact q3.2.1, fun e => by omega, fun e => absurd e w24, q3.2.2⟩
      rcases h with ⟨h5, h⟩ | ⟨h5, h⟩
      · rw [if_pos (by omega)]
        exact one true _ (by first | decide | simp) h
      · rw [if_neg (by omega), if_pos (by omega)]
        exact one false _ (by first | decide | simp) h
end CD
