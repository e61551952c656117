section
/-! Small rules for the printed walks. -/
theorem pk_w {n : Nat} {SH : Nat → Nat × Nat} {FR : Nat → Nat → Option Nat} {c k : Nat} {p : Option Nat} (h : pk n SH FR) (m : (hf_L.all (fun e => !(e.1 == c && e.2.1 == k)) && !(49 == c && 1 == k)) = true) : pk n SH (h_up FR c k p) := by
  rw [Bool.and_eq_true] at m
  refine ⟨h.1, fun e he ht => ?_, ?_⟩
  · have h1 := List.all_eq_true.mp m.1 e he
    have h2 := h.2.1 e he ht
    by_cases hc : e.1 = c
    · by_cases hk : e.2.1 = k
      · simp [hc, hk] at h1
      · rw [hc, h_up_ne hk, ← hc]; exact h2
    · rw [h_up_nc hc]; exact h2
  · have h1 := m.2
    by_cases hc : 49 = c
    · by_cases hk : 1 = k
      · simp [← hc, ← hk] at h1
      · rw [← hc, h_up_ne hk]; exact h.2.2
    · rw [h_up_nc hc]; exact h.2.2
theorem pk_a {n : Nat} {SH : Nat → Nat × Nat} {FR : Nat → Nat → Option Nat} {c k : Nat} {p : Option Nat} (h : pk n SH FR) (m : hf_L.all (fun e => !(e.1 == c)) = true) : pk n SH (h_up FR c k p) := by
  refine ⟨h.1, fun e he ht => ?_, ?_⟩
  · have h1 := List.all_eq_true.mp m e he
    have hc : e.1 ≠ c := by simpa using h1
    rw [h_up_nc hc]; exact h.2.1 e he ht
  · have h1 := List.all_eq_true.mp m (49, 0, 23) (by decide +kernel)
    have hc : (49 : Nat) ≠ c := by simpa using h1
    rw [h_up_nc hc]; exact h.2.2
theorem pk_t {n : Nat} {SH : Nat → Nat × Nat} {FR : Nat → Nat → Option Nat} {c k t : Nat} {p : Option Nat} (h : pk n SH FR) (hs : (SH c).1 = t) (m : hf_L.all (fun e => decide (e.1 < 176) && (!((hs_L.getD e.1 (0, 0)).1 == t) || !(e.2.1 == k))) = true) : pk n SH (h_up FR c k p) := by
  refine ⟨h.1, fun e he ht => ?_, ?_⟩
  · have h1 := List.all_eq_true.mp m e he
    rw [Bool.and_eq_true] at h1
    have h3 := of_decide_eq_true h1.1
    have h2 := h.2.1 e he ht
    by_cases hc : e.1 = c
    · by_cases hk : e.2.1 = k
      · exfalso
        have h4 := h.1.2 e.1 h3
        rw [hc, ] at h4
        have h5 := h1.2
        rw [hc, ← h4, hs, hk] at h5
        simp at h5
      · rw [hc, h_up_ne hk, ← hc]; exact h2
    · rw [h_up_nc hc]; exact h2
  · have h1 := List.all_eq_true.mp m (48, 1, 49) (by decide +kernel)
    rw [Bool.and_eq_true] at h1
    by_cases hc : 49 = c
    · by_cases hk : 1 = k
      · exfalso
        have h4 : SH 49 = (9, 0) := (h.1.2 49 (by decide)).trans (by decide +kernel)
        subst hc; subst hk
        rw [h4] at hs
        have h5 := h1.2
        rw [← hs] at h5
        exact absurd h5 (by decide +kernel)
      · rw [← hc, h_up_ne hk]; exact h.2.2
    · rw [h_up_nc hc]; exact h.2.2
theorem pk_ar {n : Nat} {SH : Nat → Nat × Nat} {FR : Nat → Nat → Option Nat} {c k : Nat} {p : Option Nat} (h : pk n SH FR) (hs : 100 ≤ (SH c).1) : pk n SH (h_up FR c k p) := by
  have m : hf_L.all (fun e => decide (e.1 < 176)) = true := by decide +kernel
  refine ⟨h.1, fun e he ht => ?_, ?_⟩
  · have h3 := of_decide_eq_true (List.all_eq_true.mp m e he)
    have hc : e.1 ≠ c := fun e9 => by
      have h4 := h.1.2 e.1 h3
      rw [e9] at h4 ht
      rw [h4] at hs
      omega
    rw [h_up_nc hc]; exact h.2.1 e he ht
  · have hc : (49 : Nat) ≠ c := fun e9 => by
      have h4 : SH 49 = (9, 0) := (h.1.2 49 (by decide)).trans (by decide +kernel)
      rw [← e9, h4] at hs
      exact absurd hs (by decide)
    rw [h_up_nc hc]; exact h.2.2
theorem q0_0 {FR : Nat → Nat → Option Nat} (h : h_FO FR) : FR 0 0 = some 23 := h (0, 0, 23) (by decide +kernel) (by decide +kernel)
theorem q0_1 {FR : Nat → Nat → Option Nat} (h : h_FO FR) : FR 0 1 = some 48 := h (0, 1, 48) (by decide +kernel) (by decide +kernel)
theorem q0_2 {FR : Nat → Nat → Option Nat} (h : h_FO FR) : FR 0 2 = some 90 := h (0, 2, 90) (by decide +kernel) (by decide +kernel)
theorem q0_3 {FR : Nat → Nat → Option Nat} (h : h_FO FR) : FR 0 3 = some 110 := h (0, 3, 110) (by decide +kernel) (by decide +kernel)
theorem q0_4 {FR : Nat → Nat → Option Nat} (h : h_FO FR) : FR 0 4 = some 119 := h (0, 4, 119) (by decide +kernel) (by decide +kernel)
theorem q0_5 {FR : Nat → Nat → Option Nat} (h : h_FO FR) : FR 0 5 = some 1 := h (0, 5, 1) (by decide +kernel) (by decide +kernel)
theorem q0_6 {FR : Nat → Nat → Option Nat} (h : h_FO FR) : FR 0 6 = some 19 := h (0, 6, 19) (by decide +kernel) (by decide +kernel)
theorem q0_7 {FR : Nat → Nat → Option Nat} (h : h_FO FR) : FR 0 7 = some 20 := h (0, 7, 20) (by decide +kernel) (by decide +kernel)
theorem q0_8 {FR : Nat → Nat → Option Nat} (h : h_FO FR) : FR 0 8 = some 21 := h (0, 8, 21) (by decide +kernel) (by decide +kernel)
theorem q1_0 {FR : Nat → Nat → Option Nat} (h : h_FO FR) : FR 1 0 = some 2 := h (1, 0, 2) (by decide +kernel) (by decide +kernel)
theorem q23_0 {FR : Nat → Nat → Option Nat} (h : h_FO FR) : FR 23 0 = some 24 := h (23, 0, 24) (by decide +kernel) (by decide +kernel)
theorem q23_1 {FR : Nat → Nat → Option Nat} (h : h_FO FR) : FR 23 1 = some 25 := h (23, 1, 25) (by decide +kernel) (by decide +kernel)
theorem q23_2 {FR : Nat → Nat → Option Nat} (h : h_FO FR) : FR 23 2 = some 26 := h (23, 2, 26) (by decide +kernel) (by decide +kernel)
theorem q23_3 {FR : Nat → Nat → Option Nat} (h : h_FO FR) : FR 23 3 = some 43 := h (23, 3, 43) (by decide +kernel) (by decide +kernel)
theorem q48_0 {FR : Nat → Nat → Option Nat} (h : h_FO FR) : FR 48 0 = some 23 := h (48, 0, 23) (by decide +kernel) (by decide +kernel)
theorem q48_1 {FR : Nat → Nat → Option Nat} (h : h_FO FR) : FR 48 1 = some 49 := h (48, 1, 49) (by decide +kernel) (by decide +kernel)
theorem q48_2 {FR : Nat → Nat → Option Nat} (h : h_FO FR) : FR 48 2 = some 70 := h (48, 2, 70) (by decide +kernel) (by decide +kernel)
theorem q48_3 {FR : Nat → Nat → Option Nat} (h : h_FO FR) : FR 48 3 = some 71 := h (48, 3, 71) (by decide +kernel) (by decide +kernel)
theorem q48_4 {FR : Nat → Nat → Option Nat} (h : h_FO FR) : FR 48 4 = some 72 := h (48, 4, 72) (by decide +kernel) (by decide +kernel)
theorem q49_0 {FR : Nat → Nat → Option Nat} (h : h_FO FR) : FR 49 0 = some 23 := h (49, 0, 23) (by decide +kernel) (by decide +kernel)
theorem q49_2 {FR : Nat → Nat → Option Nat} (h : h_FO FR) : FR 49 2 = some 50 := h (49, 2, 50) (by decide +kernel) (by decide +kernel)
theorem q49_3 {FR : Nat → Nat → Option Nat} (h : h_FO FR) : FR 49 3 = some 51 := h (49, 3, 51) (by decide +kernel) (by decide +kernel)
theorem q49_4 {FR : Nat → Nat → Option Nat} (h : h_FO FR) : FR 49 4 = some 52 := h (49, 4, 52) (by decide +kernel) (by decide +kernel)
theorem q52_0 {FR : Nat → Nat → Option Nat} (h : h_FO FR) : FR 52 0 = some 53 := h (52, 0, 53) (by decide +kernel) (by decide +kernel)
theorem q72_0 {FR : Nat → Nat → Option Nat} (h : h_FO FR) : FR 72 0 = some 73 := h (72, 0, 73) (by decide +kernel) (by decide +kernel)
theorem q90_0 {FR : Nat → Nat → Option Nat} (h : h_FO FR) : FR 90 0 = some 23 := h (90, 0, 23) (by decide +kernel) (by decide +kernel)
theorem q90_1 {FR : Nat → Nat → Option Nat} (h : h_FO FR) : FR 90 1 = some 48 := h (90, 1, 48) (by decide +kernel) (by decide +kernel)
theorem q90_2 {FR : Nat → Nat → Option Nat} (h : h_FO FR) : FR 90 2 = some 91 := h (90, 2, 91) (by decide +kernel) (by decide +kernel)
theorem q90_3 {FR : Nat → Nat → Option Nat} (h : h_FO FR) : FR 90 3 = some 109 := h (90, 3, 109) (by decide +kernel) (by decide +kernel)
theorem q91_0 {FR : Nat → Nat → Option Nat} (h : h_FO FR) : FR 91 0 = some 92 := h (91, 0, 92) (by decide +kernel) (by decide +kernel)
theorem q110_0 {FR : Nat → Nat → Option Nat} (h : h_FO FR) : FR 110 0 = some 111 := h (110, 0, 111) (by decide +kernel) (by decide +kernel)
theorem q110_1 {FR : Nat → Nat → Option Nat} (h : h_FO FR) : FR 110 1 = some 117 := h (110, 1, 117) (by decide +kernel) (by decide +kernel)
theorem q111_0 {FR : Nat → Nat → Option Nat} (h : h_FO FR) : FR 111 0 = some 112 := h (111, 0, 112) (by decide +kernel) (by decide +kernel)
theorem q111_1 {FR : Nat → Nat → Option Nat} (h : h_FO FR) : FR 111 1 = some 113 := h (111, 1, 113) (by decide +kernel) (by decide +kernel)
theorem q111_2 {FR : Nat → Nat → Option Nat} (h : h_FO FR) : FR 111 2 = some 114 := h (111, 2, 114) (by decide +kernel) (by decide +kernel)
theorem q111_3 {FR : Nat → Nat → Option Nat} (h : h_FO FR) : FR 111 3 = some 115 := h (111, 3, 115) (by decide +kernel) (by decide +kernel)
theorem q119_0 {FR : Nat → Nat → Option Nat} (h : h_FO FR) : FR 119 0 = some 120 := h (119, 0, 120) (by decide +kernel) (by decide +kernel)
theorem q121_1 {FR : Nat → Nat → Option Nat} (h : h_FO FR) : FR 121 1 = some 122 := h (121, 1, 122) (by decide +kernel) (by decide +kernel)
theorem q121_2 {FR : Nat → Nat → Option Nat} (h : h_FO FR) : FR 121 2 = some 123 := h (121, 2, 123) (by decide +kernel) (by decide +kernel)
theorem q121_3 {FR : Nat → Nat → Option Nat} (h : h_FO FR) : FR 121 3 = some 124 := h (121, 3, 124) (by decide +kernel) (by decide +kernel)
theorem q121_4 {FR : Nat → Nat → Option Nat} (h : h_FO FR) : FR 121 4 = some 125 := h (121, 4, 125) (by decide +kernel) (by decide +kernel)
theorem q121_12 {FR : Nat → Nat → Option Nat} (h : h_FO FR) : FR 121 12 = some 126 := h (121, 12, 126) (by decide +kernel) (by decide +kernel)
theorem q121_14 {FR : Nat → Nat → Option Nat} (h : h_FO FR) : FR 121 14 = some 127 := h (121, 14, 127) (by decide +kernel) (by decide +kernel)
theorem q121_15 {FR : Nat → Nat → Option Nat} (h : h_FO FR) : FR 121 15 = some 128 := h (121, 15, 128) (by decide +kernel) (by decide +kernel)
theorem q121_16 {FR : Nat → Nat → Option Nat} (h : h_FO FR) : FR 121 16 = some 129 := h (121, 16, 129) (by decide +kernel) (by decide +kernel)
theorem q121_17 {FR : Nat → Nat → Option Nat} (h : h_FO FR) : FR 121 17 = some 130 := h (121, 17, 130) (by decide +kernel) (by decide +kernel)
theorem q121_18 {FR : Nat → Nat → Option Nat} (h : h_FO FR) : FR 121 18 = some 131 := h (121, 18, 131) (by decide +kernel) (by decide +kernel)
theorem q121_19 {FR : Nat → Nat → Option Nat} (h : h_FO FR) : FR 121 19 = some 132 := h (121, 19, 132) (by decide +kernel) (by decide +kernel)
theorem q121_20 {FR : Nat → Nat → Option Nat} (h : h_FO FR) : FR 121 20 = some 133 := h (121, 20, 133) (by decide +kernel) (by decide +kernel)
theorem q121_21 {FR : Nat → Nat → Option Nat} (h : h_FO FR) : FR 121 21 = some 134 := h (121, 21, 134) (by decide +kernel) (by decide +kernel)
theorem q121_22 {FR : Nat → Nat → Option Nat} (h : h_FO FR) : FR 121 22 = some 135 := h (121, 22, 135) (by decide +kernel) (by decide +kernel)
theorem q121_23 {FR : Nat → Nat → Option Nat} (h : h_FO FR) : FR 121 23 = some 136 := h (121, 23, 136) (by decide +kernel) (by decide +kernel)
theorem q121_24 {FR : Nat → Nat → Option Nat} (h : h_FO FR) : FR 121 24 = some 137 := h (121, 24, 137) (by decide +kernel) (by decide +kernel)
theorem q121_25 {FR : Nat → Nat → Option Nat} (h : h_FO FR) : FR 121 25 = some 138 := h (121, 25, 138) (by decide +kernel) (by decide +kernel)
theorem q121_26 {FR : Nat → Nat → Option Nat} (h : h_FO FR) : FR 121 26 = some 139 := h (121, 26, 139) (by decide +kernel) (by decide +kernel)
theorem q121_27 {FR : Nat → Nat → Option Nat} (h : h_FO FR) : FR 121 27 = some 140 := h (121, 27, 140) (by decide +kernel) (by decide +kernel)
theorem q121_28 {FR : Nat → Nat → Option Nat} (h : h_FO FR) : FR 121 28 = some 141 := h (121, 28, 141) (by decide +kernel) (by decide +kernel)
theorem q121_45 {FR : Nat → Nat → Option Nat} (h : h_FO FR) : FR 121 45 = some 142 := h (121, 45, 142) (by decide +kernel) (by decide +kernel)
theorem q121_48 {FR : Nat → Nat → Option Nat} (h : h_FO FR) : FR 121 48 = some 143 := h (121, 48, 143) (by decide +kernel) (by decide +kernel)
theorem q121_49 {FR : Nat → Nat → Option Nat} (h : h_FO FR) : FR 121 49 = some 144 := h (121, 49, 144) (by decide +kernel) (by decide +kernel)
theorem q121_50 {FR : Nat → Nat → Option Nat} (h : h_FO FR) : FR 121 50 = some 145 := h (121, 50, 145) (by decide +kernel) (by decide +kernel)
theorem q121_51 {FR : Nat → Nat → Option Nat} (h : h_FO FR) : FR 121 51 = some 146 := h (121, 51, 146) (by decide +kernel) (by decide +kernel)
theorem q121_52 {FR : Nat → Nat → Option Nat} (h : h_FO FR) : FR 121 52 = some 147 := h (121, 52, 147) (by decide +kernel) (by decide +kernel)
theorem q121_60 {FR : Nat → Nat → Option Nat} (h : h_FO FR) : FR 121 60 = some 148 := h (121, 60, 148) (by decide +kernel) (by decide +kernel)
theorem q121_62 {FR : Nat → Nat → Option Nat} (h : h_FO FR) : FR 121 62 = some 149 := h (121, 62, 149) (by decide +kernel) (by decide +kernel)
theorem q121_63 {FR : Nat → Nat → Option Nat} (h : h_FO FR) : FR 121 63 = some 150 := h (121, 63, 150) (by decide +kernel) (by decide +kernel)
theorem q121_64 {FR : Nat → Nat → Option Nat} (h : h_FO FR) : FR 121 64 = some 151 := h (121, 64, 151) (by decide +kernel) (by decide +kernel)
theorem q121_65 {FR : Nat → Nat → Option Nat} (h : h_FO FR) : FR 121 65 = some 152 := h (121, 65, 152) (by decide +kernel) (by decide +kernel)
theorem q121_66 {FR : Nat → Nat → Option Nat} (h : h_FO FR) : FR 121 66 = some 153 := h (121, 66, 153) (by decide +kernel) (by decide +kernel)
theorem q121_72 {FR : Nat → Nat → Option Nat} (h : h_FO FR) : FR 121 72 = some 154 := h (121, 72, 154) (by decide +kernel) (by decide +kernel)
theorem q121_75 {FR : Nat → Nat → Option Nat} (h : h_FO FR) : FR 121 75 = some 155 := h (121, 75, 155) (by decide +kernel) (by decide +kernel)
theorem q121_76 {FR : Nat → Nat → Option Nat} (h : h_FO FR) : FR 121 76 = some 156 := h (121, 76, 156) (by decide +kernel) (by decide +kernel)
theorem q121_77 {FR : Nat → Nat → Option Nat} (h : h_FO FR) : FR 121 77 = some 157 := h (121, 77, 157) (by decide +kernel) (by decide +kernel)
theorem q121_79 {FR : Nat → Nat → Option Nat} (h : h_FO FR) : FR 121 79 = some 158 := h (121, 79, 158) (by decide +kernel) (by decide +kernel)
theorem q121_80 {FR : Nat → Nat → Option Nat} (h : h_FO FR) : FR 121 80 = some 159 := h (121, 80, 159) (by decide +kernel) (by decide +kernel)
theorem q121_81 {FR : Nat → Nat → Option Nat} (h : h_FO FR) : FR 121 81 = some 160 := h (121, 81, 160) (by decide +kernel) (by decide +kernel)
theorem q121_82 {FR : Nat → Nat → Option Nat} (h : h_FO FR) : FR 121 82 = some 161 := h (121, 82, 161) (by decide +kernel) (by decide +kernel)
theorem q121_83 {FR : Nat → Nat → Option Nat} (h : h_FO FR) : FR 121 83 = some 162 := h (121, 83, 162) (by decide +kernel) (by decide +kernel)
theorem q121_84 {FR : Nat → Nat → Option Nat} (h : h_FO FR) : FR 121 84 = some 163 := h (121, 84, 163) (by decide +kernel) (by decide +kernel)
theorem q121_85 {FR : Nat → Nat → Option Nat} (h : h_FO FR) : FR 121 85 = some 164 := h (121, 85, 164) (by decide +kernel) (by decide +kernel)
theorem q121_86 {FR : Nat → Nat → Option Nat} (h : h_FO FR) : FR 121 86 = some 165 := h (121, 86, 165) (by decide +kernel) (by decide +kernel)
theorem q121_87 {FR : Nat → Nat → Option Nat} (h : h_FO FR) : FR 121 87 = some 166 := h (121, 87, 166) (by decide +kernel) (by decide +kernel)
theorem q121_88 {FR : Nat → Nat → Option Nat} (h : h_FO FR) : FR 121 88 = some 167 := h (121, 88, 167) (by decide +kernel) (by decide +kernel)
theorem q121_89 {FR : Nat → Nat → Option Nat} (h : h_FO FR) : FR 121 89 = some 168 := h (121, 89, 168) (by decide +kernel) (by decide +kernel)
theorem q121_96 {FR : Nat → Nat → Option Nat} (h : h_FO FR) : FR 121 96 = some 169 := h (121, 96, 169) (by decide +kernel) (by decide +kernel)
theorem q121_97 {FR : Nat → Nat → Option Nat} (h : h_FO FR) : FR 121 97 = some 170 := h (121, 97, 170) (by decide +kernel) (by decide +kernel)
theorem q121_98 {FR : Nat → Nat → Option Nat} (h : h_FO FR) : FR 121 98 = some 171 := h (121, 98, 171) (by decide +kernel) (by decide +kernel)
theorem q121_99 {FR : Nat → Nat → Option Nat} (h : h_FO FR) : FR 121 99 = some 172 := h (121, 99, 172) (by decide +kernel) (by decide +kernel)
theorem q121_100 {FR : Nat → Nat → Option Nat} (h : h_FO FR) : FR 121 100 = some 173 := h (121, 100, 173) (by decide +kernel) (by decide +kernel)
theorem q121_102 {FR : Nat → Nat → Option Nat} (h : h_FO FR) : FR 121 102 = some 174 := h (121, 102, 174) (by decide +kernel) (by decide +kernel)
theorem q121_103 {FR : Nat → Nat → Option Nat} (h : h_FO FR) : FR 121 103 = some 175 := h (121, 103, 175) (by decide +kernel) (by decide +kernel)
def u_cl (own : String) (idx : Nat) (v : Int64) : Bool := lw_tbl.all (fun w => match w with
  | .constantLong o i z => !(i == idx && o == own) || decide (z = v)
  | _ => true)
theorem u_cl_of {own : String} {idx : Nat} {v : Int64} (h : u_cl own idx v = true) : ∀ z, Cond.constantLong own idx z ∈ x_Ts → z = v := by
  intro z hz
  have h3 := List.all_eq_true.mp h _ (List.mem_filter.mp hz).1
  simpa using h3
section PS
variable {ρ τ : Type} {inj : ρ → Option Value} {sk : xK} {base N d : Nat} {X : Option (Nat × Nat × (Nat → Int32))} {j pc : Nat} {L : xL} {st : List Value} {s : hS}
theorem pw_L {L2 : xL} {Ψ : ρ → hS → Prop} (k : pw inj sk base N d X j pc L2 st s Ψ) (hs : x_sub L L2) : pw inj sk base N d X j pc L st s Ψ := fun n hn h r h' hR hg => k n hn h r h' hR (x_go_L n d X j pc L L2 st h r h' (x_sub_mem hs) hg)
theorem pw_ra {c : Nat} {A : Nat → ρ → hS → Prop} (k : pw inj sk base N d X j pc L st s (P_sm (some c) A)) : pw inj sk base N d X j pc L st s (A c) := pw_cons k (fun x s h => by obtain ⟨q, e, h⟩ := h; cases e; exact h)
theorem pw_sd {p : Prop} {A : ρ → hS → Prop} (k : pw inj sk base N d X j pc L st s (P_and p A)) : pw inj sk base N d X j pc L st s A := pw_cons k (fun x s h => h.2)
theorem pw_ite {c : Prop} [Decidable c] {a b : ρ} {s0 : hS} (k : pw inj sk base N d X j pc L st s (P_if c (P_ret a s0) (P_ret b s0))) : pw inj sk base N d X j pc L st s (P_ret (if c then a else b) s0) := pw_cons k (fun x s h => by
  rcases h with ⟨h1, h2, h3⟩ | ⟨h1, h2, h3⟩
  · exact ⟨by rw [if_pos h1]; exact h2, h3⟩
  · exact ⟨by rw [if_neg h1]; exact h2, h3⟩)
theorem pw_cf {C : τ → hS → Prop} {A : ρ → hS → Prop} (k : pw inj sk base N d X j pc L st s (P_bi C (fun _ _ _ _ _ _ _ => A))) : pw inj sk base N d X j pc L st s A := pw_cons k (fun x s h => by obtain ⟨v, n, sl, SH, FI, FL, FR, -, h⟩ := h; exact h)
end PS
section PL
variable {ρ : Type} {inj : ρ → Option Value} {sk : xK} {base N d : Nat} {j : Nat} {y : MethodName} {nL : Nat} {ret : Option FieldType} {pc : Nat} {L : xL} {st : List Value} {n sl : Nat} {SH : Nat → Nat × Nat} {FI : Nat → Nat → Int32} {FL : Nat → Nat → Int64} {FR : Nat → Nat → Option Nat} {B : ρ → hS → Prop} {c ix : Nat} {i : Int32}
theorem pw_ialdr (q : x_at xMM j pc .iaload 1 y nL ret) (hik : i.toInt.toNat = ix) (kk : p_in i (SH c).2 → pw inj sk base N d none j (pc + 1) L (.int (FI c ix) :: st) (n, sl, SH, FI, FL, FR) B) : pw inj sk base N d none j pc L (.int i :: .ref (base + c) :: st) (n, sl, SH, FI, FL, FR) (P_and (p_in i (SH c).2) B) :=
  pw_ra (A := fun c => P_and (p_in i (SH c).2) B) (pw_iald (o := some c) (A := fun _ => B) q hik (fun c2 e _ g => by cases e; exact kk g))
theorem pw_laldr (q : x_at xMM j pc .laload 1 y nL ret) (hik : i.toInt.toNat = ix) (kk : p_in i (SH c).2 → pw inj sk base N d none j (pc + 1) L (.long (FL c ix) :: st) (n, sl, SH, FI, FL, FR) B) : pw inj sk base N d none j pc L (.int i :: .ref (base + c) :: st) (n, sl, SH, FI, FL, FR) (P_and (p_in i (SH c).2) B) :=
  pw_ra (A := fun c => P_and (p_in i (SH c).2) B) (pw_lald (o := some c) (A := fun _ => B) q hik (fun c2 e _ g => by cases e; exact kk g))
theorem pw_zaldr (hkb : x_kb sk base) (q : x_at xMM j pc .baload 1 y nL ret) (hik : i.toInt.toNat = ix) (kk : p_in i (SH c).2 → pw inj sk base N d none j (pc + 1) L (.int (FI c ix) :: st) (n, sl, SH, FI, FL, FR) B) : pw inj sk base N d none j pc L (.int i :: .ref (base + c) :: st) (n, sl, SH, FI, FL, FR) (P_and (p_in i (SH c).2) B) :=
  pw_ra (A := fun c => P_and (p_in i (SH c).2) B) (pw_zald (o := some c) (A := fun _ => B) hkb q hik (fun c2 e _ g => by cases e; exact kk g))
theorem pw_aaldr (q : x_at xMM j pc .aaload 1 y nL ret) (hik : i.toInt.toNat = ix) (kk : p_in i (SH c).2 → pw inj sk base N d none j (pc + 1) L (va_rf (h_rf base (FR c ix)) :: st) (n, sl, SH, FI, FL, FR) B) : pw inj sk base N d none j pc L (.int i :: .ref (base + c) :: st) (n, sl, SH, FI, FL, FR) (P_and (p_in i (SH c).2) B) :=
  pw_ra (A := fun c => P_and (p_in i (SH c).2) B) (pw_aald (o := some c) (A := fun _ => B) q hik (fun c2 e _ g => by cases e; exact kk g))
theorem pw_iastr {v : Int32} (q : x_at xMM j pc .iastore 1 y nL ret) (hik : i.toInt.toNat = ix) (kk : p_in i (SH c).2 → pw inj sk base N d none j (pc + 1) L st (n, sl, SH, h_up FI c ix v, FL, FR) B) : pw inj sk base N d none j pc L (.int v :: .int i :: .ref (base + c) :: st) (n, sl, SH, FI, FL, FR) (P_and (p_in i (SH c).2) B) :=
  pw_ra (A := fun c => P_and (p_in i (SH c).2) B) (pw_iast (o := some c) (A := fun _ => B) q hik (fun c2 e _ g => by cases e; exact kk g))
theorem pw_lastr {v : Int64} (q : x_at xMM j pc .lastore 1 y nL ret) (hik : i.toInt.toNat = ix) (kk : p_in i (SH c).2 → pw inj sk base N d none j (pc + 1) L st (n, sl, SH, FI, h_up FL c ix v, FR) B) : pw inj sk base N d none j pc L (.long v :: .int i :: .ref (base + c) :: st) (n, sl, SH, FI, FL, FR) (P_and (p_in i (SH c).2) B) :=
  pw_ra (A := fun c => P_and (p_in i (SH c).2) B) (pw_last (o := some c) (A := fun _ => B) q hik (fun c2 e _ g => by cases e; exact kk g))
theorem pw_zastr {v : Int32} (q : x_at xMM j pc .bastore 1 y nL ret) (hik : i.toInt.toNat = ix) (kk : p_in i (SH c).2 → pw inj sk base N d none j (pc + 1) L st (n, sl, SH, h_up FI c ix (vp_nar .boolean v), FL, FR) B) : pw inj sk base N d none j pc L (.int v :: .int i :: .ref (base + c) :: st) (n, sl, SH, FI, FL, FR) (P_and (p_in i (SH c).2) B) :=
  pw_ra (A := fun c => P_and (p_in i (SH c).2) B) (pw_zast (o := some c) (A := fun _ => B) q hik (fun c2 e _ g => by cases e; exact kk g))
theorem pw_aastr {p : Option Nat} (q : x_at xMM j pc .aastore 1 y nL ret) (hik : i.toInt.toNat = ix) (kk : p_in i (SH c).2 → pw inj sk base N d none j (pc + 1) L st (n, sl, SH, FI, FL, h_up FR c ix p) B) : pw inj sk base N d none j pc L (va_rf (h_rf base p) :: .int i :: .ref (base + c) :: st) (n, sl, SH, FI, FL, FR) (P_and (p_in i (SH c).2 ∧ ∃ v, p = some v) B) :=
  pw_ra (A := fun c => P_and (p_in i (SH c).2 ∧ ∃ v, p = some v) B) (pw_aast (o := some c) (A := fun _ => B) q hik (fun c2 v2 e _ _ _ g _ => by cases e; exact kk g))
theorem pw_alenr (hkb : x_kb sk base) (q : x_at xMM j pc .arraylength 1 y nL ret) (kk : pw inj sk base N d none j (pc + 1) L (.int (Int32.ofNat (SH c).2) :: st) (n, sl, SH, FI, FL, FR) B) : pw inj sk base N d none j pc L (.ref (base + c) :: st) (n, sl, SH, FI, FL, FR) B :=
  pw_ra (A := fun _ => B) (pw_alen (o := some c) (A := fun _ => B) hkb q (fun c2 e _ => by cases e; exact kk))
end PL
def x_sb : xL → xL → List Nat → Prop
  | [], _, _ => True
  | _ :: _, _, [] => False
  | q :: r, L2, i :: is => L2[i]? = some q ∧ x_sb r L2 is
theorem x_sb_mem {L2 : xL} : ∀ {L : xL} {is : List Nat}, x_sb L L2 is → ∀ q ∈ L, q ∈ L2
  | [], _, _, _, hq => absurd hq (List.not_mem_nil)
  | p :: r, [], h, _, _ => h.elim
  | p :: r, i :: is, h, q, hq => by
    rcases List.mem_cons.mp hq with e | e
    · subst e; exact List.mem_of_getElem? h.1
    · exact x_sb_mem h.2 q e
theorem pw_Li {ρ : Type} {inj : ρ → Option Value} {sk : xK} {base N d : Nat} {X : Option (Nat × Nat × (Nat → Int32))} {j pc : Nat} {L L2 : xL} {st : List Value} {s : hS} {Ψ : ρ → hS → Prop} (is : List Nat) (k : pw inj sk base N d X j pc L2 st s Ψ) (hs : x_sb L L2 is) : pw inj sk base N d X j pc L st s Ψ := fun n hn h r h' hR hg => k n hn h r h' hR (x_go_L n d X j pc L L2 st h r h' (x_sb_mem hs) hg)
end
section
/-! New cells, copies. -/
def x_uN (own : String) (idx t : Nat) : Prop := ∀ (ci : Nat) (C : String) (T : u_T) (N : Nat), vwCl[ci]? = some (C, T, N) → Cond.classLink own idx C ∈ x_Ts → ci = t
def u_nl (own : String) (idx : Nat) (c0 : String) : Bool := lw_tbl.all (fun w => match w with
  | .classLink o i c => !(i == idx && o == own) || c == c0
  | _ => true)
def u_nt (c0 : String) (t : Nat) : Bool := (List.range 13).all (fun ci => match vwCl[ci]? with
  | none => true
  | some (C, _, _) => !(C == c0) || ci == t)
theorem x_uN_of {own : String} {idx t : Nat} {c0 : String} (h1 : u_nl own idx c0 = true) (h2 : u_nt c0 t = true) : x_uN own idx t := by
  intro ci C T N hci hl
  have h3 := List.all_eq_true.mp h1 _ (List.mem_filter.mp hl).1
  have hC : C = c0 := by simpa using h3
  have hlt : ci < 13 := (List.getElem?_eq_some_iff.mp hci).1
  have h4 := List.all_eq_true.mp h2 ci (List.mem_range.mpr hlt)
  rw [hci] at h4
  simpa [hC] using h4
def x_uQ (own : String) (idx k : Nat) : Prop := ∀ (k2 : Nat) (C : String), x_kn[k2]? = some (.object C) → Cond.classLink own idx C ∈ x_Ts → k2 = k
def u_qt (c0 : String) (k : Nat) : Bool := (List.range 7).all (fun i => match x_kn[i]? with
  | some (.object C) => !(C == c0) || i == k
  | _ => true)
theorem x_uQ_of {own : String} {idx k : Nat} {c0 : String} (h1 : u_nl own idx c0 = true) (h2 : u_qt c0 k = true) : x_uQ own idx k := by
  intro k2 C hk hl
  have h3 := List.all_eq_true.mp h1 _ (List.mem_filter.mp hl).1
  have hC : C = c0 := by simpa using h3
  have hlt : k2 < 7 := (List.getElem?_eq_some_iff.mp hk).1
  have h4 := List.all_eq_true.mp h2 k2 (List.mem_range.mpr hlt)
  rw [hk] at h4
  simpa [hC] using h4
def P_nw (t n sl : Nat) (SH : Nat → Nat × Nat) (FI : Nat → Nat → Int32) (FL : Nat → Nat → Int64) (FR : Nat → Nat → Option Nat) : Unit → hS → Prop := fun _ s => s = (n + 1, sl + h_nf t, va_up SH n (t, 0), va_up FI n (fun _ => 0), va_up FL n (fun _ => 0), va_up FR n (fun _ => none))
def P_na (k z n sl : Nat) (SH : Nat → Nat × Nat) (FI : Nat → Nat → Int32) (FL : Nat → Nat → Int64) (FR : Nat → Nat → Option Nat) : Unit → hS → Prop := fun _ s => s = (n + 1, sl + z, va_up SH n (100 + k, z), va_up FI n (fun _ => 0), va_up FL n (fun _ => 0), va_up FR n (fun _ => none))
theorem pk_n {n : Nat} {SH : Nat → Nat × Nat} {FR : Nat → Nat → Option Nat} {sh : Nat × Nat} {f : Nat → Option Nat} (h : pk n SH FR) (m : hf_L.all (fun e => decide (e.1 < 176)) = true) : pk (n + 1) (va_up SH n sh) (va_up FR n f) := by
  obtain ⟨⟨h1, h2⟩, h3, h4⟩ := h
  refine ⟨⟨by omega, fun q hq => ?_⟩, fun e he ht => ?_, ?_⟩
  · have e : q ≠ n := by omega
    simp only [va_up, if_neg e]
    exact h2 q hq
  · have h4 := of_decide_eq_true (List.all_eq_true.mp m e he)
    have e2 : e.1 ≠ n := by omega
    simp only [va_up, if_neg e2]
    exact h3 e he ht
  · have e2 : (49 : Nat) ≠ n := by omega
    simp only [va_up, if_neg e2]
    exact h4
theorem h_newc {base t N : Nat} {C : String} {T : u_T} {ty : Nat → FieldType} (ht : vwCl[t]? = some (C, T, N)) (hty : ∀ k, k < N → parseFieldDescriptor (T k).2.2.1 = some (ty k)) : h_cell base (t, 0) (fun _ => 0) (fun _ => 0) (fun _ => none) = .inr (t, (List.range N).map (fun k => defaultValue (ty k))) := by
  have ht2 : t < 100 := Nat.lt_trans (List.getElem?_eq_some_iff.mp ht).1 (by decide)
  rw [h_obj rfl ht2]
  congr 2
  unfold h_fs
  rw [h_nf_of ht]
  apply List.map_congr_left
  intro k hk
  have hk2 : k < N := List.mem_range.mp hk
  have ht3 : t < 13 := (List.getElem?_eq_some_iff.mp ht).1
  have h105 := h_nle t ht3
  rw [h_nf_of ht] at h105
  have e0 : h_ty t k = ty k := Option.some.inj ((h_ty_ok ht hk2).symm.trans (hty k hk2))
  rw [← e0]
  obtain ⟨f1, f2⟩ := h_noF t ht3 k (by omega)
  cases e : h_ty t k with
  | float => exact absurd e f1
  | double => exact absurd e f2
  | _ => rfl
section PN
variable {ρ : Type} {inj : ρ → Option Value} {sk : xK} {base N d : Nat} {j : Nat} {y : MethodName} {nL : Nat} {ret : Option FieldType} {len pc : Nat} {L : xL} {st : List Value} {n sl : Nat} {SH : Nat → Nat × Nat} {FI : Nat → Nat → Int32} {FL : Nat → Nat → Int64} {FR : Nat → Nat → Option Nat} {A : Unit → Nat → Nat → (Nat → Nat × Nat) → (Nat → Nat → Int32) → (Nat → Nat → Int64) → (Nat → Nat → Option Nat) → ρ → hS → Prop}
theorem pw_new {idx t : Nat} (hok : pk n SH FR) (q : x_at xMM j pc (.new idx) 3 y nL ret) (hu : x_uN y.cls idx t) (kk : ∀ v n1 sl1 SH1 FI1 FL1 FR1, pk n1 SH1 FR1 → P_nw t n sl SH FI FL FR v (n1, sl1, SH1, FI1, FL1, FR1) → pw inj sk base N d none j (pc + 3) L (.ref (base + n) :: st) (n1, sl1, SH1, FI1, FL1, FR1) (A v n1 sl1 SH1 FI1 FL1 FR1)) : pw inj sk base N d none j pc L st (n, sl, SH, FI, FL, FR) (P_bi (P_nw t n sl SH FI FL FR) A) :=
  pw_st q rfl (fun h b hR hb m hm r h' hg => by
    obtain ⟨-, ci, C, T, N2, ty, hci, hty, hl, -, -, rfl⟩ := hb
    have e := hu _ _ _ _ hci hl
    subst e
    have hR2 := h_push hR (h_newc (base := base) hci hty) (z := h_nf ci) (by rw [h_nf_of hci]; simp [x_n])
    have hlen : h.length = n := hR.1
    have hg2 : x_go sk vwCl x_kn x_Ts x_AO xMM base m d none j (pc + 3, L, .ref (base + n) :: st, h ++ [.inr (ci, (List.range N2).map (fun k => defaultValue (ty k)))]) r h' := by rw [← hlen]; exact hg
    obtain ⟨x, s', e4, g1, hp0, g2⟩ := kk () _ _ _ _ _ _ (pk_n hok (by decide +kernel)) rfl m (by omega) _ r h' hR2 hg2
    exact ⟨x, s', e4, g1, hp0, (), _, _, _, _, _, _, rfl, g2⟩)
theorem pw_newq {idx k : Nat} {z : Int32} {zz : Nat} (hok : pk n SH FR) (q : x_at xMM j pc (.anewarray idx) 3 y nL ret) (hu : x_uQ y.cls idx k) (hz : z.toInt.toNat = zz) (kk : ∀ v n1 sl1 SH1 FI1 FL1 FR1, pk n1 SH1 FR1 → P_na k zz n sl SH FI FL FR v (n1, sl1, SH1, FI1, FL1, FR1) → pw inj sk base N d none j (pc + 3) L (.ref (base + n) :: st) (n1, sl1, SH1, FI1, FL1, FR1) (A v n1 sl1 SH1 FI1 FL1 FR1)) : pw inj sk base N d none j pc L (.int z :: st) (n, sl, SH, FI, FL, FR) (P_bi (P_na k zz n sl SH FI FL FR) A) :=
  pw_st q rfl (fun h b hR hb m hm r h' hg => by
    obtain ⟨-, z2, r2, k2, C, hk, hl, -, -, -, e, rfl⟩ := hb
    cases e
    subst hz
    have e := hu _ _ hk hl
    subst e
    have hk3 := (x_kn_0 hk).2.2.2 rfl
    obtain ⟨k, rfl⟩ : ∃ k', k2 = k' + 3 := ⟨k2 - 3, by omega⟩
    have hR2 := h_push (sh := (100 + (k + 3), z.toNatClampNeg)) (f := fun _ => 0) (g := fun _ => 0) (r := fun _ => none) (c := .inl (k + 3, z.toNatClampNeg, .inr (.inr (.inr (.inr (fun _ => none)))))) (z := z.toNatClampNeg) hR (h_arr rfl) rfl
    have hlen : h.length = n := hR.1
    have hg2 : x_go sk vwCl x_kn x_Ts x_AO xMM base m d none j (pc + 3, L, .ref (base + n) :: st, h ++ [.inl (k + 3, z.toNatClampNeg, .inr (.inr (.inr (.inr (fun _ => none)))))]) r h' := by rw [← hlen]; exact hg
    obtain ⟨x, s', e4, g1, hp0, g2⟩ := kk () _ _ _ _ _ _ (pk_n hok (by decide +kernel)) rfl m (by omega) _ r h' hR2 hg2
    exact ⟨x, s', e4, g1, hp0, (), _, _, _, _, _, _, rfl, g2⟩)
end PN
section PO
variable {ρ : Type} {inj : ρ → Option Value} {sk : xK} {base N d : Nat} {j : Nat} {y : MethodName} {nL : Nat} {ret : Option FieldType} {len pc : Nat} {L : xL} {st : List Value} {s : hS} {B : ρ → hS → Prop}
theorem x_noJ : x_uJ Jvm.Lib.objectInit 100000 := x_uJ_of (by decide +kernel)
theorem pw_oinit {idx : Nat} {v : Value} (q : x_at xMM j pc (.invokespecial idx) 3 y nL ret) (hu : x_uM y.cls idx Jvm.Lib.objectInit) (kk : pw inj sk base N d none j (pc + 3) L st s B) : pw inj sk base N d none j pc L (v :: st) s B :=
  pw_inv q (fun m hm h r h' hR hh => by
    rcases hh with ⟨b, hi | hi, hg⟩ | ⟨hr, -⟩ | ⟨d', j3, y3, cc3, nL3, ret3, As, rest3, w, h1, -, -, hM3, hc, -, g1, g2⟩ | ⟨d', b, -, hc, hg⟩
    · exact hi.elim
    · exact hi.elim
    · exact hr.elim
    · exfalso
      obtain ⟨-, -, -, -, -, hlk, -⟩ := hc
      have e1 := hu y3 hlk
      subst e1
      have e2 := x_noJ j3 _ _ _ hM3
      subst e2
      have h9 : x_ml[100000]? = some (Jvm.Lib.objectInit, cc3, nL3, ret3) := hM3
      have h8 := (List.getElem?_eq_some_iff.mp h9).1
      exact absurd h8 (by decide +kernel)
    · obtain ⟨-, q2, r2, e, -, -, -, -, rfl⟩ := hc
      have e3 := (List.cons.inj e).2
      subst e3
      exact kk m (by omega) h r h' hR hg)
end PO
end
section
/-! Which field, which method: by one table a class. -/
def u_lF (own : String) (tb : List (Nat × (String × String))) : Bool := lw_tbl.all (fun w => match w with
  | .fieldLink o i c n _ => !(o == own) || (tb.lookup i == some (c, n))
  | .fieldLinkNest o i c n _ _ => !(o == own) || (tb.lookup i == some (c, n))
  | _ => true)
def u_lM (own : String) (tb : List (Nat × MethodName)) : Bool := lw_tbl.all (fun w => match w with
  | .methodLink o i z => !(o == own) || decide (tb.lookup i = some z)
  | .methodLinkNest o i z _ => !(o == own) || decide (tb.lookup i = some z)
  | _ => true)
def u_lC (own : String) (tb : List (Nat × Int64)) : Bool := lw_tbl.all (fun w => match w with
  | .constantLong o i z => !(o == own) || decide (tb.lookup i = some z)
  | _ => true)
theorem x_uF_tb {own : String} {tb : List (Nat × (String × String))} {idx t k : Nat} {c0 n0 : String} (h : u_lF own tb = true) (e : tb.lookup idx = some (c0, n0)) (h2 : u_tb c0 n0 t k = true) : x_uF own idx t k := by
  intro ci k2 C T N hf
  obtain ⟨hci, hk, hl⟩ := hf
  have hcn : (T k2).1 = c0 ∧ (T k2).2.1 = n0 := by
    rcases hl with hl | ⟨host, hl⟩
    · have h3 := List.all_eq_true.mp h _ (List.mem_filter.mp hl).1
      have h4 : tb.lookup idx = some ((T k2).1, (T k2).2.1) := by simpa using h3
      rw [e] at h4
      cases h4
      exact ⟨rfl, rfl⟩
    · have h3 := List.all_eq_true.mp h _ (List.mem_filter.mp hl).1
      have h4 : tb.lookup idx = some ((T k2).1, (T k2).2.1) := by simpa using h3
      rw [e] at h4
      cases h4
      exact ⟨rfl, rfl⟩
  have hlt : ci < 13 := (List.getElem?_eq_some_iff.mp hci).1
  have h3 := List.all_eq_true.mp h2 ci (List.mem_range.mpr hlt)
  rw [hci] at h3
  have h4 := List.all_eq_true.mp h3 k2 (List.mem_range.mpr hk)
  simpa [hcn.1, hcn.2] using h4
theorem x_nS_tb {own : String} {tb : List (Nat × (String × String))} {idx : Nat} {c0 n0 : String} (h : u_lF own tb = true) (e : tb.lookup idx = some (c0, n0)) (h2 : c0 ≠ "java/lang/String") : x_nS own idx := by
  intro n d hl
  have h3 := List.all_eq_true.mp h _ (List.mem_filter.mp hl).1
  have h4 : tb.lookup idx = some ("java/lang/String", n) := by simpa using h3
  rw [e] at h4
  cases h4
  exact h2 rfl
theorem x_uM_tb {own : String} {tb : List (Nat × MethodName)} {idx : Nat} {y : MethodName} (h : u_lM own tb = true) (e : tb.lookup idx = some y) : x_uM own idx y := by
  intro y2 hl
  rcases hl with hl | ⟨host, hl⟩
  · have h3 := List.all_eq_true.mp h _ (List.mem_filter.mp hl).1
    have h4 : tb.lookup idx = some y2 := by simpa using h3
    rw [e] at h4
    exact (Option.some.inj h4).symm
  · have h3 := List.all_eq_true.mp h _ (List.mem_filter.mp hl).1
    have h4 : tb.lookup idx = some y2 := by simpa using h3
    rw [e] at h4
    exact (Option.some.inj h4).symm
theorem x_uC_tb {own : String} {tb : List (Nat × Int64)} {idx : Nat} {v : Int64} (h : u_lC own tb = true) (e : tb.lookup idx = some v) : ∀ z, Cond.constantLong own idx z ∈ x_Ts → z = v := by
  intro z hl
  have h3 := List.all_eq_true.mp h _ (List.mem_filter.mp hl).1
  have h4 : tb.lookup idx = some z := by simpa using h3
  rw [e] at h4
  exact (Option.some.inj h4).symm
def u_nd : List (MethodName × ByteArray × Nat × Option FieldType) → Bool
  | [] => true
  | q :: l => l.all (fun z => !(z.1.name == q.1.name && (z.1.desc == q.1.desc && z.1.cls == q.1.cls))) && u_nd l
theorem u_nd_at : ∀ {l : List (MethodName × ByteArray × Nat × Option FieldType)} {i j : Nat} {a b : MethodName × ByteArray × Nat × Option FieldType}, u_nd l = true → l[i]? = some a → l[j]? = some b → a.1 = b.1 → i = j
  | [], i, j, a, b, _, h, _, _ => by simp at h
  | q :: l, i, j, a, b, h, hi, hj, e => by
    rw [u_nd, Bool.and_eq_true] at h
    obtain ⟨h1, h2⟩ := h
    match i, j with
    | 0, 0 => rfl
    | 0, j + 1 =>
      exfalso
      have hq : q = a := Option.some.inj hi
      have hm : b ∈ l := List.mem_of_getElem? (show l[j]? = some b from hj)
      have h3 := List.all_eq_true.mp h1 b hm
      rw [hq, e] at h3
      simp at h3
    | i + 1, 0 =>
      exfalso
      have hq : q = b := Option.some.inj hj
      have hm : a ∈ l := List.mem_of_getElem? (show l[i]? = some a from hi)
      have h3 := List.all_eq_true.mp h1 a hm
      rw [hq, e] at h3
      simp at h3
    | i + 1, j + 1 => rw [u_nd_at h2 (show l[i]? = some a from hi) (show l[j]? = some b from hj) e]
theorem x_ml_nd : u_nd x_ml = true := by decide +kernel
theorem x_uJ_nd {y : MethodName} {j : Nat} {cc : ByteArray} {nL : Nat} {ret : Option FieldType} (h : xMM j = some (y, cc, nL, ret)) : x_uJ y j := fun j2 _ _ _ h2 => u_nd_at x_ml_nd h2 h rfl
end
section
def tF_RX11 : List (Nat × (String × String)) := [(10, ("LocationDesk", "result")), (16, ("LocationDesk", "tape")), (20, ("LocationDesk", "fetched")), (23, ("LocationDesk", "report")), (28, ("LocationDesk", "variables")), (35, ("LocationDesk", "machine")), (44, ("LocationDesk", "runner")), (51, ("LocationDesk", "meaning")), (58, ("LocationDesk", "parser")), (65, ("LocationDesk", "coder")), (69, ("LocationDesk", "tapeSize")), (77, ("LocationDesk$Machine", "expressions")), (85, ("LocationDesk$Machine", "lists")), (94, ("LocationDesk$Machine", "registers")), (102, ("LocationDesk$Machine", "memory")), (105, ("LocationDesk$Machine", "frameNumber")), (108, ("LocationDesk$Machine", "cfaRegister")), (111, ("LocationDesk$Machine", "cfaOffset")), (115, ("LocationDesk$Machine", "object")), (118, ("LocationDesk$Machine", "hasObject")), (122, ("LocationDesk$Machine", "tls")), (125, ("LocationDesk$Machine", "hasTls")), (143, ("LocationDesk$Run", "outcome")), (150, ("LocationDesk$Run", "place")), (153, ("LocationDesk$Run", "steps")), (156, ("LocationDesk$Run", "most")), (188, ("LocationDesk$Result", "things")), (192, ("LocationDesk$Part", "kind")), (197, ("LocationDesk$Part", "number")), (199, ("LocationDesk$Part", "bits")), (202, ("LocationDesk$Part", "first")), (215, ("LocationDesk", "fetchedSize")), (218, ("LocationDesk$Result", "pieces")), (239, ("LocationDesk$Parser", "fault")), (242, ("LocationDesk$Parser", "place")), (243, ("LocationDesk$Parser", "count")), (245, ("LocationDesk$Parser", "variables")), (250, ("LocationDesk$Variable", "code")), (252, ("LocationDesk$Variable", "place")), (253, ("LocationDesk", "variableCount")), (259, ("LocationDesk$Variable", "rows")), (262, ("LocationDesk$Variable", "name")), (275, ("LocationDesk$Meaning", "outcome"))]
theorem lF_RX11 : u_lF RX11 tF_RX11 = true := by decide +kernel
def tM_RX11 : List (Nat × MethodName) := [(1, { cls := "java/lang/Object", name := "<init>", desc := "()V" }), (9, { cls := "LocationDesk$Result", name := "<init>", desc := "()V" }), (34, { cls := "LocationDesk$Machine", name := "<init>", desc := "()V" }), (41, { cls := "LocationDesk$Run", name := "<init>", desc := "(LLocationDesk$Machine;LLocationDesk$Run;)V" }), (50, { cls := "LocationDesk$Meaning", name := "<init>", desc := "(LLocationDesk$Machine;LLocationDesk$Run;)V" }), (57, { cls := "LocationDesk$Parser", name := "<init>", desc := "()V" }), (64, { cls := "LocationDesk$Coder", name := "<init>", desc := "()V" }), (73, { cls := "LocationDesk", name := "feedFour", desc := "(I)V" }), (81, { cls := "LocationDesk", name := "tapeInto", desc := "([[II)I" }), (88, { cls := "java/util/Arrays", name := "copyOf", desc := "([II)[I" }), (98, { cls := "LocationDesk$Machine", name := "registerValue", desc := "(J)J" }), (128, { cls := "LocationDesk", name := "isFuel", desc := "(I)Z" }), (132, { cls := "LocationDesk", name := "runBytes", desc := "([IIII)I" }), (136, { cls := "LocationDesk", name := "search", desc := "([IJJI)I" }), (140, { cls := "LocationDesk$Run", name := "start", desc := "([IIII)I" }), (146, { cls := "LocationDesk$Result", name := "take", desc := "(LLocationDesk$Result;)V" }), (159, { cls := "LocationDesk", name := "tell", desc := "(IIII)V" }), (163, { cls := "LocationDesk", name := "endless", desc := "(I)I" }), (167, { cls := "LocationDesk", name := "number", desc := "([III)J" }), (173, { cls := "LocationDesk", name := "isBelow", desc := "(JJ)Z" }), (177, { cls := "LocationDesk$Result", name := "clear", desc := "()V" }), (184, { cls := "LocationDesk$Result", name := "count", desc := "()I" }), (207, { cls := "LocationDesk$Part", name := "blockByte", desc := "(J)I" }), (211, { cls := "java/util/Arrays", name := "fill", desc := "([II)V" }), (221, { cls := "LocationDesk$Machine", name := "bitOf", desc := "(LLocationDesk$Part;I)I" }), (225, { cls := "LocationDesk$Machine", name := "putBit", desc := "(LLocationDesk$Part;II)Z" }), (229, { cls := "LocationDesk$Parser", name := "begin", desc := "([II)V" }), (232, { cls := "LocationDesk$Parser", name := "goesOn", desc := "()Z" }), (236, { cls := "LocationDesk$Parser", name := "readDeclaration", desc := "()V" }), (246, { cls := "LocationDesk$Coder", name := "code", desc := "(LLocationDesk$Variable;)[I" }), (256, { cls := "LocationDesk", name := "isVariable", desc := "(I)Z" }), (265, { cls := "LocationDesk", name := "byteAt", desc := "([IJ)I" }), (271, { cls := "LocationDesk$Meaning", name := "say", desc := "(LLocationDesk$Variable;J)I" })]
theorem lM_RX11 : u_lM RX11 tM_RX11 = true := by decide +kernel
def tC_RX11 : List (Nat × Int64) := [(171, -1), (182, -9223372036854775808), (205, 100), (269, 1000)]
theorem lC_RX11 : u_lC RX11 tC_RX11 = true := by decide +kernel
def tF_RX0 : List (Nat × (String × String)) := [(9, ("LocationDesk$Coder", "buffer")), (15, ("LocationDesk$Coder", "size")), (19, ("LocationDesk$Variable", "rows")), (24, ("LocationDesk$Variable", "places")), (32, ("LocationDesk$Variable", "from")), (40, ("LocationDesk$Variable", "to")), (57, ("LocationDesk$Place", "bytes")), (70, ("LocationDesk$Place", "next")), (74, ("LocationDesk$Place", "kind")), (77, ("LocationDesk$Place", "number")), (81, ("LocationDesk$Place", "e")), (89, ("LocationDesk$Place", "block")), (96, ("LocationDesk$Node", "kind")), (99, ("LocationDesk$Node", "number")), (113, ("LocationDesk$Node", "first")), (124, ("LocationDesk$Node", "no")), (127, ("LocationDesk$Node", "yes")), (130, ("LocationDesk$Node", "next")), (139, ("LocationDesk$Node", "sign"))]
theorem lF_RX0 : u_lF RX0 tF_RX0 = true := by decide +kernel
def tM_RX0 : List (Nat × MethodName) := [(3, { cls := "java/lang/Object", name := "<init>", desc := "()V" }), (28, { cls := "LocationDesk$Coder", name := "putLocation", desc := "(LLocationDesk$Place;)Z" }), (36, { cls := "LocationDesk$Coder", name := "putNumber", desc := "(JI)V" }), (43, { cls := "LocationDesk$Coder", name := "patch", desc := "(II)V" }), (47, { cls := "java/util/Arrays", name := "copyOf", desc := "([II)[I" }), (53, { cls := "LocationDesk$Coder", name := "putPlace", desc := "(LLocationDesk$Place;)V" }), (62, { cls := "LocationDesk$Coder", name := "put", desc := "(I)V" }), (66, { cls := "LocationDesk$Coder", name := "putLeb", desc := "(J)V" }), (85, { cls := "LocationDesk$Coder", name := "putNode", desc := "(LLocationDesk$Node;I)V" }), (92, { cls := "LocationDesk$Coder", name := "putBlock", desc := "([I)V" }), (100, { cls := "LocationDesk$Coder", name := "putConstant", desc := "(J)V" }), (103, { cls := "LocationDesk$Coder", name := "putBased", desc := "(LLocationDesk$Node;J)V" }), (107, { cls := "LocationDesk$Coder", name := "putChoice", desc := "(LLocationDesk$Node;I)V" }), (110, { cls := "LocationDesk$Coder", name := "putChain", desc := "(LLocationDesk$Node;I)V" }), (116, { cls := "LocationDesk$Coder", name := "putUnary", desc := "(LLocationDesk$Node;)V" }), (132, { cls := "LocationDesk$Coder", name := "isBased", desc := "(LLocationDesk$Node;)Z" }), (136, { cls := "LocationDesk$Coder", name := "isPlainTerm", desc := "(LLocationDesk$Node;)Z" }), (144, { cls := "LocationDesk$Parser", name := "operationOf", desc := "(I)I" }), (150, { cls := "LocationDesk$Coder", name := "putSignedLeb", desc := "(J)V" })]
theorem lM_RX0 : u_lM RX0 tM_RX0 = true := by decide +kernel
def tC_RX0 : List (Nat × Int64) := [(120, 8), (153, 31), (155, 255), (157, 65535), (159, 4294967295), (161, 127), (163, -64), (165, 63)]
theorem lC_RX0 : u_lC RX0 tC_RX0 = true := by decide +kernel
def tF_RX1 : List (Nat × (String × String)) := [(11, ("LocationDesk$Machine", "registers")), (15, ("LocationDesk$Machine", "memory")), (21, ("LocationDesk$Machine", "expressions")), (24, ("LocationDesk$Machine", "lists")), (27, ("LocationDesk$Machine", "frameNumber")), (31, ("LocationDesk$Machine", "cfaRegister")), (38, ("LocationDesk$Machine", "cfaOffset")), (50, ("LocationDesk$Part", "kind")), (55, ("LocationDesk$Part", "number"))]
theorem lF_RX1 : u_lF RX1 tF_RX1 = true := by decide +kernel
def tM_RX1 : List (Nat × MethodName) := [(3, { cls := "java/lang/Object", name := "<init>", desc := "()V" }), (34, { cls := "LocationDesk$Machine", name := "registerValue", desc := "(J)J" }), (42, { cls := "LocationDesk$Machine", name := "hasBytes", desc := "(JI)Z" }), (46, { cls := "LocationDesk", name := "number", desc := "([III)J" }), (57, { cls := "LocationDesk$Part", name := "blockByte", desc := "(J)I" })]
theorem lM_RX1 : u_lM RX1 tM_RX1 = true := by decide +kernel
def tC_RX1 : List (Nat × Int64) := [(61, -1)]
theorem lC_RX1 : u_lC RX1 tC_RX1 = true := by decide +kernel
def tF_RX2 : List (Nat × (String × String)) := [(12, ("LocationDesk$Meaning", "outcome")), (21, ("LocationDesk$Meaning", "thing")), (25, ("LocationDesk$Meaning", "machine")), (29, ("LocationDesk$Meaning", "runner")), (33, ("LocationDesk$Meaning", "fault")), (48, ("LocationDesk$Place", "bytes")), (65, ("LocationDesk$Place", "next")), (69, ("LocationDesk$Variable", "rows")), (74, ("LocationDesk$Variable", "places")), (78, ("LocationDesk$Variable", "from")), (86, ("LocationDesk$Variable", "to")), (89, ("LocationDesk$Place", "kind")), (92, ("LocationDesk$Place", "number")), (100, ("LocationDesk$Place", "e")), (108, ("LocationDesk$Place", "block")), (116, ("LocationDesk$Node", "kind")), (119, ("LocationDesk$Node", "number")), (132, ("LocationDesk$Run", "basis")), (139, ("LocationDesk$Machine", "cfaRegister")), (146, ("LocationDesk$Machine", "hasObject")), (150, ("LocationDesk$Machine", "object")), (153, ("LocationDesk$Node", "first")), (156, ("LocationDesk$Node", "yes")), (159, ("LocationDesk$Node", "no")), (169, ("LocationDesk$Node", "next")), (171, ("LocationDesk$Node", "sign")), (186, ("LocationDesk$Machine", "hasTls")), (189, ("LocationDesk$Machine", "tls"))]
theorem lF_RX2 : u_lF RX2 tF_RX2 = true := by decide +kernel
def tM_RX2 : List (Nat × MethodName) := [(3, { cls := "java/lang/Object", name := "<init>", desc := "()V" }), (11, { cls := "LocationDesk$Result", name := "<init>", desc := "()V" }), (20, { cls := "LocationDesk$Part", name := "<init>", desc := "()V" }), (37, { cls := "LocationDesk$Result", name := "clear", desc := "()V" }), (40, { cls := "LocationDesk$Meaning", name := "placeFor", desc := "(LLocationDesk$Variable;J)LLocationDesk$Place;" }), (44, { cls := "LocationDesk$Meaning", name := "meet", desc := "(LLocationDesk$Place;)V" }), (53, { cls := "LocationDesk$Result", name := "only", desc := "()LLocationDesk$Part;" }), (57, { cls := "LocationDesk$Part", name := "take", desc := "(LLocationDesk$Part;)V" }), (61, { cls := "LocationDesk$Result", name := "addPiece", desc := "(LLocationDesk$Part;II)V" }), (82, { cls := "LocationDesk", name := "isBelow", desc := "(JJ)Z" }), (96, { cls := "LocationDesk$Part", name := "become", desc := "(IJ)V" }), (104, { cls := "LocationDesk$Meaning", name := "value", desc := "(LLocationDesk$Node;I)J" }), (112, { cls := "LocationDesk$Part", name := "becomeBlock", desc := "([III)V" }), (120, { cls := "LocationDesk$Machine", name := "registerValue", desc := "(J)J" }), (126, { cls := "LocationDesk$Run", name := "base", desc := "(III)I" }), (135, { cls := "LocationDesk$Meaning", name := "fail", desc := "(I)J" }), (142, { cls := "LocationDesk$Machine", name := "cfaValue", desc := "()J" }), (162, { cls := "LocationDesk$Meaning", name := "chainValue", desc := "(LLocationDesk$Node;I)J" }), (165, { cls := "LocationDesk$Meaning", name := "unaryValue", desc := "(LLocationDesk$Node;J)J" }), (174, { cls := "LocationDesk$Parser", name := "operationOf", desc := "(I)I" }), (180, { cls := "LocationDesk$Run", name := "joined", desc := "(IJJ)J" }), (192, { cls := "LocationDesk$Machine", name := "hasBytes", desc := "(JI)Z" }), (196, { cls := "LocationDesk$Machine", name := "bytes", desc := "(JI)J" })]
theorem lM_RX2 : u_lM RX2 tM_RX2 = true := by decide +kernel
def tC_RX2 : List (Nat × Int64) := [(184, -1)]
theorem lC_RX2 : u_lC RX2 tC_RX2 = true := by decide +kernel
def tF_RX3 : List (Nat × (String × String)) := [(7, ("LocationDesk$Node", "kind")), (13, ("LocationDesk$Node", "number"))]
theorem lF_RX3 : u_lF RX3 tF_RX3 = true := by decide +kernel
def tM_RX3 : List (Nat × MethodName) := [(1, { cls := "java/lang/Object", name := "<init>", desc := "()V" })]
theorem lM_RX3 : u_lM RX3 tM_RX3 = true := by decide +kernel
def tF_RX4 : List (Nat × (String × String)) := [(12, ("LocationDesk$Parser", "reader")), (18, ("LocationDesk$Parser", "row")), (24, ("LocationDesk$Parser", "variables")), (32, ("LocationDesk$Parser", "count")), (36, ("LocationDesk$Parser", "open")), (39, ("LocationDesk$Parser", "fault")), (42, ("LocationDesk$Parser", "place")), (45, ("LocationDesk$Parser", "token")), (51, ("LocationDesk$Parser", "kind")), (54, ("LocationDesk$Reader", "count")), (55, ("LocationDesk$Reader", "kinds")), (58, ("LocationDesk$Reader", "numbers")), (62, ("LocationDesk$Parser", "number")), (66, ("LocationDesk$Reader", "places")), (90, ("LocationDesk$Variable", "places")), (97, ("LocationDesk$Variable", "name")), (108, ("LocationDesk$Variable", "rows")), (111, ("LocationDesk$Variable", "from")), (114, ("LocationDesk$Variable", "to")), (132, ("LocationDesk$Place", "next")), (140, ("LocationDesk$Place", "bytes")), (144, ("LocationDesk$Place", "kind")), (149, ("LocationDesk$Place", "number")), (154, ("LocationDesk$Place", "e")), (162, ("LocationDesk$Place", "block")), (186, ("LocationDesk$Node", "first")), (189, ("LocationDesk$Node", "yes")), (192, ("LocationDesk$Node", "no")), (202, ("LocationDesk$Node", "next")), (204, ("LocationDesk$Node", "sign")), (207, ("LocationDesk$Node", "kind")), (208, ("LocationDesk$Node", "number"))]
theorem lF_RX4 : u_lF RX4 tF_RX4 = true := by decide +kernel
def tM_RX4 : List (Nat × MethodName) := [(3, { cls := "java/lang/Object", name := "<init>", desc := "()V" }), (11, { cls := "LocationDesk$Reader", name := "<init>", desc := "()V" }), (28, { cls := "LocationDesk$Reader", name := "readAll", desc := "([II)V" }), (48, { cls := "LocationDesk$Parser", name := "take", desc := "()V" }), (69, { cls := "LocationDesk$Parser", name := "refuse", desc := "(I)V" }), (73, { cls := "LocationDesk$Reader", name := "letters", desc := "(I)[I" }), (77, { cls := "LocationDesk$Parser", name := "isKnown", desc := "([I)Z" }), (81, { cls := "LocationDesk$Variable", name := "<init>", desc := "([II)V" }), (83, { cls := "LocationDesk$Parser", name := "expect", desc := "(I)V" }), (86, { cls := "LocationDesk$Parser", name := "readRows", desc := "(LLocationDesk$Variable;)V" }), (93, { cls := "LocationDesk$Parser", name := "readLocation", desc := "()LLocationDesk$Place;" }), (100, { cls := "LocationDesk$Parser", name := "areSame", desc := "([I[I)Z" }), (104, { cls := "LocationDesk$Parser", name := "readRange", desc := "(LLocationDesk$Variable;I)V" }), (117, { cls := "LocationDesk$Parser", name := "raise", desc := "()Z" }), (121, { cls := "LocationDesk$Parser", name := "readPlace", desc := "()LLocationDesk$Place;" }), (124, { cls := "LocationDesk$Parser", name := "readWidth", desc := "(LLocationDesk$Place;)V" }), (128, { cls := "LocationDesk$Parser", name := "beginsPlace", desc := "(I)Z" }), (143, { cls := "LocationDesk$Place", name := "<init>", desc := "()V" }), (145, { cls := "LocationDesk$Parser", name := "refuseHighRegister", desc := "()J" }), (150, { cls := "LocationDesk$Parser", name := "readChoice", desc := "()LLocationDesk$Node;" }), (158, { cls := "LocationDesk$Parser", name := "readBlock", desc := "()[I" }), (171, { cls := "java/util/Arrays", name := "copyOf", desc := "([II)[I" }), (177, { cls := "LocationDesk$Parser", name := "readLevel", desc := "(I)LLocationDesk$Node;" }), (183, { cls := "LocationDesk$Node", name := "<init>", desc := "(IJ)V" }), (195, { cls := "LocationDesk$Parser", name := "readUnary", desc := "()LLocationDesk$Node;" }), (198, { cls := "LocationDesk$Parser", name := "levelOf", desc := "(I)I" })]
theorem lM_RX4 : u_lM RX4 tM_RX4 = true := by decide +kernel
def tC_RX4 : List (Nat × Int64) := [(138, 64), (167, 32), (169, 255)]
theorem lC_RX4 : u_lC RX4 tC_RX4 = true := by decide +kernel
def tF_RX5 : List (Nat × (String × String)) := [(9, ("LocationDesk$Part", "kind")), (15, ("LocationDesk$Part", "number")), (19, ("LocationDesk$Part", "bits")), (22, ("LocationDesk$Part", "first")), (29, ("LocationDesk$Part", "block")), (33, ("LocationDesk$Part", "blockFrom"))]
theorem lF_RX5 : u_lF RX5 tF_RX5 = true := by decide +kernel
def tM_RX5 : List (Nat × MethodName) := [(3, { cls := "java/lang/Object", name := "<init>", desc := "()V" }), (25, { cls := "LocationDesk$Part", name := "become", desc := "(IJ)V" }), (36, { cls := "LocationDesk", name := "byteAt", desc := "([IJ)I" })]
theorem lM_RX5 : u_lM RX5 tM_RX5 = true := by decide +kernel
def tF_RX6 : List (Nat × (String × String)) := [(9, ("LocationDesk$Place", "bytes"))]
theorem lF_RX6 : u_lF RX6 tF_RX6 = true := by decide +kernel
def tM_RX6 : List (Nat × MethodName) := [(3, { cls := "java/lang/Object", name := "<init>", desc := "()V" })]
theorem lM_RX6 : u_lM RX6 tM_RX6 = true := by decide +kernel
def tF_RX7 : List (Nat × (String × String)) := [(9, ("LocationDesk$Reader", "kinds")), (15, ("LocationDesk$Reader", "numbers")), (19, ("LocationDesk$Reader", "places")), (22, ("LocationDesk$Reader", "ends")), (25, ("LocationDesk$Reader", "text")), (34, ("LocationDesk$Reader", "size")), (38, ("LocationDesk$Reader", "behind")), (41, ("LocationDesk$Reader", "count")), (44, ("LocationDesk$Reader", "kind")), (50, ("LocationDesk$Reader", "number")), (54, ("LocationDesk$Reader", "place"))]
theorem lF_RX7 : u_lF RX7 tF_RX7 = true := by decide +kernel
def tM_RX7 : List (Nat × MethodName) := [(3, { cls := "java/lang/Object", name := "<init>", desc := "()V" }), (28, { cls := "java/lang/Math", name := "min", desc := "(II)I" }), (47, { cls := "LocationDesk$Reader", name := "readToken", desc := "()V" }), (57, { cls := "LocationDesk$Reader", name := "letter", desc := "(I)I" }), (61, { cls := "LocationDesk$Reader", name := "isSmall", desc := "(I)Z" }), (65, { cls := "LocationDesk$Reader", name := "readWord", desc := "()V" }), (68, { cls := "LocationDesk$Reader", name := "isDigit", desc := "(I)Z" }), (71, { cls := "LocationDesk$Reader", name := "readNumber", desc := "()V" }), (74, { cls := "LocationDesk$Reader", name := "readAt", desc := "()V" }), (77, { cls := "LocationDesk$Reader", name := "readSign", desc := "(I)V" }), (81, { cls := "LocationDesk$Reader", name := "wordKind", desc := "()I" }), (87, { cls := "LocationDesk$Reader", name := "isWord", desc := "(Ljava/lang/String;)Z" }), (109, { cls := "java/lang/String", name := "length", desc := "()I" }), (114, { cls := "java/lang/String", name := "charAt", desc := "(I)C" }), (120, { cls := "LocationDesk$Reader", name := "signOfTwo", desc := "(II)I" }), (125, { cls := "java/lang/String", name := "indexOf", desc := "(I)I" }), (128, { cls := "java/util/Arrays", name := "copyOfRange", desc := "([III)[I" })]
theorem lM_RX7 : u_lM RX7 tM_RX7 = true := by decide +kernel
def tC_RX7 : List (Nat × Int64) := [(118, 10)]
theorem lC_RX7 : u_lC RX7 tC_RX7 = true := by decide +kernel
def tF_RX8 : List (Nat × (String × String)) := [(13, ("LocationDesk$Result", "things")), (18, ("LocationDesk$Result", "pieces")), (22, ("LocationDesk$Result", "bits")), (41, ("LocationDesk$Part", "bits")), (42, ("LocationDesk$Part", "first"))]
theorem lF_RX8 : u_lF RX8 tF_RX8 = true := by decide +kernel
def tM_RX8 : List (Nat × MethodName) := [(3, { cls := "java/lang/Object", name := "<init>", desc := "()V" }), (17, { cls := "LocationDesk$Part", name := "<init>", desc := "()V" }), (25, { cls := "LocationDesk$Result", name := "only", desc := "()LLocationDesk$Part;" }), (29, { cls := "LocationDesk$Part", name := "become", desc := "(IJ)V" }), (33, { cls := "LocationDesk$Result", name := "count", desc := "()I" }), (37, { cls := "LocationDesk$Part", name := "take", desc := "(LLocationDesk$Part;)V" })]
theorem lM_RX8 : u_lM RX8 tM_RX8 = true := by decide +kernel
def tF_RX9 : List (Nat × (String × String)) := [(11, ("LocationDesk$Run", "stack")), (18, ("LocationDesk$Run", "hold")), (25, ("LocationDesk$Run", "outcome")), (29, ("LocationDesk$Run", "machine")), (33, ("LocationDesk$Run", "inner")), (49, ("LocationDesk$Run", "place")), (53, ("LocationDesk$Run", "fuel")), (56, ("LocationDesk$Run", "steps")), (59, ("LocationDesk$Run", "most")), (62, ("LocationDesk$Run", "size")), (75, ("LocationDesk$Run", "target")), (78, ("LocationDesk$Run", "cursor")), (96, ("LocationDesk$Run", "operand")), (115, ("LocationDesk$Run", "leb")), (118, ("LocationDesk$Run", "second")), (127, ("LocationDesk$Part", "kind")), (146, ("LocationDesk$Result", "pieces")), (151, ("LocationDesk$Result", "bits")), (154, ("LocationDesk$Machine", "expressions")), (212, ("LocationDesk$Run", "basis")), (215, ("LocationDesk$Machine", "hasObject")), (219, ("LocationDesk$Machine", "object")), (222, ("LocationDesk$Machine", "hasTls")), (225, ("LocationDesk$Machine", "tls")), (228, ("LocationDesk$Machine", "cfaRegister")), (252, ("LocationDesk$Machine", "frameNumber")), (259, ("LocationDesk$Part", "number"))]
theorem lF_RX9 : u_lF RX9 tF_RX9 = true := by decide +kernel
def tM_RX9 : List (Nat × MethodName) := [(3, { cls := "java/lang/Object", name := "<init>", desc := "()V" }), (17, { cls := "LocationDesk$Part", name := "<init>", desc := "()V" }), (24, { cls := "LocationDesk$Result", name := "<init>", desc := "()V" }), (37, { cls := "LocationDesk$Run", name := "reset", desc := "(II)V" }), (41, { cls := "LocationDesk$Run", name := "perform", desc := "([IIII)I" }), (45, { cls := "LocationDesk$Run", name := "settle", desc := "()I" }), (65, { cls := "LocationDesk$Part", name := "become", desc := "(IJ)V" }), (69, { cls := "LocationDesk$Result", name := "clear", desc := "()V" }), (72, { cls := "LocationDesk$Run", name := "step", desc := "([IIII)I" }), (81, { cls := "LocationDesk$Run", name := "shape", desc := "(I)I" }), (85, { cls := "LocationDesk$Run", name := "readOperands", desc := "([III)I" }), (89, { cls := "LocationDesk$Run", name := "check", desc := "(I)I" }), (92, { cls := "LocationDesk$Run", name := "pop", desc := "()J" }), (100, { cls := "LocationDesk$Run", name := "call", desc := "(JI)I" }), (104, { cls := "LocationDesk$Run", name := "operate", desc := "(I[II)I" }), (108, { cls := "LocationDesk$Run", name := "readNumber", desc := "([III)I" }), (111, { cls := "LocationDesk$Run", name := "readLeb", desc := "([IIZ)I" }), (121, { cls := "LocationDesk", name := "number", desc := "([III)J" }), (130, { cls := "LocationDesk$Run", name := "goesWithHold", desc := "(I)Z" }), (140, { cls := "LocationDesk$Run", name := "isTooMuch", desc := "(I)Z" }), (143, { cls := "LocationDesk$Run", name := "wanted", desc := "(I)I" }), (158, { cls := "LocationDesk$Run", name := "push", desc := "(J)I" }), (162, { cls := "LocationDesk$Machine", name := "registerValue", desc := "(J)J" }), (166, { cls := "LocationDesk$Run", name := "shuffle", desc := "(I)I" }), (169, { cls := "LocationDesk$Run", name := "changed", desc := "(IJ)J" }), (173, { cls := "LocationDesk$Run", name := "joined", desc := "(IJJ)J" }), (177, { cls := "LocationDesk$Run", name := "addPiece", desc := "(II)I" }), (181, { cls := "LocationDesk$Run", name := "keep", desc := "(I[I)I" }), (185, { cls := "LocationDesk$Run", name := "ask", desc := "(II)I" }), (188, { cls := "java/lang/Math", name := "max", desc := "(II)I" }), (193, { cls := "LocationDesk$Machine", name := "hasBytes", desc := "(JI)Z" }), (197, { cls := "LocationDesk$Machine", name := "bytes", desc := "(JI)J" }), (201, { cls := "LocationDesk$Run", name := "below", desc := "(I)J" }), (205, { cls := "LocationDesk$Run", name := "pushBytes", desc := "(JI)I" }), (208, { cls := "LocationDesk$Run", name := "base", desc := "(III)I" }), (231, { cls := "LocationDesk$Machine", name := "cfaValue", desc := "()J" }), (234, { cls := "LocationDesk$Part", name := "becomeBlock", desc := "([III)V" }), (238, { cls := "LocationDesk$Run", name := "holdTop", desc := "()V" }), (241, { cls := "LocationDesk$Result", name := "addPiece", desc := "(LLocationDesk$Part;II)V" }), (244, { cls := "LocationDesk$Result", name := "only", desc := "()LLocationDesk$Part;" }), (248, { cls := "LocationDesk$Part", name := "take", desc := "(LLocationDesk$Part;)V" }), (255, { cls := "LocationDesk$Run", name := "takeBase", desc := "(LLocationDesk$Result;)I" }), (261, { cls := "LocationDesk$Run", name := "restWithoutSign", desc := "(JJ)J" }), (265, { cls := "LocationDesk$Run", name := "shifted", desc := "(IJJ)J" }), (268, { cls := "LocationDesk$Run", name := "compared", desc := "(IJJ)Z" }), (274, { cls := "LocationDesk", name := "isBelow", desc := "(JJ)Z" })]
theorem lM_RX9 : u_lM RX9 tM_RX9 = true := by decide +kernel
def tC_RX9 : List (Nat × Int64) := [(125, -1), (136, 32), (138, 8), (149, 4096), (272, 63)]
theorem lC_RX9 : u_lC RX9 tC_RX9 = true := by decide +kernel
def tF_RX10 : List (Nat × (String × String)) := [(9, ("LocationDesk$Variable", "from")), (13, ("LocationDesk$Variable", "to")), (18, ("LocationDesk$Variable", "places")), (22, ("LocationDesk$Variable", "code")), (26, ("LocationDesk$Variable", "name")), (29, ("LocationDesk$Variable", "place"))]
theorem lF_RX10 : u_lF RX10 tF_RX10 = true := by decide +kernel
def tM_RX10 : List (Nat × MethodName) := [(1, { cls := "java/lang/Object", name := "<init>", desc := "()V" })]
theorem lM_RX10 : u_lM RX10 tM_RX10 = true := by decide +kernel
def tM_RL : List (Nat × MethodName) := [(9, { cls := "LocationDesk", name := "<init>", desc := "()V" }), (12, { cls := "LocationDeskModel", name := "<init>", desc := "()V" }), (13, { cls := "LocationDesk", name := "feed", desc := "(IIIII)I" }), (17, { cls := "LocationDeskModel", name := "feed", desc := "(IIIII)I" }), (18, { cls := "LocationDesk", name := "end", desc := "(I)I" }), (22, { cls := "LocationDeskModel", name := "end", desc := "(I)I" }), (23, { cls := "LocationDesk", name := "expression", desc := "(I)I" }), (26, { cls := "LocationDeskModel", name := "expression", desc := "(I)I" }), (27, { cls := "LocationDesk", name := "list", desc := "(I)I" }), (30, { cls := "LocationDeskModel", name := "list", desc := "(I)I" }), (33, { cls := "LocationDesk", name := "load", desc := "(IJ)Z" }), (37, { cls := "LocationDeskModel", name := "load", desc := "(IJ)Z" }), (38, { cls := "LocationDesk", name := "register", desc := "(I)J" }), (42, { cls := "LocationDeskModel", name := "register", desc := "(I)J" }), (43, { cls := "LocationDesk", name := "poke", desc := "(II)Z" }), (47, { cls := "LocationDeskModel", name := "poke", desc := "(II)Z" }), (48, { cls := "LocationDesk", name := "peek", desc := "(I)I" }), (51, { cls := "LocationDeskModel", name := "peek", desc := "(I)I" }), (52, { cls := "LocationDesk", name := "frame", desc := "(I)Z" }), (56, { cls := "LocationDeskModel", name := "frame", desc := "(I)Z" }), (57, { cls := "LocationDesk", name := "cfa", desc := "(IJ)Z" }), (60, { cls := "LocationDeskModel", name := "cfa", desc := "(IJ)Z" }), (61, { cls := "LocationDesk", name := "set", desc := "(IJZ)Z" }), (65, { cls := "LocationDeskModel", name := "set", desc := "(IJZ)Z" }), (66, { cls := "LocationDesk", name := "run", desc := "(II)I" }), (70, { cls := "LocationDeskModel", name := "run", desc := "(II)I" }), (71, { cls := "LocationDesk", name := "find", desc := "(IJJI)I" }), (75, { cls := "LocationDeskModel", name := "find", desc := "(IJJI)I" }), (76, { cls := "LocationDesk", name := "told", desc := "(I)I" }), (79, { cls := "LocationDeskModel", name := "told", desc := "(I)I" }), (80, { cls := "LocationDesk", name := "parts", desc := "()I" }), (84, { cls := "LocationDeskModel", name := "parts", desc := "()I" }), (85, { cls := "LocationDesk", name := "part", desc := "(II)J" }), (89, { cls := "LocationDeskModel", name := "part", desc := "(II)J" }), (90, { cls := "LocationDesk", name := "fetch", desc := "(I)I" }), (93, { cls := "LocationDeskModel", name := "fetch", desc := "(I)I" }), (94, { cls := "LocationDesk", name := "store", desc := "(I)I" }), (97, { cls := "LocationDeskModel", name := "store", desc := "(I)I" }), (98, { cls := "LocationDesk", name := "out", desc := "(I)I" }), (101, { cls := "LocationDeskModel", name := "out", desc := "(I)I" }), (102, { cls := "LocationDesk", name := "compile", desc := "()I" }), (105, { cls := "LocationDeskModel", name := "compile", desc := "()I" }), (106, { cls := "LocationDesk", name := "variable", desc := "(II)I" }), (109, { cls := "LocationDeskModel", name := "variable", desc := "(II)I" }), (110, { cls := "LocationDesk", name := "where", desc := "(IJI)I" }), (114, { cls := "LocationDeskModel", name := "where", desc := "(IJI)I" }), (115, { cls := "LocationDesk", name := "means", desc := "(IJ)I" }), (119, { cls := "LocationDeskModel", name := "means", desc := "(IJ)I" })]
theorem lM_RL : u_lM RL tM_RL = true := by decide +kernel
def tC_RL : List (Nat × Int64) := [(31, 4294967295)]
theorem lC_RL : u_lC RL tC_RL = true := by decide +kernel
def tF_RX12 : List (Nat × (String × String)) := [(7, ("LocationDeskModel", "registers")), (13, ("LocationDeskModel", "memory")), (17, ("LocationDeskModel", "pool")), (20, ("LocationDeskModel", "size")), (23, ("LocationDeskModel", "frame")), (27, ("LocationDeskModel", "cfaRegister")), (30, ("LocationDeskModel", "tape")), (33, ("LocationDeskModel", "stack")), (36, ("LocationDeskModel", "top")), (39, ("LocationDeskModel", "pieces")), (42, ("LocationDeskModel", "pieceKind")), (45, ("LocationDeskModel", "pieceValue")), (48, ("LocationDeskModel", "pieceBits")), (51, ("LocationDeskModel", "pieceFirst")), (54, ("LocationDeskModel", "pieceSize")), (57, ("LocationDeskModel", "bitsOf")), (60, ("LocationDeskModel", "holdKind")), (63, ("LocationDeskModel", "holdValue")), (66, ("LocationDeskModel", "holdSize")), (69, ("LocationDeskModel", "back")), (72, ("LocationDeskModel", "backBegin")), (75, ("LocationDeskModel", "backEnd")), (78, ("LocationDeskModel", "depths")), (81, ("LocationDeskModel", "parts")), (84, ("LocationDeskModel", "partKind")), (87, ("LocationDeskModel", "partValue")), (90, ("LocationDeskModel", "partBits")), (93, ("LocationDeskModel", "partFirst")), (96, ("LocationDeskModel", "partBytes")), (99, ("LocationDeskModel", "placeTold")), (102, ("LocationDeskModel", "out")), (105, ("LocationDeskModel", "kind")), (108, ("LocationDeskModel", "worth")), (111, ("LocationDeskModel", "where")), (114, ("LocationDeskModel", "keptKind")), (117, ("LocationDeskModel", "keptWorth")), (120, ("LocationDeskModel", "bytes")), (123, ("LocationDeskModel", "names")), (126, ("LocationDeskModel", "rows")), (129, ("LocationDeskModel", "starts")), (132, ("LocationDeskModel", "madeName")), (135, ("LocationDeskModel", "madeRows")), (138, ("LocationDeskModel", "madeStart")), (141, ("LocationDeskModel", "madeBegin")), (144, ("LocationDeskModel", "madeAt")), (147, ("LocationDeskModel", "isLong")), (151, ("LocationDeskModel", "turned")), (154, ("LocationDeskModel", "waits")), (157, ("LocationDeskModel", "binds")), (160, ("LocationDeskModel", "placed")), (163, ("LocationDeskModel", "midst")), (166, ("LocationDeskModel", "meantKind")), (169, ("LocationDeskModel", "meantValue")), (172, ("LocationDeskModel", "meantBits")), (175, ("LocationDeskModel", "meantBytes")), (178, ("LocationDeskModel", "values")), (181, ("LocationDeskModel", "wasLive")), (184, ("LocationDeskModel", "isSo")), (187, ("LocationDeskModel", "told")), (190, ("LocationDeskModel", "taped")), (201, ("LocationDeskModel", "cfaMore")), (205, ("LocationDeskModel", "object")), (208, ("LocationDeskModel", "hasObject")), (212, ("LocationDeskModel", "tls")), (215, ("LocationDeskModel", "hasTls")), (220, ("LocationDeskModel", "decodes")), (223, ("LocationDeskModel", "next")), (228, ("LocationDeskModel", "one")), (231, ("LocationDeskModel", "two")), (252, ("LocationDeskModel", "base")), (255, ("LocationDeskModel", "faultPlace")), (258, ("LocationDeskModel", "most")), (264, ("LocationDeskModel", "open")), (267, ("LocationDeskModel", "outer")), (277, ("LocationDeskModel", "laterAt")), (280, ("LocationDeskModel", "laterFrom")), (283, ("LocationDeskModel", "laterTo")), (286, ("LocationDeskModel", "laterOuter")), (289, ("LocationDeskModel", "laterMore")), (296, ("LocationDeskModel", "fuel")), (299, ("LocationDeskModel", "steps")), (354, ("LocationDeskModel", "isPieces")), (361, ("LocationDeskModel", "hasTold")), (364, ("LocationDeskModel", "faultTold")), (367, ("LocationDeskModel", "stepsTold")), (370, ("LocationDeskModel", "mostTold")), (402, ("LocationDeskModel", "bitPart")), (405, ("LocationDeskModel", "bitAt")), (410, ("LocationDeskModel", "outs")), (446, ("LocationDeskModel", "tokens")), (475, ("LocationDeskModel", "fault")), (478, ("LocationDeskModel", "ti")), (481, ("LocationDeskModel", "faultAt")), (490, ("LocationDeskModel", "opened")), (493, ("LocationDeskModel", "many")), (515, ("LocationDeskModel", "made")), (524, ("LocationDeskModel", "variables")), (556, ("LocationDeskModel", "waiting")), (577, ("LocationDeskModel", "isClosed")), (653, ("LocationDeskModel", "wrong")), (656, ("LocationDeskModel", "mi")), (659, ("LocationDeskModel", "meant")), (662, ("LocationDeskModel", "meantPieces")), (680, ("LocationDeskModel", "live")), (683, ("LocationDeskModel", "valued"))]
theorem lF_RX12 : u_lF RX12 tF_RX12 = true := by decide +kernel
def tM_RX12 : List (Nat × MethodName) := [(1, { cls := "java/lang/Object", name := "<init>", desc := "()V" }), (193, { cls := "LocationDeskModel", name := "puts", desc := "(I)V" }), (197, { cls := "LocationDeskModel", name := "keep", desc := "(II)I" }), (234, { cls := "LocationDeskModel", name := "fixed", desc := "(IZI)J" }), (238, { cls := "LocationDeskModel", name := "leb", desc := "(ZI)J" }), (242, { cls := "LocationDeskModel", name := "isBelow", desc := "(JJ)Z" }), (246, { cls := "LocationDeskModel", name := "rest", desc := "(JJ)J" }), (261, { cls := "LocationDeskModel", name := "clears", desc := "(I)V" }), (270, { cls := "LocationDeskModel", name := "fails", desc := "(II)I" }), (273, { cls := "LocationDeskModel", name := "isBase", desc := "()Z" }), (292, { cls := "LocationDeskModel", name := "pushed", desc := "(IJ)V" }), (302, { cls := "LocationDeskModel", name := "isKnown", desc := "(I)Z" }), (306, { cls := "LocationDeskModel", name := "operands", desc := "(II)V" }), (312, { cls := "LocationDeskModel", name := "isAbove", desc := "(JJ)Z" }), (317, { cls := "LocationDeskModel", name := "isPiece", desc := "(IZJJ)Z" }), (321, { cls := "LocationDeskModel", name := "wants", desc := "(I)I" }), (327, { cls := "LocationDeskModel", name := "isThere", desc := "(JJ)Z" }), (330, { cls := "LocationDeskModel", name := "pushes", desc := "(I)Z" }), (333, { cls := "LocationDeskModel", name := "pushes", desc := "(IJJJJI)J" }), (336, { cls := "LocationDeskModel", name := "acts", desc := "(IIJJ)V" }), (342, { cls := "LocationDeskModel", name := "read", desc := "(JI)J" }), (346, { cls := "LocationDeskModel", name := "worked", desc := "(IJJ)J" }), (350, { cls := "LocationDeskModel", name := "hold", desc := "(IIJI)V" }), (357, { cls := "LocationDeskModel", name := "part", desc := "(IIJIII)V" }), (373, { cls := "LocationDeskModel", name := "begins", desc := "(I)V" }), (376, { cls := "LocationDeskModel", name := "exec", desc := "(III)I" }), (380, { cls := "LocationDeskModel", name := "tells", desc := "(II)I" }), (383, { cls := "LocationDeskModel", name := "empty", desc := "()V" }), (386, { cls := "LocationDeskModel", name := "isFuel", desc := "(I)Z" }), (389, { cls := "LocationDeskModel", name := "runs", desc := "(III)I" }), (394, { cls := "LocationDeskModel", name := "number", desc := "(II)J" }), (398, { cls := "LocationDeskModel", name := "finds", desc := "(IIJJI)I" }), (413, { cls := "LocationDeskModel", name := "goes", desc := "()Z" }), (416, { cls := "LocationDeskModel", name := "bit", desc := "(IJ)I" }), (420, { cls := "LocationDeskModel", name := "puts", desc := "(IJI)Z" }), (423, { cls := "LocationDeskModel", name := "isSmall", desc := "(I)Z" }), (449, { cls := "LocationDeskModel", name := "sign", desc := "(I)I" }), (452, { cls := "LocationDeskModel", name := "isDigit", desc := "(I)Z" }), (457, { cls := "LocationDeskModel", name := "token", desc := "(IJI)V" }), (461, { cls := "LocationDeskModel", name := "word", desc := "(J)I" }), (469, { cls := "LocationDeskModel", name := "isLetter", desc := "(I)Z" }), (472, { cls := "LocationDeskModel", name := "signs", desc := "(II)I" }), (484, { cls := "LocationDeskModel", name := "isSign", desc := "(I)Z" }), (487, { cls := "LocationDeskModel", name := "fail", desc := "(I)V" }), (496, { cls := "LocationDeskModel", name := "emit", desc := "(I)V" }), (505, { cls := "LocationDeskModel", name := "emits", desc := "(JI)V" }), (513, { cls := "LocationDeskModel", name := "tokens", desc := "()V" }), (518, { cls := "LocationDeskModel", name := "declared", desc := "()V" }), (521, { cls := "LocationDeskModel", name := "faulty", desc := "(II)I" }), (527, { cls := "LocationDeskModel", name := "need", desc := "(I)V" }), (530, { cls := "LocationDeskModel", name := "rows", desc := "()V" }), (532, { cls := "LocationDeskModel", name := "location", desc := "()V" }), (535, { cls := "LocationDeskModel", name := "isWord", desc := "(I)Z" }), (538, { cls := "LocationDeskModel", name := "opens", desc := "()V" }), (541, { cls := "LocationDeskModel", name := "isPlace", desc := "()Z" }), (544, { cls := "LocationDeskModel", name := "place", desc := "()V" }), (549, { cls := "LocationDeskModel", name := "unsigned", desc := "(J)V" }), (553, { cls := "LocationDeskModel", name := "chosen", desc := "()V" }), (559, { cls := "LocationDeskModel", name := "tops", desc := "()I" }), (563, { cls := "LocationDeskModel", name := "emitted", desc := "(I)V" }), (566, { cls := "LocationDeskModel", name := "reduced", desc := "(I)V" }), (569, { cls := "LocationDeskModel", name := "turned", desc := "()V" }), (571, { cls := "LocationDeskModel", name := "operand", desc := "()Z" }), (574, { cls := "LocationDeskModel", name := "operator", desc := "()Z" }), (580, { cls := "LocationDeskModel", name := "later", desc := "(II)V" }), (583, { cls := "LocationDeskModel", name := "push", desc := "(J)V" }), (586, { cls := "LocationDeskModel", name := "registered", desc := "()V" }), (589, { cls := "LocationDeskModel", name := "combined", desc := "(I)J" }), (593, { cls := "LocationDeskModel", name := "signed", desc := "(J)V" }), (596, { cls := "LocationDeskModel", name := "finished", desc := "()V" }), (599, { cls := "LocationDeskModel", name := "adds", desc := "(I)Z" }), (602, { cls := "LocationDeskModel", name := "isAlone", desc := "(I)Z" }), (607, { cls := "LocationDeskModel", name := "multiplies", desc := "(IJ)I" }), (610, { cls := "LocationDeskModel", name := "binary", desc := "(II)Z" }), (614, { cls := "LocationDeskModel", name := "added", desc := "()Z" }), (617, { cls := "LocationDeskModel", name := "shifts", desc := "(IJ)I" }), (620, { cls := "LocationDeskModel", name := "compares", desc := "(IJ)I" }), (623, { cls := "LocationDeskModel", name := "ended", desc := "()Z" }), (626, { cls := "LocationDeskModel", name := "reducedAll", desc := "()V" }), (665, { cls := "LocationDeskModel", name := "meantLocation", desc := "(Z)V" }), (669, { cls := "LocationDeskModel", name := "keepsSign", desc := "(I)Z" }), (672, { cls := "LocationDeskModel", name := "meantPlace", desc := "(ZI)V" }), (676, { cls := "LocationDeskModel", name := "choice", desc := "(Z)J" }), (686, { cls := "LocationDeskModel", name := "meansOperand", desc := "()Z" }), (689, { cls := "LocationDeskModel", name := "meansOperator", desc := "()Z" }), (694, { cls := "LocationDeskModel", name := "keepsWord", desc := "(I)Z" }), (699, { cls := "LocationDeskModel", name := "value", desc := "(J)V" }), (704, { cls := "LocationDeskModel", name := "does", desc := "()Z" }), (709, { cls := "LocationDeskModel", name := "bases", desc := "()V" }), (712, { cls := "LocationDeskModel", name := "meansFinished", desc := "()V" }), (715, { cls := "LocationDeskModel", name := "meansReduced", desc := "(I)V" }), (718, { cls := "LocationDeskModel", name := "meansBinary", desc := "(II)Z" }), (721, { cls := "LocationDeskModel", name := "meansReducedAll", desc := "()V" })]
theorem lM_RX12 : u_lM RX12 tM_RX12 = true := by decide +kernel
def tC_RX12 : List (Nat × Int64) := [(218, 4096), (226, -1), (250, 63), (310, 31), (315, 8), (325, 15), (340, 512), (392, -9223372036854775808), (408, 4095), (426, 24834), (428, 41299405), (430, 5042231), (432, 730200), (434, 224), (436, 4330), (438, 20619), (440, 27843), (442, 5831), (444, 18356), (455, 37), (465, 10), (467, 48), (499, 127), (501, -64), (503, 255), (509, 65535), (511, 4294967295), (547, 64), (605, 43), (629, 257), (631, 258), (633, 60), (635, 259), (637, 62), (639, 260), (641, 261), (643, 262), (645, 263), (647, 42), (649, 9), (651, 45), (692, 126), (697, 40), (702, 5), (707, 6)]
theorem lC_RX12 : u_lC RX12 tC_RX12 = true := by decide +kernel
def tF_RJ0 : List (Nat × (String × String)) := [(9, ("java/lang/String", "value")), (15, ("java/lang/String", "coder")), (38, ("java/lang/String", "COMPACT_STRINGS")), (1053, ("jdk/internal/util/Preconditions", "SIOOBE_FORMATTER"))]
theorem lF_RJ0 : u_lF RJ0 tF_RJ0 = true := by decide +kernel
def tM_RJ0 : List (Nat × MethodName) := [(335, { cls := "java/lang/String", name := "coder", desc := "()B" }), (492, { cls := "java/lang/String", name := "isLatin1", desc := "()Z" }), (495, { cls := "java/lang/StringLatin1", name := "charAt", desc := "([BI)C" }), (498, { cls := "java/lang/StringUTF16", name := "charAt", desc := "([BI)C" }), (505, { cls := "java/lang/String", name := "length", desc := "()I" }), (633, { cls := "java/lang/String", name := "indexOf", desc := "(II)I" }), (637, { cls := "java/lang/StringLatin1", name := "indexOf", desc := "([BIII)I" }), (640, { cls := "java/lang/StringUTF16", name := "indexOf", desc := "([BIII)I" }), (1059, { cls := "jdk/internal/util/Preconditions", name := "checkIndex", desc := "(IILjava/util/function/BiFunction;)I" }), (1062, { cls := "jdk/internal/util/Preconditions", name := "checkFromToIndex", desc := "(IIILjava/util/function/BiFunction;)I" })]
theorem lM_RJ0 : u_lM RJ0 tM_RJ0 = true := by decide +kernel
def tM_RJ1 : List (Nat × MethodName) := [(9, { cls := "java/lang/String", name := "checkIndex", desc := "(II)V" }), (38, { cls := "java/lang/Math", name := "min", desc := "(II)I" }), (88, { cls := "java/lang/StringLatin1", name := "canEncode", desc := "(I)Z" }), (92, { cls := "java/lang/Math", name := "max", desc := "(II)I" }), (95, { cls := "java/lang/StringLatin1", name := "indexOfChar", desc := "([BIII)I" })]
theorem lM_RJ1 : u_lM RJ1 tM_RJ1 = true := by decide +kernel
def tF_RJ2 : List (Nat × (String × String)) := [(44, ("java/lang/StringUTF16", "$assertionsDisabled")), (59, ("java/lang/StringUTF16", "HI_BYTE_SHIFT")), (63, ("java/lang/StringUTF16", "LO_BYTE_SHIFT"))]
theorem lF_RJ2 : u_lF RJ2 tF_RJ2 = true := by decide +kernel
def tM_RJ2 : List (Nat × MethodName) := [(48, { cls := "java/lang/StringUTF16", name := "length", desc := "([B)I" }), (67, { cls := "java/lang/StringUTF16", name := "checkIndex", desc := "(I[B)V" }), (71, { cls := "java/lang/StringUTF16", name := "getChar", desc := "([BI)C" }), (96, { cls := "java/lang/StringUTF16", name := "checkBoundsBeginEnd", desc := "(II[B)V" }), (157, { cls := "java/lang/Character", name := "highSurrogate", desc := "(I)C" }), (161, { cls := "java/lang/Character", name := "lowSurrogate", desc := "(I)C" }), (164, { cls := "java/lang/Character", name := "isValidCodePoint", desc := "(I)Z" }), (183, { cls := "java/lang/Math", name := "min", desc := "(II)I" }), (224, { cls := "java/lang/Math", name := "max", desc := "(II)I" }), (228, { cls := "java/lang/StringUTF16", name := "indexOfChar", desc := "([BIII)I" }), (232, { cls := "java/lang/StringUTF16", name := "indexOfSupplementary", desc := "([BIII)I" }), (241, { cls := "java/lang/String", name := "checkBoundsBeginEnd", desc := "(III)V" }), (244, { cls := "java/lang/StringUTF16", name := "indexOfCharUnsafe", desc := "([BIII)I" }), (414, { cls := "java/lang/String", name := "checkIndex", desc := "(II)V" })]
theorem lM_RJ2 : u_lM RJ2 tM_RJ2 = true := by decide +kernel
def tM_RJ7 : List (Nat × MethodName) := [(150, { cls := "java/lang/System", name := "arraycopy", desc := "(Ljava/lang/Object;ILjava/lang/Object;II)V" }), (304, { cls := "java/lang/Math", name := "min", desc := "(II)I" }), (316, { cls := "[I", name := "clone", desc := "()Ljava/lang/Object;" }), (343, { cls := "java/util/Arrays", name := "checkLength", desc := "(II)V" }), (351, { cls := "java/util/Arrays", name := "copyOfRangeInt", desc := "([III)[I" })]
theorem lM_RJ7 : u_lM RJ7 tM_RJ7 = true := by decide +kernel
end
section
/-! FRAMES of the reference's methods: which fields (L) and arrays (A) of ints, of longs (L2, A2) a run may have changed; a fault (field 69 of cell 121) that stands is not taken back. -/
abbrev k_M : Type := List (Nat × Nat) × List Nat × List (Nat × Nat) × List Nat
def k_in (L : List (Nat × Nat)) (A : List Nat) (c k : Nat) : Bool := L.contains (c, k) || A.contains c
def k_sub (m m2 : k_M) : Bool := m.1.all (fun e => m2.1.contains e) && m.2.1.all (fun e => m2.2.1.contains e) && m.2.2.1.all (fun e => m2.2.2.1.contains e) && m.2.2.2.all (fun e => m2.2.2.2.contains e)
theorem k_in_sub {L L2 : List (Nat × Nat)} {A A2 : List Nat} {c k : Nat} (h1 : L.all (fun e => L2.contains e) = true) (h2 : A.all (fun e => A2.contains e) = true) (h : k_in L2 A2 c k = false) : k_in L A c k = false := by
  unfold k_in at *
  rw [Bool.or_eq_false_iff] at *
  refine ⟨?_, ?_⟩
  · cases e : L.contains (c, k) with
    | false => rfl
    | true =>
      exfalso
      have h3 := List.all_eq_true.mp h1 _ (List.contains_iff_mem.mp e)
      rw [h3] at h
      exact absurd h.1 (by decide)
  · cases e : A.contains c with
    | false => rfl
    | true =>
      exfalso
      have h3 := List.all_eq_true.mp h2 _ (List.contains_iff_mem.mp e)
      rw [h3] at h
      exact absurd h.2 (by decide)
def kq (m : k_M) (a b : hS) : Prop := b.1 = a.1 ∧ b.2.1 = a.2.1 ∧ b.2.2.1 = a.2.2.1 ∧ b.2.2.2.2.2 = a.2.2.2.2.2 ∧ (∀ c k, k_in m.1 m.2.1 c k = false → b.2.2.2.1 c k = a.2.2.2.1 c k) ∧ (∀ c k, k_in m.2.2.1 m.2.2.2 c k = false → b.2.2.2.2.1 c k = a.2.2.2.2.1 c k) ∧ ((a.2.2.2.1 121 69).toInt ≠ 0 → (b.2.2.2.1 121 69).toInt ≠ 0)
theorem kq_rf {m : k_M} {a : hS} : kq m a a := ⟨rfl, rfl, rfl, rfl, fun _ _ _ => rfl, fun _ _ _ => rfl, fun h => h⟩
theorem kq_tr {m : k_M} {a b c : hS} (h : kq m a b) (h2 : kq m b c) : kq m a c :=
  ⟨h2.1.trans h.1, h2.2.1.trans h.2.1, h2.2.2.1.trans h.2.2.1, h2.2.2.2.1.trans h.2.2.2.1, fun i j e => (h2.2.2.2.2.1 i j e).trans (h.2.2.2.2.1 i j e), fun i j e => (h2.2.2.2.2.2.1 i j e).trans (h.2.2.2.2.2.1 i j e), fun e => h2.2.2.2.2.2.2 (h.2.2.2.2.2.2 e)⟩
theorem kq_mono {m m2 : k_M} {a b : hS} (h : kq m a b) (hs : k_sub m m2 = true) : kq m2 a b := by
  unfold k_sub at hs
  rw [Bool.and_eq_true, Bool.and_eq_true, Bool.and_eq_true] at hs
  exact ⟨h.1, h.2.1, h.2.2.1, h.2.2.2.1, fun i j e => h.2.2.2.2.1 i j (k_in_sub hs.1.1.1 hs.1.1.2 e), fun i j e => h.2.2.2.2.2.1 i j (k_in_sub hs.1.2 hs.2 e), h.2.2.2.2.2.2⟩
theorem h_up_x {α : Type} {F : Nat → Nat → α} {c k c2 k2 : Nat} {x : α} (h : ¬ (c2 = c ∧ k2 = k)) : h_up F c k x c2 k2 = F c2 k2 := by
  by_cases hc : c2 = c
  · subst hc
    exact h_up_ne (fun e => h ⟨rfl, e⟩)
  · rw [h_up_nc hc]
section KQ
variable {m : k_M} {a : hS} {n sl : Nat} {SH : Nat → Nat × Nat} {FI : Nat → Nat → Int32} {FL : Nat → Nat → Int64} {FR : Nat → Nat → Option Nat} {c k : Nat}
theorem kq_i0 {x : Int32} (h : kq m a (n, sl, SH, FI, FL, FR)) (h1 : k_in m.1 m.2.1 c k = true) (h2 : ¬ (c = 121 ∧ k = 69)) : kq m a (n, sl, SH, h_up FI c k x, FL, FR) := by
  refine ⟨h.1, h.2.1, h.2.2.1, h.2.2.2.1, fun i j e => ?_, h.2.2.2.2.2.1, fun e => ?_⟩
  · show h_up FI c k x i j = _
    rw [h_up_x (by rintro ⟨rfl, rfl⟩; rw [h1] at e; cases e)]
    exact h.2.2.2.2.1 i j e
  · show (h_up FI c k x 121 69).toInt ≠ 0
    rw [h_up_x (by rintro ⟨rfl, rfl⟩; exact h2 ⟨rfl, rfl⟩)]
    exact h.2.2.2.2.2.2 e
theorem kq_l0 {x : Int64} (h : kq m a (n, sl, SH, FI, FL, FR)) (h1 : k_in m.2.2.1 m.2.2.2 c k = true) : kq m a (n, sl, SH, FI, h_up FL c k x, FR) := by
  refine ⟨h.1, h.2.1, h.2.2.1, h.2.2.2.1, h.2.2.2.2.1, fun i j e => ?_, h.2.2.2.2.2.2⟩
  show h_up FL c k x i j = _
  rw [h_up_x (by rintro ⟨rfl, rfl⟩; rw [h1] at e; cases e)]
  exact h.2.2.2.2.2.1 i j e
theorem kq_if {x : Int32} (h : kq m a (n, sl, SH, FI, FL, FR)) (h1 : m.1.contains (c, k) = true) (h2 : ¬ (c = 121 ∧ k = 69)) : kq m a (n, sl, SH, h_up FI c k x, FL, FR) := kq_i0 h (by unfold k_in; rw [h1]; rfl) h2
theorem kq_ia {x : Int32} (h : kq m a (n, sl, SH, FI, FL, FR)) (h1 : m.2.1.contains c = true) (h2 : c ≠ 121) : kq m a (n, sl, SH, h_up FI c k x, FL, FR) := kq_i0 h (by unfold k_in; rw [h1, Bool.or_true]) (fun e => h2 e.1)
theorem kq_la {x : Int64} (h : kq m a (n, sl, SH, FI, FL, FR)) (h1 : m.2.2.2.contains c = true) : kq m a (n, sl, SH, FI, h_up FL c k x, FR) := kq_l0 h (by unfold k_in; rw [h1, Bool.or_true])
theorem kq_lf {x : Int64} (h : kq m a (n, sl, SH, FI, FL, FR)) (h1 : m.2.2.1.contains (c, k) = true) : kq m a (n, sl, SH, FI, h_up FL c k x, FR) := kq_l0 h (by unfold k_in; rw [h1]; rfl)
theorem kq_fail {x y : Int32} (h0 : (FI 121 69).toInt = 0) : kq ([(121, 69), (121, 70)], [], [], []) (n, sl, SH, FI, FL, FR) (n, sl, SH, h_up (h_up FI 121 69 x) 121 70 y, FL, FR) := by
  refine ⟨rfl, rfl, rfl, rfl, fun i j e => ?_, fun _ _ _ => rfl, fun e => absurd h0 e⟩
  show h_up (h_up FI 121 69 x) 121 70 y i j = FI i j
  rw [h_up_x (by rintro ⟨rfl, rfl⟩; exact absurd e (by decide)), h_up_x (by rintro ⟨rfl, rfl⟩; exact absurd e (by decide))]
end KQ
end
section
/-! STRINGS, read backwards. -/
def u_c0 (own : String) (idx : Nat) : Bool := lw_tbl.all (fun w => match w with
  | .constant o i _ => !(i == idx && o == own)
  | _ => true)
theorem u_c0_of {own : String} {idx : Nat} (h : u_c0 own idx = true) : ∀ z, Cond.constant own idx z ∈ x_Ts → False := by
  intro z hz
  have h3 := List.all_eq_true.mp h _ (List.mem_filter.mp hz).1
  simp at h3
def u_sf (own : String) (idx : Nat) (f : String) : Bool := lw_tbl.all (fun w => match w with
  | .fieldLink o i _ n _ => !(i == idx && o == own) || n == f
  | _ => true)
theorem u_sf_of {own : String} {idx : Nat} {f : String} (h : u_sf own idx f = true) : ∀ c n z, Cond.fieldLink own idx c n z ∈ x_Ts → n = f := by
  intro c n z hz
  have h3 := List.all_eq_true.mp h _ (List.mem_filter.mp hz).1
  simpa using h3
def u_nm (own : String) (idx : Nat) : Bool := lw_tbl.all (fun w => match w with
  | .methodLink o i _ => !(i == idx && o == own)
  | .methodLinkNest o i _ _ => !(i == idx && o == own)
  | _ => true)
theorem u_nm_of {own : String} {idx : Nat} (h : u_nm own idx = true) : ∀ z, x_lk x_Ts x_AO own idx z → False := by
  intro z hz
  rcases hz with hz | ⟨host, hz⟩
  · have h3 := List.all_eq_true.mp h _ (List.mem_filter.mp hz).1
    simp at h3
  · have h3 := List.all_eq_true.mp h _ (List.mem_filter.mp hz).1
    simp at h3
theorem x_strI_inj : ∀ a b : Fin 11, x_strI.getD a.val 0 = x_strI.getD b.val 0 → a = b := by decide
section PSS
variable {ρ : Type} {inj : ρ → Option Value} {sk : xK} {base N d : Nat} {j : Nat} {y : MethodName} {nL : Nat} {ret : Option FieldType} {len pc : Nat} {L : xL} {st : List Value} {s : hS} {Ψ : ρ → hS → Prop}
theorem pw_ldcS {idx : Nat} {k : Fin 11} (q : x_at xMM j pc (.ldc idx) 2 y nL ret) (hi : idx = x_strI.getD k.val 0) (hc : ∀ z, Cond.constant y.cls idx z ∈ x_Ts → False) (kk : pw inj sk base N d none j (pc + 2) L (.ref (sk.1 k.val) :: st) s Ψ) : pw inj sk base N d none j pc L st s Ψ :=
  pw_inv q (fun m hm h r h' hR hh => by
    rcases hh with ⟨b, hb | hb, hg⟩ | ⟨hr, -⟩ | ⟨_, _, _, _, _, _, _, _, _, _, _, _, _, hx, _⟩ | ⟨_, _, _, hx, _⟩
    · obtain ⟨-, v, hv, -⟩ := hb
      exact (hc v hv).elim
    · obtain ⟨-, k2, hk2, -, he, rfl⟩ := hb
      have e : k = ⟨k2, hk2⟩ := x_strI_inj k ⟨k2, hk2⟩ (by rw [← hi]; exact he)
      have e2 : k2 = k.val := by rw [e]
      subst e2
      exact kk m (by omega) h r h' hR hg
    · exact hr.elim
    · exact hx.2.2.2.2.2.elim
    · exact hx.elim)
theorem pw_sval {idx : Nat} {k : Fin 11} (hkb : x_kb sk base) (q : x_at xMM j pc (.getfield idx) 3 y nL ret) (hu : ∀ c n z, Cond.fieldLink y.cls idx c n z ∈ x_Ts → n = "value") (kk : pw inj sk base N d none j (pc + 3) L (.ref (sk.2.1 k.val) :: st) s Ψ) : pw inj sk base N d none j pc L (.ref (sk.1 k.val) :: st) s Ψ :=
  pw_inv q (fun m hm h r h' hR hh => by
    rcases hh with ⟨b, hb | hb, hg⟩ | ⟨hr, -⟩ | ⟨_, _, _, _, _, _, _, _, _, _, _, _, _, hx, _⟩ | ⟨_, _, _, hx, _⟩
    · exfalso
      obtain ⟨-, ci, k2, C, T, N2, q2, fs, v2, r2, hf, e, -⟩ := hb
      have e1 : sk.1 k.val = base + q2 := Value.ref.inj (List.cons.inj e).1
      have := (hkb.1 k.val k.isLt).1
      omega
    · obtain ⟨-, k2, r2, hk2, e, hh⟩ := hb
      have e1 := ((hkb.2 k.val k2 k.isLt hk2).1 (Value.ref.inj (List.cons.inj e).1))
      have e2 := (List.cons.inj e).2
      subst e1 e2
      rcases hh with ⟨hw, rfl⟩ | ⟨hw, -⟩
      · exact kk m (by omega) h r h' hR hg
      · exact absurd (hu _ _ _ hw) (by decide)
    · exact hr.elim
    · exact hx.2.2.2.2.2.elim
    · exact hx.elim)
theorem pw_scod {idx : Nat} {k : Fin 11} (hkb : x_kb sk base) (q : x_at xMM j pc (.getfield idx) 3 y nL ret) (hu : ∀ c n z, Cond.fieldLink y.cls idx c n z ∈ x_Ts → n = "coder") (kk : pw inj sk base N d none j (pc + 3) L (.int (0 : Int32) :: st) s Ψ) : pw inj sk base N d none j pc L (.ref (sk.1 k.val) :: st) s Ψ :=
  pw_inv q (fun m hm h r h' hR hh => by
    rcases hh with ⟨b, hb | hb, hg⟩ | ⟨hr, -⟩ | ⟨_, _, _, _, _, _, _, _, _, _, _, _, _, hx, _⟩ | ⟨_, _, _, hx, _⟩
    · exfalso
      obtain ⟨-, ci, k2, C, T, N2, q2, fs, v2, r2, hf, e, -⟩ := hb
      have e1 : sk.1 k.val = base + q2 := Value.ref.inj (List.cons.inj e).1
      have := (hkb.1 k.val k.isLt).1
      omega
    · obtain ⟨-, k2, r2, hk2, e, hh⟩ := hb
      have e2 := (List.cons.inj e).2
      subst e2
      rcases hh with ⟨hw, -⟩ | ⟨hw, rfl⟩
      · exact absurd (hu _ _ _ hw) (by decide)
      · exact kk m (by omega) h r h' hR hg
    · exact hr.elim
    · exact hx.2.2.2.2.2.elim
    · exact hx.elim)
theorem pw_strl {k : Fin 11} (hkb : x_kb sk base) (q : x_at xMM j pc .arraylength 1 y nL ret) (kk : pw inj sk base N d none j (pc + 1) L (.int (Int32.ofNat (x_strN.getD k.val 0)) :: st) s Ψ) : pw inj sk base N d none j pc L (.ref (sk.2.1 k.val) :: st) s Ψ :=
  pw_inv q (fun m hm h r h' hR hh => by
    rcases hh with ⟨b, hb | hb, hg⟩ | ⟨hr, -⟩ | ⟨_, _, _, _, _, _, _, _, _, _, _, _, _, hx, _⟩ | ⟨_, _, _, hx, _⟩
    · exfalso
      obtain ⟨-, r2, hb⟩ := hb
      rcases hb with ⟨q2, k2, x2, hk2, e, -⟩ | ⟨q2, n2, f, hX, -⟩
      · have e1 : sk.2.1 k.val = base + q2 := Value.ref.inj (List.cons.inj e).1
        have := (hkb.1 k.val k.isLt).2
        omega
      · cases hX
    · obtain ⟨-, k2, r2, hk2, e, rfl⟩ := hb
      have e1 := ((hkb.2 k.val k2 k.isLt hk2).2 (Value.ref.inj (List.cons.inj e).1))
      have e2 := (List.cons.inj e).2
      subst e1 e2
      exact kk m (by omega) h r h' hR hg
    · exact hr.elim
    · exact hx.2.2.2.2.2.elim
    · exact hx.elim)
theorem pw_sbld {i : Int32} {k : Fin 11} {A : ρ → hS → Prop} (hkb : x_kb sk base) (q : x_at xMM j pc .baload 1 y nL ret) (kk : p_in i (x_strN.getD k.val 0) → pw inj sk base N d none j (pc + 1) L (.int ((x_strB.getD k.val []).getD i.toInt.toNat 0) :: st) s A) : pw inj sk base N d none j pc L (.int i :: .ref (sk.2.1 k.val) :: st) s (P_and (p_in i (x_strN.getD k.val 0)) A) :=
  pw_inv q (fun m hm h r h' hR hh => by
    rcases hh with ⟨b, hb | hb, hg⟩ | ⟨hr, -⟩ | ⟨_, _, _, _, _, _, _, _, _, _, _, _, _, hx, _⟩ | ⟨_, _, _, hx, _⟩
    · exfalso
      obtain ⟨-, x2, r2, q2, k2, n2, f, hk2, hin, e, -⟩ := hb
      have e1 : sk.2.1 k.val = base + q2 := Value.ref.inj (List.cons.inj (List.cons.inj e).2).1
      have := (hkb.1 k.val k.isLt).2
      omega
    · obtain ⟨-, k2, x2, r2, hk2, hin, e, rfl⟩ := hb
      have e0 := Value.int.inj (List.cons.inj e).1
      have e1 := ((hkb.2 k.val k2 k.isLt hk2).2 (Value.ref.inj (List.cons.inj (List.cons.inj e).2).1))
      have e2 := (List.cons.inj (List.cons.inj e).2).2
      subst e0 e1 e2
      have hp := p_in_of hin
      obtain ⟨x, s', e4, g1, hp0, g2⟩ := kk hp m (by omega) h r h' hR hg
      exact ⟨x, s', e4, g1, hp0, hp, g2⟩
    · exact hr.elim
    · exact hx.2.2.2.2.2.elim
    · exact hx.elim)
theorem pw_sone {idx : Nat} (q : x_at xMM j pc (.getstatic idx) 3 y nL ret) (hu : ∀ c n z, Cond.fieldLink y.cls idx c n z ∈ x_Ts → n = "COMPACT_STRINGS") (kk : pw inj sk base N d none j (pc + 3) L (.int (1 : Int32) :: st) s Ψ) : pw inj sk base N d none j pc L st s Ψ :=
  pw_inv q (fun m hm h r h' hR hh => by
    rcases hh with ⟨b, hb | hb, hg⟩ | ⟨hr, -⟩ | ⟨_, _, _, _, _, _, _, _, _, _, _, _, _, hx, _⟩ | ⟨_, _, _, hx, _⟩
    · exact hb.elim
    · obtain ⟨-, hh⟩ := hb
      rcases hh with ⟨hw, rfl⟩ | ⟨hw, -⟩
      · exact kk m (by omega) h r h' hR hg
      · exact absurd (hu _ _ _ hw) (by decide)
    · exact hr.elim
    · exact hx.2.2.2.2.2.elim
    · exact hx.elim)
theorem pw_sfmt {idx : Nat} (q : x_at xMM j pc (.getstatic idx) 3 y nL ret) (hu : ∀ c n z, Cond.fieldLink y.cls idx c n z ∈ x_Ts → n = "SIOOBE_FORMATTER") (kk : pw inj sk base N d none j (pc + 3) L (va_rf sk.2.2 :: st) s Ψ) : pw inj sk base N d none j pc L st s Ψ :=
  pw_inv q (fun m hm h r h' hR hh => by
    rcases hh with ⟨b, hb | hb, hg⟩ | ⟨hr, -⟩ | ⟨_, _, _, _, _, _, _, _, _, _, _, _, _, hx, _⟩ | ⟨_, _, _, hx, _⟩
    · exact hb.elim
    · obtain ⟨-, hh⟩ := hb
      rcases hh with ⟨hw, -⟩ | ⟨hw, rfl⟩
      · exact absurd (hu _ _ _ hw) (by decide)
      · exact kk m (by omega) h r h' hR hg
    · exact hr.elim
    · exact hx.2.2.2.2.2.elim
    · exact hx.elim)
theorem pw_i2b {x : Int32} (q : x_at xMM j pc .i2b 1 y nL ret) (kk : pw inj sk base N d none j (pc + 1) L (.int x.toInt8.toInt32 :: st) s Ψ) : pw inj sk base N d none j pc L (.int x :: st) s Ψ :=
  pw_inv q (fun m hm h r h' hR hh => by
    rcases hh with ⟨b, hb | hb, hg⟩ | ⟨hr, -⟩ | ⟨_, _, _, _, _, _, _, _, _, _, _, _, _, hx, _⟩ | ⟨_, _, _, hx, _⟩
    · exact hb.elim
    · obtain ⟨-, x2, r2, e, rfl⟩ := hb
      cases e
      exact kk m (by omega) h r h' hR hg
    · exact hr.elim
    · exact hx.2.2.2.2.2.elim
    · exact hx.elim)
/-- a call to what is not linked is not made -/
theorem pw_nolk {idx : Nat} (q : x_at xMM j pc (.invokestatic idx) 3 y nL ret) (hu : ∀ z, x_lk x_Ts x_AO y.cls idx z → False) : pw inj sk base N d none j pc L st s Ψ :=
  pw_inv q (fun m hm h r h' hR hh => by
    rcases hh with ⟨b, hb | hb, hg⟩ | ⟨hr, -⟩ | ⟨_, _, y3, _, _, _, _, _, _, _, _, _, _, hx, _⟩ | ⟨_, _, _, hx, _⟩
    · exact hb.elim
    · exact hb.elim
    · exact hr.elim
    · exact (hu _ hx.2.2.2.2.2.1).elim
    · exact (hu _ (Or.inl hx.2.1)).elim)
theorem pw_ite1 {X : Option (Nat × Nat × (Nat → Int32))} {c : Prop} {A : ρ → hS → Prop} (k : pw inj sk base N d X j pc L st s (P_if c A (fun _ _ => False))) : pw inj sk base N d X j pc L st s A := pw_cons k (fun x s h => by
  rcases h with ⟨-, h⟩ | ⟨-, h⟩
  · exact h
  · exact h.elim)
theorem pw_ite2 {X : Option (Nat × Nat × (Nat → Int32))} {c : Prop} {A : ρ → hS → Prop} (k : pw inj sk base N d X j pc L st s (P_if c (fun _ _ => False) A)) : pw inj sk base N d X j pc L st s A := pw_cons k (fun x s h => by
  rcases h with ⟨-, h⟩ | ⟨-, h⟩
  · exact h.elim
  · exact h)
end PSS
section PST
variable {ρ τ : Type} {inj : ρ → Option Value} {inj2 : τ → Option Value} {sk : xK} {base N d : Nat} {j : Nat} {y : MethodName} {nL : Nat} {ret : Option FieldType} {len pc : Nat} {L : xL} {n sl : Nat} {SH : Nat → Nat × Nat} {FI : Nat → Nat → Int32} {FL : Nat → Nat → Int64} {FR : Nat → Nat → Option Nat} {C : τ → hS → Prop} {A : τ → Nat → Nat → (Nat → Nat × Nat) → (Nat → Nat → Int32) → (Nat → Nat → Int64) → (Nat → Nat → Option Nat) → ρ → hS → Prop}
theorem pw_callT {idx j2 : Nat} {k : Fin 11} {y2 : MethodName} {Bs rest st0 : List Value} {L2 : xL} (hkb : x_kb sk base) (q : x_at xMM j pc (.invokevirtual idx) 3 y nL ret) (hu : x_uM y.cls idx y2) (hj : x_uJ y2 j2) (hn : x_pn y2 Bs.length) (hcn : y2 ≠ ⟨"[I", "clone", "()Ljava/lang/Object;"⟩) (hst : st0 = Bs.reverse ++ .ref (sk.1 k.val) :: rest) (hL : lv_args 0 (.ref (sk.1 k.val) :: Bs) = L2)
    (k1 : ∀ d, pw inj2 sk base (N - 1) d none j2 0 L2 [] (n, sl, SH, FI, FL, FR) C)
    (k2 : ∀ v n sl SH FI FL FR, pk n SH FR → C v (n, sl, SH, FI, FL, FR) → pw inj sk base N d none j (pc + 3) L ((inj2 v).toList ++ rest) (n, sl, SH, FI, FL, FR) (A v n sl SH FI FL FR)) : pw inj sk base N d none j pc L st0 (n, sl, SH, FI, FL, FR) (P_bi C A) :=
  pw_inv q (fun m hm h r h' hR hh => by
    rcases hh with ⟨b, hi | hi, hg⟩ | ⟨hr, -⟩ | ⟨d', j3, y3, cc3, nL3, ret3, As, rest3, v, h1, -, -, hM3, hc, -, g1, g2⟩ | ⟨_, _, _, hc, _⟩
    · exact hi.elim
    · exact hi.elim
    · exact hr.elim
    · obtain ⟨-, -, -, -, -, hlk, -, -, hh⟩ := hc
      have e1 := hu y3 hlk
      subst e1
      have e2 := hj j3 _ _ _ hM3
      subst e2
      rcases hh with ⟨q2, ci, fs, T, N2, Bs2, rfl, e, -, -, hp⟩ | ⟨k2', Bs2, hk2, -, rfl, e, hp⟩
      · exfalso
        have hl := x_pn_u hp hn
        dsimp only at e
        rw [hst] at e
        obtain ⟨e3, e4⟩ := x_app_u e (by simp [hl])
        have e6 : sk.1 k.val = base + q2 := Value.ref.inj (List.cons.inj e4).1
        have := (hkb.1 k.val k.isLt).1
        omega
      · have hl := x_pn_u hp hn
        dsimp only at e
        rw [hst] at e
        obtain ⟨e3, e4⟩ := x_app_u e (by simp [hl])
        have e5 : Bs = Bs2 := by simpa using e3
        have e6 := (List.cons.inj e4).1
        have e7 := (List.cons.inj e4).2
        subst e5; subst e7
        rw [← e6] at g1
        rw [← hL] at k1
        exact pw_call0 hm hR k1 k2 g1 g2
    · exfalso
      obtain ⟨-, hlk, -⟩ := hc
      exact hcn (hu _ (Or.inl hlk)).symm)
end PST
end
section
/-! NEW ARRAYS, read backwards (behind newz.py: newarray's cell is named). -/
section PBN
variable {ρ : Type} {inj : ρ → Option Value} {sk : xK} {base N d : Nat} {j : Nat} {y : MethodName} {nL : Nat} {ret : Option FieldType} {len pc : Nat} {L : xL} {st : List Value} {s : hS} {Ψ : ρ → hS → Prop} {n sl : Nat} {SH : Nat → Nat × Nat} {FI : Nat → Nat → Int32} {FL : Nat → Nat → Int64} {FR : Nat → Nat → Option Nat} {A : Unit → Nat → Nat → (Nat → Nat × Nat) → (Nat → Nat → Int32) → (Nat → Nat → Int64) → (Nat → Nat → Option Nat) → ρ → hS → Prop}
theorem pw_newa {aty : ArrayType} {k : Nat} {z : Int32} {zz : Nat} (hok : pk n SH FR) (q : x_at xMM j pc (.newarray aty) 2 y nL ret) (hk : x_kn[k]? = some (Jvm.Op.newarray.typeOf aty)) (hz : z.toInt.toNat = zz) (kk : ∀ v n1 sl1 SH1 FI1 FL1 FR1, pk n1 SH1 FR1 → P_na k zz n sl SH FI FL FR v (n1, sl1, SH1, FI1, FL1, FR1) → pw inj sk base N d none j (pc + 2) L (.ref (base + n) :: st) (n1, sl1, SH1, FI1, FL1, FR1) (A v n1 sl1 SH1 FI1 FL1 FR1)) : pw inj sk base N d none j pc L (.int z :: st) (n, sl, SH, FI, FL, FR) (P_bi (P_na k zz n sl SH FI FL FR) A) :=
  pw_st q rfl (fun h b hR hb m hm r h' hg => by
    obtain ⟨-, z2, r2, k2, zv, hk2, -, -, -, ⟨-, hzv⟩, e, rfl⟩ := hb
    cases e
    subst hz
    have hkk : k2 = k := by
      have nd : ∀ a b : Fin 7, x_kn[a.val]? = x_kn[b.val]? → a = b := by decide
      have h1 := (List.getElem?_eq_some_iff.mp hk2).1
      have h2 := (List.getElem?_eq_some_iff.mp hk).1
      have l7 : x_kn.length = 7 := by decide
      have := nd ⟨k2, by omega⟩ ⟨k, by omega⟩ (by dsimp only; rw [hk2, hk])
      exact congrArg Fin.val this
    subst hkk
    have hav : h_av base k2 (fun _ => 0) (fun _ => 0) (fun _ => none) = zv := by
      rw [hzv]
      have h2 := (List.getElem?_eq_some_iff.mp hk).1
      have l7 : x_kn.length = 7 := by decide
      have h3 : k2 = 0 ∨ k2 = 1 ∨ k2 = 2 ∨ k2 = 3 ∨ k2 = 4 ∨ k2 = 5 ∨ k2 = 6 := by omega
      rcases h3 with rfl | rfl | rfl | rfl | rfl | rfl | rfl
      · have e := Option.some.inj hk; rw [← e]; rfl
      · have e := Option.some.inj hk; rw [← e]; rfl
      · have e := Option.some.inj hk; rw [← e]; rfl
      · exfalso; cases aty <;> exact absurd hk (by decide)
      · exfalso; cases aty <;> exact absurd hk (by decide)
      · exfalso; cases aty <;> exact absurd hk (by decide)
      · exfalso; cases aty <;> exact absurd hk (by decide)
    have hR2 := h_push (sh := (100 + k2, z.toNatClampNeg)) (f := fun _ => 0) (g := fun _ => 0) (r := fun _ => none) (c := .inl (k2, z.toNatClampNeg, zv)) (z := z.toNatClampNeg) hR ((h_arr rfl).trans (by rw [hav])) rfl
    have hlen : h.length = n := hR.1
    have hg2 : x_go sk vwCl x_kn x_Ts x_AO xMM base m d none j (pc + 2, L, .ref (base + n) :: st, h ++ [.inl (k2, z.toNatClampNeg, zv)]) r h' := by rw [← hlen]; exact hg
    obtain ⟨x, s', e4, g1, hp0, g2⟩ := kk () _ _ _ _ _ _ (pk_n hok (by decide +kernel)) rfl m (by omega) _ r h' hR2 hg2
    exact ⟨x, s', e4, g1, hp0, (), _, _, _, _, _, _, rfl, g2⟩)
end PBN
end
section
/-! Copies of arrays, casts, a `new` that is not linked: read backwards. -/
def u_cn (own : String) (idx : Nat) : Bool := lw_tbl.all (fun w => match w with
  | .classLink o i _ => !(i == idx && o == own)
  | _ => true)
theorem u_cn_of {own : String} {idx : Nat} (h : u_cn own idx = true) : ∀ z, Cond.classLink own idx z ∈ x_Ts → False := by
  intro z hz
  have h3 := List.all_eq_true.mp h _ (List.mem_filter.mp hz).1
  simp at h3
def P_cl (c n sl : Nat) (SH : Nat → Nat × Nat) (FI : Nat → Nat → Int32) (FL : Nat → Nat → Int64) (FR : Nat → Nat → Option Nat) : Unit → hS → Prop := fun _ s => (SH c).1 = 100 ∧ s = (n + 1, sl + (SH c).2, va_up SH n (SH c), va_up FI n (FI c), va_up FL n (fun _ => 0), va_up FR n (fun _ => none))
def P_cp (c e : Nat) (sp dp m : Int32) (n sl : Nat) (SH : Nat → Nat × Nat) (FI : Nat → Nat → Int32) (FL : Nat → Nat → Int64) (FR : Nat → Nat → Option Nat) : Unit → hS → Prop := fun _ s => 0 ≤ sp.toInt ∧ 0 ≤ dp.toInt ∧ 0 ≤ m.toInt ∧ sp.toInt + m.toInt ≤ ((SH c).2 : Int) ∧ dp.toInt + m.toInt ≤ ((SH e).2 : Int) ∧ s = (n, sl, SH, va_up FI e (va_cpy (FI c) (FI e) sp.toInt.toNat dp.toInt.toNat m.toInt.toNat), FL, FR)
theorem x_noC : x_uJ ⟨"[I", "clone", "()Ljava/lang/Object;"⟩ 100000 := x_uJ_of (by decide +kernel)
theorem x_noA : x_uJ arraycopyName 100000 := x_uJ_of (by decide +kernel)
theorem h_rf_ni {base : Nat} {o : Option Nat} : h_rf base o = none ↔ o = none := by cases o <;> simp [h_rf]
theorem P_if_c {ρ : Type} {p q : Prop} {A B : ρ → hS → Prop} (h : p ↔ q) : P_if p A B = P_if q A B := by rw [propext h]
section PN
variable {ρ : Type} {inj : ρ → Option Value} {sk : xK} {base N d : Nat} {j : Nat} {y : MethodName} {nL : Nat} {ret : Option FieldType} {len pc : Nat} {L : xL} {st : List Value} {s : hS} {A B : ρ → hS → Prop} {X : Option (Nat × Nat × (Nat → Int32))}
theorem pw_inull {o : Option Nat} {off : Int} {tgt : Nat} (q : x_at xMM j pc (.ifnull off) 3 y nL ret) (ht : (pc : Int) + off = (tgt : Int)) (kt : o = none → pw inj sk base N d X j tgt L st s A) (kf : ¬ o = none → pw inj sk base N d X j (pc + 3) L st s B) : pw inj sk base N d X j pc L (va_rf (h_rf base o) :: st) s (P_if (o = none) A B) := by
  rw [← P_if_c (h_rf_ni (base := base) (o := o))]
  exact pw_ifnull q ht (fun h => kt (h_rf_ni.mp h)) (fun h => kf (fun e => h (h_rf_ni.mpr e)))
theorem pw_innull {o : Option Nat} {off : Int} {tgt : Nat} (q : x_at xMM j pc (.ifnonnull off) 3 y nL ret) (ht : (pc : Int) + off = (tgt : Int)) (kt : o = none → pw inj sk base N d X j (pc + 3) L st s A) (kf : ¬ o = none → pw inj sk base N d X j tgt L st s B) : pw inj sk base N d X j pc L (va_rf (h_rf base o) :: st) s (P_if (o = none) A B) := by
  rw [← P_if_c (h_rf_ni (base := base) (o := o))]
  exact pw_ifnonnull q ht (fun h => kt (h_rf_ni.mp h)) (fun h => kf (fun e => h (h_rf_ni.mpr e)))
end PN
section PB
variable {ρ : Type} {inj : ρ → Option Value} {sk : xK} {base N d : Nat} {j : Nat} {y : MethodName} {nL : Nat} {ret : Option FieldType} {len pc : Nat} {L : xL} {st : List Value} {s : hS} {Ψ : ρ → hS → Prop} {n sl : Nat} {SH : Nat → Nat × Nat} {FI : Nat → Nat → Int32} {FL : Nat → Nat → Int64} {FR : Nat → Nat → Option Nat} {A : Unit → Nat → Nat → (Nat → Nat × Nat) → (Nat → Nat → Int32) → (Nat → Nat → Int64) → (Nat → Nat → Option Nat) → ρ → hS → Prop}
theorem pw_cast {idx : Nat} {v : Value} (q : x_at xMM j pc (.checkcast idx) 3 y nL ret) (kk : pw inj sk base N d none j (pc + 3) L (v :: st) s Ψ) : pw inj sk base N d none j pc L (v :: st) s Ψ := pw_pu q rfl (fun h b hb => by
  obtain ⟨-, q2, k2, x2, r2, -, -, e, -, rfl⟩ := hb
  dsimp only at e
  rw [← e]
  rfl) kk
theorem pw_nonew {idx : Nat} (q : x_at xMM j pc (.new idx) 3 y nL ret) (hu : ∀ z, Cond.classLink y.cls idx z ∈ x_Ts → False) : pw inj sk base N d none j pc L st s Ψ := pw_st q rfl (fun h b hR hb m hm r h' hg => by
  obtain ⟨-, ci, C, T, N2, ty, hci, hty, hl, -⟩ := hb
  exact (hu _ hl).elim)
theorem pw_clone {idx : Nat} {o : Option Nat} {A : Nat → Unit → Nat → Nat → (Nat → Nat × Nat) → (Nat → Nat → Int32) → (Nat → Nat → Int64) → (Nat → Nat → Option Nat) → ρ → hS → Prop} (hok : pk n SH FR) (q : x_at xMM j pc (.invokevirtual idx) 3 y nL ret) (hu : x_uM y.cls idx ⟨"[I", "clone", "()Ljava/lang/Object;"⟩) (kk : ∀ c, o = some c → ∀ v n1 sl1 SH1 FI1 FL1 FR1, pk n1 SH1 FR1 → P_cl c n sl SH FI FL FR v (n1, sl1, SH1, FI1, FL1, FR1) → pw inj sk base N d none j (pc + 3) L (.ref (base + n) :: st) (n1, sl1, SH1, FI1, FL1, FR1) (A c v n1 sl1 SH1 FI1 FL1 FR1)) : pw inj sk base N d none j pc L (va_rf (h_rf base o) :: st) (n, sl, SH, FI, FL, FR) (P_sm o (fun c => P_bi (P_cl c n sl SH FI FL FR) (A c))) :=
  pw_inv q (fun m hm h r h' hR hh => by
    rcases hh with ⟨b, hi | hi, hg⟩ | ⟨hr, -⟩ | ⟨d', j3, y3, cc3, nL3, ret3, As, rest3, w, h1, -, -, hM3, hc, -, g1, g2⟩ | ⟨d', b, -, hc, hg⟩
    · exact hi.elim
    · exact hi.elim
    · exact hr.elim
    · exfalso
      obtain ⟨-, -, -, -, -, hlk, -⟩ := hc
      have e1 := hu y3 hlk
      subst e1
      have e2 := x_noC j3 _ _ _ hM3
      subst e2
      have h9 : x_ml[100000]? = some (_, cc3, nL3, ret3) := hM3
      have h8 := (List.getElem?_eq_some_iff.mp h9).1
      exact absurd h8 (by decide +kernel)
    · obtain ⟨-, -, -, -, -, -, -, q2, k2, n2, f, r2, hk2, hq, -, e, rfl⟩ := hc
      dsimp only at e hq
      have ho := h_rf_some (List.cons.inj e).1
      have e3 := (List.cons.inj e).2
      subst e3
      have hk0 := (x_kn_0 hk2).1 rfl
      subst hk0
      obtain ⟨hlt, hcl⟩ := h_at hR hq
      obtain ⟨s1, s2⟩ := h_cell_a hcl
      have hf : f = FI q2 := by cases s2; rfl
      subst hf
      have hR2 := h_push (sh := SH q2) (f := FI q2) (g := fun _ => 0) (r := fun _ => none) (c := .inl (0, n2, .inl (FI q2))) (z := n2) hR (by rw [s1]; exact h_arr rfl) rfl
      have hlen : h.length = n := hR.1
      have hsz : (SH q2).2 = n2 := by rw [s1]
      have hg2 : x_go sk vwCl x_kn x_Ts x_AO xMM base m d none j (pc + 3, L, .ref (base + n) :: st, h ++ [.inl (0, n2, .inl (FI q2))]) r h' := by rw [← hlen]; exact hg
      have hP : P_cl q2 n sl SH FI FL FR () (n + 1, sl + n2, va_up SH n (SH q2), va_up FI n (FI q2), va_up FL n (fun _ => 0), va_up FR n (fun _ => none)) := ⟨by rw [s1], by rw [hsz]⟩
      obtain ⟨x, s', e4, g1, hp0, g2⟩ := kk q2 ho () _ _ _ _ _ _ (pk_n hok (by decide +kernel)) hP m (by omega) _ r h' hR2 hg2
      exact ⟨x, s', e4, g1, hp0, q2, ho, (), _, _, _, _, _, _, hP, g2⟩)
theorem pw_cpy {idx : Nat} {o0 o1 : Option Nat} {sp dp mm : Int32} {A : Nat → Nat → Unit → Nat → Nat → (Nat → Nat × Nat) → (Nat → Nat → Int32) → (Nat → Nat → Int64) → (Nat → Nat → Option Nat) → ρ → hS → Prop} (hok : pk n SH FR) (q : x_at xMM j pc (.invokestatic idx) 3 y nL ret) (hu : x_uM y.cls idx arraycopyName) (kk : ∀ c e, o0 = some c → o1 = some e → ∀ v n1 sl1 SH1 FI1 FL1 FR1, pk n1 SH1 FR1 → P_cp c e sp dp mm n sl SH FI FL FR v (n1, sl1, SH1, FI1, FL1, FR1) → pw inj sk base N d none j (pc + 3) L st (n1, sl1, SH1, FI1, FL1, FR1) (A c e v n1 sl1 SH1 FI1 FL1 FR1)) : pw inj sk base N d none j pc L (.int mm :: .int dp :: va_rf (h_rf base o1) :: .int sp :: va_rf (h_rf base o0) :: st) (n, sl, SH, FI, FL, FR) (P_sm o0 (fun c => P_sm o1 (fun e => P_bi (P_cp c e sp dp mm n sl SH FI FL FR) (A c e)))) :=
  pw_inv q (fun m hm h r h' hR hh => by
    rcases hh with ⟨b, hi | hi, hg⟩ | ⟨hr, -⟩ | ⟨d', j3, y3, cc3, nL3, ret3, As, rest3, w, h1, -, -, hM3, hc, -, g1, g2⟩ | ⟨d', b, -, hc, hg⟩
    · exact hi.elim
    · exact hi.elim
    · exact hr.elim
    · exfalso
      obtain ⟨-, -, -, -, -, hlk, -⟩ := hc
      have e1 := hu y3 hlk
      subst e1
      have e2 := x_noA j3 _ _ _ hM3
      subst e2
      have h9 : x_ml[100000]? = some (_, cc3, nL3, ret3) := hM3
      have h8 := (List.getElem?_eq_some_iff.mp h9).1
      exact absurd h8 (by decide +kernel)
    · obtain ⟨-, -, -, -, -, q0, q1, k2, n0, n1, f, g, sp2, dp2, m2, r2, hk2, hq0, hq1, h1, h2, h3, h4, h5, -, e, rfl⟩ := hc
      dsimp only at e hq0 hq1
      have g1 := List.cons.inj e
      have g2 := List.cons.inj g1.2
      have g3 := List.cons.inj g2.2
      have g4 := List.cons.inj g3.2
      have g5 := List.cons.inj g4.2
      have u1 : mm = m2 := Value.int.inj g1.1
      have u2 : dp = dp2 := Value.int.inj g2.1
      have u3 : sp = sp2 := Value.int.inj g4.1
      have u4 : st = r2 := g5.2
      have e3 := g3.1
      have e5 := g5.1
      clear g1 g2 g3 g4 g5 e
      subst u1
      subst u2
      subst u3
      subst u4
      have ho1 := h_rf_some e3
      have ho0 := h_rf_some e5
      have hk0 := (x_kn_0 hk2).1 rfl
      subst hk0
      obtain ⟨hl0, hcl0⟩ := h_at hR hq0
      obtain ⟨hl1, hcl1⟩ := h_at hR hq1
      obtain ⟨s0, f0⟩ := h_cell_a hcl0
      obtain ⟨s1, f1⟩ := h_cell_a hcl1
      have hf : f = FI q0 := by cases f0; rfl
      have hgg : g = FI q1 := by cases f1; rfl
      subst hf
      subst hgg
      have i0 : ((0 : Int32)).toInt = 0 := by decide
      have nz : ∀ x : Int32, ¬ x < 0 → 0 ≤ x.toInt := fun x hx => by rw [Int32.lt_iff_toInt_lt, i0] at hx; omega
      have p1 := nz _ h1
      have p2 := nz _ h2
      have p3 := nz _ h3
      have t4 : sp.toInt.toNat + mm.toInt.toNat ≤ n0 := h4
      have t5 : dp.toInt.toNat + mm.toInt.toNat ≤ n1 := h5
      have hz0 : (SH q0).2 = n0 := by rw [s0]
      have hz1 : (SH q1).2 = n1 := by rw [s1]
      have hR2 := h_arr_set (k := 0) (f' := va_cpy (FI q0) (FI q1) sp.toNatClampNeg dp.toNatClampNeg mm.toNatClampNeg) (g' := FL q1) (r' := FR q1) hR hl1 s1
      rw [h_same FL, h_same FR] at hR2
      have hP : P_cp q0 q1 sp dp mm n sl SH FI FL FR () (n, sl, SH, va_up FI q1 (va_cpy (FI q0) (FI q1) sp.toNatClampNeg dp.toNatClampNeg mm.toNatClampNeg), FL, FR) := ⟨p1, p2, p3, by omega, by omega, rfl⟩
      obtain ⟨x, s', e4, g1, hp0, g2⟩ := kk q0 q1 ho0 ho1 () _ _ _ _ _ _ hok hP m (by omega) _ r h' hR2 hg
      exact ⟨x, s', e4, g1, hp0, q0, ho0, q1, ho1, (), _, _, _, _, _, _, hP, g2⟩)
end PB
end
section
theorem uf_RX12_105 : x_uF RX12 105 12 62 := x_uF_tb (c0 := "LocationDeskModel") (n0 := "kind") lF_RX12 rfl (by decide +kernel)
theorem un_RX12_105 : x_nS RX12 105 := x_nS_tb (c0 := "LocationDeskModel") (n0 := "kind") lF_RX12 rfl (by decide +kernel)
theorem uf_RX12_108 : x_uF RX12 108 12 63 := x_uF_tb (c0 := "LocationDeskModel") (n0 := "worth") lF_RX12 rfl (by decide +kernel)
theorem un_RX12_108 : x_nS RX12 108 := x_nS_tb (c0 := "LocationDeskModel") (n0 := "worth") lF_RX12 rfl (by decide +kernel)
theorem uf_RX12_111 : x_uF RX12 111 12 64 := x_uF_tb (c0 := "LocationDeskModel") (n0 := "where") lF_RX12 rfl (by decide +kernel)
theorem un_RX12_111 : x_nS RX12 111 := x_nS_tb (c0 := "LocationDeskModel") (n0 := "where") lF_RX12 rfl (by decide +kernel)
theorem uf_RX12_114 : x_uF RX12 114 12 65 := x_uF_tb (c0 := "LocationDeskModel") (n0 := "keptKind") lF_RX12 rfl (by decide +kernel)
theorem un_RX12_114 : x_nS RX12 114 := x_nS_tb (c0 := "LocationDeskModel") (n0 := "keptKind") lF_RX12 rfl (by decide +kernel)
theorem uf_RX12_117 : x_uF RX12 117 12 66 := x_uF_tb (c0 := "LocationDeskModel") (n0 := "keptWorth") lF_RX12 rfl (by decide +kernel)
theorem un_RX12_117 : x_nS RX12 117 := x_nS_tb (c0 := "LocationDeskModel") (n0 := "keptWorth") lF_RX12 rfl (by decide +kernel)
theorem uf_RX12_120 : x_uF RX12 120 12 72 := x_uF_tb (c0 := "LocationDeskModel") (n0 := "bytes") lF_RX12 rfl (by decide +kernel)
theorem un_RX12_120 : x_nS RX12 120 := x_nS_tb (c0 := "LocationDeskModel") (n0 := "bytes") lF_RX12 rfl (by decide +kernel)
theorem uf_RX12_123 : x_uF RX12 123 12 75 := x_uF_tb (c0 := "LocationDeskModel") (n0 := "names") lF_RX12 rfl (by decide +kernel)
theorem un_RX12_123 : x_nS RX12 123 := x_nS_tb (c0 := "LocationDeskModel") (n0 := "names") lF_RX12 rfl (by decide +kernel)
theorem uf_RX12_126 : x_uF RX12 126 12 76 := x_uF_tb (c0 := "LocationDeskModel") (n0 := "rows") lF_RX12 rfl (by decide +kernel)
theorem un_RX12_126 : x_nS RX12 126 := x_nS_tb (c0 := "LocationDeskModel") (n0 := "rows") lF_RX12 rfl (by decide +kernel)
theorem uf_RX12_129 : x_uF RX12 129 12 77 := x_uF_tb (c0 := "LocationDeskModel") (n0 := "starts") lF_RX12 rfl (by decide +kernel)
theorem un_RX12_129 : x_nS RX12 129 := x_nS_tb (c0 := "LocationDeskModel") (n0 := "starts") lF_RX12 rfl (by decide +kernel)
theorem uf_RX12_132 : x_uF RX12 132 12 79 := x_uF_tb (c0 := "LocationDeskModel") (n0 := "madeName") lF_RX12 rfl (by decide +kernel)
theorem un_RX12_132 : x_nS RX12 132 := x_nS_tb (c0 := "LocationDeskModel") (n0 := "madeName") lF_RX12 rfl (by decide +kernel)
theorem uf_RX12_135 : x_uF RX12 135 12 80 := x_uF_tb (c0 := "LocationDeskModel") (n0 := "madeRows") lF_RX12 rfl (by decide +kernel)
theorem un_RX12_135 : x_nS RX12 135 := x_nS_tb (c0 := "LocationDeskModel") (n0 := "madeRows") lF_RX12 rfl (by decide +kernel)
theorem uf_RX12_138 : x_uF RX12 138 12 81 := x_uF_tb (c0 := "LocationDeskModel") (n0 := "madeStart") lF_RX12 rfl (by decide +kernel)
theorem un_RX12_138 : x_nS RX12 138 := x_nS_tb (c0 := "LocationDeskModel") (n0 := "madeStart") lF_RX12 rfl (by decide +kernel)
theorem uf_RX12_141 : x_uF RX12 141 12 82 := x_uF_tb (c0 := "LocationDeskModel") (n0 := "madeBegin") lF_RX12 rfl (by decide +kernel)
theorem un_RX12_141 : x_nS RX12 141 := x_nS_tb (c0 := "LocationDeskModel") (n0 := "madeBegin") lF_RX12 rfl (by decide +kernel)
theorem uf_RX12_144 : x_uF RX12 144 12 83 := x_uF_tb (c0 := "LocationDeskModel") (n0 := "madeAt") lF_RX12 rfl (by decide +kernel)
theorem un_RX12_144 : x_nS RX12 144 := x_nS_tb (c0 := "LocationDeskModel") (n0 := "madeAt") lF_RX12 rfl (by decide +kernel)
theorem uf_RX12_147 : x_uF RX12 147 12 84 := x_uF_tb (c0 := "LocationDeskModel") (n0 := "isLong") lF_RX12 rfl (by decide +kernel)
theorem un_RX12_147 : x_nS RX12 147 := x_nS_tb (c0 := "LocationDeskModel") (n0 := "isLong") lF_RX12 rfl (by decide +kernel)
theorem uf_RX12_151 : x_uF RX12 151 12 85 := x_uF_tb (c0 := "LocationDeskModel") (n0 := "turned") lF_RX12 rfl (by decide +kernel)
theorem un_RX12_151 : x_nS RX12 151 := x_nS_tb (c0 := "LocationDeskModel") (n0 := "turned") lF_RX12 rfl (by decide +kernel)
theorem uf_RX12_154 : x_uF RX12 154 12 86 := x_uF_tb (c0 := "LocationDeskModel") (n0 := "waits") lF_RX12 rfl (by decide +kernel)
theorem un_RX12_154 : x_nS RX12 154 := x_nS_tb (c0 := "LocationDeskModel") (n0 := "waits") lF_RX12 rfl (by decide +kernel)
theorem uf_RX12_157 : x_uF RX12 157 12 87 := x_uF_tb (c0 := "LocationDeskModel") (n0 := "binds") lF_RX12 rfl (by decide +kernel)
theorem un_RX12_157 : x_nS RX12 157 := x_nS_tb (c0 := "LocationDeskModel") (n0 := "binds") lF_RX12 rfl (by decide +kernel)
theorem uf_RX12_160 : x_uF RX12 160 12 88 := x_uF_tb (c0 := "LocationDeskModel") (n0 := "placed") lF_RX12 rfl (by decide +kernel)
theorem un_RX12_160 : x_nS RX12 160 := x_nS_tb (c0 := "LocationDeskModel") (n0 := "placed") lF_RX12 rfl (by decide +kernel)
theorem uf_RX12_163 : x_uF RX12 163 12 89 := x_uF_tb (c0 := "LocationDeskModel") (n0 := "midst") lF_RX12 rfl (by decide +kernel)
theorem un_RX12_163 : x_nS RX12 163 := x_nS_tb (c0 := "LocationDeskModel") (n0 := "midst") lF_RX12 rfl (by decide +kernel)
theorem uf_RX12_17 : x_uF RX12 17 12 3 := x_uF_tb (c0 := "LocationDeskModel") (n0 := "pool") lF_RX12 rfl (by decide +kernel)
theorem un_RX12_17 : x_nS RX12 17 := x_nS_tb (c0 := "LocationDeskModel") (n0 := "pool") lF_RX12 rfl (by decide +kernel)
theorem uf_RX12_187 : x_uF RX12 187 12 0 := x_uF_tb (c0 := "LocationDeskModel") (n0 := "told") lF_RX12 rfl (by decide +kernel)
theorem un_RX12_187 : x_nS RX12 187 := x_nS_tb (c0 := "LocationDeskModel") (n0 := "told") lF_RX12 rfl (by decide +kernel)
theorem uf_RX12_190 : x_uF RX12 190 12 13 := x_uF_tb (c0 := "LocationDeskModel") (n0 := "taped") lF_RX12 rfl (by decide +kernel)
theorem un_RX12_190 : x_nS RX12 190 := x_nS_tb (c0 := "LocationDeskModel") (n0 := "taped") lF_RX12 rfl (by decide +kernel)
theorem uf_RX12_20 : x_uF RX12 20 12 4 := x_uF_tb (c0 := "LocationDeskModel") (n0 := "size") lF_RX12 rfl (by decide +kernel)
theorem un_RX12_20 : x_nS RX12 20 := x_nS_tb (c0 := "LocationDeskModel") (n0 := "size") lF_RX12 rfl (by decide +kernel)
theorem uf_RX12_258 : x_uF RX12 258 12 32 := x_uF_tb (c0 := "LocationDeskModel") (n0 := "most") lF_RX12 rfl (by decide +kernel)
theorem un_RX12_258 : x_nS RX12 258 := x_nS_tb (c0 := "LocationDeskModel") (n0 := "most") lF_RX12 rfl (by decide +kernel)
theorem uf_RX12_299 : x_uF RX12 299 12 31 := x_uF_tb (c0 := "LocationDeskModel") (n0 := "steps") lF_RX12 rfl (by decide +kernel)
theorem un_RX12_299 : x_nS RX12 299 := x_nS_tb (c0 := "LocationDeskModel") (n0 := "steps") lF_RX12 rfl (by decide +kernel)
theorem uf_RX12_30 : x_uF RX12 30 12 12 := x_uF_tb (c0 := "LocationDeskModel") (n0 := "tape") lF_RX12 rfl (by decide +kernel)
theorem un_RX12_30 : x_nS RX12 30 := x_nS_tb (c0 := "LocationDeskModel") (n0 := "tape") lF_RX12 rfl (by decide +kernel)
theorem uf_RX12_361 : x_uF RX12 361 12 53 := x_uF_tb (c0 := "LocationDeskModel") (n0 := "hasTold") lF_RX12 rfl (by decide +kernel)
theorem un_RX12_361 : x_nS RX12 361 := x_nS_tb (c0 := "LocationDeskModel") (n0 := "hasTold") lF_RX12 rfl (by decide +kernel)
theorem uf_RX12_364 : x_uF RX12 364 12 54 := x_uF_tb (c0 := "LocationDeskModel") (n0 := "faultTold") lF_RX12 rfl (by decide +kernel)
theorem un_RX12_364 : x_nS RX12 364 := x_nS_tb (c0 := "LocationDeskModel") (n0 := "faultTold") lF_RX12 rfl (by decide +kernel)
theorem uf_RX12_367 : x_uF RX12 367 12 56 := x_uF_tb (c0 := "LocationDeskModel") (n0 := "stepsTold") lF_RX12 rfl (by decide +kernel)
theorem un_RX12_367 : x_nS RX12 367 := x_nS_tb (c0 := "LocationDeskModel") (n0 := "stepsTold") lF_RX12 rfl (by decide +kernel)
theorem uf_RX12_370 : x_uF RX12 370 12 57 := x_uF_tb (c0 := "LocationDeskModel") (n0 := "mostTold") lF_RX12 rfl (by decide +kernel)
theorem un_RX12_370 : x_nS RX12 370 := x_nS_tb (c0 := "LocationDeskModel") (n0 := "mostTold") lF_RX12 rfl (by decide +kernel)
theorem uf_RX12_446 : x_uF RX12 446 12 67 := x_uF_tb (c0 := "LocationDeskModel") (n0 := "tokens") lF_RX12 rfl (by decide +kernel)
theorem un_RX12_446 : x_nS RX12 446 := x_nS_tb (c0 := "LocationDeskModel") (n0 := "tokens") lF_RX12 rfl (by decide +kernel)
theorem uf_RX12_475 : x_uF RX12 475 12 69 := x_uF_tb (c0 := "LocationDeskModel") (n0 := "fault") lF_RX12 rfl (by decide +kernel)
theorem un_RX12_475 : x_nS RX12 475 := x_nS_tb (c0 := "LocationDeskModel") (n0 := "fault") lF_RX12 rfl (by decide +kernel)
theorem uf_RX12_478 : x_uF RX12 478 12 68 := x_uF_tb (c0 := "LocationDeskModel") (n0 := "ti") lF_RX12 rfl (by decide +kernel)
theorem un_RX12_478 : x_nS RX12 478 := x_nS_tb (c0 := "LocationDeskModel") (n0 := "ti") lF_RX12 rfl (by decide +kernel)
theorem uf_RX12_481 : x_uF RX12 481 12 70 := x_uF_tb (c0 := "LocationDeskModel") (n0 := "faultAt") lF_RX12 rfl (by decide +kernel)
theorem un_RX12_481 : x_nS RX12 481 := x_nS_tb (c0 := "LocationDeskModel") (n0 := "faultAt") lF_RX12 rfl (by decide +kernel)
theorem uf_RX12_490 : x_uF RX12 490 12 71 := x_uF_tb (c0 := "LocationDeskModel") (n0 := "opened") lF_RX12 rfl (by decide +kernel)
theorem un_RX12_490 : x_nS RX12 490 := x_nS_tb (c0 := "LocationDeskModel") (n0 := "opened") lF_RX12 rfl (by decide +kernel)
theorem uf_RX12_493 : x_uF RX12 493 12 73 := x_uF_tb (c0 := "LocationDeskModel") (n0 := "many") lF_RX12 rfl (by decide +kernel)
theorem un_RX12_493 : x_nS RX12 493 := x_nS_tb (c0 := "LocationDeskModel") (n0 := "many") lF_RX12 rfl (by decide +kernel)
theorem uf_RX12_515 : x_uF RX12 515 12 78 := x_uF_tb (c0 := "LocationDeskModel") (n0 := "made") lF_RX12 rfl (by decide +kernel)
theorem un_RX12_515 : x_nS RX12 515 := x_nS_tb (c0 := "LocationDeskModel") (n0 := "made") lF_RX12 rfl (by decide +kernel)
theorem uf_RX12_524 : x_uF RX12 524 12 74 := x_uF_tb (c0 := "LocationDeskModel") (n0 := "variables") lF_RX12 rfl (by decide +kernel)
theorem un_RX12_524 : x_nS RX12 524 := x_nS_tb (c0 := "LocationDeskModel") (n0 := "variables") lF_RX12 rfl (by decide +kernel)
theorem uf_RX12_556 : x_uF RX12 556 12 90 := x_uF_tb (c0 := "LocationDeskModel") (n0 := "waiting") lF_RX12 rfl (by decide +kernel)
theorem un_RX12_556 : x_nS RX12 556 := x_nS_tb (c0 := "LocationDeskModel") (n0 := "waiting") lF_RX12 rfl (by decide +kernel)
theorem uf_RX12_577 : x_uF RX12 577 12 91 := x_uF_tb (c0 := "LocationDeskModel") (n0 := "isClosed") lF_RX12 rfl (by decide +kernel)
theorem un_RX12_577 : x_nS RX12 577 := x_nS_tb (c0 := "LocationDeskModel") (n0 := "isClosed") lF_RX12 rfl (by decide +kernel)
theorem uf_RX12_99 : x_uF RX12 99 12 55 := x_uF_tb (c0 := "LocationDeskModel") (n0 := "placeTold") lF_RX12 rfl (by decide +kernel)
theorem un_RX12_99 : x_nS RX12 99 := x_nS_tb (c0 := "LocationDeskModel") (n0 := "placeTold") lF_RX12 rfl (by decide +kernel)
theorem um_RX12_193 : x_uM RX12 193 yX12_puts := x_uM_tb lM_RX12 rfl
theorem um_RX12_380 : x_uM RX12 380 yX12_tells := x_uM_tb lM_RX12 rfl
theorem um_RX12_423 : x_uM RX12 423 yX12_isSmall := x_uM_tb lM_RX12 rfl
theorem um_RX12_449 : x_uM RX12 449 yX12_sign := x_uM_tb lM_RX12 rfl
theorem um_RX12_452 : x_uM RX12 452 yX12_isDigit := x_uM_tb lM_RX12 rfl
theorem um_RX12_457 : x_uM RX12 457 yX12_token := x_uM_tb lM_RX12 rfl
theorem um_RX12_461 : x_uM RX12 461 yX12_word := x_uM_tb lM_RX12 rfl
theorem um_RX12_469 : x_uM RX12 469 yX12_isLetter := x_uM_tb lM_RX12 rfl
theorem um_RX12_472 : x_uM RX12 472 yX12_signs := x_uM_tb lM_RX12 rfl
theorem um_RX12_484 : x_uM RX12 484 yX12_isSign := x_uM_tb lM_RX12 rfl
theorem um_RX12_487 : x_uM RX12 487 yX12_fail := x_uM_tb lM_RX12 rfl
theorem um_RX12_496 : x_uM RX12 496 yX12_emit := x_uM_tb lM_RX12 rfl
theorem um_RX12_505 : x_uM RX12 505 yX12_emits := x_uM_tb lM_RX12 rfl
theorem um_RX12_513 : x_uM RX12 513 yX12_tokens := x_uM_tb lM_RX12 rfl
theorem um_RX12_518 : x_uM RX12 518 yX12_declared := x_uM_tb lM_RX12 rfl
theorem um_RX12_521 : x_uM RX12 521 yX12_faulty := x_uM_tb lM_RX12 rfl
theorem um_RX12_527 : x_uM RX12 527 yX12_need := x_uM_tb lM_RX12 rfl
theorem um_RX12_530 : x_uM RX12 530 yX12_rows := x_uM_tb lM_RX12 rfl
theorem um_RX12_532 : x_uM RX12 532 yX12_location := x_uM_tb lM_RX12 rfl
theorem um_RX12_535 : x_uM RX12 535 yX12_isWord := x_uM_tb lM_RX12 rfl
theorem um_RX12_538 : x_uM RX12 538 yX12_opens := x_uM_tb lM_RX12 rfl
theorem um_RX12_541 : x_uM RX12 541 yX12_isPlace := x_uM_tb lM_RX12 rfl
theorem um_RX12_544 : x_uM RX12 544 yX12_place := x_uM_tb lM_RX12 rfl
theorem um_RX12_549 : x_uM RX12 549 yX12_unsigned := x_uM_tb lM_RX12 rfl
theorem um_RX12_553 : x_uM RX12 553 yX12_chosen := x_uM_tb lM_RX12 rfl
theorem um_RX12_559 : x_uM RX12 559 yX12_tops := x_uM_tb lM_RX12 rfl
theorem um_RX12_563 : x_uM RX12 563 yX12_emitted := x_uM_tb lM_RX12 rfl
theorem um_RX12_566 : x_uM RX12 566 yX12_reduced := x_uM_tb lM_RX12 rfl
theorem um_RX12_569 : x_uM RX12 569 yX12_turned := x_uM_tb lM_RX12 rfl
theorem um_RX12_571 : x_uM RX12 571 yX12_operand := x_uM_tb lM_RX12 rfl
theorem um_RX12_574 : x_uM RX12 574 yX12_operator := x_uM_tb lM_RX12 rfl
theorem um_RX12_580 : x_uM RX12 580 yX12_later := x_uM_tb lM_RX12 rfl
theorem um_RX12_583 : x_uM RX12 583 yX12_push := x_uM_tb lM_RX12 rfl
theorem um_RX12_586 : x_uM RX12 586 yX12_registered := x_uM_tb lM_RX12 rfl
theorem um_RX12_589 : x_uM RX12 589 yX12_combined := x_uM_tb lM_RX12 rfl
theorem um_RX12_593 : x_uM RX12 593 yX12_signed := x_uM_tb lM_RX12 rfl
theorem um_RX12_596 : x_uM RX12 596 yX12_finished := x_uM_tb lM_RX12 rfl
theorem um_RX12_599 : x_uM RX12 599 yX12_adds := x_uM_tb lM_RX12 rfl
theorem um_RX12_602 : x_uM RX12 602 yX12_isAlone := x_uM_tb lM_RX12 rfl
theorem um_RX12_607 : x_uM RX12 607 yX12_multiplies := x_uM_tb lM_RX12 rfl
theorem um_RX12_610 : x_uM RX12 610 yX12_binary := x_uM_tb lM_RX12 rfl
theorem um_RX12_614 : x_uM RX12 614 yX12_added := x_uM_tb lM_RX12 rfl
theorem um_RX12_617 : x_uM RX12 617 yX12_shifts := x_uM_tb lM_RX12 rfl
theorem um_RX12_620 : x_uM RX12 620 yX12_compares := x_uM_tb lM_RX12 rfl
theorem um_RX12_623 : x_uM RX12 623 yX12_ended := x_uM_tb lM_RX12 rfl
theorem um_RX12_626 : x_uM RX12 626 yX12_reducedAll := x_uM_tb lM_RX12 rfl
theorem ujX12_added : x_uJ yX12_added 245 := x_uJ_nd (show xMM 245 = some _ from rfl)
theorem ujX12_adds : x_uJ yX12_adds 250 := x_uJ_nd (show xMM 250 = some _ from rfl)
theorem ujX12_binary : x_uJ yX12_binary 244 := x_uJ_nd (show xMM 244 = some _ from rfl)
theorem ujX12_chosen : x_uJ yX12_chosen 238 := x_uJ_nd (show xMM 238 = some _ from rfl)
theorem ujX12_combined : x_uJ yX12_combined 241 := x_uJ_nd (show xMM 241 = some _ from rfl)
theorem ujX12_compares : x_uJ yX12_compares 246 := x_uJ_nd (show xMM 246 = some _ from rfl)
theorem ujX12_declared : x_uJ yX12_declared 226 := x_uJ_nd (show xMM 226 = some _ from rfl)
theorem ujX12_emit : x_uJ yX12_emit 219 := x_uJ_nd (show xMM 219 = some _ from rfl)
theorem ujX12_emits : x_uJ yX12_emits 220 := x_uJ_nd (show xMM 220 = some _ from rfl)
theorem ujX12_emitted : x_uJ yX12_emitted 233 := x_uJ_nd (show xMM 233 = some _ from rfl)
theorem ujX12_ended : x_uJ yX12_ended 243 := x_uJ_nd (show xMM 243 = some _ from rfl)
theorem ujX12_fail : x_uJ yX12_fail 214 := x_uJ_nd (show xMM 214 = some _ from rfl)
theorem ujX12_faulty : x_uJ yX12_faulty 224 := x_uJ_nd (show xMM 224 = some _ from rfl)
theorem ujX12_finished : x_uJ yX12_finished 234 := x_uJ_nd (show xMM 234 = some _ from rfl)
theorem ujX12_isAlone : x_uJ yX12_isAlone 249 := x_uJ_nd (show xMM 249 = some _ from rfl)
theorem ujX12_isDigit : x_uJ yX12_isDigit 208 := x_uJ_nd (show xMM 208 = some _ from rfl)
theorem ujX12_isLetter : x_uJ yX12_isLetter 209 := x_uJ_nd (show xMM 209 = some _ from rfl)
theorem ujX12_isPlace : x_uJ yX12_isPlace 228 := x_uJ_nd (show xMM 228 = some _ from rfl)
theorem ujX12_isSign : x_uJ yX12_isSign 215 := x_uJ_nd (show xMM 215 = some _ from rfl)
theorem ujX12_isSmall : x_uJ yX12_isSmall 207 := x_uJ_nd (show xMM 207 = some _ from rfl)
theorem ujX12_isWord : x_uJ yX12_isWord 216 := x_uJ_nd (show xMM 216 = some _ from rfl)
theorem ujX12_later : x_uJ yX12_later 231 := x_uJ_nd (show xMM 231 = some _ from rfl)
theorem ujX12_location : x_uJ yX12_location 229 := x_uJ_nd (show xMM 229 = some _ from rfl)
theorem ujX12_multiplies : x_uJ yX12_multiplies 248 := x_uJ_nd (show xMM 248 = some _ from rfl)
theorem ujX12_need : x_uJ yX12_need 217 := x_uJ_nd (show xMM 217 = some _ from rfl)
theorem ujX12_opens : x_uJ yX12_opens 218 := x_uJ_nd (show xMM 218 = some _ from rfl)
theorem ujX12_operand : x_uJ yX12_operand 239 := x_uJ_nd (show xMM 239 = some _ from rfl)
theorem ujX12_operator : x_uJ yX12_operator 242 := x_uJ_nd (show xMM 242 = some _ from rfl)
theorem ujX12_place : x_uJ yX12_place 230 := x_uJ_nd (show xMM 230 = some _ from rfl)
theorem ujX12_push : x_uJ yX12_push 223 := x_uJ_nd (show xMM 223 = some _ from rfl)
theorem ujX12_puts : x_uJ yX12_puts 153 := x_uJ_nd (show xMM 153 = some _ from rfl)
theorem ujX12_reduced : x_uJ yX12_reduced 235 := x_uJ_nd (show xMM 235 = some _ from rfl)
theorem ujX12_reducedAll : x_uJ yX12_reducedAll 237 := x_uJ_nd (show xMM 237 = some _ from rfl)
theorem ujX12_registered : x_uJ yX12_registered 240 := x_uJ_nd (show xMM 240 = some _ from rfl)
theorem ujX12_rows : x_uJ yX12_rows 227 := x_uJ_nd (show xMM 227 = some _ from rfl)
theorem ujX12_shifts : x_uJ yX12_shifts 247 := x_uJ_nd (show xMM 247 = some _ from rfl)
theorem ujX12_sign : x_uJ yX12_sign 206 := x_uJ_nd (show xMM 206 = some _ from rfl)
theorem ujX12_signed : x_uJ yX12_signed 222 := x_uJ_nd (show xMM 222 = some _ from rfl)
theorem ujX12_signs : x_uJ yX12_signs 213 := x_uJ_nd (show xMM 213 = some _ from rfl)
theorem ujX12_tells : x_uJ yX12_tells 188 := x_uJ_nd (show xMM 188 = some _ from rfl)
theorem ujX12_token : x_uJ yX12_token 211 := x_uJ_nd (show xMM 211 = some _ from rfl)
theorem ujX12_tokens : x_uJ yX12_tokens 212 := x_uJ_nd (show xMM 212 = some _ from rfl)
theorem ujX12_tops : x_uJ yX12_tops 232 := x_uJ_nd (show xMM 232 = some _ from rfl)
theorem ujX12_turned : x_uJ yX12_turned 236 := x_uJ_nd (show xMM 236 = some _ from rfl)
theorem ujX12_unsigned : x_uJ yX12_unsigned 221 := x_uJ_nd (show xMM 221 = some _ from rfl)
theorem ujX12_word : x_uJ yX12_word 210 := x_uJ_nd (show xMM 210 = some _ from rfl)
theorem uk_RX12_250 : ∀ v, Cond.constantLong RX12 250 v ∈ x_Ts → v = (63 : Int64) := x_uC_tb lC_RX12 rfl
theorem uk_RX12_310 : ∀ v, Cond.constantLong RX12 310 v ∈ x_Ts → v = (31 : Int64) := x_uC_tb lC_RX12 rfl
theorem uk_RX12_315 : ∀ v, Cond.constantLong RX12 315 v ∈ x_Ts → v = (8 : Int64) := x_uC_tb lC_RX12 rfl
theorem uk_RX12_426 : ∀ v, Cond.constantLong RX12 426 v ∈ x_Ts → v = (24834 : Int64) := x_uC_tb lC_RX12 rfl
theorem uk_RX12_428 : ∀ v, Cond.constantLong RX12 428 v ∈ x_Ts → v = (41299405 : Int64) := x_uC_tb lC_RX12 rfl
theorem uk_RX12_430 : ∀ v, Cond.constantLong RX12 430 v ∈ x_Ts → v = (5042231 : Int64) := x_uC_tb lC_RX12 rfl
theorem uk_RX12_432 : ∀ v, Cond.constantLong RX12 432 v ∈ x_Ts → v = (730200 : Int64) := x_uC_tb lC_RX12 rfl
theorem uk_RX12_434 : ∀ v, Cond.constantLong RX12 434 v ∈ x_Ts → v = (224 : Int64) := x_uC_tb lC_RX12 rfl
theorem uk_RX12_436 : ∀ v, Cond.constantLong RX12 436 v ∈ x_Ts → v = (4330 : Int64) := x_uC_tb lC_RX12 rfl
theorem uk_RX12_438 : ∀ v, Cond.constantLong RX12 438 v ∈ x_Ts → v = (20619 : Int64) := x_uC_tb lC_RX12 rfl
theorem uk_RX12_440 : ∀ v, Cond.constantLong RX12 440 v ∈ x_Ts → v = (27843 : Int64) := x_uC_tb lC_RX12 rfl
theorem uk_RX12_442 : ∀ v, Cond.constantLong RX12 442 v ∈ x_Ts → v = (5831 : Int64) := x_uC_tb lC_RX12 rfl
theorem uk_RX12_444 : ∀ v, Cond.constantLong RX12 444 v ∈ x_Ts → v = (18356 : Int64) := x_uC_tb lC_RX12 rfl
theorem uk_RX12_455 : ∀ v, Cond.constantLong RX12 455 v ∈ x_Ts → v = (37 : Int64) := x_uC_tb lC_RX12 rfl
theorem uk_RX12_465 : ∀ v, Cond.constantLong RX12 465 v ∈ x_Ts → v = (10 : Int64) := x_uC_tb lC_RX12 rfl
theorem uk_RX12_467 : ∀ v, Cond.constantLong RX12 467 v ∈ x_Ts → v = (48 : Int64) := x_uC_tb lC_RX12 rfl
theorem uk_RX12_499 : ∀ v, Cond.constantLong RX12 499 v ∈ x_Ts → v = (127 : Int64) := x_uC_tb lC_RX12 rfl
theorem uk_RX12_501 : ∀ v, Cond.constantLong RX12 501 v ∈ x_Ts → v = (-64 : Int64) := x_uC_tb lC_RX12 rfl
theorem uk_RX12_503 : ∀ v, Cond.constantLong RX12 503 v ∈ x_Ts → v = (255 : Int64) := x_uC_tb lC_RX12 rfl
theorem uk_RX12_509 : ∀ v, Cond.constantLong RX12 509 v ∈ x_Ts → v = (65535 : Int64) := x_uC_tb lC_RX12 rfl
theorem uk_RX12_511 : ∀ v, Cond.constantLong RX12 511 v ∈ x_Ts → v = (4294967295 : Int64) := x_uC_tb lC_RX12 rfl
theorem uk_RX12_547 : ∀ v, Cond.constantLong RX12 547 v ∈ x_Ts → v = (64 : Int64) := x_uC_tb lC_RX12 rfl
theorem uk_RX12_605 : ∀ v, Cond.constantLong RX12 605 v ∈ x_Ts → v = (43 : Int64) := x_uC_tb lC_RX12 rfl
theorem uk_RX12_629 : ∀ v, Cond.constantLong RX12 629 v ∈ x_Ts → v = (257 : Int64) := x_uC_tb lC_RX12 rfl
theorem uk_RX12_631 : ∀ v, Cond.constantLong RX12 631 v ∈ x_Ts → v = (258 : Int64) := x_uC_tb lC_RX12 rfl
theorem uk_RX12_633 : ∀ v, Cond.constantLong RX12 633 v ∈ x_Ts → v = (60 : Int64) := x_uC_tb lC_RX12 rfl
theorem uk_RX12_635 : ∀ v, Cond.constantLong RX12 635 v ∈ x_Ts → v = (259 : Int64) := x_uC_tb lC_RX12 rfl
theorem uk_RX12_637 : ∀ v, Cond.constantLong RX12 637 v ∈ x_Ts → v = (62 : Int64) := x_uC_tb lC_RX12 rfl
theorem uk_RX12_639 : ∀ v, Cond.constantLong RX12 639 v ∈ x_Ts → v = (260 : Int64) := x_uC_tb lC_RX12 rfl
theorem uk_RX12_641 : ∀ v, Cond.constantLong RX12 641 v ∈ x_Ts → v = (261 : Int64) := x_uC_tb lC_RX12 rfl
theorem uk_RX12_643 : ∀ v, Cond.constantLong RX12 643 v ∈ x_Ts → v = (262 : Int64) := x_uC_tb lC_RX12 rfl
theorem uk_RX12_645 : ∀ v, Cond.constantLong RX12 645 v ∈ x_Ts → v = (263 : Int64) := x_uC_tb lC_RX12 rfl
theorem uk_RX12_647 : ∀ v, Cond.constantLong RX12 647 v ∈ x_Ts → v = (42 : Int64) := x_uC_tb lC_RX12 rfl
theorem uk_RX12_649 : ∀ v, Cond.constantLong RX12 649 v ∈ x_Ts → v = (9 : Int64) := x_uC_tb lC_RX12 rfl
theorem uk_RX12_651 : ∀ v, Cond.constantLong RX12 651 v ∈ x_Ts → v = (45 : Int64) := x_uC_tb lC_RX12 rfl
end
