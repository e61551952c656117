/-! Small rules for the printed walks. -/
theorem pk_w {n : Nat} {SH : Nat → Nat × Nat} {FR : Nat → Nat → Option Nat} {c k : Nat} {p : Option Nat} (h : pk n SH FR) (m : (hf_L.all (fun e => !(e.1 == c && e.2.1 == k)) && !(49 == c && 1 == k)) = true) : pk n SH (h_up FR c k p) := by
  rw [Bool.and_eq_true] at m
  refine ⟨h.1, fun e he ht => ?_, ?_⟩
  · have h1 := List.all_eq_true.mp m.1 e he
    have h2 := h.2.1 e he ht
    by_cases hc : e.1 = c
    · by_cases hk : e.2.1 = k
      · simp [hc, hk] at h1
      · rw [hc, h_up_ne hk, ← hc]; exact h2
    · rw [h_up_nc hc]; exact h2
  · have h1 := m.2
    by_cases hc : 49 = c
    · by_cases hk : 1 = k
      · simp [← hc, ← hk] at h1
      · rw [← hc, h_up_ne hk]; exact h.2.2
    · rw [h_up_nc hc]; exact h.2.2
theorem pk_a {n : Nat} {SH : Nat → Nat × Nat} {FR : Nat → Nat → Option Nat} {c k : Nat} {p : Option Nat} (h : pk n SH FR) (m : hf_L.all (fun e => !(e.1 == c)) = true) : pk n SH (h_up FR c k p) := by
  refine ⟨h.1, fun e he ht => ?_, ?_⟩
  · have h1 := List.all_eq_true.mp m e he
    have hc : e.1 ≠ c := by simpa using h1
    rw [h_up_nc hc]; exact h.2.1 e he ht
  · have h1 := List.all_eq_true.mp m (49, 0, 23) (by decide +kernel)
    have hc : (49 : Nat) ≠ c := by simpa using h1
    rw [h_up_nc hc]; exact h.2.2
theorem pk_t {n : Nat} {SH : Nat → Nat × Nat} {FR : Nat → Nat → Option Nat} {c k t : Nat} {p : Option Nat} (h : pk n SH FR) (hs : (SH c).1 = t) (m : hf_L.all (fun e => decide (e.1 < 176) && (!((hs_L.getD e.1 (0, 0)).1 == t) || !(e.2.1 == k))) = true) : pk n SH (h_up FR c k p) := by
  refine ⟨h.1, fun e he ht => ?_, ?_⟩
  · have h1 := List.all_eq_true.mp m e he
    rw [Bool.and_eq_true] at h1
    have h3 := of_decide_eq_true h1.1
    have h2 := h.2.1 e he ht
    by_cases hc : e.1 = c
    · by_cases hk : e.2.1 = k
      · exfalso
        have h4 := h.1.2 e.1 h3
        rw [hc, ] at h4
        have h5 := h1.2
        rw [hc, ← h4, hs, hk] at h5
        simp at h5
      · rw [hc, h_up_ne hk, ← hc]; exact h2
    · rw [h_up_nc hc]; exact h2
  · have h1 := List.all_eq_true.mp m (48, 1, 49) (by decide +kernel)
    rw [Bool.and_eq_true] at h1
    by_cases hc : 49 = c
    · by_cases hk : 1 = k
      · exfalso
        have h4 : SH 49 = (9, 0) := (h.1.2 49 (by decide)).trans (by decide +kernel)
        subst hc; subst hk
        rw [h4] at hs
        have h5 := h1.2
        rw [← hs] at h5
        exact absurd h5 (by decide +kernel)
      · rw [← hc, h_up_ne hk]; exact h.2.2
    · rw [h_up_nc hc]; exact h.2.2
theorem pk_ar {n : Nat} {SH : Nat → Nat × Nat} {FR : Nat → Nat → Option Nat} {c k : Nat} {p : Option Nat} (h : pk n SH FR) (hs : 100 ≤ (SH c).1) : pk n SH (h_up FR c k p) := by
  have m : hf_L.all (fun e => decide (e.1 < 176)) = true := by decide +kernel
  refine ⟨h.1, fun e he ht => ?_, ?_⟩
  · have h3 := of_decide_eq_true (List.all_eq_true.mp m e he)
    have hc : e.1 ≠ c := fun e9 => by
      have h4 := h.1.2 e.1 h3
      rw [e9] at h4 ht
      rw [h4] at hs
      omega
    rw [h_up_nc hc]; exact h.2.1 e he ht
  · have hc : (49 : Nat) ≠ c := fun e9 => by
      have h4 : SH 49 = (9, 0) := (h.1.2 49 (by decide)).trans (by decide +kernel)
      rw [← e9, h4] at hs
      exact absurd hs (by decide)
    rw [h_up_nc hc]; exact h.2.2
theorem q0_0 {FR : Nat → Nat → Option Nat} (h : h_FO FR) : FR 0 0 = some 23 := h (0, 0, 23) (by decide +kernel) (by decide +kernel)
theorem q0_1 {FR : Nat → Nat → Option Nat} (h : h_FO FR) : FR 0 1 = some 48 := h (0, 1, 48) (by decide +kernel) (by decide +kernel)
theorem q0_2 {FR : Nat → Nat → Option Nat} (h : h_FO FR) : FR 0 2 = some 90 := h (0, 2, 90) (by decide +kernel) (by decide +kernel)
theorem q0_3 {FR : Nat → Nat → Option Nat} (h : h_FO FR) : FR 0 3 = some 110 := h (0, 3, 110) (by decide +kernel) (by decide +kernel)
theorem q0_4 {FR : Nat → Nat → Option Nat} (h : h_FO FR) : FR 0 4 = some 119 := h (0, 4, 119) (by decide +kernel) (by decide +kernel)
theorem q0_5 {FR : Nat → Nat → Option Nat} (h : h_FO FR) : FR 0 5 = some 1 := h (0, 5, 1) (by decide +kernel) (by decide +kernel)
theorem q0_6 {FR : Nat → Nat → Option Nat} (h : h_FO FR) : FR 0 6 = some 19 := h (0, 6, 19) (by decide +kernel) (by decide +kernel)
theorem q0_7 {FR : Nat → Nat → Option Nat} (h : h_FO FR) : FR 0 7 = some 20 := h (0, 7, 20) (by decide +kernel) (by decide +kernel)
theorem q0_8 {FR : Nat → Nat → Option Nat} (h : h_FO FR) : FR 0 8 = some 21 := h (0, 8, 21) (by decide +kernel) (by decide +kernel)
theorem q1_0 {FR : Nat → Nat → Option Nat} (h : h_FO FR) : FR 1 0 = some 2 := h (1, 0, 2) (by decide +kernel) (by decide +kernel)
theorem q23_0 {FR : Nat → Nat → Option Nat} (h : h_FO FR) : FR 23 0 = some 24 := h (23, 0, 24) (by decide +kernel) (by decide +kernel)
theorem q23_1 {FR : Nat → Nat → Option Nat} (h : h_FO FR) : FR 23 1 = some 25 := h (23, 1, 25) (by decide +kernel) (by decide +kernel)
theorem q23_2 {FR : Nat → Nat → Option Nat} (h : h_FO FR) : FR 23 2 = some 26 := h (23, 2, 26) (by decide +kernel) (by decide +kernel)
theorem q23_3 {FR : Nat → Nat → Option Nat} (h : h_FO FR) : FR 23 3 = some 43 := h (23, 3, 43) (by decide +kernel) (by decide +kernel)
theorem q48_0 {FR : Nat → Nat → Option Nat} (h : h_FO FR) : FR 48 0 = some 23 := h (48, 0, 23) (by decide +kernel) (by decide +kernel)
theorem q48_1 {FR : Nat → Nat → Option Nat} (h : h_FO FR) : FR 48 1 = some 49 := h (48, 1, 49) (by decide +kernel) (by decide +kernel)
theorem q48_2 {FR : Nat → Nat → Option Nat} (h : h_FO FR) : FR 48 2 = some 70 := h (48, 2, 70) (by decide +kernel) (by decide +kernel)
theorem q48_3 {FR : Nat → Nat → Option Nat} (h : h_FO FR) : FR 48 3 = some 71 := h (48, 3, 71) (by decide +kernel) (by decide +kernel)
theorem q48_4 {FR : Nat → Nat → Option Nat} (h : h_FO FR) : FR 48 4 = some 72 := h (48, 4, 72) (by decide +kernel) (by decide +kernel)
theorem q49_0 {FR : Nat → Nat → Option Nat} (h : h_FO FR) : FR 49 0 = some 23 := h (49, 0, 23) (by decide +kernel) (by decide +kernel)
theorem q49_2 {FR : Nat → Nat → Option Nat} (h : h_FO FR) : FR 49 2 = some 50 := h (49, 2, 50) (by decide +kernel) (by decide +kernel)
theorem q49_3 {FR : Nat → Nat → Option Nat} (h : h_FO FR) : FR 49 3 = some 51 := h (49, 3, 51) (by decide +kernel) (by decide +kernel)
theorem q49_4 {FR : Nat → Nat → Option Nat} (h : h_FO FR) : FR 49 4 = some 52 := h (49, 4, 52) (by decide +kernel) (by decide +kernel)
theorem q52_0 {FR : Nat → Nat → Option Nat} (h : h_FO FR) : FR 52 0 = some 53 := h (52, 0, 53) (by decide +kernel) (by decide +kernel)
theorem q72_0 {FR : Nat → Nat → Option Nat} (h : h_FO FR) : FR 72 0 = some 73 := h (72, 0, 73) (by decide +kernel) (by decide +kernel)
theorem q90_0 {FR : Nat → Nat → Option Nat} (h : h_FO FR) : FR 90 0 = some 23 := h (90, 0, 23) (by decide +kernel) (by decide +kernel)
theorem q90_1 {FR : Nat → Nat → Option Nat} (h : h_FO FR) : FR 90 1 = some 48 := h (90, 1, 48) (by decide +kernel) (by decide +kernel)
theorem q90_2 {FR : Nat → Nat → Option Nat} (h : h_FO FR) : FR 90 2 = some 91 := h (90, 2, 91) (by decide +kernel) (by decide +kernel)
theorem q90_3 {FR : Nat → Nat → Option Nat} (h : h_FO FR) : FR 90 3 = some 109 := h (90, 3, 109) (by decide +kernel) (by decide +kernel)
theorem q91_0 {FR : Nat → Nat → Option Nat} (h : h_FO FR) : FR 91 0 = some 92 := h (91, 0, 92) (by decide +kernel) (by decide +kernel)
theorem q110_0 {FR : Nat → Nat → Option Nat} (h : h_FO FR) : FR 110 0 = some 111 := h (110, 0, 111) (by decide +kernel) (by decide +kernel)
theorem q110_1 {FR : Nat → Nat → Option Nat} (h : h_FO FR) : FR 110 1 = some 117 := h (110, 1, 117) (by decide +kernel) (by decide +kernel)
theorem q111_0 {FR : Nat → Nat → Option Nat} (h : h_FO FR) : FR 111 0 = some 112 := h (111, 0, 112) (by decide +kernel) (by decide +kernel)
theorem q111_1 {FR : Nat → Nat → Option Nat} (h : h_FO FR) : FR 111 1 = some 113 := h (111, 1, 113) (by decide +kernel) (by decide +kernel)
theorem q111_2 {FR : Nat → Nat → Option Nat} (h : h_FO FR) : FR 111 2 = some 114 := h (111, 2, 114) (by decide +kernel) (by decide +kernel)
theorem q111_3 {FR : Nat → Nat → Option Nat} (h : h_FO FR) : FR 111 3 = some 115 := h (111, 3, 115) (by decide +kernel) (by decide +kernel)
theorem q119_0 {FR : Nat → Nat → Option Nat} (h : h_FO FR) : FR 119 0 = some 120 := h (119, 0, 120) (by decide +kernel) (by decide +kernel)
theorem q121_1 {FR : Nat → Nat → Option Nat} (h : h_FO FR) : FR 121 1 = some 122 := h (121, 1, 122) (by decide +kernel) (by decide +kernel)
theorem q121_2 {FR : Nat → Nat → Option Nat} (h : h_FO FR) : FR 121 2 = some 123 := h (121, 2, 123) (by decide +kernel) (by decide +kernel)
theorem q121_3 {FR : Nat → Nat → Option Nat} (h : h_FO FR) : FR 121 3 = some 124 := h (121, 3, 124) (by decide +kernel) (by decide +kernel)
theorem q121_4 {FR : Nat → Nat → Option Nat} (h : h_FO FR) : FR 121 4 = some 125 := h (121, 4, 125) (by decide +kernel) (by decide +kernel)
theorem q121_12 {FR : Nat → Nat → Option Nat} (h : h_FO FR) : FR 121 12 = some 126 := h (121, 12, 126) (by decide +kernel) (by decide +kernel)
theorem q121_14 {FR : Nat → Nat → Option Nat} (h : h_FO FR) : FR 121 14 = some 127 := h (121, 14, 127) (by decide +kernel) (by decide +kernel)
theorem q121_15 {FR : Nat → Nat → Option Nat} (h : h_FO FR) : FR 121 15 = some 128 := h (121, 15, 128) (by decide +kernel) (by decide +kernel)
theorem q121_16 {FR : Nat → Nat → Option Nat} (h : h_FO FR) : FR 121 16 = some 129 := h (121, 16, 129) (by decide +kernel) (by decide +kernel)
theorem q121_17 {FR : Nat → Nat → Option Nat} (h : h_FO FR) : FR 121 17 = some 130 := h (121, 17, 130) (by decide +kernel) (by decide +kernel)
theorem q121_18 {FR : Nat → Nat → Option Nat} (h : h_FO FR) : FR 121 18 = some 131 := h (121, 18, 131) (by decide +kernel) (by decide +kernel)
theorem q121_19 {FR : Nat → Nat → Option Nat} (h : h_FO FR) : FR 121 19 = some 132 := h (121, 19, 132) (by decide +kernel) (by decide +kernel)
theorem q121_20 {FR : Nat → Nat → Option Nat} (h : h_FO FR) : FR 121 20 = some 133 := h (121, 20, 133) (by decide +kernel) (by decide +kernel)
theorem q121_21 {FR : Nat → Nat → Option Nat} (h : h_FO FR) : FR 121 21 = some 134 := h (121, 21, 134) (by decide +kernel) (by decide +kernel)
theorem q121_22 {FR : Nat → Nat → Option Nat} (h : h_FO FR) : FR 121 22 = some 135 := h (121, 22, 135) (by decide +kernel) (by decide +kernel)
theorem q121_23 {FR : Nat → Nat → Option Nat} (h : h_FO FR) : FR 121 23 = some 136 := h (121, 23, 136) (by decide +kernel) (by decide +kernel)
theorem q121_24 {FR : Nat → Nat → Option Nat} (h : h_FO FR) : FR 121 24 = some 137 := h (121, 24, 137) (by decide +kernel) (by decide +kernel)
theorem q121_25 {FR : Nat → Nat → Option Nat} (h : h_FO FR) : FR 121 25 = some 138 := h (121, 25, 138) (by decide +kernel) (by decide +kernel)
theorem q121_26 {FR : Nat → Nat → Option Nat} (h : h_FO FR) : FR 121 26 = some 139 := h (121, 26, 139) (by decide +kernel) (by decide +kernel)
theorem q121_27 {FR : Nat → Nat → Option Nat} (h : h_FO FR) : FR 121 27 = some 140 := h (121, 27, 140) (by decide +kernel) (by decide +kernel)
theorem q121_28 {FR : Nat → Nat → Option Nat} (h : h_FO FR) : FR 121 28 = some 141 := h (121, 28, 141) (by decide +kernel) (by decide +kernel)
theorem q121_45 {FR : Nat → Nat → Option Nat} (h : h_FO FR) : FR 121 45 = some 142 := h (121, 45, 142) (by decide +kernel) (by decide +kernel)
theorem q121_48 {FR : Nat → Nat → Option Nat} (h : h_FO FR) : FR 121 48 = some 143 := h (121, 48, 143) (by decide +kernel) (by decide +kernel)
theorem q121_49 {FR : Nat → Nat → Option Nat} (h : h_FO FR) : FR 121 49 = some 144 := h (121, 49, 144) (by decide +kernel) (by decide +kernel)
theorem q121_50 {FR : Nat → Nat → Option Nat} (h : h_FO FR) : FR 121 50 = some 145 := h (121, 50, 145) (by decide +kernel) (by decide +kernel)
theorem q121_51 {FR : Nat → Nat → Option Nat} (h : h_FO FR) : FR 121 51 = some 146 := h (121, 51, 146) (by decide +kernel) (by decide +kernel)
theorem q121_52 {FR : Nat → Nat → Option Nat} (h : h_FO FR) : FR 121 52 = some 147 := h (121, 52, 147) (by decide +kernel) (by decide +kernel)
theorem q121_60 {FR : Nat → Nat → Option Nat} (h : h_FO FR) : FR 121 60 = some 148 := h (121, 60, 148) (by decide +kernel) (by decide +kernel)
theorem q121_62 {FR : Nat → Nat → Option Nat} (h : h_FO FR) : FR 121 62 = some 149 := h (121, 62, 149) (by decide +kernel) (by decide +kernel)
theorem q121_63 {FR : Nat → Nat → Option Nat} (h : h_FO FR) : FR 121 63 = some 150 := h (121, 63, 150) (by decide +kernel) (by decide +kernel)
theorem q121_64 {FR : Nat → Nat → Option Nat} (h : h_FO FR) : FR 121 64 = some 151 := h (121, 64, 151) (by decide +kernel) (by decide +kernel)
theorem q121_65 {FR : Nat → Nat → Option Nat} (h : h_FO FR) : FR 121 65 = some 152 := h (121, 65, 152) (by decide +kernel) (by decide +kernel)
theorem q121_66 {FR : Nat → Nat → Option Nat} (h : h_FO FR) : FR 121 66 = some 153 := h (121, 66, 153) (by decide +kernel) (by decide +kernel)
theorem q121_72 {FR : Nat → Nat → Option Nat} (h : h_FO FR) : FR 121 72 = some 154 := h (121, 72, 154) (by decide +kernel) (by decide +kernel)
theorem q121_75 {FR : Nat → Nat → Option Nat} (h : h_FO FR) : FR 121 75 = some 155 := h (121, 75, 155) (by decide +kernel) (by decide +kernel)
theorem q121_76 {FR : Nat → Nat → Option Nat} (h : h_FO FR) : FR 121 76 = some 156 := h (121, 76, 156) (by decide +kernel) (by decide +kernel)
theorem q121_77 {FR : Nat → Nat → Option Nat} (h : h_FO FR) : FR 121 77 = some 157 := h (121, 77, 157) (by decide +kernel) (by decide +kernel)
theorem q121_79 {FR : Nat → Nat → Option Nat} (h : h_FO FR) : FR 121 79 = some 158 := h (121, 79, 158) (by decide +kernel) (by decide +kernel)
theorem q121_80 {FR : Nat → Nat → Option Nat} (h : h_FO FR) : FR 121 80 = some 159 := h (121, 80, 159) (by decide +kernel) (by decide +kernel)
theorem q121_81 {FR : Nat → Nat → Option Nat} (h : h_FO FR) : FR 121 81 = some 160 := h (121, 81, 160) (by decide +kernel) (by decide +kernel)
theorem q121_82 {FR : Nat → Nat → Option Nat} (h : h_FO FR) : FR 121 82 = some 161 := h (121, 82, 161) (by decide +kernel) (by decide +kernel)
theorem q121_83 {FR : Nat → Nat → Option Nat} (h : h_FO FR) : FR 121 83 = some 162 := h (121, 83, 162) (by decide +kernel) (by decide +kernel)
theorem q121_84 {FR : Nat → Nat → Option Nat} (h : h_FO FR) : FR 121 84 = some 163 := h (121, 84, 163) (by decide +kernel) (by decide +kernel)
theorem q121_85 {FR : Nat → Nat → Option Nat} (h : h_FO FR) : FR 121 85 = some 164 := h (121, 85, 164) (by decide +kernel) (by decide +kernel)
theorem q121_86 {FR : Nat → Nat → Option Nat} (h : h_FO FR) : FR 121 86 = some 165 := h (121, 86, 165) (by decide +kernel) (by decide +kernel)
theorem q121_87 {FR : Nat → Nat → Option Nat} (h : h_FO FR) : FR 121 87 = some 166 := h (121, 87, 166) (by decide +kernel) (by decide +kernel)
theorem q121_88 {FR : Nat → Nat → Option Nat} (h : h_FO FR) : FR 121 88 = some 167 := h (121, 88, 167) (by decide +kernel) (by decide +kernel)
theorem q121_89 {FR : Nat → Nat → Option Nat} (h : h_FO FR) : FR 121 89 = some 168 := h (121, 89, 168) (by decide +kernel) (by decide +kernel)
theorem q121_96 {FR : Nat → Nat → Option Nat} (h : h_FO FR) : FR 121 96 = some 169 := h (121, 96, 169) (by decide +kernel) (by decide +kernel)
theorem q121_97 {FR : Nat → Nat → Option Nat} (h : h_FO FR) : FR 121 97 = some 170 := h (121, 97, 170) (by decide +kernel) (by decide +kernel)
theorem q121_98 {FR : Nat → Nat → Option Nat} (h : h_FO FR) : FR 121 98 = some 171 := h (121, 98, 171) (by decide +kernel) (by decide +kernel)
theorem q121_99 {FR : Nat → Nat → Option Nat} (h : h_FO FR) : FR 121 99 = some 172 := h (121, 99, 172) (by decide +kernel) (by decide +kernel)
theorem q121_100 {FR : Nat → Nat → Option Nat} (h : h_FO FR) : FR 121 100 = some 173 := h (121, 100, 173) (by decide +kernel) (by decide +kernel)
theorem q121_102 {FR : Nat → Nat → Option Nat} (h : h_FO FR) : FR 121 102 = some 174 := h (121, 102, 174) (by decide +kernel) (by decide +kernel)
theorem q121_103 {FR : Nat → Nat → Option Nat} (h : h_FO FR) : FR 121 103 = some 175 := h (121, 103, 175) (by decide +kernel) (by decide +kernel)
def u_cl (own : String) (idx : Nat) (v : Int64) : Bool := lw_tbl.all (fun w => match w with
  | .constantLong o i z => !(i == idx && o == own) || decide (z = v)
  | _ => true)
theorem u_cl_of {own : String} {idx : Nat} {v : Int64} (h : u_cl own idx v = true) : ∀ z, Cond.constantLong own idx z ∈ x_Ts → z = v := by
  intro z hz
  have h3 := List.all_eq_true.mp h _ (List.mem_filter.mp hz).1
  simpa using h3
section PS
variable {ρ τ : Type} {inj : ρ → Option Value} {sk : xK} {base N d : Nat} {X : Option (Nat × Nat × (Nat → Int32))} {j pc : Nat} {L : xL} {st : List Value} {s : hS}
theorem pw_L {L2 : xL} {Ψ : ρ → hS → Prop} (k : pw inj sk base N d X j pc L2 st s Ψ) (hs : x_sub L L2) : pw inj sk base N d X j pc L st s Ψ := fun n hn h r h' hR hg => k n hn h r h' hR (x_go_L n d X j pc L L2 st h r h' (x_sub_mem hs) hg)
theorem pw_ra {c : Nat} {A : Nat → ρ → hS → Prop} (k : pw inj sk base N d X j pc L st s (P_sm (some c) A)) : pw inj sk base N d X j pc L st s (A c) := pw_cons k (fun x s h => by obtain ⟨q, e, h⟩ := h; cases e; exact h)
theorem pw_sd {p : Prop} {A : ρ → hS → Prop} (k : pw inj sk base N d X j pc L st s (P_and p A)) : pw inj sk base N d X j pc L st s A := pw_cons k (fun x s h => h.2)
theorem pw_ite {c : Prop} [Decidable c] {a b : ρ} {s0 : hS} (k : pw inj sk base N d X j pc L st s (P_if c (P_ret a s0) (P_ret b s0))) : pw inj sk base N d X j pc L st s (P_ret (if c then a else b) s0) := pw_cons k (fun x s h => by
  rcases h with ⟨h1, h2, h3⟩ | ⟨h1, h2, h3⟩
  · exact ⟨by rw [if_pos h1]; exact h2, h3⟩
  · exact ⟨by rw [if_neg h1]; exact h2, h3⟩)
theorem pw_cf {C : τ → hS → Prop} {A : ρ → hS → Prop} (k : pw inj sk base N d X j pc L st s (P_bi C (fun _ _ _ _ _ _ _ => A))) : pw inj sk base N d X j pc L st s A := pw_cons k (fun x s h => by obtain ⟨v, n, sl, SH, FI, FL, FR, -, h⟩ := h; exact h)
end PS
section PL
variable {ρ : Type} {inj : ρ → Option Value} {sk : xK} {base N d : Nat} {j : Nat} {y : MethodName} {nL : Nat} {ret : Option FieldType} {pc : Nat} {L : xL} {st : List Value} {n sl : Nat} {SH : Nat → Nat × Nat} {FI : Nat → Nat → Int32} {FL : Nat → Nat → Int64} {FR : Nat → Nat → Option Nat} {B : ρ → hS → Prop} {c ix : Nat} {i : Int32}
theorem pw_ialdr (q : x_at xMM j pc .iaload 1 y nL ret) (hik : i.toInt.toNat = ix) (kk : p_in i (SH c).2 → pw inj sk base N d none j (pc + 1) L (.int (FI c ix) :: st) (n, sl, SH, FI, FL, FR) B) : pw inj sk base N d none j pc L (.int i :: .ref (base + c) :: st) (n, sl, SH, FI, FL, FR) (P_and (p_in i (SH c).2) B) :=
  pw_ra (A := fun c => P_and (p_in i (SH c).2) B) (pw_iald (o := some c) (A := fun _ => B) q hik (fun c2 e _ g => by cases e; exact kk g))
theorem pw_laldr (q : x_at xMM j pc .laload 1 y nL ret) (hik : i.toInt.toNat = ix) (kk : p_in i (SH c).2 → pw inj sk base N d none j (pc + 1) L (.long (FL c ix) :: st) (n, sl, SH, FI, FL, FR) B) : pw inj sk base N d none j pc L (.int i :: .ref (base + c) :: st) (n, sl, SH, FI, FL, FR) (P_and (p_in i (SH c).2) B) :=
  pw_ra (A := fun c => P_and (p_in i (SH c).2) B) (pw_lald (o := some c) (A := fun _ => B) q hik (fun c2 e _ g => by cases e; exact kk g))
theorem pw_zaldr (hkb : x_kb sk base) (q : x_at xMM j pc .baload 1 y nL ret) (hik : i.toInt.toNat = ix) (kk : p_in i (SH c).2 → pw inj sk base N d none j (pc + 1) L (.int (FI c ix) :: st) (n, sl, SH, FI, FL, FR) B) : pw inj sk base N d none j pc L (.int i :: .ref (base + c) :: st) (n, sl, SH, FI, FL, FR) (P_and (p_in i (SH c).2) B) :=
  pw_ra (A := fun c => P_and (p_in i (SH c).2) B) (pw_zald (o := some c) (A := fun _ => B) hkb q hik (fun c2 e _ g => by cases e; exact kk g))
theorem pw_aaldr (q : x_at xMM j pc .aaload 1 y nL ret) (hik : i.toInt.toNat = ix) (kk : p_in i (SH c).2 → pw inj sk base N d none j (pc + 1) L (va_rf (h_rf base (FR c ix)) :: st) (n, sl, SH, FI, FL, FR) B) : pw inj sk base N d none j pc L (.int i :: .ref (base + c) :: st) (n, sl, SH, FI, FL, FR) (P_and (p_in i (SH c).2) B) :=
  pw_ra (A := fun c => P_and (p_in i (SH c).2) B) (pw_aald (o := some c) (A := fun _ => B) q hik (fun c2 e _ g => by cases e; exact kk g))
theorem pw_iastr {v : Int32} (q : x_at xMM j pc .iastore 1 y nL ret) (hik : i.toInt.toNat = ix) (kk : p_in i (SH c).2 → pw inj sk base N d none j (pc + 1) L st (n, sl, SH, h_up FI c ix v, FL, FR) B) : pw inj sk base N d none j pc L (.int v :: .int i :: .ref (base + c) :: st) (n, sl, SH, FI, FL, FR) (P_and (p_in i (SH c).2) B) :=
  pw_ra (A := fun c => P_and (p_in i (SH c).2) B) (pw_iast (o := some c) (A := fun _ => B) q hik (fun c2 e _ g => by cases e; exact kk g))
theorem pw_lastr {v : Int64} (q : x_at xMM j pc .lastore 1 y nL ret) (hik : i.toInt.toNat = ix) (kk : p_in i (SH c).2 → pw inj sk base N d none j (pc + 1) L st (n, sl, SH, FI, h_up FL c ix v, FR) B) : pw inj sk base N d none j pc L (.long v :: .int i :: .ref (base + c) :: st) (n, sl, SH, FI, FL, FR) (P_and (p_in i (SH c).2) B) :=
  pw_ra (A := fun c => P_and (p_in i (SH c).2) B) (pw_last (o := some c) (A := fun _ => B) q hik (fun c2 e _ g => by cases e; exact kk g))
theorem pw_zastr {v : Int32} (q : x_at xMM j pc .bastore 1 y nL ret) (hik : i.toInt.toNat = ix) (kk : p_in i (SH c).2 → pw inj sk base N d none j (pc + 1) L st (n, sl, SH, h_up FI c ix (vp_nar .boolean v), FL, FR) B) : pw inj sk base N d none j pc L (.int v :: .int i :: .ref (base + c) :: st) (n, sl, SH, FI, FL, FR) (P_and (p_in i (SH c).2) B) :=
  pw_ra (A := fun c => P_and (p_in i (SH c).2) B) (pw_zast (o := some c) (A := fun _ => B) q hik (fun c2 e _ g => by cases e; exact kk g))
theorem pw_aastr {p : Option Nat} (q : x_at xMM j pc .aastore 1 y nL ret) (hik : i.toInt.toNat = ix) (kk : p_in i (SH c).2 → pw inj sk base N d none j (pc + 1) L st (n, sl, SH, FI, FL, h_up FR c ix p) B) : pw inj sk base N d none j pc L (va_rf (h_rf base p) :: .int i :: .ref (base + c) :: st) (n, sl, SH, FI, FL, FR) (P_and (p_in i (SH c).2 ∧ ∃ v, p = some v) B) :=
  pw_ra (A := fun c => P_and (p_in i (SH c).2 ∧ ∃ v, p = some v) B) (pw_aast (o := some c) (A := fun _ => B) q hik (fun c2 v2 e _ _ _ g _ => by cases e; exact kk g))
theorem pw_alenr (hkb : x_kb sk base) (q : x_at xMM j pc .arraylength 1 y nL ret) (kk : pw inj sk base N d none j (pc + 1) L (.int (Int32.ofNat (SH c).2) :: st) (n, sl, SH, FI, FL, FR) B) : pw inj sk base N d none j pc L (.ref (base + c) :: st) (n, sl, SH, FI, FL, FR) B :=
  pw_ra (A := fun _ => B) (pw_alen (o := some c) (A := fun _ => B) hkb q (fun c2 e _ => by cases e; exact kk))
end PL
def x_sb : xL → xL → List Nat → Prop
  | [], _, _ => True
  | _ :: _, _, [] => False
  | q :: r, L2, i :: is => L2[i]? = some q ∧ x_sb r L2 is
theorem x_sb_mem {L2 : xL} : ∀ {L : xL} {is : List Nat}, x_sb L L2 is → ∀ q ∈ L, q ∈ L2
  | [], _, _, _, hq => absurd hq (List.not_mem_nil)
  | p :: r, [], h, _, _ => h.elim
  | p :: r, i :: is, h, q, hq => by
    rcases List.mem_cons.mp hq with e | e
    · subst e; exact List.mem_of_getElem? h.1
    · exact x_sb_mem h.2 q e
theorem pw_Li {ρ : Type} {inj : ρ → Option Value} {sk : xK} {base N d : Nat} {X : Option (Nat × Nat × (Nat → Int32))} {j pc : Nat} {L L2 : xL} {st : List Value} {s : hS} {Ψ : ρ → hS → Prop} (is : List Nat) (k : pw inj sk base N d X j pc L2 st s Ψ) (hs : x_sb L L2 is) : pw inj sk base N d X j pc L st s Ψ := fun n hn h r h' hR hg => k n hn h r h' hR (x_go_L n d X j pc L L2 st h r h' (x_sb_mem hs) hg)
