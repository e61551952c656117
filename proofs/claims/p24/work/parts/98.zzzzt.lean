def ctW : List (Nat × Nat × Int32) := [(121, 55, ((-1) : Int32)), (121, 46, (1 : Int32)), (121, 6, ((-1) : Int32)), (121, 5, ((-1) : Int32)), (23, 5, ((-1) : Int32)), (23, 4, ((-1) : Int32)), (21, 3, ((-1) : Int32)), (21, 2, ((-1) : Int32)), (21, 1, ((-1) : Int32)), (21, 0, ((-1) : Int32))]
def ctV : List (Nat × Nat × Option Nat) := [(121, 103, some 175), (121, 102, some 174), (121, 100, some 173), (121, 99, some 172), (121, 98, some 171), (121, 97, some 170), (121, 96, some 169), (121, 89, some 168), (121, 88, some 167), (121, 87, some 166), (121, 86, some 165), (121, 85, some 164), (121, 84, some 163), (121, 83, some 162), (121, 82, some 161), (121, 81, some 160), (121, 80, some 159), (121, 79, some 158), (121, 77, some 157), (121, 76, some 156), (121, 75, some 155), (121, 72, some 154), (121, 66, some 153), (121, 65, some 152), (121, 64, some 151), (121, 63, some 150), (121, 62, some 149), (121, 60, some 148), (121, 52, some 147), (121, 51, some 146), (121, 50, some 145), (121, 49, some 144), (121, 48, some 143), (121, 45, some 142), (121, 28, some 141), (121, 27, some 140), (121, 26, some 139), (121, 25, some 138), (121, 24, some 137), (121, 23, some 136), (121, 22, some 135), (121, 21, some 134), (121, 20, some 133), (121, 19, some 132), (121, 18, some 131), (121, 17, some 130), (121, 16, some 129), (121, 15, some 128), (121, 14, some 127), (121, 12, some 126), (121, 4, some 125), (121, 3, some 124), (121, 2, some 123), (121, 1, some 122), (0, 4, some 119), (119, 0, some 120), (0, 3, some 110), (110, 2, some 118), (110, 1, some 117), (110, 0, some 111), (111, 5, some 116), (111, 3, some 115), (111, 2, some 114), (111, 1, some 113), (111, 0, some 112), (0, 2, some 90), (90, 1, some 48), (90, 0, some 23), (90, 3, some 109), (90, 2, some 91), (92, 15, some 108), (92, 14, some 107), (92, 13, some 106), (92, 12, some 105), (92, 11, some 104), (92, 10, some 103), (92, 9, some 102), (92, 8, some 101), (92, 7, some 100), (92, 6, some 99), (92, 5, some 98), (92, 4, some 97), (92, 3, some 96), (92, 2, some 95), (92, 1, some 94), (92, 0, some 93), (91, 0, some 92), (0, 1, some 48), (48, 1, some 49), (48, 0, some 23), (48, 4, some 72), (73, 15, some 89), (73, 14, some 88), (73, 13, some 87), (73, 12, some 86), (73, 11, some 85), (73, 10, some 84), (73, 9, some 83), (73, 8, some 82), (73, 7, some 81), (73, 6, some 80), (73, 5, some 79), (73, 4, some 78), (73, 3, some 77), (73, 2, some 76), (73, 1, some 75), (73, 0, some 74), (72, 0, some 73), (48, 3, some 71), (48, 2, some 70), (49, 1, none), (49, 0, some 23), (49, 4, some 52), (53, 15, some 69), (53, 14, some 68), (53, 13, some 67), (53, 12, some 66), (53, 11, some 65), (53, 10, some 64), (53, 9, some 63), (53, 8, some 62), (53, 7, some 61), (53, 6, some 60), (53, 5, some 59), (53, 4, some 58), (53, 3, some 57), (53, 2, some 56), (53, 1, some 55), (53, 0, some 54), (52, 0, some 53), (49, 3, some 51), (49, 2, some 50), (0, 0, some 23), (23, 3, some 43), (23, 2, some 26), (23, 1, some 25), (23, 0, some 24), (0, 11, some 22), (0, 8, some 21), (0, 7, some 20), (0, 6, some 19), (0, 5, some 1), (2, 15, some 18), (2, 14, some 17), (2, 13, some 16), (2, 12, some 15), (2, 11, some 14), (2, 10, some 13), (2, 9, some 12), (2, 8, some 11), (2, 7, some 10), (2, 6, some 9), (2, 5, some 8), (2, 4, some 7), (2, 3, some 6), (2, 2, some 5), (2, 1, some 4), (2, 0, some 3), (1, 0, some 2)]
theorem lk_in {α : Type} {W : List (Nat × Nat × α)} {c k : Nat} {x : α} (h : lk W c k = some x) : (c, k, x) ∈ W := by
  induction W with
  | nil => cases h
  | cons e W ih =>
    unfold lk at h
    by_cases he : e.1 = c ∧ e.2.1 = k
    · rw [if_pos he] at h
      obtain ⟨rfl, rfl⟩ := he
      cases h
      exact List.mem_cons_self
    · rw [if_neg he] at h
      exact List.mem_cons_of_mem _ (ih h)
theorem ite_z {p : Prop} [Decidable p] {a b : Int × Int} (ha : p → a.1 ≤ 0 ∧ 0 ≤ a.2) (hb : ¬ p → b.1 ≤ 0 ∧ 0 ≤ b.2) : (if p then a else b).1 ≤ 0 ∧ 0 ≤ (if p then a else b).2 := by
  by_cases h : p
  · rw [if_pos h]; exact ha h
  · rw [if_neg h]; exact hb h
theorem z_0 (k : Nat) : (g_r0 k).1 ≤ 0 ∧ 0 ≤ (g_r0 k).2 := by
  unfold g_r0
  exact (ite_z (fun e => by decide) (fun _ => (ite_z (fun e => by decide) (fun _ => (ite_z (fun e => by decide) (fun _ => (by decide)))))))
theorem z_1 (k : Nat) : (g_r1 k).1 ≤ 0 ∧ 0 ≤ (g_r1 k).2 := by
  unfold g_r1
  exact (ite_z (fun e => by decide) (fun _ => (by decide)))
theorem z_23 (k : Nat) : (g_r23 k).1 ≤ 0 ∧ 0 ≤ (g_r23 k).2 := by
  unfold g_r23
  exact (ite_z (fun e => by decide) (fun _ => (ite_z (fun e => by decide) (fun _ => (ite_z (fun e => by decide) (fun _ => (ite_z (fun e => by decide) (fun _ => (by decide)))))))))
theorem z_48 (k : Nat) : (g_r48 k).1 ≤ 0 ∧ 0 ≤ (g_r48 k).2 := by
  unfold g_r48
  exact (ite_z (fun e => by decide) (fun _ => (by decide)))
theorem z_49 (k : Nat) : (g_r49 k).1 ≤ 0 ∧ 0 ≤ (g_r49 k).2 := by
  unfold g_r49
  exact (ite_z (fun e => by decide) (fun _ => (by decide)))
theorem z_52 (k : Nat) : (g_r52 k).1 ≤ 0 ∧ 0 ≤ (g_r52 k).2 := by
  unfold g_r52
  exact (ite_z (fun e => by decide) (fun _ => (by decide)))
theorem z_72 (k : Nat) : (g_r72 k).1 ≤ 0 ∧ 0 ≤ (g_r72 k).2 := by
  unfold g_r72
  exact (ite_z (fun e => by decide) (fun _ => (by decide)))
theorem z_91 (k : Nat) : (g_r91 k).1 ≤ 0 ∧ 0 ≤ (g_r91 k).2 := by
  unfold g_r91
  exact (ite_z (fun e => by decide) (fun _ => (by decide)))
theorem z_110 (k : Nat) : (g_r110 k).1 ≤ 0 ∧ 0 ≤ (g_r110 k).2 := by
  unfold g_r110
  exact (ite_z (fun e => by decide) (fun _ => (ite_z (fun e => by decide) (fun _ => (by decide)))))
theorem z_111 (k : Nat) : (g_r111 k).1 ≤ 0 ∧ 0 ≤ (g_r111 k).2 := by
  unfold g_r111
  exact (ite_z (fun e => by decide) (fun _ => (ite_z (fun e => by decide) (fun _ => (ite_z (fun e => by decide) (fun _ => (ite_z (fun e => by decide) (fun _ => (by decide)))))))))
theorem z_114 (k : Nat) : (g_r114 k).1 ≤ 0 ∧ 0 ≤ (g_r114 k).2 := by
  unfold g_r114
  exact (ite_z (fun e => by decide) (fun _ => (by decide)))
theorem z_115 (k : Nat) : (g_r115 k).1 ≤ 0 ∧ 0 ≤ (g_r115 k).2 := by
  unfold g_r115
  exact (ite_z (fun e => by decide) (fun _ => (by decide)))
theorem z_119 (k : Nat) : (g_r119 k).1 ≤ 0 ∧ 0 ≤ (g_r119 k).2 := by
  unfold g_r119
  exact (ite_z (fun e => by decide) (fun _ => (by decide)))
theorem z_121 (k : Nat) (h : k ≠ 46) : (g_r121 k).1 ≤ 0 ∧ 0 ≤ (g_r121 k).2 := by
  unfold g_r121
  exact (ite_z (fun e => by decide) (fun _ => (ite_z (fun e => by decide) (fun _ => (ite_z (fun e => by decide) (fun _ => (ite_z (fun e => by decide) (fun _ => (ite_z (fun e => by decide) (fun _ => (ite_z (fun e => absurd e h) (fun _ => (ite_z (fun e => by decide) (fun _ => (ite_z (fun e => by decide) (fun _ => (ite_z (fun e => by decide) (fun _ => (ite_z (fun e => by decide) (fun _ => (ite_z (fun e => by decide) (fun _ => (ite_z (fun e => by decide) (fun _ => (ite_z (fun e => by decide) (fun _ => (ite_z (fun e => by decide) (fun _ => (ite_z (fun e => by decide) (fun _ => (ite_z (fun e => by decide) (fun _ => (ite_z (fun e => by decide) (fun _ => (ite_z (fun e => by decide) (fun _ => (ite_z (fun e => by decide) (fun _ => (ite_z (fun e => by decide) (fun _ => (ite_z (fun e => by decide) (fun _ => (by decide)))))))))))))))))))))))))))))))))))))))))))
theorem z_124 (k : Nat) : (g_r124 k).1 ≤ 0 ∧ 0 ≤ (g_r124 k).2 := by
  unfold g_r124
  exact (ite_z (fun e => by decide) (fun _ => (by decide)))
theorem z_125 (k : Nat) : (g_r125 k).1 ≤ 0 ∧ 0 ≤ (g_r125 k).2 := by
  unfold g_r125
  exact (ite_z (fun e => by decide) (fun _ => (by decide)))
theorem z_126 (k : Nat) : (g_r126 k).1 ≤ 0 ∧ 0 ≤ (g_r126 k).2 := by
  unfold g_r126
  exact (ite_z (fun e => by decide) (fun _ => (by decide)))
theorem z_128 (k : Nat) : (g_r128 k).1 ≤ 0 ∧ 0 ≤ (g_r128 k).2 := by
  unfold g_r128
  exact (ite_z (fun e => by decide) (fun _ => (by decide)))
theorem z_129 (k : Nat) : (g_r129 k).1 ≤ 0 ∧ 0 ≤ (g_r129 k).2 := by
  unfold g_r129
  exact (ite_z (fun e => by decide) (fun _ => (by decide)))
theorem z_132 (k : Nat) : (g_r132 k).1 ≤ 0 ∧ 0 ≤ (g_r132 k).2 := by
  unfold g_r132
  exact (ite_z (fun e => by decide) (fun _ => (by decide)))
theorem z_133 (k : Nat) : (g_r133 k).1 ≤ 0 ∧ 0 ≤ (g_r133 k).2 := by
  unfold g_r133
  exact (ite_z (fun e => by decide) (fun _ => (by decide)))
theorem z_135 (k : Nat) : (g_r135 k).1 ≤ 0 ∧ 0 ≤ (g_r135 k).2 := by
  unfold g_r135
  exact (ite_z (fun e => by decide) (fun _ => (by decide)))
theorem z_142 (k : Nat) : (g_r142 k).1 ≤ 0 ∧ 0 ≤ (g_r142 k).2 := by
  unfold g_r142
  exact (ite_z (fun e => by decide) (fun _ => (by decide)))
theorem z_146 (k : Nat) : (g_r146 k).1 ≤ 0 ∧ 0 ≤ (g_r146 k).2 := by
  unfold g_r146
  exact (ite_z (fun e => by decide) (fun _ => (by decide)))
theorem z_154 (k : Nat) : (g_r154 k).1 ≤ 0 ∧ 0 ≤ (g_r154 k).2 := by
  unfold g_r154
  exact (ite_z (fun e => by decide) (fun _ => (by decide)))
theorem z_156 (k : Nat) : (g_r156 k).1 ≤ 0 ∧ 0 ≤ (g_r156 k).2 := by
  unfold g_r156
  exact (ite_z (fun e => by decide) (fun _ => (by decide)))
theorem z_157 (k : Nat) : (g_r157 k).1 ≤ 0 ∧ 0 ≤ (g_r157 k).2 := by
  unfold g_r157
  exact (ite_z (fun e => by decide) (fun _ => (by decide)))
theorem z_159 (k : Nat) : (g_r159 k).1 ≤ 0 ∧ 0 ≤ (g_r159 k).2 := by
  unfold g_r159
  exact (ite_z (fun e => by decide) (fun _ => (by decide)))
theorem z_160 (k : Nat) : (g_r160 k).1 ≤ 0 ∧ 0 ≤ (g_r160 k).2 := by
  unfold g_r160
  exact (ite_z (fun e => by decide) (fun _ => (by decide)))
theorem z_161 (k : Nat) : (g_r161 k).1 ≤ 0 ∧ 0 ≤ (g_r161 k).2 := by
  unfold g_r161
  exact (ite_z (fun e => by decide) (fun _ => (by decide)))
theorem z_163 (k : Nat) : (g_r163 k).1 ≤ 0 ∧ 0 ≤ (g_r163 k).2 := by
  unfold g_r163
  exact (ite_z (fun e => by decide) (fun _ => (by decide)))
theorem z_164 (k : Nat) : (g_r164 k).1 ≤ 0 ∧ 0 ≤ (g_r164 k).2 := by
  unfold g_r164
  exact (ite_z (fun e => by decide) (fun _ => (by decide)))
theorem z_174 (k : Nat) : (g_r174 k).1 ≤ 0 ∧ 0 ≤ (g_r174 k).2 := by
  unfold g_r174
  exact (ite_z (fun e => by decide) (fun _ => (by decide)))
theorem z_175 (k : Nat) : (g_r175 k).1 ≤ 0 ∧ 0 ≤ (g_r175 k).2 := by
  unfold g_r175
  exact (ite_z (fun e => by decide) (fun _ => (by decide)))
set_option maxRecDepth 100000 in
theorem z_all (c k : Nat) (h : ¬ (c = 121 ∧ k = 46)) : (g_r c k).1 ≤ 0 ∧ 0 ≤ (g_r c k).2 := by
  unfold g_r
  exact (ite_z (fun e => z_0 k) (fun _ => (ite_z (fun e => z_1 k) (fun _ => (ite_z (fun e => z_23 k) (fun _ => (ite_z (fun e => z_48 k) (fun _ => (ite_z (fun e => z_49 k) (fun _ => (ite_z (fun e => z_52 k) (fun _ => (ite_z (fun e => z_72 k) (fun _ => (ite_z (fun e => z_91 k) (fun _ => (ite_z (fun e => z_110 k) (fun _ => (ite_z (fun e => z_111 k) (fun _ => (ite_z (fun e => z_114 k) (fun _ => (ite_z (fun e => z_115 k) (fun _ => (ite_z (fun e => z_119 k) (fun _ => (ite_z (fun e => z_121 k (fun q => h ⟨e, q⟩)) (fun _ => (ite_z (fun e => z_124 k) (fun _ => (ite_z (fun e => z_125 k) (fun _ => (ite_z (fun e => z_126 k) (fun _ => (ite_z (fun e => z_128 k) (fun _ => (ite_z (fun e => z_129 k) (fun _ => (ite_z (fun e => z_132 k) (fun _ => (ite_z (fun e => z_133 k) (fun _ => (ite_z (fun e => z_135 k) (fun _ => (ite_z (fun e => z_142 k) (fun _ => (ite_z (fun e => z_146 k) (fun _ => (ite_z (fun e => z_154 k) (fun _ => (ite_z (fun e => z_156 k) (fun _ => (ite_z (fun e => z_157 k) (fun _ => (ite_z (fun e => z_159 k) (fun _ => (ite_z (fun e => z_160 k) (fun _ => (ite_z (fun e => z_161 k) (fun _ => (ite_z (fun e => z_163 k) (fun _ => (ite_z (fun e => z_164 k) (fun _ => (ite_z (fun e => z_174 k) (fun _ => (ite_z (fun e => z_175 k) (fun _ => (by decide)))))))))))))))))))))))))))))))))))))))))))))))))))))))))))))))))))))
theorem ct_I : g_I (fI ctW) := by
  intro c k
  unfold fI
  cases e : lk ctW c k with
  | none =>
    have h : ¬ (c = 121 ∧ k = 46) := fun q => by rw [q.1, q.2] at e; exact absurd e (by decide)
    exact z_all c k h
  | some x => exact of_decide_eq_true (List.all_eq_true.mp (show ctW.all (fun e => decide ((g_r e.1 e.2.1).1 ≤ e.2.2.toInt ∧ e.2.2.toInt ≤ (g_r e.1 e.2.1).2)) = true by decide +kernel) (c, k, x) (lk_in e))
theorem ct_F : h_FR (fR ctV) := fun e he => eq_of_beq (List.all_eq_true.mp (show hf_L.all (fun e => fR ctV e.1 e.2.1 == some e.2.2) = true by decide +kernel) e he)
def ct_ok (e : Nat × Nat × Option Nat) : Bool := match e.2.2 with
  | none => true
  | some r => decide (121 ≤ e.1) || (decide (r < 121) && decide ((hsF r).1 = g_ty (hsF e.1).1 e.2.1))
theorem ct_R : g_R 176 hsF (fR ctV) := by
  refine ⟨fun c h1 h2 => absurd h2 (by omega), fun c k r h1 h2 h3 => ?_, fun c k h => ?_, by decide +kernel⟩
  · have hc : c < 121 := by unfold own at h2; omega
    have key : r < 121 ∧ (hsF r).1 = g_ty (hsF c).1 k := by
      unfold fR at h3
      cases e : lk ctV c k with
      | none =>
        rw [e] at h3
        have h4 : fB c k = some r := h3
        unfold fB at h4
        by_cases h5 : c = 26 ∧ k < 16
        · rw [if_pos h5] at h4; cases h4; obtain ⟨rfl, h6⟩ := h5
          exact ⟨by omega, (show ∀ k, k < 16 → (hsF (27 + k)).1 = g_ty (hsF 26).1 k by decide +kernel) k h6⟩
        · rw [if_neg h5] at h4
          by_cases h7 : c = 43 ∧ k < 4
          · rw [if_pos h7] at h4; cases h4; obtain ⟨rfl, h6⟩ := h7
            exact ⟨by omega, (show ∀ k, k < 4 → (hsF (44 + k)).1 = g_ty (hsF 43).1 k by decide +kernel) k h6⟩
          · rw [if_neg h7] at h4; cases h4
      | some o =>
        rw [e] at h3
        have h4 : o = some r := h3
        subst h4
        have h5 := List.all_eq_true.mp (show ctV.all ct_ok = true by decide +kernel) (c, k, some r) (lk_in e)
        unfold ct_ok at h5
        dsimp only at h5
        rw [Bool.or_eq_true, Bool.and_eq_true] at h5
        rcases h5 with h5 | h5
        · have := of_decide_eq_true h5; omega
        · exact ⟨of_decide_eq_true h5.1, of_decide_eq_true h5.2⟩
    exact ⟨by omega, Or.inl key.1, key.2, fun h => by omega⟩
  · unfold g_nn at h
    rcases h with ⟨rfl, rfl⟩ | ⟨rfl, rfl⟩ | ⟨rfl, rfl⟩ | ⟨rfl, h⟩ | ⟨rfl, h⟩
    · decide +kernel
    · decide +kernel
    · decide +kernel
    · unfold fR; rw [lk_no (by decide +kernel)]; unfold fB; rw [if_pos ⟨rfl, h⟩]; simp
    · unfold fR; rw [lk_no (by decide +kernel)]; unfold fB; rw [if_neg (by omega), if_pos ⟨rfl, h⟩]; simp
theorem ct_T : g_T 176 hsF (fI ctW) (fR ctV) (fun _ => 0) (fun _ => 0) (fun _ => 0) := by
  have h : ∀ c, c < 176 → (hsF c).1 ≠ 3 ∧ (hsF c).1 ≠ 6 := by decide +kernel
  exact ⟨fun c hc hs => absurd hs (h c hc).1, fun c hc hs => absurd hs (h c hc).2⟩
theorem ct_V : g_V hsF (fI ctW) (fR ctV) := ⟨22, by decide +kernel, fun i hi => absurd hi (by rw [show (fI ctW 0 12).toInt = 0 by decide +kernel]; omega)⟩
theorem ct_M : g_M (fI ctW) fZ := by
  unfold g_M
  rw [show fI ctW 136 = fun _ => 0 from funext fun k => by unfold fI; rw [lk_no (by decide +kernel)]; rfl, show fI ctW 138 = fun _ => 0 from funext fun k => by unfold fI; rw [lk_no (by decide +kernel)]; rfl, show fI ctW 130 = fun _ => 0 from funext fun k => by unfold fI; rw [lk_no (by decide +kernel)]; rfl, show fI ctW 134 = fun _ => 0 from funext fun k => by unfold fI; rw [lk_no (by decide +kernel)]; rfl, show fI ctW 139 = fun _ => 0 from funext fun k => by unfold fI; rw [lk_no (by decide +kernel)]; rfl, show fI ctW 140 = fun _ => 0 from funext fun k => by unfold fI; rw [lk_no (by decide +kernel)]; rfl, show fI ctW 141 = fun _ => 0 from funext fun k => by unfold fI; rw [lk_no (by decide +kernel)]; rfl, show fI ctW 143 = fun _ => 0 from funext fun k => by unfold fI; rw [lk_no (by decide +kernel)]; rfl, show fI ctW 149 = fun _ => 0 from funext fun k => by unfold fI; rw [lk_no (by decide +kernel)]; rfl, show fI ctW 152 = fun _ => 0 from funext fun k => by unfold fI; rw [lk_no (by decide +kernel)]; rfl, show fI ctW 156 = fun _ => 0 from funext fun k => by unfold fI; rw [lk_no (by decide +kernel)]; rfl, show fI ctW 157 = fun _ => 0 from funext fun k => by unfold fI; rw [lk_no (by decide +kernel)]; rfl, show fI ctW 169 = fun _ => 0 from funext fun k => by unfold fI; rw [lk_no (by decide +kernel)]; rfl]
  have h0 : ((0 : Int32)).toInt = 0 := by decide
  have h1 : ((0 : Int64)).toInt = 0 := by decide
  refine ⟨fun i _ => ⟨fun h => ?_, fun h => ?_⟩, fun i _ => ⟨fun h => ?_, fun h => ?_⟩, fun i _ => ?_, fun i _ => ⟨fun h => ?_, fun h => ?_⟩, fun i => ⟨fun h => ?_, fun h => ?_⟩, fun i => ⟨fun h => ?_, fun h => ?_⟩, fun i h => ?_, fun i => ⟨fun h => ?_, fun h => ?_⟩⟩
  all_goals first | (exfalso; rw [show (fI ctW 121 74).toInt = 0 by decide +kernel] at h; omega) | exact absurd (show ((0 : Int32)).toInt = 2 from h) (by decide) | exact absurd (show ((0 : Int32)).toInt = 4 from h) (by decide) | exact absurd (show ((0 : Int32)).toInt = 3 from h) (by decide) | exact (show (0 : Int) ≤ ((0 : Int32)).toInt ∧ ((0 : Int32)).toInt ≤ ((0 : Int32)).toInt ∧ ((0 : Int32)).toInt ≤ ((0 : Int32)).toInt ∧ ((0 : Int32)).toInt ≤ 19200 ∧ ((0 : Int32)).toInt ≤ ((0 : Int32)).toInt + 600 by decide)
theorem ct_inv : g_INV 176 hsF (fI ctW) fZ (fR ctV) := ⟨⟨Nat.le_refl _, fun q hq => rfl⟩, ct_F, ct_I, ct_R, ct_V, ⟨_, _, _, ct_T⟩, ct_M⟩
def ab_0 : ab_A := ((fun _ => 0, fun _ => 0, fun _ => [], -1, -1, 0, none, none), fun _ => [], (false, [(ms_0, 0, 0)]), (0, fun _ => 0))
theorem ct_z {c : Nat} (h : ctW.all (fun e => e.1 != c) = true) : fI ctW c = fun _ => 0 := funext fun k => by
  unfold fI
  rw [lk_no h]
  rfl
theorem ct_cB : cB hsF (fI ctW) fZ (fR ctV) ab_0 := by
  have z25 := ct_z (c := 25) (by decide +kernel)
  have z20 := ct_z (c := 20) (by decide +kernel)
  have e26 : ∀ k, k < 16 → fR ctV 26 k = some (27 + k) := fun k hk => by
    unfold fR
    rw [lk_no (by decide +kernel)]
    show fB 26 k = some (27 + k)
    unfold fB
    rw [if_pos ⟨rfl, hk⟩]
  have e43 : ∀ k, k < 4 → fR ctV 43 k = some (44 + k) := fun k hk => by
    unfold fR
    rw [lk_no (by decide +kernel)]
    show fB 43 k = some (44 + k)
    unfold fB
    rw [if_neg (by omega), if_pos ⟨rfl, hk⟩]
  have sz : ∀ k : Nat, k < 21 → (hsF (27 + k)).2 = 0 ∨ 27 + k = 43 := by decide +kernel
  have row : ∀ r, 27 ≤ r → r ≤ 47 → r ≠ 43 → (hsF r).2 = 0 ∧ bk (fI ctW) hsF r 0 [] := fun r h1 h2 h3 => by
    have e : (hsF r).2 = 0 := by
      have q := sz (r - 27) (by omega)
      rw [show 27 + (r - 27) = r by omega] at q
      exact q.resolve_right h3
    exact ⟨e, ⟨Nat.zero_le _, Or.inr (Or.inl ⟨h1, h2⟩)⟩, by rw [e]; decide, by rw [e]; decide, fun i b hi => by simp at hi⟩
  refine ⟨⟨fun i _ => rfl, fun i _ => ⟨by rw [z25]; rfl, by show (0 : Int) ≤ ((0 : Int32)).toInt; decide, by show ((0 : Int32)).toInt ≤ 255; decide⟩, fun k hk => ⟨27 + k, e26 k hk, (row (27 + k) (by omega) (by omega) (by omega)).1, Nat.zero_le _, (row (27 + k) (by omega) (by omega) (by omega)).2⟩, ⟨by decide +kernel, by decide, by decide⟩, ⟨by decide +kernel, by decide, by decide⟩, rfl, Or.inl ⟨by decide +kernel, rfl⟩, Or.inl ⟨by decide +kernel, rfl⟩⟩, fun k hk => ⟨44 + k, e43 k hk, (row (44 + k) (by omega) (by omega) (by omega)).1, Nat.zero_le _, (row (44 + k) (by omega) (by omega) (by omega)).2⟩, ⟨fun _ => by decide +kernel, fun h => (by cases h), ⟨by decide, by decide⟩, fun _ => rfl, ⟨⟨⟨by decide +kernel, rfl, Or.inl ⟨rfl, rfl⟩, fun e => absurd (show (0 : Int) = 4 from e) (by decide)⟩, by decide +kernel, by decide +kernel, by decide, by decide, by decide, by decide⟩, trivial⟩⟩, ⟨by decide +kernel, by decide, fun x hx => absurd hx (Nat.not_lt_zero x)⟩⟩
theorem ct_rB : rB hsF (fI ctW) fZ ab_0 := by
  have z123 := ct_z (c := 123) (by decide +kernel)
  have z125 := ct_z (c := 125) (by decide +kernel)
  have z143 := ct_z (c := 143) (by decide +kernel)
  have z145 := ct_z (c := 145) (by decide +kernel)
  have z146 := ct_z (c := 146) (by decide +kernel)
  have s124' : (hsF 124).2 = 19200 := by decide +kernel
  have h0 : ((0 : Int32)).toInt = 0 := by decide
  have row : ∀ k, k < 20 → bk (fI ctW) hsF 124 (600 * k) [] := fun k hk => ⟨⟨Nat.zero_le _, Or.inl rfl⟩, by rw [s124', List.length_nil]; omega, by rw [s124']; decide, fun i b hi => by simp at hi⟩
  refine ⟨⟨fun i _ => rfl, fun i _ => by rw [z123]; rfl, fun k hk => ⟨by rw [z125]; exact h0, Nat.zero_le _, row k (by omega)⟩, ⟨by decide +kernel, by decide, by decide⟩, ⟨by decide +kernel, by decide, by decide⟩, rfl, Or.inl ⟨by decide +kernel, rfl⟩, Or.inl ⟨by decide +kernel, rfl⟩⟩, fun k hk => ⟨by rw [z125]; exact h0, Nat.zero_le _, row (16 + k) (by omega)⟩, ⟨by decide +kernel, ⟨fun _ => rfl, fun _ => by decide +kernel⟩, ⟨by decide, by decide⟩, fun _ => rfl, ⟨⟨by rw [z143]; exact h0, rfl, by rw [z145]; exact h0, by rw [z146]; exact h0, Or.inl ⟨rfl, rfl⟩, ⟨by decide, by decide, by decide, by decide⟩, Nat.zero_le _, fun k b hk => absurd (show ([] : List Int32)[k]? = some b from hk) (by simp)⟩, trivial⟩⟩, ⟨by decide +kernel, by decide, fun x hx => absurd hx (Nat.not_lt_zero x)⟩⟩
theorem ct_GG : g_GG 176 hsF (fI ctW) fZ (fR ctV) := ⟨ab_0, [], fun i => (fI ctW 152 i).toInt, fun i => (fZ 153 i).toInt, fun _ => 0, 0, 0, ct_cB, ct_rB, Or.inr ⟨rfl, by decide +kernel⟩, Or.inl rfl, ⟨by decide +kernel, by decide, fun i v hi => by simp at hi, fun i _ => ⟨rfl, rfl⟩⟩, Or.inl rfl, fun x hx => by simp at hx⟩
set_option maxHeartbeats 8000000 in
set_option maxRecDepth 100000 in
theorem law_ok : x_Law := by
  intro sk base b LL xs hkb hL hb
  have H : hw sk base (464 + 536) (some (b, LL, xs)) 0 0 [(0, .ref b)] [] (0, 0, hsF, fI [], fZ, fR []) (fun v s => v = some (.int 1) ∧ s.1 ≤ 600000 ∧ s.2.1 ≤ 7302250) := by
    refine cw_new (t := 11) (n2 := 1) (sl2 := 13) (aL_law 0 rfl) rfl (tin_1 (i := 22) rfl rfl) (tin_1 (i := 1) rfl rfl) rfl rfl rfl rfl rfl (by decide) (by decide) ?_
    refine xw_dup (aL_law 1 rfl) rfl ?_
    refine hw_callN (Bs := []) (rest := [.ref (base + 0)]) (aL_law 2 rfl) wc_RL_9 (by decide) rfl wi_yX11_init rfl rfl rfl (Nat.le_of_ble_eq_true rfl) (Nat.le_of_ble_eq_true rfl) (ct_desk (d := 995)) (fun v s hv => ?_)
    obtain ⟨rfl, rfl⟩ := hv
    show hw sk base _ _ _ _ _ [.ref (base + 0)] _ _
    refine hw_astoren (L2 := [(1, .ref (base + 0)), (0, .ref b)]) (aL_law 3 rfl) (by decide) rfl ?_
    refine cw_new (t := 12) (n2 := 122) (sl2 := 10807) (aL_law 4 rfl) rfl (tin_6 (i := 44) rfl rfl) (tin_1 (i := 10) rfl rfl) rfl rfl rfl rfl rfl (by decide) (by decide) ?_
    refine xw_dup (aL_law 5 rfl) rfl ?_
    refine hw_callN (Bs := []) (rest := [.ref (base + 121)]) (aL_law 6 rfl) wc_RL_12 (by decide) rfl wi_yX12_init rfl rfl rfl (Nat.le_of_ble_eq_true rfl) (Nat.le_of_ble_eq_true rfl) (ct_model (d := 998)) (fun v s hv => ?_)
    obtain ⟨rfl, rfl⟩ := hv
    show hw sk base _ _ _ _ _ [.ref (base + 121)] _ _
    refine hw_astoren (L2 := [(2, .ref (base + 121)), (1, .ref (base + 0)), (0, .ref b)]) (aL_law 7 rfl) (by decide) rfl ?_
    refine hw_ic (v := (0 : Int32)) (aL_law 8 rfl) (by decide) ?_
    refine xw_istoren (L2 := [(3, .int (0 : Int32)), (2, .ref (base + 121)), (1, .ref (base + 0)), (0, .ref b)]) (aL_law 9 rfl) (by decide) rfl ?_
    have h9 : (fI ctW 0 9).toInt = 0 := by decide +kernel
    have h0 : ((0 : Int32)).toInt = 0 := by decide
    exact law_loop (S0 := 61076) hkb hL (by decide) 464 (LL + 1) 0 176 61076 hsF (fI ctW) fZ (fR ctV) ct_inv (by omega) (by omega) ⟨by decide +kernel, fun i hi => by rw [h9] at hi; exact absurd hi (Nat.not_lt_zero i)⟩ ct_GG (by rw [h9, h0]; decide) (by rw [h9, h0]; decide) (by omega)
  obtain ⟨r, h', g1, s', g2, g3, g4, g5⟩ := H [] ⟨rfl, rfl, fun q hq => absurd hq (by show ¬ q < 0; omega)⟩
  subst g3
  refine ⟨h', g1, ?_, ?_⟩
  · rw [g2.1]; exact g4
  · rw [g2.2.1]; exact g5

