/-! Ranges of the fixed cells' ints; writes with names; frames. -/
def g_F : Int × Int := (-2147483648, 2147483647)
def g_r0 (k : Nat) : Int × Int := if k = 9 then (0, 1000) else if k = 10 then (0, 64) else if k = 12 then (0, 12) else g_F
def g_r1 (k : Nat) : Int × Int := if k = 1 then (0, 16) else g_F
def g_r23 (k : Nat) : Int × Int := if k = 4 then (-1, 15) else if k = 5 then (-1, 31) else if k = 7 then (0, 1) else if k = 9 then (0, 1) else g_F
def g_r48 (k : Nat) : Int × Int := if k = 5 then (0, 128) else g_F
def g_r49 (k : Nat) : Int × Int := if k = 5 then (0, 128) else g_F
def g_r52 (k : Nat) : Int × Int := if k = 1 then (0, 16) else g_F
def g_r72 (k : Nat) : Int × Int := if k = 1 then (0, 16) else g_F
def g_r91 (k : Nat) : Int × Int := if k = 1 then (0, 16) else g_F
def g_r110 (k : Nat) : Int × Int := if k = 3 then (0, 12) else if k = 7 then (-1, 1000) else g_F
def g_r111 (k : Nat) : Int × Int := if k = 4 then (0, 1001) else if k = 6 then (0, 1000) else if k = 7 then (0, 1003) else if k = 8 then (0, 1003) else g_F
def g_r114 (k : Nat) : Int × Int := if k < 1001 then (0, 1003) else g_F
def g_r115 (k : Nat) : Int × Int := if k < 1001 then (0, 1003) else g_F
def g_r119 (k : Nat) : Int × Int := if k = 1 then (0, 2000000000) else g_F
def g_r121 (k : Nat) : Int × Int := if k = 5 then (-1, 15) else if k = 6 then (-1, 31) else if k = 10 then (0, 1) else if k = 11 then (0, 1) else if k = 13 then (0, 1000) else if k = 46 then (1, 16) else if k = 47 then (0, 1) else if k = 53 then (0, 1) else if k = 61 then (0, 64) else if k = 67 then (0, 1001) else if k = 68 then (0, 1000) else if k = 73 then (0, 30000) else if k = 74 then (0, 12) else if k = 78 then (0, 12) else if k = 90 then (0, 256) else if k = 91 then (0, 1) else if k = 92 then (0, 1001) else if k = 94 then (0, 8) else if k = 95 then (0, 1) else if k = 101 then (0, 512) else if k = 104 then (0, 1) else g_F
def g_r124 (k : Nat) : Int × Int := if k < 19200 then (0, 255) else g_F
def g_r125 (k : Nat) : Int × Int := if k < 32 then (0, 600) else g_F
def g_r126 (k : Nat) : Int × Int := if k < 1000 then (0, 255) else g_F
def g_r128 (k : Nat) : Int × Int := if k < 2 then (0, 128) else g_F
def g_r129 (k : Nat) : Int × Int := if k < 2 then (0, 16) else g_F
def g_r132 (k : Nat) : Int × Int := if k < 32 then (0, 4096) else g_F
def g_r133 (k : Nat) : Int × Int := if k < 32 then (0, 4096) else g_F
def g_r135 (k : Nat) : Int × Int := if k < 2 then (0, 4096) else g_F
def g_r142 (k : Nat) : Int × Int := if k < 2 then (0, 8) else g_F
def g_r146 (k : Nat) : Int × Int := if k < 16 then (0, 4096) else g_F
def g_r154 (k : Nat) : Int × Int := if k < 4000 then (0, 255) else g_F
def g_r156 (k : Nat) : Int × Int := if k < 12 then (0, 8) else g_F
def g_r157 (k : Nat) : Int × Int := if k < 12 then (0, 1000) else g_F
def g_r159 (k : Nat) : Int × Int := if k < 12 then (0, 8) else g_F
def g_r160 (k : Nat) : Int × Int := if k < 12 then (0, 1000) else g_F
def g_r161 (k : Nat) : Int × Int := if k < 13 then (0, 30000) else g_F
def g_r163 (k : Nat) : Int × Int := if k < 12 then (0, 1) else g_F
def g_r164 (k : Nat) : Int × Int := if k < 4000 then (0, 255) else g_F
def g_r174 (k : Nat) : Int × Int := if k < 256 then (0, 1) else g_F
def g_r175 (k : Nat) : Int × Int := if k < 256 then (0, 1) else g_F
def g_r (c k : Nat) : Int × Int := if c = 0 then g_r0 k else if c = 1 then g_r1 k else if c = 23 then g_r23 k else if c = 48 then g_r48 k else if c = 49 then g_r49 k else if c = 52 then g_r52 k else if c = 72 then g_r72 k else if c = 91 then g_r91 k else if c = 110 then g_r110 k else if c = 111 then g_r111 k else if c = 114 then g_r114 k else if c = 115 then g_r115 k else if c = 119 then g_r119 k else if c = 121 then g_r121 k else if c = 124 then g_r124 k else if c = 125 then g_r125 k else if c = 126 then g_r126 k else if c = 128 then g_r128 k else if c = 129 then g_r129 k else if c = 132 then g_r132 k else if c = 133 then g_r133 k else if c = 135 then g_r135 k else if c = 142 then g_r142 k else if c = 146 then g_r146 k else if c = 154 then g_r154 k else if c = 156 then g_r156 k else if c = 157 then g_r157 k else if c = 159 then g_r159 k else if c = 160 then g_r160 k else if c = 161 then g_r161 k else if c = 163 then g_r163 k else if c = 164 then g_r164 k else if c = 174 then g_r174 k else if c = 175 then g_r175 k else g_F
def g_I (F : Nat → Nat → Int32) : Prop := ∀ c k, (g_r c k).1 ≤ (F c k).toInt ∧ (F c k).toInt ≤ (g_r c k).2
theorem g_up {F F2 : Nat → Nat → Int32} {c k : Nat} {x : Int32} (h : g_I F) (u : F2 = h_up F c k x) (h1 : (g_r c k).1 ≤ x.toInt ∧ x.toInt ≤ (g_r c k).2) : g_I F2 := by
  subst u
  intro c2 k2
  by_cases e : c2 = c
  · subst e
    by_cases e2 : k2 = k
    · subst e2; rw [h_up_eq]; exact h1
    · rw [h_up_ne e2]; exact h c2 k2
  · rw [h_up_nc e]; exact h c2 k2
theorem g_full {c k : Nat} {x : Int32} (e : g_r c k = g_F) : (g_r c k).1 ≤ x.toInt ∧ x.toInt ≤ (g_r c k).2 := by rw [e]; exact i_rng x
theorem gU_F {F F2 : Nat → Nat → Int32} {c k : Nat} {x : Int32} (h : g_I F) (u : F2 = h_up F c k x) (e : g_r c k = g_F) : g_I F2 := g_up h u (g_full e)
theorem gI_0_9 {F : Nat → Nat → Int32} (h : g_I F) : 0 ≤ (F 0 9).toInt ∧ (F 0 9).toInt ≤ 1000 := h 0 9
theorem gU_0_9 {F F2 : Nat → Nat → Int32} {x : Int32} (h : g_I F) (u : F2 = h_up F 0 9 x) (h1 : 0 ≤ x.toInt) (h2 : x.toInt ≤ 1000) : g_I F2 := g_up h u ⟨h1, h2⟩
theorem gI_0_10 {F : Nat → Nat → Int32} (h : g_I F) : 0 ≤ (F 0 10).toInt ∧ (F 0 10).toInt ≤ 64 := h 0 10
theorem gU_0_10 {F F2 : Nat → Nat → Int32} {x : Int32} (h : g_I F) (u : F2 = h_up F 0 10 x) (h1 : 0 ≤ x.toInt) (h2 : x.toInt ≤ 64) : g_I F2 := g_up h u ⟨h1, h2⟩
theorem gI_0_12 {F : Nat → Nat → Int32} (h : g_I F) : 0 ≤ (F 0 12).toInt ∧ (F 0 12).toInt ≤ 12 := h 0 12
theorem gU_0_12 {F F2 : Nat → Nat → Int32} {x : Int32} (h : g_I F) (u : F2 = h_up F 0 12 x) (h1 : 0 ≤ x.toInt) (h2 : x.toInt ≤ 12) : g_I F2 := g_up h u ⟨h1, h2⟩
theorem gI_1_1 {F : Nat → Nat → Int32} (h : g_I F) : 0 ≤ (F 1 1).toInt ∧ (F 1 1).toInt ≤ 16 := h 1 1
theorem gU_1_1 {F F2 : Nat → Nat → Int32} {x : Int32} (h : g_I F) (u : F2 = h_up F 1 1 x) (h1 : 0 ≤ x.toInt) (h2 : x.toInt ≤ 16) : g_I F2 := g_up h u ⟨h1, h2⟩
theorem gI_23_4 {F : Nat → Nat → Int32} (h : g_I F) : -1 ≤ (F 23 4).toInt ∧ (F 23 4).toInt ≤ 15 := h 23 4
theorem gU_23_4 {F F2 : Nat → Nat → Int32} {x : Int32} (h : g_I F) (u : F2 = h_up F 23 4 x) (h1 : -1 ≤ x.toInt) (h2 : x.toInt ≤ 15) : g_I F2 := g_up h u ⟨h1, h2⟩
theorem gI_23_5 {F : Nat → Nat → Int32} (h : g_I F) : -1 ≤ (F 23 5).toInt ∧ (F 23 5).toInt ≤ 31 := h 23 5
theorem gU_23_5 {F F2 : Nat → Nat → Int32} {x : Int32} (h : g_I F) (u : F2 = h_up F 23 5 x) (h1 : -1 ≤ x.toInt) (h2 : x.toInt ≤ 31) : g_I F2 := g_up h u ⟨h1, h2⟩
theorem gI_23_7 {F : Nat → Nat → Int32} (h : g_I F) : 0 ≤ (F 23 7).toInt ∧ (F 23 7).toInt ≤ 1 := h 23 7
theorem gU_23_7 {F F2 : Nat → Nat → Int32} {x : Int32} (h : g_I F) (u : F2 = h_up F 23 7 x) (h1 : 0 ≤ x.toInt) (h2 : x.toInt ≤ 1) : g_I F2 := g_up h u ⟨h1, h2⟩
theorem gI_23_9 {F : Nat → Nat → Int32} (h : g_I F) : 0 ≤ (F 23 9).toInt ∧ (F 23 9).toInt ≤ 1 := h 23 9
theorem gU_23_9 {F F2 : Nat → Nat → Int32} {x : Int32} (h : g_I F) (u : F2 = h_up F 23 9 x) (h1 : 0 ≤ x.toInt) (h2 : x.toInt ≤ 1) : g_I F2 := g_up h u ⟨h1, h2⟩
theorem gI_48_5 {F : Nat → Nat → Int32} (h : g_I F) : 0 ≤ (F 48 5).toInt ∧ (F 48 5).toInt ≤ 128 := h 48 5
theorem gU_48_5 {F F2 : Nat → Nat → Int32} {x : Int32} (h : g_I F) (u : F2 = h_up F 48 5 x) (h1 : 0 ≤ x.toInt) (h2 : x.toInt ≤ 128) : g_I F2 := g_up h u ⟨h1, h2⟩
theorem gI_49_5 {F : Nat → Nat → Int32} (h : g_I F) : 0 ≤ (F 49 5).toInt ∧ (F 49 5).toInt ≤ 128 := h 49 5
theorem gU_49_5 {F F2 : Nat → Nat → Int32} {x : Int32} (h : g_I F) (u : F2 = h_up F 49 5 x) (h1 : 0 ≤ x.toInt) (h2 : x.toInt ≤ 128) : g_I F2 := g_up h u ⟨h1, h2⟩
theorem gI_52_1 {F : Nat → Nat → Int32} (h : g_I F) : 0 ≤ (F 52 1).toInt ∧ (F 52 1).toInt ≤ 16 := h 52 1
theorem gU_52_1 {F F2 : Nat → Nat → Int32} {x : Int32} (h : g_I F) (u : F2 = h_up F 52 1 x) (h1 : 0 ≤ x.toInt) (h2 : x.toInt ≤ 16) : g_I F2 := g_up h u ⟨h1, h2⟩
theorem gI_72_1 {F : Nat → Nat → Int32} (h : g_I F) : 0 ≤ (F 72 1).toInt ∧ (F 72 1).toInt ≤ 16 := h 72 1
theorem gU_72_1 {F F2 : Nat → Nat → Int32} {x : Int32} (h : g_I F) (u : F2 = h_up F 72 1 x) (h1 : 0 ≤ x.toInt) (h2 : x.toInt ≤ 16) : g_I F2 := g_up h u ⟨h1, h2⟩
theorem gI_91_1 {F : Nat → Nat → Int32} (h : g_I F) : 0 ≤ (F 91 1).toInt ∧ (F 91 1).toInt ≤ 16 := h 91 1
theorem gU_91_1 {F F2 : Nat → Nat → Int32} {x : Int32} (h : g_I F) (u : F2 = h_up F 91 1 x) (h1 : 0 ≤ x.toInt) (h2 : x.toInt ≤ 16) : g_I F2 := g_up h u ⟨h1, h2⟩
theorem gI_110_3 {F : Nat → Nat → Int32} (h : g_I F) : 0 ≤ (F 110 3).toInt ∧ (F 110 3).toInt ≤ 12 := h 110 3
theorem gU_110_3 {F F2 : Nat → Nat → Int32} {x : Int32} (h : g_I F) (u : F2 = h_up F 110 3 x) (h1 : 0 ≤ x.toInt) (h2 : x.toInt ≤ 12) : g_I F2 := g_up h u ⟨h1, h2⟩
theorem gI_110_7 {F : Nat → Nat → Int32} (h : g_I F) : -1 ≤ (F 110 7).toInt ∧ (F 110 7).toInt ≤ 1000 := h 110 7
theorem gU_110_7 {F F2 : Nat → Nat → Int32} {x : Int32} (h : g_I F) (u : F2 = h_up F 110 7 x) (h1 : -1 ≤ x.toInt) (h2 : x.toInt ≤ 1000) : g_I F2 := g_up h u ⟨h1, h2⟩
theorem gI_111_4 {F : Nat → Nat → Int32} (h : g_I F) : 0 ≤ (F 111 4).toInt ∧ (F 111 4).toInt ≤ 1001 := h 111 4
theorem gU_111_4 {F F2 : Nat → Nat → Int32} {x : Int32} (h : g_I F) (u : F2 = h_up F 111 4 x) (h1 : 0 ≤ x.toInt) (h2 : x.toInt ≤ 1001) : g_I F2 := g_up h u ⟨h1, h2⟩
theorem gI_111_6 {F : Nat → Nat → Int32} (h : g_I F) : 0 ≤ (F 111 6).toInt ∧ (F 111 6).toInt ≤ 1000 := h 111 6
theorem gU_111_6 {F F2 : Nat → Nat → Int32} {x : Int32} (h : g_I F) (u : F2 = h_up F 111 6 x) (h1 : 0 ≤ x.toInt) (h2 : x.toInt ≤ 1000) : g_I F2 := g_up h u ⟨h1, h2⟩
theorem gI_111_7 {F : Nat → Nat → Int32} (h : g_I F) : 0 ≤ (F 111 7).toInt ∧ (F 111 7).toInt ≤ 1003 := h 111 7
theorem gU_111_7 {F F2 : Nat → Nat → Int32} {x : Int32} (h : g_I F) (u : F2 = h_up F 111 7 x) (h1 : 0 ≤ x.toInt) (h2 : x.toInt ≤ 1003) : g_I F2 := g_up h u ⟨h1, h2⟩
theorem gI_111_8 {F : Nat → Nat → Int32} (h : g_I F) : 0 ≤ (F 111 8).toInt ∧ (F 111 8).toInt ≤ 1003 := h 111 8
theorem gU_111_8 {F F2 : Nat → Nat → Int32} {x : Int32} (h : g_I F) (u : F2 = h_up F 111 8 x) (h1 : 0 ≤ x.toInt) (h2 : x.toInt ≤ 1003) : g_I F2 := g_up h u ⟨h1, h2⟩
theorem gI_114 {F : Nat → Nat → Int32} (h : g_I F) {i : Nat} (hi : i < 1001) : 0 ≤ (F 114 i).toInt ∧ (F 114 i).toInt ≤ 1003 := by
  have z : _ := h 114 i
  rw [show g_r 114 i = g_r114 i from rfl, g_r114, if_pos hi] at z; exact z
theorem gU_114 {F F2 : Nat → Nat → Int32} {x : Int32} {i : Nat} (h : g_I F) (u : F2 = h_up F 114 i x) (h1 : 0 ≤ x.toInt) (h2 : x.toInt ≤ 1003) : g_I F2 := g_up h u (by
  rw [show g_r 114 i = g_r114 i from rfl, g_r114]
  split
  · exact ⟨h1, h2⟩
  · exact i_rng x)
theorem gA_114 {F : Nat → Nat → Int32} (h : g_I F) : h_ai 114 1001 0 1003 F := fun _ hi => gI_114 h hi
theorem gB_114 {F : Nat → Nat → Int32} (h : h_ai 114 1001 0 1003 F) : ∀ i, (g_r 114 i).1 ≤ (F 114 i).toInt ∧ (F 114 i).toInt ≤ (g_r 114 i).2 := fun i => by
  rw [show g_r 114 i = g_r114 i from rfl, g_r114]
  split
  · exact h i (by assumption)
  · exact i_rng _
theorem gI_115 {F : Nat → Nat → Int32} (h : g_I F) {i : Nat} (hi : i < 1001) : 0 ≤ (F 115 i).toInt ∧ (F 115 i).toInt ≤ 1003 := by
  have z : _ := h 115 i
  rw [show g_r 115 i = g_r115 i from rfl, g_r115, if_pos hi] at z; exact z
theorem gU_115 {F F2 : Nat → Nat → Int32} {x : Int32} {i : Nat} (h : g_I F) (u : F2 = h_up F 115 i x) (h1 : 0 ≤ x.toInt) (h2 : x.toInt ≤ 1003) : g_I F2 := g_up h u (by
  rw [show g_r 115 i = g_r115 i from rfl, g_r115]
  split
  · exact ⟨h1, h2⟩
  · exact i_rng x)
theorem gA_115 {F : Nat → Nat → Int32} (h : g_I F) : h_ai 115 1001 0 1003 F := fun _ hi => gI_115 h hi
theorem gB_115 {F : Nat → Nat → Int32} (h : h_ai 115 1001 0 1003 F) : ∀ i, (g_r 115 i).1 ≤ (F 115 i).toInt ∧ (F 115 i).toInt ≤ (g_r 115 i).2 := fun i => by
  rw [show g_r 115 i = g_r115 i from rfl, g_r115]
  split
  · exact h i (by assumption)
  · exact i_rng _
theorem gI_119_1 {F : Nat → Nat → Int32} (h : g_I F) : 0 ≤ (F 119 1).toInt ∧ (F 119 1).toInt ≤ 2000000000 := h 119 1
theorem gU_119_1 {F F2 : Nat → Nat → Int32} {x : Int32} (h : g_I F) (u : F2 = h_up F 119 1 x) (h1 : 0 ≤ x.toInt) (h2 : x.toInt ≤ 2000000000) : g_I F2 := g_up h u ⟨h1, h2⟩
theorem gI_121_5 {F : Nat → Nat → Int32} (h : g_I F) : -1 ≤ (F 121 5).toInt ∧ (F 121 5).toInt ≤ 15 := h 121 5
theorem gU_121_5 {F F2 : Nat → Nat → Int32} {x : Int32} (h : g_I F) (u : F2 = h_up F 121 5 x) (h1 : -1 ≤ x.toInt) (h2 : x.toInt ≤ 15) : g_I F2 := g_up h u ⟨h1, h2⟩
theorem gI_121_6 {F : Nat → Nat → Int32} (h : g_I F) : -1 ≤ (F 121 6).toInt ∧ (F 121 6).toInt ≤ 31 := h 121 6
theorem gU_121_6 {F F2 : Nat → Nat → Int32} {x : Int32} (h : g_I F) (u : F2 = h_up F 121 6 x) (h1 : -1 ≤ x.toInt) (h2 : x.toInt ≤ 31) : g_I F2 := g_up h u ⟨h1, h2⟩
theorem gI_121_10 {F : Nat → Nat → Int32} (h : g_I F) : 0 ≤ (F 121 10).toInt ∧ (F 121 10).toInt ≤ 1 := h 121 10
theorem gU_121_10 {F F2 : Nat → Nat → Int32} {x : Int32} (h : g_I F) (u : F2 = h_up F 121 10 x) (h1 : 0 ≤ x.toInt) (h2 : x.toInt ≤ 1) : g_I F2 := g_up h u ⟨h1, h2⟩
theorem gI_121_11 {F : Nat → Nat → Int32} (h : g_I F) : 0 ≤ (F 121 11).toInt ∧ (F 121 11).toInt ≤ 1 := h 121 11
theorem gU_121_11 {F F2 : Nat → Nat → Int32} {x : Int32} (h : g_I F) (u : F2 = h_up F 121 11 x) (h1 : 0 ≤ x.toInt) (h2 : x.toInt ≤ 1) : g_I F2 := g_up h u ⟨h1, h2⟩
theorem gI_121_13 {F : Nat → Nat → Int32} (h : g_I F) : 0 ≤ (F 121 13).toInt ∧ (F 121 13).toInt ≤ 1000 := h 121 13
theorem gU_121_13 {F F2 : Nat → Nat → Int32} {x : Int32} (h : g_I F) (u : F2 = h_up F 121 13 x) (h1 : 0 ≤ x.toInt) (h2 : x.toInt ≤ 1000) : g_I F2 := g_up h u ⟨h1, h2⟩
theorem gI_121_46 {F : Nat → Nat → Int32} (h : g_I F) : 1 ≤ (F 121 46).toInt ∧ (F 121 46).toInt ≤ 16 := h 121 46
theorem gU_121_46 {F F2 : Nat → Nat → Int32} {x : Int32} (h : g_I F) (u : F2 = h_up F 121 46 x) (h1 : 1 ≤ x.toInt) (h2 : x.toInt ≤ 16) : g_I F2 := g_up h u ⟨h1, h2⟩
theorem gI_121_47 {F : Nat → Nat → Int32} (h : g_I F) : 0 ≤ (F 121 47).toInt ∧ (F 121 47).toInt ≤ 1 := h 121 47
theorem gU_121_47 {F F2 : Nat → Nat → Int32} {x : Int32} (h : g_I F) (u : F2 = h_up F 121 47 x) (h1 : 0 ≤ x.toInt) (h2 : x.toInt ≤ 1) : g_I F2 := g_up h u ⟨h1, h2⟩
theorem gI_121_53 {F : Nat → Nat → Int32} (h : g_I F) : 0 ≤ (F 121 53).toInt ∧ (F 121 53).toInt ≤ 1 := h 121 53
theorem gU_121_53 {F F2 : Nat → Nat → Int32} {x : Int32} (h : g_I F) (u : F2 = h_up F 121 53 x) (h1 : 0 ≤ x.toInt) (h2 : x.toInt ≤ 1) : g_I F2 := g_up h u ⟨h1, h2⟩
theorem gI_121_61 {F : Nat → Nat → Int32} (h : g_I F) : 0 ≤ (F 121 61).toInt ∧ (F 121 61).toInt ≤ 64 := h 121 61
theorem gU_121_61 {F F2 : Nat → Nat → Int32} {x : Int32} (h : g_I F) (u : F2 = h_up F 121 61 x) (h1 : 0 ≤ x.toInt) (h2 : x.toInt ≤ 64) : g_I F2 := g_up h u ⟨h1, h2⟩
theorem gI_121_67 {F : Nat → Nat → Int32} (h : g_I F) : 0 ≤ (F 121 67).toInt ∧ (F 121 67).toInt ≤ 1001 := h 121 67
theorem gU_121_67 {F F2 : Nat → Nat → Int32} {x : Int32} (h : g_I F) (u : F2 = h_up F 121 67 x) (h1 : 0 ≤ x.toInt) (h2 : x.toInt ≤ 1001) : g_I F2 := g_up h u ⟨h1, h2⟩
theorem gI_121_68 {F : Nat → Nat → Int32} (h : g_I F) : 0 ≤ (F 121 68).toInt ∧ (F 121 68).toInt ≤ 1000 := h 121 68
theorem gU_121_68 {F F2 : Nat → Nat → Int32} {x : Int32} (h : g_I F) (u : F2 = h_up F 121 68 x) (h1 : 0 ≤ x.toInt) (h2 : x.toInt ≤ 1000) : g_I F2 := g_up h u ⟨h1, h2⟩
theorem gI_121_73 {F : Nat → Nat → Int32} (h : g_I F) : 0 ≤ (F 121 73).toInt ∧ (F 121 73).toInt ≤ 30000 := h 121 73
theorem gU_121_73 {F F2 : Nat → Nat → Int32} {x : Int32} (h : g_I F) (u : F2 = h_up F 121 73 x) (h1 : 0 ≤ x.toInt) (h2 : x.toInt ≤ 30000) : g_I F2 := g_up h u ⟨h1, h2⟩
theorem gI_121_74 {F : Nat → Nat → Int32} (h : g_I F) : 0 ≤ (F 121 74).toInt ∧ (F 121 74).toInt ≤ 12 := h 121 74
theorem gU_121_74 {F F2 : Nat → Nat → Int32} {x : Int32} (h : g_I F) (u : F2 = h_up F 121 74 x) (h1 : 0 ≤ x.toInt) (h2 : x.toInt ≤ 12) : g_I F2 := g_up h u ⟨h1, h2⟩
theorem gI_121_78 {F : Nat → Nat → Int32} (h : g_I F) : 0 ≤ (F 121 78).toInt ∧ (F 121 78).toInt ≤ 12 := h 121 78
theorem gU_121_78 {F F2 : Nat → Nat → Int32} {x : Int32} (h : g_I F) (u : F2 = h_up F 121 78 x) (h1 : 0 ≤ x.toInt) (h2 : x.toInt ≤ 12) : g_I F2 := g_up h u ⟨h1, h2⟩
theorem gI_121_90 {F : Nat → Nat → Int32} (h : g_I F) : 0 ≤ (F 121 90).toInt ∧ (F 121 90).toInt ≤ 256 := h 121 90
theorem gU_121_90 {F F2 : Nat → Nat → Int32} {x : Int32} (h : g_I F) (u : F2 = h_up F 121 90 x) (h1 : 0 ≤ x.toInt) (h2 : x.toInt ≤ 256) : g_I F2 := g_up h u ⟨h1, h2⟩
theorem gI_121_91 {F : Nat → Nat → Int32} (h : g_I F) : 0 ≤ (F 121 91).toInt ∧ (F 121 91).toInt ≤ 1 := h 121 91
theorem gU_121_91 {F F2 : Nat → Nat → Int32} {x : Int32} (h : g_I F) (u : F2 = h_up F 121 91 x) (h1 : 0 ≤ x.toInt) (h2 : x.toInt ≤ 1) : g_I F2 := g_up h u ⟨h1, h2⟩
theorem gI_121_92 {F : Nat → Nat → Int32} (h : g_I F) : 0 ≤ (F 121 92).toInt ∧ (F 121 92).toInt ≤ 1001 := h 121 92
theorem gU_121_92 {F F2 : Nat → Nat → Int32} {x : Int32} (h : g_I F) (u : F2 = h_up F 121 92 x) (h1 : 0 ≤ x.toInt) (h2 : x.toInt ≤ 1001) : g_I F2 := g_up h u ⟨h1, h2⟩
theorem gI_121_94 {F : Nat → Nat → Int32} (h : g_I F) : 0 ≤ (F 121 94).toInt ∧ (F 121 94).toInt ≤ 8 := h 121 94
theorem gU_121_94 {F F2 : Nat → Nat → Int32} {x : Int32} (h : g_I F) (u : F2 = h_up F 121 94 x) (h1 : 0 ≤ x.toInt) (h2 : x.toInt ≤ 8) : g_I F2 := g_up h u ⟨h1, h2⟩
theorem gI_121_95 {F : Nat → Nat → Int32} (h : g_I F) : 0 ≤ (F 121 95).toInt ∧ (F 121 95).toInt ≤ 1 := h 121 95
theorem gU_121_95 {F F2 : Nat → Nat → Int32} {x : Int32} (h : g_I F) (u : F2 = h_up F 121 95 x) (h1 : 0 ≤ x.toInt) (h2 : x.toInt ≤ 1) : g_I F2 := g_up h u ⟨h1, h2⟩
theorem gI_121_101 {F : Nat → Nat → Int32} (h : g_I F) : 0 ≤ (F 121 101).toInt ∧ (F 121 101).toInt ≤ 512 := h 121 101
theorem gU_121_101 {F F2 : Nat → Nat → Int32} {x : Int32} (h : g_I F) (u : F2 = h_up F 121 101 x) (h1 : 0 ≤ x.toInt) (h2 : x.toInt ≤ 512) : g_I F2 := g_up h u ⟨h1, h2⟩
theorem gI_121_104 {F : Nat → Nat → Int32} (h : g_I F) : 0 ≤ (F 121 104).toInt ∧ (F 121 104).toInt ≤ 1 := h 121 104
theorem gU_121_104 {F F2 : Nat → Nat → Int32} {x : Int32} (h : g_I F) (u : F2 = h_up F 121 104 x) (h1 : 0 ≤ x.toInt) (h2 : x.toInt ≤ 1) : g_I F2 := g_up h u ⟨h1, h2⟩
theorem gI_124 {F : Nat → Nat → Int32} (h : g_I F) {i : Nat} (hi : i < 19200) : 0 ≤ (F 124 i).toInt ∧ (F 124 i).toInt ≤ 255 := by
  have z : _ := h 124 i
  rw [show g_r 124 i = g_r124 i from rfl, g_r124, if_pos hi] at z; exact z
theorem gU_124 {F F2 : Nat → Nat → Int32} {x : Int32} {i : Nat} (h : g_I F) (u : F2 = h_up F 124 i x) (h1 : 0 ≤ x.toInt) (h2 : x.toInt ≤ 255) : g_I F2 := g_up h u (by
  rw [show g_r 124 i = g_r124 i from rfl, g_r124]
  split
  · exact ⟨h1, h2⟩
  · exact i_rng x)
theorem gA_124 {F : Nat → Nat → Int32} (h : g_I F) : h_ai 124 19200 0 255 F := fun _ hi => gI_124 h hi
theorem gB_124 {F : Nat → Nat → Int32} (h : h_ai 124 19200 0 255 F) : ∀ i, (g_r 124 i).1 ≤ (F 124 i).toInt ∧ (F 124 i).toInt ≤ (g_r 124 i).2 := fun i => by
  rw [show g_r 124 i = g_r124 i from rfl, g_r124]
  split
  · exact h i (by assumption)
  · exact i_rng _
theorem gI_125 {F : Nat → Nat → Int32} (h : g_I F) {i : Nat} (hi : i < 32) : 0 ≤ (F 125 i).toInt ∧ (F 125 i).toInt ≤ 600 := by
  have z : _ := h 125 i
  rw [show g_r 125 i = g_r125 i from rfl, g_r125, if_pos hi] at z; exact z
theorem gU_125 {F F2 : Nat → Nat → Int32} {x : Int32} {i : Nat} (h : g_I F) (u : F2 = h_up F 125 i x) (h1 : 0 ≤ x.toInt) (h2 : x.toInt ≤ 600) : g_I F2 := g_up h u (by
  rw [show g_r 125 i = g_r125 i from rfl, g_r125]
  split
  · exact ⟨h1, h2⟩
  · exact i_rng x)
theorem gA_125 {F : Nat → Nat → Int32} (h : g_I F) : h_ai 125 32 0 600 F := fun _ hi => gI_125 h hi
theorem gB_125 {F : Nat → Nat → Int32} (h : h_ai 125 32 0 600 F) : ∀ i, (g_r 125 i).1 ≤ (F 125 i).toInt ∧ (F 125 i).toInt ≤ (g_r 125 i).2 := fun i => by
  rw [show g_r 125 i = g_r125 i from rfl, g_r125]
  split
  · exact h i (by assumption)
  · exact i_rng _
theorem gI_126 {F : Nat → Nat → Int32} (h : g_I F) {i : Nat} (hi : i < 1000) : 0 ≤ (F 126 i).toInt ∧ (F 126 i).toInt ≤ 255 := by
  have z : _ := h 126 i
  rw [show g_r 126 i = g_r126 i from rfl, g_r126, if_pos hi] at z; exact z
theorem gU_126 {F F2 : Nat → Nat → Int32} {x : Int32} {i : Nat} (h : g_I F) (u : F2 = h_up F 126 i x) (h1 : 0 ≤ x.toInt) (h2 : x.toInt ≤ 255) : g_I F2 := g_up h u (by
  rw [show g_r 126 i = g_r126 i from rfl, g_r126]
  split
  · exact ⟨h1, h2⟩
  · exact i_rng x)
theorem gA_126 {F : Nat → Nat → Int32} (h : g_I F) : h_ai 126 1000 0 255 F := fun _ hi => gI_126 h hi
theorem gB_126 {F : Nat → Nat → Int32} (h : h_ai 126 1000 0 255 F) : ∀ i, (g_r 126 i).1 ≤ (F 126 i).toInt ∧ (F 126 i).toInt ≤ (g_r 126 i).2 := fun i => by
  rw [show g_r 126 i = g_r126 i from rfl, g_r126]
  split
  · exact h i (by assumption)
  · exact i_rng _
theorem gI_128 {F : Nat → Nat → Int32} (h : g_I F) {i : Nat} (hi : i < 2) : 0 ≤ (F 128 i).toInt ∧ (F 128 i).toInt ≤ 128 := by
  have z : _ := h 128 i
  rw [show g_r 128 i = g_r128 i from rfl, g_r128, if_pos hi] at z; exact z
theorem gU_128 {F F2 : Nat → Nat → Int32} {x : Int32} {i : Nat} (h : g_I F) (u : F2 = h_up F 128 i x) (h1 : 0 ≤ x.toInt) (h2 : x.toInt ≤ 128) : g_I F2 := g_up h u (by
  rw [show g_r 128 i = g_r128 i from rfl, g_r128]
  split
  · exact ⟨h1, h2⟩
  · exact i_rng x)
theorem gA_128 {F : Nat → Nat → Int32} (h : g_I F) : h_ai 128 2 0 128 F := fun _ hi => gI_128 h hi
theorem gB_128 {F : Nat → Nat → Int32} (h : h_ai 128 2 0 128 F) : ∀ i, (g_r 128 i).1 ≤ (F 128 i).toInt ∧ (F 128 i).toInt ≤ (g_r 128 i).2 := fun i => by
  rw [show g_r 128 i = g_r128 i from rfl, g_r128]
  split
  · exact h i (by assumption)
  · exact i_rng _
theorem gI_129 {F : Nat → Nat → Int32} (h : g_I F) {i : Nat} (hi : i < 2) : 0 ≤ (F 129 i).toInt ∧ (F 129 i).toInt ≤ 16 := by
  have z : _ := h 129 i
  rw [show g_r 129 i = g_r129 i from rfl, g_r129, if_pos hi] at z; exact z
theorem gU_129 {F F2 : Nat → Nat → Int32} {x : Int32} {i : Nat} (h : g_I F) (u : F2 = h_up F 129 i x) (h1 : 0 ≤ x.toInt) (h2 : x.toInt ≤ 16) : g_I F2 := g_up h u (by
  rw [show g_r 129 i = g_r129 i from rfl, g_r129]
  split
  · exact ⟨h1, h2⟩
  · exact i_rng x)
theorem gA_129 {F : Nat → Nat → Int32} (h : g_I F) : h_ai 129 2 0 16 F := fun _ hi => gI_129 h hi
theorem gB_129 {F : Nat → Nat → Int32} (h : h_ai 129 2 0 16 F) : ∀ i, (g_r 129 i).1 ≤ (F 129 i).toInt ∧ (F 129 i).toInt ≤ (g_r 129 i).2 := fun i => by
  rw [show g_r 129 i = g_r129 i from rfl, g_r129]
  split
  · exact h i (by assumption)
  · exact i_rng _
theorem gI_132 {F : Nat → Nat → Int32} (h : g_I F) {i : Nat} (hi : i < 32) : 0 ≤ (F 132 i).toInt ∧ (F 132 i).toInt ≤ 4096 := by
  have z : _ := h 132 i
  rw [show g_r 132 i = g_r132 i from rfl, g_r132, if_pos hi] at z; exact z
theorem gU_132 {F F2 : Nat → Nat → Int32} {x : Int32} {i : Nat} (h : g_I F) (u : F2 = h_up F 132 i x) (h1 : 0 ≤ x.toInt) (h2 : x.toInt ≤ 4096) : g_I F2 := g_up h u (by
  rw [show g_r 132 i = g_r132 i from rfl, g_r132]
  split
  · exact ⟨h1, h2⟩
  · exact i_rng x)
theorem gA_132 {F : Nat → Nat → Int32} (h : g_I F) : h_ai 132 32 0 4096 F := fun _ hi => gI_132 h hi
theorem gB_132 {F : Nat → Nat → Int32} (h : h_ai 132 32 0 4096 F) : ∀ i, (g_r 132 i).1 ≤ (F 132 i).toInt ∧ (F 132 i).toInt ≤ (g_r 132 i).2 := fun i => by
  rw [show g_r 132 i = g_r132 i from rfl, g_r132]
  split
  · exact h i (by assumption)
  · exact i_rng _
theorem gI_133 {F : Nat → Nat → Int32} (h : g_I F) {i : Nat} (hi : i < 32) : 0 ≤ (F 133 i).toInt ∧ (F 133 i).toInt ≤ 4096 := by
  have z : _ := h 133 i
  rw [show g_r 133 i = g_r133 i from rfl, g_r133, if_pos hi] at z; exact z
theorem gU_133 {F F2 : Nat → Nat → Int32} {x : Int32} {i : Nat} (h : g_I F) (u : F2 = h_up F 133 i x) (h1 : 0 ≤ x.toInt) (h2 : x.toInt ≤ 4096) : g_I F2 := g_up h u (by
  rw [show g_r 133 i = g_r133 i from rfl, g_r133]
  split
  · exact ⟨h1, h2⟩
  · exact i_rng x)
theorem gA_133 {F : Nat → Nat → Int32} (h : g_I F) : h_ai 133 32 0 4096 F := fun _ hi => gI_133 h hi
theorem gB_133 {F : Nat → Nat → Int32} (h : h_ai 133 32 0 4096 F) : ∀ i, (g_r 133 i).1 ≤ (F 133 i).toInt ∧ (F 133 i).toInt ≤ (g_r 133 i).2 := fun i => by
  rw [show g_r 133 i = g_r133 i from rfl, g_r133]
  split
  · exact h i (by assumption)
  · exact i_rng _
theorem gI_135 {F : Nat → Nat → Int32} (h : g_I F) {i : Nat} (hi : i < 2) : 0 ≤ (F 135 i).toInt ∧ (F 135 i).toInt ≤ 4096 := by
  have z : _ := h 135 i
  rw [show g_r 135 i = g_r135 i from rfl, g_r135, if_pos hi] at z; exact z
theorem gU_135 {F F2 : Nat → Nat → Int32} {x : Int32} {i : Nat} (h : g_I F) (u : F2 = h_up F 135 i x) (h1 : 0 ≤ x.toInt) (h2 : x.toInt ≤ 4096) : g_I F2 := g_up h u (by
  rw [show g_r 135 i = g_r135 i from rfl, g_r135]
  split
  · exact ⟨h1, h2⟩
  · exact i_rng x)
theorem gA_135 {F : Nat → Nat → Int32} (h : g_I F) : h_ai 135 2 0 4096 F := fun _ hi => gI_135 h hi
theorem gB_135 {F : Nat → Nat → Int32} (h : h_ai 135 2 0 4096 F) : ∀ i, (g_r 135 i).1 ≤ (F 135 i).toInt ∧ (F 135 i).toInt ≤ (g_r 135 i).2 := fun i => by
  rw [show g_r 135 i = g_r135 i from rfl, g_r135]
  split
  · exact h i (by assumption)
  · exact i_rng _
theorem gI_142 {F : Nat → Nat → Int32} (h : g_I F) {i : Nat} (hi : i < 2) : 0 ≤ (F 142 i).toInt ∧ (F 142 i).toInt ≤ 8 := by
  have z : _ := h 142 i
  rw [show g_r 142 i = g_r142 i from rfl, g_r142, if_pos hi] at z; exact z
theorem gU_142 {F F2 : Nat → Nat → Int32} {x : Int32} {i : Nat} (h : g_I F) (u : F2 = h_up F 142 i x) (h1 : 0 ≤ x.toInt) (h2 : x.toInt ≤ 8) : g_I F2 := g_up h u (by
  rw [show g_r 142 i = g_r142 i from rfl, g_r142]
  split
  · exact ⟨h1, h2⟩
  · exact i_rng x)
theorem gA_142 {F : Nat → Nat → Int32} (h : g_I F) : h_ai 142 2 0 8 F := fun _ hi => gI_142 h hi
theorem gB_142 {F : Nat → Nat → Int32} (h : h_ai 142 2 0 8 F) : ∀ i, (g_r 142 i).1 ≤ (F 142 i).toInt ∧ (F 142 i).toInt ≤ (g_r 142 i).2 := fun i => by
  rw [show g_r 142 i = g_r142 i from rfl, g_r142]
  split
  · exact h i (by assumption)
  · exact i_rng _
theorem gI_146 {F : Nat → Nat → Int32} (h : g_I F) {i : Nat} (hi : i < 16) : 0 ≤ (F 146 i).toInt ∧ (F 146 i).toInt ≤ 4096 := by
  have z : _ := h 146 i
  rw [show g_r 146 i = g_r146 i from rfl, g_r146, if_pos hi] at z; exact z
theorem gU_146 {F F2 : Nat → Nat → Int32} {x : Int32} {i : Nat} (h : g_I F) (u : F2 = h_up F 146 i x) (h1 : 0 ≤ x.toInt) (h2 : x.toInt ≤ 4096) : g_I F2 := g_up h u (by
  rw [show g_r 146 i = g_r146 i from rfl, g_r146]
  split
  · exact ⟨h1, h2⟩
  · exact i_rng x)
theorem gA_146 {F : Nat → Nat → Int32} (h : g_I F) : h_ai 146 16 0 4096 F := fun _ hi => gI_146 h hi
theorem gB_146 {F : Nat → Nat → Int32} (h : h_ai 146 16 0 4096 F) : ∀ i, (g_r 146 i).1 ≤ (F 146 i).toInt ∧ (F 146 i).toInt ≤ (g_r 146 i).2 := fun i => by
  rw [show g_r 146 i = g_r146 i from rfl, g_r146]
  split
  · exact h i (by assumption)
  · exact i_rng _
theorem gI_154 {F : Nat → Nat → Int32} (h : g_I F) {i : Nat} (hi : i < 4000) : 0 ≤ (F 154 i).toInt ∧ (F 154 i).toInt ≤ 255 := by
  have z : _ := h 154 i
  rw [show g_r 154 i = g_r154 i from rfl, g_r154, if_pos hi] at z; exact z
theorem gU_154 {F F2 : Nat → Nat → Int32} {x : Int32} {i : Nat} (h : g_I F) (u : F2 = h_up F 154 i x) (h1 : 0 ≤ x.toInt) (h2 : x.toInt ≤ 255) : g_I F2 := g_up h u (by
  rw [show g_r 154 i = g_r154 i from rfl, g_r154]
  split
  · exact ⟨h1, h2⟩
  · exact i_rng x)
theorem gA_154 {F : Nat → Nat → Int32} (h : g_I F) : h_ai 154 4000 0 255 F := fun _ hi => gI_154 h hi
theorem gB_154 {F : Nat → Nat → Int32} (h : h_ai 154 4000 0 255 F) : ∀ i, (g_r 154 i).1 ≤ (F 154 i).toInt ∧ (F 154 i).toInt ≤ (g_r 154 i).2 := fun i => by
  rw [show g_r 154 i = g_r154 i from rfl, g_r154]
  split
  · exact h i (by assumption)
  · exact i_rng _
theorem gI_156 {F : Nat → Nat → Int32} (h : g_I F) {i : Nat} (hi : i < 12) : 0 ≤ (F 156 i).toInt ∧ (F 156 i).toInt ≤ 8 := by
  have z : _ := h 156 i
  rw [show g_r 156 i = g_r156 i from rfl, g_r156, if_pos hi] at z; exact z
theorem gU_156 {F F2 : Nat → Nat → Int32} {x : Int32} {i : Nat} (h : g_I F) (u : F2 = h_up F 156 i x) (h1 : 0 ≤ x.toInt) (h2 : x.toInt ≤ 8) : g_I F2 := g_up h u (by
  rw [show g_r 156 i = g_r156 i from rfl, g_r156]
  split
  · exact ⟨h1, h2⟩
  · exact i_rng x)
theorem gA_156 {F : Nat → Nat → Int32} (h : g_I F) : h_ai 156 12 0 8 F := fun _ hi => gI_156 h hi
theorem gB_156 {F : Nat → Nat → Int32} (h : h_ai 156 12 0 8 F) : ∀ i, (g_r 156 i).1 ≤ (F 156 i).toInt ∧ (F 156 i).toInt ≤ (g_r 156 i).2 := fun i => by
  rw [show g_r 156 i = g_r156 i from rfl, g_r156]
  split
  · exact h i (by assumption)
  · exact i_rng _
theorem gI_157 {F : Nat → Nat → Int32} (h : g_I F) {i : Nat} (hi : i < 12) : 0 ≤ (F 157 i).toInt ∧ (F 157 i).toInt ≤ 1000 := by
  have z : _ := h 157 i
  rw [show g_r 157 i = g_r157 i from rfl, g_r157, if_pos hi] at z; exact z
theorem gU_157 {F F2 : Nat → Nat → Int32} {x : Int32} {i : Nat} (h : g_I F) (u : F2 = h_up F 157 i x) (h1 : 0 ≤ x.toInt) (h2 : x.toInt ≤ 1000) : g_I F2 := g_up h u (by
  rw [show g_r 157 i = g_r157 i from rfl, g_r157]
  split
  · exact ⟨h1, h2⟩
  · exact i_rng x)
theorem gA_157 {F : Nat → Nat → Int32} (h : g_I F) : h_ai 157 12 0 1000 F := fun _ hi => gI_157 h hi
theorem gB_157 {F : Nat → Nat → Int32} (h : h_ai 157 12 0 1000 F) : ∀ i, (g_r 157 i).1 ≤ (F 157 i).toInt ∧ (F 157 i).toInt ≤ (g_r 157 i).2 := fun i => by
  rw [show g_r 157 i = g_r157 i from rfl, g_r157]
  split
  · exact h i (by assumption)
  · exact i_rng _
theorem gI_159 {F : Nat → Nat → Int32} (h : g_I F) {i : Nat} (hi : i < 12) : 0 ≤ (F 159 i).toInt ∧ (F 159 i).toInt ≤ 8 := by
  have z : _ := h 159 i
  rw [show g_r 159 i = g_r159 i from rfl, g_r159, if_pos hi] at z; exact z
theorem gU_159 {F F2 : Nat → Nat → Int32} {x : Int32} {i : Nat} (h : g_I F) (u : F2 = h_up F 159 i x) (h1 : 0 ≤ x.toInt) (h2 : x.toInt ≤ 8) : g_I F2 := g_up h u (by
  rw [show g_r 159 i = g_r159 i from rfl, g_r159]
  split
  · exact ⟨h1, h2⟩
  · exact i_rng x)
theorem gA_159 {F : Nat → Nat → Int32} (h : g_I F) : h_ai 159 12 0 8 F := fun _ hi => gI_159 h hi
theorem gB_159 {F : Nat → Nat → Int32} (h : h_ai 159 12 0 8 F) : ∀ i, (g_r 159 i).1 ≤ (F 159 i).toInt ∧ (F 159 i).toInt ≤ (g_r 159 i).2 := fun i => by
  rw [show g_r 159 i = g_r159 i from rfl, g_r159]
  split
  · exact h i (by assumption)
  · exact i_rng _
theorem gI_160 {F : Nat → Nat → Int32} (h : g_I F) {i : Nat} (hi : i < 12) : 0 ≤ (F 160 i).toInt ∧ (F 160 i).toInt ≤ 1000 := by
  have z : _ := h 160 i
  rw [show g_r 160 i = g_r160 i from rfl, g_r160, if_pos hi] at z; exact z
theorem gU_160 {F F2 : Nat → Nat → Int32} {x : Int32} {i : Nat} (h : g_I F) (u : F2 = h_up F 160 i x) (h1 : 0 ≤ x.toInt) (h2 : x.toInt ≤ 1000) : g_I F2 := g_up h u (by
  rw [show g_r 160 i = g_r160 i from rfl, g_r160]
  split
  · exact ⟨h1, h2⟩
  · exact i_rng x)
theorem gA_160 {F : Nat → Nat → Int32} (h : g_I F) : h_ai 160 12 0 1000 F := fun _ hi => gI_160 h hi
theorem gB_160 {F : Nat → Nat → Int32} (h : h_ai 160 12 0 1000 F) : ∀ i, (g_r 160 i).1 ≤ (F 160 i).toInt ∧ (F 160 i).toInt ≤ (g_r 160 i).2 := fun i => by
  rw [show g_r 160 i = g_r160 i from rfl, g_r160]
  split
  · exact h i (by assumption)
  · exact i_rng _
theorem gI_161 {F : Nat → Nat → Int32} (h : g_I F) {i : Nat} (hi : i < 13) : 0 ≤ (F 161 i).toInt ∧ (F 161 i).toInt ≤ 30000 := by
  have z : _ := h 161 i
  rw [show g_r 161 i = g_r161 i from rfl, g_r161, if_pos hi] at z; exact z
theorem gU_161 {F F2 : Nat → Nat → Int32} {x : Int32} {i : Nat} (h : g_I F) (u : F2 = h_up F 161 i x) (h1 : 0 ≤ x.toInt) (h2 : x.toInt ≤ 30000) : g_I F2 := g_up h u (by
  rw [show g_r 161 i = g_r161 i from rfl, g_r161]
  split
  · exact ⟨h1, h2⟩
  · exact i_rng x)
theorem gA_161 {F : Nat → Nat → Int32} (h : g_I F) : h_ai 161 13 0 30000 F := fun _ hi => gI_161 h hi
theorem gB_161 {F : Nat → Nat → Int32} (h : h_ai 161 13 0 30000 F) : ∀ i, (g_r 161 i).1 ≤ (F 161 i).toInt ∧ (F 161 i).toInt ≤ (g_r 161 i).2 := fun i => by
  rw [show g_r 161 i = g_r161 i from rfl, g_r161]
  split
  · exact h i (by assumption)
  · exact i_rng _
theorem gI_163 {F : Nat → Nat → Int32} (h : g_I F) {i : Nat} (hi : i < 12) : 0 ≤ (F 163 i).toInt ∧ (F 163 i).toInt ≤ 1 := by
  have z : _ := h 163 i
  rw [show g_r 163 i = g_r163 i from rfl, g_r163, if_pos hi] at z; exact z
theorem gU_163 {F F2 : Nat → Nat → Int32} {x : Int32} {i : Nat} (h : g_I F) (u : F2 = h_up F 163 i x) (h1 : 0 ≤ x.toInt) (h2 : x.toInt ≤ 1) : g_I F2 := g_up h u (by
  rw [show g_r 163 i = g_r163 i from rfl, g_r163]
  split
  · exact ⟨h1, h2⟩
  · exact i_rng x)
theorem gA_163 {F : Nat → Nat → Int32} (h : g_I F) : h_ai 163 12 0 1 F := fun _ hi => gI_163 h hi
theorem gB_163 {F : Nat → Nat → Int32} (h : h_ai 163 12 0 1 F) : ∀ i, (g_r 163 i).1 ≤ (F 163 i).toInt ∧ (F 163 i).toInt ≤ (g_r 163 i).2 := fun i => by
  rw [show g_r 163 i = g_r163 i from rfl, g_r163]
  split
  · exact h i (by assumption)
  · exact i_rng _
theorem gI_164 {F : Nat → Nat → Int32} (h : g_I F) {i : Nat} (hi : i < 4000) : 0 ≤ (F 164 i).toInt ∧ (F 164 i).toInt ≤ 255 := by
  have z : _ := h 164 i
  rw [show g_r 164 i = g_r164 i from rfl, g_r164, if_pos hi] at z; exact z
theorem gU_164 {F F2 : Nat → Nat → Int32} {x : Int32} {i : Nat} (h : g_I F) (u : F2 = h_up F 164 i x) (h1 : 0 ≤ x.toInt) (h2 : x.toInt ≤ 255) : g_I F2 := g_up h u (by
  rw [show g_r 164 i = g_r164 i from rfl, g_r164]
  split
  · exact ⟨h1, h2⟩
  · exact i_rng x)
theorem gA_164 {F : Nat → Nat → Int32} (h : g_I F) : h_ai 164 4000 0 255 F := fun _ hi => gI_164 h hi
theorem gB_164 {F : Nat → Nat → Int32} (h : h_ai 164 4000 0 255 F) : ∀ i, (g_r 164 i).1 ≤ (F 164 i).toInt ∧ (F 164 i).toInt ≤ (g_r 164 i).2 := fun i => by
  rw [show g_r 164 i = g_r164 i from rfl, g_r164]
  split
  · exact h i (by assumption)
  · exact i_rng _
theorem gI_174 {F : Nat → Nat → Int32} (h : g_I F) {i : Nat} (hi : i < 256) : 0 ≤ (F 174 i).toInt ∧ (F 174 i).toInt ≤ 1 := by
  have z : _ := h 174 i
  rw [show g_r 174 i = g_r174 i from rfl, g_r174, if_pos hi] at z; exact z
theorem gU_174 {F F2 : Nat → Nat → Int32} {x : Int32} {i : Nat} (h : g_I F) (u : F2 = h_up F 174 i x) (h1 : 0 ≤ x.toInt) (h2 : x.toInt ≤ 1) : g_I F2 := g_up h u (by
  rw [show g_r 174 i = g_r174 i from rfl, g_r174]
  split
  · exact ⟨h1, h2⟩
  · exact i_rng x)
theorem gA_174 {F : Nat → Nat → Int32} (h : g_I F) : h_ai 174 256 0 1 F := fun _ hi => gI_174 h hi
theorem gB_174 {F : Nat → Nat → Int32} (h : h_ai 174 256 0 1 F) : ∀ i, (g_r 174 i).1 ≤ (F 174 i).toInt ∧ (F 174 i).toInt ≤ (g_r 174 i).2 := fun i => by
  rw [show g_r 174 i = g_r174 i from rfl, g_r174]
  split
  · exact h i (by assumption)
  · exact i_rng _
theorem gI_175 {F : Nat → Nat → Int32} (h : g_I F) {i : Nat} (hi : i < 256) : 0 ≤ (F 175 i).toInt ∧ (F 175 i).toInt ≤ 1 := by
  have z : _ := h 175 i
  rw [show g_r 175 i = g_r175 i from rfl, g_r175, if_pos hi] at z; exact z
theorem gU_175 {F F2 : Nat → Nat → Int32} {x : Int32} {i : Nat} (h : g_I F) (u : F2 = h_up F 175 i x) (h1 : 0 ≤ x.toInt) (h2 : x.toInt ≤ 1) : g_I F2 := g_up h u (by
  rw [show g_r 175 i = g_r175 i from rfl, g_r175]
  split
  · exact ⟨h1, h2⟩
  · exact i_rng x)
theorem gA_175 {F : Nat → Nat → Int32} (h : g_I F) : h_ai 175 256 0 1 F := fun _ hi => gI_175 h hi
theorem gB_175 {F : Nat → Nat → Int32} (h : h_ai 175 256 0 1 F) : ∀ i, (g_r 175 i).1 ≤ (F 175 i).toInt ∧ (F 175 i).toInt ≤ (g_r 175 i).2 := fun i => by
  rw [show g_r 175 i = g_r175 i from rfl, g_r175]
  split
  · exact h i (by assumption)
  · exact i_rng _
theorem g_hi {c k : Nat} (h : 176 ≤ c) : g_r c k = g_F := by
  unfold g_r
  repeat (first | rw [if_neg (by omega)] | rfl)
theorem hid_i {p : Prop} (h : p) : hid p := h
section GUP
variable {α : Type} {F F1 F2 : Nat → Nat → α} {c c2 k k2 n : Nat} {x v : α} {SH : Nat → Nat × Nat} {L : List (Nat × Nat)} {A T : List Nat}
theorem up_eq (u : F2 = h_up F c k x) : F2 c k = x := by subst u; exact h_up_eq
theorem up_k (u : F2 = h_up F c k x) (h : k2 ≠ k) (p : F c2 k2 = v) : F2 c2 k2 = v := by
  subst u
  by_cases e : c2 = c
  · subst e; rw [h_up_ne h]; exact p
  · rw [h_up_nc e]; exact p
theorem up_c (u : F2 = h_up F c k x) (h : c2 ≠ c) (p : F c2 k2 = v) : F2 c2 k2 = v := by subst u; rw [h_up_nc h]; exact p
theorem up_row {G : Nat → α} (u : F2 = h_up F c k x) (h : c2 ≠ c) (p : F c2 = G) : F2 c2 = G := by subst u; rw [h_up_nc h]; exact p
theorem up_va {G : Nat → α} (u : F2 = h_up F c k x) (p : F c = G) : F2 c = va_up G k x := by subst u; subst p; simp [h_up, va_up]
def g_fr (n : Nat) (SH : Nat → Nat × Nat) (L : List (Nat × Nat)) (A T : List Nat) (F F2 : Nat → Nat → α) : Prop := ∀ c k, c < n → (c, k) ∉ L → c ∉ A → (SH c).1 ∉ T → F2 c k = F c k
theorem gf_rf : g_fr n SH L A T F F := fun _ _ _ _ _ _ => rfl
theorem gf_f (h : g_fr n SH L A T F F1) (u : F2 = h_up F1 c k x) (m : (c, k) ∈ L) : g_fr n SH L A T F F2 := fun c2 k2 h1 h2 h3 h4 => by
  subst u
  by_cases e : c2 = c
  · subst e
    by_cases e2 : k2 = k
    · subst e2; exact absurd m h2
    · rw [h_up_ne e2]; exact h _ _ h1 h2 h3 h4
  · rw [h_up_nc e]; exact h _ _ h1 h2 h3 h4
theorem gf_a (h : g_fr n SH L A T F F1) (u : F2 = h_up F1 c k x) (m : c ∈ A) : g_fr n SH L A T F F2 := fun c2 k2 h1 h2 h3 h4 => by
  subst u
  by_cases e : c2 = c
  · subst e; exact absurd m h3
  · rw [h_up_nc e]; exact h _ _ h1 h2 h3 h4
theorem gf_t {t z : Nat} (h : g_fr n SH L A T F F1) (u : F2 = h_up F1 c k x) (hs : SH c = (t, z)) (m : t ∈ T) : g_fr n SH L A T F F2 := fun c2 k2 h1 h2 h3 h4 => by
  subst u
  by_cases e : c2 = c
  · subst e; rw [hs] at h4; exact absurd m h4
  · rw [h_up_nc e]; exact h _ _ h1 h2 h3 h4
theorem gf_n (h : g_fr n SH L A T F F1) (u : F2 = h_up F1 c k x) (hc : n ≤ c) : g_fr n SH L A T F F2 := fun c2 k2 h1 h2 h3 h4 => by
  subst u
  rw [h_up_nc (show c2 ≠ c by omega)]; exact h _ _ h1 h2 h3 h4
def g_sub (L2 L : List (Nat × Nat)) : Bool := L2.all (fun p => L.contains p)
def g_subn (L2 L : List Nat) : Bool := L2.all (fun p => L.contains p)
theorem g_sub_mem {L2 L : List (Nat × Nat)} (h : g_sub L2 L = true) {p : Nat × Nat} (hp : p ∈ L2) : p ∈ L := by
  simpa using List.all_eq_true.mp h p hp
theorem g_subn_mem {L2 L : List Nat} (h : g_subn L2 L = true) {p : Nat} (hp : p ∈ L2) : p ∈ L := by
  simpa using List.all_eq_true.mp h p hp
/-- more cells, the old ones as they were -/
def g_ex (n : Nat) (SH : Nat → Nat × Nat) (n2 : Nat) (SH2 : Nat → Nat × Nat) : Prop := n ≤ n2 ∧ ∀ c, c < n → SH2 c = SH c
theorem ex_rf : g_ex n SH n SH := ⟨Nat.le_refl _, fun _ _ => rfl⟩
theorem ex_tr {n2 n3 : Nat} {SH2 SH3 : Nat → Nat × Nat} (h : g_ex n SH n2 SH2) (h2 : g_ex n2 SH2 n3 SH3) : g_ex n SH n3 SH3 := ⟨Nat.le_trans h.1 h2.1, fun c hc => (h2.2 c (Nat.lt_of_lt_of_le hc h.1)).trans (h.2 c hc)⟩
theorem gf_tr {n2 : Nat} {SH2 : Nat → Nat × Nat} {L2 : List (Nat × Nat)} {A2 T2 : List Nat} (e : g_ex n SH n2 SH2) (h : g_fr n SH L A T F F1) (h2 : g_fr n2 SH2 L2 A2 T2 F1 F2) (s1 : g_sub L2 L = true) (s2 : g_subn A2 A = true) (s3 : g_subn T2 T = true) : g_fr n SH L A T F F2 := fun c k h1 g2 g3 g4 =>
  (h2 c k (Nat.lt_of_lt_of_le h1 e.1) (fun z => g2 (g_sub_mem s1 z)) (fun z => g3 (g_subn_mem s2 z)) (by rw [e.2 c h1]; exact fun z => g4 (g_subn_mem s3 z))).trans (h c k h1 g2 g3 g4)
theorem gf_at {t z : Nat} (f : g_fr n SH L A T F F2) (hc : c < n) (hs : SH c = (t, z)) (m : (L.contains (c, k) || A.contains c || T.contains t) = false) (p : F c k = v) : F2 c k = v := by
  rw [Bool.or_eq_false_iff, Bool.or_eq_false_iff] at m
  refine (f c k hc ?_ ?_ ?_).trans p
  · intro h; have := m.1.1; simp [h] at this
  · intro h; have := m.1.2; simp [h] at this
  · rw [hs]; intro h; have := m.2; simp [h] at this
theorem gf_row {G : Nat → α} {t z : Nat} (f : g_fr n SH L A T F F2) (hc : c < n) (hs : SH c = (t, z)) (m : (L.all (fun p => p.1 != c) && !(A.contains c) && !(T.contains t)) = true) (p : F c = G) : F2 c = G := by
  rw [Bool.and_eq_true, Bool.and_eq_true] at m
  refine Eq.trans ?_ p
  funext k
  refine f c k hc ?_ ?_ ?_
  · intro h
    have := List.all_eq_true.mp m.1.1 _ h
    simp at this
  · intro h; have := m.1.2; simp [h] at this
  · rw [hs]; intro h; have := m.2; simp [h] at this
theorem gf_old {ks qs : List Nat} (f : h_fr F F2 ks qs) : g_fr n SH (ks.map (fun k => (121, k))) qs T F F2 := fun c k _ h2 h3 _ => by
  by_cases e : c = 121
  · subst e
    exact f.1 k (fun h => h2 (List.mem_map.mpr ⟨k, h, rfl⟩))
  · rw [f.2 c e h3]
end GUP
theorem g_old {F F2 : Nat → Nat → Int32} {ks qs : List Nat} (h : g_I F) (f : h_fr F F2 ks qs) (hk : ∀ k, k ∈ ks → (g_r 121 k).1 ≤ (F2 121 k).toInt ∧ (F2 121 k).toInt ≤ (g_r 121 k).2) (hq : ∀ q, q ∈ qs → ∀ i, (g_r q i).1 ≤ (F2 q i).toInt ∧ (F2 q i).toInt ≤ (g_r q i).2) : g_I F2 := fun c k => by
  by_cases e : c = 121
  · subst e
    by_cases e2 : k ∈ ks
    · exact hk k e2
    · rw [f.1 k e2]; exact h 121 k
  · by_cases e2 : c ∈ qs
    · exact hq c e2 k
    · rw [f.2 c e e2]; exact h c k
theorem g_k0 {P : Nat → Prop} : ∀ k, k ∈ ([] : List Nat) → P k := fun _ h => by cases h
theorem g_kc {P : Nat → Prop} {a : Nat} {l : List Nat} (h : P a) (t : ∀ k, k ∈ l → P k) : ∀ k, k ∈ a :: l → P k := fun k hk => by
  rcases List.mem_cons.mp hk with rfl | h2
  · exact h
  · exact t k h2
section GHW
variable {base d : Nat} {X : Option (Nat × Nat × (Nat → Int32))} {j : Nat} {y : MethodName} {nL : Nat} {ret : Option FieldType} {pc : Nat} {L : xL} {st : List Value} {Φ : Option Value → hS → Prop} {n sl : Nat} {SH : Nat → Nat × Nat} {FI : Nat → Nat → Int32} {FL : Nat → Nat → Int64} {FR : Nat → Nat → Option Nat}
theorem hv_puti {sk : xK} {idx t k N c z : Nat} {C : String} {T : u_T} {x : Int32} (q : x_at xMM j pc (.putfield idx) 3 y nL ret) (hf : x_fl vwCl x_Ts x_AO y.cls idx t k C T N) (hc : c < n) (hs : SH c = (t, z)) (ht : t < 100) (hty : h_ty t k = .int) (hfin : (T k).2.2.2 = false) (kk : ∀ F2, F2 = h_up FI c k x → hw sk base d X j (pc + 3) L st (n, sl, SH, F2, FL, FR) Φ) : hw sk base d X j pc L (.int x :: .ref (base + c) :: st) (n, sl, SH, FI, FL, FR) Φ := hw_puti q hf hc hs ht hty hfin (kk _ rfl)
theorem hv_putz {sk : xK} {idx t k N c z : Nat} {C : String} {T : u_T} {x : Int32} (q : x_at xMM j pc (.putfield idx) 3 y nL ret) (hf : x_fl vwCl x_Ts x_AO y.cls idx t k C T N) (hc : c < n) (hs : SH c = (t, z)) (ht : t < 100) (hty : h_ty t k = .boolean) (hfin : (T k).2.2.2 = false) (hx : x = 0 ∨ x = 1) (kk : ∀ F2, F2 = h_up FI c k x → hw sk base d X j (pc + 3) L st (n, sl, SH, F2, FL, FR) Φ) : hw sk base d X j pc L (.int x :: .ref (base + c) :: st) (n, sl, SH, FI, FL, FR) Φ := hw_putz q hf hc hs ht hty hfin hx (kk _ rfl)
theorem hv_putl {sk : xK} {idx t k N c z : Nat} {C : String} {T : u_T} {x : Int64} (q : x_at xMM j pc (.putfield idx) 3 y nL ret) (hf : x_fl vwCl x_Ts x_AO y.cls idx t k C T N) (hc : c < n) (hs : SH c = (t, z)) (ht : t < 100) (hty : h_ty t k = .long) (hfin : (T k).2.2.2 = false) (kk : ∀ F2, F2 = h_up FL c k x → hw sk base d X j (pc + 3) L st (n, sl, SH, FI, F2, FR) Φ) : hw sk base d X j pc L (.long x :: .ref (base + c) :: st) (n, sl, SH, FI, FL, FR) Φ := hw_putl q hf hc hs ht hty hfin (kk _ rfl)
theorem hv_iast {sk : xK} {c z k : Nat} {i x : Int32} (q : x_at xMM j pc .iastore 1 y nL ret) (hc : c < n) (hs : SH c = (100, z)) (hin : vp_in i z) (hk : i.toNatClampNeg = k) (kk : ∀ F2, F2 = h_up FI c k x → hw sk base d X j (pc + 1) L st (n, sl, SH, F2, FL, FR) Φ) : hw sk base d X j pc L (.int x :: .int i :: .ref (base + c) :: st) (n, sl, SH, FI, FL, FR) Φ := hw_iastk q hc hs hin hk (kk _ rfl)
theorem hv_last {sk : xK} {c z k : Nat} {i : Int32} {x : Int64} (q : x_at xMM j pc .lastore 1 y nL ret) (hc : c < n) (hs : SH c = (101, z)) (hin : vp_in i z) (hk : i.toNatClampNeg = k) (kk : ∀ F2, F2 = h_up FL c k x → hw sk base d X j (pc + 1) L st (n, sl, SH, FI, F2, FR) Φ) : hw sk base d X j pc L (.long x :: .int i :: .ref (base + c) :: st) (n, sl, SH, FI, FL, FR) Φ := hw_lastk q hc hs hin hk (kk _ rfl)
theorem hv_zast {sk : xK} {c z k : Nat} {i x w : Int32} (q : x_at xMM j pc .bastore 1 y nL ret) (hc : c < n) (hs : SH c = (102, z)) (hin : vp_in i z) (hk : i.toNatClampNeg = k) (hx : vp_nar .boolean x = w) (kk : ∀ F2, F2 = h_up FI c k w → hw sk base d X j (pc + 1) L st (n, sl, SH, F2, FL, FR) Φ) : hw sk base d X j pc L (.int x :: .int i :: .ref (base + c) :: st) (n, sl, SH, FI, FL, FR) Φ := by
  subst hx; exact hw_zastk q hc hs hin hk (kk _ rfl)
theorem hv_st {sk : xK} {s2 s : hS} (e : s2 = s) (k : hw sk base d X j pc L st s2 Φ) : hw sk base d X j pc L st s Φ := e ▸ k
end GHW
theorem i_nb {x : Int32} : ∃ w : Int32, vp_nar .boolean x = w ∧ (w = 0 ∨ w = 1) := ⟨_, rfl, by
  have h : vp_nar .boolean x = x &&& 1 := rfl
  have z := i_and (x := x) (m := 1) (M := 1) (by decide) (by decide)
  rw [← h] at z
  rcases Int.lt_or_le (vp_nar .boolean x).toInt 1 with g | g
  · left; exact i_eqv (by have : ((0 : Int32)).toInt = 0 := by decide
                          omega)
  · right; exact i_eqv (by have : ((1 : Int32)).toInt = 1 := by decide
                           omega)⟩
