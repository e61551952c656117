def nX3_init : Nat := 0xb10d00b5202a0700b51b2a0100b72a
theorem bX3_init : cX3_init.data.toList.map UInt8.toNat = x_un nX3_init 15 := by decide +kernel
def iX3_init : List (Nat × Jvm.ClassFile.Instr × Nat) := [(0, .aload_n 0, 1), (1, .invokespecial 1, 3), (4, .aload_n 0, 1), (5, .iload_n 1, 1), (6, .putfield 7, 3), (9, .aload_n 0, 1), (10, .lload_n 2, 1), (11, .putfield 13, 3), (14, .return_, 1)]
theorem dX3_init : x_il nX3_init 15 iX3_init = true := by decide +kernel
theorem aX3_init (k : Nat) {pc : Nat} {i : Jvm.ClassFile.Instr} {len : Nat} (hk : iX3_init[k]? = some (pc, i, len)) : x_at xMM 34 pc i len yX3_init 4 none := ⟨cX3_init, rfl, x_il_ok bX3_init dX3_init k hk⟩
set_option maxHeartbeats 4000000 in
set_option maxRecDepth 100000 in
theorem k_X3_init {sk : xK} {base d n sl : Nat} {SH : Nat → Nat × Nat} {FI : Nat → Nat → Int32} {FL : Nat → Nat → Int64} {FR : Nat → Nat → Option Nat} (hS : h_S n SH) (hF : h_FR FR) (hI : g_I FI) (hR : g_R n SH FR) (c : Nat) {zc : Nat} (hc : c < n) (hsc : SH c = (3, zc)) (hoc : own c) (hdc : 176 ≤ c) (a1 : Int32) (a2 : Int64) : hw sk base (d + 1) none 34 0 [(0, .ref (base + c)), (1, .int (a1)), (2, .long (a2))] [] (n, sl, SH, FI, FL, FR) (h_V (fun s => ∃ FI' FL', s = (n, sl, SH, FI', FL', FR) ∧ g_I FI' ∧ g_fr c (shd SH) [] [] [] FI FI' ∧ g_fr c (shd SH) [] [] [] FL FL' ∧ ((FI' c 0).toInt = (a1).toInt))) := by
  have rg_a1 := i_rng a1
  have rg_a2 := l_rng a2
  obtain ⟨x1, h2⟩ : ∃ y, FI c 0 = y := ⟨_, rfl⟩
  have h2l := congrArg Int32.toInt h2
  have := i_rng x1
  refine hw_aloadn (aX3_init 0 rfl) rfl ?_
  refine hw_obj (aX3_init 1 rfl) (tin_5 (i := 93) rfl rfl) (tin_1 (i := 28) rfl rfl) (tin_1 (i := 29) rfl rfl) (Nat.le_of_ble_eq_true rfl) ?_
  refine hw_aloadn (aX3_init 2 rfl) rfl ?_
  refine xw_iloadn (aX3_init 3 rfl) rfl ?_
  refine hv_putiF (aX3_init 4 rfl) wf_RX3_7 hc hsc (by decide) rfl ⟨rfl, rfl, rfl, wf_RX3_7F⟩ (fun FI3 u4 => ?_)
  have hI5 : g_I FI3 := gU_F hI u4 (g_hi (dyn_tag hS hsc (by decide +kernel)))
  refine hw_aloadn (aX3_init 5 rfl) rfl ?_
  refine xw_lloadn (aX3_init 6 rfl) rfl ?_
  refine hv_putl (aX3_init 7 rfl) wf_RX3_13 hc hsc (by decide) rfl rfl (fun FL6 u7 => ?_)
  refine xw_vret (aX3_init 8 rfl) rfl ?_
  exact ⟨rfl, FI3, FL6, rfl, hI5, (gf_n gf_rf u4 (Nat.le_refl _)), (gf_n gf_rf u7 (Nat.le_refl _)), (by have := congrArg Int32.toInt (show FI3 c 0 = a1 from up_eq u4); omega)⟩
def nX6_init : Nat := 0xb10900b5022a0300b72a
theorem bX6_init : cX6_init.data.toList.map UInt8.toNat = x_un nX6_init 10 := by decide +kernel
def iX6_init : List (Nat × Jvm.ClassFile.Instr × Nat) := [(0, .aload_n 0, 1), (1, .invokespecial 3, 3), (4, .aload_n 0, 1), (5, .iconst (-1), 1), (6, .putfield 9, 3), (9, .return_, 1)]
theorem dX6_init : x_il nX6_init 10 iX6_init = true := by decide +kernel
theorem aX6_init (k : Nat) {pc : Nat} {i : Jvm.ClassFile.Instr} {len : Nat} (hk : iX6_init[k]? = some (pc, i, len)) : x_at xMM 63 pc i len yX6_init 1 none := ⟨cX6_init, rfl, x_il_ok bX6_init dX6_init k hk⟩
set_option maxHeartbeats 4000000 in
set_option maxRecDepth 100000 in
theorem k_X6_init {sk : xK} {base d n sl : Nat} {SH : Nat → Nat × Nat} {FI : Nat → Nat → Int32} {FL : Nat → Nat → Int64} {FR : Nat → Nat → Option Nat} (hS : h_S n SH) (hF : h_FR FR) (hI : g_I FI) (hR : g_R n SH FR) (c : Nat) {zc : Nat} (hc : c < n) (hsc : SH c = (6, zc)) (hoc : own c) (hdc : 176 ≤ c) : hw sk base (d + 1) none 63 0 [(0, .ref (base + c))] [] (n, sl, SH, FI, FL, FR) (h_V (fun s => ∃ FI', s = (n, sl, SH, FI', FL, FR) ∧ g_I FI' ∧ g_fr c (shd SH) [] [] [] FI FI')) := by
  refine hw_aloadn (aX6_init 0 rfl) rfl ?_
  refine hw_obj (aX6_init 1 rfl) (tin_5 (i := 35) rfl rfl) (tin_1 (i := 28) rfl rfl) (tin_1 (i := 29) rfl rfl) (Nat.le_of_ble_eq_true rfl) ?_
  refine hw_aloadn (aX6_init 2 rfl) rfl ?_
  refine hw_ic (v := ((-1) : Int32)) (aX6_init 3 rfl) (by decide) ?_
  refine hv_puti (aX6_init 4 rfl) wf_RX6_9 hc hsc (by decide) rfl rfl (fun FI1 u2 => ?_)
  have hI3 : g_I FI1 := gU_F hI u2 (g_hi (dyn_tag hS hsc (by decide +kernel)))
  refine xw_vret (aX6_init 5 rfl) rfl ?_
  exact ⟨rfl, FI1, rfl, hI3, (gf_n gf_rf u2 (Nat.le_refl _))⟩
def nX10_init : Nat := 0xb11d00b51c2a1a00b52b2a1600b50abc032a1200b51000bd08102a0d00b50bbc08102a0900b50bbc08102a0100b72a
theorem bX10_init : cX10_init.data.toList.map UInt8.toNat = x_un nX10_init 47 := by decide +kernel
def iX10_init : List (Nat × Jvm.ClassFile.Instr × Nat) := [(0, .aload_n 0, 1), (1, .invokespecial 1, 3), (4, .aload_n 0, 1), (5, .bipush 8, 2), (7, .newarray .long, 2), (9, .putfield 9, 3), (12, .aload_n 0, 1), (13, .bipush 8, 2), (15, .newarray .long, 2), (17, .putfield 13, 3), (20, .aload_n 0, 1), (21, .bipush 8, 2), (23, .anewarray 16, 3), (26, .putfield 18, 3), (29, .aload_n 0, 1), (30, .iconst 0, 1), (31, .newarray .int, 2), (33, .putfield 22, 3), (36, .aload_n 0, 1), (37, .aload_n 1, 1), (38, .putfield 26, 3), (41, .aload_n 0, 1), (42, .iload_n 2, 1), (43, .putfield 29, 3), (46, .return_, 1)]
theorem dX10_init : x_il nX10_init 47 iX10_init = true := by decide +kernel
theorem aX10_init (k : Nat) {pc : Nat} {i : Jvm.ClassFile.Instr} {len : Nat} (hk : iX10_init[k]? = some (pc, i, len)) : x_at xMM 116 pc i len yX10_init 3 none := ⟨cX10_init, rfl, x_il_ok bX10_init dX10_init k hk⟩
set_option maxHeartbeats 4000000 in
set_option maxRecDepth 100000 in
theorem k_X10_init {sk : xK} {base d n sl : Nat} {SH : Nat → Nat × Nat} {FI : Nat → Nat → Int32} {FL : Nat → Nat → Int64} {FR : Nat → Nat → Option Nat} (hS : h_S n SH) (hF : h_FR FR) (hI : g_I FI) (hR : g_R n SH FR) (c : Nat) {zc : Nat} (hc : c < n) (hsc : SH c = (10, zc)) (hoc : own c) (hdc : 176 ≤ c) (a1 : Nat) {z1 : Nat} (ha1l : a1 < n) (ha1s : SH a1 = (100, z1)) (ha1o : own a1) (a2 : Int32) (gg0 : 176 ≤ a1) : hw sk base (d + 1) none 116 0 [(0, .ref (base + c)), (1, .ref (base + a1)), (2, .int (a2))] [] (n, sl, SH, FI, FL, FR) (h_V (fun s => ∃ n' sl' SH' FI' FL' FR', s = (n', sl', SH', FI', FL', FR') ∧ g_ex n SH n' SH' ∧ h_S n' SH' ∧ g_I FI' ∧ g_fr c (shd SH) [] [] [] FI FI' ∧ g_fr c (shd SH) [] [] [] FL FL' ∧ g_fr c (shd SH) [] [] [] FR FR' ∧ h_FR FR' ∧ g_R n' SH' FR' ∧ (n' = n + 4) ∧ (sl' = sl + 24) ∧ (g_Vv SH' FR' c) ∧ (∃ k, FR' c 6 = some k))) := by
  have rg_a2 := i_rng a2
  refine hw_aloadn (aX10_init 0 rfl) rfl ?_
  refine hw_obj (aX10_init 1 rfl) (tin_4 (i := 204) rfl rfl) (tin_1 (i := 28) rfl rfl) (tin_1 (i := 29) rfl rfl) (Nat.le_of_ble_eq_true rfl) ?_
  refine hw_aloadn (aX10_init 2 rfl) rfl ?_
  refine hw_bp (v := (8 : Int32)) (aX10_init 3 rfl) (by decide) ?_
  refine hv_newa (k := 1) (z := 8) hS hF hI hR (by unfold g_dt; omega) (aX10_init 4 rfl) rfl (by decide) (tin_1 (i := 150) rfl rfl) (by decide) (by decide) (by decide) (fun n1 sl2 SH3 FI4 FL5 FR6 hsl7 nw8 => ?_)
  obtain ⟨hn9, ex10, hS11, hF12, hI13, hR14, lt15, sh16, dy17, eI18, eL19, eR20, zI21, zL22, zR23⟩ := nw8
  have lt24 := ex_lt ex10 ha1l
  have sh25 := ex_sh ex10 ha1l ha1s
  have lt26 := ex_lt ex10 hc
  have sh27 := ex_sh ex10 hc hsc
  refine hv_putr (r := some (n)) (aX10_init 5 rfl) wf_RX10_9 lt26 sh27 (by decide) (by first | exact Or.inl ⟨_, rfl⟩ | exact Or.inr ⟨_, rfl⟩) (Or.inr ⟨rfl, rfl, rfl, wf_RX10_9F⟩) (fun FR28 u29 => ?_)
  have hF30 : h_FR FR28 := hF_up hS11 hF12 u29 sh27 (by decide +kernel)
  have hR31 : g_R n1 SH3 FR28 := gR_up hR14 u29 sh27 (fun r e => by cases e; exact ⟨lt15, (Or.inr dy17), by rw [sh16]; rfl⟩) (fun _ r e => by cases e; exact dy17) (fun _ => by simp) (fun h => absurd h.1 (ne_tag sh27 (s49 hS11) (by decide)))
  refine hw_aloadn (aX10_init 6 rfl) rfl ?_
  refine hw_bp (v := (8 : Int32)) (aX10_init 7 rfl) (by decide) ?_
  refine hv_newa (k := 1) (z := 8) hS11 hF30 hI13 hR31 (by unfold g_dt; omega) (aX10_init 8 rfl) rfl (by decide) (tin_1 (i := 150) rfl rfl) (by decide) (by decide) (by decide) (fun n32 sl33 SH34 FI35 FL36 FR37 hsl38 nw39 => ?_)
  obtain ⟨hn40, ex41, hS42, hF43, hI44, hR45, lt46, sh47, dy48, eI49, eL50, eR51, zI52, zL53, zR54⟩ := nw39
  have lt55 := ex_lt ex41 lt24
  have sh56 := ex_sh ex41 lt24 sh25
  have lt57 := ex_lt ex41 lt26
  have sh58 := ex_sh ex41 lt26 sh27
  have lt59 := ex_lt ex41 lt15
  have sh60 := ex_sh ex41 lt15 sh16
  have ex61 := ex_tr ex10 ex41
  refine hv_putr (r := some (n1)) (aX10_init 9 rfl) wf_RX10_13 lt57 sh58 (by decide) (by first | exact Or.inl ⟨_, rfl⟩ | exact Or.inr ⟨_, rfl⟩) (Or.inr ⟨rfl, rfl, rfl, wf_RX10_13F⟩) (fun FR62 u63 => ?_)
  have hF64 : h_FR FR62 := hF_up hS42 hF43 u63 sh58 (by decide +kernel)
  have hR65 : g_R n32 SH34 FR62 := gR_up hR45 u63 sh58 (fun r e => by cases e; exact ⟨lt46, (Or.inr dy48), by rw [sh47]; rfl⟩) (fun _ r e => by cases e; exact dy48) (fun _ => by simp) (fun h => absurd h.1 (ne_tag sh58 (s49 hS42) (by decide)))
  refine hw_aloadn (aX10_init 10 rfl) rfl ?_
  refine hw_bp (v := (8 : Int32)) (aX10_init 11 rfl) (by decide) ?_
  refine hv_newq (k := 5) (z := 8) hS42 hF64 hI44 hR65 (by unfold g_dt; omega) (aX10_init 12 rfl) rfl (by decide) (tin_4 (i := 205) rfl rfl) (nin_4 (i := 206) rfl rfl) (by decide) (by decide) (by decide) (fun n66 sl67 SH68 FI69 FL70 FR71 hsl72 nw73 => ?_)
  obtain ⟨hn74, ex75, hS76, hF77, hI78, hR79, lt80, sh81, dy82, eI83, eL84, eR85, zI86, zL87, zR88⟩ := nw73
  have lt89 := ex_lt ex75 lt55
  have sh90 := ex_sh ex75 lt55 sh56
  have lt91 := ex_lt ex75 lt57
  have sh92 := ex_sh ex75 lt57 sh58
  have lt93 := ex_lt ex75 lt59
  have sh94 := ex_sh ex75 lt59 sh60
  have lt95 := ex_lt ex75 lt46
  have sh96 := ex_sh ex75 lt46 sh47
  have ex97 := ex_tr ex61 ex75
  refine hv_putr (r := some (n32)) (aX10_init 13 rfl) wf_RX10_18 lt91 sh92 (by decide) (by first | exact Or.inl ⟨_, rfl⟩ | exact Or.inr ⟨_, rfl⟩) (Or.inr ⟨rfl, rfl, rfl, wf_RX10_18F⟩) (fun FR98 u99 => ?_)
  have hF100 : h_FR FR98 := hF_up hS76 hF77 u99 sh92 (by decide +kernel)
  have hR101 : g_R n66 SH68 FR98 := gR_up hR79 u99 sh92 (fun r e => by cases e; exact ⟨lt80, (Or.inr dy82), by rw [sh81]; rfl⟩) (fun _ r e => by cases e; exact (dyn_tag hS76 sh81 (by decide +kernel))) (fun _ => by simp) (fun h => absurd h.1 (ne_tag sh92 (s49 hS76) (by decide)))
  refine hw_aloadn (aX10_init 14 rfl) rfl ?_
  refine hw_ic (v := (0 : Int32)) (aX10_init 15 rfl) (by decide) ?_
  refine hv_newa (k := 0) (z := 0) hS76 hF100 hI78 hR101 (by unfold g_dt; omega) (aX10_init 16 rfl) rfl (by decide) (tin_1 (i := 149) rfl rfl) (by decide) (by decide) (by decide) (fun n102 sl103 SH104 FI105 FL106 FR107 hsl108 nw109 => ?_)
  obtain ⟨hn110, ex111, hS112, hF113, hI114, hR115, lt116, sh117, dy118, eI119, eL120, eR121, zI122, zL123, zR124⟩ := nw109
  have lt125 := ex_lt ex111 lt89
  have sh126 := ex_sh ex111 lt89 sh90
  have lt127 := ex_lt ex111 lt91
  have sh128 := ex_sh ex111 lt91 sh92
  have lt129 := ex_lt ex111 lt93
  have sh130 := ex_sh ex111 lt93 sh94
  have lt131 := ex_lt ex111 lt95
  have sh132 := ex_sh ex111 lt95 sh96
  have lt133 := ex_lt ex111 lt80
  have sh134 := ex_sh ex111 lt80 sh81
  have ex135 := ex_tr ex97 ex111
  refine hv_putr (r := some (n66)) (aX10_init 17 rfl) wf_RX10_22 lt127 sh128 (by decide) (by first | exact Or.inl ⟨_, rfl⟩ | exact Or.inr ⟨_, rfl⟩) (Or.inl rfl) (fun FR136 u137 => ?_)
  have hF138 : h_FR FR136 := hF_up hS112 hF113 u137 sh128 (by decide +kernel)
  have hR139 : g_R n102 SH104 FR136 := gR_up hR115 u137 sh128 (fun r e => by cases e; exact ⟨lt116, (Or.inr dy118), by rw [sh117]; rfl⟩) (fun _ r e => by cases e; exact dy118) (fun _ => by simp) (fun h => absurd h.1 (ne_tag sh128 (s49 hS112) (by decide)))
  refine hw_aloadn (aX10_init 18 rfl) rfl ?_
  refine hw_aloadn (aX10_init 19 rfl) rfl ?_
  refine hv_putr (r := some (a1)) (aX10_init 20 rfl) wf_RX10_26 lt127 sh128 (by decide) (by first | exact Or.inl ⟨_, rfl⟩ | exact Or.inr ⟨_, rfl⟩) (Or.inr ⟨rfl, rfl, rfl, wf_RX10_26F⟩) (fun FR140 u141 => ?_)
  have hF142 : h_FR FR140 := hF_up hS112 hF138 u141 sh128 (by decide +kernel)
  have hR143 : g_R n102 SH104 FR140 := gR_up hR139 u141 sh128 (fun r e => by cases e; exact ⟨lt125, ha1o, by rw [sh126]; rfl⟩) (fun _ r e => by cases e; exact gg0) (fun _ => by simp) (fun h => absurd h.1 (ne_tag sh128 (s49 hS112) (by decide)))
  refine hw_aloadn (aX10_init 21 rfl) rfl ?_
  refine xw_iloadn (aX10_init 22 rfl) rfl ?_
  refine hv_putiF (aX10_init 23 rfl) wf_RX10_29 lt127 sh128 (by decide) rfl ⟨rfl, rfl, rfl, wf_RX10_29F⟩ (fun FI144 u145 => ?_)
  have hI146 : g_I FI144 := gU_F hI114 u145 (g_hi (dyn_tag hS112 sh128 (by decide +kernel)))
  refine xw_vret (aX10_init 24 rfl) rfl ?_
  exact ⟨rfl, n102, sl103, SH104, FI144, FL106, FR140, rfl, ex135, hS112, hI146, (gf_n (gf_al (gf_al (gf_al (gf_al gf_rf (Nat.le_trans (Nat.le_of_lt hc) (Nat.le_refl _)) eI18) (Nat.le_trans (Nat.le_of_lt hc) (ex10).1) eI49) (Nat.le_trans (Nat.le_of_lt hc) (ex61).1) eI83) (Nat.le_trans (Nat.le_of_lt hc) (ex97).1) eI119) u145 (Nat.le_refl _)), (gf_al (gf_al (gf_al (gf_al gf_rf (Nat.le_trans (Nat.le_of_lt hc) (Nat.le_refl _)) eL19) (Nat.le_trans (Nat.le_of_lt hc) (ex10).1) eL50) (Nat.le_trans (Nat.le_of_lt hc) (ex61).1) eL84) (Nat.le_trans (Nat.le_of_lt hc) (ex97).1) eL120), (gf_n (gf_n (gf_al (gf_n (gf_al (gf_n (gf_al (gf_n (gf_al gf_rf (Nat.le_trans (Nat.le_of_lt hc) (Nat.le_refl _)) eR20) u29 (Nat.le_refl _)) (Nat.le_trans (Nat.le_of_lt hc) (ex10).1) eR51) u63 (Nat.le_refl _)) (Nat.le_trans (Nat.le_of_lt hc) (ex61).1) eR85) u99 (Nat.le_refl _)) (Nat.le_trans (Nat.le_of_lt hc) (ex97).1) eR121) u137 (Nat.le_refl _)) u141 (Nat.le_refl _)), hF142, hR143, (by omega), (by omega), (by exact ⟨⟨_, (up_k u141 (by decide) ((up_k u137 (by decide) (((eR121 c (2) (Nat.ne_of_lt lt91)).trans ((up_k u99 (by decide) (((eR85 c (2) (Nat.ne_of_lt lt57)).trans ((up_k u63 (by decide) (((eR51 c (2) (Nat.ne_of_lt lt26)).trans (up_eq u29)))))))))))))), sh130⟩, ⟨_, (up_k u141 (by decide) ((up_k u137 (by decide) (((eR121 c (3) (Nat.ne_of_lt lt91)).trans ((up_k u99 (by decide) (((eR85 c (3) (Nat.ne_of_lt lt57)).trans (up_eq u63)))))))))), sh132⟩, ⟨_, (up_k u141 (by decide) ((up_k u137 (by decide) (((eR121 c (4) (Nat.ne_of_lt lt91)).trans (up_eq u99)))))), sh134⟩, ⟨_, up_eq u141⟩⟩), (by exact ⟨_, (up_k u141 (by decide) (up_eq u137))⟩)⟩
