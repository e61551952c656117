abbrev mX12_token : k_M := ([(121, 67)], [149, 151], [], [150])
abbrev mX12_signs_356 : k_M := ([(121, 67)], [149, 151], [], [150])
abbrev mX12_signs_354 : k_M := ([(121, 67)], [149, 151], [], [150])
abbrev mX12_signs_342 : k_M := ([(121, 67)], [149, 151], [], [150])
abbrev mX12_signs_337 : k_M := ([(121, 67)], [149, 151], [], [150])
abbrev mX12_signs_258 : k_M := ([(121, 67)], [149, 151], [], [150])
abbrev mX12_signs_253 : k_M := ([(121, 67)], [149, 151], [], [150])
abbrev mX12_signs_184 : k_M := ([(121, 67)], [149, 151], [], [150])
abbrev mX12_signs_182 : k_M := ([(121, 67)], [149, 151], [], [150])
abbrev mX12_signs_167 : k_M := ([(121, 67)], [149, 151], [], [150])
abbrev mX12_signs_134 : k_M := ([(121, 67)], [149, 151], [], [150])
abbrev mX12_signs_114 : k_M := ([(121, 67)], [149, 151], [], [150])
abbrev mX12_signs_94 : k_M := ([(121, 67)], [149, 151], [], [150])
abbrev mX12_signs_74 : k_M := ([(121, 67)], [149, 151], [], [150])
abbrev mX12_signs_54 : k_M := ([(121, 67)], [149, 151], [], [150])
abbrev mX12_signs_34 : k_M := ([(121, 67)], [149, 151], [], [150])
abbrev mX12_signs : k_M := ([(121, 67)], [149, 151], [], [150])
abbrev mX12_tokens_363 : k_M := ([(121, 67)], [149, 151], [], [150])
abbrev mX12_tokens_35 : k_M := ([(121, 67)], [149, 151], [], [150])
abbrev mX12_tokens_349 : k_M := ([(121, 67)], [149, 151], [], [150])
abbrev mX12_tokens_328 : k_M := ([(121, 67)], [149, 151], [], [150])
abbrev mX12_tokens_314 : k_M := ([(121, 67)], [149, 151], [], [150])
abbrev mX12_tokens_313 : k_M := ([(121, 67)], [149, 151], [], [150])
abbrev mX12_tokens_271 : k_M := ([(121, 67)], [149, 151], [], [150])
abbrev mX12_tokens_265 : k_M := ([(121, 67)], [149, 151], [], [150])
abbrev mX12_tokens_237 : k_M := ([(121, 67)], [149, 151], [], [150])
abbrev mBX12_tokens_198 : k_M := ([(121, 67)], [149, 151], [], [150])
abbrev mGX12_tokens_198 : k_M := ([(121, 67)], [149, 151], [], [150])
abbrev mX12_tokens_198 : k_M := ([(121, 67)], [149, 151], [], [150])
abbrev mX12_tokens_184 : k_M := ([(121, 67)], [149, 151], [], [150])
abbrev mX12_tokens_124 : k_M := ([(121, 67)], [149, 151], [], [150])
abbrev mX12_tokens_120 : k_M := ([(121, 67)], [149, 151], [], [150])
abbrev mX12_tokens_77 : k_M := ([(121, 67)], [149, 151], [], [150])
abbrev mBX12_tokens_53 : k_M := ([(121, 67)], [149, 151], [], [150])
abbrev mGX12_tokens_53 : k_M := ([(121, 67)], [149, 151], [], [150])
abbrev mX12_tokens_53 : k_M := ([(121, 67)], [149, 151], [], [150])
abbrev mBX12_tokens_7 : k_M := ([(121, 67)], [149, 151], [], [150])
abbrev mGX12_tokens_7 : k_M := ([(121, 67)], [149, 151], [], [150])
abbrev mX12_tokens_7 : k_M := ([(121, 67)], [149, 151], [], [150])
abbrev mX12_tokens : k_M := ([(121, 67)], [149, 151], [], [150])
abbrev mX12_fail : k_M := ([(121, 69), (121, 70)], [], [], [])
abbrev mX12_need : k_M := ([(121, 68), (121, 69), (121, 70)], [], [], [])
abbrev mX12_opens : k_M := ([(121, 68), (121, 69), (121, 70), (121, 71)], [], [], [])
abbrev mX12_emit : k_M := ([(121, 73)], [154], [], [])
abbrev mBX12_emits_3 : k_M := ([(121, 73)], [154], [], [])
abbrev mGX12_emits_3 : k_M := ([(121, 73)], [154], [], [])
abbrev mX12_emits_3 : k_M := ([(121, 73)], [154], [], [])
abbrev mX12_emits : k_M := ([(121, 73)], [154], [], [])
abbrev mBX12_unsigned_2 : k_M := ([(121, 73)], [154], [], [])
abbrev mGX12_unsigned_2 : k_M := ([(121, 73)], [154], [], [])
abbrev mX12_unsigned_2 : k_M := ([(121, 73)], [154], [], [])
abbrev mX12_unsigned : k_M := ([(121, 73)], [154], [], [])
abbrev mX12_signed_18 : k_M := ([(121, 73)], [154], [], [])
abbrev mBX12_signed_2 : k_M := ([(121, 73)], [154], [], [])
abbrev mGX12_signed_2 : k_M := ([(121, 73)], [154], [], [])
abbrev mX12_signed_2 : k_M := ([(121, 73)], [154], [], [])
abbrev mX12_signed : k_M := ([(121, 73)], [154], [], [])
abbrev mX12_push : k_M := ([(121, 73)], [154], [], [])
abbrev mX12_later : k_M := ([(121, 90)], [165, 166], [], [])
abbrev mX12_emitted : k_M := ([(121, 73)], [154], [], [])
abbrev mBX12_finished_0 : k_M := ([(121, 71), (121, 73), (121, 90)], [154], [], [])
abbrev mGX12_finished_0 : k_M := ([(121, 71), (121, 73), (121, 90)], [154], [], [])
abbrev mX12_finished_0 : k_M := ([(121, 71), (121, 73), (121, 90)], [154], [], [])
abbrev mX12_finished : k_M := ([(121, 71), (121, 73), (121, 90)], [154], [], [])
abbrev mBX12_reduced_0 : k_M := ([(121, 73), (121, 90)], [154], [], [])
abbrev mGX12_reduced_0 : k_M := ([(121, 73), (121, 90)], [154], [], [])
abbrev mX12_reduced_0 : k_M := ([(121, 73), (121, 90)], [154], [], [])
abbrev mX12_reduced : k_M := ([(121, 73), (121, 90)], [154], [], [])
abbrev mBX12_turned_191 : k_M := ([], [154], [], [])
abbrev mGX12_turned_191 : k_M := ([], [154], [], [])
abbrev mX12_turned_191 : k_M := ([], [154], [], [])
abbrev mBX12_turned_107 : k_M := ([], [154], [], [])
abbrev mGX12_turned_107 : k_M := ([], [154], [], [])
abbrev mX12_turned_107 : k_M := ([], [154], [], [])
abbrev mBX12_turned_74 : k_M := ([], [154, 164], [], [])
abbrev mGX12_turned_74 : k_M := ([], [154, 164], [], [])
abbrev mX12_turned_74 : k_M := ([], [154, 164], [], [])
abbrev mX12_turned : k_M := ([(121, 71), (121, 73), (121, 90)], [154, 164], [], [])
abbrev mBX12_reducedAll_5 : k_M := ([(121, 71), (121, 73), (121, 90)], [154, 164], [], [])
abbrev mGX12_reducedAll_5 : k_M := ([(121, 71), (121, 73), (121, 90)], [154, 164], [], [])
abbrev mX12_reducedAll_5 : k_M := ([(121, 71), (121, 73), (121, 90)], [154, 164], [], [])
abbrev mX12_reducedAll : k_M := ([(121, 71), (121, 73), (121, 90)], [154, 164], [], [])
abbrev mX12_binary : k_M := ([(121, 68), (121, 73), (121, 90)], [154, 165, 166], [], [])
abbrev mX12_added_75 : k_M := ([(121, 90)], [165, 166], [], [])
abbrev mX12_added : k_M := ([(121, 68), (121, 73), (121, 90), (121, 91)], [154, 165, 166], [], [])
abbrev mX12_ended_120 : k_M := ([(121, 69), (121, 70)], [], [], [])
abbrev mX12_ended_62 : k_M := ([(121, 68), (121, 69), (121, 70), (121, 71), (121, 73), (121, 90), (121, 91)], [154], [], [])
abbrev mX12_ended : k_M := ([(121, 68), (121, 69), (121, 70), (121, 71), (121, 73), (121, 90), (121, 91)], [154, 164, 166, 168], [], [])
abbrev mX12_combined_16 : k_M := ([(121, 68)], [], [], [])
abbrev mX12_combined : k_M := ([(121, 68)], [], [], [])
abbrev mX12_registered_52 : k_M := ([(121, 68), (121, 73)], [154], [], [])
abbrev mX12_registered : k_M := ([(121, 68), (121, 69), (121, 70), (121, 73)], [154], [], [])
abbrev mX12_operand_40 : k_M := ([(121, 68), (121, 69), (121, 70), (121, 71), (121, 90)], [165, 166], [], [])
abbrev mX12_operand_262 : k_M := ([(121, 68), (121, 71), (121, 73), (121, 90)], [154], [], [])
abbrev mX12_operand : k_M := ([(121, 68), (121, 69), (121, 70), (121, 71), (121, 73), (121, 90)], [154, 165, 166], [], [])
abbrev mX12_operator_138 : k_M := ([(121, 68), (121, 73), (121, 90)], [154, 165, 166], [], [])
abbrev mX12_operator : k_M := ([(121, 68), (121, 69), (121, 70), (121, 71), (121, 73), (121, 90), (121, 91)], [154, 164, 165, 166, 167, 168], [], [])
abbrev mX12_chosen_54 : k_M := ([(121, 68), (121, 69), (121, 70), (121, 71), (121, 73), (121, 90), (121, 91)], [154, 164, 165, 166, 167, 168], [], [])
abbrev mX12_chosen_30 : k_M := ([(121, 68), (121, 69), (121, 70), (121, 71), (121, 73), (121, 90), (121, 91)], [154, 164, 165, 166, 167, 168], [], [])
abbrev mBX12_chosen_7 : k_M := ([(121, 68), (121, 69), (121, 70), (121, 71), (121, 73), (121, 90), (121, 91)], [154, 164, 165, 166, 167, 168], [], [])
abbrev mGX12_chosen_7 : k_M := ([(121, 68), (121, 69), (121, 70), (121, 71), (121, 73), (121, 90), (121, 91)], [154, 164, 165, 166, 167, 168], [], [])
abbrev mX12_chosen_7 : k_M := ([(121, 68), (121, 69), (121, 70), (121, 71), (121, 73), (121, 90), (121, 91)], [154, 164, 165, 166, 167, 168], [], [])
abbrev mX12_chosen : k_M := ([(121, 68), (121, 69), (121, 70), (121, 71), (121, 73), (121, 90), (121, 91)], [154, 164, 165, 166, 167, 168], [], [])
abbrev mX12_place_101 : k_M := ([(121, 68), (121, 73)], [154], [], [])
abbrev mX12_place_256 : k_M := ([(121, 68), (121, 69), (121, 70), (121, 73)], [154], [], [])
abbrev mX12_place_287 : k_M := ([], [154], [], [])
abbrev mBX12_place_200 : k_M := ([(121, 68), (121, 69), (121, 70), (121, 73)], [154], [], [])
abbrev mGX12_place_200 : k_M := ([(121, 68), (121, 69), (121, 70), (121, 73)], [154], [], [])
abbrev mX12_place_200 : k_M := ([(121, 68), (121, 69), (121, 70), (121, 73)], [154], [], [])
abbrev mX12_place_181 : k_M := ([(121, 68), (121, 69), (121, 70), (121, 73)], [154], [], [])
abbrev mX12_place : k_M := ([(121, 68), (121, 69), (121, 70), (121, 71), (121, 73), (121, 90), (121, 91)], [154, 164, 165, 166, 167, 168], [], [])
abbrev mX12_location_235 : k_M := ([], [163], [], [])
abbrev mX12_location_197 : k_M := ([(121, 68), (121, 69), (121, 70), (121, 71)], [163], [], [])
abbrev mX12_location_131 : k_M := ([(121, 68), (121, 69), (121, 70), (121, 71), (121, 73), (121, 90), (121, 91)], [154, 163, 164, 165, 166, 167, 168], [], [])
abbrev mX12_location_103 : k_M := ([(121, 68), (121, 69), (121, 70), (121, 71), (121, 73), (121, 90), (121, 91)], [154, 163, 164, 165, 166, 167, 168], [], [])
abbrev mX12_location_60 : k_M := ([(121, 68), (121, 69), (121, 70), (121, 71), (121, 73), (121, 90), (121, 91)], [154, 163, 164, 165, 166, 167, 168], [], [])
abbrev mBX12_location_22 : k_M := ([(121, 68), (121, 69), (121, 70), (121, 71), (121, 73), (121, 90), (121, 91)], [154, 163, 164, 165, 166, 167, 168], [], [])
abbrev mGX12_location_22 : k_M := ([(121, 68), (121, 69), (121, 70), (121, 71), (121, 73), (121, 90), (121, 91)], [154, 163, 164, 165, 166, 167, 168], [], [])
abbrev mX12_location_22 : k_M := ([(121, 68), (121, 69), (121, 70), (121, 71), (121, 73), (121, 90), (121, 91)], [154, 163, 164, 165, 166, 167, 168], [], [])
abbrev mX12_location : k_M := ([(121, 68), (121, 69), (121, 70), (121, 71), (121, 73), (121, 90), (121, 91)], [154, 163, 164, 165, 166, 167, 168], [], [])
abbrev mX12_rows_318 : k_M := ([(121, 68), (121, 69), (121, 70), (121, 71), (121, 73), (121, 90), (121, 91)], [154, 159, 163, 164, 165, 166, 167, 168], [], [])
abbrev mX12_rows_303 : k_M := ([(121, 68), (121, 69), (121, 70), (121, 71), (121, 73), (121, 90), (121, 91)], [154, 159, 163, 164, 165, 166, 167, 168], [], [])
abbrev mX12_rows_302 : k_M := ([(121, 68), (121, 69), (121, 70), (121, 71), (121, 73), (121, 90), (121, 91)], [154, 159, 163, 164, 165, 166, 167, 168], [], [])
abbrev mX12_rows_262 : k_M := ([(121, 68), (121, 69), (121, 70), (121, 71), (121, 73), (121, 90), (121, 91)], [154, 159, 163, 164, 165, 166, 167, 168], [], [])
abbrev mX12_rows_140 : k_M := ([(121, 68), (121, 69), (121, 70), (121, 71), (121, 73), (121, 90), (121, 91)], [154, 159, 163, 164, 165, 166, 167, 168], [], [])
abbrev mX12_rows_114 : k_M := ([(121, 68), (121, 69), (121, 70), (121, 71), (121, 73), (121, 90), (121, 91)], [154, 159, 163, 164, 165, 166, 167, 168], [], [])
abbrev mX12_rows_54 : k_M := ([(121, 68), (121, 69), (121, 70), (121, 71), (121, 73), (121, 90), (121, 91)], [154, 159, 163, 164, 165, 166, 167, 168], [], [])
abbrev mBX12_rows_2 : k_M := ([(121, 68), (121, 69), (121, 70), (121, 71), (121, 73), (121, 90), (121, 91)], [154, 159, 163, 164, 165, 166, 167, 168], [], [])
abbrev mGX12_rows_2 : k_M := ([(121, 68), (121, 69), (121, 70), (121, 71), (121, 73), (121, 90), (121, 91)], [154, 159, 163, 164, 165, 166, 167, 168], [], [])
abbrev mX12_rows_2 : k_M := ([(121, 68), (121, 69), (121, 70), (121, 71), (121, 73), (121, 90), (121, 91)], [154, 159, 163, 164, 165, 166, 167, 168], [], [])
abbrev mX12_rows : k_M := ([(121, 68), (121, 69), (121, 70), (121, 71), (121, 73), (121, 90), (121, 91)], [154, 159, 163, 164, 165, 166, 167, 168], [], [])
abbrev mX12_declared_53 : k_M := ([(121, 68), (121, 69), (121, 70), (121, 71), (121, 73), (121, 78), (121, 90), (121, 91)], [154, 159, 160, 161, 162, 163, 164, 165, 166, 167, 168], [], [158])
abbrev mX12_declared_223 : k_M := ([(121, 68), (121, 69), (121, 70), (121, 78)], [161], [], [])
abbrev mX12_declared_212 : k_M := ([(121, 68), (121, 69), (121, 70), (121, 71), (121, 73), (121, 78), (121, 90), (121, 91)], [154, 161, 163, 164, 165, 166, 167, 168], [], [])
abbrev mX12_declared_74 : k_M := ([(121, 68), (121, 69), (121, 70), (121, 71), (121, 73), (121, 78), (121, 90), (121, 91)], [154, 159, 160, 161, 162, 163, 164, 165, 166, 167, 168], [], [158])
abbrev mBX12_declared_21 : k_M := ([(121, 68), (121, 69), (121, 70), (121, 71), (121, 73), (121, 78), (121, 90), (121, 91)], [154, 159, 160, 161, 162, 163, 164, 165, 166, 167, 168], [], [158])
abbrev mGX12_declared_21 : k_M := ([(121, 68), (121, 69), (121, 70), (121, 71), (121, 73), (121, 78), (121, 90), (121, 91)], [154, 159, 160, 161, 162, 163, 164, 165, 166, 167, 168], [], [158])
abbrev mX12_declared_21 : k_M := ([(121, 68), (121, 69), (121, 70), (121, 71), (121, 73), (121, 78), (121, 90), (121, 91)], [154, 159, 160, 161, 162, 163, 164, 165, 166, 167, 168], [], [158])
abbrev mX12_declared : k_M := ([(121, 68), (121, 69), (121, 70), (121, 71), (121, 73), (121, 78), (121, 90), (121, 91)], [154, 159, 160, 161, 162, 163, 164, 165, 166, 167, 168], [], [158])
abbrev mX12_tells : k_M := ([(121, 53), (121, 54), (121, 55), (121, 56), (121, 57)], [], [], [])
abbrev mX12_faulty : k_M := ([(121, 31), (121, 32), (121, 53), (121, 54), (121, 55), (121, 56), (121, 57)], [], [], [])
abbrev mX12_variable_167 : k_M := ([], [], [], [])
abbrev mBX12_variable_115 : k_M := ([], [], [], [])
abbrev mGX12_variable_115 : k_M := ([], [], [], [])
abbrev mX12_variable_115 : k_M := ([], [], [], [])
abbrev mBX12_variable_29 : k_M := ([], [], [], [])
abbrev mGX12_variable_29 : k_M := ([], [], [], [])
abbrev mX12_variable_29 : k_M := ([], [], [], [])
abbrev mX12_variable : k_M := ([(121, 0)], [], [], [])
theorem kX12_token  {a1 : Int32} {a2 : Int64} {a3 : Int32} {n sl : Nat} {SH : Nat → Nat × Nat} {FI : Nat → Nat → Int32} {FL : Nat → Nat → Int64} {FR : Nat → Nat → Option Nat}  {v : Unit} {s : hS} (h : RX12_token  a1 a2 a3 n sl SH FI FL FR v s) : kq mX12_token (n, sl, SH, FI, FL, FR) s := by
  replace h := h.2
  replace h := h.2
  replace h := h.2
  obtain ⟨-, rfl⟩ := h
  exact (kq_la (kq_if (kq_ia (kq_ia kq_rf (by decide) (by decide)) (by decide) (by decide)) (by decide) (by decide)) (by decide))
theorem kX12_signs_356  {a1 : Int32} {a2 : Int32} {l4i : Int32} {l5i : Int32} {n sl : Nat} {SH : Nat → Nat × Nat} {FI : Nat → Nat → Int32} {FL : Nat → Nat → Int64} {FR : Nat → Nat → Option Nat}  {v : Int32} {s : hS} (h : RX12_signs_356  a1 a2 l4i l5i n sl SH FI FL FR v s) : kq mX12_signs_356 (n, sl, SH, FI, FL, FR) s := by
  rcases h with ⟨-, h⟩ | ⟨-, h⟩
  · skip
    obtain ⟨v1, n1, sl1, SH1, FI1, FL1, FR1, hc, h⟩ := h
    have q1 : kq mX12_signs_356 (n, sl, SH, FI, FL, FR) (n1, sl1, SH1, FI1, FL1, FR1) := kq_tr kq_rf (kq_mono (kX12_token hc) (by decide))
    clear hc
    obtain ⟨-, rfl⟩ := h
    exact q1
  · skip
    obtain ⟨v2, n2, sl2, SH2, FI2, FL2, FR2, hc, h⟩ := h
    have q2 : kq mX12_signs_356 (n, sl, SH, FI, FL, FR) (n2, sl2, SH2, FI2, FL2, FR2) := kq_tr kq_rf (kq_mono (kX12_token hc) (by decide))
    clear hc
    obtain ⟨-, rfl⟩ := h
    exact q2
theorem kX12_signs_354  {a1 : Int32} {a2 : Int32} {l5i : Int32} {s0i : Int32} {n sl : Nat} {SH : Nat → Nat × Nat} {FI : Nat → Nat → Int32} {FL : Nat → Nat → Int64} {FR : Nat → Nat → Option Nat}  {v : Int32} {s : hS} (h : RX12_signs_354  a1 a2 l5i s0i n sl SH FI FL FR v s) : kq mX12_signs_354 (n, sl, SH, FI, FL, FR) s := by
  exact kq_tr kq_rf (kq_mono (kX12_signs_356  h) (by decide))
theorem kX12_signs_342  {a1 : Int32} {a2 : Int32} {l5i : Int32} {s0i : Int32} {n sl : Nat} {SH : Nat → Nat × Nat} {FI : Nat → Nat → Int32} {FL : Nat → Nat → Int64} {FR : Nat → Nat → Option Nat}  {v : Int32} {s : hS} (h : RX12_signs_342  a1 a2 l5i s0i n sl SH FI FL FR v s) : kq mX12_signs_342 (n, sl, SH, FI, FL, FR) s := by
  rcases h with ⟨-, h⟩ | ⟨-, h⟩
  · skip
    exact kq_tr kq_rf (kq_mono (kX12_signs_354  h) (by decide))
  · skip
    exact kq_tr kq_rf (kq_mono (kX12_signs_354  h) (by decide))
theorem kX12_signs_337  {a1 : Int32} {a2 : Int32} {l5i : Int32} {n sl : Nat} {SH : Nat → Nat × Nat} {FI : Nat → Nat → Int32} {FL : Nat → Nat → Int64} {FR : Nat → Nat → Option Nat}  {v : Int32} {s : hS} (h : RX12_signs_337  a1 a2 l5i n sl SH FI FL FR v s) : kq mX12_signs_337 (n, sl, SH, FI, FL, FR) s := by
  exact kq_tr kq_rf (kq_mono (kX12_signs_342  h) (by decide))
theorem kX12_signs_258  {a1 : Int32} {a2 : Int32} {l5i : Int32} {s0i : Int32} {n sl : Nat} {SH : Nat → Nat × Nat} {FI : Nat → Nat → Int32} {FL : Nat → Nat → Int64} {FR : Nat → Nat → Option Nat}  {v : Int32} {s : hS} (h : RX12_signs_258  a1 a2 l5i s0i n sl SH FI FL FR v s) : kq mX12_signs_258 (n, sl, SH, FI, FL, FR) s := by
  rcases h with ⟨-, h⟩ | ⟨-, h⟩
  · skip
    rcases h with ⟨-, h⟩ | ⟨-, h⟩
    · skip
      exact kq_tr kq_rf (kq_mono (kX12_signs_337  h) (by decide))
    · skip
      rcases h with ⟨-, h⟩ | ⟨-, h⟩
      · skip
        exact kq_tr kq_rf (kq_mono (kX12_signs_337  h) (by decide))
      · skip
        rcases h with ⟨-, h⟩ | ⟨-, h⟩
        · skip
          exact kq_tr kq_rf (kq_mono (kX12_signs_337  h) (by decide))
        · skip
          rcases h with ⟨-, h⟩ | ⟨-, h⟩
          · skip
            exact kq_tr kq_rf (kq_mono (kX12_signs_337  h) (by decide))
          · skip
            rcases h with ⟨-, h⟩ | ⟨-, h⟩
            · skip
              exact kq_tr kq_rf (kq_mono (kX12_signs_337  h) (by decide))
            · skip
              rcases h with ⟨-, h⟩ | ⟨-, h⟩
              · skip
                exact kq_tr kq_rf (kq_mono (kX12_signs_337  h) (by decide))
              · skip
                rcases h with ⟨-, h⟩ | ⟨-, h⟩
                · skip
                  exact kq_tr kq_rf (kq_mono (kX12_signs_337  h) (by decide))
                · skip
                  rcases h with ⟨-, h⟩ | ⟨-, h⟩
                  · skip
                    exact kq_tr kq_rf (kq_mono (kX12_signs_337  h) (by decide))
                  · skip
                    rcases h with ⟨-, h⟩ | ⟨-, h⟩
                    · skip
                      exact kq_tr kq_rf (kq_mono (kX12_signs_337  h) (by decide))
                    · skip
                      rcases h with ⟨-, h⟩ | ⟨-, h⟩
                      · skip
                        exact kq_tr kq_rf (kq_mono (kX12_signs_337  h) (by decide))
                      · skip
                        rcases h with ⟨-, h⟩ | ⟨-, h⟩
                        · skip
                          exact kq_tr kq_rf (kq_mono (kX12_signs_337  h) (by decide))
                        · skip
                          rcases h with ⟨-, h⟩ | ⟨-, h⟩
                          · skip
                            exact kq_tr kq_rf (kq_mono (kX12_signs_337  h) (by decide))
                          · skip
                            exact kq_tr kq_rf (kq_mono (kX12_signs_342  h) (by decide))
  · skip
    exact kq_tr kq_rf (kq_mono (kX12_signs_337  h) (by decide))
theorem kX12_signs_253  {a1 : Int32} {a2 : Int32} {l5i : Int32} {n sl : Nat} {SH : Nat → Nat × Nat} {FI : Nat → Nat → Int32} {FL : Nat → Nat → Int64} {FR : Nat → Nat → Option Nat}  {v : Int32} {s : hS} (h : RX12_signs_253  a1 a2 l5i n sl SH FI FL FR v s) : kq mX12_signs_253 (n, sl, SH, FI, FL, FR) s := by
  exact kq_tr kq_rf (kq_mono (kX12_signs_258  h) (by decide))
theorem kX12_signs_184  {a1 : Int32} {a2 : Int32} {l4i : Int32} {l5i : Int32} {n sl : Nat} {SH : Nat → Nat × Nat} {FI : Nat → Nat → Int32} {FL : Nat → Nat → Int64} {FR : Nat → Nat → Option Nat}  {v : Int32} {s : hS} (h : RX12_signs_184  a1 a2 l4i l5i n sl SH FI FL FR v s) : kq mX12_signs_184 (n, sl, SH, FI, FL, FR) s := by
  rcases h with ⟨-, h⟩ | ⟨-, h⟩
  · skip
    rcases h with ⟨-, h⟩ | ⟨-, h⟩
    · skip
      exact kq_tr kq_rf (kq_mono (kX12_signs_253  h) (by decide))
    · skip
      rcases h with ⟨-, h⟩ | ⟨-, h⟩
      · skip
        exact kq_tr kq_rf (kq_mono (kX12_signs_253  h) (by decide))
      · skip
        rcases h with ⟨-, h⟩ | ⟨-, h⟩
        · skip
          exact kq_tr kq_rf (kq_mono (kX12_signs_253  h) (by decide))
        · skip
          rcases h with ⟨-, h⟩ | ⟨-, h⟩
          · skip
            exact kq_tr kq_rf (kq_mono (kX12_signs_253  h) (by decide))
          · skip
            rcases h with ⟨-, h⟩ | ⟨-, h⟩
            · skip
              exact kq_tr kq_rf (kq_mono (kX12_signs_253  h) (by decide))
            · skip
              rcases h with ⟨-, h⟩ | ⟨-, h⟩
              · skip
                exact kq_tr kq_rf (kq_mono (kX12_signs_253  h) (by decide))
              · skip
                rcases h with ⟨-, h⟩ | ⟨-, h⟩
                · skip
                  exact kq_tr kq_rf (kq_mono (kX12_signs_253  h) (by decide))
                · skip
                  rcases h with ⟨-, h⟩ | ⟨-, h⟩
                  · skip
                    exact kq_tr kq_rf (kq_mono (kX12_signs_253  h) (by decide))
                  · skip
                    rcases h with ⟨-, h⟩ | ⟨-, h⟩
                    · skip
                      exact kq_tr kq_rf (kq_mono (kX12_signs_253  h) (by decide))
                    · skip
                      rcases h with ⟨-, h⟩ | ⟨-, h⟩
                      · skip
                        exact kq_tr kq_rf (kq_mono (kX12_signs_253  h) (by decide))
                      · skip
                        exact kq_tr kq_rf (kq_mono (kX12_signs_258  h) (by decide))
  · skip
    exact kq_tr kq_rf (kq_mono (kX12_signs_356  h) (by decide))
theorem kX12_signs_182  {a1 : Int32} {a2 : Int32} {l4i : Int32} {s0i : Int32} {n sl : Nat} {SH : Nat → Nat × Nat} {FI : Nat → Nat → Int32} {FL : Nat → Nat → Int64} {FR : Nat → Nat → Option Nat}  {v : Int32} {s : hS} (h : RX12_signs_182  a1 a2 l4i s0i n sl SH FI FL FR v s) : kq mX12_signs_182 (n, sl, SH, FI, FL, FR) s := by
  exact kq_tr kq_rf (kq_mono (kX12_signs_184  h) (by decide))
theorem kX12_signs_167  {a1 : Int32} {a2 : Int32} {s0i : Int32} {n sl : Nat} {SH : Nat → Nat × Nat} {FI : Nat → Nat → Int32} {FL : Nat → Nat → Int64} {FR : Nat → Nat → Option Nat}  {v : Int32} {s : hS} (h : RX12_signs_167  a1 a2 s0i n sl SH FI FL FR v s) : kq mX12_signs_167 (n, sl, SH, FI, FL, FR) s := by
  rcases h with ⟨-, h⟩ | ⟨-, h⟩
  · skip
    exact kq_tr kq_rf (kq_mono (kX12_signs_182  h) (by decide))
  · skip
    exact kq_tr kq_rf (kq_mono (kX12_signs_182  h) (by decide))
theorem kX12_signs_134  {a1 : Int32} {a2 : Int32} {l3i : Int32} {l4i : Int32} {l5i : Int32} {n sl : Nat} {SH : Nat → Nat × Nat} {FI : Nat → Nat → Int32} {FL : Nat → Nat → Int64} {FR : Nat → Nat → Option Nat}  {v : Int32} {s : hS} (h : RX12_signs_134  a1 a2 l3i l4i l5i n sl SH FI FL FR v s) : kq mX12_signs_134 (n, sl, SH, FI, FL, FR) s := by
  rcases h with ⟨-, h⟩ | ⟨-, h⟩
  · skip
    rcases h with ⟨-, h⟩ | ⟨-, h⟩
    · skip
      rcases h with ⟨-, h⟩ | ⟨-, h⟩
      · skip
        exact kq_tr kq_rf (kq_mono (kX12_signs_167  h) (by decide))
      · skip
        exact kq_tr kq_rf (kq_mono (kX12_signs_167  h) (by decide))
    · skip
      exact kq_tr kq_rf (kq_mono (kX12_signs_184  h) (by decide))
  · skip
    exact kq_tr kq_rf (kq_mono (kX12_signs_184  h) (by decide))
theorem kX12_signs_114  {a1 : Int32} {a2 : Int32} {l3i : Int32} {l4i : Int32} {l5i : Int32} {n sl : Nat} {SH : Nat → Nat × Nat} {FI : Nat → Nat → Int32} {FL : Nat → Nat → Int64} {FR : Nat → Nat → Option Nat}  {v : Int32} {s : hS} (h : RX12_signs_114  a1 a2 l3i l4i l5i n sl SH FI FL FR v s) : kq mX12_signs_114 (n, sl, SH, FI, FL, FR) s := by
  rcases h with ⟨-, h⟩ | ⟨-, h⟩
  · skip
    rcases h with ⟨-, h⟩ | ⟨-, h⟩
    · skip
      exact kq_tr kq_rf (kq_mono (kX12_signs_184  h) (by decide))
    · skip
      exact kq_tr kq_rf (kq_mono (kX12_signs_134  h) (by decide))
  · skip
    exact kq_tr kq_rf (kq_mono (kX12_signs_134  h) (by decide))
theorem kX12_signs_94  {a1 : Int32} {a2 : Int32} {l3i : Int32} {l4i : Int32} {l5i : Int32} {n sl : Nat} {SH : Nat → Nat × Nat} {FI : Nat → Nat → Int32} {FL : Nat → Nat → Int64} {FR : Nat → Nat → Option Nat}  {v : Int32} {s : hS} (h : RX12_signs_94  a1 a2 l3i l4i l5i n sl SH FI FL FR v s) : kq mX12_signs_94 (n, sl, SH, FI, FL, FR) s := by
  rcases h with ⟨-, h⟩ | ⟨-, h⟩
  · skip
    rcases h with ⟨-, h⟩ | ⟨-, h⟩
    · skip
      exact kq_tr kq_rf (kq_mono (kX12_signs_184  h) (by decide))
    · skip
      exact kq_tr kq_rf (kq_mono (kX12_signs_114  h) (by decide))
  · skip
    exact kq_tr kq_rf (kq_mono (kX12_signs_114  h) (by decide))
theorem kX12_signs_74  {a1 : Int32} {a2 : Int32} {l3i : Int32} {l4i : Int32} {l5i : Int32} {n sl : Nat} {SH : Nat → Nat × Nat} {FI : Nat → Nat → Int32} {FL : Nat → Nat → Int64} {FR : Nat → Nat → Option Nat}  {v : Int32} {s : hS} (h : RX12_signs_74  a1 a2 l3i l4i l5i n sl SH FI FL FR v s) : kq mX12_signs_74 (n, sl, SH, FI, FL, FR) s := by
  rcases h with ⟨-, h⟩ | ⟨-, h⟩
  · skip
    rcases h with ⟨-, h⟩ | ⟨-, h⟩
    · skip
      exact kq_tr kq_rf (kq_mono (kX12_signs_184  h) (by decide))
    · skip
      exact kq_tr kq_rf (kq_mono (kX12_signs_94  h) (by decide))
  · skip
    exact kq_tr kq_rf (kq_mono (kX12_signs_94  h) (by decide))
theorem kX12_signs_54  {a1 : Int32} {a2 : Int32} {l3i : Int32} {l4i : Int32} {l5i : Int32} {n sl : Nat} {SH : Nat → Nat × Nat} {FI : Nat → Nat → Int32} {FL : Nat → Nat → Int64} {FR : Nat → Nat → Option Nat}  {v : Int32} {s : hS} (h : RX12_signs_54  a1 a2 l3i l4i l5i n sl SH FI FL FR v s) : kq mX12_signs_54 (n, sl, SH, FI, FL, FR) s := by
  rcases h with ⟨-, h⟩ | ⟨-, h⟩
  · skip
    rcases h with ⟨-, h⟩ | ⟨-, h⟩
    · skip
      exact kq_tr kq_rf (kq_mono (kX12_signs_184  h) (by decide))
    · skip
      exact kq_tr kq_rf (kq_mono (kX12_signs_74  h) (by decide))
  · skip
    exact kq_tr kq_rf (kq_mono (kX12_signs_74  h) (by decide))
theorem kX12_signs_34  {a1 : Int32} {a2 : Int32} {l3i : Int32} {l4i : Int32} {l5i : Int32} {n sl : Nat} {SH : Nat → Nat × Nat} {FI : Nat → Nat → Int32} {FL : Nat → Nat → Int64} {FR : Nat → Nat → Option Nat}  {v : Int32} {s : hS} (h : RX12_signs_34  a1 a2 l3i l4i l5i n sl SH FI FL FR v s) : kq mX12_signs_34 (n, sl, SH, FI, FL, FR) s := by
  rcases h with ⟨-, h⟩ | ⟨-, h⟩
  · skip
    rcases h with ⟨-, h⟩ | ⟨-, h⟩
    · skip
      exact kq_tr kq_rf (kq_mono (kX12_signs_184  h) (by decide))
    · skip
      exact kq_tr kq_rf (kq_mono (kX12_signs_54  h) (by decide))
  · skip
    exact kq_tr kq_rf (kq_mono (kX12_signs_54  h) (by decide))
theorem kX12_signs  {a1 : Int32} {a2 : Int32} {n sl : Nat} {SH : Nat → Nat × Nat} {FI : Nat → Nat → Int32} {FL : Nat → Nat → Int64} {FR : Nat → Nat → Option Nat}  {v : Int32} {s : hS} (h : RX12_signs  a1 a2 n sl SH FI FL FR v s) : kq mX12_signs (n, sl, SH, FI, FL, FR) s := by
  rcases h with ⟨-, h⟩ | ⟨-, h⟩
  · skip
    rcases h with ⟨-, h⟩ | ⟨-, h⟩
    · skip
      exact kq_tr kq_rf (kq_mono (kX12_signs_184  h) (by decide))
    · skip
      exact kq_tr kq_rf (kq_mono (kX12_signs_34  h) (by decide))
  · skip
    exact kq_tr kq_rf (kq_mono (kX12_signs_34  h) (by decide))
theorem kX12_tokens_363 {K7 : Int32 → Nat → Nat → (Nat → Nat × Nat) → (Nat → Nat → Int32) → (Nat → Nat → Int64) → (Nat → Nat → Option Nat) → Unit → hS → Prop} {l1i : Int32} {n sl : Nat} {SH : Nat → Nat × Nat} {FI : Nat → Nat → Int32} {FL : Nat → Nat → Int64} {FR : Nat → Nat → Option Nat} (hK7 : ∀ x0 n sl SH FI FL FR v s, K7 x0 n sl SH FI FL FR v s → kq mBX12_tokens_7 (n, sl, SH, FI, FL, FR) s) {v : Unit} {s : hS} (h : RX12_tokens_363 K7 l1i n sl SH FI FL FR v s) : kq mX12_tokens_363 (n, sl, SH, FI, FL, FR) s := by
  exact kq_tr kq_rf (kq_mono (hK7 _ _ _ _ _ _ _ _ _ h) (by decide))
theorem kX12_tokens_35 {K7 : Int32 → Nat → Nat → (Nat → Nat × Nat) → (Nat → Nat → Int32) → (Nat → Nat → Int64) → (Nat → Nat → Option Nat) → Unit → hS → Prop} {l1i : Int32} {n sl : Nat} {SH : Nat → Nat × Nat} {FI : Nat → Nat → Int32} {FL : Nat → Nat → Int64} {FR : Nat → Nat → Option Nat} (hK7 : ∀ x0 n sl SH FI FL FR v s, K7 x0 n sl SH FI FL FR v s → kq mBX12_tokens_7 (n, sl, SH, FI, FL, FR) s) {v : Unit} {s : hS} (h : RX12_tokens_35 K7 l1i n sl SH FI FL FR v s) : kq mX12_tokens_35 (n, sl, SH, FI, FL, FR) s := by
  exact kq_tr kq_rf (kq_mono (kX12_tokens_363 hK7 h) (by decide))
theorem kX12_tokens_349 {K7 : Int32 → Nat → Nat → (Nat → Nat × Nat) → (Nat → Nat → Int32) → (Nat → Nat → Int64) → (Nat → Nat → Option Nat) → Unit → hS → Prop} {s0i : Int32} {s1i : Int32} {n sl : Nat} {SH : Nat → Nat × Nat} {FI : Nat → Nat → Int32} {FL : Nat → Nat → Int64} {FR : Nat → Nat → Option Nat} (hK7 : ∀ x0 n sl SH FI FL FR v s, K7 x0 n sl SH FI FL FR v s → kq mBX12_tokens_7 (n, sl, SH, FI, FL, FR) s) {v : Unit} {s : hS} (h : RX12_tokens_349 K7 s0i s1i n sl SH FI FL FR v s) : kq mX12_tokens_349 (n, sl, SH, FI, FL, FR) s := by
  exact kq_tr kq_rf (kq_mono (kX12_tokens_363 hK7 h) (by decide))
theorem kX12_tokens_328 {K7 : Int32 → Nat → Nat → (Nat → Nat × Nat) → (Nat → Nat → Int32) → (Nat → Nat → Int64) → (Nat → Nat → Option Nat) → Unit → hS → Prop} {l1i : Int32} {l3i : Int32} {l4i : Int32} {l5i : Int32} {s0i : Int32} {n sl : Nat} {SH : Nat → Nat × Nat} {FI : Nat → Nat → Int32} {FL : Nat → Nat → Int64} {FR : Nat → Nat → Option Nat} (hK7 : ∀ x0 n sl SH FI FL FR v s, K7 x0 n sl SH FI FL FR v s → kq mBX12_tokens_7 (n, sl, SH, FI, FL, FR) s) {v : Unit} {s : hS} (h : RX12_tokens_328 K7 l1i l3i l4i l5i s0i n sl SH FI FL FR v s) : kq mX12_tokens_328 (n, sl, SH, FI, FL, FR) s := by
  obtain ⟨v0, n0, sl0, SH0, FI0, FL0, FR0, hc, h⟩ := h
  have q1 : kq mX12_tokens_328 (n, sl, SH, FI, FL, FR) (n0, sl0, SH0, FI0, FL0, FR0) := kq_tr kq_rf (kq_mono (kX12_token hc) (by decide))
  clear hc
  rcases h with ⟨-, h⟩ | ⟨-, h⟩
  · skip
    exact kq_tr q1 (kq_mono (kX12_tokens_349 hK7 h) (by decide))
  · skip
    exact kq_tr q1 (kq_mono (kX12_tokens_349 hK7 h) (by decide))
theorem kX12_tokens_314 {K7 : Int32 → Nat → Nat → (Nat → Nat × Nat) → (Nat → Nat → Int32) → (Nat → Nat → Int64) → (Nat → Nat → Option Nat) → Unit → hS → Prop} {l1i : Int32} {l3i : Int32} {l4i : Int32} {s0i : Int32} {n sl : Nat} {SH : Nat → Nat × Nat} {FI : Nat → Nat → Int32} {FL : Nat → Nat → Int64} {FR : Nat → Nat → Option Nat} (hK7 : ∀ x0 n sl SH FI FL FR v s, K7 x0 n sl SH FI FL FR v s → kq mBX12_tokens_7 (n, sl, SH, FI, FL, FR) s) {v : Unit} {s : hS} (h : RX12_tokens_314 K7 l1i l3i l4i s0i n sl SH FI FL FR v s) : kq mX12_tokens_314 (n, sl, SH, FI, FL, FR) s := by
  rcases h with ⟨-, h⟩ | ⟨-, h⟩
  · skip
    exact kq_tr kq_rf (kq_mono (kX12_tokens_328 hK7 h) (by decide))
  · skip
    exact kq_tr kq_rf (kq_mono (kX12_tokens_328 hK7 h) (by decide))
theorem kX12_tokens_313 {K7 : Int32 → Nat → Nat → (Nat → Nat × Nat) → (Nat → Nat → Int32) → (Nat → Nat → Int64) → (Nat → Nat → Option Nat) → Unit → hS → Prop} {l1i : Int32} {l3i : Int32} {l4i : Int32} {n sl : Nat} {SH : Nat → Nat × Nat} {FI : Nat → Nat → Int32} {FL : Nat → Nat → Int64} {FR : Nat → Nat → Option Nat} (hK7 : ∀ x0 n sl SH FI FL FR v s, K7 x0 n sl SH FI FL FR v s → kq mBX12_tokens_7 (n, sl, SH, FI, FL, FR) s) {v : Unit} {s : hS} (h : RX12_tokens_313 K7 l1i l3i l4i n sl SH FI FL FR v s) : kq mX12_tokens_313 (n, sl, SH, FI, FL, FR) s := by
  exact kq_tr kq_rf (kq_mono (kX12_tokens_314 hK7 h) (by decide))
theorem kX12_tokens_271 {K7 : Int32 → Nat → Nat → (Nat → Nat × Nat) → (Nat → Nat → Int32) → (Nat → Nat → Int64) → (Nat → Nat → Option Nat) → Unit → hS → Prop} {l1i : Int32} {l3i : Int32} {l4l : Int64} {s0i : Int32} {n sl : Nat} {SH : Nat → Nat × Nat} {FI : Nat → Nat → Int32} {FL : Nat → Nat → Int64} {FR : Nat → Nat → Option Nat} (hK7 : ∀ x0 n sl SH FI FL FR v s, K7 x0 n sl SH FI FL FR v s → kq mBX12_tokens_7 (n, sl, SH, FI, FL, FR) s) {v : Unit} {s : hS} (h : RX12_tokens_271 K7 l1i l3i l4l s0i n sl SH FI FL FR v s) : kq mX12_tokens_271 (n, sl, SH, FI, FL, FR) s := by
  obtain ⟨v0, n0, sl0, SH0, FI0, FL0, FR0, hc, h⟩ := h
  have q1 : kq mX12_tokens_271 (n, sl, SH, FI, FL, FR) (n0, sl0, SH0, FI0, FL0, FR0) := kq_tr kq_rf (kq_mono (kX12_token hc) (by decide))
  clear hc
  exact kq_tr q1 (kq_mono (kX12_tokens_363 hK7 h) (by decide))
theorem kX12_tokens_265 {K7 : Int32 → Nat → Nat → (Nat → Nat × Nat) → (Nat → Nat → Int32) → (Nat → Nat → Int64) → (Nat → Nat → Option Nat) → Unit → hS → Prop} {l1i : Int32} {l3i : Int32} {l4l : Int64} {n sl : Nat} {SH : Nat → Nat × Nat} {FI : Nat → Nat → Int32} {FL : Nat → Nat → Int64} {FR : Nat → Nat → Option Nat} (hK7 : ∀ x0 n sl SH FI FL FR v s, K7 x0 n sl SH FI FL FR v s → kq mBX12_tokens_7 (n, sl, SH, FI, FL, FR) s) {v : Unit} {s : hS} (h : RX12_tokens_265 K7 l1i l3i l4l n sl SH FI FL FR v s) : kq mX12_tokens_265 (n, sl, SH, FI, FL, FR) s := by
  exact kq_tr kq_rf (kq_mono (kX12_tokens_271 hK7 h) (by decide))
theorem kX12_tokens_237 {K7 : Int32 → Nat → Nat → (Nat → Nat × Nat) → (Nat → Nat → Int32) → (Nat → Nat → Int64) → (Nat → Nat → Option Nat) → Unit → hS → Prop} {K198 : Int32 → Int32 → Int64 → Nat → Nat → (Nat → Nat × Nat) → (Nat → Nat → Int32) → (Nat → Nat → Int64) → (Nat → Nat → Option Nat) → Unit → hS → Prop} {l1i : Int32} {l3i : Int32} {l4l : Int64} {n sl : Nat} {SH : Nat → Nat × Nat} {FI : Nat → Nat → Int32} {FL : Nat → Nat → Int64} {FR : Nat → Nat → Option Nat} (hK7 : ∀ x0 n sl SH FI FL FR v s, K7 x0 n sl SH FI FL FR v s → kq mBX12_tokens_7 (n, sl, SH, FI, FL, FR) s) (hK198 : ∀ x0 x1 x2 n sl SH FI FL FR v s, K198 x0 x1 x2 n sl SH FI FL FR v s → kq mBX12_tokens_198 (n, sl, SH, FI, FL, FR) s) {v : Unit} {s : hS} (h : RX12_tokens_237 K7 K198 l1i l3i l4l n sl SH FI FL FR v s) : kq mX12_tokens_237 (n, sl, SH, FI, FL, FR) s := by
  exact kq_tr kq_rf (kq_mono (hK198 _ _ _ _ _ _ _ _ _ _ _ h) (by decide))
theorem kBX12_tokens_198 {K7 : Int32 → Nat → Nat → (Nat → Nat × Nat) → (Nat → Nat → Int32) → (Nat → Nat → Int64) → (Nat → Nat → Option Nat) → Unit → hS → Prop} {K198 : Int32 → Int32 → Int64 → Nat → Nat → (Nat → Nat × Nat) → (Nat → Nat → Int32) → (Nat → Nat → Int64) → (Nat → Nat → Option Nat) → Unit → hS → Prop} {l1i : Int32} {l3i : Int32} {l4l : Int64} {n sl : Nat} {SH : Nat → Nat × Nat} {FI : Nat → Nat → Int32} {FL : Nat → Nat → Int64} {FR : Nat → Nat → Option Nat} (hK7 : ∀ x0 n sl SH FI FL FR v s, K7 x0 n sl SH FI FL FR v s → kq mBX12_tokens_7 (n, sl, SH, FI, FL, FR) s) (hK198 : ∀ x0 x1 x2 n sl SH FI FL FR v s, K198 x0 x1 x2 n sl SH FI FL FR v s → kq mBX12_tokens_198 (n, sl, SH, FI, FL, FR) s) {v : Unit} {s : hS} (h : BX12_tokens_198 K7 K198 l1i l3i l4l n sl SH FI FL FR v s) : kq mBX12_tokens_198 (n, sl, SH, FI, FL, FR) s := by
  rcases h with ⟨-, h⟩ | ⟨-, h⟩
  · skip
    rcases h with ⟨-, h⟩ | ⟨-, h⟩
    · skip
      exact kq_tr kq_rf (kq_mono (kX12_tokens_265 hK7 h) (by decide))
    · skip
      rcases h with ⟨-, h⟩ | ⟨-, h⟩
      · skip
        exact kq_tr kq_rf (kq_mono (kX12_tokens_271 hK7 h) (by decide))
      · skip
        exact kq_tr kq_rf (kq_mono (kX12_tokens_265 hK7 h) (by decide))
  · skip
    rcases h with ⟨-, h⟩ | ⟨-, h⟩
    · skip
      exact kq_tr kq_rf (kq_mono (kX12_tokens_237 hK7 hK198 h) (by decide))
    · skip
      exact kq_tr kq_rf (kq_mono (kX12_tokens_237 hK7 hK198 h) (by decide))
theorem kGX12_tokens_198 {K7 : Int32 → Nat → Nat → (Nat → Nat × Nat) → (Nat → Nat → Int32) → (Nat → Nat → Int64) → (Nat → Nat → Option Nat) → Unit → hS → Prop}  (hK7 : ∀ x0 n sl SH FI FL FR v s, K7 x0 n sl SH FI FL FR v s → kq mBX12_tokens_7 (n, sl, SH, FI, FL, FR) s) : ∀ g x0 x1 x2 n sl SH FI FL FR v s, GX12_tokens_198 K7  g x0 x1 x2 n sl SH FI FL FR v s → kq mGX12_tokens_198 (n, sl, SH, FI, FL, FR) s := by
  intro g
  induction g with
  | zero => intro x0 x1 x2 n sl SH FI FL FR v s h; exact h.elim
  | succ g ih => intro x0 x1 x2 n sl SH FI FL FR v s h; exact kBX12_tokens_198 hK7 ih h
theorem kX12_tokens_198 {K7 : Int32 → Nat → Nat → (Nat → Nat × Nat) → (Nat → Nat → Int32) → (Nat → Nat → Int64) → (Nat → Nat → Option Nat) → Unit → hS → Prop} {l1i : Int32} {l3i : Int32} {l4l : Int64} {n sl : Nat} {SH : Nat → Nat × Nat} {FI : Nat → Nat → Int32} {FL : Nat → Nat → Int64} {FR : Nat → Nat → Option Nat} (hK7 : ∀ x0 n sl SH FI FL FR v s, K7 x0 n sl SH FI FL FR v s → kq mBX12_tokens_7 (n, sl, SH, FI, FL, FR) s) {v : Unit} {s : hS} (h : RX12_tokens_198 K7 l1i l3i l4l n sl SH FI FL FR v s) : kq mX12_tokens_198 (n, sl, SH, FI, FL, FR) s := by
  obtain ⟨g, h⟩ := h
  exact kGX12_tokens_198 hK7 g _ _ _ _ _ _ _ _ _ _ _ h
theorem kX12_tokens_184 {K7 : Int32 → Nat → Nat → (Nat → Nat × Nat) → (Nat → Nat → Int32) → (Nat → Nat → Int64) → (Nat → Nat → Option Nat) → Unit → hS → Prop} {l1i : Int32} {n sl : Nat} {SH : Nat → Nat × Nat} {FI : Nat → Nat → Int32} {FL : Nat → Nat → Int64} {FR : Nat → Nat → Option Nat} (hK7 : ∀ x0 n sl SH FI FL FR v s, K7 x0 n sl SH FI FL FR v s → kq mBX12_tokens_7 (n, sl, SH, FI, FL, FR) s) {v : Unit} {s : hS} (h : RX12_tokens_184 K7 l1i n sl SH FI FL FR v s) : kq mX12_tokens_184 (n, sl, SH, FI, FL, FR) s := by
  exact kq_tr kq_rf (kq_mono (kX12_tokens_363 hK7 h) (by decide))
theorem kX12_tokens_124 {K7 : Int32 → Nat → Nat → (Nat → Nat × Nat) → (Nat → Nat → Int32) → (Nat → Nat → Int64) → (Nat → Nat → Option Nat) → Unit → hS → Prop} {K53 : Int32 → Int32 → Int64 → Nat → Nat → (Nat → Nat × Nat) → (Nat → Nat → Int32) → (Nat → Nat → Int64) → (Nat → Nat → Option Nat) → Unit → hS → Prop} {l1i : Int32} {l3i : Int32} {l4l : Int64} {n sl : Nat} {SH : Nat → Nat × Nat} {FI : Nat → Nat → Int32} {FL : Nat → Nat → Int64} {FR : Nat → Nat → Option Nat} (hK7 : ∀ x0 n sl SH FI FL FR v s, K7 x0 n sl SH FI FL FR v s → kq mBX12_tokens_7 (n, sl, SH, FI, FL, FR) s) (hK53 : ∀ x0 x1 x2 n sl SH FI FL FR v s, K53 x0 x1 x2 n sl SH FI FL FR v s → kq mBX12_tokens_53 (n, sl, SH, FI, FL, FR) s) {v : Unit} {s : hS} (h : RX12_tokens_124 K7 K53 l1i l3i l4l n sl SH FI FL FR v s) : kq mX12_tokens_124 (n, sl, SH, FI, FL, FR) s := by
  exact kq_tr kq_rf (kq_mono (hK53 _ _ _ _ _ _ _ _ _ _ _ h) (by decide))
theorem kX12_tokens_120 {K7 : Int32 → Nat → Nat → (Nat → Nat × Nat) → (Nat → Nat → Int32) → (Nat → Nat → Int64) → (Nat → Nat → Option Nat) → Unit → hS → Prop} {K53 : Int32 → Int32 → Int64 → Nat → Nat → (Nat → Nat × Nat) → (Nat → Nat → Int32) → (Nat → Nat → Int64) → (Nat → Nat → Option Nat) → Unit → hS → Prop} {l1i : Int32} {l3i : Int32} {s0i : Int32} {s1l : Int64} {n sl : Nat} {SH : Nat → Nat × Nat} {FI : Nat → Nat → Int32} {FL : Nat → Nat → Int64} {FR : Nat → Nat → Option Nat} (hK7 : ∀ x0 n sl SH FI FL FR v s, K7 x0 n sl SH FI FL FR v s → kq mBX12_tokens_7 (n, sl, SH, FI, FL, FR) s) (hK53 : ∀ x0 x1 x2 n sl SH FI FL FR v s, K53 x0 x1 x2 n sl SH FI FL FR v s → kq mBX12_tokens_53 (n, sl, SH, FI, FL, FR) s) {v : Unit} {s : hS} (h : RX12_tokens_120 K7 K53 l1i l3i s0i s1l n sl SH FI FL FR v s) : kq mX12_tokens_120 (n, sl, SH, FI, FL, FR) s := by
  exact kq_tr kq_rf (kq_mono (kX12_tokens_124 hK7 hK53 h) (by decide))
theorem kX12_tokens_77 {K7 : Int32 → Nat → Nat → (Nat → Nat × Nat) → (Nat → Nat → Int32) → (Nat → Nat → Int64) → (Nat → Nat → Option Nat) → Unit → hS → Prop} {K53 : Int32 → Int32 → Int64 → Nat → Nat → (Nat → Nat × Nat) → (Nat → Nat → Int32) → (Nat → Nat → Int64) → (Nat → Nat → Option Nat) → Unit → hS → Prop} {l1i : Int32} {l3i : Int32} {l4l : Int64} {n sl : Nat} {SH : Nat → Nat × Nat} {FI : Nat → Nat → Int32} {FL : Nat → Nat → Int64} {FR : Nat → Nat → Option Nat} (hK7 : ∀ x0 n sl SH FI FL FR v s, K7 x0 n sl SH FI FL FR v s → kq mBX12_tokens_7 (n, sl, SH, FI, FL, FR) s) (hK53 : ∀ x0 x1 x2 n sl SH FI FL FR v s, K53 x0 x1 x2 n sl SH FI FL FR v s → kq mBX12_tokens_53 (n, sl, SH, FI, FL, FR) s) {v : Unit} {s : hS} (h : RX12_tokens_77 K7 K53 l1i l3i l4l n sl SH FI FL FR v s) : kq mX12_tokens_77 (n, sl, SH, FI, FL, FR) s := by
  rcases h with ⟨-, h⟩ | ⟨-, h⟩
  · skip
    rcases h with ⟨-, h⟩ | ⟨-, h⟩
    · skip
      exact kq_tr kq_rf (kq_mono (kX12_tokens_120 hK7 hK53 h) (by decide))
    · skip
      exact kq_tr kq_rf (kq_mono (kX12_tokens_120 hK7 hK53 h) (by decide))
  · skip
    exact kq_tr kq_rf (kq_mono (kX12_tokens_124 hK7 hK53 h) (by decide))
theorem kBX12_tokens_53 {K7 : Int32 → Nat → Nat → (Nat → Nat × Nat) → (Nat → Nat → Int32) → (Nat → Nat → Int64) → (Nat → Nat → Option Nat) → Unit → hS → Prop} {K53 : Int32 → Int32 → Int64 → Nat → Nat → (Nat → Nat × Nat) → (Nat → Nat → Int32) → (Nat → Nat → Int64) → (Nat → Nat → Option Nat) → Unit → hS → Prop} {l1i : Int32} {l3i : Int32} {l4l : Int64} {n sl : Nat} {SH : Nat → Nat × Nat} {FI : Nat → Nat → Int32} {FL : Nat → Nat → Int64} {FR : Nat → Nat → Option Nat} (hK7 : ∀ x0 n sl SH FI FL FR v s, K7 x0 n sl SH FI FL FR v s → kq mBX12_tokens_7 (n, sl, SH, FI, FL, FR) s) (hK53 : ∀ x0 x1 x2 n sl SH FI FL FR v s, K53 x0 x1 x2 n sl SH FI FL FR v s → kq mBX12_tokens_53 (n, sl, SH, FI, FL, FR) s) {v : Unit} {s : hS} (h : BX12_tokens_53 K7 K53 l1i l3i l4l n sl SH FI FL FR v s) : kq mBX12_tokens_53 (n, sl, SH, FI, FL, FR) s := by
  rcases h with ⟨-, h⟩ | ⟨-, h⟩
  · skip
    rcases h with ⟨-, h⟩ | ⟨-, h⟩
    · skip
      rcases h with ⟨-, h⟩ | ⟨-, h⟩
      · skip
        obtain ⟨v7, n7, sl7, SH7, FI7, FL7, FR7, hc, h⟩ := h
        have q1 : kq mBX12_tokens_53 (n, sl, SH, FI, FL, FR) (n7, sl7, SH7, FI7, FL7, FR7) := kq_tr kq_rf (kq_mono (kX12_token hc) (by decide))
        clear hc
        exact kq_tr q1 (kq_mono (kX12_tokens_184 hK7 h) (by decide))
      · skip
        rcases h with ⟨-, h⟩ | ⟨-, h⟩
        · skip
          obtain ⟨v10, n10, sl10, SH10, FI10, FL10, FR10, hc, h⟩ := h
          have q2 : kq mBX12_tokens_53 (n, sl, SH, FI, FL, FR) (n10, sl10, SH10, FI10, FL10, FR10) := kq_tr kq_rf (kq_mono (kX12_token hc) (by decide))
          clear hc
          exact kq_tr q2 (kq_mono (kX12_tokens_184 hK7 h) (by decide))
        · skip
          obtain ⟨v12, n12, sl12, SH12, FI12, FL12, FR12, hc, h⟩ := h
          have q3 : kq mBX12_tokens_53 (n, sl, SH, FI, FL, FR) (n12, sl12, SH12, FI12, FL12, FR12) := kq_tr kq_rf (kq_mono (kX12_token hc) (by decide))
          clear hc
          exact kq_tr q3 (kq_mono (kX12_tokens_184 hK7 h) (by decide))
    · skip
      exact kq_tr kq_rf (kq_mono (kX12_tokens_77 hK7 hK53 h) (by decide))
  · skip
    exact kq_tr kq_rf (kq_mono (kX12_tokens_77 hK7 hK53 h) (by decide))
theorem kGX12_tokens_53 {K7 : Int32 → Nat → Nat → (Nat → Nat × Nat) → (Nat → Nat → Int32) → (Nat → Nat → Int64) → (Nat → Nat → Option Nat) → Unit → hS → Prop}  (hK7 : ∀ x0 n sl SH FI FL FR v s, K7 x0 n sl SH FI FL FR v s → kq mBX12_tokens_7 (n, sl, SH, FI, FL, FR) s) : ∀ g x0 x1 x2 n sl SH FI FL FR v s, GX12_tokens_53 K7  g x0 x1 x2 n sl SH FI FL FR v s → kq mGX12_tokens_53 (n, sl, SH, FI, FL, FR) s := by
  intro g
  induction g with
  | zero => intro x0 x1 x2 n sl SH FI FL FR v s h; exact h.elim
  | succ g ih => intro x0 x1 x2 n sl SH FI FL FR v s h; exact kBX12_tokens_53 hK7 ih h
theorem kX12_tokens_53 {K7 : Int32 → Nat → Nat → (Nat → Nat × Nat) → (Nat → Nat → Int32) → (Nat → Nat → Int64) → (Nat → Nat → Option Nat) → Unit → hS → Prop} {l1i : Int32} {l3i : Int32} {l4l : Int64} {n sl : Nat} {SH : Nat → Nat × Nat} {FI : Nat → Nat → Int32} {FL : Nat → Nat → Int64} {FR : Nat → Nat → Option Nat} (hK7 : ∀ x0 n sl SH FI FL FR v s, K7 x0 n sl SH FI FL FR v s → kq mBX12_tokens_7 (n, sl, SH, FI, FL, FR) s) {v : Unit} {s : hS} (h : RX12_tokens_53 K7 l1i l3i l4l n sl SH FI FL FR v s) : kq mX12_tokens_53 (n, sl, SH, FI, FL, FR) s := by
  obtain ⟨g, h⟩ := h
  exact kGX12_tokens_53 hK7 g _ _ _ _ _ _ _ _ _ _ _ h
theorem kBX12_tokens_7 {K7 : Int32 → Nat → Nat → (Nat → Nat × Nat) → (Nat → Nat → Int32) → (Nat → Nat → Int64) → (Nat → Nat → Option Nat) → Unit → hS → Prop} {l1i : Int32} {n sl : Nat} {SH : Nat → Nat × Nat} {FI : Nat → Nat → Int32} {FL : Nat → Nat → Int64} {FR : Nat → Nat → Option Nat} (hK7 : ∀ x0 n sl SH FI FL FR v s, K7 x0 n sl SH FI FL FR v s → kq mBX12_tokens_7 (n, sl, SH, FI, FL, FR) s) {v : Unit} {s : hS} (h : BX12_tokens_7 K7 l1i n sl SH FI FL FR v s) : kq mBX12_tokens_7 (n, sl, SH, FI, FL, FR) s := by
  rcases h with ⟨-, h⟩ | ⟨-, h⟩
  · skip
    rcases h with ⟨-, h⟩ | ⟨-, h⟩
    · skip
      exact kq_tr kq_rf (kq_mono (kX12_tokens_35 hK7 h) (by decide))
    · skip
      rcases h with ⟨-, h⟩ | ⟨-, h⟩
      · skip
        exact kq_tr kq_rf (kq_mono (kX12_tokens_35 hK7 h) (by decide))
      · skip
        rcases h with ⟨-, h⟩ | ⟨-, h⟩
        · skip
          rcases h with ⟨-, h⟩ | ⟨-, h⟩
          · skip
            rcases h with ⟨-, h⟩ | ⟨-, h⟩
            · skip
              rcases h with ⟨-, h⟩ | ⟨-, h⟩
              · skip
                exact kq_tr kq_rf (kq_mono (kX12_tokens_313 hK7 h) (by decide))
              · skip
                rcases h with ⟨-, h⟩ | ⟨-, h⟩
                · skip
                  exact kq_tr kq_rf (kq_mono (kX12_tokens_313 hK7 h) (by decide))
                · skip
                  exact kq_tr kq_rf (kq_mono (kX12_tokens_314 hK7 h) (by decide))
            · skip
              obtain ⟨v12, n12, sl12, SH12, FI12, FL12, FR12, hc, h⟩ := h
              have q1 : kq mBX12_tokens_7 (n, sl, SH, FI, FL, FR) (n12, sl12, SH12, FI12, FL12, FR12) := kq_tr kq_rf (kq_mono (kX12_signs hc) (by decide))
              clear hc
              exact kq_tr q1 (kq_mono (kX12_tokens_363 hK7 h) (by decide))
          · skip
            exact kq_tr kq_rf (kq_mono (kX12_tokens_198 hK7 h) (by decide))
        · skip
          exact kq_tr kq_rf (kq_mono (kX12_tokens_53 hK7 h) (by decide))
  · skip
    obtain ⟨v13, n13, sl13, SH13, FI13, FL13, FR13, hc, h⟩ := h
    have q2 : kq mBX12_tokens_7 (n, sl, SH, FI, FL, FR) (n13, sl13, SH13, FI13, FL13, FR13) := kq_tr kq_rf (kq_mono (kX12_token hc) (by decide))
    clear hc
    obtain ⟨-, rfl⟩ := h
    exact q2
theorem kGX12_tokens_7    : ∀ g x0 n sl SH FI FL FR v s, GX12_tokens_7   g x0 n sl SH FI FL FR v s → kq mGX12_tokens_7 (n, sl, SH, FI, FL, FR) s := by
  intro g
  induction g with
  | zero => intro x0 n sl SH FI FL FR v s h; exact h.elim
  | succ g ih => intro x0 n sl SH FI FL FR v s h; exact kBX12_tokens_7 ih h
theorem kX12_tokens_7  {l1i : Int32} {n sl : Nat} {SH : Nat → Nat × Nat} {FI : Nat → Nat → Int32} {FL : Nat → Nat → Int64} {FR : Nat → Nat → Option Nat}  {v : Unit} {s : hS} (h : RX12_tokens_7  l1i n sl SH FI FL FR v s) : kq mX12_tokens_7 (n, sl, SH, FI, FL, FR) s := by
  obtain ⟨g, h⟩ := h
  exact kGX12_tokens_7  g _ _ _ _ _ _ _ _ _ h
theorem kX12_tokens   {n sl : Nat} {SH : Nat → Nat × Nat} {FI : Nat → Nat → Int32} {FL : Nat → Nat → Int64} {FR : Nat → Nat → Option Nat}  {v : Unit} {s : hS} (h : RX12_tokens   n sl SH FI FL FR v s) : kq mX12_tokens (n, sl, SH, FI, FL, FR) s := by
  exact kq_tr (kq_if kq_rf (by decide) (by decide)) (kq_mono (kX12_tokens_7  h) (by decide))
theorem kX12_fail {a1 : Int32} {n sl : Nat} {SH : Nat → Nat × Nat} {FI : Nat → Nat → Int32} {FL : Nat → Nat → Int64} {FR : Nat → Nat → Option Nat} {v : Unit} {s : hS} (h : RX12_fail a1 n sl SH FI FL FR v s) : kq mX12_fail (n, sl, SH, FI, FL, FR) s := by
  rcases h with ⟨h0, h⟩ | ⟨-, h⟩
  · replace h := h.2
    obtain ⟨-, rfl⟩ := h
    exact kq_fail h0
  · obtain ⟨-, rfl⟩ := h
    exact kq_rf
theorem kX12_need  {a1 : Int32} {n sl : Nat} {SH : Nat → Nat × Nat} {FI : Nat → Nat → Int32} {FL : Nat → Nat → Int64} {FR : Nat → Nat → Option Nat}  {v : Unit} {s : hS} (h : RX12_need  a1 n sl SH FI FL FR v s) : kq mX12_need (n, sl, SH, FI, FL, FR) s := by
  rcases h with ⟨-, h⟩ | ⟨-, h⟩
  · skip
    rcases h with ⟨-, h⟩ | ⟨-, h⟩
    · skip
      obtain ⟨v3, n3, sl3, SH3, FI3, FL3, FR3, hc, h⟩ := h
      have q1 : kq mX12_need (n, sl, SH, FI, FL, FR) (n3, sl3, SH3, FI3, FL3, FR3) := kq_tr kq_rf (kq_mono (kX12_fail hc) (by decide))
      clear hc
      obtain ⟨-, rfl⟩ := h
      exact q1
    · skip
      obtain ⟨-, rfl⟩ := h
      exact (kq_if kq_rf (by decide) (by decide))
  · skip
    obtain ⟨-, rfl⟩ := h
    exact kq_rf
theorem kX12_opens   {n sl : Nat} {SH : Nat → Nat × Nat} {FI : Nat → Nat → Int32} {FL : Nat → Nat → Int64} {FR : Nat → Nat → Option Nat}  {v : Unit} {s : hS} (h : RX12_opens   n sl SH FI FL FR v s) : kq mX12_opens (n, sl, SH, FI, FL, FR) s := by
  rcases h with ⟨-, h⟩ | ⟨-, h⟩
  · skip
    obtain ⟨v1, n1, sl1, SH1, FI1, FL1, FR1, hc, h⟩ := h
    have q1 : kq mX12_opens (n, sl, SH, FI, FL, FR) (n1, sl1, SH1, FI1, FL1, FR1) := kq_tr kq_rf (kq_mono (kX12_fail hc) (by decide))
    clear hc
    obtain ⟨-, rfl⟩ := h
    exact (kq_if (kq_if q1 (by decide) (by decide)) (by decide) (by decide))
  · skip
    obtain ⟨-, rfl⟩ := h
    exact (kq_if (kq_if kq_rf (by decide) (by decide)) (by decide) (by decide))
theorem kX12_emit  {a1 : Int32} {n sl : Nat} {SH : Nat → Nat × Nat} {FI : Nat → Nat → Int32} {FL : Nat → Nat → Int64} {FR : Nat → Nat → Option Nat}  {v : Unit} {s : hS} (h : RX12_emit  a1 n sl SH FI FL FR v s) : kq mX12_emit (n, sl, SH, FI, FL, FR) s := by
  rcases h with ⟨-, h⟩ | ⟨-, h⟩
  · skip
    replace h := h.2
    obtain ⟨-, rfl⟩ := h
    exact (kq_if (kq_ia kq_rf (by decide) (by decide)) (by decide) (by decide))
  · skip
    obtain ⟨-, rfl⟩ := h
    exact (kq_if kq_rf (by decide) (by decide))
theorem kBX12_emits_3 {K3 : Int32 → Nat → Nat → (Nat → Nat × Nat) → (Nat → Nat → Int32) → (Nat → Nat → Int64) → (Nat → Nat → Option Nat) → Unit → hS → Prop} {a1 : Int64} {a2 : Int32} {l4i : Int32} {n sl : Nat} {SH : Nat → Nat × Nat} {FI : Nat → Nat → Int32} {FL : Nat → Nat → Int64} {FR : Nat → Nat → Option Nat} (hK3 : ∀ x0 n sl SH FI FL FR v s, K3 x0 n sl SH FI FL FR v s → kq mBX12_emits_3 (n, sl, SH, FI, FL, FR) s) {v : Unit} {s : hS} (h : BX12_emits_3 K3 a1 a2 l4i n sl SH FI FL FR v s) : kq mBX12_emits_3 (n, sl, SH, FI, FL, FR) s := by
  rcases h with ⟨-, h⟩ | ⟨-, h⟩
  · skip
    obtain ⟨v1, n1, sl1, SH1, FI1, FL1, FR1, hc, h⟩ := h
    have q1 : kq mBX12_emits_3 (n, sl, SH, FI, FL, FR) (n1, sl1, SH1, FI1, FL1, FR1) := kq_tr kq_rf (kq_mono (kX12_emit hc) (by decide))
    clear hc
    exact kq_tr q1 (kq_mono (hK3 _ _ _ _ _ _ _ _ _ h) (by decide))
  · skip
    obtain ⟨-, rfl⟩ := h
    exact kq_rf
theorem kGX12_emits_3  {a1 : Int64} {a2 : Int32}  : ∀ g x0 n sl SH FI FL FR v s, GX12_emits_3  a1 a2 g x0 n sl SH FI FL FR v s → kq mGX12_emits_3 (n, sl, SH, FI, FL, FR) s := by
  intro g
  induction g with
  | zero => intro x0 n sl SH FI FL FR v s h; exact h.elim
  | succ g ih => intro x0 n sl SH FI FL FR v s h; exact kBX12_emits_3 ih h
theorem kX12_emits_3  {a1 : Int64} {a2 : Int32} {l4i : Int32} {n sl : Nat} {SH : Nat → Nat × Nat} {FI : Nat → Nat → Int32} {FL : Nat → Nat → Int64} {FR : Nat → Nat → Option Nat}  {v : Unit} {s : hS} (h : RX12_emits_3  a1 a2 l4i n sl SH FI FL FR v s) : kq mX12_emits_3 (n, sl, SH, FI, FL, FR) s := by
  obtain ⟨g, h⟩ := h
  exact kGX12_emits_3  g _ _ _ _ _ _ _ _ _ h
theorem kX12_emits  {a1 : Int64} {a2 : Int32} {n sl : Nat} {SH : Nat → Nat × Nat} {FI : Nat → Nat → Int32} {FL : Nat → Nat → Int64} {FR : Nat → Nat → Option Nat}  {v : Unit} {s : hS} (h : RX12_emits  a1 a2 n sl SH FI FL FR v s) : kq mX12_emits (n, sl, SH, FI, FL, FR) s := by
  exact kq_tr kq_rf (kq_mono (kX12_emits_3  h) (by decide))
theorem kBX12_unsigned_2 {K2 : Int64 → Nat → Nat → (Nat → Nat × Nat) → (Nat → Nat → Int32) → (Nat → Nat → Int64) → (Nat → Nat → Option Nat) → Unit → hS → Prop} {a1 : Int64} {l3l : Int64} {n sl : Nat} {SH : Nat → Nat × Nat} {FI : Nat → Nat → Int32} {FL : Nat → Nat → Int64} {FR : Nat → Nat → Option Nat} (hK2 : ∀ x0 n sl SH FI FL FR v s, K2 x0 n sl SH FI FL FR v s → kq mBX12_unsigned_2 (n, sl, SH, FI, FL, FR) s) {v : Unit} {s : hS} (h : BX12_unsigned_2 K2 a1 l3l n sl SH FI FL FR v s) : kq mBX12_unsigned_2 (n, sl, SH, FI, FL, FR) s := by
  rcases h with ⟨-, h⟩ | ⟨-, h⟩
  · skip
    obtain ⟨v1, n1, sl1, SH1, FI1, FL1, FR1, hc, h⟩ := h
    have q1 : kq mBX12_unsigned_2 (n, sl, SH, FI, FL, FR) (n1, sl1, SH1, FI1, FL1, FR1) := kq_tr kq_rf (kq_mono (kX12_emit hc) (by decide))
    clear hc
    exact kq_tr q1 (kq_mono (hK2 _ _ _ _ _ _ _ _ _ h) (by decide))
  · skip
    obtain ⟨v2, n2, sl2, SH2, FI2, FL2, FR2, hc, h⟩ := h
    have q2 : kq mBX12_unsigned_2 (n, sl, SH, FI, FL, FR) (n2, sl2, SH2, FI2, FL2, FR2) := kq_tr kq_rf (kq_mono (kX12_emit hc) (by decide))
    clear hc
    obtain ⟨-, rfl⟩ := h
    exact q2
theorem kGX12_unsigned_2  {a1 : Int64}  : ∀ g x0 n sl SH FI FL FR v s, GX12_unsigned_2  a1 g x0 n sl SH FI FL FR v s → kq mGX12_unsigned_2 (n, sl, SH, FI, FL, FR) s := by
  intro g
  induction g with
  | zero => intro x0 n sl SH FI FL FR v s h; exact h.elim
  | succ g ih => intro x0 n sl SH FI FL FR v s h; exact kBX12_unsigned_2 ih h
theorem kX12_unsigned_2  {a1 : Int64} {l3l : Int64} {n sl : Nat} {SH : Nat → Nat × Nat} {FI : Nat → Nat → Int32} {FL : Nat → Nat → Int64} {FR : Nat → Nat → Option Nat}  {v : Unit} {s : hS} (h : RX12_unsigned_2  a1 l3l n sl SH FI FL FR v s) : kq mX12_unsigned_2 (n, sl, SH, FI, FL, FR) s := by
  obtain ⟨g, h⟩ := h
  exact kGX12_unsigned_2  g _ _ _ _ _ _ _ _ _ h
theorem kX12_unsigned  {a1 : Int64} {n sl : Nat} {SH : Nat → Nat × Nat} {FI : Nat → Nat → Int32} {FL : Nat → Nat → Int64} {FR : Nat → Nat → Option Nat}  {v : Unit} {s : hS} (h : RX12_unsigned  a1 n sl SH FI FL FR v s) : kq mX12_unsigned (n, sl, SH, FI, FL, FR) s := by
  exact kq_tr kq_rf (kq_mono (kX12_unsigned_2  h) (by decide))
theorem kX12_signed_18 {K2 : Int64 → Nat → Nat → (Nat → Nat × Nat) → (Nat → Nat → Int32) → (Nat → Nat → Int64) → (Nat → Nat → Option Nat) → Unit → hS → Prop} {a1 : Int64} {l3l : Int64} {n sl : Nat} {SH : Nat → Nat × Nat} {FI : Nat → Nat → Int32} {FL : Nat → Nat → Int64} {FR : Nat → Nat → Option Nat} (hK2 : ∀ x0 n sl SH FI FL FR v s, K2 x0 n sl SH FI FL FR v s → kq mBX12_signed_2 (n, sl, SH, FI, FL, FR) s) {v : Unit} {s : hS} (h : RX12_signed_18 K2 a1 l3l n sl SH FI FL FR v s) : kq mX12_signed_18 (n, sl, SH, FI, FL, FR) s := by
  obtain ⟨v0, n0, sl0, SH0, FI0, FL0, FR0, hc, h⟩ := h
  have q1 : kq mX12_signed_18 (n, sl, SH, FI, FL, FR) (n0, sl0, SH0, FI0, FL0, FR0) := kq_tr kq_rf (kq_mono (kX12_emit hc) (by decide))
  clear hc
  exact kq_tr q1 (kq_mono (hK2 _ _ _ _ _ _ _ _ _ h) (by decide))
theorem kBX12_signed_2 {K2 : Int64 → Nat → Nat → (Nat → Nat × Nat) → (Nat → Nat → Int32) → (Nat → Nat → Int64) → (Nat → Nat → Option Nat) → Unit → hS → Prop} {a1 : Int64} {l3l : Int64} {n sl : Nat} {SH : Nat → Nat × Nat} {FI : Nat → Nat → Int32} {FL : Nat → Nat → Int64} {FR : Nat → Nat → Option Nat} (hK2 : ∀ x0 n sl SH FI FL FR v s, K2 x0 n sl SH FI FL FR v s → kq mBX12_signed_2 (n, sl, SH, FI, FL, FR) s) {v : Unit} {s : hS} (h : BX12_signed_2 K2 a1 l3l n sl SH FI FL FR v s) : kq mBX12_signed_2 (n, sl, SH, FI, FL, FR) s := by
  rcases h with ⟨-, h⟩ | ⟨-, h⟩
  · skip
    exact kq_tr kq_rf (kq_mono (kX12_signed_18 hK2 h) (by decide))
  · skip
    rcases h with ⟨-, h⟩ | ⟨-, h⟩
    · skip
      exact kq_tr kq_rf (kq_mono (kX12_signed_18 hK2 h) (by decide))
    · skip
      obtain ⟨v2, n2, sl2, SH2, FI2, FL2, FR2, hc, h⟩ := h
      have q1 : kq mBX12_signed_2 (n, sl, SH, FI, FL, FR) (n2, sl2, SH2, FI2, FL2, FR2) := kq_tr kq_rf (kq_mono (kX12_emit hc) (by decide))
      clear hc
      obtain ⟨-, rfl⟩ := h
      exact q1
theorem kGX12_signed_2  {a1 : Int64}  : ∀ g x0 n sl SH FI FL FR v s, GX12_signed_2  a1 g x0 n sl SH FI FL FR v s → kq mGX12_signed_2 (n, sl, SH, FI, FL, FR) s := by
  intro g
  induction g with
  | zero => intro x0 n sl SH FI FL FR v s h; exact h.elim
  | succ g ih => intro x0 n sl SH FI FL FR v s h; exact kBX12_signed_2 ih h
theorem kX12_signed_2  {a1 : Int64} {l3l : Int64} {n sl : Nat} {SH : Nat → Nat × Nat} {FI : Nat → Nat → Int32} {FL : Nat → Nat → Int64} {FR : Nat → Nat → Option Nat}  {v : Unit} {s : hS} (h : RX12_signed_2  a1 l3l n sl SH FI FL FR v s) : kq mX12_signed_2 (n, sl, SH, FI, FL, FR) s := by
  obtain ⟨g, h⟩ := h
  exact kGX12_signed_2  g _ _ _ _ _ _ _ _ _ h
theorem kX12_signed  {a1 : Int64} {n sl : Nat} {SH : Nat → Nat × Nat} {FI : Nat → Nat → Int32} {FL : Nat → Nat → Int64} {FR : Nat → Nat → Option Nat}  {v : Unit} {s : hS} (h : RX12_signed  a1 n sl SH FI FL FR v s) : kq mX12_signed (n, sl, SH, FI, FL, FR) s := by
  exact kq_tr kq_rf (kq_mono (kX12_signed_2  h) (by decide))
theorem kX12_push  {a1 : Int64} {n sl : Nat} {SH : Nat → Nat × Nat} {FI : Nat → Nat → Int32} {FL : Nat → Nat → Int64} {FR : Nat → Nat → Option Nat}  {v : Unit} {s : hS} (h : RX12_push  a1 n sl SH FI FL FR v s) : kq mX12_push (n, sl, SH, FI, FL, FR) s := by
  rcases h with ⟨-, h⟩ | ⟨-, h⟩
  · skip
    rcases h with ⟨-, h⟩ | ⟨-, h⟩
    · skip
      rcases h with ⟨-, h⟩ | ⟨-, h⟩
      · skip
        rcases h with ⟨-, h⟩ | ⟨-, h⟩
        · skip
          obtain ⟨v4, n4, sl4, SH4, FI4, FL4, FR4, hc, h⟩ := h
          have q1 : kq mX12_push (n, sl, SH, FI, FL, FR) (n4, sl4, SH4, FI4, FL4, FR4) := kq_tr kq_rf (kq_mono (kX12_emit hc) (by decide))
          clear hc
          obtain ⟨v5, n5, sl5, SH5, FI5, FL5, FR5, hc, h⟩ := h
          have q2 : kq mX12_push (n, sl, SH, FI, FL, FR) (n5, sl5, SH5, FI5, FL5, FR5) := kq_tr q1 (kq_mono (kX12_emits hc) (by decide))
          clear hc
          obtain ⟨-, rfl⟩ := h
          exact q2
        · skip
          obtain ⟨v6, n6, sl6, SH6, FI6, FL6, FR6, hc, h⟩ := h
          have q3 : kq mX12_push (n, sl, SH, FI, FL, FR) (n6, sl6, SH6, FI6, FL6, FR6) := kq_tr kq_rf (kq_mono (kX12_emit hc) (by decide))
          clear hc
          obtain ⟨v7, n7, sl7, SH7, FI7, FL7, FR7, hc, h⟩ := h
          have q4 : kq mX12_push (n, sl, SH, FI, FL, FR) (n7, sl7, SH7, FI7, FL7, FR7) := kq_tr q3 (kq_mono (kX12_emits hc) (by decide))
          clear hc
          obtain ⟨-, rfl⟩ := h
          exact q4
      · skip
        obtain ⟨v8, n8, sl8, SH8, FI8, FL8, FR8, hc, h⟩ := h
        have q5 : kq mX12_push (n, sl, SH, FI, FL, FR) (n8, sl8, SH8, FI8, FL8, FR8) := kq_tr kq_rf (kq_mono (kX12_emit hc) (by decide))
        clear hc
        obtain ⟨v9, n9, sl9, SH9, FI9, FL9, FR9, hc, h⟩ := h
        have q6 : kq mX12_push (n, sl, SH, FI, FL, FR) (n9, sl9, SH9, FI9, FL9, FR9) := kq_tr q5 (kq_mono (kX12_emits hc) (by decide))
        clear hc
        obtain ⟨-, rfl⟩ := h
        exact q6
    · skip
      obtain ⟨v10, n10, sl10, SH10, FI10, FL10, FR10, hc, h⟩ := h
      have q7 : kq mX12_push (n, sl, SH, FI, FL, FR) (n10, sl10, SH10, FI10, FL10, FR10) := kq_tr kq_rf (kq_mono (kX12_emit hc) (by decide))
      clear hc
      obtain ⟨v11, n11, sl11, SH11, FI11, FL11, FR11, hc, h⟩ := h
      have q8 : kq mX12_push (n, sl, SH, FI, FL, FR) (n11, sl11, SH11, FI11, FL11, FR11) := kq_tr q7 (kq_mono (kX12_emits hc) (by decide))
      clear hc
      obtain ⟨-, rfl⟩ := h
      exact q8
  · skip
    obtain ⟨v12, n12, sl12, SH12, FI12, FL12, FR12, hc, h⟩ := h
    have q9 : kq mX12_push (n, sl, SH, FI, FL, FR) (n12, sl12, SH12, FI12, FL12, FR12) := kq_tr kq_rf (kq_mono (kX12_emit hc) (by decide))
    clear hc
    obtain ⟨-, rfl⟩ := h
    exact q9
theorem kX12_later  {a1 : Int32} {a2 : Int32} {n sl : Nat} {SH : Nat → Nat × Nat} {FI : Nat → Nat → Int32} {FL : Nat → Nat → Int64} {FR : Nat → Nat → Option Nat}  {v : Unit} {s : hS} (h : RX12_later  a1 a2 n sl SH FI FL FR v s) : kq mX12_later (n, sl, SH, FI, FL, FR) s := by
  replace h := h.2
  replace h := h.2
  obtain ⟨-, rfl⟩ := h
  exact (kq_if (kq_ia (kq_ia kq_rf (by decide) (by decide)) (by decide) (by decide)) (by decide) (by decide))
theorem kX12_emitted  {a1 : Int32} {n sl : Nat} {SH : Nat → Nat × Nat} {FI : Nat → Nat → Int32} {FL : Nat → Nat → Int64} {FR : Nat → Nat → Option Nat}  {v : Unit} {s : hS} (h : RX12_emitted  a1 n sl SH FI FL FR v s) : kq mX12_emitted (n, sl, SH, FI, FL, FR) s := by
  rcases h with ⟨-, h⟩ | ⟨-, h⟩
  · skip
    obtain ⟨v1, n1, sl1, SH1, FI1, FL1, FR1, hc, h⟩ := h
    have q1 : kq mX12_emitted (n, sl, SH, FI, FL, FR) (n1, sl1, SH1, FI1, FL1, FR1) := kq_tr kq_rf (kq_mono (kX12_emit hc) (by decide))
    clear hc
    obtain ⟨-, rfl⟩ := h
    exact q1
  · skip
    obtain ⟨v2, n2, sl2, SH2, FI2, FL2, FR2, hc, h⟩ := h
    have q2 : kq mX12_emitted (n, sl, SH, FI, FL, FR) (n2, sl2, SH2, FI2, FL2, FR2) := kq_tr kq_rf (kq_mono (kX12_emit hc) (by decide))
    clear hc
    obtain ⟨v3, n3, sl3, SH3, FI3, FL3, FR3, hc, h⟩ := h
    have q3 : kq mX12_emitted (n, sl, SH, FI, FL, FR) (n3, sl3, SH3, FI3, FL3, FR3) := kq_tr q2 (kq_mono (kX12_emit hc) (by decide))
    clear hc
    obtain ⟨-, rfl⟩ := h
    exact q3
theorem kBX12_finished_0 {K0 : Nat → Nat → (Nat → Nat × Nat) → (Nat → Nat → Int32) → (Nat → Nat → Int64) → (Nat → Nat → Option Nat) → Unit → hS → Prop}  {n sl : Nat} {SH : Nat → Nat × Nat} {FI : Nat → Nat → Int32} {FL : Nat → Nat → Int64} {FR : Nat → Nat → Option Nat} (hK0 : ∀  n sl SH FI FL FR v s, K0  n sl SH FI FL FR v s → kq mBX12_finished_0 (n, sl, SH, FI, FL, FR) s) {v : Unit} {s : hS} (h : BX12_finished_0 K0  n sl SH FI FL FR v s) : kq mBX12_finished_0 (n, sl, SH, FI, FL, FR) s := by
  rcases h with ⟨-, h⟩ | ⟨-, h⟩
  · skip
    replace h := h.2
    obtain ⟨v4, n4, sl4, SH4, FI4, FL4, FR4, hc, h⟩ := h
    have q1 : kq mBX12_finished_0 (n, sl, SH, FI, FL, FR) (n4, sl4, SH4, FI4, FL4, FR4) := kq_tr (kq_if (kq_if kq_rf (by decide) (by decide)) (by decide) (by decide)) (kq_mono (kX12_emitted hc) (by decide))
    clear hc
    exact kq_tr q1 (kq_mono (hK0 _ _ _ _ _ _ _ _ h) (by decide))
  · skip
    obtain ⟨-, rfl⟩ := h
    exact kq_rf
theorem kGX12_finished_0    : ∀ g  n sl SH FI FL FR v s, GX12_finished_0   g  n sl SH FI FL FR v s → kq mGX12_finished_0 (n, sl, SH, FI, FL, FR) s := by
  intro g
  induction g with
  | zero => intro  n sl SH FI FL FR v s h; exact h.elim
  | succ g ih => intro  n sl SH FI FL FR v s h; exact kBX12_finished_0 ih h
theorem kX12_finished_0   {n sl : Nat} {SH : Nat → Nat × Nat} {FI : Nat → Nat → Int32} {FL : Nat → Nat → Int64} {FR : Nat → Nat → Option Nat}  {v : Unit} {s : hS} (h : RX12_finished_0   n sl SH FI FL FR v s) : kq mX12_finished_0 (n, sl, SH, FI, FL, FR) s := by
  obtain ⟨g, h⟩ := h
  exact kGX12_finished_0  g  _ _ _ _ _ _ _ _ h
theorem kX12_finished   {n sl : Nat} {SH : Nat → Nat × Nat} {FI : Nat → Nat → Int32} {FL : Nat → Nat → Int64} {FR : Nat → Nat → Option Nat}  {v : Unit} {s : hS} (h : RX12_finished   n sl SH FI FL FR v s) : kq mX12_finished (n, sl, SH, FI, FL, FR) s := by
  exact kq_tr kq_rf (kq_mono (kX12_finished_0  h) (by decide))
theorem kBX12_reduced_0 {K0 : Nat → Nat → (Nat → Nat × Nat) → (Nat → Nat → Int32) → (Nat → Nat → Int64) → (Nat → Nat → Option Nat) → Unit → hS → Prop} {a1 : Int32} {n sl : Nat} {SH : Nat → Nat × Nat} {FI : Nat → Nat → Int32} {FL : Nat → Nat → Int64} {FR : Nat → Nat → Option Nat} (hK0 : ∀  n sl SH FI FL FR v s, K0  n sl SH FI FL FR v s → kq mBX12_reduced_0 (n, sl, SH, FI, FL, FR) s) {v : Unit} {s : hS} (h : BX12_reduced_0 K0 a1 n sl SH FI FL FR v s) : kq mBX12_reduced_0 (n, sl, SH, FI, FL, FR) s := by
  rcases h with ⟨-, h⟩ | ⟨-, h⟩
  · skip
    obtain ⟨-, rfl⟩ := h
    exact kq_rf
  · skip
    replace h := h.2
    obtain ⟨v3, n3, sl3, SH3, FI3, FL3, FR3, hc, h⟩ := h
    have q1 : kq mBX12_reduced_0 (n, sl, SH, FI, FL, FR) (n3, sl3, SH3, FI3, FL3, FR3) := kq_tr (kq_if kq_rf (by decide) (by decide)) (kq_mono (kX12_emit hc) (by decide))
    clear hc
    exact kq_tr q1 (kq_mono (hK0 _ _ _ _ _ _ _ _ h) (by decide))
theorem kGX12_reduced_0  {a1 : Int32}  : ∀ g  n sl SH FI FL FR v s, GX12_reduced_0  a1 g  n sl SH FI FL FR v s → kq mGX12_reduced_0 (n, sl, SH, FI, FL, FR) s := by
  intro g
  induction g with
  | zero => intro  n sl SH FI FL FR v s h; exact h.elim
  | succ g ih => intro  n sl SH FI FL FR v s h; exact kBX12_reduced_0 ih h
theorem kX12_reduced_0  {a1 : Int32} {n sl : Nat} {SH : Nat → Nat × Nat} {FI : Nat → Nat → Int32} {FL : Nat → Nat → Int64} {FR : Nat → Nat → Option Nat}  {v : Unit} {s : hS} (h : RX12_reduced_0  a1 n sl SH FI FL FR v s) : kq mX12_reduced_0 (n, sl, SH, FI, FL, FR) s := by
  obtain ⟨g, h⟩ := h
  exact kGX12_reduced_0  g  _ _ _ _ _ _ _ _ h
theorem kX12_reduced  {a1 : Int32} {n sl : Nat} {SH : Nat → Nat × Nat} {FI : Nat → Nat → Int32} {FL : Nat → Nat → Int64} {FR : Nat → Nat → Option Nat}  {v : Unit} {s : hS} (h : RX12_reduced  a1 n sl SH FI FL FR v s) : kq mX12_reduced (n, sl, SH, FI, FL, FR) s := by
  exact kq_tr kq_rf (kq_mono (kX12_reduced_0  h) (by decide))
theorem kBX12_turned_191 {K191 : Int32 → Int32 → Int32 → Int32 → Int32 → Nat → Nat → (Nat → Nat × Nat) → (Nat → Nat → Int32) → (Nat → Nat → Int64) → (Nat → Nat → Option Nat) → Unit → hS → Prop} {l1i : Int32} {l3i : Int32} {l4i : Int32} {l5i : Int32} {l6i : Int32} {n sl : Nat} {SH : Nat → Nat × Nat} {FI : Nat → Nat → Int32} {FL : Nat → Nat → Int64} {FR : Nat → Nat → Option Nat} (hK191 : ∀ x0 x1 x2 x3 x4 n sl SH FI FL FR v s, K191 x0 x1 x2 x3 x4 n sl SH FI FL FR v s → kq mBX12_turned_191 (n, sl, SH, FI, FL, FR) s) {v : Unit} {s : hS} (h : BX12_turned_191 K191 l1i l3i l4i l5i l6i n sl SH FI FL FR v s) : kq mBX12_turned_191 (n, sl, SH, FI, FL, FR) s := by
  rcases h with ⟨-, h⟩ | ⟨-, h⟩
  · skip
    replace h := h.2
    replace h := h.2
    exact kq_tr (kq_ia kq_rf (by decide) (by decide)) (kq_mono (hK191 _ _ _ _ _ _ _ _ _ _ _ _ _ h) (by decide))
  · skip
    replace h := h.2
    replace h := h.2
    obtain ⟨-, rfl⟩ := h
    exact (kq_ia (kq_ia kq_rf (by decide) (by decide)) (by decide) (by decide))
theorem kGX12_turned_191    : ∀ g x0 x1 x2 x3 x4 n sl SH FI FL FR v s, GX12_turned_191   g x0 x1 x2 x3 x4 n sl SH FI FL FR v s → kq mGX12_turned_191 (n, sl, SH, FI, FL, FR) s := by
  intro g
  induction g with
  | zero => intro x0 x1 x2 x3 x4 n sl SH FI FL FR v s h; exact h.elim
  | succ g ih => intro x0 x1 x2 x3 x4 n sl SH FI FL FR v s h; exact kBX12_turned_191 ih h
theorem kX12_turned_191  {l1i : Int32} {l3i : Int32} {l4i : Int32} {l5i : Int32} {l6i : Int32} {n sl : Nat} {SH : Nat → Nat × Nat} {FI : Nat → Nat → Int32} {FL : Nat → Nat → Int64} {FR : Nat → Nat → Option Nat}  {v : Unit} {s : hS} (h : RX12_turned_191  l1i l3i l4i l5i l6i n sl SH FI FL FR v s) : kq mX12_turned_191 (n, sl, SH, FI, FL, FR) s := by
  obtain ⟨g, h⟩ := h
  exact kGX12_turned_191  g _ _ _ _ _ _ _ _ _ _ _ _ _ h
theorem kBX12_turned_107 {K107 : Int32 → Int32 → Int32 → Int32 → Int32 → Nat → Nat → (Nat → Nat × Nat) → (Nat → Nat → Int32) → (Nat → Nat → Int64) → (Nat → Nat → Option Nat) → Unit → hS → Prop} {l1i : Int32} {l2i : Int32} {l3i : Int32} {l4i : Int32} {l5i : Int32} {n sl : Nat} {SH : Nat → Nat × Nat} {FI : Nat → Nat → Int32} {FL : Nat → Nat → Int64} {FR : Nat → Nat → Option Nat} (hK107 : ∀ x0 x1 x2 x3 x4 n sl SH FI FL FR v s, K107 x0 x1 x2 x3 x4 n sl SH FI FL FR v s → kq mBX12_turned_107 (n, sl, SH, FI, FL, FR) s) {v : Unit} {s : hS} (h : BX12_turned_107 K107 l1i l2i l3i l4i l5i n sl SH FI FL FR v s) : kq mBX12_turned_107 (n, sl, SH, FI, FL, FR) s := by
  rcases h with ⟨-, h⟩ | ⟨-, h⟩
  · skip
    replace h := h.2
    replace h := h.2
    exact kq_tr (kq_ia kq_rf (by decide) (by decide)) (kq_mono (hK107 _ _ _ _ _ _ _ _ _ _ _ _ _ h) (by decide))
  · skip
    replace h := h.2
    replace h := h.2
    replace h := h.2
    exact kq_tr (kq_ia (kq_ia (kq_ia kq_rf (by decide) (by decide)) (by decide) (by decide)) (by decide) (by decide)) (kq_mono (kX12_turned_191  h) (by decide))
theorem kGX12_turned_107    : ∀ g x0 x1 x2 x3 x4 n sl SH FI FL FR v s, GX12_turned_107   g x0 x1 x2 x3 x4 n sl SH FI FL FR v s → kq mGX12_turned_107 (n, sl, SH, FI, FL, FR) s := by
  intro g
  induction g with
  | zero => intro x0 x1 x2 x3 x4 n sl SH FI FL FR v s h; exact h.elim
  | succ g ih => intro x0 x1 x2 x3 x4 n sl SH FI FL FR v s h; exact kBX12_turned_107 ih h
theorem kX12_turned_107  {l1i : Int32} {l2i : Int32} {l3i : Int32} {l4i : Int32} {l5i : Int32} {n sl : Nat} {SH : Nat → Nat × Nat} {FI : Nat → Nat → Int32} {FL : Nat → Nat → Int64} {FR : Nat → Nat → Option Nat}  {v : Unit} {s : hS} (h : RX12_turned_107  l1i l2i l3i l4i l5i n sl SH FI FL FR v s) : kq mX12_turned_107 (n, sl, SH, FI, FL, FR) s := by
  obtain ⟨g, h⟩ := h
  exact kGX12_turned_107  g _ _ _ _ _ _ _ _ _ _ _ _ _ h
theorem kBX12_turned_74 {K74 : Int32 → Int32 → Int32 → Int32 → Int32 → Nat → Nat → (Nat → Nat × Nat) → (Nat → Nat → Int32) → (Nat → Nat → Int64) → (Nat → Nat → Option Nat) → Unit → hS → Prop} {l1i : Int32} {l2i : Int32} {l3i : Int32} {l4i : Int32} {l5i : Int32} {n sl : Nat} {SH : Nat → Nat × Nat} {FI : Nat → Nat → Int32} {FL : Nat → Nat → Int64} {FR : Nat → Nat → Option Nat} (hK74 : ∀ x0 x1 x2 x3 x4 n sl SH FI FL FR v s, K74 x0 x1 x2 x3 x4 n sl SH FI FL FR v s → kq mBX12_turned_74 (n, sl, SH, FI, FL, FR) s) {v : Unit} {s : hS} (h : BX12_turned_74 K74 l1i l2i l3i l4i l5i n sl SH FI FL FR v s) : kq mBX12_turned_74 (n, sl, SH, FI, FL, FR) s := by
  rcases h with ⟨-, h⟩ | ⟨-, h⟩
  · skip
    replace h := h.2
    replace h := h.2
    exact kq_tr (kq_ia kq_rf (by decide) (by decide)) (kq_mono (hK74 _ _ _ _ _ _ _ _ _ _ _ _ _ h) (by decide))
  · skip
    exact kq_tr kq_rf (kq_mono (kX12_turned_107  h) (by decide))
theorem kGX12_turned_74    : ∀ g x0 x1 x2 x3 x4 n sl SH FI FL FR v s, GX12_turned_74   g x0 x1 x2 x3 x4 n sl SH FI FL FR v s → kq mGX12_turned_74 (n, sl, SH, FI, FL, FR) s := by
  intro g
  induction g with
  | zero => intro x0 x1 x2 x3 x4 n sl SH FI FL FR v s h; exact h.elim
  | succ g ih => intro x0 x1 x2 x3 x4 n sl SH FI FL FR v s h; exact kBX12_turned_74 ih h
theorem kX12_turned_74  {l1i : Int32} {l2i : Int32} {l3i : Int32} {l4i : Int32} {l5i : Int32} {n sl : Nat} {SH : Nat → Nat × Nat} {FI : Nat → Nat → Int32} {FL : Nat → Nat → Int64} {FR : Nat → Nat → Option Nat}  {v : Unit} {s : hS} (h : RX12_turned_74  l1i l2i l3i l4i l5i n sl SH FI FL FR v s) : kq mX12_turned_74 (n, sl, SH, FI, FL, FR) s := by
  obtain ⟨g, h⟩ := h
  exact kGX12_turned_74  g _ _ _ _ _ _ _ _ _ _ _ _ _ h
theorem kX12_turned   {n sl : Nat} {SH : Nat → Nat × Nat} {FI : Nat → Nat → Int32} {FL : Nat → Nat → Int64} {FR : Nat → Nat → Option Nat}  {v : Unit} {s : hS} (h : RX12_turned   n sl SH FI FL FR v s) : kq mX12_turned (n, sl, SH, FI, FL, FR) s := by
  replace h := h.2
  replace h := h.2
  obtain ⟨v2, n2, sl2, SH2, FI2, FL2, FR2, hc, h⟩ := h
  have q1 : kq mX12_turned (n, sl, SH, FI, FL, FR) (n2, sl2, SH2, FI2, FL2, FR2) := kq_tr (kq_if (kq_if kq_rf (by decide) (by decide)) (by decide) (by decide)) (kq_mono (kX12_emits hc) (by decide))
  clear hc
  rcases h with ⟨-, h⟩ | ⟨-, h⟩
  · skip
    obtain ⟨-, rfl⟩ := h
    exact q1
  · skip
    exact kq_tr q1 (kq_mono (kX12_turned_74  h) (by decide))
theorem kBX12_reducedAll_5 {K5 : Nat → Nat → (Nat → Nat × Nat) → (Nat → Nat → Int32) → (Nat → Nat → Int64) → (Nat → Nat → Option Nat) → Unit → hS → Prop}  {n sl : Nat} {SH : Nat → Nat × Nat} {FI : Nat → Nat → Int32} {FL : Nat → Nat → Int64} {FR : Nat → Nat → Option Nat} (hK5 : ∀  n sl SH FI FL FR v s, K5  n sl SH FI FL FR v s → kq mBX12_reducedAll_5 (n, sl, SH, FI, FL, FR) s) {v : Unit} {s : hS} (h : BX12_reducedAll_5 K5  n sl SH FI FL FR v s) : kq mBX12_reducedAll_5 (n, sl, SH, FI, FL, FR) s := by
  rcases h with ⟨-, h⟩ | ⟨-, h⟩
  · skip
    obtain ⟨v2, n2, sl2, SH2, FI2, FL2, FR2, hc, h⟩ := h
    have q1 : kq mBX12_reducedAll_5 (n, sl, SH, FI, FL, FR) (n2, sl2, SH2, FI2, FL2, FR2) := kq_tr kq_rf (kq_mono (kX12_turned hc) (by decide))
    clear hc
    obtain ⟨v3, n3, sl3, SH3, FI3, FL3, FR3, hc, h⟩ := h
    have q2 : kq mBX12_reducedAll_5 (n, sl, SH, FI, FL, FR) (n3, sl3, SH3, FI3, FL3, FR3) := kq_tr q1 (kq_mono (kX12_reduced hc) (by decide))
    clear hc
    exact kq_tr q2 (kq_mono (hK5 _ _ _ _ _ _ _ _ h) (by decide))
  · skip
    obtain ⟨-, rfl⟩ := h
    exact kq_rf
theorem kGX12_reducedAll_5    : ∀ g  n sl SH FI FL FR v s, GX12_reducedAll_5   g  n sl SH FI FL FR v s → kq mGX12_reducedAll_5 (n, sl, SH, FI, FL, FR) s := by
  intro g
  induction g with
  | zero => intro  n sl SH FI FL FR v s h; exact h.elim
  | succ g ih => intro  n sl SH FI FL FR v s h; exact kBX12_reducedAll_5 ih h
theorem kX12_reducedAll_5   {n sl : Nat} {SH : Nat → Nat × Nat} {FI : Nat → Nat → Int32} {FL : Nat → Nat → Int64} {FR : Nat → Nat → Option Nat}  {v : Unit} {s : hS} (h : RX12_reducedAll_5   n sl SH FI FL FR v s) : kq mX12_reducedAll_5 (n, sl, SH, FI, FL, FR) s := by
  obtain ⟨g, h⟩ := h
  exact kGX12_reducedAll_5  g  _ _ _ _ _ _ _ _ h
theorem kX12_reducedAll   {n sl : Nat} {SH : Nat → Nat × Nat} {FI : Nat → Nat → Int32} {FL : Nat → Nat → Int64} {FR : Nat → Nat → Option Nat}  {v : Unit} {s : hS} (h : RX12_reducedAll   n sl SH FI FL FR v s) : kq mX12_reducedAll (n, sl, SH, FI, FL, FR) s := by
  obtain ⟨v0, n0, sl0, SH0, FI0, FL0, FR0, hc, h⟩ := h
  have q1 : kq mX12_reducedAll (n, sl, SH, FI, FL, FR) (n0, sl0, SH0, FI0, FL0, FR0) := kq_tr kq_rf (kq_mono (kX12_reduced hc) (by decide))
  clear hc
  exact kq_tr q1 (kq_mono (kX12_reducedAll_5  h) (by decide))
theorem kX12_binary  {a1 : Int32} {a2 : Int32} {n sl : Nat} {SH : Nat → Nat × Nat} {FI : Nat → Nat → Int32} {FL : Nat → Nat → Int64} {FR : Nat → Nat → Option Nat}  {v : Int32} {s : hS} (h : RX12_binary  a1 a2 n sl SH FI FL FR v s) : kq mX12_binary (n, sl, SH, FI, FL, FR) s := by
  obtain ⟨v0, n0, sl0, SH0, FI0, FL0, FR0, hc, h⟩ := h
  have q1 : kq mX12_binary (n, sl, SH, FI, FL, FR) (n0, sl0, SH0, FI0, FL0, FR0) := kq_tr kq_rf (kq_mono (kX12_reduced hc) (by decide))
  clear hc
  obtain ⟨v1, n1, sl1, SH1, FI1, FL1, FR1, hc, h⟩ := h
  have q2 : kq mX12_binary (n, sl, SH, FI, FL, FR) (n1, sl1, SH1, FI1, FL1, FR1) := kq_tr q1 (kq_mono (kX12_later hc) (by decide))
  clear hc
  obtain ⟨-, rfl⟩ := h
  exact (kq_if q2 (by decide) (by decide))
theorem kX12_added_75  {l1i : Int32} {n sl : Nat} {SH : Nat → Nat × Nat} {FI : Nat → Nat → Int32} {FL : Nat → Nat → Int64} {FR : Nat → Nat → Option Nat}  {v : Int32} {s : hS} (h : RX12_added_75  l1i n sl SH FI FL FR v s) : kq mX12_added_75 (n, sl, SH, FI, FL, FR) s := by
  rcases h with ⟨-, h⟩ | ⟨-, h⟩
  · skip
    obtain ⟨v1, n1, sl1, SH1, FI1, FL1, FR1, hc, h⟩ := h
    have q1 : kq mX12_added_75 (n, sl, SH, FI, FL, FR) (n1, sl1, SH1, FI1, FL1, FR1) := kq_tr kq_rf (kq_mono (kX12_later hc) (by decide))
    clear hc
    obtain ⟨-, rfl⟩ := h
    exact q1
  · skip
    obtain ⟨v2, n2, sl2, SH2, FI2, FL2, FR2, hc, h⟩ := h
    have q2 : kq mX12_added_75 (n, sl, SH, FI, FL, FR) (n2, sl2, SH2, FI2, FL2, FR2) := kq_tr kq_rf (kq_mono (kX12_later hc) (by decide))
    clear hc
    obtain ⟨-, rfl⟩ := h
    exact q2
theorem kX12_added   {n sl : Nat} {SH : Nat → Nat × Nat} {FI : Nat → Nat → Int32} {FL : Nat → Nat → Int64} {FR : Nat → Nat → Option Nat}  {v : Int32} {s : hS} (h : RX12_added   n sl SH FI FL FR v s) : kq mX12_added (n, sl, SH, FI, FL, FR) s := by
  obtain ⟨v1, n1, sl1, SH1, FI1, FL1, FR1, hc, h⟩ := h
  have q1 : kq mX12_added (n, sl, SH, FI, FL, FR) (n1, sl1, SH1, FI1, FL1, FR1) := kq_tr kq_rf (kq_mono (kX12_reduced hc) (by decide))
  clear hc
  rcases h with ⟨-, h⟩ | ⟨-, h⟩
  · skip
    exact kq_tr (kq_if q1 (by decide) (by decide)) (kq_mono (kX12_added_75  h) (by decide))
  · skip
    rcases h with ⟨-, h⟩ | ⟨-, h⟩
    · skip
      exact kq_tr (kq_if q1 (by decide) (by decide)) (kq_mono (kX12_added_75  h) (by decide))
    · skip
      obtain ⟨v6, n6, sl6, SH6, FI6, FL6, FR6, hc, h⟩ := h
      have q2 : kq mX12_added (n, sl, SH, FI, FL, FR) (n6, sl6, SH6, FI6, FL6, FR6) := kq_tr (kq_if q1 (by decide) (by decide)) (kq_mono (kX12_emit hc) (by decide))
      clear hc
      replace h := h.2
      obtain ⟨v7, n7, sl7, SH7, FI7, FL7, FR7, hc, h⟩ := h
      have q3 : kq mX12_added (n, sl, SH, FI, FL, FR) (n7, sl7, SH7, FI7, FL7, FR7) := kq_tr q2 (kq_mono (kX12_unsigned hc) (by decide))
      clear hc
      obtain ⟨-, rfl⟩ := h
      exact (kq_if (kq_if q3 (by decide) (by decide)) (by decide) (by decide))
theorem kX12_ended_120   {n sl : Nat} {SH : Nat → Nat × Nat} {FI : Nat → Nat → Int32} {FL : Nat → Nat → Int64} {FR : Nat → Nat → Option Nat}  {v : Int32} {s : hS} (h : RX12_ended_120   n sl SH FI FL FR v s) : kq mX12_ended_120 (n, sl, SH, FI, FL, FR) s := by
  rcases h with ⟨-, h⟩ | ⟨-, h⟩
  · skip
    obtain ⟨v1, n1, sl1, SH1, FI1, FL1, FR1, hc, h⟩ := h
    have q1 : kq mX12_ended_120 (n, sl, SH, FI, FL, FR) (n1, sl1, SH1, FI1, FL1, FR1) := kq_tr kq_rf (kq_mono (kX12_fail hc) (by decide))
    clear hc
    obtain ⟨-, rfl⟩ := h
    exact q1
  · skip
    obtain ⟨-, rfl⟩ := h
    exact kq_rf
theorem kX12_ended_62   {n sl : Nat} {SH : Nat → Nat × Nat} {FI : Nat → Nat → Int32} {FL : Nat → Nat → Int64} {FR : Nat → Nat → Option Nat}  {v : Int32} {s : hS} (h : RX12_ended_62   n sl SH FI FL FR v s) : kq mX12_ended_62 (n, sl, SH, FI, FL, FR) s := by
  rcases h with ⟨-, h⟩ | ⟨-, h⟩
  · skip
    exact kq_tr kq_rf (kq_mono (kX12_ended_120  h) (by decide))
  · skip
    rcases h with ⟨-, h⟩ | ⟨-, h⟩
    · skip
      obtain ⟨v7, n7, sl7, SH7, FI7, FL7, FR7, hc, h⟩ := h
      have q1 : kq mX12_ended_62 (n, sl, SH, FI, FL, FR) (n7, sl7, SH7, FI7, FL7, FR7) := kq_tr (kq_if (kq_if (kq_if kq_rf (by decide) (by decide)) (by decide) (by decide)) (by decide) (by decide)) (kq_mono (kX12_finished hc) (by decide))
      clear hc
      obtain ⟨-, rfl⟩ := h
      exact (kq_if q1 (by decide) (by decide))
    · skip
      exact kq_tr kq_rf (kq_mono (kX12_ended_120  h) (by decide))
theorem kX12_ended   {n sl : Nat} {SH : Nat → Nat × Nat} {FI : Nat → Nat → Int32} {FL : Nat → Nat → Int64} {FR : Nat → Nat → Option Nat}  {v : Int32} {s : hS} (h : RX12_ended   n sl SH FI FL FR v s) : kq mX12_ended (n, sl, SH, FI, FL, FR) s := by
  obtain ⟨v0, n0, sl0, SH0, FI0, FL0, FR0, hc, h⟩ := h
  have q1 : kq mX12_ended (n, sl, SH, FI, FL, FR) (n0, sl0, SH0, FI0, FL0, FR0) := kq_tr kq_rf (kq_mono (kX12_reducedAll hc) (by decide))
  clear hc
  rcases h with ⟨-, h⟩ | ⟨-, h⟩
  · skip
    exact kq_tr q1 (kq_mono (kX12_ended_62  h) (by decide))
  · skip
    rcases h with ⟨-, h⟩ | ⟨-, h⟩
    · skip
      replace h := h.2
      replace h := h.2
      obtain ⟨-, rfl⟩ := h
      exact (kq_if (kq_ia (kq_ia q1 (by decide) (by decide)) (by decide) (by decide)) (by decide) (by decide))
    · skip
      exact kq_tr q1 (kq_mono (kX12_ended_62  h) (by decide))
theorem kX12_combined_16  {a1 : Int32} {s0i : Int32} {n sl : Nat} {SH : Nat → Nat × Nat} {FI : Nat → Nat → Int32} {FL : Nat → Nat → Int64} {FR : Nat → Nat → Option Nat}  {v : Int64} {s : hS} (h : RX12_combined_16  a1 s0i n sl SH FI FL FR v s) : kq mX12_combined_16 (n, sl, SH, FI, FL, FR) s := by
  rcases h with ⟨-, h⟩ | ⟨-, h⟩
  · skip
    obtain ⟨-, rfl⟩ := h
    exact kq_rf
  · skip
    rcases h with ⟨-, h⟩ | ⟨-, h⟩
    · skip
      obtain ⟨-, rfl⟩ := h
      exact kq_rf
    · skip
      rcases h with ⟨-, h⟩ | ⟨-, h⟩
      · skip
        obtain ⟨-, rfl⟩ := h
        exact kq_rf
      · skip
        replace h := h.2
        rcases h with ⟨-, h⟩ | ⟨-, h⟩
        · skip
          replace h := h.2
          obtain ⟨-, rfl⟩ := h
          exact (kq_if kq_rf (by decide) (by decide))
        · skip
          replace h := h.2
          obtain ⟨-, rfl⟩ := h
          exact (kq_if kq_rf (by decide) (by decide))
theorem kX12_combined  {a1 : Int32} {n sl : Nat} {SH : Nat → Nat × Nat} {FI : Nat → Nat → Int32} {FL : Nat → Nat → Int64} {FR : Nat → Nat → Option Nat}  {v : Int64} {s : hS} (h : RX12_combined  a1 n sl SH FI FL FR v s) : kq mX12_combined (n, sl, SH, FI, FL, FR) s := by
  rcases h with ⟨-, h⟩ | ⟨-, h⟩
  · skip
    exact kq_tr kq_rf (kq_mono (kX12_combined_16  h) (by decide))
  · skip
    exact kq_tr kq_rf (kq_mono (kX12_combined_16  h) (by decide))
theorem kX12_registered_52   {n sl : Nat} {SH : Nat → Nat × Nat} {FI : Nat → Nat → Int32} {FL : Nat → Nat → Int64} {FR : Nat → Nat → Option Nat}  {v : Unit} {s : hS} (h : RX12_registered_52   n sl SH FI FL FR v s) : kq mX12_registered_52 (n, sl, SH, FI, FL, FR) s := by
  rcases h with ⟨-, h⟩ | ⟨-, h⟩
  · skip
    replace h := h.2
    obtain ⟨v1, n1, sl1, SH1, FI1, FL1, FR1, hc, h⟩ := h
    have q1 : kq mX12_registered_52 (n, sl, SH, FI, FL, FR) (n1, sl1, SH1, FI1, FL1, FR1) := kq_tr kq_rf (kq_mono (kX12_emit hc) (by decide))
    clear hc
    obtain ⟨v3, n3, sl3, SH3, FI3, FL3, FR3, hc, h⟩ := h
    have q2 : kq mX12_registered_52 (n, sl, SH, FI, FL, FR) (n3, sl3, SH3, FI3, FL3, FR3) := kq_tr (kq_if q1 (by decide) (by decide)) (kq_mono (kX12_combined hc) (by decide))
    clear hc
    obtain ⟨v4, n4, sl4, SH4, FI4, FL4, FR4, hc, h⟩ := h
    have q3 : kq mX12_registered_52 (n, sl, SH, FI, FL, FR) (n4, sl4, SH4, FI4, FL4, FR4) := kq_tr q2 (kq_mono (kX12_signed hc) (by decide))
    clear hc
    obtain ⟨-, rfl⟩ := h
    exact q3
  · skip
    obtain ⟨-, rfl⟩ := h
    exact kq_rf
theorem kX12_registered   {n sl : Nat} {SH : Nat → Nat × Nat} {FI : Nat → Nat → Int32} {FL : Nat → Nat → Int64} {FR : Nat → Nat → Option Nat}  {v : Unit} {s : hS} (h : RX12_registered   n sl SH FI FL FR v s) : kq mX12_registered (n, sl, SH, FI, FL, FR) s := by
  replace h := h.2
  rcases h with ⟨-, h⟩ | ⟨-, h⟩
  · skip
    replace h := h.2
    rcases h with ⟨-, h⟩ | ⟨-, h⟩
    · skip
      obtain ⟨v3, n3, sl3, SH3, FI3, FL3, FR3, hc, h⟩ := h
      have q1 : kq mX12_registered (n, sl, SH, FI, FL, FR) (n3, sl3, SH3, FI3, FL3, FR3) := kq_tr (kq_if kq_rf (by decide) (by decide)) (kq_mono (kX12_fail hc) (by decide))
      clear hc
      exact kq_tr q1 (kq_mono (kX12_registered_52  h) (by decide))
    · skip
      exact kq_tr (kq_if kq_rf (by decide) (by decide)) (kq_mono (kX12_registered_52  h) (by decide))
  · skip
    obtain ⟨v4, n4, sl4, SH4, FI4, FL4, FR4, hc, h⟩ := h
    have q2 : kq mX12_registered (n, sl, SH, FI, FL, FR) (n4, sl4, SH4, FI4, FL4, FR4) := kq_tr (kq_if kq_rf (by decide) (by decide)) (kq_mono (kX12_fail hc) (by decide))
    clear hc
    exact kq_tr q2 (kq_mono (kX12_registered_52  h) (by decide))
theorem kX12_operand_40   {n sl : Nat} {SH : Nat → Nat × Nat} {FI : Nat → Nat → Int32} {FL : Nat → Nat → Int64} {FR : Nat → Nat → Option Nat}  {v : Int32} {s : hS} (h : RX12_operand_40   n sl SH FI FL FR v s) : kq mX12_operand_40 (n, sl, SH, FI, FL, FR) s := by
  replace h := h.2
  rcases h with ⟨-, h⟩ | ⟨-, h⟩
  · skip
    replace h := h.2
    rcases h with ⟨-, h⟩ | ⟨-, h⟩
    · skip
      rcases h with ⟨-, h⟩ | ⟨-, h⟩
      · skip
        obtain ⟨v4, n4, sl4, SH4, FI4, FL4, FR4, hc, h⟩ := h
        have q1 : kq mX12_operand_40 (n, sl, SH, FI, FL, FR) (n4, sl4, SH4, FI4, FL4, FR4) := kq_tr kq_rf (kq_mono (kX12_opens hc) (by decide))
        clear hc
        obtain ⟨v5, n5, sl5, SH5, FI5, FL5, FR5, hc, h⟩ := h
        have q2 : kq mX12_operand_40 (n, sl, SH, FI, FL, FR) (n5, sl5, SH5, FI5, FL5, FR5) := kq_tr q1 (kq_mono (kX12_later hc) (by decide))
        clear hc
        obtain ⟨-, rfl⟩ := h
        exact q2
      · skip
        obtain ⟨v6, n6, sl6, SH6, FI6, FL6, FR6, hc, h⟩ := h
        have q3 : kq mX12_operand_40 (n, sl, SH, FI, FL, FR) (n6, sl6, SH6, FI6, FL6, FR6) := kq_tr kq_rf (kq_mono (kX12_opens hc) (by decide))
        clear hc
        obtain ⟨v7, n7, sl7, SH7, FI7, FL7, FR7, hc, h⟩ := h
        have q4 : kq mX12_operand_40 (n, sl, SH, FI, FL, FR) (n7, sl7, SH7, FI7, FL7, FR7) := kq_tr q3 (kq_mono (kX12_later hc) (by decide))
        clear hc
        obtain ⟨-, rfl⟩ := h
        exact q4
    · skip
      rcases h with ⟨-, h⟩ | ⟨-, h⟩
      · skip
        obtain ⟨v9, n9, sl9, SH9, FI9, FL9, FR9, hc, h⟩ := h
        have q5 : kq mX12_operand_40 (n, sl, SH, FI, FL, FR) (n9, sl9, SH9, FI9, FL9, FR9) := kq_tr kq_rf (kq_mono (kX12_opens hc) (by decide))
        clear hc
        obtain ⟨v10, n10, sl10, SH10, FI10, FL10, FR10, hc, h⟩ := h
        have q6 : kq mX12_operand_40 (n, sl, SH, FI, FL, FR) (n10, sl10, SH10, FI10, FL10, FR10) := kq_tr q5 (kq_mono (kX12_later hc) (by decide))
        clear hc
        obtain ⟨-, rfl⟩ := h
        exact q6
      · skip
        obtain ⟨v11, n11, sl11, SH11, FI11, FL11, FR11, hc, h⟩ := h
        have q7 : kq mX12_operand_40 (n, sl, SH, FI, FL, FR) (n11, sl11, SH11, FI11, FL11, FR11) := kq_tr kq_rf (kq_mono (kX12_opens hc) (by decide))
        clear hc
        obtain ⟨v12, n12, sl12, SH12, FI12, FL12, FR12, hc, h⟩ := h
        have q8 : kq mX12_operand_40 (n, sl, SH, FI, FL, FR) (n12, sl12, SH12, FI12, FL12, FR12) := kq_tr q7 (kq_mono (kX12_later hc) (by decide))
        clear hc
        obtain ⟨-, rfl⟩ := h
        exact q8
  · skip
    obtain ⟨v13, n13, sl13, SH13, FI13, FL13, FR13, hc, h⟩ := h
    have q9 : kq mX12_operand_40 (n, sl, SH, FI, FL, FR) (n13, sl13, SH13, FI13, FL13, FR13) := kq_tr kq_rf (kq_mono (kX12_opens hc) (by decide))
    clear hc
    obtain ⟨v14, n14, sl14, SH14, FI14, FL14, FR14, hc, h⟩ := h
    have q10 : kq mX12_operand_40 (n, sl, SH, FI, FL, FR) (n14, sl14, SH14, FI14, FL14, FR14) := kq_tr q9 (kq_mono (kX12_later hc) (by decide))
    clear hc
    obtain ⟨-, rfl⟩ := h
    exact q10
theorem kX12_operand_262   {n sl : Nat} {SH : Nat → Nat × Nat} {FI : Nat → Nat → Int32} {FL : Nat → Nat → Int64} {FR : Nat → Nat → Option Nat}  {v : Int32} {s : hS} (h : RX12_operand_262   n sl SH FI FL FR v s) : kq mX12_operand_262 (n, sl, SH, FI, FL, FR) s := by
  rcases h with ⟨-, h⟩ | ⟨-, h⟩
  · skip
    obtain ⟨v2, n2, sl2, SH2, FI2, FL2, FR2, hc, h⟩ := h
    have q1 : kq mX12_operand_262 (n, sl, SH, FI, FL, FR) (n2, sl2, SH2, FI2, FL2, FR2) := kq_tr kq_rf (kq_mono (kX12_emit hc) (by decide))
    clear hc
    obtain ⟨v4, n4, sl4, SH4, FI4, FL4, FR4, hc, h⟩ := h
    have q2 : kq mX12_operand_262 (n, sl, SH, FI, FL, FR) (n4, sl4, SH4, FI4, FL4, FR4) := kq_tr (kq_if q1 (by decide) (by decide)) (kq_mono (kX12_finished hc) (by decide))
    clear hc
    obtain ⟨-, rfl⟩ := h
    exact q2
  · skip
    obtain ⟨v5, n5, sl5, SH5, FI5, FL5, FR5, hc, h⟩ := h
    have q3 : kq mX12_operand_262 (n, sl, SH, FI, FL, FR) (n5, sl5, SH5, FI5, FL5, FR5) := kq_tr kq_rf (kq_mono (kX12_emit hc) (by decide))
    clear hc
    obtain ⟨v7, n7, sl7, SH7, FI7, FL7, FR7, hc, h⟩ := h
    have q4 : kq mX12_operand_262 (n, sl, SH, FI, FL, FR) (n7, sl7, SH7, FI7, FL7, FR7) := kq_tr (kq_if q3 (by decide) (by decide)) (kq_mono (kX12_finished hc) (by decide))
    clear hc
    obtain ⟨-, rfl⟩ := h
    exact q4
theorem kX12_operand   {n sl : Nat} {SH : Nat → Nat × Nat} {FI : Nat → Nat → Int32} {FL : Nat → Nat → Int64} {FR : Nat → Nat → Option Nat}  {v : Int32} {s : hS} (h : RX12_operand   n sl SH FI FL FR v s) : kq mX12_operand (n, sl, SH, FI, FL, FR) s := by
  rcases h with ⟨-, h⟩ | ⟨-, h⟩
  · skip
    rcases h with ⟨-, h⟩ | ⟨-, h⟩
    · skip
      replace h := h.2
      rcases h with ⟨-, h⟩ | ⟨-, h⟩
      · skip
        exact kq_tr kq_rf (kq_mono (kX12_operand_40  h) (by decide))
      · skip
        rcases h with ⟨-, h⟩ | ⟨-, h⟩
        · skip
          rcases h with ⟨-, h⟩ | ⟨-, h⟩
          · skip
            replace h := h.2
            rcases h with ⟨-, h⟩ | ⟨-, h⟩
            · skip
              replace h := h.2
              obtain ⟨v10, n10, sl10, SH10, FI10, FL10, FR10, hc, h⟩ := h
              have q1 : kq mX12_operand (n, sl, SH, FI, FL, FR) (n10, sl10, SH10, FI10, FL10, FR10) := kq_tr kq_rf (kq_mono (kX12_push hc) (by decide))
              clear hc
              obtain ⟨v12, n12, sl12, SH12, FI12, FL12, FR12, hc, h⟩ := h
              have q2 : kq mX12_operand (n, sl, SH, FI, FL, FR) (n12, sl12, SH12, FI12, FL12, FR12) := kq_tr (kq_if q1 (by decide) (by decide)) (kq_mono (kX12_finished hc) (by decide))
              clear hc
              obtain ⟨-, rfl⟩ := h
              exact q2
            · skip
              rcases h with ⟨-, h⟩ | ⟨-, h⟩
              · skip
                rcases h with ⟨-, h⟩ | ⟨-, h⟩
                · skip
                  rcases h with ⟨-, h⟩ | ⟨-, h⟩
                  · skip
                    rcases h with ⟨-, h⟩ | ⟨-, h⟩
                    · skip
                      obtain ⟨v21, n21, sl21, SH21, FI21, FL21, FR21, hc, h⟩ := h
                      have q3 : kq mX12_operand (n, sl, SH, FI, FL, FR) (n21, sl21, SH21, FI21, FL21, FR21) := kq_tr kq_rf (kq_mono (kX12_fail hc) (by decide))
                      clear hc
                      obtain ⟨-, rfl⟩ := h
                      exact q3
                    · skip
                      exact kq_tr kq_rf (kq_mono (kX12_operand_262  h) (by decide))
                  · skip
                    exact kq_tr kq_rf (kq_mono (kX12_operand_262  h) (by decide))
                · skip
                  obtain ⟨v22, n22, sl22, SH22, FI22, FL22, FR22, hc, h⟩ := h
                  have q4 : kq mX12_operand (n, sl, SH, FI, FL, FR) (n22, sl22, SH22, FI22, FL22, FR22) := kq_tr kq_rf (kq_mono (kX12_emit hc) (by decide))
                  clear hc
                  obtain ⟨v24, n24, sl24, SH24, FI24, FL24, FR24, hc, h⟩ := h
                  have q5 : kq mX12_operand (n, sl, SH, FI, FL, FR) (n24, sl24, SH24, FI24, FL24, FR24) := kq_tr (kq_if q4 (by decide) (by decide)) (kq_mono (kX12_combined hc) (by decide))
                  clear hc
                  obtain ⟨v25, n25, sl25, SH25, FI25, FL25, FR25, hc, h⟩ := h
                  have q6 : kq mX12_operand (n, sl, SH, FI, FL, FR) (n25, sl25, SH25, FI25, FL25, FR25) := kq_tr q5 (kq_mono (kX12_signed hc) (by decide))
                  clear hc
                  obtain ⟨v26, n26, sl26, SH26, FI26, FL26, FR26, hc, h⟩ := h
                  have q7 : kq mX12_operand (n, sl, SH, FI, FL, FR) (n26, sl26, SH26, FI26, FL26, FR26) := kq_tr q6 (kq_mono (kX12_finished hc) (by decide))
                  clear hc
                  obtain ⟨-, rfl⟩ := h
                  exact q7
              · skip
                obtain ⟨v27, n27, sl27, SH27, FI27, FL27, FR27, hc, h⟩ := h
                have q8 : kq mX12_operand (n, sl, SH, FI, FL, FR) (n27, sl27, SH27, FI27, FL27, FR27) := kq_tr kq_rf (kq_mono (kX12_registered hc) (by decide))
                clear hc
                obtain ⟨v28, n28, sl28, SH28, FI28, FL28, FR28, hc, h⟩ := h
                have q9 : kq mX12_operand (n, sl, SH, FI, FL, FR) (n28, sl28, SH28, FI28, FL28, FR28) := kq_tr q8 (kq_mono (kX12_finished hc) (by decide))
                clear hc
                obtain ⟨-, rfl⟩ := h
                exact q9
          · skip
            obtain ⟨v29, n29, sl29, SH29, FI29, FL29, FR29, hc, h⟩ := h
            have q10 : kq mX12_operand (n, sl, SH, FI, FL, FR) (n29, sl29, SH29, FI29, FL29, FR29) := kq_tr kq_rf (kq_mono (kX12_opens hc) (by decide))
            clear hc
            obtain ⟨v30, n30, sl30, SH30, FI30, FL30, FR30, hc, h⟩ := h
            have q11 : kq mX12_operand (n, sl, SH, FI, FL, FR) (n30, sl30, SH30, FI30, FL30, FR30) := kq_tr q10 (kq_mono (kX12_later hc) (by decide))
            clear hc
            obtain ⟨-, rfl⟩ := h
            exact q11
        · skip
          exact kq_tr kq_rf (kq_mono (kX12_operand_40  h) (by decide))
    · skip
      exact kq_tr kq_rf (kq_mono (kX12_operand_40  h) (by decide))
  · skip
    exact kq_tr kq_rf (kq_mono (kX12_operand_40  h) (by decide))
theorem kX12_operator_138  {l1i : Int32} {n sl : Nat} {SH : Nat → Nat × Nat} {FI : Nat → Nat → Int32} {FL : Nat → Nat → Int64} {FR : Nat → Nat → Option Nat}  {v : Int32} {s : hS} (h : RX12_operator_138  l1i n sl SH FI FL FR v s) : kq mX12_operator_138 (n, sl, SH, FI, FL, FR) s := by
  rcases h with ⟨-, h⟩ | ⟨-, h⟩
  · skip
    obtain ⟨v1, n1, sl1, SH1, FI1, FL1, FR1, hc, h⟩ := h
    have q1 : kq mX12_operator_138 (n, sl, SH, FI, FL, FR) (n1, sl1, SH1, FI1, FL1, FR1) := kq_tr kq_rf (kq_mono (kX12_binary hc) (by decide))
    clear hc
    rcases h with ⟨-, h⟩ | ⟨-, h⟩
    · skip
      obtain ⟨-, rfl⟩ := h
      exact q1
    · skip
      obtain ⟨-, rfl⟩ := h
      exact q1
  · skip
    obtain ⟨-, rfl⟩ := h
    exact kq_rf
theorem kX12_operator   {n sl : Nat} {SH : Nat → Nat × Nat} {FI : Nat → Nat → Int32} {FL : Nat → Nat → Int64} {FR : Nat → Nat → Option Nat}  {v : Int32} {s : hS} (h : RX12_operator   n sl SH FI FL FR v s) : kq mX12_operator (n, sl, SH, FI, FL, FR) s := by
  replace h := h.2
  replace h := h.2
  rcases h with ⟨-, h⟩ | ⟨-, h⟩
  · skip
    rcases h with ⟨-, h⟩ | ⟨-, h⟩
    · skip
      replace h := h.2
      replace h := h.2
      rcases h with ⟨-, h⟩ | ⟨-, h⟩
      · skip
        replace h := h.2
        replace h := h.2
        rcases h with ⟨-, h⟩ | ⟨-, h⟩
        · skip
          rcases h with ⟨-, h⟩ | ⟨-, h⟩
          · skip
            rcases h with ⟨-, h⟩ | ⟨-, h⟩
            · skip
              rcases h with ⟨-, h⟩ | ⟨-, h⟩
              · skip
                rcases h with ⟨-, h⟩ | ⟨-, h⟩
                · skip
                  obtain ⟨v17, n17, sl17, SH17, FI17, FL17, FR17, hc, h⟩ := h
                  have q1 : kq mX12_operator (n, sl, SH, FI, FL, FR) (n17, sl17, SH17, FI17, FL17, FR17) := kq_tr (kq_if kq_rf (by decide) (by decide)) (kq_mono (kX12_ended hc) (by decide))
                  clear hc
                  obtain ⟨-, rfl⟩ := h
                  exact q1
                · skip
                  obtain ⟨v18, n18, sl18, SH18, FI18, FL18, FR18, hc, h⟩ := h
                  have q2 : kq mX12_operator (n, sl, SH, FI, FL, FR) (n18, sl18, SH18, FI18, FL18, FR18) := kq_tr (kq_if kq_rf (by decide) (by decide)) (kq_mono (kX12_reduced hc) (by decide))
                  clear hc
                  obtain ⟨v19, n19, sl19, SH19, FI19, FL19, FR19, hc, h⟩ := h
                  have q3 : kq mX12_operator (n, sl, SH, FI, FL, FR) (n19, sl19, SH19, FI19, FL19, FR19) := kq_tr q2 (kq_mono (kX12_emit hc) (by decide))
                  clear hc
                  obtain ⟨v20, n20, sl20, SH20, FI20, FL20, FR20, hc, h⟩ := h
                  have q4 : kq mX12_operator (n, sl, SH, FI, FL, FR) (n20, sl20, SH20, FI20, FL20, FR20) := kq_tr q3 (kq_mono (kX12_emits hc) (by decide))
                  clear hc
                  obtain ⟨v21, n21, sl21, SH21, FI21, FL21, FR21, hc, h⟩ := h
                  have q5 : kq mX12_operator (n, sl, SH, FI, FL, FR) (n21, sl21, SH21, FI21, FL21, FR21) := kq_tr q4 (kq_mono (kX12_opens hc) (by decide))
                  clear hc
                  obtain ⟨v22, n22, sl22, SH22, FI22, FL22, FR22, hc, h⟩ := h
                  have q6 : kq mX12_operator (n, sl, SH, FI, FL, FR) (n22, sl22, SH22, FI22, FL22, FR22) := kq_tr q5 (kq_mono (kX12_later hc) (by decide))
                  clear hc
                  replace h := h.2
                  obtain ⟨-, rfl⟩ := h
                  exact (kq_ia q6 (by decide) (by decide))
              · skip
                obtain ⟨v23, n23, sl23, SH23, FI23, FL23, FR23, hc, h⟩ := h
                have q7 : kq mX12_operator (n, sl, SH, FI, FL, FR) (n23, sl23, SH23, FI23, FL23, FR23) := kq_tr (kq_if kq_rf (by decide) (by decide)) (kq_mono (kX12_binary hc) (by decide))
                clear hc
                obtain ⟨-, rfl⟩ := h
                exact q7
            · skip
              obtain ⟨v24, n24, sl24, SH24, FI24, FL24, FR24, hc, h⟩ := h
              have q8 : kq mX12_operator (n, sl, SH, FI, FL, FR) (n24, sl24, SH24, FI24, FL24, FR24) := kq_tr (kq_if kq_rf (by decide) (by decide)) (kq_mono (kX12_binary hc) (by decide))
              clear hc
              obtain ⟨-, rfl⟩ := h
              exact q8
          · skip
            obtain ⟨v25, n25, sl25, SH25, FI25, FL25, FR25, hc, h⟩ := h
            have q9 : kq mX12_operator (n, sl, SH, FI, FL, FR) (n25, sl25, SH25, FI25, FL25, FR25) := kq_tr (kq_if kq_rf (by decide) (by decide)) (kq_mono (kX12_binary hc) (by decide))
            clear hc
            obtain ⟨-, rfl⟩ := h
            exact q9
        · skip
          obtain ⟨v26, n26, sl26, SH26, FI26, FL26, FR26, hc, h⟩ := h
          have q10 : kq mX12_operator (n, sl, SH, FI, FL, FR) (n26, sl26, SH26, FI26, FL26, FR26) := kq_tr (kq_if kq_rf (by decide) (by decide)) (kq_mono (kX12_reduced hc) (by decide))
          clear hc
          rcases h with ⟨-, h⟩ | ⟨-, h⟩
          · skip
            obtain ⟨v29, n29, sl29, SH29, FI29, FL29, FR29, hc, h⟩ := h
            have q11 : kq mX12_operator (n, sl, SH, FI, FL, FR) (n29, sl29, SH29, FI29, FL29, FR29) := kq_tr q10 (kq_mono (kX12_fail hc) (by decide))
            clear hc
            exact kq_tr q11 (kq_mono (kX12_operator_138  h) (by decide))
          · skip
            exact kq_tr q10 (kq_mono (kX12_operator_138  h) (by decide))
      · skip
        obtain ⟨v30, n30, sl30, SH30, FI30, FL30, FR30, hc, h⟩ := h
        have q12 : kq mX12_operator (n, sl, SH, FI, FL, FR) (n30, sl30, SH30, FI30, FL30, FR30) := kq_tr (kq_if kq_rf (by decide) (by decide)) (kq_mono (kX12_binary hc) (by decide))
        clear hc
        obtain ⟨-, rfl⟩ := h
        exact q12
    · skip
      obtain ⟨v31, n31, sl31, SH31, FI31, FL31, FR31, hc, h⟩ := h
      have q13 : kq mX12_operator (n, sl, SH, FI, FL, FR) (n31, sl31, SH31, FI31, FL31, FR31) := kq_tr (kq_if kq_rf (by decide) (by decide)) (kq_mono (kX12_added hc) (by decide))
      clear hc
      obtain ⟨-, rfl⟩ := h
      exact q13
  · skip
    obtain ⟨v32, n32, sl32, SH32, FI32, FL32, FR32, hc, h⟩ := h
    have q14 : kq mX12_operator (n, sl, SH, FI, FL, FR) (n32, sl32, SH32, FI32, FL32, FR32) := kq_tr (kq_if kq_rf (by decide) (by decide)) (kq_mono (kX12_binary hc) (by decide))
    clear hc
    obtain ⟨-, rfl⟩ := h
    exact q14
theorem kX12_chosen_54 {K7 : Int32 → Nat → Nat → (Nat → Nat × Nat) → (Nat → Nat → Int32) → (Nat → Nat → Int64) → (Nat → Nat → Option Nat) → Unit → hS → Prop} {s0i : Int32} {n sl : Nat} {SH : Nat → Nat × Nat} {FI : Nat → Nat → Int32} {FL : Nat → Nat → Int64} {FR : Nat → Nat → Option Nat} (hK7 : ∀ x0 n sl SH FI FL FR v s, K7 x0 n sl SH FI FL FR v s → kq mBX12_chosen_7 (n, sl, SH, FI, FL, FR) s) {v : Unit} {s : hS} (h : RX12_chosen_54 K7 s0i n sl SH FI FL FR v s) : kq mX12_chosen_54 (n, sl, SH, FI, FL, FR) s := by
  exact kq_tr kq_rf (kq_mono (hK7 _ _ _ _ _ _ _ _ _ h) (by decide))
theorem kX12_chosen_30 {K7 : Int32 → Nat → Nat → (Nat → Nat × Nat) → (Nat → Nat → Int32) → (Nat → Nat → Int64) → (Nat → Nat → Option Nat) → Unit → hS → Prop} {s0i : Int32} {n sl : Nat} {SH : Nat → Nat × Nat} {FI : Nat → Nat → Int32} {FL : Nat → Nat → Int64} {FR : Nat → Nat → Option Nat} (hK7 : ∀ x0 n sl SH FI FL FR v s, K7 x0 n sl SH FI FL FR v s → kq mBX12_chosen_7 (n, sl, SH, FI, FL, FR) s) {v : Unit} {s : hS} (h : RX12_chosen_30 K7 s0i n sl SH FI FL FR v s) : kq mX12_chosen_30 (n, sl, SH, FI, FL, FR) s := by
  exact kq_tr kq_rf (kq_mono (hK7 _ _ _ _ _ _ _ _ _ h) (by decide))
theorem kBX12_chosen_7 {K7 : Int32 → Nat → Nat → (Nat → Nat × Nat) → (Nat → Nat → Int32) → (Nat → Nat → Int64) → (Nat → Nat → Option Nat) → Unit → hS → Prop} {l1i : Int32} {n sl : Nat} {SH : Nat → Nat × Nat} {FI : Nat → Nat → Int32} {FL : Nat → Nat → Int64} {FR : Nat → Nat → Option Nat} (hK7 : ∀ x0 n sl SH FI FL FR v s, K7 x0 n sl SH FI FL FR v s → kq mBX12_chosen_7 (n, sl, SH, FI, FL, FR) s) {v : Unit} {s : hS} (h : BX12_chosen_7 K7 l1i n sl SH FI FL FR v s) : kq mBX12_chosen_7 (n, sl, SH, FI, FL, FR) s := by
  rcases h with ⟨-, h⟩ | ⟨-, h⟩
  · skip
    rcases h with ⟨-, h⟩ | ⟨-, h⟩
    · skip
      obtain ⟨v2, n2, sl2, SH2, FI2, FL2, FR2, hc, h⟩ := h
      have q1 : kq mBX12_chosen_7 (n, sl, SH, FI, FL, FR) (n2, sl2, SH2, FI2, FL2, FR2) := kq_tr kq_rf (kq_mono (kX12_operator hc) (by decide))
      clear hc
      rcases h with ⟨-, h⟩ | ⟨-, h⟩
      · skip
        obtain ⟨-, rfl⟩ := h
        exact q1
      · skip
        rcases h with ⟨-, h⟩ | ⟨-, h⟩
        · skip
          exact kq_tr q1 (kq_mono (kX12_chosen_54 hK7 h) (by decide))
        · skip
          exact kq_tr q1 (kq_mono (kX12_chosen_54 hK7 h) (by decide))
    · skip
      obtain ⟨v5, n5, sl5, SH5, FI5, FL5, FR5, hc, h⟩ := h
      have q2 : kq mBX12_chosen_7 (n, sl, SH, FI, FL, FR) (n5, sl5, SH5, FI5, FL5, FR5) := kq_tr kq_rf (kq_mono (kX12_operand hc) (by decide))
      clear hc
      rcases h with ⟨-, h⟩ | ⟨-, h⟩
      · skip
        exact kq_tr q2 (kq_mono (kX12_chosen_30 hK7 h) (by decide))
      · skip
        exact kq_tr q2 (kq_mono (kX12_chosen_30 hK7 h) (by decide))
  · skip
    obtain ⟨-, rfl⟩ := h
    exact kq_rf
theorem kGX12_chosen_7    : ∀ g x0 n sl SH FI FL FR v s, GX12_chosen_7   g x0 n sl SH FI FL FR v s → kq mGX12_chosen_7 (n, sl, SH, FI, FL, FR) s := by
  intro g
  induction g with
  | zero => intro x0 n sl SH FI FL FR v s h; exact h.elim
  | succ g ih => intro x0 n sl SH FI FL FR v s h; exact kBX12_chosen_7 ih h
theorem kX12_chosen_7  {l1i : Int32} {n sl : Nat} {SH : Nat → Nat × Nat} {FI : Nat → Nat → Int32} {FL : Nat → Nat → Int64} {FR : Nat → Nat → Option Nat}  {v : Unit} {s : hS} (h : RX12_chosen_7  l1i n sl SH FI FL FR v s) : kq mX12_chosen_7 (n, sl, SH, FI, FL, FR) s := by
  obtain ⟨g, h⟩ := h
  exact kGX12_chosen_7  g _ _ _ _ _ _ _ _ _ h
theorem kX12_chosen   {n sl : Nat} {SH : Nat → Nat × Nat} {FI : Nat → Nat → Int32} {FL : Nat → Nat → Int64} {FR : Nat → Nat → Option Nat}  {v : Unit} {s : hS} (h : RX12_chosen   n sl SH FI FL FR v s) : kq mX12_chosen (n, sl, SH, FI, FL, FR) s := by
  exact kq_tr (kq_if kq_rf (by decide) (by decide)) (kq_mono (kX12_chosen_7  h) (by decide))
theorem kX12_place_101   {n sl : Nat} {SH : Nat → Nat × Nat} {FI : Nat → Nat → Int32} {FL : Nat → Nat → Int64} {FR : Nat → Nat → Option Nat}  {v : Unit} {s : hS} (h : RX12_place_101   n sl SH FI FL FR v s) : kq mX12_place_101 (n, sl, SH, FI, FL, FR) s := by
  rcases h with ⟨-, h⟩ | ⟨-, h⟩
  · skip
    replace h := h.2
    obtain ⟨v1, n1, sl1, SH1, FI1, FL1, FR1, hc, h⟩ := h
    have q1 : kq mX12_place_101 (n, sl, SH, FI, FL, FR) (n1, sl1, SH1, FI1, FL1, FR1) := kq_tr kq_rf (kq_mono (kX12_emit hc) (by decide))
    clear hc
    obtain ⟨-, rfl⟩ := h
    exact (kq_if q1 (by decide) (by decide))
  · skip
    obtain ⟨-, rfl⟩ := h
    exact kq_rf
theorem kX12_place_256 {K200 : Int32 → Int32 → Nat → Nat → (Nat → Nat × Nat) → (Nat → Nat → Int32) → (Nat → Nat → Int64) → (Nat → Nat → Option Nat) → Unit → hS → Prop} {l2i : Int32} {l3i : Int32} {n sl : Nat} {SH : Nat → Nat × Nat} {FI : Nat → Nat → Int32} {FL : Nat → Nat → Int64} {FR : Nat → Nat → Option Nat} (hK200 : ∀ x0 x1 n sl SH FI FL FR v s, K200 x0 x1 n sl SH FI FL FR v s → kq mBX12_place_200 (n, sl, SH, FI, FL, FR) s) {v : Unit} {s : hS} (h : RX12_place_256 K200 l2i l3i n sl SH FI FL FR v s) : kq mX12_place_256 (n, sl, SH, FI, FL, FR) s := by
  replace h := h.2
  obtain ⟨v0, n0, sl0, SH0, FI0, FL0, FR0, hc, h⟩ := h
  have q1 : kq mX12_place_256 (n, sl, SH, FI, FL, FR) (n0, sl0, SH0, FI0, FL0, FR0) := kq_tr kq_rf (kq_mono (kX12_emit hc) (by decide))
  clear hc
  exact kq_tr (kq_if q1 (by decide) (by decide)) (kq_mono (hK200 _ _ _ _ _ _ _ _ _ _ h) (by decide))
theorem kX12_place_287  {l2i : Int32} {l3i : Int32} {n sl : Nat} {SH : Nat → Nat × Nat} {FI : Nat → Nat → Int32} {FL : Nat → Nat → Int64} {FR : Nat → Nat → Option Nat}  {v : Unit} {s : hS} (h : RX12_place_287  l2i l3i n sl SH FI FL FR v s) : kq mX12_place_287 (n, sl, SH, FI, FL, FR) s := by
  rcases h with ⟨-, h⟩ | ⟨-, h⟩
  · skip
    obtain ⟨-, rfl⟩ := h
    exact kq_rf
  · skip
    replace h := h.2
    obtain ⟨-, rfl⟩ := h
    exact (kq_ia kq_rf (by decide) (by decide))
theorem kBX12_place_200 {K200 : Int32 → Int32 → Nat → Nat → (Nat → Nat × Nat) → (Nat → Nat → Int32) → (Nat → Nat → Int64) → (Nat → Nat → Option Nat) → Unit → hS → Prop} {l2i : Int32} {l3i : Int32} {n sl : Nat} {SH : Nat → Nat × Nat} {FI : Nat → Nat → Int32} {FL : Nat → Nat → Int64} {FR : Nat → Nat → Option Nat} (hK200 : ∀ x0 x1 n sl SH FI FL FR v s, K200 x0 x1 n sl SH FI FL FR v s → kq mBX12_place_200 (n, sl, SH, FI, FL, FR) s) {v : Unit} {s : hS} (h : BX12_place_200 K200 l2i l3i n sl SH FI FL FR v s) : kq mBX12_place_200 (n, sl, SH, FI, FL, FR) s := by
  rcases h with ⟨-, h⟩ | ⟨-, h⟩
  · skip
    replace h := h.2
    rcases h with ⟨-, h⟩ | ⟨-, h⟩
    · skip
      replace h := h.2
      rcases h with ⟨-, h⟩ | ⟨-, h⟩
      · skip
        obtain ⟨v3, n3, sl3, SH3, FI3, FL3, FR3, hc, h⟩ := h
        have q1 : kq mBX12_place_200 (n, sl, SH, FI, FL, FR) (n3, sl3, SH3, FI3, FL3, FR3) := kq_tr kq_rf (kq_mono (kX12_fail hc) (by decide))
        clear hc
        exact kq_tr q1 (kq_mono (kX12_place_256 hK200 h) (by decide))
      · skip
        rcases h with ⟨-, h⟩ | ⟨-, h⟩
        · skip
          obtain ⟨v5, n5, sl5, SH5, FI5, FL5, FR5, hc, h⟩ := h
          have q2 : kq mBX12_place_200 (n, sl, SH, FI, FL, FR) (n5, sl5, SH5, FI5, FL5, FR5) := kq_tr kq_rf (kq_mono (kX12_fail hc) (by decide))
          clear hc
          exact kq_tr q2 (kq_mono (kX12_place_256 hK200 h) (by decide))
        · skip
          exact kq_tr kq_rf (kq_mono (kX12_place_256 hK200 h) (by decide))
    · skip
      exact kq_tr kq_rf (kq_mono (kX12_place_287  h) (by decide))
  · skip
    exact kq_tr kq_rf (kq_mono (kX12_place_287  h) (by decide))
theorem kGX12_place_200    : ∀ g x0 x1 n sl SH FI FL FR v s, GX12_place_200   g x0 x1 n sl SH FI FL FR v s → kq mGX12_place_200 (n, sl, SH, FI, FL, FR) s := by
  intro g
  induction g with
  | zero => intro x0 x1 n sl SH FI FL FR v s h; exact h.elim
  | succ g ih => intro x0 x1 n sl SH FI FL FR v s h; exact kBX12_place_200 ih h
theorem kX12_place_200  {l2i : Int32} {l3i : Int32} {n sl : Nat} {SH : Nat → Nat × Nat} {FI : Nat → Nat → Int32} {FL : Nat → Nat → Int64} {FR : Nat → Nat → Option Nat}  {v : Unit} {s : hS} (h : RX12_place_200  l2i l3i n sl SH FI FL FR v s) : kq mX12_place_200 (n, sl, SH, FI, FL, FR) s := by
  obtain ⟨g, h⟩ := h
  exact kGX12_place_200  g _ _ _ _ _ _ _ _ _ _ h
theorem kX12_place_181   {n sl : Nat} {SH : Nat → Nat × Nat} {FI : Nat → Nat → Int32} {FL : Nat → Nat → Int64} {FR : Nat → Nat → Option Nat}  {v : Unit} {s : hS} (h : RX12_place_181   n sl SH FI FL FR v s) : kq mX12_place_181 (n, sl, SH, FI, FL, FR) s := by
  obtain ⟨v0, n0, sl0, SH0, FI0, FL0, FR0, hc, h⟩ := h
  have q1 : kq mX12_place_181 (n, sl, SH, FI, FL, FR) (n0, sl0, SH0, FI0, FL0, FR0) := kq_tr kq_rf (kq_mono (kX12_emit hc) (by decide))
  clear hc
  obtain ⟨v1, n1, sl1, SH1, FI1, FL1, FR1, hc, h⟩ := h
  have q2 : kq mX12_place_181 (n, sl, SH, FI, FL, FR) (n1, sl1, SH1, FI1, FL1, FR1) := kq_tr q1 (kq_mono (kX12_emit hc) (by decide))
  clear hc
  exact kq_tr q2 (kq_mono (kX12_place_200  h) (by decide))
theorem kX12_place   {n sl : Nat} {SH : Nat → Nat × Nat} {FI : Nat → Nat → Int32} {FL : Nat → Nat → Int64} {FR : Nat → Nat → Option Nat}  {v : Unit} {s : hS} (h : RX12_place   n sl SH FI FL FR v s) : kq mX12_place (n, sl, SH, FI, FL, FR) s := by
  rcases h with ⟨-, h⟩ | ⟨-, h⟩
  · skip
    replace h := h.2
    rcases h with ⟨-, h⟩ | ⟨-, h⟩
    · skip
      replace h := h.2
      rcases h with ⟨-, h⟩ | ⟨-, h⟩
      · skip
        replace h := h.2
        rcases h with ⟨-, h⟩ | ⟨-, h⟩
        · skip
          obtain ⟨v6, n6, sl6, SH6, FI6, FL6, FR6, hc, h⟩ := h
          have q1 : kq mX12_place (n, sl, SH, FI, FL, FR) (n6, sl6, SH6, FI6, FL6, FR6) := kq_tr (kq_if kq_rf (by decide) (by decide)) (kq_mono (kX12_fail hc) (by decide))
          clear hc
          exact kq_tr q1 (kq_mono (kX12_place_101  h) (by decide))
        · skip
          exact kq_tr (kq_if kq_rf (by decide) (by decide)) (kq_mono (kX12_place_101  h) (by decide))
      · skip
        obtain ⟨v7, n7, sl7, SH7, FI7, FL7, FR7, hc, h⟩ := h
        have q2 : kq mX12_place (n, sl, SH, FI, FL, FR) (n7, sl7, SH7, FI7, FL7, FR7) := kq_tr (kq_if kq_rf (by decide) (by decide)) (kq_mono (kX12_fail hc) (by decide))
        clear hc
        exact kq_tr q2 (kq_mono (kX12_place_101  h) (by decide))
    · skip
      rcases h with ⟨-, h⟩ | ⟨-, h⟩
      · skip
        obtain ⟨v9, n9, sl9, SH9, FI9, FL9, FR9, hc, h⟩ := h
        have q3 : kq mX12_place (n, sl, SH, FI, FL, FR) (n9, sl9, SH9, FI9, FL9, FR9) := kq_tr (kq_if kq_rf (by decide) (by decide)) (kq_mono (kX12_chosen hc) (by decide))
        clear hc
        obtain ⟨v10, n10, sl10, SH10, FI10, FL10, FR10, hc, h⟩ := h
        have q4 : kq mX12_place (n, sl, SH, FI, FL, FR) (n10, sl10, SH10, FI10, FL10, FR10) := kq_tr q3 (kq_mono (kX12_emit hc) (by decide))
        clear hc
        obtain ⟨-, rfl⟩ := h
        exact q4
      · skip
        rcases h with ⟨-, h⟩ | ⟨-, h⟩
        · skip
          replace h := h.2
          rcases h with ⟨-, h⟩ | ⟨-, h⟩
          · skip
            exact kq_tr (kq_if kq_rf (by decide) (by decide)) (kq_mono (kX12_place_181  h) (by decide))
          · skip
            obtain ⟨v13, n13, sl13, SH13, FI13, FL13, FR13, hc, h⟩ := h
            have q5 : kq mX12_place (n, sl, SH, FI, FL, FR) (n13, sl13, SH13, FI13, FL13, FR13) := kq_tr (kq_if kq_rf (by decide) (by decide)) (kq_mono (kX12_fail hc) (by decide))
            clear hc
            exact kq_tr q5 (kq_mono (kX12_place_181  h) (by decide))
        · skip
          obtain ⟨-, rfl⟩ := h
          exact (kq_if kq_rf (by decide) (by decide))
  · skip
    obtain ⟨v14, n14, sl14, SH14, FI14, FL14, FR14, hc, h⟩ := h
    have q6 : kq mX12_place (n, sl, SH, FI, FL, FR) (n14, sl14, SH14, FI14, FL14, FR14) := kq_tr kq_rf (kq_mono (kX12_opens hc) (by decide))
    clear hc
    obtain ⟨v15, n15, sl15, SH15, FI15, FL15, FR15, hc, h⟩ := h
    have q7 : kq mX12_place (n, sl, SH, FI, FL, FR) (n15, sl15, SH15, FI15, FL15, FR15) := kq_tr q6 (kq_mono (kX12_chosen hc) (by decide))
    clear hc
    obtain ⟨v16, n16, sl16, SH16, FI16, FL16, FR16, hc, h⟩ := h
    have q8 : kq mX12_place (n, sl, SH, FI, FL, FR) (n16, sl16, SH16, FI16, FL16, FR16) := kq_tr q7 (kq_mono (kX12_need hc) (by decide))
    clear hc
    obtain ⟨-, rfl⟩ := h
    exact (kq_if q8 (by decide) (by decide))
theorem kX12_location_235  {l1i : Int32} {n sl : Nat} {SH : Nat → Nat × Nat} {FI : Nat → Nat → Int32} {FL : Nat → Nat → Int64} {FR : Nat → Nat → Option Nat}  {v : Unit} {s : hS} (h : RX12_location_235  l1i n sl SH FI FL FR v s) : kq mX12_location_235 (n, sl, SH, FI, FL, FR) s := by
  rcases h with ⟨-, h⟩ | ⟨-, h⟩
  · skip
    replace h := h.2
    obtain ⟨-, rfl⟩ := h
    exact (kq_ia kq_rf (by decide) (by decide))
  · skip
    obtain ⟨-, rfl⟩ := h
    exact kq_rf
theorem kX12_location_197  {l1i : Int32} {n sl : Nat} {SH : Nat → Nat × Nat} {FI : Nat → Nat → Int32} {FL : Nat → Nat → Int64} {FR : Nat → Nat → Option Nat}  {v : Unit} {s : hS} (h : RX12_location_197  l1i n sl SH FI FL FR v s) : kq mX12_location_197 (n, sl, SH, FI, FL, FR) s := by
  obtain ⟨v0, n0, sl0, SH0, FI0, FL0, FR0, hc, h⟩ := h
  have q1 : kq mX12_location_197 (n, sl, SH, FI, FL, FR) (n0, sl0, SH0, FI0, FL0, FR0) := kq_tr kq_rf (kq_mono (kX12_need hc) (by decide))
  clear hc
  exact kq_tr (kq_if q1 (by decide) (by decide)) (kq_mono (kX12_location_235  h) (by decide))
theorem kX12_location_131 {K22 : Int32 → Int32 → Int32 → Nat → Nat → (Nat → Nat × Nat) → (Nat → Nat → Int32) → (Nat → Nat → Int64) → (Nat → Nat → Option Nat) → Unit → hS → Prop} {l1i : Int32} {l2i : Int32} {n sl : Nat} {SH : Nat → Nat × Nat} {FI : Nat → Nat → Int32} {FL : Nat → Nat → Int64} {FR : Nat → Nat → Option Nat} (hK22 : ∀ x0 x1 x2 n sl SH FI FL FR v s, K22 x0 x1 x2 n sl SH FI FL FR v s → kq mBX12_location_22 (n, sl, SH, FI, FL, FR) s) {v : Unit} {s : hS} (h : RX12_location_131 K22 l1i l2i n sl SH FI FL FR v s) : kq mX12_location_131 (n, sl, SH, FI, FL, FR) s := by
  rcases h with ⟨-, h⟩ | ⟨-, h⟩
  · skip
    obtain ⟨v1, n1, sl1, SH1, FI1, FL1, FR1, hc, h⟩ := h
    have q1 : kq mX12_location_131 (n, sl, SH, FI, FL, FR) (n1, sl1, SH1, FI1, FL1, FR1) := kq_tr kq_rf (kq_mono (kX12_emit hc) (by decide))
    clear hc
    replace h := h.2
    obtain ⟨v2, n2, sl2, SH2, FI2, FL2, FR2, hc, h⟩ := h
    have q2 : kq mX12_location_131 (n, sl, SH, FI, FL, FR) (n2, sl2, SH2, FI2, FL2, FR2) := kq_tr q1 (kq_mono (kX12_unsigned hc) (by decide))
    clear hc
    rcases h with ⟨-, h⟩ | ⟨-, h⟩
    · skip
      exact kq_tr (kq_if q2 (by decide) (by decide)) (kq_mono (hK22 _ _ _ _ _ _ _ _ _ _ _ h) (by decide))
    · skip
      exact kq_tr (kq_if (kq_if q2 (by decide) (by decide)) (by decide) (by decide)) (kq_mono (hK22 _ _ _ _ _ _ _ _ _ _ _ h) (by decide))
  · skip
    obtain ⟨-, rfl⟩ := h
    exact kq_rf
theorem kX12_location_103 {K22 : Int32 → Int32 → Int32 → Nat → Nat → (Nat → Nat × Nat) → (Nat → Nat → Int32) → (Nat → Nat → Int64) → (Nat → Nat → Option Nat) → Unit → hS → Prop} {l1i : Int32} {l2i : Int32} {n sl : Nat} {SH : Nat → Nat × Nat} {FI : Nat → Nat → Int32} {FL : Nat → Nat → Int64} {FR : Nat → Nat → Option Nat} (hK22 : ∀ x0 x1 x2 n sl SH FI FL FR v s, K22 x0 x1 x2 n sl SH FI FL FR v s → kq mBX12_location_22 (n, sl, SH, FI, FL, FR) s) {v : Unit} {s : hS} (h : RX12_location_103 K22 l1i l2i n sl SH FI FL FR v s) : kq mX12_location_103 (n, sl, SH, FI, FL, FR) s := by
  rcases h with ⟨-, h⟩ | ⟨-, h⟩
  · skip
    replace h := h.2
    rcases h with ⟨-, h⟩ | ⟨-, h⟩
    · skip
      obtain ⟨v2, n2, sl2, SH2, FI2, FL2, FR2, hc, h⟩ := h
      have q1 : kq mX12_location_103 (n, sl, SH, FI, FL, FR) (n2, sl2, SH2, FI2, FL2, FR2) := kq_tr kq_rf (kq_mono (kX12_fail hc) (by decide))
      clear hc
      exact kq_tr q1 (kq_mono (kX12_location_131 hK22 h) (by decide))
    · skip
      exact kq_tr kq_rf (kq_mono (kX12_location_131 hK22 h) (by decide))
  · skip
    exact kq_tr kq_rf (kq_mono (kX12_location_131 hK22 h) (by decide))
theorem kX12_location_60 {K22 : Int32 → Int32 → Int32 → Nat → Nat → (Nat → Nat × Nat) → (Nat → Nat → Int32) → (Nat → Nat → Int64) → (Nat → Nat → Option Nat) → Unit → hS → Prop} {l1i : Int32} {l2i : Int32} {n sl : Nat} {SH : Nat → Nat × Nat} {FI : Nat → Nat → Int32} {FL : Nat → Nat → Int64} {FR : Nat → Nat → Option Nat} (hK22 : ∀ x0 x1 x2 n sl SH FI FL FR v s, K22 x0 x1 x2 n sl SH FI FL FR v s → kq mBX12_location_22 (n, sl, SH, FI, FL, FR) s) {v : Unit} {s : hS} (h : RX12_location_60 K22 l1i l2i n sl SH FI FL FR v s) : kq mX12_location_60 (n, sl, SH, FI, FL, FR) s := by
  rcases h with ⟨-, h⟩ | ⟨-, h⟩
  · skip
    obtain ⟨v1, n1, sl1, SH1, FI1, FL1, FR1, hc, h⟩ := h
    have q1 : kq mX12_location_60 (n, sl, SH, FI, FL, FR) (n1, sl1, SH1, FI1, FL1, FR1) := kq_tr kq_rf (kq_mono (kX12_place hc) (by decide))
    clear hc
    obtain ⟨v2, n2, sl2, SH2, FI2, FL2, FR2, hc, h⟩ := h
    have q2 : kq mX12_location_60 (n, sl, SH, FI, FL, FR) (n2, sl2, SH2, FI2, FL2, FR2) := kq_tr q1 (kq_mono (kX12_need hc) (by decide))
    clear hc
    rcases h with ⟨-, h⟩ | ⟨-, h⟩
    · skip
      replace h := h.2
      rcases h with ⟨-, h⟩ | ⟨-, h⟩
      · skip
        exact kq_tr q2 (kq_mono (kX12_location_103 hK22 h) (by decide))
      · skip
        obtain ⟨v5, n5, sl5, SH5, FI5, FL5, FR5, hc, h⟩ := h
        have q3 : kq mX12_location_60 (n, sl, SH, FI, FL, FR) (n5, sl5, SH5, FI5, FL5, FR5) := kq_tr q2 (kq_mono (kX12_fail hc) (by decide))
        clear hc
        exact kq_tr q3 (kq_mono (kX12_location_103 hK22 h) (by decide))
    · skip
      exact kq_tr q2 (kq_mono (kX12_location_103 hK22 h) (by decide))
  · skip
    obtain ⟨-, rfl⟩ := h
    exact kq_rf
theorem kBX12_location_22 {K22 : Int32 → Int32 → Int32 → Nat → Nat → (Nat → Nat × Nat) → (Nat → Nat → Int32) → (Nat → Nat → Int64) → (Nat → Nat → Option Nat) → Unit → hS → Prop} {l1i : Int32} {l2i : Int32} {l3i : Int32} {n sl : Nat} {SH : Nat → Nat × Nat} {FI : Nat → Nat → Int32} {FL : Nat → Nat → Int64} {FR : Nat → Nat → Option Nat} (hK22 : ∀ x0 x1 x2 n sl SH FI FL FR v s, K22 x0 x1 x2 n sl SH FI FL FR v s → kq mBX12_location_22 (n, sl, SH, FI, FL, FR) s) {v : Unit} {s : hS} (h : BX12_location_22 K22 l1i l2i l3i n sl SH FI FL FR v s) : kq mBX12_location_22 (n, sl, SH, FI, FL, FR) s := by
  rcases h with ⟨-, h⟩ | ⟨-, h⟩
  · skip
    exact kq_tr kq_rf (kq_mono (kX12_location_197  h) (by decide))
  · skip
    rcases h with ⟨-, h⟩ | ⟨-, h⟩
    · skip
      rcases h with ⟨-, h⟩ | ⟨-, h⟩
      · skip
        obtain ⟨v4, n4, sl4, SH4, FI4, FL4, FR4, hc, h⟩ := h
        have q1 : kq mBX12_location_22 (n, sl, SH, FI, FL, FR) (n4, sl4, SH4, FI4, FL4, FR4) := kq_tr kq_rf (kq_mono (kX12_fail hc) (by decide))
        clear hc
        exact kq_tr q1 (kq_mono (kX12_location_60 hK22 h) (by decide))
      · skip
        rcases h with ⟨-, h⟩ | ⟨-, h⟩
        · skip
          obtain ⟨v6, n6, sl6, SH6, FI6, FL6, FR6, hc, h⟩ := h
          have q2 : kq mBX12_location_22 (n, sl, SH, FI, FL, FR) (n6, sl6, SH6, FI6, FL6, FR6) := kq_tr kq_rf (kq_mono (kX12_fail hc) (by decide))
          clear hc
          exact kq_tr q2 (kq_mono (kX12_location_60 hK22 h) (by decide))
        · skip
          exact kq_tr kq_rf (kq_mono (kX12_location_60 hK22 h) (by decide))
    · skip
      exact kq_tr kq_rf (kq_mono (kX12_location_197  h) (by decide))
theorem kGX12_location_22    : ∀ g x0 x1 x2 n sl SH FI FL FR v s, GX12_location_22   g x0 x1 x2 n sl SH FI FL FR v s → kq mGX12_location_22 (n, sl, SH, FI, FL, FR) s := by
  intro g
  induction g with
  | zero => intro x0 x1 x2 n sl SH FI FL FR v s h; exact h.elim
  | succ g ih => intro x0 x1 x2 n sl SH FI FL FR v s h; exact kBX12_location_22 ih h
theorem kX12_location_22  {l1i : Int32} {l2i : Int32} {l3i : Int32} {n sl : Nat} {SH : Nat → Nat × Nat} {FI : Nat → Nat → Int32} {FL : Nat → Nat → Int64} {FR : Nat → Nat → Option Nat}  {v : Unit} {s : hS} (h : RX12_location_22  l1i l2i l3i n sl SH FI FL FR v s) : kq mX12_location_22 (n, sl, SH, FI, FL, FR) s := by
  obtain ⟨g, h⟩ := h
  exact kGX12_location_22  g _ _ _ _ _ _ _ _ _ _ _ h
theorem kX12_location   {n sl : Nat} {SH : Nat → Nat × Nat} {FI : Nat → Nat → Int32} {FL : Nat → Nat → Int64} {FR : Nat → Nat → Option Nat}  {v : Unit} {s : hS} (h : RX12_location   n sl SH FI FL FR v s) : kq mX12_location (n, sl, SH, FI, FL, FR) s := by
  rcases h with ⟨-, h⟩ | ⟨-, h⟩
  · skip
    rcases h with ⟨-, h⟩ | ⟨-, h⟩
    · skip
      obtain ⟨v4, n4, sl4, SH4, FI4, FL4, FR4, hc, h⟩ := h
      have q1 : kq mX12_location (n, sl, SH, FI, FL, FR) (n4, sl4, SH4, FI4, FL4, FR4) := kq_tr kq_rf (kq_mono (kX12_fail hc) (by decide))
      clear hc
      exact kq_tr q1 (kq_mono (kX12_location_235  h) (by decide))
    · skip
      obtain ⟨v5, n5, sl5, SH5, FI5, FL5, FR5, hc, h⟩ := h
      have q2 : kq mX12_location (n, sl, SH, FI, FL, FR) (n5, sl5, SH5, FI5, FL5, FR5) := kq_tr kq_rf (kq_mono (kX12_place hc) (by decide))
      clear hc
      exact kq_tr q2 (kq_mono (kX12_location_235  h) (by decide))
  · skip
    obtain ⟨v6, n6, sl6, SH6, FI6, FL6, FR6, hc, h⟩ := h
    have q3 : kq mX12_location (n, sl, SH, FI, FL, FR) (n6, sl6, SH6, FI6, FL6, FR6) := kq_tr kq_rf (kq_mono (kX12_opens hc) (by decide))
    clear hc
    exact kq_tr q3 (kq_mono (kX12_location_22  h) (by decide))
theorem kX12_rows_318 {K2 : Int32 → Nat → Nat → (Nat → Nat × Nat) → (Nat → Nat → Int32) → (Nat → Nat → Int64) → (Nat → Nat → Option Nat) → Unit → hS → Prop} {l1i : Int32} {n sl : Nat} {SH : Nat → Nat × Nat} {FI : Nat → Nat → Int32} {FL : Nat → Nat → Int64} {FR : Nat → Nat → Option Nat} (hK2 : ∀ x0 n sl SH FI FL FR v s, K2 x0 n sl SH FI FL FR v s → kq mBX12_rows_2 (n, sl, SH, FI, FL, FR) s) {v : Unit} {s : hS} (h : RX12_rows_318 K2 l1i n sl SH FI FL FR v s) : kq mX12_rows_318 (n, sl, SH, FI, FL, FR) s := by
  exact kq_tr kq_rf (kq_mono (hK2 _ _ _ _ _ _ _ _ _ h) (by decide))
theorem kX12_rows_303 {K2 : Int32 → Nat → Nat → (Nat → Nat × Nat) → (Nat → Nat → Int32) → (Nat → Nat → Int64) → (Nat → Nat → Option Nat) → Unit → hS → Prop} {s0i : Int32} {n sl : Nat} {SH : Nat → Nat × Nat} {FI : Nat → Nat → Int32} {FL : Nat → Nat → Int64} {FR : Nat → Nat → Option Nat} (hK2 : ∀ x0 n sl SH FI FL FR v s, K2 x0 n sl SH FI FL FR v s → kq mBX12_rows_2 (n, sl, SH, FI, FL, FR) s) {v : Unit} {s : hS} (h : RX12_rows_303 K2 s0i n sl SH FI FL FR v s) : kq mX12_rows_303 (n, sl, SH, FI, FL, FR) s := by
  rcases h with ⟨-, h⟩ | ⟨-, h⟩
  · skip
    exact kq_tr kq_rf (kq_mono (kX12_rows_318 hK2 h) (by decide))
  · skip
    exact kq_tr (kq_if kq_rf (by decide) (by decide)) (kq_mono (kX12_rows_318 hK2 h) (by decide))
theorem kX12_rows_302 {K2 : Int32 → Nat → Nat → (Nat → Nat × Nat) → (Nat → Nat → Int32) → (Nat → Nat → Int64) → (Nat → Nat → Option Nat) → Unit → hS → Prop}  {n sl : Nat} {SH : Nat → Nat × Nat} {FI : Nat → Nat → Int32} {FL : Nat → Nat → Int64} {FR : Nat → Nat → Option Nat} (hK2 : ∀ x0 n sl SH FI FL FR v s, K2 x0 n sl SH FI FL FR v s → kq mBX12_rows_2 (n, sl, SH, FI, FL, FR) s) {v : Unit} {s : hS} (h : RX12_rows_302 K2  n sl SH FI FL FR v s) : kq mX12_rows_302 (n, sl, SH, FI, FL, FR) s := by
  exact kq_tr kq_rf (kq_mono (kX12_rows_303 hK2 h) (by decide))
theorem kX12_rows_262 {K2 : Int32 → Nat → Nat → (Nat → Nat × Nat) → (Nat → Nat → Int32) → (Nat → Nat → Int64) → (Nat → Nat → Option Nat) → Unit → hS → Prop}  {n sl : Nat} {SH : Nat → Nat × Nat} {FI : Nat → Nat → Int32} {FL : Nat → Nat → Int64} {FR : Nat → Nat → Option Nat} (hK2 : ∀ x0 n sl SH FI FL FR v s, K2 x0 n sl SH FI FL FR v s → kq mBX12_rows_2 (n, sl, SH, FI, FL, FR) s) {v : Unit} {s : hS} (h : RX12_rows_262 K2  n sl SH FI FL FR v s) : kq mX12_rows_262 (n, sl, SH, FI, FL, FR) s := by
  replace h := h.2
  replace h := h.2
  rcases h with ⟨-, h⟩ | ⟨-, h⟩
  · skip
    rcases h with ⟨-, h⟩ | ⟨-, h⟩
    · skip
      exact kq_tr (kq_ia kq_rf (by decide) (by decide)) (kq_mono (kX12_rows_302 hK2 h) (by decide))
    · skip
      exact kq_tr (kq_ia kq_rf (by decide) (by decide)) (kq_mono (kX12_rows_303 hK2 h) (by decide))
  · skip
    exact kq_tr (kq_ia kq_rf (by decide) (by decide)) (kq_mono (kX12_rows_302 hK2 h) (by decide))
theorem kX12_rows_140 {K2 : Int32 → Nat → Nat → (Nat → Nat × Nat) → (Nat → Nat → Int32) → (Nat → Nat → Int64) → (Nat → Nat → Option Nat) → Unit → hS → Prop} {l2l : Int64} {n sl : Nat} {SH : Nat → Nat × Nat} {FI : Nat → Nat → Int32} {FL : Nat → Nat → Int64} {FR : Nat → Nat → Option Nat} (hK2 : ∀ x0 n sl SH FI FL FR v s, K2 x0 n sl SH FI FL FR v s → kq mBX12_rows_2 (n, sl, SH, FI, FL, FR) s) {v : Unit} {s : hS} (h : RX12_rows_140 K2 l2l n sl SH FI FL FR v s) : kq mX12_rows_140 (n, sl, SH, FI, FL, FR) s := by
  rcases h with ⟨-, h⟩ | ⟨-, h⟩
  · skip
    obtain ⟨v1, n1, sl1, SH1, FI1, FL1, FR1, hc, h⟩ := h
    have q1 : kq mX12_rows_140 (n, sl, SH, FI, FL, FR) (n1, sl1, SH1, FI1, FL1, FR1) := kq_tr kq_rf (kq_mono (kX12_emits hc) (by decide))
    clear hc
    replace h := h.2
    obtain ⟨v2, n2, sl2, SH2, FI2, FL2, FR2, hc, h⟩ := h
    have q2 : kq mX12_rows_140 (n, sl, SH, FI, FL, FR) (n2, sl2, SH2, FI2, FL2, FR2) := kq_tr q1 (kq_mono (kX12_emits hc) (by decide))
    clear hc
    obtain ⟨v4, n4, sl4, SH4, FI4, FL4, FR4, hc, h⟩ := h
    have q3 : kq mX12_rows_140 (n, sl, SH, FI, FL, FR) (n4, sl4, SH4, FI4, FL4, FR4) := kq_tr (kq_if q2 (by decide) (by decide)) (kq_mono (kX12_need hc) (by decide))
    clear hc
    obtain ⟨v5, n5, sl5, SH5, FI5, FL5, FR5, hc, h⟩ := h
    have q4 : kq mX12_rows_140 (n, sl, SH, FI, FL, FR) (n5, sl5, SH5, FI5, FL5, FR5) := kq_tr q3 (kq_mono (kX12_emits hc) (by decide))
    clear hc
    rcases h with ⟨-, h⟩ | ⟨-, h⟩
    · skip
      obtain ⟨v7, n7, sl7, SH7, FI7, FL7, FR7, hc, h⟩ := h
      have q5 : kq mX12_rows_140 (n, sl, SH, FI, FL, FR) (n7, sl7, SH7, FI7, FL7, FR7) := kq_tr q4 (kq_mono (kX12_location hc) (by decide))
      clear hc
      rcases h with ⟨-, h⟩ | ⟨-, h⟩
      · skip
        exact kq_tr q5 (kq_mono (kX12_rows_262 hK2 h) (by decide))
      · skip
        replace h := h.2
        replace h := h.2
        exact kq_tr (kq_ia (kq_ia q5 (by decide) (by decide)) (by decide) (by decide)) (kq_mono (kX12_rows_262 hK2 h) (by decide))
    · skip
      obtain ⟨-, rfl⟩ := h
      exact q4
  · skip
    obtain ⟨-, rfl⟩ := h
    exact kq_rf
theorem kX12_rows_114 {K2 : Int32 → Nat → Nat → (Nat → Nat × Nat) → (Nat → Nat → Int32) → (Nat → Nat → Int64) → (Nat → Nat → Option Nat) → Unit → hS → Prop} {l2l : Int64} {n sl : Nat} {SH : Nat → Nat × Nat} {FI : Nat → Nat → Int32} {FL : Nat → Nat → Int64} {FR : Nat → Nat → Option Nat} (hK2 : ∀ x0 n sl SH FI FL FR v s, K2 x0 n sl SH FI FL FR v s → kq mBX12_rows_2 (n, sl, SH, FI, FL, FR) s) {v : Unit} {s : hS} (h : RX12_rows_114 K2 l2l n sl SH FI FL FR v s) : kq mX12_rows_114 (n, sl, SH, FI, FL, FR) s := by
  rcases h with ⟨-, h⟩ | ⟨-, h⟩
  · skip
    replace h := h.2
    rcases h with ⟨-, h⟩ | ⟨-, h⟩
    · skip
      exact kq_tr kq_rf (kq_mono (kX12_rows_140 hK2 h) (by decide))
    · skip
      obtain ⟨v2, n2, sl2, SH2, FI2, FL2, FR2, hc, h⟩ := h
      have q1 : kq mX12_rows_114 (n, sl, SH, FI, FL, FR) (n2, sl2, SH2, FI2, FL2, FR2) := kq_tr kq_rf (kq_mono (kX12_fail hc) (by decide))
      clear hc
      exact kq_tr q1 (kq_mono (kX12_rows_140 hK2 h) (by decide))
  · skip
    exact kq_tr kq_rf (kq_mono (kX12_rows_140 hK2 h) (by decide))
theorem kX12_rows_54 {K2 : Int32 → Nat → Nat → (Nat → Nat × Nat) → (Nat → Nat → Int32) → (Nat → Nat → Int64) → (Nat → Nat → Option Nat) → Unit → hS → Prop}  {n sl : Nat} {SH : Nat → Nat × Nat} {FI : Nat → Nat → Int32} {FL : Nat → Nat → Int64} {FR : Nat → Nat → Option Nat} (hK2 : ∀ x0 n sl SH FI FL FR v s, K2 x0 n sl SH FI FL FR v s → kq mBX12_rows_2 (n, sl, SH, FI, FL, FR) s) {v : Unit} {s : hS} (h : RX12_rows_54 K2  n sl SH FI FL FR v s) : kq mX12_rows_54 (n, sl, SH, FI, FL, FR) s := by
  rcases h with ⟨-, h⟩ | ⟨-, h⟩
  · skip
    replace h := h.2
    obtain ⟨v2, n2, sl2, SH2, FI2, FL2, FR2, hc, h⟩ := h
    have q1 : kq mX12_rows_54 (n, sl, SH, FI, FL, FR) (n2, sl2, SH2, FI2, FL2, FR2) := kq_tr (kq_if kq_rf (by decide) (by decide)) (kq_mono (kX12_need hc) (by decide))
    clear hc
    rcases h with ⟨-, h⟩ | ⟨-, h⟩
    · skip
      replace h := h.2
      rcases h with ⟨-, h⟩ | ⟨-, h⟩
      · skip
        exact kq_tr q1 (kq_mono (kX12_rows_114 hK2 h) (by decide))
      · skip
        obtain ⟨v5, n5, sl5, SH5, FI5, FL5, FR5, hc, h⟩ := h
        have q2 : kq mX12_rows_54 (n, sl, SH, FI, FL, FR) (n5, sl5, SH5, FI5, FL5, FR5) := kq_tr q1 (kq_mono (kX12_fail hc) (by decide))
        clear hc
        exact kq_tr q2 (kq_mono (kX12_rows_114 hK2 h) (by decide))
    · skip
      exact kq_tr q1 (kq_mono (kX12_rows_114 hK2 h) (by decide))
  · skip
    obtain ⟨-, rfl⟩ := h
    exact kq_rf
theorem kBX12_rows_2 {K2 : Int32 → Nat → Nat → (Nat → Nat × Nat) → (Nat → Nat → Int32) → (Nat → Nat → Int64) → (Nat → Nat → Option Nat) → Unit → hS → Prop} {l1i : Int32} {n sl : Nat} {SH : Nat → Nat × Nat} {FI : Nat → Nat → Int32} {FL : Nat → Nat → Int64} {FR : Nat → Nat → Option Nat} (hK2 : ∀ x0 n sl SH FI FL FR v s, K2 x0 n sl SH FI FL FR v s → kq mBX12_rows_2 (n, sl, SH, FI, FL, FR) s) {v : Unit} {s : hS} (h : BX12_rows_2 K2 l1i n sl SH FI FL FR v s) : kq mBX12_rows_2 (n, sl, SH, FI, FL, FR) s := by
  rcases h with ⟨-, h⟩ | ⟨-, h⟩
  · skip
    obtain ⟨v1, n1, sl1, SH1, FI1, FL1, FR1, hc, h⟩ := h
    have q1 : kq mBX12_rows_2 (n, sl, SH, FI, FL, FR) (n1, sl1, SH1, FI1, FL1, FR1) := kq_tr kq_rf (kq_mono (kX12_emits hc) (by decide))
    clear hc
    obtain ⟨v2, n2, sl2, SH2, FI2, FL2, FR2, hc, h⟩ := h
    have q2 : kq mBX12_rows_2 (n, sl, SH, FI, FL, FR) (n2, sl2, SH2, FI2, FL2, FR2) := kq_tr q1 (kq_mono (kX12_emits hc) (by decide))
    clear hc
    obtain ⟨-, rfl⟩ := h
    exact q2
  · skip
    rcases h with ⟨-, h⟩ | ⟨-, h⟩
    · skip
      replace h := h.2
      rcases h with ⟨-, h⟩ | ⟨-, h⟩
      · skip
        replace h := h.2
        rcases h with ⟨-, h⟩ | ⟨-, h⟩
        · skip
          obtain ⟨v6, n6, sl6, SH6, FI6, FL6, FR6, hc, h⟩ := h
          have q3 : kq mBX12_rows_2 (n, sl, SH, FI, FL, FR) (n6, sl6, SH6, FI6, FL6, FR6) := kq_tr kq_rf (kq_mono (kX12_fail hc) (by decide))
          clear hc
          exact kq_tr q3 (kq_mono (kX12_rows_54 hK2 h) (by decide))
        · skip
          exact kq_tr kq_rf (kq_mono (kX12_rows_54 hK2 h) (by decide))
      · skip
        obtain ⟨v7, n7, sl7, SH7, FI7, FL7, FR7, hc, h⟩ := h
        have q4 : kq mBX12_rows_2 (n, sl, SH, FI, FL, FR) (n7, sl7, SH7, FI7, FL7, FR7) := kq_tr kq_rf (kq_mono (kX12_fail hc) (by decide))
        clear hc
        exact kq_tr q4 (kq_mono (kX12_rows_54 hK2 h) (by decide))
    · skip
      obtain ⟨v8, n8, sl8, SH8, FI8, FL8, FR8, hc, h⟩ := h
      have q5 : kq mBX12_rows_2 (n, sl, SH, FI, FL, FR) (n8, sl8, SH8, FI8, FL8, FR8) := kq_tr kq_rf (kq_mono (kX12_emits hc) (by decide))
      clear hc
      obtain ⟨v9, n9, sl9, SH9, FI9, FL9, FR9, hc, h⟩ := h
      have q6 : kq mBX12_rows_2 (n, sl, SH, FI, FL, FR) (n9, sl9, SH9, FI9, FL9, FR9) := kq_tr q5 (kq_mono (kX12_emits hc) (by decide))
      clear hc
      obtain ⟨-, rfl⟩ := h
      exact q6
theorem kGX12_rows_2    : ∀ g x0 n sl SH FI FL FR v s, GX12_rows_2   g x0 n sl SH FI FL FR v s → kq mGX12_rows_2 (n, sl, SH, FI, FL, FR) s := by
  intro g
  induction g with
  | zero => intro x0 n sl SH FI FL FR v s h; exact h.elim
  | succ g ih => intro x0 n sl SH FI FL FR v s h; exact kBX12_rows_2 ih h
theorem kX12_rows_2  {l1i : Int32} {n sl : Nat} {SH : Nat → Nat × Nat} {FI : Nat → Nat → Int32} {FL : Nat → Nat → Int64} {FR : Nat → Nat → Option Nat}  {v : Unit} {s : hS} (h : RX12_rows_2  l1i n sl SH FI FL FR v s) : kq mX12_rows_2 (n, sl, SH, FI, FL, FR) s := by
  obtain ⟨g, h⟩ := h
  exact kGX12_rows_2  g _ _ _ _ _ _ _ _ _ h
theorem kX12_rows   {n sl : Nat} {SH : Nat → Nat × Nat} {FI : Nat → Nat → Int32} {FL : Nat → Nat → Int64} {FR : Nat → Nat → Option Nat}  {v : Unit} {s : hS} (h : RX12_rows   n sl SH FI FL FR v s) : kq mX12_rows (n, sl, SH, FI, FL, FR) s := by
  exact kq_tr kq_rf (kq_mono (kX12_rows_2  h) (by decide))
theorem kX12_declared_53 {K21 : Int32 → Nat → Nat → (Nat → Nat × Nat) → (Nat → Nat → Int32) → (Nat → Nat → Int64) → (Nat → Nat → Option Nat) → Unit → hS → Prop} {l1i : Int32} {n sl : Nat} {SH : Nat → Nat × Nat} {FI : Nat → Nat → Int32} {FL : Nat → Nat → Int64} {FR : Nat → Nat → Option Nat} (hK21 : ∀ x0 n sl SH FI FL FR v s, K21 x0 n sl SH FI FL FR v s → kq mBX12_declared_21 (n, sl, SH, FI, FL, FR) s) {v : Unit} {s : hS} (h : RX12_declared_53 K21 l1i n sl SH FI FL FR v s) : kq mX12_declared_53 (n, sl, SH, FI, FL, FR) s := by
  exact kq_tr kq_rf (kq_mono (hK21 _ _ _ _ _ _ _ _ _ h) (by decide))
theorem kX12_declared_223   {n sl : Nat} {SH : Nat → Nat × Nat} {FI : Nat → Nat → Int32} {FL : Nat → Nat → Int64} {FR : Nat → Nat → Option Nat}  {v : Unit} {s : hS} (h : RX12_declared_223   n sl SH FI FL FR v s) : kq mX12_declared_223 (n, sl, SH, FI, FL, FR) s := by
  obtain ⟨v0, n0, sl0, SH0, FI0, FL0, FR0, hc, h⟩ := h
  have q1 : kq mX12_declared_223 (n, sl, SH, FI, FL, FR) (n0, sl0, SH0, FI0, FL0, FR0) := kq_tr kq_rf (kq_mono (kX12_need hc) (by decide))
  clear hc
  replace h := h.2
  obtain ⟨-, rfl⟩ := h
  exact (kq_ia (kq_if q1 (by decide) (by decide)) (by decide) (by decide))
theorem kX12_declared_212   {n sl : Nat} {SH : Nat → Nat × Nat} {FI : Nat → Nat → Int32} {FL : Nat → Nat → Int64} {FR : Nat → Nat → Option Nat}  {v : Unit} {s : hS} (h : RX12_declared_212   n sl SH FI FL FR v s) : kq mX12_declared_212 (n, sl, SH, FI, FL, FR) s := by
  rcases h with ⟨-, h⟩ | ⟨-, h⟩
  · skip
    obtain ⟨v1, n1, sl1, SH1, FI1, FL1, FR1, hc, h⟩ := h
    have q1 : kq mX12_declared_212 (n, sl, SH, FI, FL, FR) (n1, sl1, SH1, FI1, FL1, FR1) := kq_tr kq_rf (kq_mono (kX12_location hc) (by decide))
    clear hc
    exact kq_tr q1 (kq_mono (kX12_declared_223  h) (by decide))
  · skip
    exact kq_tr kq_rf (kq_mono (kX12_declared_223  h) (by decide))
theorem kX12_declared_74   {n sl : Nat} {SH : Nat → Nat × Nat} {FI : Nat → Nat → Int32} {FL : Nat → Nat → Int64} {FR : Nat → Nat → Option Nat}  {v : Unit} {s : hS} (h : RX12_declared_74   n sl SH FI FL FR v s) : kq mX12_declared_74 (n, sl, SH, FI, FL, FR) s := by
  rcases h with ⟨-, h⟩ | ⟨-, h⟩
  · skip
    replace h := h.2
    replace h := h.2
    replace h := h.2
    replace h := h.2
    replace h := h.2
    replace h := h.2
    replace h := h.2
    obtain ⟨v2, n2, sl2, SH2, FI2, FL2, FR2, hc, h⟩ := h
    have q1 : kq mX12_declared_74 (n, sl, SH, FI, FL, FR) (n2, sl2, SH2, FI2, FL2, FR2) := kq_tr (kq_la (kq_if (kq_ia (kq_ia (kq_ia (kq_ia kq_rf (by decide) (by decide)) (by decide) (by decide)) (by decide) (by decide)) (by decide) (by decide)) (by decide) (by decide)) (by decide)) (kq_mono (kX12_need hc) (by decide))
    clear hc
    replace h := h.2
    rcases h with ⟨-, h⟩ | ⟨-, h⟩
    · skip
      replace h := h.2
      rcases h with ⟨-, h⟩ | ⟨-, h⟩
      · skip
        obtain ⟨v6, n6, sl6, SH6, FI6, FL6, FR6, hc, h⟩ := h
        have q2 : kq mX12_declared_74 (n, sl, SH, FI, FL, FR) (n6, sl6, SH6, FI6, FL6, FR6) := kq_tr (kq_if (kq_ia q1 (by decide) (by decide)) (by decide) (by decide)) (kq_mono (kX12_rows hc) (by decide))
        clear hc
        exact kq_tr q2 (kq_mono (kX12_declared_223  h) (by decide))
      · skip
        exact kq_tr (kq_if (kq_ia q1 (by decide) (by decide)) (by decide) (by decide)) (kq_mono (kX12_declared_212  h) (by decide))
    · skip
      exact kq_tr (kq_if (kq_ia q1 (by decide) (by decide)) (by decide) (by decide)) (kq_mono (kX12_declared_212  h) (by decide))
  · skip
    obtain ⟨-, rfl⟩ := h
    exact kq_rf
theorem kBX12_declared_21 {K21 : Int32 → Nat → Nat → (Nat → Nat × Nat) → (Nat → Nat → Int32) → (Nat → Nat → Int64) → (Nat → Nat → Option Nat) → Unit → hS → Prop} {l1i : Int32} {n sl : Nat} {SH : Nat → Nat × Nat} {FI : Nat → Nat → Int32} {FL : Nat → Nat → Int64} {FR : Nat → Nat → Option Nat} (hK21 : ∀ x0 n sl SH FI FL FR v s, K21 x0 n sl SH FI FL FR v s → kq mBX12_declared_21 (n, sl, SH, FI, FL, FR) s) {v : Unit} {s : hS} (h : BX12_declared_21 K21 l1i n sl SH FI FL FR v s) : kq mBX12_declared_21 (n, sl, SH, FI, FL, FR) s := by
  rcases h with ⟨-, h⟩ | ⟨-, h⟩
  · skip
    replace h := h.2
    replace h := h.2
    rcases h with ⟨-, h⟩ | ⟨-, h⟩
    · skip
      obtain ⟨v2, n2, sl2, SH2, FI2, FL2, FR2, hc, h⟩ := h
      have q1 : kq mBX12_declared_21 (n, sl, SH, FI, FL, FR) (n2, sl2, SH2, FI2, FL2, FR2) := kq_tr kq_rf (kq_mono (kX12_fail hc) (by decide))
      clear hc
      exact kq_tr q1 (kq_mono (kX12_declared_53 hK21 h) (by decide))
    · skip
      exact kq_tr kq_rf (kq_mono (kX12_declared_53 hK21 h) (by decide))
  · skip
    rcases h with ⟨-, h⟩ | ⟨-, h⟩
    · skip
      obtain ⟨v4, n4, sl4, SH4, FI4, FL4, FR4, hc, h⟩ := h
      have q2 : kq mBX12_declared_21 (n, sl, SH, FI, FL, FR) (n4, sl4, SH4, FI4, FL4, FR4) := kq_tr kq_rf (kq_mono (kX12_fail hc) (by decide))
      clear hc
      exact kq_tr q2 (kq_mono (kX12_declared_74  h) (by decide))
    · skip
      exact kq_tr kq_rf (kq_mono (kX12_declared_74  h) (by decide))
theorem kGX12_declared_21    : ∀ g x0 n sl SH FI FL FR v s, GX12_declared_21   g x0 n sl SH FI FL FR v s → kq mGX12_declared_21 (n, sl, SH, FI, FL, FR) s := by
  intro g
  induction g with
  | zero => intro x0 n sl SH FI FL FR v s h; exact h.elim
  | succ g ih => intro x0 n sl SH FI FL FR v s h; exact kBX12_declared_21 ih h
theorem kX12_declared_21  {l1i : Int32} {n sl : Nat} {SH : Nat → Nat × Nat} {FI : Nat → Nat → Int32} {FL : Nat → Nat → Int64} {FR : Nat → Nat → Option Nat}  {v : Unit} {s : hS} (h : RX12_declared_21  l1i n sl SH FI FL FR v s) : kq mX12_declared_21 (n, sl, SH, FI, FL, FR) s := by
  obtain ⟨g, h⟩ := h
  exact kGX12_declared_21  g _ _ _ _ _ _ _ _ _ h
theorem kX12_declared   {n sl : Nat} {SH : Nat → Nat × Nat} {FI : Nat → Nat → Int32} {FL : Nat → Nat → Int64} {FR : Nat → Nat → Option Nat}  {v : Unit} {s : hS} (h : RX12_declared   n sl SH FI FL FR v s) : kq mX12_declared (n, sl, SH, FI, FL, FR) s := by
  replace h := h.2
  rcases h with ⟨-, h⟩ | ⟨-, h⟩
  · skip
    exact kq_tr kq_rf (kq_mono (kX12_declared_21  h) (by decide))
  · skip
    obtain ⟨v1, n1, sl1, SH1, FI1, FL1, FR1, hc, h⟩ := h
    have q1 : kq mX12_declared (n, sl, SH, FI, FL, FR) (n1, sl1, SH1, FI1, FL1, FR1) := kq_tr kq_rf (kq_mono (kX12_fail hc) (by decide))
    clear hc
    obtain ⟨-, rfl⟩ := h
    exact q1
theorem kX12_tells  {a1 : Int32} {a2 : Int32} {n sl : Nat} {SH : Nat → Nat × Nat} {FI : Nat → Nat → Int32} {FL : Nat → Nat → Int64} {FR : Nat → Nat → Option Nat}  {v : Int32} {s : hS} (h : RX12_tells  a1 a2 n sl SH FI FL FR v s) : kq mX12_tells (n, sl, SH, FI, FL, FR) s := by
  rcases h with ⟨-, h⟩ | ⟨-, h⟩
  · skip
    obtain ⟨-, rfl⟩ := h
    exact (kq_if (kq_if (kq_if (kq_if (kq_if kq_rf (by decide) (by decide)) (by decide) (by decide)) (by decide) (by decide)) (by decide) (by decide)) (by decide) (by decide))
  · skip
    obtain ⟨-, rfl⟩ := h
    exact (kq_if (kq_if (kq_if (kq_if (kq_if kq_rf (by decide) (by decide)) (by decide) (by decide)) (by decide) (by decide)) (by decide) (by decide)) (by decide) (by decide))
theorem kX12_faulty  {a1 : Int32} {a2 : Int32} {n sl : Nat} {SH : Nat → Nat × Nat} {FI : Nat → Nat → Int32} {FL : Nat → Nat → Int64} {FR : Nat → Nat → Option Nat}  {v : Int32} {s : hS} (h : RX12_faulty  a1 a2 n sl SH FI FL FR v s) : kq mX12_faulty (n, sl, SH, FI, FL, FR) s := by
  obtain ⟨v2, n2, sl2, SH2, FI2, FL2, FR2, hc, h⟩ := h
  have q1 : kq mX12_faulty (n, sl, SH, FI, FL, FR) (n2, sl2, SH2, FI2, FL2, FR2) := kq_tr (kq_if (kq_if kq_rf (by decide) (by decide)) (by decide) (by decide)) (kq_mono (kX12_tells hc) (by decide))
  clear hc
  obtain ⟨-, rfl⟩ := h
  exact q1
theorem kX12_variable_167  {a1 : Int32} {a2 : Int32} {n sl : Nat} {SH : Nat → Nat × Nat} {FI : Nat → Nat → Int32} {FL : Nat → Nat → Int64} {FR : Nat → Nat → Option Nat}  {v : Int32} {s : hS} (h : RX12_variable_167  a1 a2 n sl SH FI FL FR v s) : kq mX12_variable_167 (n, sl, SH, FI, FL, FR) s := by
  rcases h with ⟨-, h⟩ | ⟨-, h⟩
  · skip
    obtain ⟨-, rfl⟩ := h
    exact kq_rf
  · skip
    rcases h with ⟨-, h⟩ | ⟨-, h⟩
    · skip
      replace h := h.2
      rcases h with ⟨-, h⟩ | ⟨-, h⟩
      · skip
        replace h := h.2
        obtain ⟨-, rfl⟩ := h
        exact kq_rf
      · skip
        obtain ⟨-, rfl⟩ := h
        exact kq_rf
    · skip
      obtain ⟨-, rfl⟩ := h
      exact kq_rf
theorem kBX12_variable_115 {K115 : Int32 → Int64 → Int32 → Nat → Nat → (Nat → Nat × Nat) → (Nat → Nat → Int32) → (Nat → Nat → Int64) → (Nat → Nat → Option Nat) → Int32 → hS → Prop} {a1 : Int32} {a2 : Int32} {l3i : Int32} {l4l : Int64} {l6i : Int32} {n sl : Nat} {SH : Nat → Nat × Nat} {FI : Nat → Nat → Int32} {FL : Nat → Nat → Int64} {FR : Nat → Nat → Option Nat} (hK115 : ∀ x0 x1 x2 n sl SH FI FL FR v s, K115 x0 x1 x2 n sl SH FI FL FR v s → kq mBX12_variable_115 (n, sl, SH, FI, FL, FR) s) {v : Int32} {s : hS} (h : BX12_variable_115 K115 a1 a2 l3i l4l l6i n sl SH FI FL FR v s) : kq mBX12_variable_115 (n, sl, SH, FI, FL, FR) s := by
  rcases h with ⟨-, h⟩ | ⟨-, h⟩
  · skip
    replace h := h.2
    exact kq_tr kq_rf (kq_mono (hK115 _ _ _ _ _ _ _ _ _ _ _ h) (by decide))
  · skip
    replace h := h.2
    rcases h with ⟨-, h⟩ | ⟨-, h⟩
    · skip
      obtain ⟨-, rfl⟩ := h
      exact kq_rf
    · skip
      obtain ⟨-, rfl⟩ := h
      exact kq_rf
theorem kGX12_variable_115  {a1 : Int32} {a2 : Int32}  : ∀ g x0 x1 x2 n sl SH FI FL FR v s, GX12_variable_115  a1 a2 g x0 x1 x2 n sl SH FI FL FR v s → kq mGX12_variable_115 (n, sl, SH, FI, FL, FR) s := by
  intro g
  induction g with
  | zero => intro x0 x1 x2 n sl SH FI FL FR v s h; exact h.elim
  | succ g ih => intro x0 x1 x2 n sl SH FI FL FR v s h; exact kBX12_variable_115 ih h
theorem kX12_variable_115  {a1 : Int32} {a2 : Int32} {l3i : Int32} {l4l : Int64} {l6i : Int32} {n sl : Nat} {SH : Nat → Nat × Nat} {FI : Nat → Nat → Int32} {FL : Nat → Nat → Int64} {FR : Nat → Nat → Option Nat}  {v : Int32} {s : hS} (h : RX12_variable_115  a1 a2 l3i l4l l6i n sl SH FI FL FR v s) : kq mX12_variable_115 (n, sl, SH, FI, FL, FR) s := by
  obtain ⟨g, h⟩ := h
  exact kGX12_variable_115  g _ _ _ _ _ _ _ _ _ _ _ h
theorem kBX12_variable_29 {K29 : Int32 → Int64 → Nat → Nat → (Nat → Nat × Nat) → (Nat → Nat → Int32) → (Nat → Nat → Int64) → (Nat → Nat → Option Nat) → Int32 → hS → Prop} {a1 : Int32} {a2 : Int32} {l3i : Int32} {l4l : Int64} {n sl : Nat} {SH : Nat → Nat × Nat} {FI : Nat → Nat → Int32} {FL : Nat → Nat → Int64} {FR : Nat → Nat → Option Nat} (hK29 : ∀ x0 x1 n sl SH FI FL FR v s, K29 x0 x1 n sl SH FI FL FR v s → kq mBX12_variable_29 (n, sl, SH, FI, FL, FR) s) {v : Int32} {s : hS} (h : BX12_variable_29 K29 a1 a2 l3i l4l n sl SH FI FL FR v s) : kq mBX12_variable_29 (n, sl, SH, FI, FL, FR) s := by
  rcases h with ⟨-, h⟩ | ⟨-, h⟩
  · skip
    replace h := h.2
    exact kq_tr kq_rf (kq_mono (hK29 _ _ _ _ _ _ _ _ _ _ h) (by decide))
  · skip
    rcases h with ⟨-, h⟩ | ⟨-, h⟩
    · skip
      replace h := h.2
      obtain ⟨-, rfl⟩ := h
      exact kq_rf
    · skip
      rcases h with ⟨-, h⟩ | ⟨-, h⟩
      · skip
        replace h := h.2
        obtain ⟨-, rfl⟩ := h
        exact kq_rf
      · skip
        rcases h with ⟨-, h⟩ | ⟨-, h⟩
        · skip
          obtain ⟨-, rfl⟩ := h
          exact kq_rf
        · skip
          rcases h with ⟨-, h⟩ | ⟨-, h⟩
          · skip
            exact kq_tr kq_rf (kq_mono (kX12_variable_167  h) (by decide))
          · skip
            rcases h with ⟨-, h⟩ | ⟨-, h⟩
            · skip
              replace h := h.2
              exact kq_tr kq_rf (kq_mono (kX12_variable_115  h) (by decide))
            · skip
              exact kq_tr kq_rf (kq_mono (kX12_variable_167  h) (by decide))
theorem kGX12_variable_29  {a1 : Int32} {a2 : Int32}  : ∀ g x0 x1 n sl SH FI FL FR v s, GX12_variable_29  a1 a2 g x0 x1 n sl SH FI FL FR v s → kq mGX12_variable_29 (n, sl, SH, FI, FL, FR) s := by
  intro g
  induction g with
  | zero => intro x0 x1 n sl SH FI FL FR v s h; exact h.elim
  | succ g ih => intro x0 x1 n sl SH FI FL FR v s h; exact kBX12_variable_29 ih h
theorem kX12_variable_29  {a1 : Int32} {a2 : Int32} {l3i : Int32} {l4l : Int64} {n sl : Nat} {SH : Nat → Nat × Nat} {FI : Nat → Nat → Int32} {FL : Nat → Nat → Int64} {FR : Nat → Nat → Option Nat}  {v : Int32} {s : hS} (h : RX12_variable_29  a1 a2 l3i l4l n sl SH FI FL FR v s) : kq mX12_variable_29 (n, sl, SH, FI, FL, FR) s := by
  obtain ⟨g, h⟩ := h
  exact kGX12_variable_29  g _ _ _ _ _ _ _ _ _ _ h
theorem kX12_variable  {a1 : Int32} {a2 : Int32} {n sl : Nat} {SH : Nat → Nat × Nat} {FI : Nat → Nat → Int32} {FL : Nat → Nat → Int64} {FR : Nat → Nat → Option Nat}  {v : Int32} {s : hS} (h : RX12_variable  a1 a2 n sl SH FI FL FR v s) : kq mX12_variable (n, sl, SH, FI, FL, FR) s := by
  rcases h with ⟨-, h⟩ | ⟨-, h⟩
  · skip
    obtain ⟨-, rfl⟩ := h
    exact (kq_if kq_rf (by decide) (by decide))
  · skip
    rcases h with ⟨-, h⟩ | ⟨-, h⟩
    · skip
      replace h := h.2
      exact kq_tr (kq_if kq_rf (by decide) (by decide)) (kq_mono (kX12_variable_29  h) (by decide))
    · skip
      obtain ⟨-, rfl⟩ := h
      exact (kq_if kq_rf (by decide) (by decide))
