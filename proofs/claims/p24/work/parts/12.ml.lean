section
def x_ml_0 : List (MethodName × ByteArray × Nat × Option FieldType) := [(x, code, 4, some .boolean), (yX0_init, cX0_init, 1, none), (yX0_code, cX0_code, 5, (some (.array .int))), (yX0_putLocation, cX0_putLocation, 4, (some .boolean)), (yX0_putPlace, cX0_putPlace, 2, none), (yX0_putBlock, cX0_putBlock, 3, none), (yX0_putNode, cX0_putNode, 3, none), (yX0_putUnary, cX0_putUnary, 2, none), (yX0_putChoice, cX0_putChoice, 5, none), (yX0_putChain, cX0_putChain, 6, none), (yX0_isBased, cX0_isBased, 1, (some .boolean)), (yX0_isPlainTerm, cX0_isPlainTerm, 1, (some .boolean)), (yX0_putBased, cX0_putBased, 4, none), (yX0_putConstant, cX0_putConstant, 3, none), (yX0_put, cX0_put, 2, none), (yX0_putNumber, cX0_putNumber, 5, none), (yX0_patch, cX0_patch, 3, none), (yX0_putLeb, cX0_putLeb, 6, none), (yX0_putSignedLeb, cX0_putSignedLeb, 6, none), (yX1_init, cX1_init, 1, none), (yX1_registerValue, cX1_registerValue, 3, (some .long)), (yX1_cfaValue, cX1_cfaValue, 1, (some .long)), (yX1_hasBytes, cX1_hasBytes, 4, (some .boolean)), (yX1_bytes, cX1_bytes, 4, (some .long)), (yX1_bitOf, cX1_bitOf, 6, (some .int)), (yX1_putBit, cX1_putBit, 6, (some .boolean)), (yX2_init, cX2_init, 3, none), (yX2_say, cX2_say, 6, (some .int)), (yX2_placeFor, cX2_placeFor, 4, (some (.object "LocationDesk$Place"))), (yX2_meet, cX2_meet, 2, none)]
def x_ml_1 : List (MethodName × ByteArray × Nat × Option FieldType) := [(yX2_value, cX2_value, 4, (some .long)), (yX2_fail, cX2_fail, 2, (some .long)), (yX2_chainValue, cX2_chainValue, 9, (some .long)), (yX2_unaryValue, cX2_unaryValue, 5, (some .long)), (yX3_init, cX3_init, 4, none), (yX4_init, cX4_init, 1, none), (yX4_begin, cX4_begin, 3, none), (yX4_goesOn, cX4_goesOn, 1, (some .boolean)), (yX4_take, cX4_take, 1, none), (yX4_refuse, cX4_refuse, 2, none), (yX4_expect, cX4_expect, 2, none), (yX4_raise, cX4_raise, 1, (some .boolean)), (yX4_readDeclaration, cX4_readDeclaration, 3, none), (yX4_isKnown, cX4_isKnown, 3, (some .boolean)), (yX4_areSame, cX4_areSame, 3, (some .boolean)), (yX4_readRows, cX4_readRows, 3, none), (yX4_readRange, cX4_readRange, 3, none), (yX4_readLocation, cX4_readLocation, 4, (some (.object "LocationDesk$Place"))), (yX4_readWidth, cX4_readWidth, 2, none), (yX4_beginsPlace, cX4_beginsPlace, 1, (some .boolean)), (yX4_readPlace, cX4_readPlace, 3, (some (.object "LocationDesk$Place"))), (yX4_refuseHighRegister, cX4_refuseHighRegister, 1, (some .long)), (yX4_readBlock, cX4_readBlock, 3, (some (.array .int))), (yX4_readChoice, cX4_readChoice, 3, (some (.object "LocationDesk$Node"))), (yX4_readLevel, cX4_readLevel, 8, (some (.object "LocationDesk$Node"))), (yX4_levelOf, cX4_levelOf, 1, (some .int)), (yX4_readUnary, cX4_readUnary, 2, (some (.object "LocationDesk$Node"))), (yX4_operationOf, cX4_operationOf, 1, (some .int)), (yX5_init, cX5_init, 1, none), (yX5_become, cX5_become, 4, none)]
def x_ml_2 : List (MethodName × ByteArray × Nat × Option FieldType) := [(yX5_becomeBlock, cX5_becomeBlock, 4, none), (yX5_take, cX5_take, 2, none), (yX5_blockByte, cX5_blockByte, 3, (some .int)), (yX6_init, cX6_init, 1, none), (yX7_init, cX7_init, 1, none), (yX7_readAll, cX7_readAll, 3, none), (yX7_readToken, cX7_readToken, 2, none), (yX7_letter, cX7_letter, 2, (some .int)), (yX7_isSmall, cX7_isSmall, 1, (some .boolean)), (yX7_isDigit, cX7_isDigit, 1, (some .boolean)), (yX7_readWord, cX7_readWord, 2, none), (yX7_wordKind, cX7_wordKind, 1, (some .int)), (yX7_isWord, cX7_isWord, 3, (some .boolean)), (yX7_readNumber, cX7_readNumber, 3, none), (yX7_readAt, cX7_readAt, 2, none), (yX7_readSign, cX7_readSign, 3, none), (yX7_signOfTwo, cX7_signOfTwo, 2, (some .int)), (yX7_letters, cX7_letters, 2, (some (.array .int))), (yX8_init, cX8_init, 2, none), (yX8_count, cX8_count, 1, (some .int)), (yX8_only, cX8_only, 1, (some (.object "LocationDesk$Part"))), (yX8_clear, cX8_clear, 1, none), (yX8_take, cX8_take, 3, none), (yX8_addPiece, cX8_addPiece, 5, none), (yX9_init, cX9_init, 3, none), (yX9_start, cX9_start, 6, (some .int)), (yX9_reset, cX9_reset, 3, none), (yX9_perform, cX9_perform, 8, (some .int)), (yX9_step, cX9_step, 8, (some .int)), (yX9_shape, cX9_shape, 1, (some .int))]
def x_ml_3 : List (MethodName × ByteArray × Nat × Option FieldType) := [(yX9_readOperands, cX9_readOperands, 5, (some .int)), (yX9_readNumber, cX9_readNumber, 6, (some .int)), (yX9_readLeb, cX9_readLeb, 6, (some .int)), (yX9_check, cX9_check, 2, (some .int)), (yX9_goesWithHold, cX9_goesWithHold, 1, (some .boolean)), (yX9_isTooMuch, cX9_isTooMuch, 3, (some .boolean)), (yX9_wanted, cX9_wanted, 2, (some .int)), (yX9_call, cX9_call, 5, (some .int)), (yX9_operate, cX9_operate, 8, (some .int)), (yX9_push, cX9_push, 3, (some .int)), (yX9_pushBytes, cX9_pushBytes, 4, (some .int)), (yX9_pop, cX9_pop, 1, (some .long)), (yX9_below, cX9_below, 3, (some .long)), (yX9_shuffle, cX9_shuffle, 8, (some .int)), (yX9_changed, cX9_changed, 4, (some .long)), (yX9_ask, cX9_ask, 6, (some .int)), (yX9_keep, cX9_keep, 3, (some .int)), (yX9_addPiece, cX9_addPiece, 3, (some .int)), (yX9_holdTop, cX9_holdTop, 1, none), (yX9_settle, cX9_settle, 1, (some .int)), (yX9_base, cX9_base, 7, (some .int)), (yX9_takeBase, cX9_takeBase, 3, (some .int)), (yX9_joined, cX9_joined, 5, (some .long)), (yX9_shifted, cX9_shifted, 6, (some .long)), (yX9_compared, cX9_compared, 5, (some .boolean)), (yX9_restWithoutSign, cX9_restWithoutSign, 6, (some .long)), (yX10_init, cX10_init, 3, none), (yX11_init, cX11_init, 1, none), (yX11_feed, cX11_feed, 6, (some .int)), (yX11_feedFour, cX11_feedFour, 3, none)]
def x_ml_4 : List (MethodName × ByteArray × Nat × Option FieldType) := [(yX11_end, cX11_end, 2, (some .int)), (yX11_expression, cX11_expression, 2, (some .int)), (yX11_list, cX11_list, 2, (some .int)), (yX11_tapeInto, cX11_tapeInto, 4, (some .int)), (yX11_load, cX11_load, 4, (some .boolean)), (yX11_register, cX11_register, 2, (some .long)), (yX11_poke, cX11_poke, 3, (some .boolean)), (yX11_peek, cX11_peek, 2, (some .int)), (yX11_frame, cX11_frame, 2, (some .boolean)), (yX11_cfa, cX11_cfa, 4, (some .boolean)), (yX11_set, cX11_set, 5, (some .boolean)), (yX11_run, cX11_run, 4, (some .int)), (yX11_find, cX11_find, 7, (some .int)), (yX11_isFuel, cX11_isFuel, 1, (some .boolean)), (yX11_runBytes, cX11_runBytes, 6, (some .int)), (yX11_search, cX11_search, 18, (some .int)), (yX11_endless, cX11_endless, 2, (some .int)), (yX11_tell, cX11_tell, 5, none), (yX11_isBelow, cX11_isBelow, 4, (some .boolean)), (yX11_number, cX11_number, 6, (some .long)), (yX11_told, cX11_told, 2, (some .int)), (yX11_parts, cX11_parts, 1, (some .int)), (yX11_part, cX11_part, 4, (some .long)), (yX11_fetch, cX11_fetch, 9, (some .int)), (yX11_store, cX11_store, 9, (some .int)), (yX11_out, cX11_out, 2, (some .int)), (yX11_compile, cX11_compile, 6, (some .int)), (yX11_isVariable, cX11_isVariable, 2, (some .boolean)), (yX11_variable, cX11_variable, 4, (some .int)), (yX11_byteAt, cX11_byteAt, 3, (some .int))]
def x_ml_5 : List (MethodName × ByteArray × Nat × Option FieldType) := [(yX11_where, cX11_where, 6, (some .int)), (yX11_means, cX11_means, 5, (some .int)), (yX12_init, cX12_init, 1, none), (yX12_puts, cX12_puts, 3, none), (yX12_feed, cX12_feed, 6, (some .int)), (yX12_end, cX12_end, 2, (some .int)), (yX12_keep, cX12_keep, 4, (some .int)), (yX12_expression, cX12_expression, 2, (some .int)), (yX12_list, cX12_list, 2, (some .int)), (yX12_load, cX12_load, 4, (some .boolean)), (yX12_register, cX12_register, 2, (some .long)), (yX12_poke, cX12_poke, 3, (some .boolean)), (yX12_peek, cX12_peek, 2, (some .int)), (yX12_frame, cX12_frame, 2, (some .boolean)), (yX12_cfa, cX12_cfa, 4, (some .boolean)), (yX12_set, cX12_set, 5, (some .boolean)), (yX12_isThere, cX12_isThere, 5, (some .boolean)), (yX12_read, cX12_read, 7, (some .long)), (yX12_fixed, cX12_fixed, 7, (some .long)), (yX12_leb, cX12_leb, 7, (some .long)), (yX12_isKnown, cX12_isKnown, 2, (some .boolean)), (yX12_operands, cX12_operands, 3, none), (yX12_isAbove, cX12_isAbove, 5, (some .boolean)), (yX12_wants, cX12_wants, 2, (some .int)), (yX12_pushes, cX12_pushes, 2, (some .boolean)), (yX12_rest, cX12_rest, 7, (some .long)), (yX12_worked, cX12_worked, 8, (some .long)), (yX12_isBase, cX12_isBase, 1, (some .boolean)), (yX12_fails, cX12_fails, 3, (some .int)), (yX12_clears, cX12_clears, 2, none)]
def x_ml_6 : List (MethodName × ByteArray × Nat × Option FieldType) := [(yX12_pushed, cX12_pushed, 4, none), (yX12_exec, cX12_exec, 24, (some .int)), (yX12_isPiece, cX12_isPiece, 9, (some .boolean)), (yX12_pushes_, cX12_pushes_, 11, (some .long)), (yX12_acts, cX12_acts, 13, none), (yX12_hold, cX12_hold, 6, none), (yX12_part, cX12_part, 9, none), (yX12_empty, cX12_empty, 1, none), (yX12_tells, cX12_tells, 3, (some .int)), (yX12_begins, cX12_begins, 2, none), (yX12_runs, cX12_runs, 6, (some .int)), (yX12_isFuel, cX12_isFuel, 2, (some .boolean)), (yX12_run, cX12_run, 3, (some .int)), (yX12_number, cX12_number, 6, (some .long)), (yX12_isBelow, cX12_isBelow, 5, (some .boolean)), (yX12_finds, cX12_finds, 16, (some .int)), (yX12_find, cX12_find, 7, (some .int)), (yX12_told, cX12_told, 2, (some .int)), (yX12_parts, cX12_parts, 1, (some .int)), (yX12_part_, cX12_part_, 3, (some .long)), (yX12_goes, cX12_goes, 1, (some .boolean)), (yX12_bit, cX12_bit, 7, (some .int)), (yX12_puts_, cX12_puts_, 9, (some .boolean)), (yX12_fetch, cX12_fetch, 5, (some .int)), (yX12_store, cX12_store, 4, (some .int)), (yX12_out, cX12_out, 2, (some .int)), (yX12_sign, cX12_sign, 2, (some .int)), (yX12_isSmall, cX12_isSmall, 2, (some .boolean)), (yX12_isDigit, cX12_isDigit, 2, (some .boolean)), (yX12_isLetter, cX12_isLetter, 2, (some .boolean))]
def x_ml_7 : List (MethodName × ByteArray × Nat × Option FieldType) := [(yX12_word, cX12_word, 3, (some .int)), (yX12_token, cX12_token, 5, none), (yX12_tokens, cX12_tokens, 7, none), (yX12_signs, cX12_signs, 7, (some .int)), (yX12_fail, cX12_fail, 2, none), (yX12_isSign, cX12_isSign, 2, (some .boolean)), (yX12_isWord, cX12_isWord, 2, (some .boolean)), (yX12_need, cX12_need, 2, none), (yX12_opens, cX12_opens, 1, none), (yX12_emit, cX12_emit, 2, none), (yX12_emits, cX12_emits, 5, none), (yX12_unsigned, cX12_unsigned, 5, none), (yX12_signed, cX12_signed, 5, none), (yX12_push, cX12_push, 3, none), (yX12_faulty, cX12_faulty, 3, (some .int)), (yX12_compile, cX12_compile, 3, (some .int)), (yX12_declared, cX12_declared, 2, none), (yX12_rows, cX12_rows, 6, none), (yX12_isPlace, cX12_isPlace, 1, (some .boolean)), (yX12_location, cX12_location, 4, none), (yX12_place, cX12_place, 4, none), (yX12_later, cX12_later, 3, none), (yX12_tops, cX12_tops, 1, (some .int)), (yX12_emitted, cX12_emitted, 2, none), (yX12_finished, cX12_finished, 1, none), (yX12_reduced, cX12_reduced, 2, none), (yX12_turned, cX12_turned, 7, none), (yX12_reducedAll, cX12_reducedAll, 1, none), (yX12_chosen, cX12_chosen, 2, none), (yX12_operand, cX12_operand, 3, (some .boolean))]
def x_ml_8 : List (MethodName × ByteArray × Nat × Option FieldType) := [(yX12_registered, cX12_registered, 1, none), (yX12_combined, cX12_combined, 4, (some .long)), (yX12_operator, cX12_operator, 3, (some .boolean)), (yX12_ended, cX12_ended, 1, (some .boolean)), (yX12_binary, cX12_binary, 3, (some .boolean)), (yX12_added, cX12_added, 2, (some .boolean)), (yX12_compares, cX12_compares, 4, (some .int)), (yX12_shifts, cX12_shifts, 4, (some .int)), (yX12_multiplies, cX12_multiplies, 4, (some .int)), (yX12_isAlone, cX12_isAlone, 2, (some .boolean)), (yX12_adds, cX12_adds, 2, (some .boolean)), (yX12_variable, cX12_variable, 7, (some .int)), (yX12_where, cX12_where, 6, (some .int)), (yX12_means, cX12_means, 10, (some .int)), (yX12_keepsSign, cX12_keepsSign, 2, (some .boolean)), (yX12_keepsWord, cX12_keepsWord, 2, (some .boolean)), (yX12_meantLocation, cX12_meantLocation, 4, none), (yX12_meantPlace, cX12_meantPlace, 7, none), (yX12_does, cX12_does, 1, (some .boolean)), (yX12_value, cX12_value, 3, none), (yX12_choice, cX12_choice, 4, (some .long)), (yX12_meansOperand, cX12_meansOperand, 4, (some .boolean)), (yX12_bases, cX12_bases, 1, none), (yX12_meansFinished, cX12_meansFinished, 5, none), (yX12_meansReduced, cX12_meansReduced, 8, none), (yX12_meansReducedAll, cX12_meansReducedAll, 1, none), (yX12_meansBinary, cX12_meansBinary, 3, (some .boolean)), (yX12_meansOperator, cX12_meansOperator, 5, (some .boolean)), (yJ0_charAt_5068e, cJ0_charAt_5068e, 2, (some .char)), (yJ0_checkBoundsBeginEnd_23922, cJ0_checkBoundsBeginEnd_23922, 3, none)]
def x_ml_9 : List (MethodName × ByteArray × Nat × Option FieldType) := [(yJ0_checkIndex_df160, cJ0_checkIndex_df160, 2, none), (yJ0_coder_7d493, cJ0_coder_7d493, 1, (some .byte)), (yJ0_indexOf_0f7a4, cJ0_indexOf_0f7a4, 2, (some .int)), (yJ0_indexOf_7cf53, cJ0_indexOf_7cf53, 3, (some .int)), (yJ0_isLatin1_aae02, cJ0_isLatin1_aae02, 1, (some .boolean)), (yJ0_length_8abf5, cJ0_length_8abf5, 1, (some .int)), (yJ11_highSurrogate_5068e, cJ11_highSurrogate_5068e, 1, (some .char)), (yJ11_isValidCodePoint_9a6ad, cJ11_isValidCodePoint_9a6ad, 2, (some .boolean)), (yJ11_lowSurrogate_5068e, cJ11_lowSurrogate_5068e, 1, (some .char)), (yJ1_canEncode_9a6ad, cJ1_canEncode_9a6ad, 1, (some .boolean)), (yJ1_charAt_3b067, cJ1_charAt_3b067, 2, (some .char)), (yJ1_indexOfChar_4cfef, cJ1_indexOfChar_4cfef, 6, (some .int)), (yJ1_indexOf_4cfef, cJ1_indexOf_4cfef, 4, (some .int)), (yJ2_charAt_3b067, cJ2_charAt_3b067, 2, (some .char)), (yJ2_checkBoundsBeginEnd_d044e, cJ2_checkBoundsBeginEnd_d044e, 3, none), (yJ2_checkIndex_2214a, cJ2_checkIndex_2214a, 2, none), (yJ2_getChar_3b067, cJ2_getChar_3b067, 2, (some .char)), (yJ2_indexOfCharUnsafe_4cfef, cJ2_indexOfCharUnsafe_4cfef, 5, (some .int)), (yJ2_indexOfChar_4cfef, cJ2_indexOfChar_4cfef, 4, (some .int)), (yJ2_indexOfSupplementary_4cfef, cJ2_indexOfSupplementary_4cfef, 7, (some .int)), (yJ2_indexOf_4cfef, cJ2_indexOf_4cfef, 4, (some .int)), (yJ2_length_9d52b, cJ2_length_9d52b, 1, (some .int)), (yJ3_checkFromToIndex_8c36e, cJ3_checkFromToIndex_8c36e, 4, (some .int)), (yJ3_checkIndex_8e157, cJ3_checkIndex_8e157, 3, (some .int)), (yJ7_checkLength_df160, cJ7_checkLength_df160, 2, none), (yJ7_copyOfRangeInt_feecc, cJ7_copyOfRangeInt_feecc, 5, (some (.array .int))), (yJ7_copyOfRange_feecc, cJ7_copyOfRange_feecc, 3, (some (.array .int))), (yJ7_copyOf_59c91, cJ7_copyOf_59c91, 3, (some (.array .int))), (yJ7_fill_53178, cJ7_fill_53178, 4, none), (yJ9_max_7cf53, cJ9_max_7cf53, 2, (some .int))]
def x_ml_10 : List (MethodName × ByteArray × Nat × Option FieldType) := [(yJ9_min_7cf53, cJ9_min_7cf53, 2, (some .int))]
def x_ml : List (MethodName × ByteArray × Nat × Option FieldType) := x_ml_0 ++ (x_ml_1 ++ (x_ml_2 ++ (x_ml_3 ++ (x_ml_4 ++ (x_ml_5 ++ (x_ml_6 ++ (x_ml_7 ++ (x_ml_8 ++ (x_ml_9 ++ (x_ml_10))))))))))
def xMM : xM := fun j => x_ml[j]?
theorem x_ml_in_0 : ∀ e ∈ x_ml_0.drop 1, Cond.code e.1 e.2.1 e.2.2.1 e.2.2.2 ∈ x_Ts := List.forall_mem_cons.mpr ⟨tin_2 (i := 92) rfl rfl, List.forall_mem_cons.mpr ⟨tin_5 (i := 149) rfl rfl, List.forall_mem_cons.mpr ⟨tin_5 (i := 153) rfl rfl, List.forall_mem_cons.mpr ⟨tin_5 (i := 157) rfl rfl, List.forall_mem_cons.mpr ⟨tin_5 (i := 222) rfl rfl, List.forall_mem_cons.mpr ⟨tin_5 (i := 165) rfl rfl, List.forall_mem_cons.mpr ⟨tin_5 (i := 217) rfl rfl, List.forall_mem_cons.mpr ⟨tin_5 (i := 192) rfl rfl, List.forall_mem_cons.mpr ⟨tin_5 (i := 200) rfl rfl, List.forall_mem_cons.mpr ⟨tin_5 (i := 203) rfl rfl, List.forall_mem_cons.mpr ⟨tin_5 (i := 206) rfl rfl, List.forall_mem_cons.mpr ⟨tin_5 (i := 181) rfl rfl, List.forall_mem_cons.mpr ⟨tin_5 (i := 169) rfl rfl, List.forall_mem_cons.mpr ⟨tin_5 (i := 161) rfl rfl, List.forall_mem_cons.mpr ⟨tin_5 (i := 175) rfl rfl, List.forall_mem_cons.mpr ⟨tin_5 (i := 196) rfl rfl, List.forall_mem_cons.mpr ⟨tin_5 (i := 210) rfl rfl, List.forall_mem_cons.mpr ⟨tin_5 (i := 185) rfl rfl, List.forall_mem_cons.mpr ⟨tin_1 (i := 92) rfl rfl, List.forall_mem_cons.mpr ⟨tin_2 (i := 192) rfl rfl, List.forall_mem_cons.mpr ⟨tin_3 (i := 159) rfl rfl, List.forall_mem_cons.mpr ⟨tin_3 (i := 135) rfl rfl, List.forall_mem_cons.mpr ⟨tin_3 (i := 139) rfl rfl, List.forall_mem_cons.mpr ⟨tin_3 (i := 220) rfl rfl, List.forall_mem_cons.mpr ⟨tin_3 (i := 229) rfl rfl, List.forall_mem_cons.mpr ⟨tin_1 (i := 219) rfl rfl, List.forall_mem_cons.mpr ⟨tin_6 (i := 5) rfl rfl, List.forall_mem_cons.mpr ⟨tin_6 (i := 9) rfl rfl, List.forall_mem_cons.mpr ⟨tin_6 (i := 14) rfl rfl, fun _ h => absurd h List.not_mem_nil⟩⟩⟩⟩⟩⟩⟩⟩⟩⟩⟩⟩⟩⟩⟩⟩⟩⟩⟩⟩⟩⟩⟩⟩⟩⟩⟩⟩⟩
theorem x_ml_in_1 : ∀ e ∈ x_ml_1, Cond.code e.1 e.2.1 e.2.2.1 e.2.2.2 ∈ x_Ts := List.forall_mem_cons.mpr ⟨tin_6 (i := 19) rfl rfl, List.forall_mem_cons.mpr ⟨tin_6 (i := 25) rfl rfl, List.forall_mem_cons.mpr ⟨tin_6 (i := 30) rfl rfl, List.forall_mem_cons.mpr ⟨tin_6 (i := 36) rfl rfl, List.forall_mem_cons.mpr ⟨tin_5 (i := 92) rfl rfl, List.forall_mem_cons.mpr ⟨tin_2 (i := 6) rfl rfl, List.forall_mem_cons.mpr ⟨tin_4 (i := 2) rfl rfl, List.forall_mem_cons.mpr ⟨tin_4 (i := 171) rfl rfl, List.forall_mem_cons.mpr ⟨tin_4 (i := 167) rfl rfl, List.forall_mem_cons.mpr ⟨tin_4 (i := 192) rfl rfl, List.forall_mem_cons.mpr ⟨tin_5 (i := 9) rfl rfl, List.forall_mem_cons.mpr ⟨tin_5 (i := 25) rfl rfl, List.forall_mem_cons.mpr ⟨tin_4 (i := 175) rfl rfl, List.forall_mem_cons.mpr ⟨tin_4 (i := 196) rfl rfl, List.forall_mem_cons.mpr ⟨tin_4 (i := 199) rfl rfl, List.forall_mem_cons.mpr ⟨tin_5 (i := 13) rfl rfl, List.forall_mem_cons.mpr ⟨tin_5 (i := 17) rfl rfl, List.forall_mem_cons.mpr ⟨tin_5 (i := 21) rfl rfl, List.forall_mem_cons.mpr ⟨tin_5 (i := 144) rfl rfl, List.forall_mem_cons.mpr ⟨tin_5 (i := 70) rfl rfl, List.forall_mem_cons.mpr ⟨tin_5 (i := 29) rfl rfl, List.forall_mem_cons.mpr ⟨tin_5 (i := 74) rfl rfl, List.forall_mem_cons.mpr ⟨tin_5 (i := 138) rfl rfl, List.forall_mem_cons.mpr ⟨tin_5 (i := 79) rfl rfl, List.forall_mem_cons.mpr ⟨tin_5 (i := 83) rfl rfl, List.forall_mem_cons.mpr ⟨tin_5 (i := 134) rfl rfl, List.forall_mem_cons.mpr ⟨tin_5 (i := 87) rfl rfl, List.forall_mem_cons.mpr ⟨tin_5 (i := 213) rfl rfl, List.forall_mem_cons.mpr ⟨tin_1 (i := 41) rfl rfl, List.forall_mem_cons.mpr ⟨tin_2 (i := 235) rfl rfl, fun _ h => absurd h List.not_mem_nil⟩⟩⟩⟩⟩⟩⟩⟩⟩⟩⟩⟩⟩⟩⟩⟩⟩⟩⟩⟩⟩⟩⟩⟩⟩⟩⟩⟩⟩⟩
theorem x_ml_in_2 : ∀ e ∈ x_ml_2, Cond.code e.1 e.2.1 e.2.2.1 e.2.2.2 ∈ x_Ts := List.forall_mem_cons.mpr ⟨tin_3 (i := 122) rfl rfl, List.forall_mem_cons.mpr ⟨tin_3 (i := 114) rfl rfl, List.forall_mem_cons.mpr ⟨tin_3 (i := 206) rfl rfl, List.forall_mem_cons.mpr ⟨tin_5 (i := 34) rfl rfl, List.forall_mem_cons.mpr ⟨tin_2 (i := 12) rfl rfl, List.forall_mem_cons.mpr ⟨tin_4 (i := 6) rfl rfl, List.forall_mem_cons.mpr ⟨tin_4 (i := 11) rfl rfl, List.forall_mem_cons.mpr ⟨tin_4 (i := 15) rfl rfl, List.forall_mem_cons.mpr ⟨tin_4 (i := 18) rfl rfl, List.forall_mem_cons.mpr ⟨tin_4 (i := 25) rfl rfl, List.forall_mem_cons.mpr ⟨tin_4 (i := 22) rfl rfl, List.forall_mem_cons.mpr ⟨tin_4 (i := 29) rfl rfl, List.forall_mem_cons.mpr ⟨tin_4 (i := 34) rfl rfl, List.forall_mem_cons.mpr ⟨tin_4 (i := 95) rfl rfl, List.forall_mem_cons.mpr ⟨tin_4 (i := 100) rfl rfl, List.forall_mem_cons.mpr ⟨tin_4 (i := 104) rfl rfl, List.forall_mem_cons.mpr ⟨tin_4 (i := 107) rfl rfl, List.forall_mem_cons.mpr ⟨tin_4 (i := 179) rfl rfl, List.forall_mem_cons.mpr ⟨tin_1 (i := 34) rfl rfl, List.forall_mem_cons.mpr ⟨tin_3 (i := 168) rfl rfl, List.forall_mem_cons.mpr ⟨tin_3 (i := 3) rfl rfl, List.forall_mem_cons.mpr ⟨tin_2 (i := 239) rfl rfl, List.forall_mem_cons.mpr ⟨tin_3 (i := 164) rfl rfl, List.forall_mem_cons.mpr ⟨tin_3 (i := 110) rfl rfl, List.forall_mem_cons.mpr ⟨tin_1 (i := 155) rfl rfl, List.forall_mem_cons.mpr ⟨tin_2 (i := 227) rfl rfl, List.forall_mem_cons.mpr ⟨tin_2 (i := 231) rfl rfl, List.forall_mem_cons.mpr ⟨tin_3 (i := 8) rfl rfl, List.forall_mem_cons.mpr ⟨tin_3 (i := 12) rfl rfl, List.forall_mem_cons.mpr ⟨tin_3 (i := 15) rfl rfl, fun _ h => absurd h List.not_mem_nil⟩⟩⟩⟩⟩⟩⟩⟩⟩⟩⟩⟩⟩⟩⟩⟩⟩⟩⟩⟩⟩⟩⟩⟩⟩⟩⟩⟩⟩⟩
theorem x_ml_in_3 : ∀ e ∈ x_ml_3, Cond.code e.1 e.2.1 e.2.2.1 e.2.2.2 ∈ x_Ts := List.forall_mem_cons.mpr ⟨tin_3 (i := 19) rfl rfl, List.forall_mem_cons.mpr ⟨tin_3 (i := 23) rfl rfl, List.forall_mem_cons.mpr ⟨tin_3 (i := 30) rfl rfl, List.forall_mem_cons.mpr ⟨tin_3 (i := 35) rfl rfl, List.forall_mem_cons.mpr ⟨tin_3 (i := 38) rfl rfl, List.forall_mem_cons.mpr ⟨tin_3 (i := 44) rfl rfl, List.forall_mem_cons.mpr ⟨tin_3 (i := 49) rfl rfl, List.forall_mem_cons.mpr ⟨tin_3 (i := 57) rfl rfl, List.forall_mem_cons.mpr ⟨tin_3 (i := 61) rfl rfl, List.forall_mem_cons.mpr ⟨tin_3 (i := 65) rfl rfl, List.forall_mem_cons.mpr ⟨tin_3 (i := 131) rfl rfl, List.forall_mem_cons.mpr ⟨tin_3 (i := 53) rfl rfl, List.forall_mem_cons.mpr ⟨tin_3 (i := 77) rfl rfl, List.forall_mem_cons.mpr ⟨tin_3 (i := 73) rfl rfl, List.forall_mem_cons.mpr ⟨tin_3 (i := 81) rfl rfl, List.forall_mem_cons.mpr ⟨tin_3 (i := 127) rfl rfl, List.forall_mem_cons.mpr ⟨tin_3 (i := 118) rfl rfl, List.forall_mem_cons.mpr ⟨tin_3 (i := 102) rfl rfl, List.forall_mem_cons.mpr ⟨tin_3 (i := 106) rfl rfl, List.forall_mem_cons.mpr ⟨tin_3 (i := 149) rfl rfl, List.forall_mem_cons.mpr ⟨tin_3 (i := 145) rfl rfl, List.forall_mem_cons.mpr ⟨tin_3 (i := 155) rfl rfl, List.forall_mem_cons.mpr ⟨tin_3 (i := 84) rfl rfl, List.forall_mem_cons.mpr ⟨tin_3 (i := 94) rfl rfl, List.forall_mem_cons.mpr ⟨tin_3 (i := 98) rfl rfl, List.forall_mem_cons.mpr ⟨tin_3 (i := 87) rfl rfl, List.forall_mem_cons.mpr ⟨tin_4 (i := 203) rfl rfl, List.forall_mem_cons.mpr ⟨tin_1 (i := 26) rfl rfl, List.forall_mem_cons.mpr ⟨tin_2 (i := 144) rfl rfl, List.forall_mem_cons.mpr ⟨tin_2 (i := 148) rfl rfl, fun _ h => absurd h List.not_mem_nil⟩⟩⟩⟩⟩⟩⟩⟩⟩⟩⟩⟩⟩⟩⟩⟩⟩⟩⟩⟩⟩⟩⟩⟩⟩⟩⟩⟩⟩⟩
theorem x_ml_in_4 : ∀ e ∈ x_ml_4, Cond.code e.1 e.2.1 e.2.2.1 e.2.2.2 ∈ x_Ts := List.forall_mem_cons.mpr ⟨tin_2 (i := 152) rfl rfl, List.forall_mem_cons.mpr ⟨tin_2 (i := 156) rfl rfl, List.forall_mem_cons.mpr ⟨tin_2 (i := 180) rfl rfl, List.forall_mem_cons.mpr ⟨tin_2 (i := 160) rfl rfl, List.forall_mem_cons.mpr ⟨tin_2 (i := 184) rfl rfl, List.forall_mem_cons.mpr ⟨tin_2 (i := 188) rfl rfl, List.forall_mem_cons.mpr ⟨tin_2 (i := 196) rfl rfl, List.forall_mem_cons.mpr ⟨tin_2 (i := 200) rfl rfl, List.forall_mem_cons.mpr ⟨tin_2 (i := 204) rfl rfl, List.forall_mem_cons.mpr ⟨tin_2 (i := 208) rfl rfl, List.forall_mem_cons.mpr ⟨tin_2 (i := 212) rfl rfl, List.forall_mem_cons.mpr ⟨tin_2 (i := 216) rfl rfl, List.forall_mem_cons.mpr ⟨tin_3 (i := 176) rfl rfl, List.forall_mem_cons.mpr ⟨tin_2 (i := 219) rfl rfl, List.forall_mem_cons.mpr ⟨tin_2 (i := 223) rfl rfl, List.forall_mem_cons.mpr ⟨tin_3 (i := 180) rfl rfl, List.forall_mem_cons.mpr ⟨tin_3 (i := 184) rfl rfl, List.forall_mem_cons.mpr ⟨tin_3 (i := 172) rfl rfl, List.forall_mem_cons.mpr ⟨tin_3 (i := 90) rfl rfl, List.forall_mem_cons.mpr ⟨tin_3 (i := 26) rfl rfl, List.forall_mem_cons.mpr ⟨tin_3 (i := 192) rfl rfl, List.forall_mem_cons.mpr ⟨tin_3 (i := 196) rfl rfl, List.forall_mem_cons.mpr ⟨tin_3 (i := 201) rfl rfl, List.forall_mem_cons.mpr ⟨tin_3 (i := 213) rfl rfl, List.forall_mem_cons.mpr ⟨tin_3 (i := 225) rfl rfl, List.forall_mem_cons.mpr ⟨tin_3 (i := 234) rfl rfl, List.forall_mem_cons.mpr ⟨tin_3 (i := 238) rfl rfl, List.forall_mem_cons.mpr ⟨tin_5 (i := 231) rfl rfl, List.forall_mem_cons.mpr ⟨tin_5 (i := 227) rfl rfl, List.forall_mem_cons.mpr ⟨tin_3 (i := 209) rfl rfl, fun _ h => absurd h List.not_mem_nil⟩⟩⟩⟩⟩⟩⟩⟩⟩⟩⟩⟩⟩⟩⟩⟩⟩⟩⟩⟩⟩⟩⟩⟩⟩⟩⟩⟩⟩⟩
theorem x_ml_in_5 : ∀ e ∈ x_ml_5, Cond.code e.1 e.2.1 e.2.2.1 e.2.2.2 ∈ x_Ts := List.forall_mem_cons.mpr ⟨tin_5 (i := 237) rfl rfl, List.forall_mem_cons.mpr ⟨tin_6 (i := 1) rfl rfl, List.forall_mem_cons.mpr ⟨tin_6 (i := 48) rfl rfl, List.forall_mem_cons.mpr ⟨tin_7 (i := 134) rfl rfl, List.forall_mem_cons.mpr ⟨tin_7 (i := 130) rfl rfl, List.forall_mem_cons.mpr ⟨tin_7 (i := 138) rfl rfl, List.forall_mem_cons.mpr ⟨tin_7 (i := 146) rfl rfl, List.forall_mem_cons.mpr ⟨tin_7 (i := 142) rfl rfl, List.forall_mem_cons.mpr ⟨tin_7 (i := 150) rfl rfl, List.forall_mem_cons.mpr ⟨tin_7 (i := 154) rfl rfl, List.forall_mem_cons.mpr ⟨tin_7 (i := 158) rfl rfl, List.forall_mem_cons.mpr ⟨tin_7 (i := 162) rfl rfl, List.forall_mem_cons.mpr ⟨tin_7 (i := 166) rfl rfl, List.forall_mem_cons.mpr ⟨tin_7 (i := 170) rfl rfl, List.forall_mem_cons.mpr ⟨tin_7 (i := 174) rfl rfl, List.forall_mem_cons.mpr ⟨tin_7 (i := 178) rfl rfl, List.forall_mem_cons.mpr ⟨tin_8 (i := 12) rfl rfl, List.forall_mem_cons.mpr ⟨tin_8 (i := 28) rfl rfl, List.forall_mem_cons.mpr ⟨tin_7 (i := 226) rfl rfl, List.forall_mem_cons.mpr ⟨tin_7 (i := 230) rfl rfl, List.forall_mem_cons.mpr ⟨tin_7 (i := 218) rfl rfl, List.forall_mem_cons.mpr ⟨tin_7 (i := 222) rfl rfl, List.forall_mem_cons.mpr ⟨tin_7 (i := 236) rfl rfl, List.forall_mem_cons.mpr ⟨tin_8 (i := 7) rfl rfl, List.forall_mem_cons.mpr ⟨tin_8 (i := 16) rfl rfl, List.forall_mem_cons.mpr ⟨tin_8 (i := 36) rfl rfl, List.forall_mem_cons.mpr ⟨tin_8 (i := 32) rfl rfl, List.forall_mem_cons.mpr ⟨tin_7 (i := 210) rfl rfl, List.forall_mem_cons.mpr ⟨tin_7 (i := 206) rfl rfl, List.forall_mem_cons.mpr ⟨tin_7 (i := 202) rfl rfl, fun _ h => absurd h List.not_mem_nil⟩⟩⟩⟩⟩⟩⟩⟩⟩⟩⟩⟩⟩⟩⟩⟩⟩⟩⟩⟩⟩⟩⟩⟩⟩⟩⟩⟩⟩⟩
theorem x_ml_in_6 : ∀ e ∈ x_ml_6, Cond.code e.1 e.2.1 e.2.2.1 e.2.2.2 ∈ x_Ts := List.forall_mem_cons.mpr ⟨tin_7 (i := 214) rfl rfl, List.forall_mem_cons.mpr ⟨tin_7 (i := 198) rfl rfl, List.forall_mem_cons.mpr ⟨tin_8 (i := 1) rfl rfl, List.forall_mem_cons.mpr ⟨tin_8 (i := 20) rfl rfl, List.forall_mem_cons.mpr ⟨tin_8 (i := 24) rfl rfl, List.forall_mem_cons.mpr ⟨tin_8 (i := 46) rfl rfl, List.forall_mem_cons.mpr ⟨tin_8 (i := 54) rfl rfl, List.forall_mem_cons.mpr ⟨tin_8 (i := 58) rfl rfl, List.forall_mem_cons.mpr ⟨tin_8 (i := 50) rfl rfl, List.forall_mem_cons.mpr ⟨tin_7 (i := 194) rfl rfl, List.forall_mem_cons.mpr ⟨tin_7 (i := 190) rfl rfl, List.forall_mem_cons.mpr ⟨tin_7 (i := 186) rfl rfl, List.forall_mem_cons.mpr ⟨tin_7 (i := 182) rfl rfl, List.forall_mem_cons.mpr ⟨tin_8 (i := 70) rfl rfl, List.forall_mem_cons.mpr ⟨tin_8 (i := 40) rfl rfl, List.forall_mem_cons.mpr ⟨tin_8 (i := 66) rfl rfl, List.forall_mem_cons.mpr ⟨tin_8 (i := 62) rfl rfl, List.forall_mem_cons.mpr ⟨tin_8 (i := 74) rfl rfl, List.forall_mem_cons.mpr ⟨tin_8 (i := 78) rfl rfl, List.forall_mem_cons.mpr ⟨tin_8 (i := 82) rfl rfl, List.forall_mem_cons.mpr ⟨tin_8 (i := 90) rfl rfl, List.forall_mem_cons.mpr ⟨tin_8 (i := 94) rfl rfl, List.forall_mem_cons.mpr ⟨tin_8 (i := 103) rfl rfl, List.forall_mem_cons.mpr ⟨tin_8 (i := 86) rfl rfl, List.forall_mem_cons.mpr ⟨tin_8 (i := 99) rfl rfl, List.forall_mem_cons.mpr ⟨tin_8 (i := 107) rfl rfl, List.forall_mem_cons.mpr ⟨tin_8 (i := 119) rfl rfl, List.forall_mem_cons.mpr ⟨tin_8 (i := 123) rfl rfl, List.forall_mem_cons.mpr ⟨tin_8 (i := 127) rfl rfl, List.forall_mem_cons.mpr ⟨tin_8 (i := 152) rfl rfl, fun _ h => absurd h List.not_mem_nil⟩⟩⟩⟩⟩⟩⟩⟩⟩⟩⟩⟩⟩⟩⟩⟩⟩⟩⟩⟩⟩⟩⟩⟩⟩⟩⟩⟩⟩⟩
theorem x_ml_in_7 : ∀ e ∈ x_ml_7, Cond.code e.1 e.2.1 e.2.2.1 e.2.2.2 ∈ x_Ts := List.forall_mem_cons.mpr ⟨tin_8 (i := 136) rfl rfl, List.forall_mem_cons.mpr ⟨tin_8 (i := 132) rfl rfl, List.forall_mem_cons.mpr ⟨tin_8 (i := 115) rfl rfl, List.forall_mem_cons.mpr ⟨tin_8 (i := 156) rfl rfl, List.forall_mem_cons.mpr ⟨tin_8 (i := 164) rfl rfl, List.forall_mem_cons.mpr ⟨tin_8 (i := 172) rfl rfl, List.forall_mem_cons.mpr ⟨tin_8 (i := 200) rfl rfl, List.forall_mem_cons.mpr ⟨tin_8 (i := 168) rfl rfl, List.forall_mem_cons.mpr ⟨tin_8 (i := 192) rfl rfl, List.forall_mem_cons.mpr ⟨tin_8 (i := 184) rfl rfl, List.forall_mem_cons.mpr ⟨tin_8 (i := 180) rfl rfl, List.forall_mem_cons.mpr ⟨tin_9 (i := 45) rfl rfl, List.forall_mem_cons.mpr ⟨tin_9 (i := 15) rfl rfl, List.forall_mem_cons.mpr ⟨tin_8 (i := 220) rfl rfl, List.forall_mem_cons.mpr ⟨tin_9 (i := 79) rfl rfl, List.forall_mem_cons.mpr ⟨tin_8 (i := 111) rfl rfl, List.forall_mem_cons.mpr ⟨tin_8 (i := 160) rfl rfl, List.forall_mem_cons.mpr ⟨tin_8 (i := 176) rfl rfl, List.forall_mem_cons.mpr ⟨tin_8 (i := 196) rfl rfl, List.forall_mem_cons.mpr ⟨tin_8 (i := 188) rfl rfl, List.forall_mem_cons.mpr ⟨tin_8 (i := 204) rfl rfl, List.forall_mem_cons.mpr ⟨tin_8 (i := 216) rfl rfl, List.forall_mem_cons.mpr ⟨tin_8 (i := 235) rfl rfl, List.forall_mem_cons.mpr ⟨tin_9 (i := 25) rfl rfl, List.forall_mem_cons.mpr ⟨tin_9 (i := 21) rfl rfl, List.forall_mem_cons.mpr ⟨tin_9 (i := 37) rfl rfl, List.forall_mem_cons.mpr ⟨tin_9 (i := 74) rfl rfl, List.forall_mem_cons.mpr ⟨tin_9 (i := 70) rfl rfl, List.forall_mem_cons.mpr ⟨tin_8 (i := 208) rfl rfl, List.forall_mem_cons.mpr ⟨tin_8 (i := 212) rfl rfl, fun _ h => absurd h List.not_mem_nil⟩⟩⟩⟩⟩⟩⟩⟩⟩⟩⟩⟩⟩⟩⟩⟩⟩⟩⟩⟩⟩⟩⟩⟩⟩⟩⟩⟩⟩⟩
theorem x_ml_in_8 : ∀ e ∈ x_ml_8, Cond.code e.1 e.2.1 e.2.2.1 e.2.2.2 ∈ x_Ts := List.forall_mem_cons.mpr ⟨tin_8 (i := 227) rfl rfl, List.forall_mem_cons.mpr ⟨tin_8 (i := 231) rfl rfl, List.forall_mem_cons.mpr ⟨tin_9 (i := 29) rfl rfl, List.forall_mem_cons.mpr ⟨tin_9 (i := 66) rfl rfl, List.forall_mem_cons.mpr ⟨tin_9 (i := 33) rfl rfl, List.forall_mem_cons.mpr ⟨tin_9 (i := 41) rfl rfl, List.forall_mem_cons.mpr ⟨tin_9 (i := 56) rfl rfl, List.forall_mem_cons.mpr ⟨tin_9 (i := 49) rfl rfl, List.forall_mem_cons.mpr ⟨tin_9 (i := 9) rfl rfl, List.forall_mem_cons.mpr ⟨tin_9 (i := 5) rfl rfl, List.forall_mem_cons.mpr ⟨tin_8 (i := 239) rfl rfl, List.forall_mem_cons.mpr ⟨tin_9 (i := 83) rfl rfl, List.forall_mem_cons.mpr ⟨tin_9 (i := 87) rfl rfl, List.forall_mem_cons.mpr ⟨tin_9 (i := 91) rfl rfl, List.forall_mem_cons.mpr ⟨tin_9 (i := 99) rfl rfl, List.forall_mem_cons.mpr ⟨tin_9 (i := 116) rfl rfl, List.forall_mem_cons.mpr ⟨tin_9 (i := 95) rfl rfl, List.forall_mem_cons.mpr ⟨tin_9 (i := 103) rfl rfl, List.forall_mem_cons.mpr ⟨tin_9 (i := 126) rfl rfl, List.forall_mem_cons.mpr ⟨tin_9 (i := 121) rfl rfl, List.forall_mem_cons.mpr ⟨tin_9 (i := 107) rfl rfl, List.forall_mem_cons.mpr ⟨tin_9 (i := 111) rfl rfl, List.forall_mem_cons.mpr ⟨tin_9 (i := 131) rfl rfl, List.forall_mem_cons.mpr ⟨tin_9 (i := 135) rfl rfl, List.forall_mem_cons.mpr ⟨tin_9 (i := 147) rfl rfl, List.forall_mem_cons.mpr ⟨tin_9 (i := 151) rfl rfl, List.forall_mem_cons.mpr ⟨tin_9 (i := 143) rfl rfl, List.forall_mem_cons.mpr ⟨tin_9 (i := 139) rfl rfl, List.forall_mem_cons.mpr ⟨tin_4 (i := 48) rfl rfl, List.forall_mem_cons.mpr ⟨tin_4 (i := 143) rfl rfl, fun _ h => absurd h List.not_mem_nil⟩⟩⟩⟩⟩⟩⟩⟩⟩⟩⟩⟩⟩⟩⟩⟩⟩⟩⟩⟩⟩⟩⟩⟩⟩⟩⟩⟩⟩⟩
theorem x_ml_in_9 : ∀ e ∈ x_ml_9, Cond.code e.1 e.2.1 e.2.2.1 e.2.2.2 ∈ x_Ts := List.forall_mem_cons.mpr ⟨tin_4 (i := 58) rfl rfl, List.forall_mem_cons.mpr ⟨tin_4 (i := 42) rfl rfl, List.forall_mem_cons.mpr ⟨tin_4 (i := 112) rfl rfl, List.forall_mem_cons.mpr ⟨tin_4 (i := 116) rfl rfl, List.forall_mem_cons.mpr ⟨tin_4 (i := 52) rfl rfl, List.forall_mem_cons.mpr ⟨tin_4 (i := 38) rfl rfl, List.forall_mem_cons.mpr ⟨tin_4 (i := 158) rfl rfl, List.forall_mem_cons.mpr ⟨tin_4 (i := 155) rfl rfl, List.forall_mem_cons.mpr ⟨tin_4 (i := 162) rfl rfl, List.forall_mem_cons.mpr ⟨tin_4 (i := 123) rfl rfl, List.forall_mem_cons.mpr ⟨tin_4 (i := 55) rfl rfl, List.forall_mem_cons.mpr ⟨tin_4 (i := 128) rfl rfl, List.forall_mem_cons.mpr ⟨tin_4 (i := 120) rfl rfl, List.forall_mem_cons.mpr ⟨tin_4 (i := 66) rfl rfl, List.forall_mem_cons.mpr ⟨tin_4 (i := 140) rfl rfl, List.forall_mem_cons.mpr ⟨tin_4 (i := 69) rfl rfl, List.forall_mem_cons.mpr ⟨tin_4 (i := 76) rfl rfl, List.forall_mem_cons.mpr ⟨tin_4 (i := 149) rfl rfl, List.forall_mem_cons.mpr ⟨tin_4 (i := 137) rfl rfl, List.forall_mem_cons.mpr ⟨tin_4 (i := 152) rfl rfl, List.forall_mem_cons.mpr ⟨tin_4 (i := 131) rfl rfl, List.forall_mem_cons.mpr ⟨tin_4 (i := 72) rfl rfl, List.forall_mem_cons.mpr ⟨tin_4 (i := 146) rfl rfl, List.forall_mem_cons.mpr ⟨tin_4 (i := 63) rfl rfl, List.forall_mem_cons.mpr ⟨tin_4 (i := 188) rfl rfl, List.forall_mem_cons.mpr ⟨tin_4 (i := 185) rfl rfl, List.forall_mem_cons.mpr ⟨tin_4 (i := 182) rfl rfl, List.forall_mem_cons.mpr ⟨tin_2 (i := 163) rfl rfl, List.forall_mem_cons.mpr ⟨tin_3 (i := 216) rfl rfl, List.forall_mem_cons.mpr ⟨tin_3 (i := 68) rfl rfl, fun _ h => absurd h List.not_mem_nil⟩⟩⟩⟩⟩⟩⟩⟩⟩⟩⟩⟩⟩⟩⟩⟩⟩⟩⟩⟩⟩⟩⟩⟩⟩⟩⟩⟩⟩⟩
theorem x_ml_in_10 : ∀ e ∈ x_ml_10, Cond.code e.1 e.2.1 e.2.2.1 e.2.2.2 ∈ x_Ts := List.forall_mem_cons.mpr ⟨tin_2 (i := 173) rfl rfl, fun _ h => absurd h List.not_mem_nil⟩
theorem x_ml_in : ∀ e ∈ x_ml.drop 1, Cond.code e.1 e.2.1 e.2.2.1 e.2.2.2 ∈ x_Ts := by
  show ∀ e ∈ (x_ml_0.drop 1) ++ (x_ml_1 ++ (x_ml_2 ++ (x_ml_3 ++ (x_ml_4 ++ (x_ml_5 ++ (x_ml_6 ++ (x_ml_7 ++ (x_ml_8 ++ (x_ml_9 ++ (x_ml_10)))))))))), Cond.code e.1 e.2.1 e.2.2.1 e.2.2.2 ∈ x_Ts
  exact List.forall_mem_append.mpr ⟨x_ml_in_0, List.forall_mem_append.mpr ⟨x_ml_in_1, List.forall_mem_append.mpr ⟨x_ml_in_2, List.forall_mem_append.mpr ⟨x_ml_in_3, List.forall_mem_append.mpr ⟨x_ml_in_4, List.forall_mem_append.mpr ⟨x_ml_in_5, List.forall_mem_append.mpr ⟨x_ml_in_6, List.forall_mem_append.mpr ⟨x_ml_in_7, List.forall_mem_append.mpr ⟨x_ml_in_8, List.forall_mem_append.mpr ⟨x_ml_in_9, x_ml_in_10⟩⟩⟩⟩⟩⟩⟩⟩⟩⟩
theorem x_ml_pl : (x_ml.drop 1).all (fun e => plainFor e.1 && decide (e.2.2.1 + 19 ≤ x_KL) && (decide (e.1.name ≠ "<init>") || decide (e.2.2.2 = none))) = true := by decide +kernel
theorem x_ml_ok : ∀ j y cc nL ret, 0 < j → xMM j = some (y, cc, nL, ret) → Cond.code y cc nL ret ∈ x_Ts ∧ plainFor y = true ∧ nL + 19 ≤ x_KL ∧ (y.name = "<init>" → ret = none) := by
  intro j y cc nL ret hj h
  have hm : (y, cc, nL, ret) ∈ x_ml.drop 1 := by
    refine List.mem_of_getElem? (i := j - 1) ?_
    rw [List.getElem?_drop, show 1 + (j - 1) = j by omega]
    exact h
  have h2 := List.all_eq_true.mp x_ml_pl _ hm
  simp only [Bool.and_eq_true, Bool.or_eq_true, decide_eq_true_eq] at h2
  refine ⟨x_ml_in _ hm, h2.1.1, h2.1.2, fun hi => ?_⟩
  rcases h2.2 with z | z
  · exact absurd hi z
  · exact z
theorem x_uw {ws : List Cond} {ps : List Nat} (h : ws = ps.filterMap (fun i => tables_1[i]?)) (hg : ws.all goodWord = true) : ∀ w ∈ ws, w ∈ x_Ts := by
  intro w hw
  have h1 := List.all_eq_true.mp hg w hw
  rw [h] at hw
  obtain ⟨i, -, hi⟩ := List.mem_filterMap.mp hw
  exact x_Ts_in (List.mem_append_right _ (List.mem_of_getElem? hi)) h1
theorem x_uw_0 : ∀ w ∈ u_ws RX0 TX0 2, w ∈ x_Ts := x_uw (ps := [336, 338]) (by decide +kernel) (by decide +kernel)
theorem x_uw_1 : ∀ w ∈ u_ws RX1 TX1 11, w ∈ x_Ts := x_uw (ps := [126, 128, 130, 132, 134, 136, 138, 140, 142, 144, 146]) (by decide +kernel) (by decide +kernel)
theorem x_uw_2 : ∀ w ∈ u_ws RX2 TX2 5, w ∈ x_Ts := x_uw (ps := [231, 233, 235, 237, 239]) (by decide +kernel) (by decide +kernel)
theorem x_uw_3 : ∀ w ∈ u_ws RX3 TX3 7, w ∈ x_Ts := x_uw (ps := [1077, 1079, 1081, 1083, 1085, 1087, 1089]) (by decide +kernel) (by decide +kernel)
theorem x_uw_4 : ∀ w ∈ u_ws RX4 TX4 10, w ∈ x_Ts := x_uw (ps := [307, 309, 311, 313, 315, 317, 319, 321, 323, 325]) (by decide +kernel) (by decide +kernel)
theorem x_uw_5 : ∀ w ∈ u_ws RX5 TX5 6, w ∈ x_Ts := x_uw (ps := [59, 61, 63, 65, 67, 69]) (by decide +kernel) (by decide +kernel)
theorem x_uw_6 : ∀ w ∈ u_ws RX6 TX6 6, w ∈ x_Ts := x_uw (ps := [1015, 1017, 1019, 1021, 1023, 1025]) (by decide +kernel) (by decide +kernel)
theorem x_uw_7 : ∀ w ∈ u_ws RX7 TX7 11, w ∈ x_Ts := x_uw (ps := [269, 271, 273, 275, 277, 279, 281, 283, 285, 287, 289]) (by decide +kernel) (by decide +kernel)
theorem x_uw_8 : ∀ w ∈ u_ws RX8 TX8 3, w ∈ x_Ts := x_uw (ps := [79, 81, 83]) (by decide +kernel) (by decide +kernel)
theorem x_uw_9 : ∀ w ∈ u_ws RX9 TX9 16, w ∈ x_Ts := x_uw (ps := [182, 184, 186, 188, 190, 192, 194, 196, 198, 200, 202, 204, 206, 208, 210, 212]) (by decide +kernel) (by decide +kernel)
theorem x_uw_10 : ∀ w ∈ u_ws RX10 TX10 7, w ∈ x_Ts := x_uw (ps := [950, 952, 954, 956, 958, 960, 962]) (by decide +kernel) (by decide +kernel)
theorem x_uw_11 : ∀ w ∈ u_ws RX11 TX11 13, w ∈ x_Ts := x_uw (ps := [354, 356, 358, 360, 362, 364, 366, 368, 370, 372, 374, 376, 378]) (by decide +kernel) (by decide +kernel)
theorem x_uw_12 : ∀ w ∈ u_ws RX12 TX12 105, w ∈ x_Ts := x_uw (ps := [1355, 1357, 1359, 1361, 1363, 1365, 1367, 1369, 1371, 1373, 1375, 1377, 1379, 1381, 1383, 1385, 1387, 1389, 1391, 1393, 1395, 1397, 1399, 1401, 1403, 1405, 1407, 1409, 1411, 1413, 1415, 1417, 1419, 1421, 1423, 1425, 1427, 1429, 1431, 1433, 1435, 1437, 1439, 1441, 1443, 1445, 1447, 1449, 1451, 1453, 1455, 1457, 1459, 1461, 1463, 1465, 1467, 1469, 1471, 1473, 1475, 1477, 1479, 1481, 1483, 1485, 1487, 1489, 1491, 1493, 1495, 1497, 1499, 1501, 1503, 1505, 1507, 1509, 1511, 1513, 1515, 1517, 1519, 1521, 1523, 1525, 1527, 1529, 1531, 1533, 1535, 1537, 1539, 1541, 1543, 1545, 1547, 1549, 1551, 1553, 1555, 1557, 1559, 1561, 1563]) (by decide +kernel) (by decide +kernel)
theorem x_cl_ok : ∀ (ci : Nat) (C : String) (T : u_T) (N : Nat), vwCl[ci]? = some (C, T, N) → (∀ w ∈ u_ws C T N, w ∈ x_Ts) ∧ (∀ a, a < N → ∀ b, b < N → a ≠ b → (T a).2.1 ≠ (T b).2.1) ∧ ∃ ty : Nat → FieldType, ∀ k, k < N → parseFieldDescriptor (T k).2.2.1 = some (ty k) := by
  intro ci C T N h
  match ci, h with
  | 0, h => cases h; exact ⟨x_uw_0, nmX0, tyX0, tyX0_ok⟩
  | 1, h => cases h; exact ⟨x_uw_1, nmX1, tyX1, tyX1_ok⟩
  | 2, h => cases h; exact ⟨x_uw_2, nmX2, tyX2, tyX2_ok⟩
  | 3, h => cases h; exact ⟨x_uw_3, nmX3, tyX3, tyX3_ok⟩
  | 4, h => cases h; exact ⟨x_uw_4, nmX4, tyX4, tyX4_ok⟩
  | 5, h => cases h; exact ⟨x_uw_5, nmX5, tyX5, tyX5_ok⟩
  | 6, h => cases h; exact ⟨x_uw_6, nmX6, tyX6, tyX6_ok⟩
  | 7, h => cases h; exact ⟨x_uw_7, nmX7, tyX7, tyX7_ok⟩
  | 8, h => cases h; exact ⟨x_uw_8, nmX8, tyX8, tyX8_ok⟩
  | 9, h => cases h; exact ⟨x_uw_9, nmX9, tyX9, tyX9_ok⟩
  | 10, h => cases h; exact ⟨x_uw_10, nmX10, tyX10, tyX10_ok⟩
  | 11, h => cases h; exact ⟨x_uw_11, nmX11, tyX11, tyX11_ok⟩
  | 12, h => cases h; exact ⟨x_uw_12, nmX12, tyX12, tyX12_ok⟩
  | ci + 13, h => simp [vwCl] at h
theorem x_ok : x_Ok vwCl x_Ts x_AO xMM := ⟨⟨x_Ts_good, x_AO_mv⟩, x_ml_ok, x_cl_ok⟩
end
section
/-! THE CLAIM OUT OF ONE WALK OF THE LAW'S BODY. Your part is whole_start (and what it stands on); all else here is the same for every law, but numbers. -/
def R_law : String := "LocationDeskLaw"
def lw_P (b : Addr) (xs : List Int32) (args : Array Value) (s : State) : Prop := args = #[.ref b] ∧ s.IntsAt b xs ∧ xs.length ≤ 3584 ∧ (Jvm.Cond.and given_1 narrow_1).before args s = true
def lw_Q (_ : Array Value) (s : State) (o : Outcome) (t : State) : Prop := o = .returned (some (.int 1)) ∧ Framed s o t [] 600000 7302250
def lw_Z (below : List Frame) (a : Array Value) (s : State) : State → Prop := fun t => ∃ o, t.status = .running ∧ Ended t below o ∧ lw_Q a s o t
/-- the law's own end, with 1 on the stack, nothing written that was there before, its room as the claim has it -/
theorem lw_ret {p : Program} {l : Launch} {e : Env} {s : State} {m : MethodId} {below : List Frame} {meth : Method} {c : Code} {b : Nat} (hx : p.tables.exec = Jvm.exec) (hb : c.code = code) (hr : meth.sig.returnType = ret) (hlocks : meth.locks = false) {pc : Nat} {H : Heap} {ls : Array Slot} (hdg : decode code pc = .ok (.ireturn, 1)) : W p l e room_1 s m #[Value.ref b] below meth c H [] 600000 7302250 (lw_Z below #[Value.ref b] s) (F0 m pc ls [.int 1]) := by
  intro T hT X
  obtain ⟨fs, hret, hrun, hended, hW, hframe⟩ := X.leave (v := some (.int 1)) (hlocks := hlocks) (fun h => by rw [hr] at h; cases h)
  have hmeth' : T.vm.method? m = some meth := X.method'
  refine ⟨T.setFrames fs, ?_, .returned (some (.int 1)), hrun, hended, rfl, ⟨_, rfl⟩, hW, hframe⟩
  jvm_step X.here [X.here.top, hx, hb, hdg, hmeth', hr, ret, narrow_b1]
  (try refine ⟨rfl, ?_⟩); (try refine ⟨rfl, ?_⟩)
  first | (intro acts; rw [hret _ acts rfl rfl rfl]) | rw [hret _ _ rfl rfl rfl]
  exact Steps.refl _
/-- what holds at the law's entry: the machine, the code, the tables' words (any of lw_tbl by 'hts w (by decide +kernel)'), the script of L ints xs at the cell b, what the Statement gives of the start (any of its parts by flat_of_before) -/
def lw_At (p : Program) (s : State) (m : MethodId) (meth : Method) (c : Code) (b L : Nat) (xs : Nat → Int32) : Prop :=
  p.tables.exec = Jvm.exec ∧ c.code = code ∧ meth.sig.returnType = ret ∧ c.maxLocals = 4 ∧ s.vm.findClass R_law = some m.cls ∧ (∀ w ∈ lw_tbl, w.before #[Value.ref b] s = true) ∧ va_X b L xs s s.heap ∧ b < s.heap.size ∧ meth.locks = false ∧ (Jvm.Cond.and given_1 narrow_1).before #[Value.ref b] s = true ∧ meth.name = x.name
/-! THE CLAIM OUT OF THE SIMPLE MACHINE -/
def x_kn : List FieldType := [.int, .long, .boolean, .object "LocationDesk$Part", .object "LocationDesk$Variable", .object "LocationDesk$Place", .array .int]
/-- what is left to be shown: the simple machine's run of the law -/
def x_Law : Prop := ∀ (sk : xK) (base b L : Nat) (xs : Nat → Int32), x_kb sk base → L ≤ 3584 → b < base → ∃ h' : List xC, x_G sk vwCl x_kn x_Ts x_AO xMM base 1000 (some (b, L, xs)) 0 (0, [(0, .ref b)], [], []) (some (.int 1)) h' ∧ h'.length ≤ 600000 ∧ x_sl h' ≤ 7302250
theorem x_arrT {s : State} {c : ClassId} {k : Class} {comp : ClassId} {ty : FieldType} (h1 : s.vm.classes[c]? = some k) (h2 : k.kind = .array comp ty) : ArrOfT s c ty := by
  intro n z
  refine ⟨?_, k, h1, comp, h2⟩
  intro q hq
  cases hq
theorem x_overA_any {args : Array Value} {s : State} {t : FieldType} (h : (Cond.arrayOver (.array t)).before args s = true) : va_Nw (.arrayOver (.array t)) s := h
theorem x_overA {args : Array Value} {s : State} {t : FieldType} (h : (Cond.arrayOver (.array t)).before args s = true) : ∃ comp c k, s.vm.classes[c]? = some k ∧ k.kind = .array comp (.array t) ∧ s.vm.findClass ("[" ++ (FieldType.array t).toString) = some c := by
  simp only [Cond.before, Cond.holds, Cond.value, beq_iff_eq] at h
  cases hc : s.vm.findClass (FieldType.array t).toString with
  | none => simp [hc] at h
  | some comp =>
    simp only [hc, Option.bind_some, Option.bind_eq_some_iff, Option.map_eq_some_iff] at h
    obtain ⟨c, -, k, hk, h⟩ := h
    cases hkd : k.kind with
    | array component ty =>
      rw [hkd] at h
      simp only [Bool.and_eq_true, decide_eq_true_eq] at h
      obtain ⟨rfl, h2⟩ := h
      exact ⟨component, c, k, hk, hkd, h2⟩
    | _ => rw [hkd] at h; simp at h
theorem x_inst : ∀ (ci : Nat) (C : String) (T : u_T) (N : Nat), vwCl[ci]? = some (C, T, N) → Cond.instantiable C N ∈ x_Ts := by
  intro ci C T N h
  match ci, h with
  | 0, h => cases h; exact tin_2 (i := 89) rfl rfl
  | 1, h => cases h; exact tin_1 (i := 89) rfl rfl
  | 2, h => cases h; exact tin_1 (i := 216) rfl rfl
  | 3, h => cases h; exact tin_5 (i := 89) rfl rfl
  | 4, h => cases h; exact tin_2 (i := 3) rfl rfl
  | 5, h => cases h; exact tin_1 (i := 38) rfl rfl
  | 6, h => cases h; exact tin_5 (i := 31) rfl rfl
  | 7, h => cases h; exact tin_2 (i := 9) rfl rfl
  | 8, h => cases h; exact tin_1 (i := 31) rfl rfl
  | 9, h => cases h; exact tin_1 (i := 152) rfl rfl
  | 10, h => cases h; exact tin_4 (i := 200) rfl rfl
  | 11, h => cases h; exact tin_1 (i := 23) rfl rfl
  | 12, h => cases h; exact tin_6 (i := 45) rfl rfl
  | ci + 13, h => simp [vwCl] at h
/-! where the strings lie -/
def x_stm (i : Nat) : Term := .string "LocationDesk$Reader" (x_strI.getD i 0)
theorem x_sr : ∀ i, i < 11 → Cond.stringRef "LocationDesk$Reader" (x_strI.getD i 0) (x_strT.getD i "") ∈ lw_tbl := by
  intro i hi
  match i, hi with
  | 0, _ => exact (List.mem_append_right _ (List.mem_append_right _ (List.mem_append_right _ (List.mem_append_right _ (List.mem_append_left _ (List.mem_of_getElem? (i := 30) rfl))))))
  | 1, _ => exact (List.mem_append_right _ (List.mem_append_right _ (List.mem_append_right _ (List.mem_append_right _ (List.mem_append_left _ (List.mem_of_getElem? (i := 83) rfl))))))
  | 2, _ => exact (List.mem_append_right _ (List.mem_append_right _ (List.mem_append_right _ (List.mem_append_right _ (List.mem_append_left _ (List.mem_of_getElem? (i := 84) rfl))))))
  | 3, _ => exact (List.mem_append_right _ (List.mem_append_right _ (List.mem_append_right _ (List.mem_append_right _ (List.mem_append_left _ (List.mem_of_getElem? (i := 85) rfl))))))
  | 4, _ => exact (List.mem_append_right _ (List.mem_append_right _ (List.mem_append_right _ (List.mem_append_right _ (List.mem_append_left _ (List.mem_of_getElem? (i := 86) rfl))))))
  | 5, _ => exact (List.mem_append_right _ (List.mem_append_right _ (List.mem_append_right _ (List.mem_append_right _ (List.mem_append_left _ (List.mem_of_getElem? (i := 87) rfl))))))
  | 6, _ => exact (List.mem_append_right _ (List.mem_append_right _ (List.mem_append_right _ (List.mem_append_right _ (List.mem_append_left _ (List.mem_of_getElem? (i := 88) rfl))))))
  | 7, _ => exact (List.mem_append_right _ (List.mem_append_right _ (List.mem_append_right _ (List.mem_append_right _ (List.mem_append_left _ (List.mem_of_getElem? (i := 89) rfl))))))
  | 8, _ => exact (List.mem_append_right _ (List.mem_append_right _ (List.mem_append_right _ (List.mem_append_right _ (List.mem_append_left _ (List.mem_of_getElem? (i := 90) rfl))))))
  | 9, _ => exact (List.mem_append_right _ (List.mem_append_right _ (List.mem_append_right _ (List.mem_append_right _ (List.mem_append_left _ (List.mem_of_getElem? (i := 91) rfl))))))
  | 10, _ => exact (List.mem_append_right _ (List.mem_append_right _ (List.mem_append_right _ (List.mem_append_right _ (List.mem_append_left _ (List.mem_of_getElem? (i := 108) rfl))))))
  | i + 11, hi => exact absurd hi (by omega)
theorem x_sn1 : ∀ i, i < 11 → Cond.exactly (x_stm i) "java/lang/String" ∈ Jvm.Free.XT.flat narrow_1 := by decide +kernel
theorem x_sn2 : ∀ i, i < 11 → Cond.eq (.field (x_stm i) "java/lang/String" "coder" "B") (.int 0) ∈ Jvm.Free.XT.flat narrow_1 := by decide +kernel
theorem x_sn3 : ∀ i, i < 11 → Cond.arrayOf (.field (x_stm i) "java/lang/String" "value" "[B") .byte ∈ Jvm.Free.XT.flat narrow_1 := by decide +kernel
theorem x_sn4 : ∀ i, i < 11 → Cond.eq (.length (.field (x_stm i) "java/lang/String" "value" "[B")) (.int (Int32.ofNat (x_strN.getD i 0))) ∈ Jvm.Free.XT.flat narrow_1 := by decide +kernel
theorem x_sn5 : ∀ i, i < 11 → ∀ j, j < x_strN.getD i 0 → Cond.eq (.elem (.field (x_stm i) "java/lang/String" "value" "[B") (.int (Int32.ofNat j))) (.int ((x_strB.getD i []).getD j 0)) ∈ Jvm.Free.XT.flat narrow_1 := by decide +kernel
theorem x_sn6 : ∀ i, i < 11 → ∀ j, j < 11 → i ≠ j → Cond.not (Cond.eq (x_stm i) (x_stm j)) ∈ Jvm.Free.XT.flat narrow_1 ∨ Cond.not (Cond.eq (x_stm j) (x_stm i)) ∈ Jvm.Free.XT.flat narrow_1 := by decide +kernel
theorem x_strings {b : Nat} {s : State} (hts : ∀ w ∈ lw_tbl, w.before #[Value.ref b] s = true) (hgv : (Jvm.Cond.and given_1 narrow_1).before #[Value.ref b] s = true) : ∃ sk : xK, x_KS sk s.heap.size s s.heap := by
  rw [Cond.before_and, Bool.and_eq_true] at hgv
  have hs := flat_of_before _ hgv.2
  have hA : ∀ a : Nat, a < s.heap.size → ¬ (fun q => s.heap.size ≤ q) a := fun a ha => Nat.not_le_of_lt ha
  obtain ⟨adK, adV, h1, h2⟩ := vk_Sof (args := #[Value.ref b]) (s := s) (N := 11) (tm := x_stm) (len := x_strN) (byt := x_strB) (A := fun q => s.heap.size ≤ q) (by decide) (fun i hi => hs _ (x_sn1 i hi)) (fun i hi => hs _ (x_sn2 i hi)) (fun i hi => hs _ (x_sn3 i hi)) (fun i hi => hs _ (x_sn4 i hi)) (fun i hi j hj => hs _ (x_sn5 i hi j hj)) (fun i j hi hj hij => (x_sn6 i hi j hj hij).imp (fun h => hs _ h) (fun h => hs _ h)) hA
  have hZ := va_Zqof (A := fun q => s.heap.size ≤ q) (hts (Cond.laysStatic "jdk/internal/util/Preconditions" "SIOOBE_FORMATTER" "Ljava/util/function/BiFunction;") (List.mem_append_right _ (List.mem_append_right _ (List.mem_append_right _ (List.mem_append_right _ (List.mem_append_left _ (List.mem_of_getElem? (i := 60) rfl))))))) (hts (Cond.initialized "jdk/internal/util/Preconditions") (List.mem_append_right _ (List.mem_append_left _ (List.mem_of_getElem? (i := 16) rfl)))) (hs _ (by decide +kernel)) hA
  have h3 : va_Z "java/lang/String" "COMPACT_STRINGS" "Z" (.int 1) (fun q => s.heap.size ≤ q) s s.heap := va_Zof (hts (Cond.laysStatic "java/lang/String" "COMPACT_STRINGS" "Z") (List.mem_append_right _ (List.mem_append_right _ (List.mem_append_right _ (List.mem_append_right _ (List.mem_append_left _ (List.mem_of_getElem? (i := 44) rfl))))))) (hts (Cond.initialized "java/lang/String") (List.mem_append_right _ (List.mem_append_left _ (List.mem_of_getElem? (i := 14) rfl)))) (va_eqt (hs (Cond.eq (.static "java/lang/String" "COMPACT_STRINGS" "Z") (.int 1)) (by decide +kernel))) hA
  rcases hZ with hz | ⟨t, hz⟩
  · exact ⟨(adK, adV, none), h1, fun i hi => vk_R.of (hts _ (x_sr i hi)) (h2 i hi), h3, hz⟩
  · exact ⟨(adK, adV, some t), h1, fun i hi => vk_R.of (hts _ (x_sr i hi)) (h2 i hi), h3, hz⟩
set_option maxHeartbeats 4000000 in
set_option maxRecDepth 100000 in
theorem x_whole (hp : x_Law) {p : Program} {e : Env} {s : State} {m : MethodId} {below : List Frame} {meth : Method} {c : Code} (l : Launch) {b L : Nat} {xs : Nat → Int32} (hL : L ≤ 3584) (C0 : lw_At p s m meth c b L xs) : W p l e room_1 s m #[Value.ref b] below meth c s.heap [] 0 0 (lw_Z below #[Value.ref b] s) (entryFrame m ([Value.ref b] : List Value).toArray 4) := by
  obtain ⟨hx, hb, hr, hml, hown, hts, hX, hbl, hlocks, hgv, hname⟩ := id C0
  obtain ⟨sk, hKS⟩ := x_strings hts hgv
  obtain ⟨h', ⟨n, hg⟩, hr1, hr2⟩ := hp sk s.heap.size b L xs (x_kb_of hKS) hL hbl
  have hts2 : ∀ w ∈ x_Ts, w.before #[Value.ref b] s = true := fun w hw => hts w (List.mem_filter.mp hw).1
  have known : ∀ (ci : Nat), ∃ (cC : ClassId) (iS : Nat → Nat), ∀ q, vwCl[ci]? = some q → u_Kn s q.1 q.2.1 q.2.2 cC iS := by
    intro ci
    cases hq : vwCl[ci]? with
    | none => exact ⟨0, fun _ => 0, fun q h => by cases h⟩
    | some q =>
      obtain ⟨C, T, N⟩ := q
      have hins : (Cond.instantiable C N).before #[Value.ref b] s = true := hts2 _ (x_inst ci C T N hq)
      obtain ⟨cC, iS, hKn⟩ := u_known (C := C) (T := T) (N := N) (n := N) hts2 (x_cl_ok ci C T N hq).1 hins
      exact ⟨cC, iS, fun q h => by cases h; exact hKn⟩
  have prim : ∀ ty : FieldType, (Cond.arrayClass ty).before #[Value.ref b] s = true → (∀ C, ty ≠ .object C) → ∃ cA : ClassId, ArrOfT s cA ty ∧ va_RA s cA ty := by
    intro ty h hne
    obtain ⟨c1, k1, comp, f1, f2, f3⟩ := Cond.arrayClass_spec h
    refine ⟨c1, x_arrT f2 f3, ?_⟩
    cases ty with
    | object C => exact absurd rfl (hne C)
    | _ => exact f1
  have obj : ∀ C : String, (Cond.arrayOver (.object C)).before #[Value.ref b] s = true → ∃ cA : ClassId, ArrOfT s cA (.object C) ∧ va_RA s cA (.object C) := by
    intro C h
    obtain ⟨comp, c1, k1, f1, -, f3, f4, f5⟩ := Cond.arrayOver_spec h
    exact ⟨c1, x_arrT f3 f4, k1, comp, f3, f4, f1, f5⟩
  have arrs : ∀ (k : Nat), ∃ cA : ClassId, ∀ ty, x_kn[k]? = some ty → ArrOfT s cA ty ∧ va_RA s cA ty := by
    intro k
    match k with
    | 0 =>
      obtain ⟨cA, h⟩ := prim .int (hts2 _ (tin_1 (i := 149) rfl rfl)) (fun _ h => by cases h)
      exact ⟨cA, fun ty e => by cases e; exact h⟩
    | 1 =>
      obtain ⟨cA, h⟩ := prim .long (hts2 _ (tin_1 (i := 150) rfl rfl)) (fun _ h => by cases h)
      exact ⟨cA, fun ty e => by cases e; exact h⟩
    | 2 =>
      obtain ⟨cA, h⟩ := prim .boolean (hts2 _ (tin_7 (i := 126) rfl rfl)) (fun _ h => by cases h)
      exact ⟨cA, fun ty e => by cases e; exact h⟩
    | 3 =>
      obtain ⟨cA, h⟩ := obj "LocationDesk$Part" (hts _ (List.mem_append_right _ (List.mem_append_left _ (List.mem_of_getElem? (i := 37) rfl))))
      exact ⟨cA, fun ty e => by cases e; exact h⟩
    | 4 =>
      obtain ⟨cA, h⟩ := obj "LocationDesk$Variable" (hts _ (List.mem_append_right _ (List.mem_append_left _ (List.mem_of_getElem? (i := 87) rfl))))
      exact ⟨cA, fun ty e => by cases e; exact h⟩
    | 5 =>
      obtain ⟨cA, h⟩ := obj "LocationDesk$Place" (hts _ (List.mem_append_right _ (List.mem_append_right _ (List.mem_append_right _ (List.mem_append_right _ (List.mem_append_left _ (List.mem_of_getElem? (i := 206) rfl)))))))
      exact ⟨cA, fun ty e => by cases e; exact h⟩
    | 6 =>
      obtain ⟨comp, c1, k1, f1, f2, f3⟩ := x_overA (hts _ (List.mem_append_right _ (List.mem_append_left _ (List.mem_of_getElem? (i := 95) rfl))))
      exact ⟨c1, fun ty e => by cases e; exact ⟨x_arrT f1 f2, f3⟩⟩
    | k + 7 => exact ⟨0, fun ty e => by simp [x_kn] at e⟩
  have hKK : x_K (fun k => Classical.choose (known k), fun k => Classical.choose (Classical.choose_spec (known k))) vwCl (fun k => Classical.choose (arrs k)) x_kn x_AO s := by
    refine ⟨⟨fun ci q hq => Classical.choose_spec (Classical.choose_spec (known ci)) q hq, fun k q hq => ?_⟩, fun w hw => ?_⟩
    · rw [List.getElem?_mapIdx] at hq
      obtain ⟨ty, h1, rfl⟩ := Option.map_eq_some_iff.mp hq
      exact Classical.choose_spec (arrs k) ty h1
    · have h1 := hts w (List.mem_filter.mp hw).1
      have h2 := (List.mem_filter.mp hw).2
      cases w with
      | fieldLinkNest a i b n d h => exact va_Nw.of rfl h1
      | methodLinkNest a i x h => exact va_Nw.of rfl h1
      | castable a b => exact va_Nw.of rfl h1
      | arrayOver t =>
        cases t with
        | object C => exact va_AO.of h1
        | array t => exact x_overA_any h1
        | _ => exact absurd h2 (by simp [x_isN])
      | _ => exact absurd h2 (by simp [x_isN])
  have hl := lv_entry ([.ref b]) (n := 4) (Nat.le_of_ble_eq_true rfl)
  rw [lg_entry_eq]
  generalize (lg_sl ([.ref b]) ++ List.replicate (4 - (lg_sl ([.ref b])).length) Slot.unset).toArray = ls at hl ⊢
  refine x_body (l := l) x_ok n 1000 (some (b, L, xs)) 0 (0, [(0, .ref b)], [], []) (some (.int 1)) h' hg p e room_1 s m #[Value.ref b] below meth c (lw_Z below #[Value.ref b] s) x code 4 (some .boolean) 0 s.heap [] 0 0 ls rfl ⟨⟨hx, hb, hml, hown, hts2⟩, hKK, Nat.le_refl _, (fun q n f h => by cases h; exact ⟨hX, hbl⟩), x_cl_ok⟩ hKS ?_ (by decide) (by decide) (by show s.heap.size + h'.length ≤ s.heap.size + 600000; omega) (by show x_sl h' ≤ 0 + 7302250; omega) ?_ ⟨fun k q h => by simp [x_W] at h, va_S.rf, rfl, rfl, hl⟩
  · exact hname
  · intro pc i len st Lx H1 locs1 cells1 slots1 ls1 hd hret hR
    obtain ⟨gP, gS, gc, gs, gl⟩ := hR
    cases i with
    | ireturn =>
      obtain ⟨rfl, x1, ty, rfl, hx1, -, -⟩ := hret
      cases hx1
      refine va_forget (fun q hq => gS.2.2 q hq) ?_
      refine W.widen (k := 600000) (n := 7302250) (by omega) (by omega) ?_
      exact lw_ret hx hb hr hlocks hd
    | lreturn =>
      obtain ⟨rfl, x1, rfl, hx1, h3⟩ := hret
      cases h3
    | areturn =>
      obtain ⟨rfl, x1, ty, rfl, hx1, h3, h4⟩ := hret
      cases h3
      rcases h4 with ⟨_, h4⟩ | ⟨_, h4⟩ <;> cases h4
    | return_ =>
      obtain ⟨rfl, rfl, h3, h4⟩ := hret
      cases h3
    | _ => exact hret.elim
end
section
/-! THE CELLS AS FUNCTIONS: n cells, their shapes (class, or 100 + kind of array; how many places), ints, longs and references by cell and place. -/
abbrev hS : Type := Nat × Nat × (Nat → Nat × Nat) × (Nat → Nat → Int32) × (Nat → Nat → Int64) × (Nat → Nat → Option Nat)
def h_nf (t : Nat) : Nat := match vwCl[t]? with
  | some q => q.2.2
  | none => 0
def h_ty (t : Nat) : Nat → FieldType := match t with
  | 0 => tyX0
  | 1 => tyX1
  | 2 => tyX2
  | 3 => tyX3
  | 4 => tyX4
  | 5 => tyX5
  | 6 => tyX6
  | 7 => tyX7
  | 8 => tyX8
  | 9 => tyX9
  | 10 => tyX10
  | 11 => tyX11
  | _ => tyX12
theorem h_ty_ok {t : Nat} {C : String} {T : u_T} {N k : Nat} (h : vwCl[t]? = some (C, T, N)) (hk : k < N) : parseFieldDescriptor (T k).2.2.1 = some (h_ty t k) := by
  match t, h with
  | 0, h => cases h; exact tyX0_ok k hk
  | 1, h => cases h; exact tyX1_ok k hk
  | 2, h => cases h; exact tyX2_ok k hk
  | 3, h => cases h; exact tyX3_ok k hk
  | 4, h => cases h; exact tyX4_ok k hk
  | 5, h => cases h; exact tyX5_ok k hk
  | 6, h => cases h; exact tyX6_ok k hk
  | 7, h => cases h; exact tyX7_ok k hk
  | 8, h => cases h; exact tyX8_ok k hk
  | 9, h => cases h; exact tyX9_ok k hk
  | 10, h => cases h; exact tyX10_ok k hk
  | 11, h => cases h; exact tyX11_ok k hk
  | 12, h => cases h; exact tyX12_ok k hk
  | t + 13, h => simp [vwCl] at h
theorem h_nf_of {t : Nat} {C : String} {T : u_T} {N : Nat} (h : vwCl[t]? = some (C, T, N)) : h_nf t = N := by
  unfold h_nf; rw [h]
def h_rf (base : Nat) (r : Option Nat) : Option Nat := r.map (fun q => base + q)
/-- a field's value, by its type -/
def h_fv (base : Nat) (ty : FieldType) (x : Int32) (y : Int64) (r : Option Nat) : Value := match ty with
  | .long => .long y
  | .object _ => va_rf (h_rf base r)
  | .array _ => va_rf (h_rf base r)
  | _ => .int x
/-- an array's contents, by its kind -/
def h_av (base : Nat) (k : Nat) (f : Nat → Int32) (g : Nat → Int64) (r : Nat → Option Nat) : (Nat → Int32) ⊕ (Nat → Int64) ⊕ (Nat → UInt32) ⊕ (Nat → UInt64) ⊕ (Nat → Option Nat) := match k with
  | 0 => .inl f
  | 1 => .inr (.inl g)
  | 2 => .inl f
  | _ => .inr (.inr (.inr (.inr (fun i => h_rf base (r i)))))
def h_fs (base t : Nat) (f : Nat → Int32) (g : Nat → Int64) (r : Nat → Option Nat) : List Value := (List.range (h_nf t)).map (fun k => h_fv base (h_ty t k) (f k) (g k) (r k))
def h_cell (base : Nat) (sh : Nat × Nat) (f : Nat → Int32) (g : Nat → Int64) (r : Nat → Option Nat) : xC :=
  if sh.1 < 100 then .inr (sh.1, h_fs base sh.1 f g r) else .inl (sh.1 - 100, sh.2, h_av base (sh.1 - 100) f g r)
def h_Rel (base : Nat) (s : hS) (h : List xC) : Prop := h.length = s.1 ∧ x_sl h = s.2.1 ∧ ∀ q, q < s.1 → h[q]? = some (h_cell base (s.2.2.1 q) (s.2.2.2.1 q) (s.2.2.2.2.1 q) (s.2.2.2.2.2 q))
theorem h_obj {base : Nat} {sh : Nat × Nat} {f : Nat → Int32} {g : Nat → Int64} {r : Nat → Option Nat} {t : Nat} (h : sh.1 = t) (ht : t < 100) : h_cell base sh f g r = .inr (t, h_fs base t f g r) := by
  subst h; unfold h_cell; rw [if_pos ht]
theorem h_arr {base : Nat} {sh : Nat × Nat} {f : Nat → Int32} {g : Nat → Int64} {r : Nat → Option Nat} {k z : Nat} (h : sh = (100 + k, z)) : h_cell base sh f g r = .inl (k, z, h_av base k f g r) := by
  subst h; unfold h_cell; rw [if_neg (by dsimp only; omega)]; dsimp only; rw [show 100 + k - 100 = k by omega]
theorem h_fs_at {base t k : Nat} {f : Nat → Int32} {g : Nat → Int64} {r : Nat → Option Nat} (hk : k < h_nf t) : (h_fs base t f g r)[k]? = some (h_fv base (h_ty t k) (f k) (g k) (r k)) := by
  unfold h_fs
  rw [List.getElem?_map, List.getElem?_range hk]; rfl
theorem h_fs_set {base t k : Nat} {f f' : Nat → Int32} {g g' : Nat → Int64} {r r' : Nat → Option Nat} {v : Value} (hk : k < h_nf t) (hv : h_fv base (h_ty t k) (f' k) (g' k) (r' k) = v) (ho : ∀ i, i ≠ k → h_fv base (h_ty t i) (f' i) (g' i) (r' i) = h_fv base (h_ty t i) (f i) (g i) (r i)) : (h_fs base t f g r).set k v = h_fs base t f' g' r' := by
  apply List.ext_getElem?
  intro i
  rw [List.getElem?_set]
  by_cases hik : k = i
  · subst hik
    rw [if_pos rfl, h_fs_at hk, hv]
    simp [h_fs, hk]
  · rw [if_neg hik]
    unfold h_fs
    rw [List.getElem?_map, List.getElem?_map]
    by_cases hi : i < h_nf t
    · rw [List.getElem?_range hi]
      exact congrArg some (ho i (fun e => hik e.symm)).symm
    · rw [List.getElem?_eq_none (by simpa using Nat.le_of_not_lt hi)]
      rfl
/-- one cell set, as the functions say it -/
theorem h_set {base n sl : Nat} {SH : Nat → Nat × Nat} {FI FI' : Nat → Nat → Int32} {FL FL' : Nat → Nat → Int64} {FR FR' : Nat → Nat → Option Nat} {h : List xC} {q : Nat} {c : xC} (hR : h_Rel base (n, sl, SH, FI, FL, FR) h) (hq : q < n) (hc : h_cell base (SH q) (FI' q) (FL' q) (FR' q) = c) (hn : x_n c = x_n (h_cell base (SH q) (FI q) (FL q) (FR q))) (ho : ∀ i, i ≠ q → FI' i = FI i ∧ FL' i = FL i ∧ FR' i = FR i) : h_Rel base (n, sl, SH, FI', FL', FR') (h.set q c) := by
  obtain ⟨h1, h2, h3⟩ := hR
  refine ⟨by rw [List.length_set]; exact h1, (x_sl_set (h3 q hq) hn).trans h2, fun i hi => ?_⟩
  dsimp only at h1 h3 hi ⊢
  rw [List.getElem?_set]
  by_cases hiq : q = i
  · subst hiq
    rw [if_pos rfl, if_pos (by omega), hc]
  · obtain ⟨e1, e2, e3⟩ := ho i (fun e => hiq e.symm)
    rw [if_neg hiq, e1, e2, e3]
    exact h3 i hi
theorem h_push {base n sl : Nat} {SH : Nat → Nat × Nat} {FI : Nat → Nat → Int32} {FL : Nat → Nat → Int64} {FR : Nat → Nat → Option Nat} {h : List xC} {sh : Nat × Nat} {f : Nat → Int32} {g : Nat → Int64} {r : Nat → Option Nat} {c : xC} {z : Nat} (hR : h_Rel base (n, sl, SH, FI, FL, FR) h) (hc : h_cell base sh f g r = c) (hz : x_n c = z) : h_Rel base (n + 1, sl + z, va_up SH n sh, va_up FI n f, va_up FL n g, va_up FR n r) (h ++ [c]) := by
  obtain ⟨h1, h2, h3⟩ := hR
  dsimp only at h1 h2 h3
  refine ⟨by simp [h1], by rw [x_sl_app, h2, hz], fun i hi => ?_⟩
  dsimp only at hi ⊢
  by_cases hin : i < n
  · rw [List.getElem?_append_left (by omega)]
    have e : i ≠ n := by omega
    simp only [va_up, if_neg e]
    exact h3 i hin
  · have e : i = n := by omega
    subst e
    rw [List.getElem?_append_right (by omega), h1]
    simp [va_up, hc]
end
section
/-! Rules over the cells as functions. -/
abbrev hw (sk : xK) (base d : Nat) (X : Option (Nat × Nat × (Nat → Int32))) (j pc : Nat) (L : xL) (st : List Value) (s : hS) (Φ : Option Value → hS → Prop) : Prop := xw sk vwCl x_kn x_Ts x_AO xMM base d X (h_Rel base) j pc L st s Φ
theorem h_same {α : Type} (f : Nat → α) (c : Nat) : va_up f c (f c) = f := by
  funext i
  by_cases h : i = c
  · subst h; simp [va_up]
  · simp [va_up, h]
theorem h_noF : ∀ t, t < 13 → ∀ k, k < 105 → h_ty t k ≠ .float ∧ h_ty t k ≠ .double := by decide +kernel
theorem h_nle : ∀ t, t < 13 → h_nf t ≤ 105 := by decide +kernel
def h_up {α : Type} (F : Nat → Nat → α) (c k : Nat) (x : α) : Nat → Nat → α := va_up F c (va_up (F c) k x)
theorem h_up_eq {α : Type} {F : Nat → Nat → α} {c k : Nat} {x : α} : h_up F c k x c k = x := by simp [h_up, va_up]
theorem h_up_ne {α : Type} {F : Nat → Nat → α} {c k k2 : Nat} {x : α} (h : k2 ≠ k) : h_up F c k x c k2 = F c k2 := by simp [h_up, va_up, h]
theorem h_up_nc {α : Type} {F : Nat → Nat → α} {c k c2 : Nat} {x : α} (h : c2 ≠ c) : h_up F c k x c2 = F c2 := by simp [h_up, va_up, h]
section HW
variable {sk : xK} {base d : Nat} {X : Option (Nat × Nat × (Nat → Int32))} {j : Nat} {y : MethodName} {nL : Nat} {ret : Option FieldType} {len pc : Nat} {L : xL} {st : List Value} {Φ : Option Value → hS → Prop} {n sl : Nat} {SH : Nat → Nat × Nat} {FI : Nat → Nat → Int32} {FL : Nat → Nat → Int64} {FR : Nat → Nat → Option Nat}
theorem hw_st {i : Jvm.ClassFile.Instr} {s s' : hS} {pc' : Nat} {L' : xL} {st' : List Value} (q : x_at xMM j pc i len y nL ret) (hi : ∀ h, h_Rel base s h → ∃ h2, x_ins vwCl x_kn x_Ts x_AO X base y.cls y.name nL i len (pc, L, st, h) (pc', L', st', h2) ∧ h_Rel base s' h2) (k : hw sk base d X j pc' L' st' s' Φ) : hw sk base d X j pc L st s Φ := by
  intro h hR
  obtain ⟨h2, g1, g2⟩ := hi h hR
  obtain ⟨r, h', g3, k2⟩ := k h2 g2
  exact ⟨r, h', x_G.step q g1 g3, k2⟩
theorem hw_aload {i a : Nat} {s : hS} (q : x_at xMM j pc (.aload i) 2 y nL ret) (hl : x_get L i = some (.ref a)) (k : hw sk base d X j (pc + 2) L (.ref a :: st) s Φ) : hw sk base d X j pc L st s Φ := xw_aload (x := some a) q hl k
theorem hw_aloadn {i : Fin 4} {a : Nat} {s : hS} (q : x_at xMM j pc (.aload_n i) 1 y nL ret) (hl : x_get L i = some (.ref a)) (k : hw sk base d X j (pc + 1) L (.ref a :: st) s Φ) : hw sk base d X j pc L st s Φ := xw_aloadn (x := some a) q hl k
theorem hw_astore {i a : Nat} {L2 : xL} {s : hS} (q : x_at xMM j pc (.astore i) 2 y nL ret) (hn : i < nL) (hl : x_s1 L i (.ref a) = L2) (k : hw sk base d X j (pc + 2) L2 st s Φ) : hw sk base d X j pc L (.ref a :: st) s Φ := xw_astore (x := some a) q hn hl k
theorem hw_astoren {i : Fin 4} {a : Nat} {L2 : xL} {s : hS} (q : x_at xMM j pc (.astore_n i) 1 y nL ret) (hn : (i : Nat) < nL) (hl : x_s1 L i (.ref a) = L2) (k : hw sk base d X j (pc + 1) L2 st s Φ) : hw sk base d X j pc L (.ref a :: st) s Φ := xw_astoren (x := some a) q hn hl k
theorem hw_aret {a : Nat} {ty : FieldType} {s : hS} (q : x_at xMM j pc .areturn 1 y nL ret) (hr : ret = some ty) (ht : (∃ n, ty = .object n) ∨ ∃ t, ty = .array t) (k : Φ (some (.ref a)) s) : hw sk base d X j pc L [.ref a] s Φ := xw_aret (v := some a) q hr ht k
/-- a field is read -/
theorem hw_get {idx t k N c z : Nat} {C : String} {T : u_T} {v : Value} (q : x_at xMM j pc (.getfield idx) 3 y nL ret) (hf : x_fl vwCl x_Ts x_AO y.cls idx t k C T N) (hc : c < n) (hs : SH c = (t, z)) (ht : t < 100) (hv : h_fv base (h_ty t k) (FI c k) (FL c k) (FR c k) = v) (kk : hw sk base d X j (pc + 3) L (v :: st) (n, sl, SH, FI, FL, FR) Φ) : hw sk base d X j pc L (.ref (base + c) :: st) (n, sl, SH, FI, FL, FR) Φ := by
  refine hw_st q (fun h hR => ⟨h, ⟨rfl, t, k, C, T, N, c, h_fs base t (FI c) (FL c) (FR c), v, st, hf, rfl, ?_, ?_, rfl⟩, hR⟩) kk
  · rw [hR.2.2 c hc, h_obj (congrArg Prod.fst hs) ht]
  · rw [h_fs_at (by rw [h_nf_of hf.1]; exact hf.2.1), hv]
theorem h_fs_len {base t : Nat} {f : Nat → Int32} {g : Nat → Int64} {r : Nat → Option Nat} : (h_fs base t f g r).length = h_nf t := by simp [h_fs]
theorem hw_put {idx t k N c z : Nat} {C : String} {T : u_T} {v : Value} {f' : Nat → Int32} {g' : Nat → Int64} {r' : Nat → Option Nat} (q : x_at xMM j pc (.putfield idx) 3 y nL ret) (hf : x_fl vwCl x_Ts x_AO y.cls idx t k C T N) (hc : c < n) (hs : SH c = (t, z)) (ht : t < 100) (hn : narrow (h_ty t k) v = v) (hfi : fits (h_ty t k) v = true) (hfin : (T k).2.2.2 = false ∨ ((T k).2.2.2 = true ∧ y.name = "<init>" ∧ (T k).1 = y.cls ∧ Cond.fieldLink y.cls idx (T k).1 (T k).2.1 (T k).2.2.1 ∈ x_Ts)) (hv : h_fv base (h_ty t k) (f' k) (g' k) (r' k) = v) (ho : ∀ i, i ≠ k → f' i = FI c i ∧ g' i = FL c i ∧ r' i = FR c i) (kk : hw sk base d X j (pc + 3) L st (n, sl, SH, va_up FI c f', va_up FL c g', va_up FR c r') Φ) : hw sk base d X j pc L (v :: .ref (base + c) :: st) (n, sl, SH, FI, FL, FR) Φ := by
  have hk : k < h_nf t := by rw [h_nf_of hf.1]; exact hf.2.1
  refine hw_st q (fun h hR => ⟨h.set c (.inr (t, (h_fs base t (FI c) (FL c) (FR c)).set k v)), ⟨rfl, t, k, C, T, N, c, h_fs base t (FI c) (FL c) (FR c), v, st, h_ty t k, hf, rfl, ?_, by rw [h_fs_len]; exact hk, h_ty_ok hf.1 hf.2.1, hn, hfi, hfin, rfl⟩, ?_⟩) kk
  · rw [hR.2.2 c hc, h_obj (congrArg Prod.fst hs) ht]
  · refine h_set hR hc ?_ ?_ (fun i hi => ⟨if_neg hi, if_neg hi, if_neg hi⟩)
    · rw [h_obj (congrArg Prod.fst hs) ht]
      have e : (h_fs base t (FI c) (FL c) (FR c)).set k v = h_fs base t f' g' r' := h_fs_set hk hv (fun i hi => by obtain ⟨a1, a2, a3⟩ := ho i hi; rw [a1, a2, a3])
      rw [show va_up FI c f' c = f' from if_pos rfl, show va_up FL c g' c = g' from if_pos rfl, show va_up FR c r' c = r' from if_pos rfl, e]
    · rw [h_obj (congrArg Prod.fst hs) ht]
      simp [x_n]
theorem hw_puti {idx t k N c z : Nat} {C : String} {T : u_T} {x : Int32} (q : x_at xMM j pc (.putfield idx) 3 y nL ret) (hf : x_fl vwCl x_Ts x_AO y.cls idx t k C T N) (hc : c < n) (hs : SH c = (t, z)) (ht : t < 100) (hty : h_ty t k = .int) (hfin : (T k).2.2.2 = false) (kk : hw sk base d X j (pc + 3) L st (n, sl, SH, h_up FI c k x, FL, FR) Φ) : hw sk base d X j pc L (.int x :: .ref (base + c) :: st) (n, sl, SH, FI, FL, FR) Φ := by
  refine hw_put q hf hc hs ht (by rw [hty]; rfl) (by rw [hty]; rfl) (Or.inl hfin) (f' := va_up (FI c) k x) (g' := FL c) (r' := FR c) (by rw [hty]; simp [h_fv, va_up]) (fun i hi => ⟨by simp [va_up, hi], rfl, rfl⟩) ?_
  rw [h_same FL, h_same FR]
  exact kk
theorem hw_putz {idx t k N c z : Nat} {C : String} {T : u_T} {x : Int32} (q : x_at xMM j pc (.putfield idx) 3 y nL ret) (hf : x_fl vwCl x_Ts x_AO y.cls idx t k C T N) (hc : c < n) (hs : SH c = (t, z)) (ht : t < 100) (hty : h_ty t k = .boolean) (hfin : (T k).2.2.2 = false) (hx : x = 0 ∨ x = 1) (kk : hw sk base d X j (pc + 3) L st (n, sl, SH, h_up FI c k x, FL, FR) Φ) : hw sk base d X j pc L (.int x :: .ref (base + c) :: st) (n, sl, SH, FI, FL, FR) Φ := by
  refine hw_put q hf hc hs ht (by rw [hty]; rcases hx with rfl | rfl <;> rfl) (by rw [hty]; rcases hx with rfl | rfl <;> rfl) (Or.inl hfin) (f' := va_up (FI c) k x) (g' := FL c) (r' := FR c) (by rw [hty]; simp [h_fv, va_up]) (fun i hi => ⟨by simp [va_up, hi], rfl, rfl⟩) ?_
  rw [h_same FL, h_same FR]
  exact kk
theorem hw_putl {idx t k N c z : Nat} {C : String} {T : u_T} {x : Int64} (q : x_at xMM j pc (.putfield idx) 3 y nL ret) (hf : x_fl vwCl x_Ts x_AO y.cls idx t k C T N) (hc : c < n) (hs : SH c = (t, z)) (ht : t < 100) (hty : h_ty t k = .long) (hfin : (T k).2.2.2 = false) (kk : hw sk base d X j (pc + 3) L st (n, sl, SH, FI, h_up FL c k x, FR) Φ) : hw sk base d X j pc L (.long x :: .ref (base + c) :: st) (n, sl, SH, FI, FL, FR) Φ := by
  refine hw_put q hf hc hs ht (by rw [hty]; rfl) (by rw [hty]; rfl) (Or.inl hfin) (f' := FI c) (g' := va_up (FL c) k x) (r' := FR c) (by rw [hty]; simp [h_fv, va_up]) (fun i hi => ⟨rfl, by simp [va_up, hi], rfl⟩) ?_
  rw [h_same FI, h_same FR]
  exact kk
theorem hw_putr {idx t k N c z : Nat} {C : String} {T : u_T} {r : Option Nat} (q : x_at xMM j pc (.putfield idx) 3 y nL ret) (hf : x_fl vwCl x_Ts x_AO y.cls idx t k C T N) (hc : c < n) (hs : SH c = (t, z)) (ht : t < 100) (hty : (∃ C2, h_ty t k = .object C2) ∨ ∃ t2, h_ty t k = .array t2) (hfin : (T k).2.2.2 = false ∨ ((T k).2.2.2 = true ∧ y.name = "<init>" ∧ (T k).1 = y.cls ∧ Cond.fieldLink y.cls idx (T k).1 (T k).2.1 (T k).2.2.1 ∈ x_Ts)) (kk : hw sk base d X j (pc + 3) L st (n, sl, SH, FI, FL, h_up FR c k r) Φ) : hw sk base d X j pc L (va_rf (h_rf base r) :: .ref (base + c) :: st) (n, sl, SH, FI, FL, FR) Φ := by
  have hn : narrow (h_ty t k) (va_rf (h_rf base r)) = va_rf (h_rf base r) := by
    rcases hty with ⟨C2, e⟩ | ⟨t2, e⟩ <;> rw [e] <;> cases r <;> rfl
  have hfi : fits (h_ty t k) (va_rf (h_rf base r)) = true := by
    rcases hty with ⟨C2, e⟩ | ⟨t2, e⟩ <;> rw [e] <;> cases r <;> rfl
  refine hw_put q hf hc hs ht hn hfi hfin (f' := FI c) (g' := FL c) (r' := va_up (FR c) k r) (by rcases hty with ⟨C2, e⟩ | ⟨t2, e⟩ <;> rw [e] <;> simp [h_fv, va_up]) (fun i hi => ⟨rfl, rfl, by simp [va_up, hi]⟩) ?_
  rw [h_same FI, h_same FL]
  exact kk
theorem hw_iald {c z : Nat} {i v : Int32} (q : x_at xMM j pc .iaload 1 y nL ret) (hc : c < n) (hs : SH c = (100, z)) (hin : vp_in i z) (hv : FI c i.toNatClampNeg = v) (kk : hw sk base d X j (pc + 1) L (.int v :: st) (n, sl, SH, FI, FL, FR) Φ) : hw sk base d X j pc L (.int i :: .ref (base + c) :: st) (n, sl, SH, FI, FL, FR) Φ := by
  subst hv
  exact hw_st q (fun h hR => ⟨h, ⟨rfl, i, st, Or.inl ⟨c, 0, z, FI c, rfl, hin, rfl, by rw [hR.2.2 c hc]; exact congrArg some (h_arr hs), rfl⟩⟩, hR⟩) kk
theorem hw_zald {c z : Nat} {i v : Int32} (q : x_at xMM j pc .baload 1 y nL ret) (hc : c < n) (hs : SH c = (102, z)) (hin : vp_in i z) (hv : FI c i.toNatClampNeg = v) (kk : hw sk base d X j (pc + 1) L (.int v :: st) (n, sl, SH, FI, FL, FR) Φ) : hw sk base d X j pc L (.int i :: .ref (base + c) :: st) (n, sl, SH, FI, FL, FR) Φ := by
  subst hv
  exact hw_st q (fun h hR => ⟨h, ⟨rfl, i, st, c, 2, z, FI c, rfl, hin, rfl, by rw [hR.2.2 c hc]; exact congrArg some (h_arr (k := 2) hs), rfl⟩, hR⟩) kk
theorem hw_lald {c z : Nat} {i : Int32} {v : Int64} (q : x_at xMM j pc .laload 1 y nL ret) (hc : c < n) (hs : SH c = (101, z)) (hin : vp_in i z) (hv : FL c i.toNatClampNeg = v) (kk : hw sk base d X j (pc + 1) L (.long v :: st) (n, sl, SH, FI, FL, FR) Φ) : hw sk base d X j pc L (.int i :: .ref (base + c) :: st) (n, sl, SH, FI, FL, FR) Φ := by
  subst hv
  exact hw_st q (fun h hR => ⟨h, ⟨rfl, i, st, c, 1, z, FL c, rfl, hin, rfl, by rw [hR.2.2 c hc]; exact congrArg some (h_arr (k := 1) hs), rfl⟩, hR⟩) kk
theorem h_arr_set {z c k : Nat} {f' : Nat → Int32} {g' : Nat → Int64} {r' : Nat → Option Nat} {h : List xC} (hR : h_Rel base (n, sl, SH, FI, FL, FR) h) (hc : c < n) (hs : SH c = (100 + k, z)) : h_Rel base (n, sl, SH, va_up FI c f', va_up FL c g', va_up FR c r') (h.set c (.inl (k, z, h_av base k f' g' r'))) := by
  refine h_set hR hc ?_ ?_ (fun i hi => ⟨if_neg hi, if_neg hi, if_neg hi⟩)
  · rw [show va_up FI c f' c = f' from if_pos rfl, show va_up FL c g' c = g' from if_pos rfl, show va_up FR c r' c = r' from if_pos rfl]
    exact h_arr hs
  · rw [h_arr hs]; rfl
theorem h_upd {f : Nat → Int32} {k : Nat} {x : Int32} : upd f k x = va_up f k x := by
  funext i; rfl
theorem h_updL {f : Nat → Int64} {k : Nat} {x : Int64} : vp_updL f k x = va_up f k x := by
  funext i; rfl
theorem hw_iast {c z : Nat} {i x : Int32} (q : x_at xMM j pc .iastore 1 y nL ret) (hc : c < n) (hs : SH c = (100, z)) (hin : vp_in i z) (kk : hw sk base d X j (pc + 1) L st (n, sl, SH, h_up FI c i.toNatClampNeg x, FL, FR) Φ) : hw sk base d X j pc L (.int x :: .int i :: .ref (base + c) :: st) (n, sl, SH, FI, FL, FR) Φ := by
  refine hw_st q (fun h hR => ⟨h.set c (.inl (0, z, .inl (upd (FI c) i.toNatClampNeg x))), ⟨rfl, i, x, st, c, 0, z, FI c, rfl, hin, rfl, by rw [hR.2.2 c hc]; exact congrArg some (h_arr hs), rfl⟩, ?_⟩) kk
  have e := h_arr_set (k := 0) (f' := va_up (FI c) i.toNatClampNeg x) (g' := FL c) (r' := FR c) hR hc hs
  rw [h_same FL, h_same FR] at e
  rw [h_upd]
  exact e
theorem hw_last {c z : Nat} {i : Int32} {x : Int64} (q : x_at xMM j pc .lastore 1 y nL ret) (hc : c < n) (hs : SH c = (101, z)) (hin : vp_in i z) (kk : hw sk base d X j (pc + 1) L st (n, sl, SH, FI, h_up FL c i.toNatClampNeg x, FR) Φ) : hw sk base d X j pc L (.long x :: .int i :: .ref (base + c) :: st) (n, sl, SH, FI, FL, FR) Φ := by
  refine hw_st q (fun h hR => ⟨h.set c (.inl (1, z, .inr (.inl (vp_updL (FL c) i.toNatClampNeg x)))), ⟨rfl, i, x, st, c, 1, z, FL c, rfl, hin, rfl, by rw [hR.2.2 c hc]; exact congrArg some (h_arr (k := 1) hs), rfl⟩, ?_⟩) kk
  have e := h_arr_set (k := 1) (f' := FI c) (g' := va_up (FL c) i.toNatClampNeg x) (r' := FR c) hR hc hs
  rw [h_same FI, h_same FR] at e
  rw [h_updL]
  exact e
theorem hw_zast {c z : Nat} {i x : Int32} (q : x_at xMM j pc .bastore 1 y nL ret) (hc : c < n) (hs : SH c = (102, z)) (hin : vp_in i z) (kk : hw sk base d X j (pc + 1) L st (n, sl, SH, h_up FI c i.toNatClampNeg (vp_nar .boolean x), FL, FR) Φ) : hw sk base d X j pc L (.int x :: .int i :: .ref (base + c) :: st) (n, sl, SH, FI, FL, FR) Φ := by
  refine hw_st q (fun h hR => ⟨h.set c (.inl (2, z, .inl (upd (FI c) i.toNatClampNeg (vp_nar .boolean x)))), ⟨rfl, i, x, st, c, 2, z, FI c, rfl, hin, rfl, by rw [hR.2.2 c hc]; exact congrArg some (h_arr (k := 2) hs), rfl⟩, ?_⟩) kk
  have e := h_arr_set (k := 2) (f' := va_up (FI c) i.toNatClampNeg (vp_nar .boolean x)) (g' := FL c) (r' := FR c) hR hc hs
  rw [h_same FL, h_same FR] at e
  rw [h_upd]
  exact e
theorem hw_aald {c k z : Nat} {i : Int32} {v : Option Nat} (q : x_at xMM j pc .aaload 1 y nL ret) (hc : c < n) (hs : SH c = (100 + k, z)) (hk : 3 ≤ k) (hk2 : k < 7) (hin : vp_in i z) (hv : FR c i.toNatClampNeg = v) (kk : hw sk base d X j (pc + 1) L (va_rf (h_rf base v) :: st) (n, sl, SH, FI, FL, FR) Φ) : hw sk base d X j pc L (.int i :: .ref (base + c) :: st) (n, sl, SH, FI, FL, FR) Φ := by
  subst hv
  have hkd : ∃ ty, x_kn[k]? = some ty ∧ ty.isReference = true := by
    rcases (show k = 3 ∨ k = 4 ∨ k = 5 ∨ k = 6 by omega) with rfl | rfl | rfl | rfl <;> exact ⟨_, rfl, rfl⟩
  obtain ⟨ty, e1, e2⟩ := hkd
  have hav : h_av base k (FI c) (FL c) (FR c) = .inr (.inr (.inr (.inr (fun i => h_rf base (FR c i))))) := by
    rcases (show k = 3 ∨ k = 4 ∨ k = 5 ∨ k = 6 by omega) with rfl | rfl | rfl | rfl <;> rfl
  exact hw_st q (fun h hR => ⟨h, ⟨rfl, i, st, c, k, z, fun i => h_rf base (FR c i), ty, e1, e2, hin, rfl, by rw [hR.2.2 c hc]; exact congrArg some ((h_arr hs).trans (by rw [hav])), rfl⟩, hR⟩) kk
theorem hw_alen {c k z : Nat} {v : Int32} (q : x_at xMM j pc .arraylength 1 y nL ret) (hc : c < n) (hs : SH c = (100 + k, z)) (hk2 : k < 7) (hv : Int32.ofNat z = v) (kk : hw sk base d X j (pc + 1) L (.int v :: st) (n, sl, SH, FI, FL, FR) Φ) : hw sk base d X j pc L (.ref (base + c) :: st) (n, sl, SH, FI, FL, FR) Φ := by
  subst hv
  exact hw_st q (fun h hR => ⟨h, ⟨rfl, st, Or.inl ⟨c, k, (z, h_av base k (FI c) (FL c) (FR c)), by simpa [x_kn] using hk2, rfl, by rw [hR.2.2 c hc]; exact congrArg some (h_arr hs), rfl⟩⟩, hR⟩) kk
theorem hw_sld {b LL : Nat} {xs : Nat → Int32} {i v : Int32} {s : hS} (q : x_at xMM j pc .iaload 1 y nL ret) (hX : X = some (b, LL, xs)) (hin : vp_in i LL) (hv : xs i.toNatClampNeg = v) (kk : hw sk base d X j (pc + 1) L (.int v :: st) s Φ) : hw sk base d X j pc L (.int i :: .ref b :: st) s Φ := by
  subst hv
  exact xw_pu q (fun h => ⟨rfl, i, st, Or.inr ⟨b, LL, xs, hX, hin, rfl, rfl⟩⟩) kk
theorem hw_slen {b LL : Nat} {xs : Nat → Int32} {v : Int32} {s : hS} (q : x_at xMM j pc .arraylength 1 y nL ret) (hX : X = some (b, LL, xs)) (hv : Int32.ofNat LL = v) (kk : hw sk base d X j (pc + 1) L (.int v :: st) s Φ) : hw sk base d X j pc L (.ref b :: st) s Φ := by
  subst hv
  exact xw_pu q (fun h => ⟨rfl, st, Or.inr ⟨b, LL, xs, hX, rfl, rfl⟩⟩) kk
theorem hw_new {idx t N : Nat} {C : String} {T : u_T} (q : x_at xMM j pc (.new idx) 3 y nL ret) (ht : vwCl[t]? = some (C, T, N)) (hl : Cond.classLink y.cls idx C ∈ x_Ts) (hi : Cond.initialized C ∈ x_Ts) (kk : hw sk base d X j (pc + 3) L (.ref (base + n) :: st) (n + 1, sl + N, va_up SH n (t, 0), va_up FI n (fun _ => 0), va_up FL n (fun _ => 0), va_up FR n (fun _ => none)) Φ) : hw sk base d X j pc L st (n, sl, SH, FI, FL, FR) Φ := by
  have ht2 : t < 100 := Nat.lt_trans (List.getElem?_eq_some_iff.mp ht).1 (by decide)
  refine hw_st q (fun h hR => ⟨h ++ [.inr (t, (List.range N).map (fun k => defaultValue (h_ty t k)))], ⟨rfl, t, C, T, N, h_ty t, ht, fun k hk => h_ty_ok ht hk, hl, x_inst t C T N ht, hi, by rw [hR.1]; rfl⟩, ?_⟩) kk
  refine h_push hR ?_ (by simp [x_n])
  rw [h_obj rfl ht2]
  congr 2
  unfold h_fs
  rw [h_nf_of ht]
  apply List.map_congr_left
  intro k hk
  have hk2 : k < N := List.mem_range.mp hk
  have ht3 : t < 13 := (List.getElem?_eq_some_iff.mp ht).1
  have h105 := h_nle t ht3
  rw [h_nf_of ht] at h105
  obtain ⟨f1, f2⟩ := h_noF t ht3 k (by omega)
  cases e : h_ty t k with
  | float => exact absurd e f1
  | double => exact absurd e f2
  | _ => rfl
theorem hw_newa {aty : ArrayType} {k z : Nat} {m : Int32} (q : x_at xMM j pc (.newarray aty) 2 y nL ret) (hk : x_kn[k]? = some (Jvm.Op.newarray.typeOf aty)) (hk2 : k < 3) (hl : Cond.arrayClass (Jvm.Op.newarray.typeOf aty) ∈ x_Ts) (hm : ¬ m < 0) (hz : m.toNatClampNeg = z) (hb : z * 8 ≤ 536870912) (kk : hw sk base d X j (pc + 2) L (.ref (base + n) :: st) (n + 1, sl + z, va_up SH n (100 + k, z), va_up FI n (fun _ => 0), va_up FL n (fun _ => 0), va_up FR n (fun _ => none)) Φ) : hw sk base d X j pc L (.int m :: st) (n, sl, SH, FI, FL, FR) Φ := by
  subst hz
  refine hw_st q (fun h hR => ⟨h ++ [.inl (k, m.toNatClampNeg, h_av base k (fun _ => 0) (fun _ => 0) (fun _ => none))], ⟨rfl, m, st, k, h_av base k (fun _ => 0) (fun _ => 0) (fun _ => none), hk, hl, hm, ?_, ?_, rfl, by rw [hR.1]; rfl⟩, ?_⟩) kk
  · have hcb : componentBytes (Jvm.Op.newarray.typeOf aty) ≤ 8 := by cases aty <;> decide
    exact Nat.le_trans (Nat.mul_le_mul_left _ hcb) hb
  · refine ⟨fun cA => ?_, ?_⟩
    · rcases (show k = 0 ∨ k = 1 ∨ k = 2 by omega) with rfl | rfl | rfl <;> (have e := Option.some.inj hk; rw [← e]; rfl)
    · rcases (show k = 0 ∨ k = 1 ∨ k = 2 by omega) with rfl | rfl | rfl <;> (have e := Option.some.inj hk; rw [← e]; rfl)
  · exact h_push hR (h_arr rfl) rfl
theorem hw_newq {idx k z : Nat} {C : String} {m : Int32} (q : x_at xMM j pc (.anewarray idx) 3 y nL ret) (hk : x_kn[k]? = some (.object C)) (hk3 : 3 ≤ k) (hl : Cond.classLink y.cls idx C ∈ x_Ts) (ha : Cond.arrayOver (.object C) ∈ x_AO) (hm : ¬ m < 0) (hz : m.toNatClampNeg = z) (hb : z * 4 ≤ 536870912) (kk : hw sk base d X j (pc + 3) L (.ref (base + n) :: st) (n + 1, sl + z, va_up SH n (100 + k, z), va_up FI n (fun _ => 0), va_up FL n (fun _ => 0), va_up FR n (fun _ => none)) Φ) : hw sk base d X j pc L (.int m :: st) (n, sl, SH, FI, FL, FR) Φ := by
  subst hz
  refine hw_st q (fun h hR => ⟨h ++ [.inl (k, m.toNatClampNeg, .inr (.inr (.inr (.inr (fun _ => none)))))], ⟨rfl, m, st, k, C, hk, hl, ha, hm, hb, rfl, by rw [hR.1]; rfl⟩, ?_⟩) kk
  refine h_push hR ((h_arr rfl).trans ?_) rfl
  obtain ⟨k, rfl⟩ : ∃ k', k = k' + 3 := ⟨k - 3, by omega⟩
  rfl
theorem hw_aast {c v k z ci zv N : Nat} {i : Int32} {C : String} {T : u_T} (q : x_at xMM j pc .aastore 1 y nL ret) (hc : c < n) (hs : SH c = (100 + k, z)) (hk : x_kn[k]? = some (.object C)) (hk3 : 3 ≤ k) (hcv : v < n) (hsv : SH v = (ci, zv)) (hci : vwCl[ci]? = some (C, T, N)) (hin : vp_in i z) (kk : hw sk base d X j (pc + 1) L st (n, sl, SH, FI, FL, h_up FR c i.toNatClampNeg (some v)) Φ) : hw sk base d X j pc L (.ref (base + v) :: .int i :: .ref (base + c) :: st) (n, sl, SH, FI, FL, FR) Φ := by
  have hci2 : ci < 100 := Nat.lt_trans (List.getElem?_eq_some_iff.mp hci).1 (by decide)
  obtain ⟨k, rfl⟩ : ∃ k', k = k' + 3 := ⟨k - 3, by omega⟩
  refine hw_st q (fun h hR => ⟨h.set c (.inl (k + 3, z, .inr (.inr (.inr (.inr (va_up (fun i => h_rf base (FR c i)) i.toNatClampNeg (some (base + v)))))))), ⟨rfl, i, v, st, c, k + 3, z, fun i => h_rf base (FR c i), hin, rfl, by rw [hR.2.2 c hc]; exact congrArg some (h_arr hs), rfl, Or.inl ⟨ci, h_fs base ci (FI v) (FL v) (FR v), C, T, N, hk, hci, by rw [hR.2.2 v hcv]; exact congrArg some (h_obj (congrArg Prod.fst hsv) hci2)⟩⟩, ?_⟩) kk
  have e := h_arr_set (k := k + 3) (f' := FI c) (g' := FL c) (r' := va_up (FR c) i.toNatClampNeg (some v)) hR hc hs
  rw [h_same FI, h_same FL] at e
  have e2 : (va_up (fun i => h_rf base (FR c i)) i.toNatClampNeg (some (base + v))) = fun i2 => h_rf base (va_up (FR c) i.toNatClampNeg (some v) i2) := by
    funext i2
    by_cases h9 : i2 = i.toNatClampNeg
    · simp [va_up, h9, h_rf]
    · simp [va_up, h9]
  rw [e2]
  exact e
/-- an int[] into an int[][] -/
theorem hw_aastI {c v z zv : Nat} {i : Int32} (q : x_at xMM j pc .aastore 1 y nL ret) (hc : c < n) (hs : SH c = (106, z)) (hA : Cond.arrayOver (.array .int) ∈ x_AO) (hcv : v < n) (hsv : SH v = (100, zv)) (hin : vp_in i z) (kk : hw sk base d X j (pc + 1) L st (n, sl, SH, FI, FL, h_up FR c i.toNatClampNeg (some v)) Φ) : hw sk base d X j pc L (.ref (base + v) :: .int i :: .ref (base + c) :: st) (n, sl, SH, FI, FL, FR) Φ := by
  refine hw_st q (fun h hR => ⟨h.set c (.inl (6, z, .inr (.inr (.inr (.inr (va_up (fun i => h_rf base (FR c i)) i.toNatClampNeg (some (base + v)))))))), ⟨rfl, i, v, st, c, 6, z, fun i => h_rf base (FR c i), hin, rfl, by rw [hR.2.2 c hc]; exact congrArg some (h_arr (k := 6) hs), rfl, Or.inr ⟨0, (zv, .inl (FI v)), rfl, rfl, hA, by rw [hR.2.2 v hcv]; exact congrArg some (h_arr (k := 0) hsv)⟩⟩, ?_⟩) kk
  have e := h_arr_set (k := 6) (f' := FI c) (g' := FL c) (r' := va_up (FR c) i.toNatClampNeg (some v)) hR hc hs
  rw [h_same FI, h_same FL] at e
  have e2 : (va_up (fun i => h_rf base (FR c i)) i.toNatClampNeg (some (base + v))) = fun i2 => h_rf base (va_up (FR c) i.toNatClampNeg (some v) i2) := by
    funext i2
    by_cases h9 : i2 = i.toNatClampNeg
    · simp [va_up, h9, h_rf]
    · simp [va_up, h9]
  rw [e2]
  exact e
/-- many cells alike behind the others -/
theorem h_pushs {z : Nat} {c : xC} {sh : Nat × Nat} {f : Nat → Int32} {g : Nat → Int64} {r : Nat → Option Nat} (hc : h_cell base sh f g r = c) (hz : x_n c = z) : ∀ (m n sl : Nat) (SH : Nat → Nat × Nat) (FI : Nat → Nat → Int32) (FL : Nat → Nat → Int64) (FR : Nat → Nat → Option Nat) (h : List xC), h_Rel base (n, sl, SH, FI, FL, FR) h → h_Rel base (n + m, sl + m * z, (fun q => if n ≤ q ∧ q < n + m then sh else SH q), (fun q => if n ≤ q ∧ q < n + m then f else FI q), (fun q => if n ≤ q ∧ q < n + m then g else FL q), (fun q => if n ≤ q ∧ q < n + m then r else FR q)) (h ++ List.replicate m c)
  | m, n, sl, SH, FI, FL, FR, h, hR => by
    obtain ⟨h1, h2, h3⟩ := hR
    dsimp only at h1 h2 h3
    refine ⟨by simp [h1], by simp [x_sl, List.map_replicate, hz] at h2 ⊢; omega, fun i hi => ?_⟩
    dsimp only at hi ⊢
    by_cases hin : i < n
    · have hno : ¬ (n ≤ i ∧ i < n + m) := by omega
      rw [List.getElem?_append_left (by omega)]
      simp only [if_neg hno]
      exact h3 i hin
    · have hyes : n ≤ i ∧ i < n + m := by omega
      rw [List.getElem?_append_right (by omega), List.getElem?_replicate, if_pos (by omega)]
      simp only [if_pos hyes]
      rw [hc]
theorem hw_mna {idx : Nat} {m w : Int32} {N K : Nat} (q : x_at xMM j pc (.multianewarray idx 2) 4 y nL ret) (h3 : Cond.classLink y.cls idx ("[" ++ (FieldType.array .int).toString) ∈ x_Ts) (h4 : Cond.arrayOver (.array .int) ∈ x_AO) (h5 : Cond.arrayClass .int ∈ x_Ts) (hm : ¬ m < 0) (hw0 : ¬ w < 0) (hN : m.toNatClampNeg = N) (hK : w.toNatClampNeg = K) (b1 : N * 4 ≤ 536870912) (b2 : K * 4 ≤ 536870912) (kk : hw sk base d X j (pc + 4) L (.ref (base + n) :: st) (n + 1 + N, sl + N + N * K, (fun q => if n + 1 ≤ q ∧ q < n + 1 + N then (100, K) else va_up SH n (106, N) q), (fun q => if n + 1 ≤ q ∧ q < n + 1 + N then (fun _ => 0) else va_up FI n (fun _ => 0) q), (fun q => if n + 1 ≤ q ∧ q < n + 1 + N then (fun _ => 0) else va_up FL n (fun _ => 0) q), (fun q => if n + 1 ≤ q ∧ q < n + 1 + N then (fun _ => none) else va_up FR n (fun i => if i < N then some (n + 1 + i) else none) q)) Φ) : hw sk base d X j pc L (.int w :: .int m :: st) (n, sl, SH, FI, FL, FR) Φ := by
  subst hN; subst hK
  refine hw_st q (fun h hR => ⟨(h ++ [.inl (6, m.toNatClampNeg, .inr (.inr (.inr (.inr (fun i => if i < m.toNatClampNeg then some (base + h.length + 1 + i) else none)))))]) ++ List.replicate m.toNatClampNeg (.inl (0, w.toNatClampNeg, .inl (fun _ => 0))), ⟨rfl, rfl, m, w, st, 6, 0, rfl, rfl, h3, h4, h5, hm, hw0, b1, b2, rfl, by rw [show n = h.length from hR.1.symm]; rfl⟩, ?_⟩) kk
  have hc : h_cell base (106, m.toNatClampNeg) (fun _ => 0) (fun _ => 0) (fun i => if i < m.toNatClampNeg then some (n + 1 + i) else none) = .inl (6, m.toNatClampNeg, .inr (.inr (.inr (.inr (fun i => if i < m.toNatClampNeg then some (base + h.length + 1 + i) else none))))) := by
    refine (h_arr (k := 6) rfl).trans ?_
    show Sum.inl (6, m.toNatClampNeg, Sum.inr (Sum.inr (Sum.inr (Sum.inr (fun i => h_rf base (if i < m.toNatClampNeg then some (n + 1 + i) else none)))))) = _
    congr 7
    funext i
    have e : h.length = n := hR.1
    by_cases hi : i < m.toNatClampNeg
    · rw [if_pos hi, if_pos hi, e]
      show some (base + (n + 1 + i)) = _
      rw [show base + (n + 1 + i) = base + n + 1 + i by omega]
    · rw [if_neg hi, if_neg hi]; rfl
  have e1 := h_push hR hc rfl
  exact h_pushs (sh := (100, w.toNatClampNeg)) (f := fun _ => 0) (g := fun _ => 0) (r := fun _ => none) (h_arr (k := 0) rfl) rfl m.toNatClampNeg _ _ _ _ _ _ _ e1
/-- what a method answers, by its type -/
def h_I (P : Int32 → hS → Prop) : Option Value → hS → Prop := fun v s => ∃ r, v = some (.int r) ∧ P r s
def h_J (P : Int64 → hS → Prop) : Option Value → hS → Prop := fun v s => ∃ r, v = some (.long r) ∧ P r s
def h_V (P : hS → Prop) : Option Value → hS → Prop := fun v s => v = none ∧ P s
def h_A (base : Nat) (P : Option Nat → hS → Prop) : Option Value → hS → Prop := fun v s => ∃ r, v = some (va_rf (h_rf base r)) ∧ P r s
theorem hw_callV {idx j2 nL2 c t z N nb : Nat} {y2 : MethodName} {cc2 : ByteArray} {ret2 : Option FieldType} {T : u_T} {st0 Bs rest : List Value} {Φ2 : Option Value → hS → Prop} (q : x_at xMM j pc (.invokevirtual idx) 3 y nL ret) (w : x_cw y.cls idx y2 nb) (hj2 : 0 < j2) (hM2 : xMM j2 = some (y2, cc2, nL2, ret2)) (wi : Cond.instanceMethod y2 ∈ x_Ts) (wv : Cond.selects y2.cls y2 y2 ∈ x_Ts) (hc : c < n) (hs : SH c = (t, z)) (ht : vwCl[t]? = some (y2.cls, T, N)) (hn : Bs.length = nb) (hst : st0 = Bs.reverse ++ .ref (base + c) :: rest) (hsum : (rest.map fun v => v.category).sum ≤ 8) (hl : (lg_sl (.ref (base + c) :: Bs)).length ≤ nL2) (k1 : hw sk base d none j2 0 (lv_args 0 (.ref (base + c) :: Bs)) [] (n, sl, SH, FI, FL, FR) Φ2) (k2 : ∀ v s', Φ2 v s' → hw sk base (d + 1) X j (pc + 3) L (v.toList ++ rest) s' Φ) : hw sk base (d + 1) X j pc L st0 (n, sl, SH, FI, FL, FR) Φ := by
  subst hn
  have ht2 : t < 100 := Nat.lt_trans (List.getElem?_eq_some_iff.mp ht).1 (by decide)
  exact xw_call q hj2 hM2 (fun h hR => ⟨hsum, w.2.1, w.2.2.1, w.2.2.2.1, rfl, w.1, wi, wv, Or.inl ⟨c, t, h_fs base t (FI c) (FL c) (FR c), T, N, Bs, rfl, hst, by rw [hR.2.2 c hc]; exact congrArg some (h_obj (congrArg Prod.fst hs) ht2), ht, w.2.2.2.2⟩⟩) hl k1 k2
/-- a string is asked -/
theorem hw_callT {idx j2 nL2 k nb : Nat} {y2 : MethodName} {cc2 : ByteArray} {ret2 : Option FieldType} {st0 Bs rest : List Value} {Φ2 : Option Value → hS → Prop} {s : hS} (q : x_at xMM j pc (.invokevirtual idx) 3 y nL ret) (w : x_cw y.cls idx y2 nb) (hj2 : 0 < j2) (hM2 : xMM j2 = some (y2, cc2, nL2, ret2)) (wi : Cond.instanceMethod y2 ∈ x_Ts) (wv : Cond.selects y2.cls y2 y2 ∈ x_Ts) (hk : k < 11) (hcs : y2.cls = "java/lang/String") (hn : Bs.length = nb) (hst : st0 = Bs.reverse ++ .ref (sk.1 k) :: rest) (hsum : (rest.map fun v => v.category).sum ≤ 8) (hl : (lg_sl (.ref (sk.1 k) :: Bs)).length ≤ nL2) (k1 : hw sk base d none j2 0 (lv_args 0 (.ref (sk.1 k) :: Bs)) [] s Φ2) (k2 : ∀ v s', Φ2 v s' → hw sk base (d + 1) X j (pc + 3) L (v.toList ++ rest) s' Φ) : hw sk base (d + 1) X j pc L st0 s Φ := by
  subst hn
  exact xw_call q hj2 hM2 (fun h hR => ⟨hsum, w.2.1, w.2.2.1, w.2.2.2.1, rfl, w.1, wi, wv, Or.inr ⟨k, Bs, hk, hcs, rfl, hst, w.2.2.2.2⟩⟩) hl k1 k2
theorem hw_ldcS {idx k : Nat} {s : hS} (q : x_at xMM j pc (.ldc idx) 2 y nL ret) (hk : k < 11) (ho : y.cls = "LocationDesk$Reader") (hi : idx = x_strI.getD k 0) (kk : hw sk base d X j (pc + 2) L (.ref (sk.1 k) :: st) s Φ) : hw sk base d X j pc L st s Φ :=
  xw_su q (fun _ => ⟨rfl, k, hk, ho, hi, rfl⟩) kk
theorem hw_sval {idx k : Nat} {s : hS} (q : x_at xMM j pc (.getfield idx) 3 y nL ret) (hk : k < 11) (hw0 : Cond.fieldLink y.cls idx "java/lang/String" "value" "[B" ∈ x_Ts) (kk : hw sk base d X j (pc + 3) L (.ref (sk.2.1 k) :: st) s Φ) : hw sk base d X j pc L (.ref (sk.1 k) :: st) s Φ :=
  xw_su q (fun _ => ⟨rfl, k, st, hk, rfl, Or.inl ⟨hw0, rfl⟩⟩) kk
theorem hw_scod {idx k : Nat} {s : hS} (q : x_at xMM j pc (.getfield idx) 3 y nL ret) (hk : k < 11) (hw0 : Cond.fieldLink y.cls idx "java/lang/String" "coder" "B" ∈ x_Ts) (kk : hw sk base d X j (pc + 3) L (.int 0 :: st) s Φ) : hw sk base d X j pc L (.ref (sk.1 k) :: st) s Φ :=
  xw_su q (fun _ => ⟨rfl, k, st, hk, rfl, Or.inr ⟨hw0, rfl⟩⟩) kk
theorem hw_strl {k : Nat} {v : Int32} {s : hS} (q : x_at xMM j pc .arraylength 1 y nL ret) (hk : k < 11) (hv : Int32.ofNat (x_strN.getD k 0) = v) (kk : hw sk base d X j (pc + 1) L (.int v :: st) s Φ) : hw sk base d X j pc L (.ref (sk.2.1 k) :: st) s Φ := by
  subst hv
  exact xw_su q (fun _ => ⟨rfl, k, st, hk, rfl, rfl⟩) kk
theorem hw_sbld {k : Nat} {x v : Int32} {s : hS} (q : x_at xMM j pc .baload 1 y nL ret) (hk : k < 11) (hin : vp_in x (x_strN.getD k 0)) (hv : (x_strB.getD k []).getD x.toNatClampNeg 0 = v) (kk : hw sk base d X j (pc + 1) L (.int v :: st) s Φ) : hw sk base d X j pc L (.int x :: .ref (sk.2.1 k) :: st) s Φ := by
  subst hv
  exact xw_su q (fun _ => ⟨rfl, k, x, st, hk, hin, rfl, rfl⟩) kk
theorem hw_sone {idx : Nat} {s : hS} (q : x_at xMM j pc (.getstatic idx) 3 y nL ret) (hw0 : Cond.fieldLink y.cls idx "java/lang/String" "COMPACT_STRINGS" "Z" ∈ x_Ts) (kk : hw sk base d X j (pc + 3) L (.int 1 :: st) s Φ) : hw sk base d X j pc L st s Φ :=
  xw_su q (fun _ => ⟨rfl, Or.inl ⟨hw0, rfl⟩⟩) kk
theorem hw_sfmt {idx : Nat} {s : hS} (q : x_at xMM j pc (.getstatic idx) 3 y nL ret) (hw0 : Cond.fieldLink y.cls idx "jdk/internal/util/Preconditions" "SIOOBE_FORMATTER" "Ljava/util/function/BiFunction;" ∈ x_Ts) (kk : hw sk base d X j (pc + 3) L (va_rf sk.2.2 :: st) s Φ) : hw sk base d X j pc L st s Φ :=
  xw_su q (fun _ => ⟨rfl, Or.inr ⟨hw0, rfl⟩⟩) kk
theorem hw_i2b {x v : Int32} {s : hS} (q : x_at xMM j pc .i2b 1 y nL ret) (hv : x.toInt8.toInt32 = v) (kk : hw sk base d X j (pc + 1) L (.int v :: st) s Φ) : hw sk base d X j pc L (.int x :: st) s Φ := by
  subst hv
  exact xw_su q (fun _ => ⟨rfl, x, st, rfl, rfl⟩) kk
theorem hw_callS {idx j2 nL2 nb : Nat} {y2 : MethodName} {cc2 : ByteArray} {ret2 : Option FieldType} {st0 As rest : List Value} {Φ2 : Option Value → hS → Prop} {s : hS} (q : x_at xMM j pc (.invokestatic idx) 3 y nL ret) (w : x_cw y.cls idx y2 nb) (hj2 : 0 < j2) (hM2 : xMM j2 = some (y2, cc2, nL2, ret2)) (wt : Cond.static y2 ∈ x_Ts) (hn : As.length = nb) (hst : st0 = As.reverse ++ rest) (hsum : (rest.map fun v => v.category).sum ≤ 8) (hl : (lg_sl As).length ≤ nL2) (k1 : hw sk base d none j2 0 (lv_args 0 As) [] s Φ2) (k2 : ∀ v s', Φ2 v s' → hw sk base (d + 1) X j (pc + 3) L (v.toList ++ rest) s' Φ) : hw sk base (d + 1) X j pc L st0 s Φ := by
  subst hn
  exact xw_call q hj2 hM2 (fun h hR => ⟨hsum, w.2.1, w.2.2.1, w.2.2.2.1, rfl, w.1, hst, w.2.2.2.2, wt⟩) hl k1 k2
theorem hw_callN {idx j2 nL2 nb a : Nat} {y2 : MethodName} {cc2 : ByteArray} {ret2 : Option FieldType} {st0 Bs rest : List Value} {Φ2 : Option Value → hS → Prop} {s : hS} (q : x_at xMM j pc (.invokespecial idx) 3 y nL ret) (w : x_cw y.cls idx y2 nb) (hj2 : 0 < j2) (hM2 : xMM j2 = some (y2, cc2, nL2, ret2)) (wi : Cond.instanceMethod y2 ∈ x_Ts) (hnm : y2.name = "<init>") (hn : Bs.length = nb) (hst : st0 = Bs.reverse ++ .ref a :: rest) (hsum : (rest.map fun v => v.category).sum ≤ 8) (hl : (lg_sl (.ref a :: Bs)).length ≤ nL2) (k1 : hw sk base d none j2 0 (lv_args 0 (.ref a :: Bs)) [] s Φ2) (k2 : ∀ v s', Φ2 v s' → hw sk base (d + 1) X j (pc + 3) L (v.toList ++ rest) s' Φ) : hw sk base (d + 1) X j pc L st0 s Φ := by
  subst hn
  exact xw_call q hj2 hM2 (fun h hR => ⟨hsum, w.2.1, w.2.2.1, w.2.2.2.1, rfl, w.1, hnm, a, Bs, rfl, hst, w.2.2.2.2, wi⟩) hl k1 k2
theorem hw_nat {i : Jvm.ClassFile.Instr} {s s' : hS} {pc' : Nat} {L' : xL} {st' : List Value} (q : x_at xMM j pc i len y nL ret) (hi : ∀ h, h_Rel base s h → ∃ h2, x_nat x_kn x_Ts x_AO base y.cls i len (pc, L, st, h) (pc', L', st', h2) ∧ h_Rel base s' h2) (k : hw sk base (d + 1) X j pc' L' st' s' Φ) : hw sk base (d + 1) X j pc L st s Φ := by
  intro h hR
  obtain ⟨h2, g1, g2⟩ := hi h hR
  obtain ⟨r, h', g3, k2⟩ := k h2 g2
  exact ⟨r, h', x_G.nat q g1 g3, k2⟩
theorem hw_obj {idx a : Nat} {s : hS} (q : x_at xMM j pc (.invokespecial idx) 3 y nL ret) (hl : Cond.methodLink y.cls idx Jvm.Lib.objectInit ∈ x_Ts) (hi : Cond.instanceMethod Jvm.Lib.objectInit ∈ x_Ts) (hc : Cond.code Jvm.Lib.objectInit ⟨#[0xb1]⟩ 1 none ∈ x_Ts) (hsum : (st.map fun v => v.category).sum ≤ 8) (k : hw sk base (d + 1) X j (pc + 3) L st s Φ) : hw sk base (d + 1) X j pc L (.ref a :: st) s Φ :=
  hw_nat q (fun h hR => ⟨h, ⟨rfl, a, st, rfl, hsum, hl, hi, hc, rfl⟩, hR⟩) k
theorem hw_cpy {idx c0 c1 z0 z1 : Nat} {sp dp m : Int32} (q : x_at xMM j pc (.invokestatic idx) 3 y nL ret) (w1 : Cond.methodLink y.cls idx arraycopyName ∈ x_Ts) (w2 : Cond.native arraycopyName ∈ x_Ts) (w3 : Cond.static arraycopyName ∈ x_Ts) (w4 : Cond.initialized "java/lang/System" ∈ x_Ts) (hc0 : c0 < n) (hs0 : SH c0 = (100, z0)) (hc1 : c1 < n) (hs1 : SH c1 = (100, z1)) (h1 : ¬ sp < 0) (h2 : ¬ dp < 0) (h3 : ¬ m < 0) (h4 : sp.toNatClampNeg + m.toNatClampNeg ≤ z0) (h5 : dp.toNatClampNeg + m.toNatClampNeg ≤ z1) (hsum : (st.map fun v => v.category).sum ≤ 8) (kk : hw sk base (d + 1) X j (pc + 3) L st (n, sl, SH, va_up FI c1 (va_cpy (FI c0) (FI c1) sp.toNatClampNeg dp.toNatClampNeg m.toNatClampNeg), FL, FR) Φ) : hw sk base (d + 1) X j pc L (.int m :: .int dp :: .ref (base + c1) :: .int sp :: .ref (base + c0) :: st) (n, sl, SH, FI, FL, FR) Φ := by
  refine hw_nat q (fun h hR => ⟨h.set c1 (.inl (0, z1, .inl (va_cpy (FI c0) (FI c1) sp.toNatClampNeg dp.toNatClampNeg m.toNatClampNeg))), ⟨rfl, w1, w2, w3, w4, c0, c1, 0, z0, z1, FI c0, FI c1, sp, dp, m, st, rfl, by rw [hR.2.2 c0 hc0]; exact congrArg some (h_arr hs0), by rw [hR.2.2 c1 hc1]; exact congrArg some (h_arr hs1), h1, h2, h3, h4, h5, hsum, rfl, rfl⟩, ?_⟩) kk
  have e := h_arr_set (k := 0) (f' := va_cpy (FI c0) (FI c1) sp.toNatClampNeg dp.toNatClampNeg m.toNatClampNeg) (g' := FL c1) (r' := FR c1) hR hc1 hs1
  rw [h_same FL, h_same FR] at e
  exact e
theorem hw_cast {idx c z : Nat} (q : x_at xMM j pc (.checkcast idx) 3 y nL ret) (hl : Cond.classLink y.cls idx "[I" ∈ x_Ts) (hc : c < n) (hs : SH c = (100, z)) (kk : hw sk base d X j (pc + 3) L (.ref (base + c) :: st) (n, sl, SH, FI, FL, FR) Φ) : hw sk base d X j pc L (.ref (base + c) :: st) (n, sl, SH, FI, FL, FR) Φ :=
  hw_st q (fun h hR => ⟨h, ⟨rfl, c, 0, (z, h_av base 0 (FI c) (FL c) (FR c)), st, rfl, hl, rfl, by rw [hR.2.2 c hc]; exact congrArg some (h_arr (k := 0) hs), rfl⟩, hR⟩) kk
/-- an int[] once more -/
theorem hw_clone {idx c z : Nat} (q : x_at xMM j pc (.invokevirtual idx) 3 y nL ret) (w1 : Cond.methodLink y.cls idx ⟨"[I", "clone", "()Ljava/lang/Object;"⟩ ∈ x_Ts) (w2 : Cond.sameMethod "[I" "java/lang/Object" "clone" "()Ljava/lang/Object;" ∈ x_Ts) (w3 : Cond.native ⟨"java/lang/Object", "clone", "()Ljava/lang/Object;"⟩ ∈ x_Ts) (w4 : Cond.instanceMethod ⟨"java/lang/Object", "clone", "()Ljava/lang/Object;"⟩ ∈ x_Ts) (w5 : Cond.selects "[I" ⟨"[I", "clone", "()Ljava/lang/Object;"⟩ ⟨"java/lang/Object", "clone", "()Ljava/lang/Object;"⟩ ∈ x_Ts) (w6 : Cond.castable "[I" "java/lang/Cloneable" ∈ x_AO) (hc : c < n) (hs : SH c = (100, z)) (hsum : (st.map fun v => v.category).sum ≤ 8) (kk : hw sk base (d + 1) X j (pc + 3) L (.ref (base + n) :: st) (n + 1, sl + z, va_up SH n (100, z), va_up FI n (FI c), va_up FL n (fun _ => 0), va_up FR n (fun _ => none)) Φ) : hw sk base (d + 1) X j pc L (.ref (base + c) :: st) (n, sl, SH, FI, FL, FR) Φ := by
  refine hw_nat q (fun h hR => ⟨h ++ [.inl (0, z, .inl (FI c))], ⟨rfl, w1, w2, w3, w4, w5, w6, c, 0, z, FI c, st, rfl, by rw [hR.2.2 c hc]; exact congrArg some (h_arr (k := 0) hs), hsum, rfl, by rw [hR.1]; rfl⟩, ?_⟩) kk
  exact h_push hR (h_arr (k := 0) rfl) rfl
end HW
end
section
/-! Ints by their numbers, and branches by them. -/
theorem i_bm {a : Int} (h1 : -2147483648 ≤ a) (h2 : a ≤ 2147483647) : a.bmod (2 ^ 32) = a := by
  rw [Int.bmod_def]
  split <;> omega
theorem l_bm {a : Int} (h1 : -9223372036854775808 ≤ a) (h2 : a ≤ 9223372036854775807) : a.bmod (2 ^ 64) = a := by
  rw [Int.bmod_def]
  split <;> omega
theorem i_rng (x : Int32) : -2147483648 ≤ x.toInt ∧ x.toInt ≤ 2147483647 := ⟨Int32.le_toInt x, by have := Int32.toInt_lt x; omega⟩
theorem l_rng (x : Int64) : -9223372036854775808 ≤ x.toInt ∧ x.toInt ≤ 9223372036854775807 := ⟨Int64.le_toInt x, by have := Int64.toInt_lt x; omega⟩
theorem i_add {x y : Int32} {A B : Int} (hx : x.toInt = A) (hy : y.toInt = B) (h1 : -2147483648 ≤ A + B) (h2 : A + B ≤ 2147483647) : (x + y).toInt = A + B := by
  rw [Int32.toInt_add, hx, hy, i_bm h1 h2]
theorem i_sub {x y : Int32} {A B : Int} (hx : x.toInt = A) (hy : y.toInt = B) (h1 : -2147483648 ≤ A - B) (h2 : A - B ≤ 2147483647) : (x - y).toInt = A - B := by
  rw [Int32.toInt_sub, hx, hy, i_bm h1 h2]
theorem i_mul {x y : Int32} {A B : Int} (hx : x.toInt = A) (hy : y.toInt = B) (h1 : -2147483648 ≤ A * B) (h2 : A * B ≤ 2147483647) : (x * y).toInt = A * B := by
  rw [Int32.toInt_mul, hx, hy, i_bm h1 h2]
theorem i_neg {x : Int32} {A : Int} (hx : x.toInt = A) (h1 : -2147483647 ≤ A) : (-x).toInt = -A := by
  have := i_rng x
  rw [Int32.toInt_neg, hx, i_bm (by omega) (by omega)]
theorem l_add {x y : Int64} {A B : Int} (hx : x.toInt = A) (hy : y.toInt = B) (h1 : -9223372036854775808 ≤ A + B) (h2 : A + B ≤ 9223372036854775807) : (x + y).toInt = A + B := by
  rw [Int64.toInt_add, hx, hy, l_bm h1 h2]
theorem l_sub {x y : Int64} {A B : Int} (hx : x.toInt = A) (hy : y.toInt = B) (h1 : -9223372036854775808 ≤ A - B) (h2 : A - B ≤ 9223372036854775807) : (x - y).toInt = A - B := by
  rw [Int64.toInt_sub, hx, hy, l_bm h1 h2]
theorem l_mul {x y : Int64} {A B : Int} (hx : x.toInt = A) (hy : y.toInt = B) (h1 : -9223372036854775808 ≤ A * B) (h2 : A * B ≤ 9223372036854775807) : (x * y).toInt = A * B := by
  rw [Int64.toInt_mul, hx, hy, l_bm h1 h2]
theorem i_2l {x : Int32} {A : Int} (hx : x.toInt = A) : x.toInt64.toInt = A := by rw [Int32.toInt_toInt64, hx]
theorem l_2i {x : Int64} {A : Int} (hx : x.toInt = A) (h1 : -2147483648 ≤ A) (h2 : A ≤ 2147483647) : x.toInt32.toInt = A := by
  rw [Int64.toInt_toInt32, hx, i_bm h1 h2]
theorem h_in {x : Int32} {A : Int} {z : Nat} (hx : x.toInt = A) (h1 : 0 ≤ A) (h2 : A < z) : vp_in x z := vp_in_iff.mpr ⟨by omega, by omega⟩
theorem i_cl {x : Int32} {A : Int} (hx : x.toInt = A) : x.toNatClampNeg = A.toNat := by rw [← hx]; rfl
theorem i_lit {n : Nat} (h : n < 2147483648) : (Int32.ofNat n).toInt = n := by
  exact nI_toInt (by omega)
theorem i_eqv {x y : Int32} (h : x.toInt = y.toInt) : x = y := Int32.toInt_inj.mp h
/-- x & m for a mask m that isn't negative -/
theorem i_and {x m : Int32} {M : Int} (hm : m.toInt = M) (h0 : 0 ≤ M) : 0 ≤ (x &&& m).toInt ∧ (x &&& m).toInt ≤ M := by
  have e1 : (x &&& m).toBitVec.toNat ≤ m.toBitVec.toNat := by rw [Int32.toBitVec_and, BitVec.toNat_and]; exact Nat.and_le_right
  have e2 : m.toInt = m.toBitVec.toInt := rfl
  have e3 : (x &&& m).toInt = (x &&& m).toBitVec.toInt := rfl
  rw [BitVec.toInt_eq_toNat_cond] at e2 e3
  have b1 := m.toBitVec.isLt
  have b2 := (x &&& m).toBitVec.isLt
  split at e2 <;> split at e3 <;> omega
theorem i_div {x y : Int32} {A B : Int} (hx : x.toInt = A) (hy : y.toInt = B) (h0 : 0 ≤ A) (hB : 0 < B) : (x / y).toInt = A / B := by
  have := i_rng x
  have h2 : A / B ≤ A := Int.ediv_le_self B h0
  have h3 : 0 ≤ A / B := Int.ediv_nonneg h0 (by omega)
  rw [Int32.toInt_div, hx, hy, Int.tdiv_eq_ediv_of_nonneg h0, i_bm (by omega) (by omega)]
theorem i_rem {x y : Int32} {A B : Int} (hx : x.toInt = A) (hy : y.toInt = B) (h0 : 0 ≤ A) (hB : 0 < B) : (x - x / y * y).toInt = A % B := by
  have hr := i_rng x
  have h1 := i_div hx hy h0 hB
  have h3 : 0 ≤ A / B := Int.ediv_nonneg h0 (by omega)
  have h4 : 0 ≤ A % B := Int.emod_nonneg A (by omega)
  have h5 : A / B * B + A % B = A := Int.ediv_mul_add_emod A B
  have h6 : 0 ≤ A / B * B := Int.mul_nonneg h3 (by omega)
  have h2 := i_mul h1 hy (by omega) (by omega)
  rw [i_sub hx h2 (by omega) (by omega)]
  omega
theorem l_div {x y : Int64} {A B : Int} (hx : x.toInt = A) (hy : y.toInt = B) (h0 : 0 ≤ A) (hB : 0 < B) : (x / y).toInt = A / B := by
  have := l_rng x
  have h2 : A / B ≤ A := Int.ediv_le_self B h0
  have h3 : 0 ≤ A / B := Int.ediv_nonneg h0 (by omega)
  rw [Int64.toInt_div, hx, hy, Int.tdiv_eq_ediv_of_nonneg h0, l_bm (by omega) (by omega)]
theorem l_rem {x y : Int64} {A B : Int} (hx : x.toInt = A) (hy : y.toInt = B) (h0 : 0 ≤ A) (hB : 0 < B) : (x - x / y * y).toInt = A % B := by
  have hr := l_rng x
  have h1 := l_div hx hy h0 hB
  have h3 : 0 ≤ A / B := Int.ediv_nonneg h0 (by omega)
  have h4 : 0 ≤ A % B := Int.emod_nonneg A (by omega)
  have h5 : A / B * B + A % B = A := Int.ediv_mul_add_emod A B
  have h6 : 0 ≤ A / B * B := Int.mul_nonneg h3 (by omega)
  have h2 := l_mul h1 hy (by omega) (by omega)
  rw [l_sub hx h2 (by omega) (by omega)]
  omega
theorem l_and {x m : Int64} {M : Int} (hm : m.toInt = M) (h0 : 0 ≤ M) : 0 ≤ (x &&& m).toInt ∧ (x &&& m).toInt ≤ M := by
  have e1 : (x &&& m).toBitVec.toNat ≤ m.toBitVec.toNat := by rw [Int64.toBitVec_and, BitVec.toNat_and]; exact Nat.and_le_right
  have e2 : m.toInt = m.toBitVec.toInt := rfl
  have e3 : (x &&& m).toInt = (x &&& m).toBitVec.toInt := rfl
  rw [BitVec.toInt_eq_toNat_cond] at e2 e3
  have b1 := m.toBitVec.isLt
  have b2 := (x &&& m).toBitVec.isLt
  split at e2 <;> split at e3 <;> omega
section HB
variable {base d : Nat} {X : Option (Nat × Nat × (Nat → Int32))} {j : Nat} {y : MethodName} {nL : Nat} {ret : Option FieldType} {len pc : Nat} {L : xL} {st : List Value} {s : hS} {Φ : Option Value → hS → Prop} {off : Int} {tgt : Nat} {x y1 : Int32} {A B : Int}
theorem hw_ic {sk : xK} {n : Int} {v : Int32} (q : x_at xMM j pc (.iconst n) 1 y nL ret) (hv : Int32.ofInt n = v) (k : hw sk base d X j (pc + 1) L (.int v :: st) s Φ) : hw sk base d X j pc L st s Φ := by subst hv; exact xw_iconst q k
theorem hw_bp {sk : xK} {n : Int} {v : Int32} (q : x_at xMM j pc (.bipush n) 2 y nL ret) (hv : (Int8.ofInt n).toInt32 = v) (k : hw sk base d X j (pc + 2) L (.int v :: st) s Φ) : hw sk base d X j pc L st s Φ := by subst hv; exact xw_bipush q k
theorem hw_sp {sk : xK} {n : Int} {v : Int32} (q : x_at xMM j pc (.sipush n) 3 y nL ret) (hv : (Int16.ofInt n).toInt32 = v) (k : hw sk base d X j (pc + 3) L (.int v :: st) s Φ) : hw sk base d X j pc L st s Φ := by subst hv; exact xw_sipush q k
theorem hw_lc {sk : xK} {n : Fin 2} {v : Int64} (q : x_at xMM j pc (.lconst n) 1 y nL ret) (hv : Int64.ofNat (n : Nat) = v) (k : hw sk base d X j (pc + 1) L (.long v :: st) s Φ) : hw sk base d X j pc L st s Φ := by subst hv; exact xw_lconst q k
theorem hw_ifeq {sk : xK} (q : x_at xMM j pc (.ifCond .eq off) 3 y nL ret) (ht : (pc : Int) + off = (tgt : Int)) (hx : x.toInt = A) (kt : A = 0 → hw sk base d X j tgt L st s Φ) (kf : A ≠ 0 → hw sk base d X j (pc + 3) L st s Φ) : hw sk base d X j pc L (.int x :: st) s Φ :=
  xw_ifeq q ht (fun h => kt (by rw [← hx, h]; rfl)) (fun h => kf (fun e => h (i_eqv (hx.trans e))))
theorem hw_ifne {sk : xK} (q : x_at xMM j pc (.ifCond .ne off) 3 y nL ret) (ht : (pc : Int) + off = (tgt : Int)) (hx : x.toInt = A) (kt : A ≠ 0 → hw sk base d X j tgt L st s Φ) (kf : A = 0 → hw sk base d X j (pc + 3) L st s Φ) : hw sk base d X j pc L (.int x :: st) s Φ :=
  xw_ifne q ht (fun h => kt (fun e => h (i_eqv (hx.trans e)))) (fun h => kf (by rw [← hx, h]; rfl))
theorem hw_iflt {sk : xK} (q : x_at xMM j pc (.ifCond .lt off) 3 y nL ret) (ht : (pc : Int) + off = (tgt : Int)) (hx : x.toInt = A) (kt : A < 0 → hw sk base d X j tgt L st s Φ) (kf : 0 ≤ A → hw sk base d X j (pc + 3) L st s Φ) : hw sk base d X j pc L (.int x :: st) s Φ :=
  xw_iflt q ht (fun h => kt (by rw [Int32.lt_iff_toInt_lt, hx] at h; exact h)) (fun h => kf (by rw [Int32.lt_iff_toInt_lt, hx] at h; exact Int.not_lt.mp h))
theorem hw_ifge {sk : xK} (q : x_at xMM j pc (.ifCond .ge off) 3 y nL ret) (ht : (pc : Int) + off = (tgt : Int)) (hx : x.toInt = A) (kt : 0 ≤ A → hw sk base d X j tgt L st s Φ) (kf : A < 0 → hw sk base d X j (pc + 3) L st s Φ) : hw sk base d X j pc L (.int x :: st) s Φ :=
  xw_ifge q ht (fun h => kt (by rw [Int32.le_iff_toInt_le, hx] at h; exact h)) (fun h => kf (by rw [Int32.le_iff_toInt_le, hx] at h; exact Int.not_le.mp h))
theorem hw_ifgt {sk : xK} (q : x_at xMM j pc (.ifCond .gt off) 3 y nL ret) (ht : (pc : Int) + off = (tgt : Int)) (hx : x.toInt = A) (kt : 0 < A → hw sk base d X j tgt L st s Φ) (kf : A ≤ 0 → hw sk base d X j (pc + 3) L st s Φ) : hw sk base d X j pc L (.int x :: st) s Φ :=
  xw_ifgt q ht (fun h => kt (by rw [Int32.lt_iff_toInt_lt, hx] at h; exact h)) (fun h => kf (by rw [Int32.lt_iff_toInt_lt, hx] at h; exact Int.not_lt.mp h))
theorem hw_ifle {sk : xK} (q : x_at xMM j pc (.ifCond .le off) 3 y nL ret) (ht : (pc : Int) + off = (tgt : Int)) (hx : x.toInt = A) (kt : A ≤ 0 → hw sk base d X j tgt L st s Φ) (kf : 0 < A → hw sk base d X j (pc + 3) L st s Φ) : hw sk base d X j pc L (.int x :: st) s Φ :=
  xw_ifle q ht (fun h => kt (by rw [Int32.le_iff_toInt_le, hx] at h; exact h)) (fun h => kf (by rw [Int32.le_iff_toInt_le, hx] at h; exact Int.not_le.mp h))
theorem hw_iceq {sk : xK} (q : x_at xMM j pc (.if_icmp .eq off) 3 y nL ret) (ht : (pc : Int) + off = (tgt : Int)) (hx : x.toInt = A) (hy : y1.toInt = B) (kt : A = B → hw sk base d X j tgt L st s Φ) (kf : A ≠ B → hw sk base d X j (pc + 3) L st s Φ) : hw sk base d X j pc L (.int y1 :: .int x :: st) s Φ :=
  xw_icmpeq q ht (fun h => kt (by rw [← hx, ← hy, h])) (fun h => kf (fun e => h (i_eqv (by rw [hx, hy, e]))))
theorem hw_icne {sk : xK} (q : x_at xMM j pc (.if_icmp .ne off) 3 y nL ret) (ht : (pc : Int) + off = (tgt : Int)) (hx : x.toInt = A) (hy : y1.toInt = B) (kt : A ≠ B → hw sk base d X j tgt L st s Φ) (kf : A = B → hw sk base d X j (pc + 3) L st s Φ) : hw sk base d X j pc L (.int y1 :: .int x :: st) s Φ :=
  xw_icmpne q ht (fun h => kt (fun e => h (i_eqv (by rw [hx, hy, e])))) (fun h => kf (by rw [← hx, ← hy, h]))
theorem hw_iclt {sk : xK} (q : x_at xMM j pc (.if_icmp .lt off) 3 y nL ret) (ht : (pc : Int) + off = (tgt : Int)) (hx : x.toInt = A) (hy : y1.toInt = B) (kt : A < B → hw sk base d X j tgt L st s Φ) (kf : B ≤ A → hw sk base d X j (pc + 3) L st s Φ) : hw sk base d X j pc L (.int y1 :: .int x :: st) s Φ :=
  xw_icmplt q ht (fun h => kt (by rw [Int32.lt_iff_toInt_lt, hx, hy] at h; exact h)) (fun h => kf (by rw [Int32.lt_iff_toInt_lt, hx, hy] at h; exact Int.not_lt.mp h))
theorem hw_icge {sk : xK} (q : x_at xMM j pc (.if_icmp .ge off) 3 y nL ret) (ht : (pc : Int) + off = (tgt : Int)) (hx : x.toInt = A) (hy : y1.toInt = B) (kt : B ≤ A → hw sk base d X j tgt L st s Φ) (kf : A < B → hw sk base d X j (pc + 3) L st s Φ) : hw sk base d X j pc L (.int y1 :: .int x :: st) s Φ :=
  xw_icmpge q ht (fun h => kt (by rw [Int32.le_iff_toInt_le, hx, hy] at h; exact h)) (fun h => kf (by rw [Int32.le_iff_toInt_le, hx, hy] at h; exact Int.not_le.mp h))
theorem hw_icgt {sk : xK} (q : x_at xMM j pc (.if_icmp .gt off) 3 y nL ret) (ht : (pc : Int) + off = (tgt : Int)) (hx : x.toInt = A) (hy : y1.toInt = B) (kt : B < A → hw sk base d X j tgt L st s Φ) (kf : A ≤ B → hw sk base d X j (pc + 3) L st s Φ) : hw sk base d X j pc L (.int y1 :: .int x :: st) s Φ :=
  xw_icmpgt q ht (fun h => kt (by rw [Int32.lt_iff_toInt_lt, hx, hy] at h; exact h)) (fun h => kf (by rw [Int32.lt_iff_toInt_lt, hx, hy] at h; exact Int.not_lt.mp h))
theorem hw_icle {sk : xK} (q : x_at xMM j pc (.if_icmp .le off) 3 y nL ret) (ht : (pc : Int) + off = (tgt : Int)) (hx : x.toInt = A) (hy : y1.toInt = B) (kt : A ≤ B → hw sk base d X j tgt L st s Φ) (kf : B < A → hw sk base d X j (pc + 3) L st s Φ) : hw sk base d X j pc L (.int y1 :: .int x :: st) s Φ :=
  xw_icmple q ht (fun h => kt (by rw [Int32.le_iff_toInt_le, hx, hy] at h; exact h)) (fun h => kf (by rw [Int32.le_iff_toInt_le, hx, hy] at h; exact Int.not_le.mp h))
/-- two longs held against each other, and the branch behind it -/
theorem lg_cmp3 (a b : Int64) : (lg_cmp a b).toInt = (if a.toInt < b.toInt then -1 else if a.toInt = b.toInt then 0 else 1) := by
  unfold lg_cmp
  simp only [gt_iff_lt, Int64.lt_iff_toInt_lt, ← Int64.toInt_inj]
  repeat' split
  all_goals first | omega | decide
theorem hw_lceq {sk : xK} {a b : Int64} (q1 : x_at xMM j pc .lcmp 1 y nL ret) (q : x_at xMM j (pc + 1) (.ifCond .eq off) 3 y nL ret) (ht : ((pc + 1 : Nat) : Int) + off = (tgt : Int)) (ha : a.toInt = A) (hb : b.toInt = B) (kt : A = B → hw sk base d X j tgt L st s Φ) (kf : A ≠ B → hw sk base d X j (pc + 1 + 3) L st s Φ) : hw sk base d X j pc L (.long b :: .long a :: st) s Φ := by
  have h3 := lg_cmp3 a b
  rw [ha, hb] at h3
  refine xw_lcmp q1 (hw_ifeq q ht h3 (fun h => kt ?_) (fun h => kf ?_))
  · split at h <;> (try split at h) <;> omega
  · split at h <;> (try split at h) <;> omega
theorem hw_lcne {sk : xK} {a b : Int64} (q1 : x_at xMM j pc .lcmp 1 y nL ret) (q : x_at xMM j (pc + 1) (.ifCond .ne off) 3 y nL ret) (ht : ((pc + 1 : Nat) : Int) + off = (tgt : Int)) (ha : a.toInt = A) (hb : b.toInt = B) (kt : A ≠ B → hw sk base d X j tgt L st s Φ) (kf : A = B → hw sk base d X j (pc + 1 + 3) L st s Φ) : hw sk base d X j pc L (.long b :: .long a :: st) s Φ := by
  have h3 := lg_cmp3 a b
  rw [ha, hb] at h3
  refine xw_lcmp q1 (hw_ifne q ht h3 (fun h => kt ?_) (fun h => kf ?_))
  · split at h <;> (try split at h) <;> omega
  · split at h <;> (try split at h) <;> omega
theorem hw_lclt {sk : xK} {a b : Int64} (q1 : x_at xMM j pc .lcmp 1 y nL ret) (q : x_at xMM j (pc + 1) (.ifCond .lt off) 3 y nL ret) (ht : ((pc + 1 : Nat) : Int) + off = (tgt : Int)) (ha : a.toInt = A) (hb : b.toInt = B) (kt : A < B → hw sk base d X j tgt L st s Φ) (kf : B ≤ A → hw sk base d X j (pc + 1 + 3) L st s Φ) : hw sk base d X j pc L (.long b :: .long a :: st) s Φ := by
  have h3 := lg_cmp3 a b
  rw [ha, hb] at h3
  refine xw_lcmp q1 (hw_iflt q ht h3 (fun h => kt ?_) (fun h => kf ?_))
  · split at h <;> (try split at h) <;> omega
  · split at h <;> (try split at h) <;> omega
theorem hw_lcge {sk : xK} {a b : Int64} (q1 : x_at xMM j pc .lcmp 1 y nL ret) (q : x_at xMM j (pc + 1) (.ifCond .ge off) 3 y nL ret) (ht : ((pc + 1 : Nat) : Int) + off = (tgt : Int)) (ha : a.toInt = A) (hb : b.toInt = B) (kt : B ≤ A → hw sk base d X j tgt L st s Φ) (kf : A < B → hw sk base d X j (pc + 1 + 3) L st s Φ) : hw sk base d X j pc L (.long b :: .long a :: st) s Φ := by
  have h3 := lg_cmp3 a b
  rw [ha, hb] at h3
  refine xw_lcmp q1 (hw_ifge q ht h3 (fun h => kt ?_) (fun h => kf ?_))
  · split at h <;> (try split at h) <;> omega
  · split at h <;> (try split at h) <;> omega
theorem hw_lcgt {sk : xK} {a b : Int64} (q1 : x_at xMM j pc .lcmp 1 y nL ret) (q : x_at xMM j (pc + 1) (.ifCond .gt off) 3 y nL ret) (ht : ((pc + 1 : Nat) : Int) + off = (tgt : Int)) (ha : a.toInt = A) (hb : b.toInt = B) (kt : B < A → hw sk base d X j tgt L st s Φ) (kf : A ≤ B → hw sk base d X j (pc + 1 + 3) L st s Φ) : hw sk base d X j pc L (.long b :: .long a :: st) s Φ := by
  have h3 := lg_cmp3 a b
  rw [ha, hb] at h3
  refine xw_lcmp q1 (hw_ifgt q ht h3 (fun h => kt ?_) (fun h => kf ?_))
  · split at h <;> (try split at h) <;> omega
  · split at h <;> (try split at h) <;> omega
theorem hw_lcle {sk : xK} {a b : Int64} (q1 : x_at xMM j pc .lcmp 1 y nL ret) (q : x_at xMM j (pc + 1) (.ifCond .le off) 3 y nL ret) (ht : ((pc + 1 : Nat) : Int) + off = (tgt : Int)) (ha : a.toInt = A) (hb : b.toInt = B) (kt : A ≤ B → hw sk base d X j tgt L st s Φ) (kf : B < A → hw sk base d X j (pc + 1 + 3) L st s Φ) : hw sk base d X j pc L (.long b :: .long a :: st) s Φ := by
  have h3 := lg_cmp3 a b
  rw [ha, hb] at h3
  refine xw_lcmp q1 (hw_ifle q ht h3 (fun h => kt ?_) (fun h => kf ?_))
  · split at h <;> (try split at h) <;> omega
  · split at h <;> (try split at h) <;> omega
end HB
end
section
/-! More locals do no harm. -/
theorem x_s1_sub {L L2 : xL} {i : Nat} {v : Value} (h : ∀ q ∈ L, q ∈ L2) : ∀ q ∈ x_s1 L i v, q ∈ x_s1 L2 i v := by
  intro q hq
  unfold x_s1 at hq ⊢
  rcases List.mem_cons.mp hq with e | e
  · exact List.mem_cons.mpr (Or.inl e)
  · have e2 := List.mem_filter.mp e
    exact List.mem_cons.mpr (Or.inr (List.mem_filter.mpr ⟨h q e2.1, e2.2⟩))
theorem x_s2_sub {L L2 : xL} {i : Nat} {v : Value} (h : ∀ q ∈ L, q ∈ L2) : ∀ q ∈ x_s2 L i v, q ∈ x_s2 L2 i v := by
  intro q hq
  unfold x_s2 at hq ⊢
  rcases List.mem_cons.mp hq with e | e
  · exact List.mem_cons.mpr (Or.inl e)
  · have e2 := List.mem_filter.mp e
    exact List.mem_cons.mpr (Or.inr (List.mem_filter.mpr ⟨h q e2.1, e2.2⟩))
theorem x_ins_L {cl : List vw_C} {kd : List FieldType} {Ts : List Cond} {AO : List Cond} {X : Option (Nat × Nat × (Nat → Int32))} {base : Nat} {own mname : String} {nL : Nat} {i : Jvm.ClassFile.Instr} {len : Nat} {pc : Nat} {L L2 : xL} {st : List Value} {h : List xC} {b : xS} (hL : ∀ q ∈ L, q ∈ L2) (hi : x_ins cl kd Ts AO X base own mname nL i len (pc, L, st, h) b) : ∃ L3, (∀ q ∈ b.2.1, q ∈ L3) ∧ x_ins cl kd Ts AO X base own mname nL i len (pc, L2, st, h) (b.1, L3, b.2.2) := by
  cases i with
  | aconst_null =>
    obtain ⟨h_0, rfl⟩ := hi
    exact ⟨_, hL, h_0, rfl⟩
  | iconst n =>
    obtain ⟨h_0, rfl⟩ := hi
    exact ⟨_, hL, h_0, rfl⟩
  | bipush n =>
    obtain ⟨h_0, rfl⟩ := hi
    exact ⟨_, hL, h_0, rfl⟩
  | sipush n =>
    obtain ⟨h_0, rfl⟩ := hi
    exact ⟨_, hL, h_0, rfl⟩
  | lconst n =>
    obtain ⟨h_0, rfl⟩ := hi
    exact ⟨_, hL, h_0, rfl⟩
  | ldc idx =>
    obtain ⟨h_0, w_v1, h_2, rfl⟩ := hi
    exact ⟨_, hL, h_0, w_v1, h_2, rfl⟩
  | ldc2_w idx =>
    obtain ⟨h_0, w_v1, h_2, rfl⟩ := hi
    exact ⟨_, hL, h_0, w_v1, h_2, rfl⟩
  | iload j =>
    obtain ⟨h_0, w_x1, h_2, rfl⟩ := hi
    exact ⟨_, hL, h_0, w_x1, (hL _ h_2), rfl⟩
  | iload_n j =>
    obtain ⟨h_0, w_x1, h_2, rfl⟩ := hi
    exact ⟨_, hL, h_0, w_x1, (hL _ h_2), rfl⟩
  | lload j =>
    obtain ⟨h_0, w_x1, h_2, rfl⟩ := hi
    exact ⟨_, hL, h_0, w_x1, (hL _ h_2), rfl⟩
  | lload_n j =>
    obtain ⟨h_0, w_x1, h_2, rfl⟩ := hi
    exact ⟨_, hL, h_0, w_x1, (hL _ h_2), rfl⟩
  | aload j =>
    obtain ⟨h_0, w_r1, h_2, rfl⟩ := hi
    exact ⟨_, hL, h_0, w_r1, (hL _ h_2), rfl⟩
  | aload_n j =>
    obtain ⟨h_0, w_r1, h_2, rfl⟩ := hi
    exact ⟨_, hL, h_0, w_r1, (hL _ h_2), rfl⟩
  | istore j =>
    obtain ⟨h_0, h_1, w_x2, w_r2, h_3, rfl⟩ := hi
    exact ⟨_, x_s1_sub hL, h_0, h_1, w_x2, w_r2, h_3, rfl⟩
  | istore_n j =>
    obtain ⟨h_0, h_1, w_x2, w_r2, h_3, rfl⟩ := hi
    exact ⟨_, x_s1_sub hL, h_0, h_1, w_x2, w_r2, h_3, rfl⟩
  | lstore j =>
    obtain ⟨h_0, h_1, w_x2, w_r2, h_3, rfl⟩ := hi
    exact ⟨_, x_s2_sub hL, h_0, h_1, w_x2, w_r2, h_3, rfl⟩
  | lstore_n j =>
    obtain ⟨h_0, h_1, w_x2, w_r2, h_3, rfl⟩ := hi
    exact ⟨_, x_s2_sub hL, h_0, h_1, w_x2, w_r2, h_3, rfl⟩
  | astore j =>
    obtain ⟨h_0, h_1, w_x2, w_r2, h_3, rfl⟩ := hi
    exact ⟨_, x_s1_sub hL, h_0, h_1, w_x2, w_r2, h_3, rfl⟩
  | astore_n j =>
    obtain ⟨h_0, h_1, w_x2, w_r2, h_3, rfl⟩ := hi
    exact ⟨_, x_s1_sub hL, h_0, h_1, w_x2, w_r2, h_3, rfl⟩
  | iinc j n =>
    obtain ⟨h_0, h_1, w_x2, h_3, rfl⟩ := hi
    exact ⟨_, x_s1_sub hL, h_0, h_1, w_x2, (hL _ h_3), rfl⟩
  | iadd =>
    obtain ⟨h_0, w_x1, w_y1, w_r1, h_2, rfl⟩ := hi
    exact ⟨_, hL, h_0, w_x1, w_y1, w_r1, h_2, rfl⟩
  | isub =>
    obtain ⟨h_0, w_x1, w_y1, w_r1, h_2, rfl⟩ := hi
    exact ⟨_, hL, h_0, w_x1, w_y1, w_r1, h_2, rfl⟩
  | imul =>
    obtain ⟨h_0, w_x1, w_y1, w_r1, h_2, rfl⟩ := hi
    exact ⟨_, hL, h_0, w_x1, w_y1, w_r1, h_2, rfl⟩
  | iand =>
    obtain ⟨h_0, w_x1, w_y1, w_r1, h_2, rfl⟩ := hi
    exact ⟨_, hL, h_0, w_x1, w_y1, w_r1, h_2, rfl⟩
  | ior =>
    obtain ⟨h_0, w_x1, w_y1, w_r1, h_2, rfl⟩ := hi
    exact ⟨_, hL, h_0, w_x1, w_y1, w_r1, h_2, rfl⟩
  | ixor =>
    obtain ⟨h_0, w_x1, w_y1, w_r1, h_2, rfl⟩ := hi
    exact ⟨_, hL, h_0, w_x1, w_y1, w_r1, h_2, rfl⟩
  | ishl =>
    obtain ⟨h_0, w_x1, w_y1, w_r1, h_2, rfl⟩ := hi
    exact ⟨_, hL, h_0, w_x1, w_y1, w_r1, h_2, rfl⟩
  | ishr =>
    obtain ⟨h_0, w_x1, w_y1, w_r1, h_2, rfl⟩ := hi
    exact ⟨_, hL, h_0, w_x1, w_y1, w_r1, h_2, rfl⟩
  | iushr =>
    obtain ⟨h_0, w_x1, w_y1, w_r1, h_2, rfl⟩ := hi
    exact ⟨_, hL, h_0, w_x1, w_y1, w_r1, h_2, rfl⟩
  | idiv =>
    obtain ⟨h_0, w_x1, w_y1, w_r1, h_2, h_3, rfl⟩ := hi
    exact ⟨_, hL, h_0, w_x1, w_y1, w_r1, h_2, h_3, rfl⟩
  | irem =>
    obtain ⟨h_0, w_x1, w_y1, w_r1, h_2, h_3, rfl⟩ := hi
    exact ⟨_, hL, h_0, w_x1, w_y1, w_r1, h_2, h_3, rfl⟩
  | ineg =>
    obtain ⟨h_0, w_x1, w_r1, h_2, rfl⟩ := hi
    exact ⟨_, hL, h_0, w_x1, w_r1, h_2, rfl⟩
  | ladd =>
    obtain ⟨h_0, w_x1, w_y1, w_r1, h_2, rfl⟩ := hi
    exact ⟨_, hL, h_0, w_x1, w_y1, w_r1, h_2, rfl⟩
  | lsub =>
    obtain ⟨h_0, w_x1, w_y1, w_r1, h_2, rfl⟩ := hi
    exact ⟨_, hL, h_0, w_x1, w_y1, w_r1, h_2, rfl⟩
  | lmul =>
    obtain ⟨h_0, w_x1, w_y1, w_r1, h_2, rfl⟩ := hi
    exact ⟨_, hL, h_0, w_x1, w_y1, w_r1, h_2, rfl⟩
  | land =>
    obtain ⟨h_0, w_x1, w_y1, w_r1, h_2, rfl⟩ := hi
    exact ⟨_, hL, h_0, w_x1, w_y1, w_r1, h_2, rfl⟩
  | lor =>
    obtain ⟨h_0, w_x1, w_y1, w_r1, h_2, rfl⟩ := hi
    exact ⟨_, hL, h_0, w_x1, w_y1, w_r1, h_2, rfl⟩
  | lxor =>
    obtain ⟨h_0, w_x1, w_y1, w_r1, h_2, rfl⟩ := hi
    exact ⟨_, hL, h_0, w_x1, w_y1, w_r1, h_2, rfl⟩
  | lshl =>
    obtain ⟨h_0, w_x1, w_y1, w_r1, h_2, rfl⟩ := hi
    exact ⟨_, hL, h_0, w_x1, w_y1, w_r1, h_2, rfl⟩
  | lshr =>
    obtain ⟨h_0, w_x1, w_y1, w_r1, h_2, rfl⟩ := hi
    exact ⟨_, hL, h_0, w_x1, w_y1, w_r1, h_2, rfl⟩
  | lushr =>
    obtain ⟨h_0, w_x1, w_y1, w_r1, h_2, rfl⟩ := hi
    exact ⟨_, hL, h_0, w_x1, w_y1, w_r1, h_2, rfl⟩
  | ldiv =>
    obtain ⟨h_0, w_x1, w_y1, w_r1, h_2, h_3, rfl⟩ := hi
    exact ⟨_, hL, h_0, w_x1, w_y1, w_r1, h_2, h_3, rfl⟩
  | lrem =>
    obtain ⟨h_0, w_x1, w_y1, w_r1, h_2, h_3, rfl⟩ := hi
    exact ⟨_, hL, h_0, w_x1, w_y1, w_r1, h_2, h_3, rfl⟩
  | lneg =>
    obtain ⟨h_0, w_x1, w_r1, h_2, rfl⟩ := hi
    exact ⟨_, hL, h_0, w_x1, w_r1, h_2, rfl⟩
  | lcmp =>
    obtain ⟨h_0, w_x1, w_y1, w_r1, h_2, rfl⟩ := hi
    exact ⟨_, hL, h_0, w_x1, w_y1, w_r1, h_2, rfl⟩
  | i2l =>
    obtain ⟨h_0, w_x1, w_r1, h_2, rfl⟩ := hi
    exact ⟨_, hL, h_0, w_x1, w_r1, h_2, rfl⟩
  | l2i =>
    obtain ⟨h_0, w_x1, w_r1, h_2, rfl⟩ := hi
    exact ⟨_, hL, h_0, w_x1, w_r1, h_2, rfl⟩
  | i2c =>
    obtain ⟨h_0, w_x1, w_r1, h_2, rfl⟩ := hi
    exact ⟨_, hL, h_0, w_x1, w_r1, h_2, rfl⟩
  | dup =>
    obtain ⟨h_0, w_v1, w_r1, h_2, h_3, rfl⟩ := hi
    exact ⟨_, hL, h_0, w_v1, w_r1, h_2, h_3, rfl⟩
  | dup2 =>
    obtain ⟨h_0, w_v1, w_w1, w_r1, h_2, h_3, h_4, rfl⟩ := hi
    exact ⟨_, hL, h_0, w_v1, w_w1, w_r1, h_2, h_3, h_4, rfl⟩
  | dup_x1 =>
    obtain ⟨h_0, w_v1, w_w1, w_r1, h_2, h_3, h_4, rfl⟩ := hi
    exact ⟨_, hL, h_0, w_v1, w_w1, w_r1, h_2, h_3, h_4, rfl⟩
  | pop =>
    obtain ⟨h_0, w_v1, w_r1, h_2, h_3, rfl⟩ := hi
    exact ⟨_, hL, h_0, w_v1, w_r1, h_2, h_3, rfl⟩
  | pop2 =>
    obtain ⟨h_0, w_v1, w_r1, h_2, h_3, rfl⟩ := hi
    exact ⟨_, hL, h_0, w_v1, w_r1, h_2, h_3, rfl⟩
  | ifCond cn off =>
    obtain ⟨h_0, w_x1, w_r1, w_tgt2, h_3, h_4, ⟨h_5, rfl⟩ | ⟨h_6, rfl⟩⟩ := hi
    · exact ⟨_, hL, h_0, w_x1, w_r1, w_tgt2, h_3, h_4, Or.inl ⟨h_5, rfl⟩⟩
    · exact ⟨_, hL, h_0, w_x1, w_r1, w_tgt2, h_3, h_4, Or.inr ⟨h_6, rfl⟩⟩
  | if_icmp cn off =>
    obtain ⟨h_0, w_x1, w_y1, w_r1, w_tgt2, h_3, h_4, ⟨h_5, rfl⟩ | ⟨h_6, rfl⟩⟩ := hi
    · exact ⟨_, hL, h_0, w_x1, w_y1, w_r1, w_tgt2, h_3, h_4, Or.inl ⟨h_5, rfl⟩⟩
    · exact ⟨_, hL, h_0, w_x1, w_y1, w_r1, w_tgt2, h_3, h_4, Or.inr ⟨h_6, rfl⟩⟩
  | ifnull off =>
    obtain ⟨h_0, w_v1, w_r1, w_tgt2, h_3, h_4, ⟨h_5, rfl⟩ | ⟨h_6, rfl⟩⟩ := hi
    · exact ⟨_, hL, h_0, w_v1, w_r1, w_tgt2, h_3, h_4, Or.inl ⟨h_5, rfl⟩⟩
    · exact ⟨_, hL, h_0, w_v1, w_r1, w_tgt2, h_3, h_4, Or.inr ⟨h_6, rfl⟩⟩
  | ifnonnull off =>
    obtain ⟨h_0, w_v1, w_r1, w_tgt2, h_3, h_4, ⟨h_5, rfl⟩ | ⟨h_6, rfl⟩⟩ := hi
    · exact ⟨_, hL, h_0, w_v1, w_r1, w_tgt2, h_3, h_4, Or.inl ⟨h_5, rfl⟩⟩
    · exact ⟨_, hL, h_0, w_v1, w_r1, w_tgt2, h_3, h_4, Or.inr ⟨h_6, rfl⟩⟩
  | goto off =>
    obtain ⟨h_0, w_tgt1, h_2, rfl⟩ := hi
    exact ⟨_, hL, h_0, w_tgt1, h_2, rfl⟩
  | tableswitch dflt lo hi offs =>
    obtain ⟨w_x0, w_r0, w_tgt1, h_2, rfl, h_3⟩ := hi
    exact ⟨_, hL, w_x0, w_r0, w_tgt1, h_2, rfl, h_3⟩
  | lookupswitch dflt ps =>
    obtain ⟨w_x0, w_r0, w_tgt1, h_2, rfl, h_3, h_4⟩ := hi
    exact ⟨_, hL, w_x0, w_r0, w_tgt1, h_2, rfl, h_3, h_4⟩
  | getfield idx =>
    obtain ⟨h_0, w_ci1, w_k1, w_C1, w_T1, w_N1, w_q1, w_fs1, w_v1, w_r1, h_2, h_3, h_4, h_5, rfl⟩ := hi
    exact ⟨_, hL, h_0, w_ci1, w_k1, w_C1, w_T1, w_N1, w_q1, w_fs1, w_v1, w_r1, h_2, h_3, h_4, h_5, rfl⟩
  | putfield idx =>
    obtain ⟨h_0, w_ci1, w_k1, w_C1, w_T1, w_N1, w_q1, w_fs1, w_v1, w_r1, w_ty1, h_2, h_3, h_4, h_5, h_6, h_7, h_8, h_9, rfl⟩ := hi
    exact ⟨_, hL, h_0, w_ci1, w_k1, w_C1, w_T1, w_N1, w_q1, w_fs1, w_v1, w_r1, w_ty1, h_2, h_3, h_4, h_5, h_6, h_7, h_8, h_9, rfl⟩
  | iaload =>
    obtain ⟨h_0, w_x1, w_r1, ⟨w_q2, w_k2, w_n2, w_f2, h_3, h_4, h_5, h_6, rfl⟩ | ⟨w_q7, w_n7, w_f7, h_8, h_9, h_10, rfl⟩⟩ := hi
    · exact ⟨_, hL, h_0, w_x1, w_r1, Or.inl ⟨w_q2, w_k2, w_n2, w_f2, h_3, h_4, h_5, h_6, rfl⟩⟩
    · exact ⟨_, hL, h_0, w_x1, w_r1, Or.inr ⟨w_q7, w_n7, w_f7, h_8, h_9, h_10, rfl⟩⟩
  | baload =>
    obtain ⟨h_0, w_x1, w_r1, w_q1, w_k1, w_n1, w_f1, h_2, h_3, h_4, h_5, rfl⟩ := hi
    exact ⟨_, hL, h_0, w_x1, w_r1, w_q1, w_k1, w_n1, w_f1, h_2, h_3, h_4, h_5, rfl⟩
  | laload =>
    obtain ⟨h_0, w_x1, w_r1, w_q1, w_k1, w_n1, w_f1, h_2, h_3, h_4, h_5, rfl⟩ := hi
    exact ⟨_, hL, h_0, w_x1, w_r1, w_q1, w_k1, w_n1, w_f1, h_2, h_3, h_4, h_5, rfl⟩
  | aaload =>
    obtain ⟨h_0, w_x1, w_r1, w_q1, w_k1, w_n1, w_f1, w_ty1, h_2, h_3, h_4, h_5, h_6, rfl⟩ := hi
    exact ⟨_, hL, h_0, w_x1, w_r1, w_q1, w_k1, w_n1, w_f1, w_ty1, h_2, h_3, h_4, h_5, h_6, rfl⟩
  | iastore =>
    obtain ⟨h_0, w_x1, w_v1, w_r1, w_q1, w_k1, w_n1, w_f1, h_2, h_3, h_4, h_5, rfl⟩ := hi
    exact ⟨_, hL, h_0, w_x1, w_v1, w_r1, w_q1, w_k1, w_n1, w_f1, h_2, h_3, h_4, h_5, rfl⟩
  | bastore =>
    obtain ⟨h_0, w_x1, w_v1, w_r1, w_q1, w_k1, w_n1, w_f1, h_2, h_3, h_4, h_5, rfl⟩ := hi
    exact ⟨_, hL, h_0, w_x1, w_v1, w_r1, w_q1, w_k1, w_n1, w_f1, h_2, h_3, h_4, h_5, rfl⟩
  | lastore =>
    obtain ⟨h_0, w_x1, w_v1, w_r1, w_q1, w_k1, w_n1, w_f1, h_2, h_3, h_4, h_5, rfl⟩ := hi
    exact ⟨_, hL, h_0, w_x1, w_v1, w_r1, w_q1, w_k1, w_n1, w_f1, h_2, h_3, h_4, h_5, rfl⟩
  | aastore =>
    obtain ⟨h_0, w_x1, w_v1, w_r1, w_q1, w_k1, w_n1, w_f1, h_2, h_3, h_4, rfl, h_5⟩ := hi
    exact ⟨_, hL, h_0, w_x1, w_v1, w_r1, w_q1, w_k1, w_n1, w_f1, h_2, h_3, h_4, rfl, h_5⟩
  | multianewarray idx dm =>
    obtain ⟨h_0, h_1, w_n2, w_z2, w_r2, w_k2, w_k22, h_3, h_4, h_5, h_6, h_7, h_8, h_9, h_10, h_11, h_12, rfl⟩ := hi
    exact ⟨_, hL, h_0, h_1, w_n2, w_z2, w_r2, w_k2, w_k22, h_3, h_4, h_5, h_6, h_7, h_8, h_9, h_10, h_11, h_12, rfl⟩
  | arraylength =>
    obtain ⟨h_0, w_r1, ⟨w_q2, w_k2, w_x2, h_3, h_4, h_5, rfl⟩ | ⟨w_q6, w_n6, w_f6, h_7, h_8, rfl⟩⟩ := hi
    · exact ⟨_, hL, h_0, w_r1, Or.inl ⟨w_q2, w_k2, w_x2, h_3, h_4, h_5, rfl⟩⟩
    · exact ⟨_, hL, h_0, w_r1, Or.inr ⟨w_q6, w_n6, w_f6, h_7, h_8, rfl⟩⟩
  | new idx =>
    obtain ⟨h_0, w_ci1, w_C1, w_T1, w_N1, w_ty2, h_3, h_4, h_5, h_6, h_7, rfl⟩ := hi
    exact ⟨_, hL, h_0, w_ci1, w_C1, w_T1, w_N1, w_ty2, h_3, h_4, h_5, h_6, h_7, rfl⟩
  | checkcast idx =>
    obtain ⟨h_0, w_q1, w_k1, w_x1, w_r1, h_2, h_3, h_4, h_5, rfl⟩ := hi
    exact ⟨_, hL, h_0, w_q1, w_k1, w_x1, w_r1, h_2, h_3, h_4, h_5, rfl⟩
  | newarray aty =>
    obtain ⟨h_0, w_n1, w_r1, w_k1, w_z1, h_2, h_3, h_4, h_5, h_6, h_7, rfl⟩ := hi
    exact ⟨_, hL, h_0, w_n1, w_r1, w_k1, w_z1, h_2, h_3, h_4, h_5, h_6, h_7, rfl⟩
  | anewarray idx =>
    obtain ⟨h_0, w_n1, w_r1, w_k1, w_C1, h_2, h_3, h_4, h_5, h_6, h_7, rfl⟩ := hi
    exact ⟨_, hL, h_0, w_n1, w_r1, w_k1, w_C1, h_2, h_3, h_4, h_5, h_6, h_7, rfl⟩
  | _ => exact hi.elim
theorem x_sins_L {sk : xK} {Ts : List Cond} {own : String} {i : Jvm.ClassFile.Instr} {len pc : Nat} {L L2 : xL} {st : List Value} {h : List xC} {b : xS} (hi : x_sins sk Ts own i len (pc, L, st, h) b) : x_sins sk Ts own i len (pc, L2, st, h) (b.1, L2, b.2.2) := by
  cases i with
  | ldc idx => obtain ⟨e0, k, hk, e1, e2, rfl⟩ := hi; exact ⟨e0, k, hk, e1, e2, rfl⟩
  | getfield idx =>
    obtain ⟨e0, k, r, hk, h1, ⟨h2, rfl⟩ | ⟨h2, rfl⟩⟩ := hi
    · exact ⟨e0, k, r, hk, h1, Or.inl ⟨h2, rfl⟩⟩
    · exact ⟨e0, k, r, hk, h1, Or.inr ⟨h2, rfl⟩⟩
  | arraylength => obtain ⟨e0, k, r, hk, h1, rfl⟩ := hi; exact ⟨e0, k, r, hk, h1, rfl⟩
  | baload => obtain ⟨e0, k, x, r, hk, h0, h1, rfl⟩ := hi; exact ⟨e0, k, x, r, hk, h0, h1, rfl⟩
  | getstatic idx =>
    obtain ⟨e0, ⟨h2, rfl⟩ | ⟨h2, rfl⟩⟩ := hi
    · exact ⟨e0, Or.inl ⟨h2, rfl⟩⟩
    · exact ⟨e0, Or.inr ⟨h2, rfl⟩⟩
  | i2b => obtain ⟨e0, x, r, h1, rfl⟩ := hi; exact ⟨e0, x, r, h1, rfl⟩
  | _ => exact hi.elim
theorem x_go_L {sk : xK} {cl : List vw_C} {kd : List FieldType} {Ts : List Cond} {AO : List Cond} {M : xM} {base : Nat} : ∀ (n d : Nat) (X : Option (Nat × Nat × (Nat → Int32))) (j pc : Nat) (L L2 : xL) (st : List Value) (h : List xC) (r : Option Value) (h' : List xC), (∀ q ∈ L, q ∈ L2) → x_go sk cl kd Ts AO M base n d X j (pc, L, st, h) r h' → x_go sk cl kd Ts AO M base n d X j (pc, L2, st, h) r h'
  | 0, _, _, _, _, _, _, _, _, _, _, _, h => h.elim
  | n + 1, d, X, j, pc, L, L2, st, h, r, h', hL, hg => by
    obtain ⟨y, cc, nL, ret, i, len, hM, hd, hh⟩ := hg
    refine ⟨y, cc, nL, ret, i, len, hM, hd, ?_⟩
    rcases hh with ⟨b, hi, hg⟩ | hr | ⟨d', j2, y2, cc2, nL2, ret2, As, rest, v, h1', rfl, a0, a1, a2, a3, hg1, hg2⟩ | ⟨d', b, rfl, hi, hg⟩
    · rcases hi with hi | hi
      · obtain ⟨L3, k1, k2⟩ := x_ins_L hL hi
        obtain ⟨bp, bL, bs, bh⟩ := b
        exact Or.inl ⟨_, Or.inl k2, x_go_L n d X j _ _ _ _ _ _ _ k1 hg⟩
      · have k2 := x_sins_L (L2 := L2) hi
        obtain ⟨bp, bL, bs, bh⟩ := b
        obtain ⟨e1, -⟩ := x_sins_h hi
        dsimp only at e1; subst e1
        exact Or.inl ⟨_, Or.inr k2, x_go_L n d X j _ _ _ _ _ _ _ hL hg⟩
    · exact Or.inr (Or.inl hr)
    · exact Or.inr (Or.inr (Or.inl ⟨d', j2, y2, cc2, nL2, ret2, As, rest, v, h1', rfl, a0, a1, a2, a3, hg1, x_go_L n _ X j _ _ _ _ _ _ _ hL hg2⟩))
    · cases i with
      | invokespecial idx =>
        obtain ⟨e1, q, r, e2, e3, e4, e5, e6, rfl⟩ := hi
        exact Or.inr (Or.inr (Or.inr ⟨d', _, rfl, ⟨e1, q, r, e2, e3, e4, e5, e6, rfl⟩, x_go_L n _ X j _ _ _ _ _ _ _ hL hg⟩))
      | invokevirtual idx =>
        obtain ⟨e1, e2, e3, e4, e5, e6, e7, q, k, m, f, r, e8, e9, e10, e11, rfl⟩ := hi
        exact Or.inr (Or.inr (Or.inr ⟨d', _, rfl, ⟨e1, e2, e3, e4, e5, e6, e7, q, k, m, f, r, e8, e9, e10, e11, rfl⟩, x_go_L n _ X j _ _ _ _ _ _ _ hL hg⟩))
      | invokestatic idx =>
        obtain ⟨e1, e2, e3, e4, e5, q0, q1, k, n0, n1, f, g, sp, dp, m, r, e6, e7, e8, e9, e10, e11, e12, e13, e14, e15, rfl⟩ := hi
        exact Or.inr (Or.inr (Or.inr ⟨d', _, rfl, ⟨e1, e2, e3, e4, e5, q0, q1, k, n0, n1, f, g, sp, dp, m, r, e6, e7, e8, e9, e10, e11, e12, e13, e14, e15, rfl⟩, x_go_L n _ X j _ _ _ _ _ _ _ hL hg⟩))
      | _ => exact hi.elim
def x_sub : xL → xL → Prop
  | [], _ => True
  | q :: r, L2 => x_get L2 q.1 = some q.2 ∧ x_sub r L2
theorem x_sub_mem {L2 : xL} : ∀ {L : xL}, x_sub L L2 → ∀ q ∈ L, q ∈ L2
  | [], _, _, hq => absurd hq (List.not_mem_nil)
  | p :: r, h, q, hq => by
    rcases List.mem_cons.mp hq with e | e
    · subst e; exact x_get_mem h.1
    · exact x_sub_mem h.2 q e
/-- a run that needs fewer locals -/
theorem hw_L {sk : xK} {base d : Nat} {X : Option (Nat × Nat × (Nat → Int32))} {j pc : Nat} {L L2 : xL} {st : List Value} {s : hS} {Φ : Option Value → hS → Prop} (k : hw sk base d X j pc L st s Φ) (hs : x_sub L L2) : hw sk base d X j pc L2 st s Φ := by
  intro h hR
  obtain ⟨r, h', ⟨n, g⟩, k2⟩ := k h hR
  exact ⟨r, h', ⟨n, x_go_L n d X j pc L L2 st h r h' (x_sub_mem hs) g⟩, k2⟩
end
