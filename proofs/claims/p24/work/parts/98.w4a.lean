theorem uf_RX7_15 : x_uF RX7 15 7 1 := x_uF_tb (c0 := "LocationDesk$Reader") (n0 := "numbers") lF_RX7 rfl (by decide +kernel)
theorem un_RX7_15 : x_nS RX7 15 := x_nS_tb (c0 := "LocationDesk$Reader") (n0 := "numbers") lF_RX7 rfl (by decide +kernel)
theorem uf_RX7_19 : x_uF RX7 19 7 2 := x_uF_tb (c0 := "LocationDesk$Reader") (n0 := "places") lF_RX7 rfl (by decide +kernel)
theorem un_RX7_19 : x_nS RX7 19 := x_nS_tb (c0 := "LocationDesk$Reader") (n0 := "places") lF_RX7 rfl (by decide +kernel)
theorem uf_RX7_22 : x_uF RX7 22 7 3 := x_uF_tb (c0 := "LocationDesk$Reader") (n0 := "ends") lF_RX7 rfl (by decide +kernel)
theorem un_RX7_22 : x_nS RX7 22 := x_nS_tb (c0 := "LocationDesk$Reader") (n0 := "ends") lF_RX7 rfl (by decide +kernel)
theorem uf_RX7_25 : x_uF RX7 25 7 5 := x_uF_tb (c0 := "LocationDesk$Reader") (n0 := "text") lF_RX7 rfl (by decide +kernel)
theorem un_RX7_25 : x_nS RX7 25 := x_nS_tb (c0 := "LocationDesk$Reader") (n0 := "text") lF_RX7 rfl (by decide +kernel)
theorem uf_RX7_34 : x_uF RX7 34 7 6 := x_uF_tb (c0 := "LocationDesk$Reader") (n0 := "size") lF_RX7 rfl (by decide +kernel)
theorem un_RX7_34 : x_nS RX7 34 := x_nS_tb (c0 := "LocationDesk$Reader") (n0 := "size") lF_RX7 rfl (by decide +kernel)
theorem uf_RX7_38 : x_uF RX7 38 7 8 := x_uF_tb (c0 := "LocationDesk$Reader") (n0 := "behind") lF_RX7 rfl (by decide +kernel)
theorem un_RX7_38 : x_nS RX7 38 := x_nS_tb (c0 := "LocationDesk$Reader") (n0 := "behind") lF_RX7 rfl (by decide +kernel)
theorem uf_RX7_41 : x_uF RX7 41 7 4 := x_uF_tb (c0 := "LocationDesk$Reader") (n0 := "count") lF_RX7 rfl (by decide +kernel)
theorem un_RX7_41 : x_nS RX7 41 := x_nS_tb (c0 := "LocationDesk$Reader") (n0 := "count") lF_RX7 rfl (by decide +kernel)
theorem uf_RX7_44 : x_uF RX7 44 7 9 := x_uF_tb (c0 := "LocationDesk$Reader") (n0 := "kind") lF_RX7 rfl (by decide +kernel)
theorem un_RX7_44 : x_nS RX7 44 := x_nS_tb (c0 := "LocationDesk$Reader") (n0 := "kind") lF_RX7 rfl (by decide +kernel)
theorem uf_RX7_50 : x_uF RX7 50 7 10 := x_uF_tb (c0 := "LocationDesk$Reader") (n0 := "number") lF_RX7 rfl (by decide +kernel)
theorem un_RX7_50 : x_nS RX7 50 := x_nS_tb (c0 := "LocationDesk$Reader") (n0 := "number") lF_RX7 rfl (by decide +kernel)
theorem uf_RX7_54 : x_uF RX7 54 7 7 := x_uF_tb (c0 := "LocationDesk$Reader") (n0 := "place") lF_RX7 rfl (by decide +kernel)
theorem un_RX7_54 : x_nS RX7 54 := x_nS_tb (c0 := "LocationDesk$Reader") (n0 := "place") lF_RX7 rfl (by decide +kernel)
theorem uf_RX7_9 : x_uF RX7 9 7 0 := x_uF_tb (c0 := "LocationDesk$Reader") (n0 := "kinds") lF_RX7 rfl (by decide +kernel)
theorem un_RX7_9 : x_nS RX7 9 := x_nS_tb (c0 := "LocationDesk$Reader") (n0 := "kinds") lF_RX7 rfl (by decide +kernel)
theorem um_RJ0_1059 : x_uM RJ0 1059 yJ3_checkIndex_8e157 := x_uM_tb lM_RJ0 rfl
theorem um_RJ0_335 : x_uM RJ0 335 yJ0_coder_7d493 := x_uM_tb lM_RJ0 rfl
theorem um_RJ0_492 : x_uM RJ0 492 yJ0_isLatin1_aae02 := x_uM_tb lM_RJ0 rfl
theorem um_RJ0_495 : x_uM RJ0 495 yJ1_charAt_3b067 := x_uM_tb lM_RJ0 rfl
theorem um_RJ0_505 : x_uM RJ0 505 yJ0_length_8abf5 := x_uM_tb lM_RJ0 rfl
theorem um_RJ0_633 : x_uM RJ0 633 yJ0_indexOf_7cf53 := x_uM_tb lM_RJ0 rfl
theorem um_RJ0_637 : x_uM RJ0 637 yJ1_indexOf_4cfef := x_uM_tb lM_RJ0 rfl
theorem um_RJ1_38 : x_uM RJ1 38 yJ9_min_7cf53 := x_uM_tb lM_RJ1 rfl
theorem um_RJ1_88 : x_uM RJ1 88 yJ1_canEncode_9a6ad := x_uM_tb lM_RJ1 rfl
theorem um_RJ1_9 : x_uM RJ1 9 yJ0_checkIndex_df160 := x_uM_tb lM_RJ1 rfl
theorem um_RJ1_92 : x_uM RJ1 92 yJ9_max_7cf53 := x_uM_tb lM_RJ1 rfl
theorem um_RJ1_95 : x_uM RJ1 95 yJ1_indexOfChar_4cfef := x_uM_tb lM_RJ1 rfl
theorem um_RX7_109 : x_uM RX7 109 yJ0_length_8abf5 := x_uM_tb lM_RX7 rfl
theorem um_RX7_114 : x_uM RX7 114 yJ0_charAt_5068e := x_uM_tb lM_RX7 rfl
theorem um_RX7_120 : x_uM RX7 120 yX7_signOfTwo := x_uM_tb lM_RX7 rfl
theorem um_RX7_125 : x_uM RX7 125 yJ0_indexOf_0f7a4 := x_uM_tb lM_RX7 rfl
theorem um_RX7_28 : x_uM RX7 28 yJ9_min_7cf53 := x_uM_tb lM_RX7 rfl
theorem um_RX7_47 : x_uM RX7 47 yX7_readToken := x_uM_tb lM_RX7 rfl
theorem um_RX7_57 : x_uM RX7 57 yX7_letter := x_uM_tb lM_RX7 rfl
theorem um_RX7_61 : x_uM RX7 61 yX7_isSmall := x_uM_tb lM_RX7 rfl
theorem um_RX7_65 : x_uM RX7 65 yX7_readWord := x_uM_tb lM_RX7 rfl
theorem um_RX7_68 : x_uM RX7 68 yX7_isDigit := x_uM_tb lM_RX7 rfl
theorem um_RX7_71 : x_uM RX7 71 yX7_readNumber := x_uM_tb lM_RX7 rfl
theorem um_RX7_74 : x_uM RX7 74 yX7_readAt := x_uM_tb lM_RX7 rfl
theorem um_RX7_77 : x_uM RX7 77 yX7_readSign := x_uM_tb lM_RX7 rfl
theorem um_RX7_81 : x_uM RX7 81 yX7_wordKind := x_uM_tb lM_RX7 rfl
theorem um_RX7_87 : x_uM RX7 87 yX7_isWord := x_uM_tb lM_RX7 rfl
theorem ujJ0_charAt_5068e : x_uJ yJ0_charAt_5068e 268 := x_uJ_nd (show xMM 268 = some _ from rfl)
theorem ujJ0_checkIndex_df160 : x_uJ yJ0_checkIndex_df160 270 := x_uJ_nd (show xMM 270 = some _ from rfl)
theorem ujJ0_coder_7d493 : x_uJ yJ0_coder_7d493 271 := x_uJ_nd (show xMM 271 = some _ from rfl)
theorem ujJ0_indexOf_0f7a4 : x_uJ yJ0_indexOf_0f7a4 272 := x_uJ_nd (show xMM 272 = some _ from rfl)
theorem ujJ0_indexOf_7cf53 : x_uJ yJ0_indexOf_7cf53 273 := x_uJ_nd (show xMM 273 = some _ from rfl)
theorem ujJ0_isLatin1_aae02 : x_uJ yJ0_isLatin1_aae02 274 := x_uJ_nd (show xMM 274 = some _ from rfl)
theorem ujJ0_length_8abf5 : x_uJ yJ0_length_8abf5 275 := x_uJ_nd (show xMM 275 = some _ from rfl)
theorem ujJ1_canEncode_9a6ad : x_uJ yJ1_canEncode_9a6ad 279 := x_uJ_nd (show xMM 279 = some _ from rfl)
theorem ujJ1_charAt_3b067 : x_uJ yJ1_charAt_3b067 280 := x_uJ_nd (show xMM 280 = some _ from rfl)
theorem ujJ1_indexOfChar_4cfef : x_uJ yJ1_indexOfChar_4cfef 281 := x_uJ_nd (show xMM 281 = some _ from rfl)
theorem ujJ1_indexOf_4cfef : x_uJ yJ1_indexOf_4cfef 282 := x_uJ_nd (show xMM 282 = some _ from rfl)
theorem ujJ3_checkIndex_8e157 : x_uJ yJ3_checkIndex_8e157 293 := x_uJ_nd (show xMM 293 = some _ from rfl)
theorem ujJ9_max_7cf53 : x_uJ yJ9_max_7cf53 299 := x_uJ_nd (show xMM 299 = some _ from rfl)
theorem ujJ9_min_7cf53 : x_uJ yJ9_min_7cf53 300 := x_uJ_nd (show xMM 300 = some _ from rfl)
theorem ujX7_isDigit : x_uJ yX7_isDigit 69 := x_uJ_nd (show xMM 69 = some _ from rfl)
theorem ujX7_isSmall : x_uJ yX7_isSmall 68 := x_uJ_nd (show xMM 68 = some _ from rfl)
theorem ujX7_isWord : x_uJ yX7_isWord 72 := x_uJ_nd (show xMM 72 = some _ from rfl)
theorem ujX7_letter : x_uJ yX7_letter 67 := x_uJ_nd (show xMM 67 = some _ from rfl)
theorem ujX7_readAt : x_uJ yX7_readAt 74 := x_uJ_nd (show xMM 74 = some _ from rfl)
theorem ujX7_readNumber : x_uJ yX7_readNumber 73 := x_uJ_nd (show xMM 73 = some _ from rfl)
theorem ujX7_readSign : x_uJ yX7_readSign 75 := x_uJ_nd (show xMM 75 = some _ from rfl)
theorem ujX7_readToken : x_uJ yX7_readToken 66 := x_uJ_nd (show xMM 66 = some _ from rfl)
theorem ujX7_readWord : x_uJ yX7_readWord 70 := x_uJ_nd (show xMM 70 = some _ from rfl)
theorem ujX7_signOfTwo : x_uJ yX7_signOfTwo 76 := x_uJ_nd (show xMM 76 = some _ from rfl)
theorem ujX7_wordKind : x_uJ yX7_wordKind 71 := x_uJ_nd (show xMM 71 = some _ from rfl)
theorem uk_RX7_118 : ∀ v, Cond.constantLong RX7 118 v ∈ x_Ts → v = (10 : Int64) := x_uC_tb lC_RX7 rfl
theorem uz_RX7_101 : ∀ z, Cond.constant RX7 101 z ∈ x_Ts → False := u_c0_of (by decide +kernel)
theorem uz_RX7_103 : ∀ z, Cond.constant RX7 103 z ∈ x_Ts → False := u_c0_of (by decide +kernel)
theorem uz_RX7_105 : ∀ z, Cond.constant RX7 105 z ∈ x_Ts → False := u_c0_of (by decide +kernel)
theorem uz_RX7_107 : ∀ z, Cond.constant RX7 107 z ∈ x_Ts → False := u_c0_of (by decide +kernel)
theorem uz_RX7_123 : ∀ z, Cond.constant RX7 123 z ∈ x_Ts → False := u_c0_of (by decide +kernel)
theorem uz_RX7_85 : ∀ z, Cond.constant RX7 85 z ∈ x_Ts → False := u_c0_of (by decide +kernel)
theorem uz_RX7_91 : ∀ z, Cond.constant RX7 91 z ∈ x_Ts → False := u_c0_of (by decide +kernel)
theorem uz_RX7_93 : ∀ z, Cond.constant RX7 93 z ∈ x_Ts → False := u_c0_of (by decide +kernel)
theorem uz_RX7_95 : ∀ z, Cond.constant RX7 95 z ∈ x_Ts → False := u_c0_of (by decide +kernel)
theorem uz_RX7_97 : ∀ z, Cond.constant RX7 97 z ∈ x_Ts → False := u_c0_of (by decide +kernel)
theorem uz_RX7_99 : ∀ z, Cond.constant RX7 99 z ∈ x_Ts → False := u_c0_of (by decide +kernel)
theorem us_RJ0_1053 : ∀ c n z, Cond.fieldLink RJ0 1053 c n z ∈ x_Ts → n = "SIOOBE_FORMATTER" := u_sf_of (by decide +kernel)
theorem us_RJ0_15 : ∀ c n z, Cond.fieldLink RJ0 15 c n z ∈ x_Ts → n = "coder" := u_sf_of (by decide +kernel)
theorem us_RJ0_38 : ∀ c n z, Cond.fieldLink RJ0 38 c n z ∈ x_Ts → n = "COMPACT_STRINGS" := u_sf_of (by decide +kernel)
theorem us_RJ0_9 : ∀ c n z, Cond.fieldLink RJ0 9 c n z ∈ x_Ts → n = "value" := u_sf_of (by decide +kernel)
theorem ul_RJ3_95 : ∀ z, x_lk x_Ts x_AO RJ3 95 z → False := u_nm_of (by decide +kernel)
