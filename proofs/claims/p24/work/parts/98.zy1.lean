theorem uf_RX0_113 : x_uF RX0 113 3 3 := x_uF_tb (c0 := "LocationDesk$Node") (n0 := "first") lF_RX0 rfl (by decide +kernel)
theorem un_RX0_113 : x_nS RX0 113 := x_nS_tb (c0 := "LocationDesk$Node") (n0 := "first") lF_RX0 rfl (by decide +kernel)
theorem uf_RX0_124 : x_uF RX0 124 3 5 := x_uF_tb (c0 := "LocationDesk$Node") (n0 := "no") lF_RX0 rfl (by decide +kernel)
theorem un_RX0_124 : x_nS RX0 124 := x_nS_tb (c0 := "LocationDesk$Node") (n0 := "no") lF_RX0 rfl (by decide +kernel)
theorem uf_RX0_127 : x_uF RX0 127 3 4 := x_uF_tb (c0 := "LocationDesk$Node") (n0 := "yes") lF_RX0 rfl (by decide +kernel)
theorem un_RX0_127 : x_nS RX0 127 := x_nS_tb (c0 := "LocationDesk$Node") (n0 := "yes") lF_RX0 rfl (by decide +kernel)
theorem uf_RX0_130 : x_uF RX0 130 3 6 := x_uF_tb (c0 := "LocationDesk$Node") (n0 := "next") lF_RX0 rfl (by decide +kernel)
theorem un_RX0_130 : x_nS RX0 130 := x_nS_tb (c0 := "LocationDesk$Node") (n0 := "next") lF_RX0 rfl (by decide +kernel)
theorem uf_RX0_139 : x_uF RX0 139 3 2 := x_uF_tb (c0 := "LocationDesk$Node") (n0 := "sign") lF_RX0 rfl (by decide +kernel)
theorem un_RX0_139 : x_nS RX0 139 := x_nS_tb (c0 := "LocationDesk$Node") (n0 := "sign") lF_RX0 rfl (by decide +kernel)
theorem uf_RX0_15 : x_uF RX0 15 0 1 := x_uF_tb (c0 := "LocationDesk$Coder") (n0 := "size") lF_RX0 rfl (by decide +kernel)
theorem un_RX0_15 : x_nS RX0 15 := x_nS_tb (c0 := "LocationDesk$Coder") (n0 := "size") lF_RX0 rfl (by decide +kernel)
theorem uf_RX0_19 : x_uF RX0 19 10 5 := x_uF_tb (c0 := "LocationDesk$Variable") (n0 := "rows") lF_RX0 rfl (by decide +kernel)
theorem un_RX0_19 : x_nS RX0 19 := x_nS_tb (c0 := "LocationDesk$Variable") (n0 := "rows") lF_RX0 rfl (by decide +kernel)
theorem uf_RX0_24 : x_uF RX0 24 10 4 := x_uF_tb (c0 := "LocationDesk$Variable") (n0 := "places") lF_RX0 rfl (by decide +kernel)
theorem un_RX0_24 : x_nS RX0 24 := x_nS_tb (c0 := "LocationDesk$Variable") (n0 := "places") lF_RX0 rfl (by decide +kernel)
theorem uf_RX0_32 : x_uF RX0 32 10 2 := x_uF_tb (c0 := "LocationDesk$Variable") (n0 := "from") lF_RX0 rfl (by decide +kernel)
theorem un_RX0_32 : x_nS RX0 32 := x_nS_tb (c0 := "LocationDesk$Variable") (n0 := "from") lF_RX0 rfl (by decide +kernel)
theorem uf_RX0_40 : x_uF RX0 40 10 3 := x_uF_tb (c0 := "LocationDesk$Variable") (n0 := "to") lF_RX0 rfl (by decide +kernel)
theorem un_RX0_40 : x_nS RX0 40 := x_nS_tb (c0 := "LocationDesk$Variable") (n0 := "to") lF_RX0 rfl (by decide +kernel)
theorem uf_RX0_57 : x_uF RX0 57 6 4 := x_uF_tb (c0 := "LocationDesk$Place") (n0 := "bytes") lF_RX0 rfl (by decide +kernel)
theorem un_RX0_57 : x_nS RX0 57 := x_nS_tb (c0 := "LocationDesk$Place") (n0 := "bytes") lF_RX0 rfl (by decide +kernel)
theorem uf_RX0_70 : x_uF RX0 70 6 5 := x_uF_tb (c0 := "LocationDesk$Place") (n0 := "next") lF_RX0 rfl (by decide +kernel)
theorem un_RX0_70 : x_nS RX0 70 := x_nS_tb (c0 := "LocationDesk$Place") (n0 := "next") lF_RX0 rfl (by decide +kernel)
theorem uf_RX0_74 : x_uF RX0 74 6 0 := x_uF_tb (c0 := "LocationDesk$Place") (n0 := "kind") lF_RX0 rfl (by decide +kernel)
theorem un_RX0_74 : x_nS RX0 74 := x_nS_tb (c0 := "LocationDesk$Place") (n0 := "kind") lF_RX0 rfl (by decide +kernel)
theorem uf_RX0_77 : x_uF RX0 77 6 1 := x_uF_tb (c0 := "LocationDesk$Place") (n0 := "number") lF_RX0 rfl (by decide +kernel)
theorem un_RX0_77 : x_nS RX0 77 := x_nS_tb (c0 := "LocationDesk$Place") (n0 := "number") lF_RX0 rfl (by decide +kernel)
theorem uf_RX0_81 : x_uF RX0 81 6 2 := x_uF_tb (c0 := "LocationDesk$Place") (n0 := "e") lF_RX0 rfl (by decide +kernel)
theorem un_RX0_81 : x_nS RX0 81 := x_nS_tb (c0 := "LocationDesk$Place") (n0 := "e") lF_RX0 rfl (by decide +kernel)
theorem uf_RX0_89 : x_uF RX0 89 6 3 := x_uF_tb (c0 := "LocationDesk$Place") (n0 := "block") lF_RX0 rfl (by decide +kernel)
theorem un_RX0_89 : x_nS RX0 89 := x_nS_tb (c0 := "LocationDesk$Place") (n0 := "block") lF_RX0 rfl (by decide +kernel)
theorem uf_RX0_9 : x_uF RX0 9 0 0 := x_uF_tb (c0 := "LocationDesk$Coder") (n0 := "buffer") lF_RX0 rfl (by decide +kernel)
theorem un_RX0_9 : x_nS RX0 9 := x_nS_tb (c0 := "LocationDesk$Coder") (n0 := "buffer") lF_RX0 rfl (by decide +kernel)
theorem uf_RX0_96 : x_uF RX0 96 3 0 := x_uF_tb (c0 := "LocationDesk$Node") (n0 := "kind") lF_RX0 rfl (by decide +kernel)
theorem un_RX0_96 : x_nS RX0 96 := x_nS_tb (c0 := "LocationDesk$Node") (n0 := "kind") lF_RX0 rfl (by decide +kernel)
theorem uf_RX0_99 : x_uF RX0 99 3 1 := x_uF_tb (c0 := "LocationDesk$Node") (n0 := "number") lF_RX0 rfl (by decide +kernel)
theorem un_RX0_99 : x_nS RX0 99 := x_nS_tb (c0 := "LocationDesk$Node") (n0 := "number") lF_RX0 rfl (by decide +kernel)
theorem uf_RX10_13 : x_uF RX10 13 10 3 := x_uF_tb (c0 := "LocationDesk$Variable") (n0 := "to") lF_RX10 rfl (by decide +kernel)
theorem un_RX10_13 : x_nS RX10 13 := x_nS_tb (c0 := "LocationDesk$Variable") (n0 := "to") lF_RX10 rfl (by decide +kernel)
theorem uf_RX10_18 : x_uF RX10 18 10 4 := x_uF_tb (c0 := "LocationDesk$Variable") (n0 := "places") lF_RX10 rfl (by decide +kernel)
theorem un_RX10_18 : x_nS RX10 18 := x_nS_tb (c0 := "LocationDesk$Variable") (n0 := "places") lF_RX10 rfl (by decide +kernel)
theorem uf_RX10_22 : x_uF RX10 22 10 6 := x_uF_tb (c0 := "LocationDesk$Variable") (n0 := "code") lF_RX10 rfl (by decide +kernel)
theorem un_RX10_22 : x_nS RX10 22 := x_nS_tb (c0 := "LocationDesk$Variable") (n0 := "code") lF_RX10 rfl (by decide +kernel)
theorem uf_RX10_26 : x_uF RX10 26 10 0 := x_uF_tb (c0 := "LocationDesk$Variable") (n0 := "name") lF_RX10 rfl (by decide +kernel)
theorem un_RX10_26 : x_nS RX10 26 := x_nS_tb (c0 := "LocationDesk$Variable") (n0 := "name") lF_RX10 rfl (by decide +kernel)
theorem uf_RX10_29 : x_uF RX10 29 10 1 := x_uF_tb (c0 := "LocationDesk$Variable") (n0 := "place") lF_RX10 rfl (by decide +kernel)
theorem un_RX10_29 : x_nS RX10 29 := x_nS_tb (c0 := "LocationDesk$Variable") (n0 := "place") lF_RX10 rfl (by decide +kernel)
theorem uf_RX10_9 : x_uF RX10 9 10 2 := x_uF_tb (c0 := "LocationDesk$Variable") (n0 := "from") lF_RX10 rfl (by decide +kernel)
theorem un_RX10_9 : x_nS RX10 9 := x_nS_tb (c0 := "LocationDesk$Variable") (n0 := "from") lF_RX10 rfl (by decide +kernel)
theorem uf_RX11_16 : x_uF RX11 16 11 6 := x_uF_tb (c0 := "LocationDesk") (n0 := "tape") lF_RX11 rfl (by decide +kernel)
theorem un_RX11_16 : x_nS RX11 16 := x_nS_tb (c0 := "LocationDesk") (n0 := "tape") lF_RX11 rfl (by decide +kernel)
theorem uf_RX11_23 : x_uF RX11 23 11 8 := x_uF_tb (c0 := "LocationDesk") (n0 := "report") lF_RX11 rfl (by decide +kernel)
theorem un_RX11_23 : x_nS RX11 23 := x_nS_tb (c0 := "LocationDesk") (n0 := "report") lF_RX11 rfl (by decide +kernel)
theorem uf_RX11_239 : x_uF RX11 239 4 5 := x_uF_tb (c0 := "LocationDesk$Parser") (n0 := "fault") lF_RX11 rfl (by decide +kernel)
theorem un_RX11_239 : x_nS RX11 239 := x_nS_tb (c0 := "LocationDesk$Parser") (n0 := "fault") lF_RX11 rfl (by decide +kernel)
theorem uf_RX11_242 : x_uF RX11 242 4 6 := x_uF_tb (c0 := "LocationDesk$Parser") (n0 := "place") lF_RX11 rfl (by decide +kernel)
theorem un_RX11_242 : x_nS RX11 242 := x_nS_tb (c0 := "LocationDesk$Parser") (n0 := "place") lF_RX11 rfl (by decide +kernel)
theorem uf_RX11_243 : x_uF RX11 243 4 3 := x_uF_tb (c0 := "LocationDesk$Parser") (n0 := "count") lF_RX11 rfl (by decide +kernel)
theorem un_RX11_243 : x_nS RX11 243 := x_nS_tb (c0 := "LocationDesk$Parser") (n0 := "count") lF_RX11 rfl (by decide +kernel)
theorem uf_RX11_245 : x_uF RX11 245 4 2 := x_uF_tb (c0 := "LocationDesk$Parser") (n0 := "variables") lF_RX11 rfl (by decide +kernel)
theorem un_RX11_245 : x_nS RX11 245 := x_nS_tb (c0 := "LocationDesk$Parser") (n0 := "variables") lF_RX11 rfl (by decide +kernel)
theorem uf_RX11_250 : x_uF RX11 250 10 6 := x_uF_tb (c0 := "LocationDesk$Variable") (n0 := "code") lF_RX11 rfl (by decide +kernel)
theorem un_RX11_250 : x_nS RX11 250 := x_nS_tb (c0 := "LocationDesk$Variable") (n0 := "code") lF_RX11 rfl (by decide +kernel)
theorem uf_RX11_252 : x_uF RX11 252 10 1 := x_uF_tb (c0 := "LocationDesk$Variable") (n0 := "place") lF_RX11 rfl (by decide +kernel)
theorem un_RX11_252 : x_nS RX11 252 := x_nS_tb (c0 := "LocationDesk$Variable") (n0 := "place") lF_RX11 rfl (by decide +kernel)
theorem uf_RX11_253 : x_uF RX11 253 11 12 := x_uF_tb (c0 := "LocationDesk") (n0 := "variableCount") lF_RX11 rfl (by decide +kernel)
theorem un_RX11_253 : x_nS RX11 253 := x_nS_tb (c0 := "LocationDesk") (n0 := "variableCount") lF_RX11 rfl (by decide +kernel)
theorem uf_RX11_259 : x_uF RX11 259 10 5 := x_uF_tb (c0 := "LocationDesk$Variable") (n0 := "rows") lF_RX11 rfl (by decide +kernel)
theorem un_RX11_259 : x_nS RX11 259 := x_nS_tb (c0 := "LocationDesk$Variable") (n0 := "rows") lF_RX11 rfl (by decide +kernel)
theorem uf_RX11_262 : x_uF RX11 262 10 0 := x_uF_tb (c0 := "LocationDesk$Variable") (n0 := "name") lF_RX11 rfl (by decide +kernel)
theorem un_RX11_262 : x_nS RX11 262 := x_nS_tb (c0 := "LocationDesk$Variable") (n0 := "name") lF_RX11 rfl (by decide +kernel)
theorem uf_RX11_28 : x_uF RX11 28 11 11 := x_uF_tb (c0 := "LocationDesk") (n0 := "variables") lF_RX11 rfl (by decide +kernel)
theorem un_RX11_28 : x_nS RX11 28 := x_nS_tb (c0 := "LocationDesk") (n0 := "variables") lF_RX11 rfl (by decide +kernel)
theorem uf_RX11_35 : x_uF RX11 35 11 0 := x_uF_tb (c0 := "LocationDesk") (n0 := "machine") lF_RX11 rfl (by decide +kernel)
theorem un_RX11_35 : x_nS RX11 35 := x_nS_tb (c0 := "LocationDesk") (n0 := "machine") lF_RX11 rfl (by decide +kernel)
theorem uf_RX11_58 : x_uF RX11 58 11 3 := x_uF_tb (c0 := "LocationDesk") (n0 := "parser") lF_RX11 rfl (by decide +kernel)
theorem un_RX11_58 : x_nS RX11 58 := x_nS_tb (c0 := "LocationDesk") (n0 := "parser") lF_RX11 rfl (by decide +kernel)
theorem uf_RX11_65 : x_uF RX11 65 11 4 := x_uF_tb (c0 := "LocationDesk") (n0 := "coder") lF_RX11 rfl (by decide +kernel)
theorem un_RX11_65 : x_nS RX11 65 := x_nS_tb (c0 := "LocationDesk") (n0 := "coder") lF_RX11 rfl (by decide +kernel)
theorem uf_RX11_69 : x_uF RX11 69 11 9 := x_uF_tb (c0 := "LocationDesk") (n0 := "tapeSize") lF_RX11 rfl (by decide +kernel)
theorem un_RX11_69 : x_nS RX11 69 := x_nS_tb (c0 := "LocationDesk") (n0 := "tapeSize") lF_RX11 rfl (by decide +kernel)
theorem uf_RX11_77 : x_uF RX11 77 1 2 := x_uF_tb (c0 := "LocationDesk$Machine") (n0 := "expressions") lF_RX11 rfl (by decide +kernel)
theorem un_RX11_77 : x_nS RX11 77 := x_nS_tb (c0 := "LocationDesk$Machine") (n0 := "expressions") lF_RX11 rfl (by decide +kernel)
theorem uf_RX11_85 : x_uF RX11 85 1 3 := x_uF_tb (c0 := "LocationDesk$Machine") (n0 := "lists") lF_RX11 rfl (by decide +kernel)
theorem un_RX11_85 : x_nS RX11 85 := x_nS_tb (c0 := "LocationDesk$Machine") (n0 := "lists") lF_RX11 rfl (by decide +kernel)
theorem uf_RX3_13 : x_uF RX3 13 3 1 := x_uF_tb (c0 := "LocationDesk$Node") (n0 := "number") lF_RX3 rfl (by decide +kernel)
theorem un_RX3_13 : x_nS RX3 13 := x_nS_tb (c0 := "LocationDesk$Node") (n0 := "number") lF_RX3 rfl (by decide +kernel)
theorem uf_RX3_7 : x_uF RX3 7 3 0 := x_uF_tb (c0 := "LocationDesk$Node") (n0 := "kind") lF_RX3 rfl (by decide +kernel)
theorem un_RX3_7 : x_nS RX3 7 := x_nS_tb (c0 := "LocationDesk$Node") (n0 := "kind") lF_RX3 rfl (by decide +kernel)
theorem uf_RX4_108 : x_uF RX4 108 10 5 := x_uF_tb (c0 := "LocationDesk$Variable") (n0 := "rows") lF_RX4 rfl (by decide +kernel)
theorem un_RX4_108 : x_nS RX4 108 := x_nS_tb (c0 := "LocationDesk$Variable") (n0 := "rows") lF_RX4 rfl (by decide +kernel)
theorem uf_RX4_111 : x_uF RX4 111 10 2 := x_uF_tb (c0 := "LocationDesk$Variable") (n0 := "from") lF_RX4 rfl (by decide +kernel)
theorem un_RX4_111 : x_nS RX4 111 := x_nS_tb (c0 := "LocationDesk$Variable") (n0 := "from") lF_RX4 rfl (by decide +kernel)
theorem uf_RX4_114 : x_uF RX4 114 10 3 := x_uF_tb (c0 := "LocationDesk$Variable") (n0 := "to") lF_RX4 rfl (by decide +kernel)
theorem un_RX4_114 : x_nS RX4 114 := x_nS_tb (c0 := "LocationDesk$Variable") (n0 := "to") lF_RX4 rfl (by decide +kernel)
theorem uf_RX4_12 : x_uF RX4 12 4 0 := x_uF_tb (c0 := "LocationDesk$Parser") (n0 := "reader") lF_RX4 rfl (by decide +kernel)
theorem un_RX4_12 : x_nS RX4 12 := x_nS_tb (c0 := "LocationDesk$Parser") (n0 := "reader") lF_RX4 rfl (by decide +kernel)
theorem uf_RX4_132 : x_uF RX4 132 6 5 := x_uF_tb (c0 := "LocationDesk$Place") (n0 := "next") lF_RX4 rfl (by decide +kernel)
theorem un_RX4_132 : x_nS RX4 132 := x_nS_tb (c0 := "LocationDesk$Place") (n0 := "next") lF_RX4 rfl (by decide +kernel)
theorem uf_RX4_140 : x_uF RX4 140 6 4 := x_uF_tb (c0 := "LocationDesk$Place") (n0 := "bytes") lF_RX4 rfl (by decide +kernel)
theorem un_RX4_140 : x_nS RX4 140 := x_nS_tb (c0 := "LocationDesk$Place") (n0 := "bytes") lF_RX4 rfl (by decide +kernel)
theorem uf_RX4_144 : x_uF RX4 144 6 0 := x_uF_tb (c0 := "LocationDesk$Place") (n0 := "kind") lF_RX4 rfl (by decide +kernel)
theorem un_RX4_144 : x_nS RX4 144 := x_nS_tb (c0 := "LocationDesk$Place") (n0 := "kind") lF_RX4 rfl (by decide +kernel)
theorem uf_RX4_149 : x_uF RX4 149 6 1 := x_uF_tb (c0 := "LocationDesk$Place") (n0 := "number") lF_RX4 rfl (by decide +kernel)
theorem un_RX4_149 : x_nS RX4 149 := x_nS_tb (c0 := "LocationDesk$Place") (n0 := "number") lF_RX4 rfl (by decide +kernel)
theorem uf_RX4_154 : x_uF RX4 154 6 2 := x_uF_tb (c0 := "LocationDesk$Place") (n0 := "e") lF_RX4 rfl (by decide +kernel)
theorem un_RX4_154 : x_nS RX4 154 := x_nS_tb (c0 := "LocationDesk$Place") (n0 := "e") lF_RX4 rfl (by decide +kernel)
theorem uf_RX4_162 : x_uF RX4 162 6 3 := x_uF_tb (c0 := "LocationDesk$Place") (n0 := "block") lF_RX4 rfl (by decide +kernel)
theorem un_RX4_162 : x_nS RX4 162 := x_nS_tb (c0 := "LocationDesk$Place") (n0 := "block") lF_RX4 rfl (by decide +kernel)
theorem uf_RX4_18 : x_uF RX4 18 4 1 := x_uF_tb (c0 := "LocationDesk$Parser") (n0 := "row") lF_RX4 rfl (by decide +kernel)
theorem un_RX4_18 : x_nS RX4 18 := x_nS_tb (c0 := "LocationDesk$Parser") (n0 := "row") lF_RX4 rfl (by decide +kernel)
theorem uf_RX4_186 : x_uF RX4 186 3 3 := x_uF_tb (c0 := "LocationDesk$Node") (n0 := "first") lF_RX4 rfl (by decide +kernel)
theorem un_RX4_186 : x_nS RX4 186 := x_nS_tb (c0 := "LocationDesk$Node") (n0 := "first") lF_RX4 rfl (by decide +kernel)
theorem uf_RX4_189 : x_uF RX4 189 3 4 := x_uF_tb (c0 := "LocationDesk$Node") (n0 := "yes") lF_RX4 rfl (by decide +kernel)
theorem un_RX4_189 : x_nS RX4 189 := x_nS_tb (c0 := "LocationDesk$Node") (n0 := "yes") lF_RX4 rfl (by decide +kernel)
theorem uf_RX4_192 : x_uF RX4 192 3 5 := x_uF_tb (c0 := "LocationDesk$Node") (n0 := "no") lF_RX4 rfl (by decide +kernel)
theorem un_RX4_192 : x_nS RX4 192 := x_nS_tb (c0 := "LocationDesk$Node") (n0 := "no") lF_RX4 rfl (by decide +kernel)
theorem uf_RX4_202 : x_uF RX4 202 3 6 := x_uF_tb (c0 := "LocationDesk$Node") (n0 := "next") lF_RX4 rfl (by decide +kernel)
theorem un_RX4_202 : x_nS RX4 202 := x_nS_tb (c0 := "LocationDesk$Node") (n0 := "next") lF_RX4 rfl (by decide +kernel)
theorem uf_RX4_204 : x_uF RX4 204 3 2 := x_uF_tb (c0 := "LocationDesk$Node") (n0 := "sign") lF_RX4 rfl (by decide +kernel)
theorem un_RX4_204 : x_nS RX4 204 := x_nS_tb (c0 := "LocationDesk$Node") (n0 := "sign") lF_RX4 rfl (by decide +kernel)
theorem uf_RX4_207 : x_uF RX4 207 3 0 := x_uF_tb (c0 := "LocationDesk$Node") (n0 := "kind") lF_RX4 rfl (by decide +kernel)
theorem un_RX4_207 : x_nS RX4 207 := x_nS_tb (c0 := "LocationDesk$Node") (n0 := "kind") lF_RX4 rfl (by decide +kernel)
theorem uf_RX4_208 : x_uF RX4 208 3 1 := x_uF_tb (c0 := "LocationDesk$Node") (n0 := "number") lF_RX4 rfl (by decide +kernel)
theorem un_RX4_208 : x_nS RX4 208 := x_nS_tb (c0 := "LocationDesk$Node") (n0 := "number") lF_RX4 rfl (by decide +kernel)
theorem uf_RX4_24 : x_uF RX4 24 4 2 := x_uF_tb (c0 := "LocationDesk$Parser") (n0 := "variables") lF_RX4 rfl (by decide +kernel)
theorem un_RX4_24 : x_nS RX4 24 := x_nS_tb (c0 := "LocationDesk$Parser") (n0 := "variables") lF_RX4 rfl (by decide +kernel)
theorem uf_RX4_32 : x_uF RX4 32 4 3 := x_uF_tb (c0 := "LocationDesk$Parser") (n0 := "count") lF_RX4 rfl (by decide +kernel)
theorem un_RX4_32 : x_nS RX4 32 := x_nS_tb (c0 := "LocationDesk$Parser") (n0 := "count") lF_RX4 rfl (by decide +kernel)
theorem uf_RX4_36 : x_uF RX4 36 4 4 := x_uF_tb (c0 := "LocationDesk$Parser") (n0 := "open") lF_RX4 rfl (by decide +kernel)
theorem un_RX4_36 : x_nS RX4 36 := x_nS_tb (c0 := "LocationDesk$Parser") (n0 := "open") lF_RX4 rfl (by decide +kernel)
theorem uf_RX4_39 : x_uF RX4 39 4 5 := x_uF_tb (c0 := "LocationDesk$Parser") (n0 := "fault") lF_RX4 rfl (by decide +kernel)
theorem un_RX4_39 : x_nS RX4 39 := x_nS_tb (c0 := "LocationDesk$Parser") (n0 := "fault") lF_RX4 rfl (by decide +kernel)
theorem uf_RX4_42 : x_uF RX4 42 4 6 := x_uF_tb (c0 := "LocationDesk$Parser") (n0 := "place") lF_RX4 rfl (by decide +kernel)
theorem un_RX4_42 : x_nS RX4 42 := x_nS_tb (c0 := "LocationDesk$Parser") (n0 := "place") lF_RX4 rfl (by decide +kernel)
theorem uf_RX4_45 : x_uF RX4 45 4 7 := x_uF_tb (c0 := "LocationDesk$Parser") (n0 := "token") lF_RX4 rfl (by decide +kernel)
theorem un_RX4_45 : x_nS RX4 45 := x_nS_tb (c0 := "LocationDesk$Parser") (n0 := "token") lF_RX4 rfl (by decide +kernel)
theorem uf_RX4_51 : x_uF RX4 51 4 8 := x_uF_tb (c0 := "LocationDesk$Parser") (n0 := "kind") lF_RX4 rfl (by decide +kernel)
theorem un_RX4_51 : x_nS RX4 51 := x_nS_tb (c0 := "LocationDesk$Parser") (n0 := "kind") lF_RX4 rfl (by decide +kernel)
theorem uf_RX4_54 : x_uF RX4 54 7 4 := x_uF_tb (c0 := "LocationDesk$Reader") (n0 := "count") lF_RX4 rfl (by decide +kernel)
theorem un_RX4_54 : x_nS RX4 54 := x_nS_tb (c0 := "LocationDesk$Reader") (n0 := "count") lF_RX4 rfl (by decide +kernel)
theorem uf_RX4_55 : x_uF RX4 55 7 0 := x_uF_tb (c0 := "LocationDesk$Reader") (n0 := "kinds") lF_RX4 rfl (by decide +kernel)
theorem un_RX4_55 : x_nS RX4 55 := x_nS_tb (c0 := "LocationDesk$Reader") (n0 := "kinds") lF_RX4 rfl (by decide +kernel)
theorem uf_RX4_58 : x_uF RX4 58 7 1 := x_uF_tb (c0 := "LocationDesk$Reader") (n0 := "numbers") lF_RX4 rfl (by decide +kernel)
theorem un_RX4_58 : x_nS RX4 58 := x_nS_tb (c0 := "LocationDesk$Reader") (n0 := "numbers") lF_RX4 rfl (by decide +kernel)
theorem uf_RX4_62 : x_uF RX4 62 4 9 := x_uF_tb (c0 := "LocationDesk$Parser") (n0 := "number") lF_RX4 rfl (by decide +kernel)
theorem un_RX4_62 : x_nS RX4 62 := x_nS_tb (c0 := "LocationDesk$Parser") (n0 := "number") lF_RX4 rfl (by decide +kernel)
theorem uf_RX4_66 : x_uF RX4 66 7 2 := x_uF_tb (c0 := "LocationDesk$Reader") (n0 := "places") lF_RX4 rfl (by decide +kernel)
theorem un_RX4_66 : x_nS RX4 66 := x_nS_tb (c0 := "LocationDesk$Reader") (n0 := "places") lF_RX4 rfl (by decide +kernel)
theorem uf_RX4_90 : x_uF RX4 90 10 4 := x_uF_tb (c0 := "LocationDesk$Variable") (n0 := "places") lF_RX4 rfl (by decide +kernel)
theorem un_RX4_90 : x_nS RX4 90 := x_nS_tb (c0 := "LocationDesk$Variable") (n0 := "places") lF_RX4 rfl (by decide +kernel)
theorem uf_RX4_97 : x_uF RX4 97 10 0 := x_uF_tb (c0 := "LocationDesk$Variable") (n0 := "name") lF_RX4 rfl (by decide +kernel)
theorem un_RX4_97 : x_nS RX4 97 := x_nS_tb (c0 := "LocationDesk$Variable") (n0 := "name") lF_RX4 rfl (by decide +kernel)
theorem uf_RX6_9 : x_uF RX6 9 6 4 := x_uF_tb (c0 := "LocationDesk$Place") (n0 := "bytes") lF_RX6 rfl (by decide +kernel)
theorem un_RX6_9 : x_nS RX6 9 := x_nS_tb (c0 := "LocationDesk$Place") (n0 := "bytes") lF_RX6 rfl (by decide +kernel)
theorem um_RJ7_150 : x_uM RJ7 150 arraycopyName := x_uM_tb lM_RJ7 rfl
theorem um_RJ7_304 : x_uM RJ7 304 yJ9_min_7cf53 := x_uM_tb lM_RJ7 rfl
theorem um_RJ7_316 : x_uM RJ7 316 ⟨"[I", "clone", "()Ljava/lang/Object;"⟩ := x_uM_tb lM_RJ7 rfl
theorem um_RJ7_343 : x_uM RJ7 343 yJ7_checkLength_df160 := x_uM_tb lM_RJ7 rfl
theorem um_RJ7_351 : x_uM RJ7 351 yJ7_copyOfRangeInt_feecc := x_uM_tb lM_RJ7 rfl
theorem um_RX0_100 : x_uM RX0 100 yX0_putConstant := x_uM_tb lM_RX0 rfl
theorem um_RX0_103 : x_uM RX0 103 yX0_putBased := x_uM_tb lM_RX0 rfl
theorem um_RX0_107 : x_uM RX0 107 yX0_putChoice := x_uM_tb lM_RX0 rfl
theorem um_RX0_110 : x_uM RX0 110 yX0_putChain := x_uM_tb lM_RX0 rfl
theorem um_RX0_116 : x_uM RX0 116 yX0_putUnary := x_uM_tb lM_RX0 rfl
theorem um_RX0_132 : x_uM RX0 132 yX0_isBased := x_uM_tb lM_RX0 rfl
theorem um_RX0_136 : x_uM RX0 136 yX0_isPlainTerm := x_uM_tb lM_RX0 rfl
theorem um_RX0_144 : x_uM RX0 144 yX4_operationOf := x_uM_tb lM_RX0 rfl
theorem um_RX0_150 : x_uM RX0 150 yX0_putSignedLeb := x_uM_tb lM_RX0 rfl
theorem um_RX0_28 : x_uM RX0 28 yX0_putLocation := x_uM_tb lM_RX0 rfl
theorem um_RX0_36 : x_uM RX0 36 yX0_putNumber := x_uM_tb lM_RX0 rfl
theorem um_RX0_43 : x_uM RX0 43 yX0_patch := x_uM_tb lM_RX0 rfl
theorem um_RX0_47 : x_uM RX0 47 yJ7_copyOf_59c91 := x_uM_tb lM_RX0 rfl
theorem um_RX0_53 : x_uM RX0 53 yX0_putPlace := x_uM_tb lM_RX0 rfl
theorem um_RX0_62 : x_uM RX0 62 yX0_put := x_uM_tb lM_RX0 rfl
theorem um_RX0_66 : x_uM RX0 66 yX0_putLeb := x_uM_tb lM_RX0 rfl
theorem um_RX0_85 : x_uM RX0 85 yX0_putNode := x_uM_tb lM_RX0 rfl
theorem um_RX0_92 : x_uM RX0 92 yX0_putBlock := x_uM_tb lM_RX0 rfl
theorem um_RX10_1 : x_uM RX10 1 Jvm.Lib.objectInit := x_uM_tb lM_RX10 rfl
theorem um_RX11_159 : x_uM RX11 159 yX11_tell := x_uM_tb lM_RX11 rfl
theorem um_RX11_229 : x_uM RX11 229 yX4_begin := x_uM_tb lM_RX11 rfl
theorem um_RX11_232 : x_uM RX11 232 yX4_goesOn := x_uM_tb lM_RX11 rfl
theorem um_RX11_236 : x_uM RX11 236 yX4_readDeclaration := x_uM_tb lM_RX11 rfl
theorem um_RX11_246 : x_uM RX11 246 yX0_code := x_uM_tb lM_RX11 rfl
theorem um_RX11_256 : x_uM RX11 256 yX11_isVariable := x_uM_tb lM_RX11 rfl
theorem um_RX11_265 : x_uM RX11 265 yX11_byteAt := x_uM_tb lM_RX11 rfl
theorem um_RX11_73 : x_uM RX11 73 yX11_feedFour := x_uM_tb lM_RX11 rfl
theorem um_RX11_81 : x_uM RX11 81 yX11_tapeInto := x_uM_tb lM_RX11 rfl
theorem um_RX11_88 : x_uM RX11 88 yJ7_copyOf_59c91 := x_uM_tb lM_RX11 rfl
theorem um_RX3_1 : x_uM RX3 1 Jvm.Lib.objectInit := x_uM_tb lM_RX3 rfl
theorem um_RX4_100 : x_uM RX4 100 yX4_areSame := x_uM_tb lM_RX4 rfl
theorem um_RX4_104 : x_uM RX4 104 yX4_readRange := x_uM_tb lM_RX4 rfl
theorem um_RX4_117 : x_uM RX4 117 yX4_raise := x_uM_tb lM_RX4 rfl
theorem um_RX4_121 : x_uM RX4 121 yX4_readPlace := x_uM_tb lM_RX4 rfl
theorem um_RX4_124 : x_uM RX4 124 yX4_readWidth := x_uM_tb lM_RX4 rfl
theorem um_RX4_128 : x_uM RX4 128 yX4_beginsPlace := x_uM_tb lM_RX4 rfl
theorem um_RX4_143 : x_uM RX4 143 yX6_init := x_uM_tb lM_RX4 rfl
theorem um_RX4_145 : x_uM RX4 145 yX4_refuseHighRegister := x_uM_tb lM_RX4 rfl
theorem um_RX4_150 : x_uM RX4 150 yX4_readChoice := x_uM_tb lM_RX4 rfl
theorem um_RX4_158 : x_uM RX4 158 yX4_readBlock := x_uM_tb lM_RX4 rfl
theorem um_RX4_171 : x_uM RX4 171 yJ7_copyOf_59c91 := x_uM_tb lM_RX4 rfl
theorem um_RX4_177 : x_uM RX4 177 yX4_readLevel := x_uM_tb lM_RX4 rfl
theorem um_RX4_183 : x_uM RX4 183 yX3_init := x_uM_tb lM_RX4 rfl
theorem um_RX4_195 : x_uM RX4 195 yX4_readUnary := x_uM_tb lM_RX4 rfl
theorem um_RX4_198 : x_uM RX4 198 yX4_levelOf := x_uM_tb lM_RX4 rfl
theorem um_RX4_28 : x_uM RX4 28 yX7_readAll := x_uM_tb lM_RX4 rfl
theorem um_RX4_48 : x_uM RX4 48 yX4_take := x_uM_tb lM_RX4 rfl
theorem um_RX4_69 : x_uM RX4 69 yX4_refuse := x_uM_tb lM_RX4 rfl
theorem um_RX4_73 : x_uM RX4 73 yX7_letters := x_uM_tb lM_RX4 rfl
theorem um_RX4_77 : x_uM RX4 77 yX4_isKnown := x_uM_tb lM_RX4 rfl
theorem um_RX4_81 : x_uM RX4 81 yX10_init := x_uM_tb lM_RX4 rfl
theorem um_RX4_83 : x_uM RX4 83 yX4_expect := x_uM_tb lM_RX4 rfl
theorem um_RX4_86 : x_uM RX4 86 yX4_readRows := x_uM_tb lM_RX4 rfl
theorem um_RX4_93 : x_uM RX4 93 yX4_readLocation := x_uM_tb lM_RX4 rfl
theorem um_RX6_3 : x_uM RX6 3 Jvm.Lib.objectInit := x_uM_tb lM_RX6 rfl
theorem um_RX7_128 : x_uM RX7 128 yJ7_copyOfRange_feecc := x_uM_tb lM_RX7 rfl
theorem ujJ7_checkLength_df160 : x_uJ yJ7_checkLength_df160 294 := x_uJ_nd (show xMM 294 = some _ from rfl)
theorem ujJ7_copyOfRangeInt_feecc : x_uJ yJ7_copyOfRangeInt_feecc 295 := x_uJ_nd (show xMM 295 = some _ from rfl)
theorem ujJ7_copyOfRange_feecc : x_uJ yJ7_copyOfRange_feecc 296 := x_uJ_nd (show xMM 296 = some _ from rfl)
theorem ujJ7_copyOf_59c91 : x_uJ yJ7_copyOf_59c91 297 := x_uJ_nd (show xMM 297 = some _ from rfl)
theorem ujX0_code : x_uJ yX0_code 2 := x_uJ_nd (show xMM 2 = some _ from rfl)
theorem ujX0_isBased : x_uJ yX0_isBased 10 := x_uJ_nd (show xMM 10 = some _ from rfl)
theorem ujX0_isPlainTerm : x_uJ yX0_isPlainTerm 11 := x_uJ_nd (show xMM 11 = some _ from rfl)
theorem ujX0_patch : x_uJ yX0_patch 16 := x_uJ_nd (show xMM 16 = some _ from rfl)
theorem ujX0_put : x_uJ yX0_put 14 := x_uJ_nd (show xMM 14 = some _ from rfl)
theorem ujX0_putBased : x_uJ yX0_putBased 12 := x_uJ_nd (show xMM 12 = some _ from rfl)
theorem ujX0_putBlock : x_uJ yX0_putBlock 5 := x_uJ_nd (show xMM 5 = some _ from rfl)
theorem ujX0_putChain : x_uJ yX0_putChain 9 := x_uJ_nd (show xMM 9 = some _ from rfl)
theorem ujX0_putChoice : x_uJ yX0_putChoice 8 := x_uJ_nd (show xMM 8 = some _ from rfl)
theorem ujX0_putConstant : x_uJ yX0_putConstant 13 := x_uJ_nd (show xMM 13 = some _ from rfl)
theorem ujX0_putLeb : x_uJ yX0_putLeb 17 := x_uJ_nd (show xMM 17 = some _ from rfl)
theorem ujX0_putLocation : x_uJ yX0_putLocation 3 := x_uJ_nd (show xMM 3 = some _ from rfl)
theorem ujX0_putNode : x_uJ yX0_putNode 6 := x_uJ_nd (show xMM 6 = some _ from rfl)
theorem ujX0_putNumber : x_uJ yX0_putNumber 15 := x_uJ_nd (show xMM 15 = some _ from rfl)
theorem ujX0_putPlace : x_uJ yX0_putPlace 4 := x_uJ_nd (show xMM 4 = some _ from rfl)
theorem ujX0_putSignedLeb : x_uJ yX0_putSignedLeb 18 := x_uJ_nd (show xMM 18 = some _ from rfl)
theorem ujX0_putUnary : x_uJ yX0_putUnary 7 := x_uJ_nd (show xMM 7 = some _ from rfl)
theorem ujX10_init : x_uJ yX10_init 116 := x_uJ_nd (show xMM 116 = some _ from rfl)
theorem ujX11_byteAt : x_uJ yX11_byteAt 149 := x_uJ_nd (show xMM 149 = some _ from rfl)
theorem ujX11_feedFour : x_uJ yX11_feedFour 119 := x_uJ_nd (show xMM 119 = some _ from rfl)
theorem ujX11_isVariable : x_uJ yX11_isVariable 147 := x_uJ_nd (show xMM 147 = some _ from rfl)
theorem ujX11_tapeInto : x_uJ yX11_tapeInto 123 := x_uJ_nd (show xMM 123 = some _ from rfl)
theorem ujX11_tell : x_uJ yX11_tell 137 := x_uJ_nd (show xMM 137 = some _ from rfl)
theorem ujX3_init : x_uJ yX3_init 34 := x_uJ_nd (show xMM 34 = some _ from rfl)
theorem ujX4_areSame : x_uJ yX4_areSame 44 := x_uJ_nd (show xMM 44 = some _ from rfl)
theorem ujX4_begin : x_uJ yX4_begin 36 := x_uJ_nd (show xMM 36 = some _ from rfl)
theorem ujX4_beginsPlace : x_uJ yX4_beginsPlace 49 := x_uJ_nd (show xMM 49 = some _ from rfl)
theorem ujX4_expect : x_uJ yX4_expect 40 := x_uJ_nd (show xMM 40 = some _ from rfl)
theorem ujX4_goesOn : x_uJ yX4_goesOn 37 := x_uJ_nd (show xMM 37 = some _ from rfl)
theorem ujX4_isKnown : x_uJ yX4_isKnown 43 := x_uJ_nd (show xMM 43 = some _ from rfl)
theorem ujX4_levelOf : x_uJ yX4_levelOf 55 := x_uJ_nd (show xMM 55 = some _ from rfl)
theorem ujX4_operationOf : x_uJ yX4_operationOf 57 := x_uJ_nd (show xMM 57 = some _ from rfl)
theorem ujX4_raise : x_uJ yX4_raise 41 := x_uJ_nd (show xMM 41 = some _ from rfl)
theorem ujX4_readBlock : x_uJ yX4_readBlock 52 := x_uJ_nd (show xMM 52 = some _ from rfl)
theorem ujX4_readChoice : x_uJ yX4_readChoice 53 := x_uJ_nd (show xMM 53 = some _ from rfl)
theorem ujX4_readDeclaration : x_uJ yX4_readDeclaration 42 := x_uJ_nd (show xMM 42 = some _ from rfl)
theorem ujX4_readLevel : x_uJ yX4_readLevel 54 := x_uJ_nd (show xMM 54 = some _ from rfl)
theorem ujX4_readLocation : x_uJ yX4_readLocation 47 := x_uJ_nd (show xMM 47 = some _ from rfl)
theorem ujX4_readPlace : x_uJ yX4_readPlace 50 := x_uJ_nd (show xMM 50 = some _ from rfl)
theorem ujX4_readRange : x_uJ yX4_readRange 46 := x_uJ_nd (show xMM 46 = some _ from rfl)
theorem ujX4_readRows : x_uJ yX4_readRows 45 := x_uJ_nd (show xMM 45 = some _ from rfl)
theorem ujX4_readUnary : x_uJ yX4_readUnary 56 := x_uJ_nd (show xMM 56 = some _ from rfl)
theorem ujX4_readWidth : x_uJ yX4_readWidth 48 := x_uJ_nd (show xMM 48 = some _ from rfl)
theorem ujX4_refuse : x_uJ yX4_refuse 39 := x_uJ_nd (show xMM 39 = some _ from rfl)
theorem ujX4_refuseHighRegister : x_uJ yX4_refuseHighRegister 51 := x_uJ_nd (show xMM 51 = some _ from rfl)
theorem ujX4_take : x_uJ yX4_take 38 := x_uJ_nd (show xMM 38 = some _ from rfl)
theorem ujX6_init : x_uJ yX6_init 63 := x_uJ_nd (show xMM 63 = some _ from rfl)
theorem ujX7_letters : x_uJ yX7_letters 77 := x_uJ_nd (show xMM 77 = some _ from rfl)
theorem ujX7_readAll : x_uJ yX7_readAll 65 := x_uJ_nd (show xMM 65 = some _ from rfl)
theorem uk_RX0_120 : ∀ v, Cond.constantLong RX0 120 v ∈ x_Ts → v = (8 : Int64) := x_uC_tb lC_RX0 rfl
theorem uk_RX0_153 : ∀ v, Cond.constantLong RX0 153 v ∈ x_Ts → v = (31 : Int64) := x_uC_tb lC_RX0 rfl
theorem uk_RX0_155 : ∀ v, Cond.constantLong RX0 155 v ∈ x_Ts → v = (255 : Int64) := x_uC_tb lC_RX0 rfl
theorem uk_RX0_157 : ∀ v, Cond.constantLong RX0 157 v ∈ x_Ts → v = (65535 : Int64) := x_uC_tb lC_RX0 rfl
theorem uk_RX0_159 : ∀ v, Cond.constantLong RX0 159 v ∈ x_Ts → v = (4294967295 : Int64) := x_uC_tb lC_RX0 rfl
theorem uk_RX0_161 : ∀ v, Cond.constantLong RX0 161 v ∈ x_Ts → v = (127 : Int64) := x_uC_tb lC_RX0 rfl
theorem uk_RX0_163 : ∀ v, Cond.constantLong RX0 163 v ∈ x_Ts → v = (-64 : Int64) := x_uC_tb lC_RX0 rfl
theorem uk_RX0_165 : ∀ v, Cond.constantLong RX0 165 v ∈ x_Ts → v = (63 : Int64) := x_uC_tb lC_RX0 rfl
theorem uk_RX11_205 : ∀ v, Cond.constantLong RX11 205 v ∈ x_Ts → v = (100 : Int64) := x_uC_tb lC_RX11 rfl
theorem uk_RX11_269 : ∀ v, Cond.constantLong RX11 269 v ∈ x_Ts → v = (1000 : Int64) := x_uC_tb lC_RX11 rfl
theorem uk_RX4_138 : ∀ v, Cond.constantLong RX4 138 v ∈ x_Ts → v = (64 : Int64) := x_uC_tb lC_RX4 rfl
theorem uk_RX4_167 : ∀ v, Cond.constantLong RX4 167 v ∈ x_Ts → v = (32 : Int64) := x_uC_tb lC_RX4 rfl
theorem uk_RX4_169 : ∀ v, Cond.constantLong RX4 169 v ∈ x_Ts → v = (255 : Int64) := x_uC_tb lC_RX4 rfl
theorem uo_RJ7_43 : ∀ z, Cond.classLink RJ7 43 z ∈ x_Ts → False := u_cn_of (by decide +kernel)
theorem uq_RX10_16 : x_uQ RX10 16 5 := x_uQ_of (c0 := RX6) (by decide +kernel) (by decide +kernel)
theorem uq_RX4_22 : x_uQ RX4 22 4 := x_uQ_of (c0 := RX10) (by decide +kernel) (by decide +kernel)
theorem uw_RX4_133 : x_uN RX4 133 6 := x_uN_of (c0 := RX6) (by decide +kernel) (by decide +kernel)
theorem uw_RX4_181 : x_uN RX4 181 3 := x_uN_of (c0 := RX3) (by decide +kernel) (by decide +kernel)
theorem uw_RX4_22 : x_uN RX4 22 10 := x_uN_of (c0 := RX10) (by decide +kernel) (by decide +kernel)

