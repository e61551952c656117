theorem uf_RX12_102 : x_uF RX12 102 12 60 := x_uF_tb (c0 := "LocationDeskModel") (n0 := "out") lF_RX12 rfl (by decide +kernel)
theorem un_RX12_102 : x_nS RX12 102 := x_nS_tb (c0 := "LocationDeskModel") (n0 := "out") lF_RX12 rfl (by decide +kernel)
theorem uf_RX12_13 : x_uF RX12 13 12 2 := x_uF_tb (c0 := "LocationDeskModel") (n0 := "memory") lF_RX12 rfl (by decide +kernel)
theorem un_RX12_13 : x_nS RX12 13 := x_nS_tb (c0 := "LocationDeskModel") (n0 := "memory") lF_RX12 rfl (by decide +kernel)
theorem uf_RX12_166 : x_uF RX12 166 12 96 := x_uF_tb (c0 := "LocationDeskModel") (n0 := "meantKind") lF_RX12 rfl (by decide +kernel)
theorem un_RX12_166 : x_nS RX12 166 := x_nS_tb (c0 := "LocationDeskModel") (n0 := "meantKind") lF_RX12 rfl (by decide +kernel)
theorem uf_RX12_169 : x_uF RX12 169 12 97 := x_uF_tb (c0 := "LocationDeskModel") (n0 := "meantValue") lF_RX12 rfl (by decide +kernel)
theorem un_RX12_169 : x_nS RX12 169 := x_nS_tb (c0 := "LocationDeskModel") (n0 := "meantValue") lF_RX12 rfl (by decide +kernel)
theorem uf_RX12_172 : x_uF RX12 172 12 98 := x_uF_tb (c0 := "LocationDeskModel") (n0 := "meantBits") lF_RX12 rfl (by decide +kernel)
theorem un_RX12_172 : x_nS RX12 172 := x_nS_tb (c0 := "LocationDeskModel") (n0 := "meantBits") lF_RX12 rfl (by decide +kernel)
theorem uf_RX12_175 : x_uF RX12 175 12 99 := x_uF_tb (c0 := "LocationDeskModel") (n0 := "meantBytes") lF_RX12 rfl (by decide +kernel)
theorem un_RX12_175 : x_nS RX12 175 := x_nS_tb (c0 := "LocationDeskModel") (n0 := "meantBytes") lF_RX12 rfl (by decide +kernel)
theorem uf_RX12_178 : x_uF RX12 178 12 100 := x_uF_tb (c0 := "LocationDeskModel") (n0 := "values") lF_RX12 rfl (by decide +kernel)
theorem un_RX12_178 : x_nS RX12 178 := x_nS_tb (c0 := "LocationDeskModel") (n0 := "values") lF_RX12 rfl (by decide +kernel)
theorem uf_RX12_181 : x_uF RX12 181 12 102 := x_uF_tb (c0 := "LocationDeskModel") (n0 := "wasLive") lF_RX12 rfl (by decide +kernel)
theorem un_RX12_181 : x_nS RX12 181 := x_nS_tb (c0 := "LocationDeskModel") (n0 := "wasLive") lF_RX12 rfl (by decide +kernel)
theorem uf_RX12_184 : x_uF RX12 184 12 103 := x_uF_tb (c0 := "LocationDeskModel") (n0 := "isSo") lF_RX12 rfl (by decide +kernel)
theorem un_RX12_184 : x_nS RX12 184 := x_nS_tb (c0 := "LocationDeskModel") (n0 := "isSo") lF_RX12 rfl (by decide +kernel)
theorem uf_RX12_201 : x_uF RX12 201 12 7 := x_uF_tb (c0 := "LocationDeskModel") (n0 := "cfaMore") lF_RX12 rfl (by decide +kernel)
theorem un_RX12_201 : x_nS RX12 201 := x_nS_tb (c0 := "LocationDeskModel") (n0 := "cfaMore") lF_RX12 rfl (by decide +kernel)
theorem uf_RX12_205 : x_uF RX12 205 12 8 := x_uF_tb (c0 := "LocationDeskModel") (n0 := "object") lF_RX12 rfl (by decide +kernel)
theorem un_RX12_205 : x_nS RX12 205 := x_nS_tb (c0 := "LocationDeskModel") (n0 := "object") lF_RX12 rfl (by decide +kernel)
theorem uf_RX12_208 : x_uF RX12 208 12 10 := x_uF_tb (c0 := "LocationDeskModel") (n0 := "hasObject") lF_RX12 rfl (by decide +kernel)
theorem un_RX12_208 : x_nS RX12 208 := x_nS_tb (c0 := "LocationDeskModel") (n0 := "hasObject") lF_RX12 rfl (by decide +kernel)
theorem uf_RX12_212 : x_uF RX12 212 12 9 := x_uF_tb (c0 := "LocationDeskModel") (n0 := "tls") lF_RX12 rfl (by decide +kernel)
theorem un_RX12_212 : x_nS RX12 212 := x_nS_tb (c0 := "LocationDeskModel") (n0 := "tls") lF_RX12 rfl (by decide +kernel)
theorem uf_RX12_215 : x_uF RX12 215 12 11 := x_uF_tb (c0 := "LocationDeskModel") (n0 := "hasTls") lF_RX12 rfl (by decide +kernel)
theorem un_RX12_215 : x_nS RX12 215 := x_nS_tb (c0 := "LocationDeskModel") (n0 := "hasTls") lF_RX12 rfl (by decide +kernel)
theorem uf_RX12_220 : x_uF RX12 220 12 38 := x_uF_tb (c0 := "LocationDeskModel") (n0 := "decodes") lF_RX12 rfl (by decide +kernel)
theorem un_RX12_220 : x_nS RX12 220 := x_nS_tb (c0 := "LocationDeskModel") (n0 := "decodes") lF_RX12 rfl (by decide +kernel)
theorem uf_RX12_223 : x_uF RX12 223 12 37 := x_uF_tb (c0 := "LocationDeskModel") (n0 := "next") lF_RX12 rfl (by decide +kernel)
theorem un_RX12_223 : x_nS RX12 223 := x_nS_tb (c0 := "LocationDeskModel") (n0 := "next") lF_RX12 rfl (by decide +kernel)
theorem uf_RX12_228 : x_uF RX12 228 12 35 := x_uF_tb (c0 := "LocationDeskModel") (n0 := "one") lF_RX12 rfl (by decide +kernel)
theorem un_RX12_228 : x_nS RX12 228 := x_nS_tb (c0 := "LocationDeskModel") (n0 := "one") lF_RX12 rfl (by decide +kernel)
theorem uf_RX12_23 : x_uF RX12 23 12 5 := x_uF_tb (c0 := "LocationDeskModel") (n0 := "frame") lF_RX12 rfl (by decide +kernel)
theorem un_RX12_23 : x_nS RX12 23 := x_nS_tb (c0 := "LocationDeskModel") (n0 := "frame") lF_RX12 rfl (by decide +kernel)
theorem uf_RX12_231 : x_uF RX12 231 12 36 := x_uF_tb (c0 := "LocationDeskModel") (n0 := "two") lF_RX12 rfl (by decide +kernel)
theorem un_RX12_231 : x_nS RX12 231 := x_nS_tb (c0 := "LocationDeskModel") (n0 := "two") lF_RX12 rfl (by decide +kernel)
theorem uf_RX12_252 : x_uF RX12 252 12 39 := x_uF_tb (c0 := "LocationDeskModel") (n0 := "base") lF_RX12 rfl (by decide +kernel)
theorem un_RX12_252 : x_nS RX12 252 := x_nS_tb (c0 := "LocationDeskModel") (n0 := "base") lF_RX12 rfl (by decide +kernel)
theorem uf_RX12_255 : x_uF RX12 255 12 34 := x_uF_tb (c0 := "LocationDeskModel") (n0 := "faultPlace") lF_RX12 rfl (by decide +kernel)
theorem un_RX12_255 : x_nS RX12 255 := x_nS_tb (c0 := "LocationDeskModel") (n0 := "faultPlace") lF_RX12 rfl (by decide +kernel)
theorem uf_RX12_264 : x_uF RX12 264 12 29 := x_uF_tb (c0 := "LocationDeskModel") (n0 := "open") lF_RX12 rfl (by decide +kernel)
theorem un_RX12_264 : x_nS RX12 264 := x_nS_tb (c0 := "LocationDeskModel") (n0 := "open") lF_RX12 rfl (by decide +kernel)
theorem uf_RX12_267 : x_uF RX12 267 12 33 := x_uF_tb (c0 := "LocationDeskModel") (n0 := "outer") lF_RX12 rfl (by decide +kernel)
theorem un_RX12_267 : x_nS RX12 267 := x_nS_tb (c0 := "LocationDeskModel") (n0 := "outer") lF_RX12 rfl (by decide +kernel)
theorem uf_RX12_27 : x_uF RX12 27 12 6 := x_uF_tb (c0 := "LocationDeskModel") (n0 := "cfaRegister") lF_RX12 rfl (by decide +kernel)
theorem un_RX12_27 : x_nS RX12 27 := x_nS_tb (c0 := "LocationDeskModel") (n0 := "cfaRegister") lF_RX12 rfl (by decide +kernel)
theorem uf_RX12_277 : x_uF RX12 277 12 40 := x_uF_tb (c0 := "LocationDeskModel") (n0 := "laterAt") lF_RX12 rfl (by decide +kernel)
theorem un_RX12_277 : x_nS RX12 277 := x_nS_tb (c0 := "LocationDeskModel") (n0 := "laterAt") lF_RX12 rfl (by decide +kernel)
theorem uf_RX12_280 : x_uF RX12 280 12 41 := x_uF_tb (c0 := "LocationDeskModel") (n0 := "laterFrom") lF_RX12 rfl (by decide +kernel)
theorem un_RX12_280 : x_nS RX12 280 := x_nS_tb (c0 := "LocationDeskModel") (n0 := "laterFrom") lF_RX12 rfl (by decide +kernel)
theorem uf_RX12_283 : x_uF RX12 283 12 42 := x_uF_tb (c0 := "LocationDeskModel") (n0 := "laterTo") lF_RX12 rfl (by decide +kernel)
theorem un_RX12_283 : x_nS RX12 283 := x_nS_tb (c0 := "LocationDeskModel") (n0 := "laterTo") lF_RX12 rfl (by decide +kernel)
theorem uf_RX12_286 : x_uF RX12 286 12 43 := x_uF_tb (c0 := "LocationDeskModel") (n0 := "laterOuter") lF_RX12 rfl (by decide +kernel)
theorem un_RX12_286 : x_nS RX12 286 := x_nS_tb (c0 := "LocationDeskModel") (n0 := "laterOuter") lF_RX12 rfl (by decide +kernel)
theorem uf_RX12_289 : x_uF RX12 289 12 44 := x_uF_tb (c0 := "LocationDeskModel") (n0 := "laterMore") lF_RX12 rfl (by decide +kernel)
theorem un_RX12_289 : x_nS RX12 289 := x_nS_tb (c0 := "LocationDeskModel") (n0 := "laterMore") lF_RX12 rfl (by decide +kernel)
theorem uf_RX12_296 : x_uF RX12 296 12 30 := x_uF_tb (c0 := "LocationDeskModel") (n0 := "fuel") lF_RX12 rfl (by decide +kernel)
theorem un_RX12_296 : x_nS RX12 296 := x_nS_tb (c0 := "LocationDeskModel") (n0 := "fuel") lF_RX12 rfl (by decide +kernel)
theorem uf_RX12_33 : x_uF RX12 33 12 14 := x_uF_tb (c0 := "LocationDeskModel") (n0 := "stack") lF_RX12 rfl (by decide +kernel)
theorem un_RX12_33 : x_nS RX12 33 := x_nS_tb (c0 := "LocationDeskModel") (n0 := "stack") lF_RX12 rfl (by decide +kernel)
theorem uf_RX12_354 : x_uF RX12 354 12 47 := x_uF_tb (c0 := "LocationDeskModel") (n0 := "isPieces") lF_RX12 rfl (by decide +kernel)
theorem un_RX12_354 : x_nS RX12 354 := x_nS_tb (c0 := "LocationDeskModel") (n0 := "isPieces") lF_RX12 rfl (by decide +kernel)
theorem uf_RX12_36 : x_uF RX12 36 12 15 := x_uF_tb (c0 := "LocationDeskModel") (n0 := "top") lF_RX12 rfl (by decide +kernel)
theorem un_RX12_36 : x_nS RX12 36 := x_nS_tb (c0 := "LocationDeskModel") (n0 := "top") lF_RX12 rfl (by decide +kernel)
theorem uf_RX12_39 : x_uF RX12 39 12 16 := x_uF_tb (c0 := "LocationDeskModel") (n0 := "pieces") lF_RX12 rfl (by decide +kernel)
theorem un_RX12_39 : x_nS RX12 39 := x_nS_tb (c0 := "LocationDeskModel") (n0 := "pieces") lF_RX12 rfl (by decide +kernel)
theorem uf_RX12_402 : x_uF RX12 402 12 58 := x_uF_tb (c0 := "LocationDeskModel") (n0 := "bitPart") lF_RX12 rfl (by decide +kernel)
theorem un_RX12_402 : x_nS RX12 402 := x_nS_tb (c0 := "LocationDeskModel") (n0 := "bitPart") lF_RX12 rfl (by decide +kernel)
theorem uf_RX12_405 : x_uF RX12 405 12 59 := x_uF_tb (c0 := "LocationDeskModel") (n0 := "bitAt") lF_RX12 rfl (by decide +kernel)
theorem un_RX12_405 : x_nS RX12 405 := x_nS_tb (c0 := "LocationDeskModel") (n0 := "bitAt") lF_RX12 rfl (by decide +kernel)
theorem uf_RX12_410 : x_uF RX12 410 12 61 := x_uF_tb (c0 := "LocationDeskModel") (n0 := "outs") lF_RX12 rfl (by decide +kernel)
theorem un_RX12_410 : x_nS RX12 410 := x_nS_tb (c0 := "LocationDeskModel") (n0 := "outs") lF_RX12 rfl (by decide +kernel)
theorem uf_RX12_42 : x_uF RX12 42 12 17 := x_uF_tb (c0 := "LocationDeskModel") (n0 := "pieceKind") lF_RX12 rfl (by decide +kernel)
theorem un_RX12_42 : x_nS RX12 42 := x_nS_tb (c0 := "LocationDeskModel") (n0 := "pieceKind") lF_RX12 rfl (by decide +kernel)
theorem uf_RX12_45 : x_uF RX12 45 12 18 := x_uF_tb (c0 := "LocationDeskModel") (n0 := "pieceValue") lF_RX12 rfl (by decide +kernel)
theorem un_RX12_45 : x_nS RX12 45 := x_nS_tb (c0 := "LocationDeskModel") (n0 := "pieceValue") lF_RX12 rfl (by decide +kernel)
theorem uf_RX12_48 : x_uF RX12 48 12 19 := x_uF_tb (c0 := "LocationDeskModel") (n0 := "pieceBits") lF_RX12 rfl (by decide +kernel)
theorem un_RX12_48 : x_nS RX12 48 := x_nS_tb (c0 := "LocationDeskModel") (n0 := "pieceBits") lF_RX12 rfl (by decide +kernel)
theorem uf_RX12_51 : x_uF RX12 51 12 20 := x_uF_tb (c0 := "LocationDeskModel") (n0 := "pieceFirst") lF_RX12 rfl (by decide +kernel)
theorem un_RX12_51 : x_nS RX12 51 := x_nS_tb (c0 := "LocationDeskModel") (n0 := "pieceFirst") lF_RX12 rfl (by decide +kernel)
theorem uf_RX12_54 : x_uF RX12 54 12 21 := x_uF_tb (c0 := "LocationDeskModel") (n0 := "pieceSize") lF_RX12 rfl (by decide +kernel)
theorem un_RX12_54 : x_nS RX12 54 := x_nS_tb (c0 := "LocationDeskModel") (n0 := "pieceSize") lF_RX12 rfl (by decide +kernel)
theorem uf_RX12_57 : x_uF RX12 57 12 22 := x_uF_tb (c0 := "LocationDeskModel") (n0 := "bitsOf") lF_RX12 rfl (by decide +kernel)
theorem un_RX12_57 : x_nS RX12 57 := x_nS_tb (c0 := "LocationDeskModel") (n0 := "bitsOf") lF_RX12 rfl (by decide +kernel)
theorem uf_RX12_60 : x_uF RX12 60 12 23 := x_uF_tb (c0 := "LocationDeskModel") (n0 := "holdKind") lF_RX12 rfl (by decide +kernel)
theorem un_RX12_60 : x_nS RX12 60 := x_nS_tb (c0 := "LocationDeskModel") (n0 := "holdKind") lF_RX12 rfl (by decide +kernel)
theorem uf_RX12_63 : x_uF RX12 63 12 24 := x_uF_tb (c0 := "LocationDeskModel") (n0 := "holdValue") lF_RX12 rfl (by decide +kernel)
theorem un_RX12_63 : x_nS RX12 63 := x_nS_tb (c0 := "LocationDeskModel") (n0 := "holdValue") lF_RX12 rfl (by decide +kernel)
theorem uf_RX12_653 : x_uF RX12 653 12 93 := x_uF_tb (c0 := "LocationDeskModel") (n0 := "wrong") lF_RX12 rfl (by decide +kernel)
theorem un_RX12_653 : x_nS RX12 653 := x_nS_tb (c0 := "LocationDeskModel") (n0 := "wrong") lF_RX12 rfl (by decide +kernel)
theorem uf_RX12_656 : x_uF RX12 656 12 92 := x_uF_tb (c0 := "LocationDeskModel") (n0 := "mi") lF_RX12 rfl (by decide +kernel)
theorem un_RX12_656 : x_nS RX12 656 := x_nS_tb (c0 := "LocationDeskModel") (n0 := "mi") lF_RX12 rfl (by decide +kernel)
theorem uf_RX12_659 : x_uF RX12 659 12 94 := x_uF_tb (c0 := "LocationDeskModel") (n0 := "meant") lF_RX12 rfl (by decide +kernel)
theorem un_RX12_659 : x_nS RX12 659 := x_nS_tb (c0 := "LocationDeskModel") (n0 := "meant") lF_RX12 rfl (by decide +kernel)
theorem uf_RX12_66 : x_uF RX12 66 12 25 := x_uF_tb (c0 := "LocationDeskModel") (n0 := "holdSize") lF_RX12 rfl (by decide +kernel)
theorem un_RX12_66 : x_nS RX12 66 := x_nS_tb (c0 := "LocationDeskModel") (n0 := "holdSize") lF_RX12 rfl (by decide +kernel)
theorem uf_RX12_662 : x_uF RX12 662 12 95 := x_uF_tb (c0 := "LocationDeskModel") (n0 := "meantPieces") lF_RX12 rfl (by decide +kernel)
theorem un_RX12_662 : x_nS RX12 662 := x_nS_tb (c0 := "LocationDeskModel") (n0 := "meantPieces") lF_RX12 rfl (by decide +kernel)
theorem uf_RX12_680 : x_uF RX12 680 12 104 := x_uF_tb (c0 := "LocationDeskModel") (n0 := "live") lF_RX12 rfl (by decide +kernel)
theorem un_RX12_680 : x_nS RX12 680 := x_nS_tb (c0 := "LocationDeskModel") (n0 := "live") lF_RX12 rfl (by decide +kernel)
theorem uf_RX12_683 : x_uF RX12 683 12 101 := x_uF_tb (c0 := "LocationDeskModel") (n0 := "valued") lF_RX12 rfl (by decide +kernel)
theorem un_RX12_683 : x_nS RX12 683 := x_nS_tb (c0 := "LocationDeskModel") (n0 := "valued") lF_RX12 rfl (by decide +kernel)
theorem uf_RX12_69 : x_uF RX12 69 12 26 := x_uF_tb (c0 := "LocationDeskModel") (n0 := "back") lF_RX12 rfl (by decide +kernel)
theorem un_RX12_69 : x_nS RX12 69 := x_nS_tb (c0 := "LocationDeskModel") (n0 := "back") lF_RX12 rfl (by decide +kernel)
theorem uf_RX12_7 : x_uF RX12 7 12 1 := x_uF_tb (c0 := "LocationDeskModel") (n0 := "registers") lF_RX12 rfl (by decide +kernel)
theorem un_RX12_7 : x_nS RX12 7 := x_nS_tb (c0 := "LocationDeskModel") (n0 := "registers") lF_RX12 rfl (by decide +kernel)
theorem uf_RX12_72 : x_uF RX12 72 12 27 := x_uF_tb (c0 := "LocationDeskModel") (n0 := "backBegin") lF_RX12 rfl (by decide +kernel)
theorem un_RX12_72 : x_nS RX12 72 := x_nS_tb (c0 := "LocationDeskModel") (n0 := "backBegin") lF_RX12 rfl (by decide +kernel)
theorem uf_RX12_75 : x_uF RX12 75 12 28 := x_uF_tb (c0 := "LocationDeskModel") (n0 := "backEnd") lF_RX12 rfl (by decide +kernel)
theorem un_RX12_75 : x_nS RX12 75 := x_nS_tb (c0 := "LocationDeskModel") (n0 := "backEnd") lF_RX12 rfl (by decide +kernel)
theorem uf_RX12_78 : x_uF RX12 78 12 45 := x_uF_tb (c0 := "LocationDeskModel") (n0 := "depths") lF_RX12 rfl (by decide +kernel)
theorem un_RX12_78 : x_nS RX12 78 := x_nS_tb (c0 := "LocationDeskModel") (n0 := "depths") lF_RX12 rfl (by decide +kernel)
theorem uf_RX12_81 : x_uF RX12 81 12 46 := x_uF_tb (c0 := "LocationDeskModel") (n0 := "parts") lF_RX12 rfl (by decide +kernel)
theorem un_RX12_81 : x_nS RX12 81 := x_nS_tb (c0 := "LocationDeskModel") (n0 := "parts") lF_RX12 rfl (by decide +kernel)
theorem uf_RX12_84 : x_uF RX12 84 12 48 := x_uF_tb (c0 := "LocationDeskModel") (n0 := "partKind") lF_RX12 rfl (by decide +kernel)
theorem un_RX12_84 : x_nS RX12 84 := x_nS_tb (c0 := "LocationDeskModel") (n0 := "partKind") lF_RX12 rfl (by decide +kernel)
theorem uf_RX12_87 : x_uF RX12 87 12 49 := x_uF_tb (c0 := "LocationDeskModel") (n0 := "partValue") lF_RX12 rfl (by decide +kernel)
theorem un_RX12_87 : x_nS RX12 87 := x_nS_tb (c0 := "LocationDeskModel") (n0 := "partValue") lF_RX12 rfl (by decide +kernel)
theorem uf_RX12_90 : x_uF RX12 90 12 50 := x_uF_tb (c0 := "LocationDeskModel") (n0 := "partBits") lF_RX12 rfl (by decide +kernel)
theorem un_RX12_90 : x_nS RX12 90 := x_nS_tb (c0 := "LocationDeskModel") (n0 := "partBits") lF_RX12 rfl (by decide +kernel)
theorem uf_RX12_93 : x_uF RX12 93 12 51 := x_uF_tb (c0 := "LocationDeskModel") (n0 := "partFirst") lF_RX12 rfl (by decide +kernel)
theorem un_RX12_93 : x_nS RX12 93 := x_nS_tb (c0 := "LocationDeskModel") (n0 := "partFirst") lF_RX12 rfl (by decide +kernel)
theorem uf_RX12_96 : x_uF RX12 96 12 52 := x_uF_tb (c0 := "LocationDeskModel") (n0 := "partBytes") lF_RX12 rfl (by decide +kernel)
theorem un_RX12_96 : x_nS RX12 96 := x_nS_tb (c0 := "LocationDeskModel") (n0 := "partBytes") lF_RX12 rfl (by decide +kernel)
theorem um_RX12_234 : x_uM RX12 234 yX12_fixed := x_uM_tb lM_RX12 rfl
theorem um_RX12_238 : x_uM RX12 238 yX12_leb := x_uM_tb lM_RX12 rfl
theorem um_RX12_242 : x_uM RX12 242 yX12_isBelow := x_uM_tb lM_RX12 rfl
theorem um_RX12_246 : x_uM RX12 246 yX12_rest := x_uM_tb lM_RX12 rfl
theorem um_RX12_261 : x_uM RX12 261 yX12_clears := x_uM_tb lM_RX12 rfl
theorem um_RX12_270 : x_uM RX12 270 yX12_fails := x_uM_tb lM_RX12 rfl
theorem um_RX12_273 : x_uM RX12 273 yX12_isBase := x_uM_tb lM_RX12 rfl
theorem um_RX12_292 : x_uM RX12 292 yX12_pushed := x_uM_tb lM_RX12 rfl
theorem um_RX12_302 : x_uM RX12 302 yX12_isKnown := x_uM_tb lM_RX12 rfl
theorem um_RX12_306 : x_uM RX12 306 yX12_operands := x_uM_tb lM_RX12 rfl
theorem um_RX12_312 : x_uM RX12 312 yX12_isAbove := x_uM_tb lM_RX12 rfl
theorem um_RX12_317 : x_uM RX12 317 yX12_isPiece := x_uM_tb lM_RX12 rfl
theorem um_RX12_321 : x_uM RX12 321 yX12_wants := x_uM_tb lM_RX12 rfl
theorem um_RX12_327 : x_uM RX12 327 yX12_isThere := x_uM_tb lM_RX12 rfl
theorem um_RX12_330 : x_uM RX12 330 yX12_pushes := x_uM_tb lM_RX12 rfl
theorem um_RX12_333 : x_uM RX12 333 yX12_pushes_ := x_uM_tb lM_RX12 rfl
theorem um_RX12_336 : x_uM RX12 336 yX12_acts := x_uM_tb lM_RX12 rfl
theorem um_RX12_342 : x_uM RX12 342 yX12_read := x_uM_tb lM_RX12 rfl
theorem um_RX12_346 : x_uM RX12 346 yX12_worked := x_uM_tb lM_RX12 rfl
theorem um_RX12_350 : x_uM RX12 350 yX12_hold := x_uM_tb lM_RX12 rfl
theorem um_RX12_357 : x_uM RX12 357 yX12_part := x_uM_tb lM_RX12 rfl
theorem um_RX12_373 : x_uM RX12 373 yX12_begins := x_uM_tb lM_RX12 rfl
theorem um_RX12_376 : x_uM RX12 376 yX12_exec := x_uM_tb lM_RX12 rfl
theorem um_RX12_383 : x_uM RX12 383 yX12_empty := x_uM_tb lM_RX12 rfl
theorem um_RX12_386 : x_uM RX12 386 yX12_isFuel := x_uM_tb lM_RX12 rfl
theorem um_RX12_389 : x_uM RX12 389 yX12_runs := x_uM_tb lM_RX12 rfl
theorem um_RX12_394 : x_uM RX12 394 yX12_number := x_uM_tb lM_RX12 rfl
theorem um_RX12_398 : x_uM RX12 398 yX12_finds := x_uM_tb lM_RX12 rfl
theorem um_RX12_413 : x_uM RX12 413 yX12_goes := x_uM_tb lM_RX12 rfl
theorem um_RX12_416 : x_uM RX12 416 yX12_bit := x_uM_tb lM_RX12 rfl
theorem um_RX12_420 : x_uM RX12 420 yX12_puts_ := x_uM_tb lM_RX12 rfl
theorem um_RX12_665 : x_uM RX12 665 yX12_meantLocation := x_uM_tb lM_RX12 rfl
theorem um_RX12_669 : x_uM RX12 669 yX12_keepsSign := x_uM_tb lM_RX12 rfl
theorem um_RX12_672 : x_uM RX12 672 yX12_meantPlace := x_uM_tb lM_RX12 rfl
theorem um_RX12_676 : x_uM RX12 676 yX12_choice := x_uM_tb lM_RX12 rfl
theorem um_RX12_686 : x_uM RX12 686 yX12_meansOperand := x_uM_tb lM_RX12 rfl
theorem um_RX12_689 : x_uM RX12 689 yX12_meansOperator := x_uM_tb lM_RX12 rfl
theorem um_RX12_694 : x_uM RX12 694 yX12_keepsWord := x_uM_tb lM_RX12 rfl
theorem um_RX12_699 : x_uM RX12 699 yX12_value := x_uM_tb lM_RX12 rfl
theorem um_RX12_704 : x_uM RX12 704 yX12_does := x_uM_tb lM_RX12 rfl
theorem um_RX12_709 : x_uM RX12 709 yX12_bases := x_uM_tb lM_RX12 rfl
theorem um_RX12_712 : x_uM RX12 712 yX12_meansFinished := x_uM_tb lM_RX12 rfl
theorem um_RX12_715 : x_uM RX12 715 yX12_meansReduced := x_uM_tb lM_RX12 rfl
theorem um_RX12_718 : x_uM RX12 718 yX12_meansBinary := x_uM_tb lM_RX12 rfl
theorem um_RX12_721 : x_uM RX12 721 yX12_meansReducedAll := x_uM_tb lM_RX12 rfl
theorem ujX12_acts : x_uJ yX12_acts 184 := x_uJ_nd (show xMM 184 = some _ from rfl)
theorem ujX12_bases : x_uJ yX12_bases 262 := x_uJ_nd (show xMM 262 = some _ from rfl)
theorem ujX12_begins : x_uJ yX12_begins 189 := x_uJ_nd (show xMM 189 = some _ from rfl)
theorem ujX12_bit : x_uJ yX12_bit 201 := x_uJ_nd (show xMM 201 = some _ from rfl)
theorem ujX12_choice : x_uJ yX12_choice 260 := x_uJ_nd (show xMM 260 = some _ from rfl)
theorem ujX12_clears : x_uJ yX12_clears 179 := x_uJ_nd (show xMM 179 = some _ from rfl)
theorem ujX12_does : x_uJ yX12_does 258 := x_uJ_nd (show xMM 258 = some _ from rfl)
theorem ujX12_empty : x_uJ yX12_empty 187 := x_uJ_nd (show xMM 187 = some _ from rfl)
theorem ujX12_exec : x_uJ yX12_exec 181 := x_uJ_nd (show xMM 181 = some _ from rfl)
theorem ujX12_fails : x_uJ yX12_fails 178 := x_uJ_nd (show xMM 178 = some _ from rfl)
theorem ujX12_finds : x_uJ yX12_finds 195 := x_uJ_nd (show xMM 195 = some _ from rfl)
theorem ujX12_fixed : x_uJ yX12_fixed 168 := x_uJ_nd (show xMM 168 = some _ from rfl)
theorem ujX12_goes : x_uJ yX12_goes 200 := x_uJ_nd (show xMM 200 = some _ from rfl)
theorem ujX12_hold : x_uJ yX12_hold 185 := x_uJ_nd (show xMM 185 = some _ from rfl)
theorem ujX12_isAbove : x_uJ yX12_isAbove 172 := x_uJ_nd (show xMM 172 = some _ from rfl)
theorem ujX12_isBase : x_uJ yX12_isBase 177 := x_uJ_nd (show xMM 177 = some _ from rfl)
theorem ujX12_isBelow : x_uJ yX12_isBelow 194 := x_uJ_nd (show xMM 194 = some _ from rfl)
theorem ujX12_isFuel : x_uJ yX12_isFuel 191 := x_uJ_nd (show xMM 191 = some _ from rfl)
theorem ujX12_isKnown : x_uJ yX12_isKnown 170 := x_uJ_nd (show xMM 170 = some _ from rfl)
theorem ujX12_isPiece : x_uJ yX12_isPiece 182 := x_uJ_nd (show xMM 182 = some _ from rfl)
theorem ujX12_isThere : x_uJ yX12_isThere 166 := x_uJ_nd (show xMM 166 = some _ from rfl)
theorem ujX12_keepsSign : x_uJ yX12_keepsSign 254 := x_uJ_nd (show xMM 254 = some _ from rfl)
theorem ujX12_keepsWord : x_uJ yX12_keepsWord 255 := x_uJ_nd (show xMM 255 = some _ from rfl)
theorem ujX12_leb : x_uJ yX12_leb 169 := x_uJ_nd (show xMM 169 = some _ from rfl)
theorem ujX12_meansBinary : x_uJ yX12_meansBinary 266 := x_uJ_nd (show xMM 266 = some _ from rfl)
theorem ujX12_meansFinished : x_uJ yX12_meansFinished 263 := x_uJ_nd (show xMM 263 = some _ from rfl)
theorem ujX12_meansOperand : x_uJ yX12_meansOperand 261 := x_uJ_nd (show xMM 261 = some _ from rfl)
theorem ujX12_meansOperator : x_uJ yX12_meansOperator 267 := x_uJ_nd (show xMM 267 = some _ from rfl)
theorem ujX12_meansReduced : x_uJ yX12_meansReduced 264 := x_uJ_nd (show xMM 264 = some _ from rfl)
theorem ujX12_meansReducedAll : x_uJ yX12_meansReducedAll 265 := x_uJ_nd (show xMM 265 = some _ from rfl)
theorem ujX12_meantLocation : x_uJ yX12_meantLocation 256 := x_uJ_nd (show xMM 256 = some _ from rfl)
theorem ujX12_meantPlace : x_uJ yX12_meantPlace 257 := x_uJ_nd (show xMM 257 = some _ from rfl)
theorem ujX12_number : x_uJ yX12_number 193 := x_uJ_nd (show xMM 193 = some _ from rfl)
theorem ujX12_operands : x_uJ yX12_operands 171 := x_uJ_nd (show xMM 171 = some _ from rfl)
theorem ujX12_part : x_uJ yX12_part 186 := x_uJ_nd (show xMM 186 = some _ from rfl)
theorem ujX12_pushed : x_uJ yX12_pushed 180 := x_uJ_nd (show xMM 180 = some _ from rfl)
theorem ujX12_pushes : x_uJ yX12_pushes 174 := x_uJ_nd (show xMM 174 = some _ from rfl)
theorem ujX12_pushes_ : x_uJ yX12_pushes_ 183 := x_uJ_nd (show xMM 183 = some _ from rfl)
theorem ujX12_puts_ : x_uJ yX12_puts_ 202 := x_uJ_nd (show xMM 202 = some _ from rfl)
theorem ujX12_read : x_uJ yX12_read 167 := x_uJ_nd (show xMM 167 = some _ from rfl)
theorem ujX12_rest : x_uJ yX12_rest 175 := x_uJ_nd (show xMM 175 = some _ from rfl)
theorem ujX12_runs : x_uJ yX12_runs 190 := x_uJ_nd (show xMM 190 = some _ from rfl)
theorem ujX12_value : x_uJ yX12_value 259 := x_uJ_nd (show xMM 259 = some _ from rfl)
theorem ujX12_wants : x_uJ yX12_wants 173 := x_uJ_nd (show xMM 173 = some _ from rfl)
theorem ujX12_worked : x_uJ yX12_worked 176 := x_uJ_nd (show xMM 176 = some _ from rfl)
theorem uk_RX12_218 : ∀ v, Cond.constantLong RX12 218 v ∈ x_Ts → v = (4096 : Int64) := x_uC_tb lC_RX12 rfl
theorem uk_RX12_226 : ∀ v, Cond.constantLong RX12 226 v ∈ x_Ts → v = (-1 : Int64) := x_uC_tb lC_RX12 rfl
theorem uk_RX12_325 : ∀ v, Cond.constantLong RX12 325 v ∈ x_Ts → v = (15 : Int64) := x_uC_tb lC_RX12 rfl
theorem uk_RX12_340 : ∀ v, Cond.constantLong RX12 340 v ∈ x_Ts → v = (512 : Int64) := x_uC_tb lC_RX12 rfl
theorem uk_RX12_392 : ∀ v, Cond.constantLong RX12 392 v ∈ x_Ts → v = (-9223372036854775808 : Int64) := x_uC_tb lC_RX12 rfl
theorem uk_RX12_408 : ∀ v, Cond.constantLong RX12 408 v ∈ x_Ts → v = (4095 : Int64) := x_uC_tb lC_RX12 rfl
theorem uk_RX12_692 : ∀ v, Cond.constantLong RX12 692 v ∈ x_Ts → v = (126 : Int64) := x_uC_tb lC_RX12 rfl
theorem uk_RX12_697 : ∀ v, Cond.constantLong RX12 697 v ∈ x_Ts → v = (40 : Int64) := x_uC_tb lC_RX12 rfl
theorem uk_RX12_702 : ∀ v, Cond.constantLong RX12 702 v ∈ x_Ts → v = (5 : Int64) := x_uC_tb lC_RX12 rfl
theorem uk_RX12_707 : ∀ v, Cond.constantLong RX12 707 v ∈ x_Ts → v = (6 : Int64) := x_uC_tb lC_RX12 rfl

theorem uf_RX11_10 : x_uF RX11 10 11 5 := x_uF_tb (c0 := "LocationDesk") (n0 := "result") lF_RX11 rfl (by decide +kernel)
theorem un_RX11_10 : x_nS RX11 10 := x_nS_tb (c0 := "LocationDesk") (n0 := "result") lF_RX11 rfl (by decide +kernel)
theorem uf_RX11_102 : x_uF RX11 102 1 1 := x_uF_tb (c0 := "LocationDesk$Machine") (n0 := "memory") lF_RX11 rfl (by decide +kernel)
theorem un_RX11_102 : x_nS RX11 102 := x_nS_tb (c0 := "LocationDesk$Machine") (n0 := "memory") lF_RX11 rfl (by decide +kernel)
theorem uf_RX11_105 : x_uF RX11 105 1 4 := x_uF_tb (c0 := "LocationDesk$Machine") (n0 := "frameNumber") lF_RX11 rfl (by decide +kernel)
theorem un_RX11_105 : x_nS RX11 105 := x_nS_tb (c0 := "LocationDesk$Machine") (n0 := "frameNumber") lF_RX11 rfl (by decide +kernel)
theorem uf_RX11_108 : x_uF RX11 108 1 5 := x_uF_tb (c0 := "LocationDesk$Machine") (n0 := "cfaRegister") lF_RX11 rfl (by decide +kernel)
theorem un_RX11_108 : x_nS RX11 108 := x_nS_tb (c0 := "LocationDesk$Machine") (n0 := "cfaRegister") lF_RX11 rfl (by decide +kernel)
theorem uf_RX11_111 : x_uF RX11 111 1 6 := x_uF_tb (c0 := "LocationDesk$Machine") (n0 := "cfaOffset") lF_RX11 rfl (by decide +kernel)
theorem un_RX11_111 : x_nS RX11 111 := x_nS_tb (c0 := "LocationDesk$Machine") (n0 := "cfaOffset") lF_RX11 rfl (by decide +kernel)
theorem uf_RX11_115 : x_uF RX11 115 1 8 := x_uF_tb (c0 := "LocationDesk$Machine") (n0 := "object") lF_RX11 rfl (by decide +kernel)
theorem un_RX11_115 : x_nS RX11 115 := x_nS_tb (c0 := "LocationDesk$Machine") (n0 := "object") lF_RX11 rfl (by decide +kernel)
theorem uf_RX11_118 : x_uF RX11 118 1 7 := x_uF_tb (c0 := "LocationDesk$Machine") (n0 := "hasObject") lF_RX11 rfl (by decide +kernel)
theorem un_RX11_118 : x_nS RX11 118 := x_nS_tb (c0 := "LocationDesk$Machine") (n0 := "hasObject") lF_RX11 rfl (by decide +kernel)
theorem uf_RX11_122 : x_uF RX11 122 1 10 := x_uF_tb (c0 := "LocationDesk$Machine") (n0 := "tls") lF_RX11 rfl (by decide +kernel)
theorem un_RX11_122 : x_nS RX11 122 := x_nS_tb (c0 := "LocationDesk$Machine") (n0 := "tls") lF_RX11 rfl (by decide +kernel)
theorem uf_RX11_125 : x_uF RX11 125 1 9 := x_uF_tb (c0 := "LocationDesk$Machine") (n0 := "hasTls") lF_RX11 rfl (by decide +kernel)
theorem un_RX11_125 : x_nS RX11 125 := x_nS_tb (c0 := "LocationDesk$Machine") (n0 := "hasTls") lF_RX11 rfl (by decide +kernel)
theorem uf_RX11_143 : x_uF RX11 143 9 4 := x_uF_tb (c0 := "LocationDesk$Run") (n0 := "outcome") lF_RX11 rfl (by decide +kernel)
theorem un_RX11_143 : x_nS RX11 143 := x_nS_tb (c0 := "LocationDesk$Run") (n0 := "outcome") lF_RX11 rfl (by decide +kernel)
theorem uf_RX11_150 : x_uF RX11 150 9 9 := x_uF_tb (c0 := "LocationDesk$Run") (n0 := "place") lF_RX11 rfl (by decide +kernel)
theorem un_RX11_150 : x_nS RX11 150 := x_nS_tb (c0 := "LocationDesk$Run") (n0 := "place") lF_RX11 rfl (by decide +kernel)
theorem uf_RX11_153 : x_uF RX11 153 9 7 := x_uF_tb (c0 := "LocationDesk$Run") (n0 := "steps") lF_RX11 rfl (by decide +kernel)
theorem un_RX11_153 : x_nS RX11 153 := x_nS_tb (c0 := "LocationDesk$Run") (n0 := "steps") lF_RX11 rfl (by decide +kernel)
theorem uf_RX11_156 : x_uF RX11 156 9 8 := x_uF_tb (c0 := "LocationDesk$Run") (n0 := "most") lF_RX11 rfl (by decide +kernel)
theorem un_RX11_156 : x_nS RX11 156 := x_nS_tb (c0 := "LocationDesk$Run") (n0 := "most") lF_RX11 rfl (by decide +kernel)
theorem uf_RX11_188 : x_uF RX11 188 8 0 := x_uF_tb (c0 := "LocationDesk$Result") (n0 := "things") lF_RX11 rfl (by decide +kernel)
theorem un_RX11_188 : x_nS RX11 188 := x_nS_tb (c0 := "LocationDesk$Result") (n0 := "things") lF_RX11 rfl (by decide +kernel)
theorem uf_RX11_192 : x_uF RX11 192 5 0 := x_uF_tb (c0 := "LocationDesk$Part") (n0 := "kind") lF_RX11 rfl (by decide +kernel)
theorem un_RX11_192 : x_nS RX11 192 := x_nS_tb (c0 := "LocationDesk$Part") (n0 := "kind") lF_RX11 rfl (by decide +kernel)
theorem uf_RX11_197 : x_uF RX11 197 5 1 := x_uF_tb (c0 := "LocationDesk$Part") (n0 := "number") lF_RX11 rfl (by decide +kernel)
theorem un_RX11_197 : x_nS RX11 197 := x_nS_tb (c0 := "LocationDesk$Part") (n0 := "number") lF_RX11 rfl (by decide +kernel)
theorem uf_RX11_199 : x_uF RX11 199 5 2 := x_uF_tb (c0 := "LocationDesk$Part") (n0 := "bits") lF_RX11 rfl (by decide +kernel)
theorem un_RX11_199 : x_nS RX11 199 := x_nS_tb (c0 := "LocationDesk$Part") (n0 := "bits") lF_RX11 rfl (by decide +kernel)
theorem uf_RX11_20 : x_uF RX11 20 11 7 := x_uF_tb (c0 := "LocationDesk") (n0 := "fetched") lF_RX11 rfl (by decide +kernel)
theorem un_RX11_20 : x_nS RX11 20 := x_nS_tb (c0 := "LocationDesk") (n0 := "fetched") lF_RX11 rfl (by decide +kernel)
theorem uf_RX11_202 : x_uF RX11 202 5 3 := x_uF_tb (c0 := "LocationDesk$Part") (n0 := "first") lF_RX11 rfl (by decide +kernel)
theorem un_RX11_202 : x_nS RX11 202 := x_nS_tb (c0 := "LocationDesk$Part") (n0 := "first") lF_RX11 rfl (by decide +kernel)
theorem uf_RX11_215 : x_uF RX11 215 11 10 := x_uF_tb (c0 := "LocationDesk") (n0 := "fetchedSize") lF_RX11 rfl (by decide +kernel)
theorem un_RX11_215 : x_nS RX11 215 := x_nS_tb (c0 := "LocationDesk") (n0 := "fetchedSize") lF_RX11 rfl (by decide +kernel)
theorem uf_RX11_218 : x_uF RX11 218 8 1 := x_uF_tb (c0 := "LocationDesk$Result") (n0 := "pieces") lF_RX11 rfl (by decide +kernel)
theorem un_RX11_218 : x_nS RX11 218 := x_nS_tb (c0 := "LocationDesk$Result") (n0 := "pieces") lF_RX11 rfl (by decide +kernel)
theorem uf_RX11_275 : x_uF RX11 275 2 2 := x_uF_tb (c0 := "LocationDesk$Meaning") (n0 := "outcome") lF_RX11 rfl (by decide +kernel)
theorem un_RX11_275 : x_nS RX11 275 := x_nS_tb (c0 := "LocationDesk$Meaning") (n0 := "outcome") lF_RX11 rfl (by decide +kernel)
theorem uf_RX11_44 : x_uF RX11 44 11 1 := x_uF_tb (c0 := "LocationDesk") (n0 := "runner") lF_RX11 rfl (by decide +kernel)
theorem un_RX11_44 : x_nS RX11 44 := x_nS_tb (c0 := "LocationDesk") (n0 := "runner") lF_RX11 rfl (by decide +kernel)
theorem uf_RX11_51 : x_uF RX11 51 11 2 := x_uF_tb (c0 := "LocationDesk") (n0 := "meaning") lF_RX11 rfl (by decide +kernel)
theorem un_RX11_51 : x_nS RX11 51 := x_nS_tb (c0 := "LocationDesk") (n0 := "meaning") lF_RX11 rfl (by decide +kernel)
theorem uf_RX11_94 : x_uF RX11 94 1 0 := x_uF_tb (c0 := "LocationDesk$Machine") (n0 := "registers") lF_RX11 rfl (by decide +kernel)
theorem un_RX11_94 : x_nS RX11 94 := x_nS_tb (c0 := "LocationDesk$Machine") (n0 := "registers") lF_RX11 rfl (by decide +kernel)
theorem uf_RX1_11 : x_uF RX1 11 1 0 := x_uF_tb (c0 := "LocationDesk$Machine") (n0 := "registers") lF_RX1 rfl (by decide +kernel)
theorem un_RX1_11 : x_nS RX1 11 := x_nS_tb (c0 := "LocationDesk$Machine") (n0 := "registers") lF_RX1 rfl (by decide +kernel)
theorem uf_RX1_15 : x_uF RX1 15 1 1 := x_uF_tb (c0 := "LocationDesk$Machine") (n0 := "memory") lF_RX1 rfl (by decide +kernel)
theorem un_RX1_15 : x_nS RX1 15 := x_nS_tb (c0 := "LocationDesk$Machine") (n0 := "memory") lF_RX1 rfl (by decide +kernel)
theorem uf_RX1_31 : x_uF RX1 31 1 5 := x_uF_tb (c0 := "LocationDesk$Machine") (n0 := "cfaRegister") lF_RX1 rfl (by decide +kernel)
theorem un_RX1_31 : x_nS RX1 31 := x_nS_tb (c0 := "LocationDesk$Machine") (n0 := "cfaRegister") lF_RX1 rfl (by decide +kernel)
theorem uf_RX1_38 : x_uF RX1 38 1 6 := x_uF_tb (c0 := "LocationDesk$Machine") (n0 := "cfaOffset") lF_RX1 rfl (by decide +kernel)
theorem un_RX1_38 : x_nS RX1 38 := x_nS_tb (c0 := "LocationDesk$Machine") (n0 := "cfaOffset") lF_RX1 rfl (by decide +kernel)
theorem uf_RX1_50 : x_uF RX1 50 5 0 := x_uF_tb (c0 := "LocationDesk$Part") (n0 := "kind") lF_RX1 rfl (by decide +kernel)
theorem un_RX1_50 : x_nS RX1 50 := x_nS_tb (c0 := "LocationDesk$Part") (n0 := "kind") lF_RX1 rfl (by decide +kernel)
theorem uf_RX1_55 : x_uF RX1 55 5 1 := x_uF_tb (c0 := "LocationDesk$Part") (n0 := "number") lF_RX1 rfl (by decide +kernel)
theorem un_RX1_55 : x_nS RX1 55 := x_nS_tb (c0 := "LocationDesk$Part") (n0 := "number") lF_RX1 rfl (by decide +kernel)
theorem uf_RX2_100 : x_uF RX2 100 6 2 := x_uF_tb (c0 := "LocationDesk$Place") (n0 := "e") lF_RX2 rfl (by decide +kernel)
theorem un_RX2_100 : x_nS RX2 100 := x_nS_tb (c0 := "LocationDesk$Place") (n0 := "e") lF_RX2 rfl (by decide +kernel)
theorem uf_RX2_108 : x_uF RX2 108 6 3 := x_uF_tb (c0 := "LocationDesk$Place") (n0 := "block") lF_RX2 rfl (by decide +kernel)
theorem un_RX2_108 : x_nS RX2 108 := x_nS_tb (c0 := "LocationDesk$Place") (n0 := "block") lF_RX2 rfl (by decide +kernel)
theorem uf_RX2_116 : x_uF RX2 116 3 0 := x_uF_tb (c0 := "LocationDesk$Node") (n0 := "kind") lF_RX2 rfl (by decide +kernel)
theorem un_RX2_116 : x_nS RX2 116 := x_nS_tb (c0 := "LocationDesk$Node") (n0 := "kind") lF_RX2 rfl (by decide +kernel)
theorem uf_RX2_119 : x_uF RX2 119 3 1 := x_uF_tb (c0 := "LocationDesk$Node") (n0 := "number") lF_RX2 rfl (by decide +kernel)
theorem un_RX2_119 : x_nS RX2 119 := x_nS_tb (c0 := "LocationDesk$Node") (n0 := "number") lF_RX2 rfl (by decide +kernel)
theorem uf_RX2_12 : x_uF RX2 12 2 2 := x_uF_tb (c0 := "LocationDesk$Meaning") (n0 := "outcome") lF_RX2 rfl (by decide +kernel)
theorem un_RX2_12 : x_nS RX2 12 := x_nS_tb (c0 := "LocationDesk$Meaning") (n0 := "outcome") lF_RX2 rfl (by decide +kernel)
theorem uf_RX2_132 : x_uF RX2 132 9 15 := x_uF_tb (c0 := "LocationDesk$Run") (n0 := "basis") lF_RX2 rfl (by decide +kernel)
theorem un_RX2_132 : x_nS RX2 132 := x_nS_tb (c0 := "LocationDesk$Run") (n0 := "basis") lF_RX2 rfl (by decide +kernel)
theorem uf_RX2_139 : x_uF RX2 139 1 5 := x_uF_tb (c0 := "LocationDesk$Machine") (n0 := "cfaRegister") lF_RX2 rfl (by decide +kernel)
theorem un_RX2_139 : x_nS RX2 139 := x_nS_tb (c0 := "LocationDesk$Machine") (n0 := "cfaRegister") lF_RX2 rfl (by decide +kernel)
theorem uf_RX2_146 : x_uF RX2 146 1 7 := x_uF_tb (c0 := "LocationDesk$Machine") (n0 := "hasObject") lF_RX2 rfl (by decide +kernel)
theorem un_RX2_146 : x_nS RX2 146 := x_nS_tb (c0 := "LocationDesk$Machine") (n0 := "hasObject") lF_RX2 rfl (by decide +kernel)
theorem uf_RX2_150 : x_uF RX2 150 1 8 := x_uF_tb (c0 := "LocationDesk$Machine") (n0 := "object") lF_RX2 rfl (by decide +kernel)
theorem un_RX2_150 : x_nS RX2 150 := x_nS_tb (c0 := "LocationDesk$Machine") (n0 := "object") lF_RX2 rfl (by decide +kernel)
theorem uf_RX2_153 : x_uF RX2 153 3 3 := x_uF_tb (c0 := "LocationDesk$Node") (n0 := "first") lF_RX2 rfl (by decide +kernel)
theorem un_RX2_153 : x_nS RX2 153 := x_nS_tb (c0 := "LocationDesk$Node") (n0 := "first") lF_RX2 rfl (by decide +kernel)
theorem uf_RX2_156 : x_uF RX2 156 3 4 := x_uF_tb (c0 := "LocationDesk$Node") (n0 := "yes") lF_RX2 rfl (by decide +kernel)
theorem un_RX2_156 : x_nS RX2 156 := x_nS_tb (c0 := "LocationDesk$Node") (n0 := "yes") lF_RX2 rfl (by decide +kernel)
theorem uf_RX2_159 : x_uF RX2 159 3 5 := x_uF_tb (c0 := "LocationDesk$Node") (n0 := "no") lF_RX2 rfl (by decide +kernel)
theorem un_RX2_159 : x_nS RX2 159 := x_nS_tb (c0 := "LocationDesk$Node") (n0 := "no") lF_RX2 rfl (by decide +kernel)
theorem uf_RX2_169 : x_uF RX2 169 3 6 := x_uF_tb (c0 := "LocationDesk$Node") (n0 := "next") lF_RX2 rfl (by decide +kernel)
theorem un_RX2_169 : x_nS RX2 169 := x_nS_tb (c0 := "LocationDesk$Node") (n0 := "next") lF_RX2 rfl (by decide +kernel)
theorem uf_RX2_171 : x_uF RX2 171 3 2 := x_uF_tb (c0 := "LocationDesk$Node") (n0 := "sign") lF_RX2 rfl (by decide +kernel)
theorem un_RX2_171 : x_nS RX2 171 := x_nS_tb (c0 := "LocationDesk$Node") (n0 := "sign") lF_RX2 rfl (by decide +kernel)
theorem uf_RX2_186 : x_uF RX2 186 1 9 := x_uF_tb (c0 := "LocationDesk$Machine") (n0 := "hasTls") lF_RX2 rfl (by decide +kernel)
theorem un_RX2_186 : x_nS RX2 186 := x_nS_tb (c0 := "LocationDesk$Machine") (n0 := "hasTls") lF_RX2 rfl (by decide +kernel)
theorem uf_RX2_189 : x_uF RX2 189 1 10 := x_uF_tb (c0 := "LocationDesk$Machine") (n0 := "tls") lF_RX2 rfl (by decide +kernel)
theorem un_RX2_189 : x_nS RX2 189 := x_nS_tb (c0 := "LocationDesk$Machine") (n0 := "tls") lF_RX2 rfl (by decide +kernel)
theorem uf_RX2_21 : x_uF RX2 21 2 3 := x_uF_tb (c0 := "LocationDesk$Meaning") (n0 := "thing") lF_RX2 rfl (by decide +kernel)
theorem un_RX2_21 : x_nS RX2 21 := x_nS_tb (c0 := "LocationDesk$Meaning") (n0 := "thing") lF_RX2 rfl (by decide +kernel)
theorem uf_RX2_25 : x_uF RX2 25 2 0 := x_uF_tb (c0 := "LocationDesk$Meaning") (n0 := "machine") lF_RX2 rfl (by decide +kernel)
theorem un_RX2_25 : x_nS RX2 25 := x_nS_tb (c0 := "LocationDesk$Meaning") (n0 := "machine") lF_RX2 rfl (by decide +kernel)
theorem uf_RX2_29 : x_uF RX2 29 2 1 := x_uF_tb (c0 := "LocationDesk$Meaning") (n0 := "runner") lF_RX2 rfl (by decide +kernel)
theorem un_RX2_29 : x_nS RX2 29 := x_nS_tb (c0 := "LocationDesk$Meaning") (n0 := "runner") lF_RX2 rfl (by decide +kernel)
theorem uf_RX2_33 : x_uF RX2 33 2 4 := x_uF_tb (c0 := "LocationDesk$Meaning") (n0 := "fault") lF_RX2 rfl (by decide +kernel)
theorem un_RX2_33 : x_nS RX2 33 := x_nS_tb (c0 := "LocationDesk$Meaning") (n0 := "fault") lF_RX2 rfl (by decide +kernel)
theorem uf_RX2_48 : x_uF RX2 48 6 4 := x_uF_tb (c0 := "LocationDesk$Place") (n0 := "bytes") lF_RX2 rfl (by decide +kernel)
theorem un_RX2_48 : x_nS RX2 48 := x_nS_tb (c0 := "LocationDesk$Place") (n0 := "bytes") lF_RX2 rfl (by decide +kernel)
theorem uf_RX2_65 : x_uF RX2 65 6 5 := x_uF_tb (c0 := "LocationDesk$Place") (n0 := "next") lF_RX2 rfl (by decide +kernel)
theorem un_RX2_65 : x_nS RX2 65 := x_nS_tb (c0 := "LocationDesk$Place") (n0 := "next") lF_RX2 rfl (by decide +kernel)
theorem uf_RX2_69 : x_uF RX2 69 10 5 := x_uF_tb (c0 := "LocationDesk$Variable") (n0 := "rows") lF_RX2 rfl (by decide +kernel)
theorem un_RX2_69 : x_nS RX2 69 := x_nS_tb (c0 := "LocationDesk$Variable") (n0 := "rows") lF_RX2 rfl (by decide +kernel)
theorem uf_RX2_74 : x_uF RX2 74 10 4 := x_uF_tb (c0 := "LocationDesk$Variable") (n0 := "places") lF_RX2 rfl (by decide +kernel)
theorem un_RX2_74 : x_nS RX2 74 := x_nS_tb (c0 := "LocationDesk$Variable") (n0 := "places") lF_RX2 rfl (by decide +kernel)
theorem uf_RX2_78 : x_uF RX2 78 10 2 := x_uF_tb (c0 := "LocationDesk$Variable") (n0 := "from") lF_RX2 rfl (by decide +kernel)
theorem un_RX2_78 : x_nS RX2 78 := x_nS_tb (c0 := "LocationDesk$Variable") (n0 := "from") lF_RX2 rfl (by decide +kernel)
theorem uf_RX2_86 : x_uF RX2 86 10 3 := x_uF_tb (c0 := "LocationDesk$Variable") (n0 := "to") lF_RX2 rfl (by decide +kernel)
theorem un_RX2_86 : x_nS RX2 86 := x_nS_tb (c0 := "LocationDesk$Variable") (n0 := "to") lF_RX2 rfl (by decide +kernel)
theorem uf_RX2_89 : x_uF RX2 89 6 0 := x_uF_tb (c0 := "LocationDesk$Place") (n0 := "kind") lF_RX2 rfl (by decide +kernel)
theorem un_RX2_89 : x_nS RX2 89 := x_nS_tb (c0 := "LocationDesk$Place") (n0 := "kind") lF_RX2 rfl (by decide +kernel)
theorem uf_RX2_92 : x_uF RX2 92 6 1 := x_uF_tb (c0 := "LocationDesk$Place") (n0 := "number") lF_RX2 rfl (by decide +kernel)
theorem un_RX2_92 : x_nS RX2 92 := x_nS_tb (c0 := "LocationDesk$Place") (n0 := "number") lF_RX2 rfl (by decide +kernel)
theorem uf_RX5_15 : x_uF RX5 15 5 1 := x_uF_tb (c0 := "LocationDesk$Part") (n0 := "number") lF_RX5 rfl (by decide +kernel)
theorem un_RX5_15 : x_nS RX5 15 := x_nS_tb (c0 := "LocationDesk$Part") (n0 := "number") lF_RX5 rfl (by decide +kernel)
theorem uf_RX5_19 : x_uF RX5 19 5 2 := x_uF_tb (c0 := "LocationDesk$Part") (n0 := "bits") lF_RX5 rfl (by decide +kernel)
theorem un_RX5_19 : x_nS RX5 19 := x_nS_tb (c0 := "LocationDesk$Part") (n0 := "bits") lF_RX5 rfl (by decide +kernel)
theorem uf_RX5_22 : x_uF RX5 22 5 3 := x_uF_tb (c0 := "LocationDesk$Part") (n0 := "first") lF_RX5 rfl (by decide +kernel)
theorem un_RX5_22 : x_nS RX5 22 := x_nS_tb (c0 := "LocationDesk$Part") (n0 := "first") lF_RX5 rfl (by decide +kernel)
theorem uf_RX5_29 : x_uF RX5 29 5 4 := x_uF_tb (c0 := "LocationDesk$Part") (n0 := "block") lF_RX5 rfl (by decide +kernel)
theorem un_RX5_29 : x_nS RX5 29 := x_nS_tb (c0 := "LocationDesk$Part") (n0 := "block") lF_RX5 rfl (by decide +kernel)
theorem uf_RX5_33 : x_uF RX5 33 5 5 := x_uF_tb (c0 := "LocationDesk$Part") (n0 := "blockFrom") lF_RX5 rfl (by decide +kernel)
theorem un_RX5_33 : x_nS RX5 33 := x_nS_tb (c0 := "LocationDesk$Part") (n0 := "blockFrom") lF_RX5 rfl (by decide +kernel)
theorem uf_RX5_9 : x_uF RX5 9 5 0 := x_uF_tb (c0 := "LocationDesk$Part") (n0 := "kind") lF_RX5 rfl (by decide +kernel)
theorem un_RX5_9 : x_nS RX5 9 := x_nS_tb (c0 := "LocationDesk$Part") (n0 := "kind") lF_RX5 rfl (by decide +kernel)
theorem uf_RX8_13 : x_uF RX8 13 8 0 := x_uF_tb (c0 := "LocationDesk$Result") (n0 := "things") lF_RX8 rfl (by decide +kernel)
theorem un_RX8_13 : x_nS RX8 13 := x_nS_tb (c0 := "LocationDesk$Result") (n0 := "things") lF_RX8 rfl (by decide +kernel)
theorem uf_RX8_18 : x_uF RX8 18 8 1 := x_uF_tb (c0 := "LocationDesk$Result") (n0 := "pieces") lF_RX8 rfl (by decide +kernel)
theorem un_RX8_18 : x_nS RX8 18 := x_nS_tb (c0 := "LocationDesk$Result") (n0 := "pieces") lF_RX8 rfl (by decide +kernel)
theorem uf_RX8_22 : x_uF RX8 22 8 2 := x_uF_tb (c0 := "LocationDesk$Result") (n0 := "bits") lF_RX8 rfl (by decide +kernel)
theorem un_RX8_22 : x_nS RX8 22 := x_nS_tb (c0 := "LocationDesk$Result") (n0 := "bits") lF_RX8 rfl (by decide +kernel)
theorem uf_RX8_41 : x_uF RX8 41 5 2 := x_uF_tb (c0 := "LocationDesk$Part") (n0 := "bits") lF_RX8 rfl (by decide +kernel)
theorem un_RX8_41 : x_nS RX8 41 := x_nS_tb (c0 := "LocationDesk$Part") (n0 := "bits") lF_RX8 rfl (by decide +kernel)
theorem uf_RX8_42 : x_uF RX8 42 5 3 := x_uF_tb (c0 := "LocationDesk$Part") (n0 := "first") lF_RX8 rfl (by decide +kernel)
theorem un_RX8_42 : x_nS RX8 42 := x_nS_tb (c0 := "LocationDesk$Part") (n0 := "first") lF_RX8 rfl (by decide +kernel)
theorem uf_RX9_11 : x_uF RX9 11 9 2 := x_uF_tb (c0 := "LocationDesk$Run") (n0 := "stack") lF_RX9 rfl (by decide +kernel)
theorem un_RX9_11 : x_nS RX9 11 := x_nS_tb (c0 := "LocationDesk$Run") (n0 := "stack") lF_RX9 rfl (by decide +kernel)
theorem uf_RX9_115 : x_uF RX9 115 9 14 := x_uF_tb (c0 := "LocationDesk$Run") (n0 := "leb") lF_RX9 rfl (by decide +kernel)
theorem un_RX9_115 : x_nS RX9 115 := x_nS_tb (c0 := "LocationDesk$Run") (n0 := "leb") lF_RX9 rfl (by decide +kernel)
theorem uf_RX9_118 : x_uF RX9 118 9 13 := x_uF_tb (c0 := "LocationDesk$Run") (n0 := "second") lF_RX9 rfl (by decide +kernel)
theorem un_RX9_118 : x_nS RX9 118 := x_nS_tb (c0 := "LocationDesk$Run") (n0 := "second") lF_RX9 rfl (by decide +kernel)
theorem uf_RX9_127 : x_uF RX9 127 5 0 := x_uF_tb (c0 := "LocationDesk$Part") (n0 := "kind") lF_RX9 rfl (by decide +kernel)
theorem un_RX9_127 : x_nS RX9 127 := x_nS_tb (c0 := "LocationDesk$Part") (n0 := "kind") lF_RX9 rfl (by decide +kernel)
theorem uf_RX9_146 : x_uF RX9 146 8 1 := x_uF_tb (c0 := "LocationDesk$Result") (n0 := "pieces") lF_RX9 rfl (by decide +kernel)
theorem un_RX9_146 : x_nS RX9 146 := x_nS_tb (c0 := "LocationDesk$Result") (n0 := "pieces") lF_RX9 rfl (by decide +kernel)
theorem uf_RX9_151 : x_uF RX9 151 8 2 := x_uF_tb (c0 := "LocationDesk$Result") (n0 := "bits") lF_RX9 rfl (by decide +kernel)
theorem un_RX9_151 : x_nS RX9 151 := x_nS_tb (c0 := "LocationDesk$Result") (n0 := "bits") lF_RX9 rfl (by decide +kernel)
theorem uf_RX9_154 : x_uF RX9 154 1 2 := x_uF_tb (c0 := "LocationDesk$Machine") (n0 := "expressions") lF_RX9 rfl (by decide +kernel)
theorem un_RX9_154 : x_nS RX9 154 := x_nS_tb (c0 := "LocationDesk$Machine") (n0 := "expressions") lF_RX9 rfl (by decide +kernel)
theorem uf_RX9_18 : x_uF RX9 18 9 3 := x_uF_tb (c0 := "LocationDesk$Run") (n0 := "hold") lF_RX9 rfl (by decide +kernel)
theorem un_RX9_18 : x_nS RX9 18 := x_nS_tb (c0 := "LocationDesk$Run") (n0 := "hold") lF_RX9 rfl (by decide +kernel)
theorem uf_RX9_212 : x_uF RX9 212 9 15 := x_uF_tb (c0 := "LocationDesk$Run") (n0 := "basis") lF_RX9 rfl (by decide +kernel)
theorem un_RX9_212 : x_nS RX9 212 := x_nS_tb (c0 := "LocationDesk$Run") (n0 := "basis") lF_RX9 rfl (by decide +kernel)
theorem uf_RX9_215 : x_uF RX9 215 1 7 := x_uF_tb (c0 := "LocationDesk$Machine") (n0 := "hasObject") lF_RX9 rfl (by decide +kernel)
theorem un_RX9_215 : x_nS RX9 215 := x_nS_tb (c0 := "LocationDesk$Machine") (n0 := "hasObject") lF_RX9 rfl (by decide +kernel)
theorem uf_RX9_219 : x_uF RX9 219 1 8 := x_uF_tb (c0 := "LocationDesk$Machine") (n0 := "object") lF_RX9 rfl (by decide +kernel)
theorem un_RX9_219 : x_nS RX9 219 := x_nS_tb (c0 := "LocationDesk$Machine") (n0 := "object") lF_RX9 rfl (by decide +kernel)
theorem uf_RX9_222 : x_uF RX9 222 1 9 := x_uF_tb (c0 := "LocationDesk$Machine") (n0 := "hasTls") lF_RX9 rfl (by decide +kernel)
theorem un_RX9_222 : x_nS RX9 222 := x_nS_tb (c0 := "LocationDesk$Machine") (n0 := "hasTls") lF_RX9 rfl (by decide +kernel)
theorem uf_RX9_225 : x_uF RX9 225 1 10 := x_uF_tb (c0 := "LocationDesk$Machine") (n0 := "tls") lF_RX9 rfl (by decide +kernel)
theorem un_RX9_225 : x_nS RX9 225 := x_nS_tb (c0 := "LocationDesk$Machine") (n0 := "tls") lF_RX9 rfl (by decide +kernel)
theorem uf_RX9_228 : x_uF RX9 228 1 5 := x_uF_tb (c0 := "LocationDesk$Machine") (n0 := "cfaRegister") lF_RX9 rfl (by decide +kernel)
theorem un_RX9_228 : x_nS RX9 228 := x_nS_tb (c0 := "LocationDesk$Machine") (n0 := "cfaRegister") lF_RX9 rfl (by decide +kernel)
theorem uf_RX9_25 : x_uF RX9 25 9 4 := x_uF_tb (c0 := "LocationDesk$Run") (n0 := "outcome") lF_RX9 rfl (by decide +kernel)
theorem un_RX9_25 : x_nS RX9 25 := x_nS_tb (c0 := "LocationDesk$Run") (n0 := "outcome") lF_RX9 rfl (by decide +kernel)
theorem uf_RX9_252 : x_uF RX9 252 1 4 := x_uF_tb (c0 := "LocationDesk$Machine") (n0 := "frameNumber") lF_RX9 rfl (by decide +kernel)
theorem un_RX9_252 : x_nS RX9 252 := x_nS_tb (c0 := "LocationDesk$Machine") (n0 := "frameNumber") lF_RX9 rfl (by decide +kernel)
theorem uf_RX9_259 : x_uF RX9 259 5 1 := x_uF_tb (c0 := "LocationDesk$Part") (n0 := "number") lF_RX9 rfl (by decide +kernel)
theorem un_RX9_259 : x_nS RX9 259 := x_nS_tb (c0 := "LocationDesk$Part") (n0 := "number") lF_RX9 rfl (by decide +kernel)
theorem uf_RX9_29 : x_uF RX9 29 9 0 := x_uF_tb (c0 := "LocationDesk$Run") (n0 := "machine") lF_RX9 rfl (by decide +kernel)
theorem un_RX9_29 : x_nS RX9 29 := x_nS_tb (c0 := "LocationDesk$Run") (n0 := "machine") lF_RX9 rfl (by decide +kernel)
theorem uf_RX9_33 : x_uF RX9 33 9 1 := x_uF_tb (c0 := "LocationDesk$Run") (n0 := "inner") lF_RX9 rfl (by decide +kernel)
theorem un_RX9_33 : x_nS RX9 33 := x_nS_tb (c0 := "LocationDesk$Run") (n0 := "inner") lF_RX9 rfl (by decide +kernel)
theorem uf_RX9_49 : x_uF RX9 49 9 9 := x_uF_tb (c0 := "LocationDesk$Run") (n0 := "place") lF_RX9 rfl (by decide +kernel)
theorem un_RX9_49 : x_nS RX9 49 := x_nS_tb (c0 := "LocationDesk$Run") (n0 := "place") lF_RX9 rfl (by decide +kernel)
theorem uf_RX9_53 : x_uF RX9 53 9 6 := x_uF_tb (c0 := "LocationDesk$Run") (n0 := "fuel") lF_RX9 rfl (by decide +kernel)
theorem un_RX9_53 : x_nS RX9 53 := x_nS_tb (c0 := "LocationDesk$Run") (n0 := "fuel") lF_RX9 rfl (by decide +kernel)
theorem uf_RX9_56 : x_uF RX9 56 9 7 := x_uF_tb (c0 := "LocationDesk$Run") (n0 := "steps") lF_RX9 rfl (by decide +kernel)
theorem un_RX9_56 : x_nS RX9 56 := x_nS_tb (c0 := "LocationDesk$Run") (n0 := "steps") lF_RX9 rfl (by decide +kernel)
theorem uf_RX9_59 : x_uF RX9 59 9 8 := x_uF_tb (c0 := "LocationDesk$Run") (n0 := "most") lF_RX9 rfl (by decide +kernel)
theorem un_RX9_59 : x_nS RX9 59 := x_nS_tb (c0 := "LocationDesk$Run") (n0 := "most") lF_RX9 rfl (by decide +kernel)
theorem uf_RX9_62 : x_uF RX9 62 9 5 := x_uF_tb (c0 := "LocationDesk$Run") (n0 := "size") lF_RX9 rfl (by decide +kernel)
theorem un_RX9_62 : x_nS RX9 62 := x_nS_tb (c0 := "LocationDesk$Run") (n0 := "size") lF_RX9 rfl (by decide +kernel)
theorem uf_RX9_75 : x_uF RX9 75 9 11 := x_uF_tb (c0 := "LocationDesk$Run") (n0 := "target") lF_RX9 rfl (by decide +kernel)
theorem un_RX9_75 : x_nS RX9 75 := x_nS_tb (c0 := "LocationDesk$Run") (n0 := "target") lF_RX9 rfl (by decide +kernel)
theorem uf_RX9_78 : x_uF RX9 78 9 10 := x_uF_tb (c0 := "LocationDesk$Run") (n0 := "cursor") lF_RX9 rfl (by decide +kernel)
theorem un_RX9_78 : x_nS RX9 78 := x_nS_tb (c0 := "LocationDesk$Run") (n0 := "cursor") lF_RX9 rfl (by decide +kernel)
theorem uf_RX9_96 : x_uF RX9 96 9 12 := x_uF_tb (c0 := "LocationDesk$Run") (n0 := "operand") lF_RX9 rfl (by decide +kernel)
theorem un_RX9_96 : x_nS RX9 96 := x_nS_tb (c0 := "LocationDesk$Run") (n0 := "operand") lF_RX9 rfl (by decide +kernel)
theorem um_RX11_128 : x_uM RX11 128 yX11_isFuel := x_uM_tb lM_RX11 rfl
theorem um_RX11_132 : x_uM RX11 132 yX11_runBytes := x_uM_tb lM_RX11 rfl
theorem um_RX11_136 : x_uM RX11 136 yX11_search := x_uM_tb lM_RX11 rfl
theorem um_RX11_140 : x_uM RX11 140 yX9_start := x_uM_tb lM_RX11 rfl
theorem um_RX11_146 : x_uM RX11 146 yX8_take := x_uM_tb lM_RX11 rfl
theorem um_RX11_163 : x_uM RX11 163 yX11_endless := x_uM_tb lM_RX11 rfl
theorem um_RX11_167 : x_uM RX11 167 yX11_number := x_uM_tb lM_RX11 rfl
theorem um_RX11_173 : x_uM RX11 173 yX11_isBelow := x_uM_tb lM_RX11 rfl
theorem um_RX11_177 : x_uM RX11 177 yX8_clear := x_uM_tb lM_RX11 rfl
theorem um_RX11_184 : x_uM RX11 184 yX8_count := x_uM_tb lM_RX11 rfl
theorem um_RX11_207 : x_uM RX11 207 yX5_blockByte := x_uM_tb lM_RX11 rfl
theorem um_RX11_211 : x_uM RX11 211 yJ7_fill_53178 := x_uM_tb lM_RX11 rfl
theorem um_RX11_221 : x_uM RX11 221 yX1_bitOf := x_uM_tb lM_RX11 rfl
theorem um_RX11_225 : x_uM RX11 225 yX1_putBit := x_uM_tb lM_RX11 rfl
theorem um_RX11_271 : x_uM RX11 271 yX2_say := x_uM_tb lM_RX11 rfl
theorem um_RX11_98 : x_uM RX11 98 yX1_registerValue := x_uM_tb lM_RX11 rfl
theorem um_RX1_34 : x_uM RX1 34 yX1_registerValue := x_uM_tb lM_RX1 rfl
theorem um_RX1_42 : x_uM RX1 42 yX1_hasBytes := x_uM_tb lM_RX1 rfl
theorem um_RX1_46 : x_uM RX1 46 yX11_number := x_uM_tb lM_RX1 rfl
theorem um_RX1_57 : x_uM RX1 57 yX5_blockByte := x_uM_tb lM_RX1 rfl
theorem um_RX2_104 : x_uM RX2 104 yX2_value := x_uM_tb lM_RX2 rfl
theorem um_RX2_112 : x_uM RX2 112 yX5_becomeBlock := x_uM_tb lM_RX2 rfl
theorem um_RX2_120 : x_uM RX2 120 yX1_registerValue := x_uM_tb lM_RX2 rfl
theorem um_RX2_126 : x_uM RX2 126 yX9_base := x_uM_tb lM_RX2 rfl
theorem um_RX2_135 : x_uM RX2 135 yX2_fail := x_uM_tb lM_RX2 rfl
theorem um_RX2_142 : x_uM RX2 142 yX1_cfaValue := x_uM_tb lM_RX2 rfl
theorem um_RX2_162 : x_uM RX2 162 yX2_chainValue := x_uM_tb lM_RX2 rfl
theorem um_RX2_165 : x_uM RX2 165 yX2_unaryValue := x_uM_tb lM_RX2 rfl
theorem um_RX2_174 : x_uM RX2 174 yX4_operationOf := x_uM_tb lM_RX2 rfl
theorem um_RX2_180 : x_uM RX2 180 yX9_joined := x_uM_tb lM_RX2 rfl
theorem um_RX2_192 : x_uM RX2 192 yX1_hasBytes := x_uM_tb lM_RX2 rfl
theorem um_RX2_196 : x_uM RX2 196 yX1_bytes := x_uM_tb lM_RX2 rfl
theorem um_RX2_37 : x_uM RX2 37 yX8_clear := x_uM_tb lM_RX2 rfl
theorem um_RX2_40 : x_uM RX2 40 yX2_placeFor := x_uM_tb lM_RX2 rfl
theorem um_RX2_44 : x_uM RX2 44 yX2_meet := x_uM_tb lM_RX2 rfl
theorem um_RX2_53 : x_uM RX2 53 yX8_only := x_uM_tb lM_RX2 rfl
theorem um_RX2_57 : x_uM RX2 57 yX5_take := x_uM_tb lM_RX2 rfl
theorem um_RX2_61 : x_uM RX2 61 yX8_addPiece := x_uM_tb lM_RX2 rfl
theorem um_RX2_82 : x_uM RX2 82 yX11_isBelow := x_uM_tb lM_RX2 rfl
theorem um_RX2_96 : x_uM RX2 96 yX5_become := x_uM_tb lM_RX2 rfl
theorem um_RX5_25 : x_uM RX5 25 yX5_become := x_uM_tb lM_RX5 rfl
theorem um_RX5_36 : x_uM RX5 36 yX11_byteAt := x_uM_tb lM_RX5 rfl
theorem um_RX8_25 : x_uM RX8 25 yX8_only := x_uM_tb lM_RX8 rfl
theorem um_RX8_29 : x_uM RX8 29 yX5_become := x_uM_tb lM_RX8 rfl
theorem um_RX8_33 : x_uM RX8 33 yX8_count := x_uM_tb lM_RX8 rfl
theorem um_RX8_37 : x_uM RX8 37 yX5_take := x_uM_tb lM_RX8 rfl
theorem um_RX9_100 : x_uM RX9 100 yX9_call := x_uM_tb lM_RX9 rfl
theorem um_RX9_104 : x_uM RX9 104 yX9_operate := x_uM_tb lM_RX9 rfl
theorem um_RX9_108 : x_uM RX9 108 yX9_readNumber := x_uM_tb lM_RX9 rfl
theorem um_RX9_111 : x_uM RX9 111 yX9_readLeb := x_uM_tb lM_RX9 rfl
theorem um_RX9_121 : x_uM RX9 121 yX11_number := x_uM_tb lM_RX9 rfl
theorem um_RX9_130 : x_uM RX9 130 yX9_goesWithHold := x_uM_tb lM_RX9 rfl
theorem um_RX9_140 : x_uM RX9 140 yX9_isTooMuch := x_uM_tb lM_RX9 rfl
theorem um_RX9_143 : x_uM RX9 143 yX9_wanted := x_uM_tb lM_RX9 rfl
theorem um_RX9_158 : x_uM RX9 158 yX9_push := x_uM_tb lM_RX9 rfl
theorem um_RX9_162 : x_uM RX9 162 yX1_registerValue := x_uM_tb lM_RX9 rfl
theorem um_RX9_166 : x_uM RX9 166 yX9_shuffle := x_uM_tb lM_RX9 rfl
theorem um_RX9_169 : x_uM RX9 169 yX9_changed := x_uM_tb lM_RX9 rfl
theorem um_RX9_173 : x_uM RX9 173 yX9_joined := x_uM_tb lM_RX9 rfl
theorem um_RX9_177 : x_uM RX9 177 yX9_addPiece := x_uM_tb lM_RX9 rfl
theorem um_RX9_181 : x_uM RX9 181 yX9_keep := x_uM_tb lM_RX9 rfl
theorem um_RX9_185 : x_uM RX9 185 yX9_ask := x_uM_tb lM_RX9 rfl
theorem um_RX9_188 : x_uM RX9 188 yJ9_max_7cf53 := x_uM_tb lM_RX9 rfl
theorem um_RX9_193 : x_uM RX9 193 yX1_hasBytes := x_uM_tb lM_RX9 rfl
theorem um_RX9_197 : x_uM RX9 197 yX1_bytes := x_uM_tb lM_RX9 rfl
theorem um_RX9_201 : x_uM RX9 201 yX9_below := x_uM_tb lM_RX9 rfl
theorem um_RX9_205 : x_uM RX9 205 yX9_pushBytes := x_uM_tb lM_RX9 rfl
theorem um_RX9_208 : x_uM RX9 208 yX9_base := x_uM_tb lM_RX9 rfl
theorem um_RX9_231 : x_uM RX9 231 yX1_cfaValue := x_uM_tb lM_RX9 rfl
theorem um_RX9_234 : x_uM RX9 234 yX5_becomeBlock := x_uM_tb lM_RX9 rfl
theorem um_RX9_238 : x_uM RX9 238 yX9_holdTop := x_uM_tb lM_RX9 rfl
theorem um_RX9_241 : x_uM RX9 241 yX8_addPiece := x_uM_tb lM_RX9 rfl
theorem um_RX9_244 : x_uM RX9 244 yX8_only := x_uM_tb lM_RX9 rfl
theorem um_RX9_248 : x_uM RX9 248 yX5_take := x_uM_tb lM_RX9 rfl
theorem um_RX9_255 : x_uM RX9 255 yX9_takeBase := x_uM_tb lM_RX9 rfl
theorem um_RX9_261 : x_uM RX9 261 yX9_restWithoutSign := x_uM_tb lM_RX9 rfl
theorem um_RX9_265 : x_uM RX9 265 yX9_shifted := x_uM_tb lM_RX9 rfl
theorem um_RX9_268 : x_uM RX9 268 yX9_compared := x_uM_tb lM_RX9 rfl
theorem um_RX9_274 : x_uM RX9 274 yX11_isBelow := x_uM_tb lM_RX9 rfl
theorem um_RX9_37 : x_uM RX9 37 yX9_reset := x_uM_tb lM_RX9 rfl
theorem um_RX9_41 : x_uM RX9 41 yX9_perform := x_uM_tb lM_RX9 rfl
theorem um_RX9_45 : x_uM RX9 45 yX9_settle := x_uM_tb lM_RX9 rfl
theorem um_RX9_65 : x_uM RX9 65 yX5_become := x_uM_tb lM_RX9 rfl
theorem um_RX9_69 : x_uM RX9 69 yX8_clear := x_uM_tb lM_RX9 rfl
theorem um_RX9_72 : x_uM RX9 72 yX9_step := x_uM_tb lM_RX9 rfl
theorem um_RX9_81 : x_uM RX9 81 yX9_shape := x_uM_tb lM_RX9 rfl
theorem um_RX9_85 : x_uM RX9 85 yX9_readOperands := x_uM_tb lM_RX9 rfl
theorem um_RX9_89 : x_uM RX9 89 yX9_check := x_uM_tb lM_RX9 rfl
theorem um_RX9_92 : x_uM RX9 92 yX9_pop := x_uM_tb lM_RX9 rfl
theorem ujJ7_fill_53178 : x_uJ yJ7_fill_53178 298 := x_uJ_nd (show xMM 298 = some _ from rfl)
theorem ujX11_endless : x_uJ yX11_endless 136 := x_uJ_nd (show xMM 136 = some _ from rfl)
theorem ujX11_isBelow : x_uJ yX11_isBelow 138 := x_uJ_nd (show xMM 138 = some _ from rfl)
theorem ujX11_isFuel : x_uJ yX11_isFuel 133 := x_uJ_nd (show xMM 133 = some _ from rfl)
theorem ujX11_number : x_uJ yX11_number 139 := x_uJ_nd (show xMM 139 = some _ from rfl)
theorem ujX11_runBytes : x_uJ yX11_runBytes 134 := x_uJ_nd (show xMM 134 = some _ from rfl)
theorem ujX11_search : x_uJ yX11_search 135 := x_uJ_nd (show xMM 135 = some _ from rfl)
theorem ujX1_bitOf : x_uJ yX1_bitOf 24 := x_uJ_nd (show xMM 24 = some _ from rfl)
theorem ujX1_bytes : x_uJ yX1_bytes 23 := x_uJ_nd (show xMM 23 = some _ from rfl)
theorem ujX1_cfaValue : x_uJ yX1_cfaValue 21 := x_uJ_nd (show xMM 21 = some _ from rfl)
theorem ujX1_hasBytes : x_uJ yX1_hasBytes 22 := x_uJ_nd (show xMM 22 = some _ from rfl)
theorem ujX1_putBit : x_uJ yX1_putBit 25 := x_uJ_nd (show xMM 25 = some _ from rfl)
theorem ujX1_registerValue : x_uJ yX1_registerValue 20 := x_uJ_nd (show xMM 20 = some _ from rfl)
theorem ujX2_chainValue : x_uJ yX2_chainValue 32 := x_uJ_nd (show xMM 32 = some _ from rfl)
theorem ujX2_fail : x_uJ yX2_fail 31 := x_uJ_nd (show xMM 31 = some _ from rfl)
theorem ujX2_meet : x_uJ yX2_meet 29 := x_uJ_nd (show xMM 29 = some _ from rfl)
theorem ujX2_placeFor : x_uJ yX2_placeFor 28 := x_uJ_nd (show xMM 28 = some _ from rfl)
theorem ujX2_say : x_uJ yX2_say 27 := x_uJ_nd (show xMM 27 = some _ from rfl)
theorem ujX2_unaryValue : x_uJ yX2_unaryValue 33 := x_uJ_nd (show xMM 33 = some _ from rfl)
theorem ujX2_value : x_uJ yX2_value 30 := x_uJ_nd (show xMM 30 = some _ from rfl)
theorem ujX5_become : x_uJ yX5_become 59 := x_uJ_nd (show xMM 59 = some _ from rfl)
theorem ujX5_becomeBlock : x_uJ yX5_becomeBlock 60 := x_uJ_nd (show xMM 60 = some _ from rfl)
theorem ujX5_blockByte : x_uJ yX5_blockByte 62 := x_uJ_nd (show xMM 62 = some _ from rfl)
theorem ujX5_take : x_uJ yX5_take 61 := x_uJ_nd (show xMM 61 = some _ from rfl)
theorem ujX8_addPiece : x_uJ yX8_addPiece 83 := x_uJ_nd (show xMM 83 = some _ from rfl)
theorem ujX8_clear : x_uJ yX8_clear 81 := x_uJ_nd (show xMM 81 = some _ from rfl)
theorem ujX8_count : x_uJ yX8_count 79 := x_uJ_nd (show xMM 79 = some _ from rfl)
theorem ujX8_only : x_uJ yX8_only 80 := x_uJ_nd (show xMM 80 = some _ from rfl)
theorem ujX8_take : x_uJ yX8_take 82 := x_uJ_nd (show xMM 82 = some _ from rfl)
theorem ujX9_addPiece : x_uJ yX9_addPiece 107 := x_uJ_nd (show xMM 107 = some _ from rfl)
theorem ujX9_ask : x_uJ yX9_ask 105 := x_uJ_nd (show xMM 105 = some _ from rfl)
theorem ujX9_base : x_uJ yX9_base 110 := x_uJ_nd (show xMM 110 = some _ from rfl)
theorem ujX9_below : x_uJ yX9_below 102 := x_uJ_nd (show xMM 102 = some _ from rfl)
theorem ujX9_call : x_uJ yX9_call 97 := x_uJ_nd (show xMM 97 = some _ from rfl)
theorem ujX9_changed : x_uJ yX9_changed 104 := x_uJ_nd (show xMM 104 = some _ from rfl)
theorem ujX9_check : x_uJ yX9_check 93 := x_uJ_nd (show xMM 93 = some _ from rfl)
theorem ujX9_compared : x_uJ yX9_compared 114 := x_uJ_nd (show xMM 114 = some _ from rfl)
theorem ujX9_goesWithHold : x_uJ yX9_goesWithHold 94 := x_uJ_nd (show xMM 94 = some _ from rfl)
theorem ujX9_holdTop : x_uJ yX9_holdTop 108 := x_uJ_nd (show xMM 108 = some _ from rfl)
theorem ujX9_isTooMuch : x_uJ yX9_isTooMuch 95 := x_uJ_nd (show xMM 95 = some _ from rfl)
theorem ujX9_joined : x_uJ yX9_joined 112 := x_uJ_nd (show xMM 112 = some _ from rfl)
theorem ujX9_keep : x_uJ yX9_keep 106 := x_uJ_nd (show xMM 106 = some _ from rfl)
theorem ujX9_operate : x_uJ yX9_operate 98 := x_uJ_nd (show xMM 98 = some _ from rfl)
theorem ujX9_perform : x_uJ yX9_perform 87 := x_uJ_nd (show xMM 87 = some _ from rfl)
theorem ujX9_pop : x_uJ yX9_pop 101 := x_uJ_nd (show xMM 101 = some _ from rfl)
theorem ujX9_push : x_uJ yX9_push 99 := x_uJ_nd (show xMM 99 = some _ from rfl)
theorem ujX9_pushBytes : x_uJ yX9_pushBytes 100 := x_uJ_nd (show xMM 100 = some _ from rfl)
theorem ujX9_readLeb : x_uJ yX9_readLeb 92 := x_uJ_nd (show xMM 92 = some _ from rfl)
theorem ujX9_readNumber : x_uJ yX9_readNumber 91 := x_uJ_nd (show xMM 91 = some _ from rfl)
theorem ujX9_readOperands : x_uJ yX9_readOperands 90 := x_uJ_nd (show xMM 90 = some _ from rfl)
theorem ujX9_reset : x_uJ yX9_reset 86 := x_uJ_nd (show xMM 86 = some _ from rfl)
theorem ujX9_restWithoutSign : x_uJ yX9_restWithoutSign 115 := x_uJ_nd (show xMM 115 = some _ from rfl)
theorem ujX9_settle : x_uJ yX9_settle 109 := x_uJ_nd (show xMM 109 = some _ from rfl)
theorem ujX9_shape : x_uJ yX9_shape 89 := x_uJ_nd (show xMM 89 = some _ from rfl)
theorem ujX9_shifted : x_uJ yX9_shifted 113 := x_uJ_nd (show xMM 113 = some _ from rfl)
theorem ujX9_shuffle : x_uJ yX9_shuffle 103 := x_uJ_nd (show xMM 103 = some _ from rfl)
theorem ujX9_start : x_uJ yX9_start 85 := x_uJ_nd (show xMM 85 = some _ from rfl)
theorem ujX9_step : x_uJ yX9_step 88 := x_uJ_nd (show xMM 88 = some _ from rfl)
theorem ujX9_takeBase : x_uJ yX9_takeBase 111 := x_uJ_nd (show xMM 111 = some _ from rfl)
theorem ujX9_wanted : x_uJ yX9_wanted 96 := x_uJ_nd (show xMM 96 = some _ from rfl)
theorem uk_RX11_171 : ∀ v, Cond.constantLong RX11 171 v ∈ x_Ts → v = (-1 : Int64) := x_uC_tb lC_RX11 rfl
theorem uk_RX11_182 : ∀ v, Cond.constantLong RX11 182 v ∈ x_Ts → v = (-9223372036854775808 : Int64) := x_uC_tb lC_RX11 rfl
theorem uk_RX1_61 : ∀ v, Cond.constantLong RX1 61 v ∈ x_Ts → v = (-1 : Int64) := x_uC_tb lC_RX1 rfl
theorem uk_RX2_184 : ∀ v, Cond.constantLong RX2 184 v ∈ x_Ts → v = (-1 : Int64) := x_uC_tb lC_RX2 rfl
theorem uk_RX9_125 : ∀ v, Cond.constantLong RX9 125 v ∈ x_Ts → v = (-1 : Int64) := x_uC_tb lC_RX9 rfl
theorem uk_RX9_136 : ∀ v, Cond.constantLong RX9 136 v ∈ x_Ts → v = (32 : Int64) := x_uC_tb lC_RX9 rfl
theorem uk_RX9_138 : ∀ v, Cond.constantLong RX9 138 v ∈ x_Ts → v = (8 : Int64) := x_uC_tb lC_RX9 rfl
theorem uk_RX9_149 : ∀ v, Cond.constantLong RX9 149 v ∈ x_Ts → v = (4096 : Int64) := x_uC_tb lC_RX9 rfl
theorem uk_RX9_272 : ∀ v, Cond.constantLong RX9 272 v ∈ x_Ts → v = (63 : Int64) := x_uC_tb lC_RX9 rfl

