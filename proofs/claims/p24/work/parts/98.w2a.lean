theorem uf_RX12_105 : x_uF RX12 105 12 62 := x_uF_tb (c0 := "LocationDeskModel") (n0 := "kind") lF_RX12 rfl (by decide +kernel)
theorem un_RX12_105 : x_nS RX12 105 := x_nS_tb (c0 := "LocationDeskModel") (n0 := "kind") lF_RX12 rfl (by decide +kernel)
theorem uf_RX12_108 : x_uF RX12 108 12 63 := x_uF_tb (c0 := "LocationDeskModel") (n0 := "worth") lF_RX12 rfl (by decide +kernel)
theorem un_RX12_108 : x_nS RX12 108 := x_nS_tb (c0 := "LocationDeskModel") (n0 := "worth") lF_RX12 rfl (by decide +kernel)
theorem uf_RX12_111 : x_uF RX12 111 12 64 := x_uF_tb (c0 := "LocationDeskModel") (n0 := "where") lF_RX12 rfl (by decide +kernel)
theorem un_RX12_111 : x_nS RX12 111 := x_nS_tb (c0 := "LocationDeskModel") (n0 := "where") lF_RX12 rfl (by decide +kernel)
theorem uf_RX12_114 : x_uF RX12 114 12 65 := x_uF_tb (c0 := "LocationDeskModel") (n0 := "keptKind") lF_RX12 rfl (by decide +kernel)
theorem un_RX12_114 : x_nS RX12 114 := x_nS_tb (c0 := "LocationDeskModel") (n0 := "keptKind") lF_RX12 rfl (by decide +kernel)
theorem uf_RX12_117 : x_uF RX12 117 12 66 := x_uF_tb (c0 := "LocationDeskModel") (n0 := "keptWorth") lF_RX12 rfl (by decide +kernel)
theorem un_RX12_117 : x_nS RX12 117 := x_nS_tb (c0 := "LocationDeskModel") (n0 := "keptWorth") lF_RX12 rfl (by decide +kernel)
theorem uf_RX12_120 : x_uF RX12 120 12 72 := x_uF_tb (c0 := "LocationDeskModel") (n0 := "bytes") lF_RX12 rfl (by decide +kernel)
theorem un_RX12_120 : x_nS RX12 120 := x_nS_tb (c0 := "LocationDeskModel") (n0 := "bytes") lF_RX12 rfl (by decide +kernel)
theorem uf_RX12_123 : x_uF RX12 123 12 75 := x_uF_tb (c0 := "LocationDeskModel") (n0 := "names") lF_RX12 rfl (by decide +kernel)
theorem un_RX12_123 : x_nS RX12 123 := x_nS_tb (c0 := "LocationDeskModel") (n0 := "names") lF_RX12 rfl (by decide +kernel)
theorem uf_RX12_126 : x_uF RX12 126 12 76 := x_uF_tb (c0 := "LocationDeskModel") (n0 := "rows") lF_RX12 rfl (by decide +kernel)
theorem un_RX12_126 : x_nS RX12 126 := x_nS_tb (c0 := "LocationDeskModel") (n0 := "rows") lF_RX12 rfl (by decide +kernel)
theorem uf_RX12_129 : x_uF RX12 129 12 77 := x_uF_tb (c0 := "LocationDeskModel") (n0 := "starts") lF_RX12 rfl (by decide +kernel)
theorem un_RX12_129 : x_nS RX12 129 := x_nS_tb (c0 := "LocationDeskModel") (n0 := "starts") lF_RX12 rfl (by decide +kernel)
theorem uf_RX12_132 : x_uF RX12 132 12 79 := x_uF_tb (c0 := "LocationDeskModel") (n0 := "madeName") lF_RX12 rfl (by decide +kernel)
theorem un_RX12_132 : x_nS RX12 132 := x_nS_tb (c0 := "LocationDeskModel") (n0 := "madeName") lF_RX12 rfl (by decide +kernel)
theorem uf_RX12_135 : x_uF RX12 135 12 80 := x_uF_tb (c0 := "LocationDeskModel") (n0 := "madeRows") lF_RX12 rfl (by decide +kernel)
theorem un_RX12_135 : x_nS RX12 135 := x_nS_tb (c0 := "LocationDeskModel") (n0 := "madeRows") lF_RX12 rfl (by decide +kernel)
theorem uf_RX12_138 : x_uF RX12 138 12 81 := x_uF_tb (c0 := "LocationDeskModel") (n0 := "madeStart") lF_RX12 rfl (by decide +kernel)
theorem un_RX12_138 : x_nS RX12 138 := x_nS_tb (c0 := "LocationDeskModel") (n0 := "madeStart") lF_RX12 rfl (by decide +kernel)
theorem uf_RX12_141 : x_uF RX12 141 12 82 := x_uF_tb (c0 := "LocationDeskModel") (n0 := "madeBegin") lF_RX12 rfl (by decide +kernel)
theorem un_RX12_141 : x_nS RX12 141 := x_nS_tb (c0 := "LocationDeskModel") (n0 := "madeBegin") lF_RX12 rfl (by decide +kernel)
theorem uf_RX12_144 : x_uF RX12 144 12 83 := x_uF_tb (c0 := "LocationDeskModel") (n0 := "madeAt") lF_RX12 rfl (by decide +kernel)
theorem un_RX12_144 : x_nS RX12 144 := x_nS_tb (c0 := "LocationDeskModel") (n0 := "madeAt") lF_RX12 rfl (by decide +kernel)
theorem uf_RX12_147 : x_uF RX12 147 12 84 := x_uF_tb (c0 := "LocationDeskModel") (n0 := "isLong") lF_RX12 rfl (by decide +kernel)
theorem un_RX12_147 : x_nS RX12 147 := x_nS_tb (c0 := "LocationDeskModel") (n0 := "isLong") lF_RX12 rfl (by decide +kernel)
theorem uf_RX12_151 : x_uF RX12 151 12 85 := x_uF_tb (c0 := "LocationDeskModel") (n0 := "turned") lF_RX12 rfl (by decide +kernel)
theorem un_RX12_151 : x_nS RX12 151 := x_nS_tb (c0 := "LocationDeskModel") (n0 := "turned") lF_RX12 rfl (by decide +kernel)
theorem uf_RX12_154 : x_uF RX12 154 12 86 := x_uF_tb (c0 := "LocationDeskModel") (n0 := "waits") lF_RX12 rfl (by decide +kernel)
theorem un_RX12_154 : x_nS RX12 154 := x_nS_tb (c0 := "LocationDeskModel") (n0 := "waits") lF_RX12 rfl (by decide +kernel)
theorem uf_RX12_157 : x_uF RX12 157 12 87 := x_uF_tb (c0 := "LocationDeskModel") (n0 := "binds") lF_RX12 rfl (by decide +kernel)
theorem un_RX12_157 : x_nS RX12 157 := x_nS_tb (c0 := "LocationDeskModel") (n0 := "binds") lF_RX12 rfl (by decide +kernel)
theorem uf_RX12_160 : x_uF RX12 160 12 88 := x_uF_tb (c0 := "LocationDeskModel") (n0 := "placed") lF_RX12 rfl (by decide +kernel)
theorem un_RX12_160 : x_nS RX12 160 := x_nS_tb (c0 := "LocationDeskModel") (n0 := "placed") lF_RX12 rfl (by decide +kernel)
theorem uf_RX12_163 : x_uF RX12 163 12 89 := x_uF_tb (c0 := "LocationDeskModel") (n0 := "midst") lF_RX12 rfl (by decide +kernel)
theorem un_RX12_163 : x_nS RX12 163 := x_nS_tb (c0 := "LocationDeskModel") (n0 := "midst") lF_RX12 rfl (by decide +kernel)
theorem uf_RX12_17 : x_uF RX12 17 12 3 := x_uF_tb (c0 := "LocationDeskModel") (n0 := "pool") lF_RX12 rfl (by decide +kernel)
theorem un_RX12_17 : x_nS RX12 17 := x_nS_tb (c0 := "LocationDeskModel") (n0 := "pool") lF_RX12 rfl (by decide +kernel)
theorem uf_RX12_187 : x_uF RX12 187 12 0 := x_uF_tb (c0 := "LocationDeskModel") (n0 := "told") lF_RX12 rfl (by decide +kernel)
theorem un_RX12_187 : x_nS RX12 187 := x_nS_tb (c0 := "LocationDeskModel") (n0 := "told") lF_RX12 rfl (by decide +kernel)
theorem uf_RX12_190 : x_uF RX12 190 12 13 := x_uF_tb (c0 := "LocationDeskModel") (n0 := "taped") lF_RX12 rfl (by decide +kernel)
theorem un_RX12_190 : x_nS RX12 190 := x_nS_tb (c0 := "LocationDeskModel") (n0 := "taped") lF_RX12 rfl (by decide +kernel)
theorem uf_RX12_20 : x_uF RX12 20 12 4 := x_uF_tb (c0 := "LocationDeskModel") (n0 := "size") lF_RX12 rfl (by decide +kernel)
theorem un_RX12_20 : x_nS RX12 20 := x_nS_tb (c0 := "LocationDeskModel") (n0 := "size") lF_RX12 rfl (by decide +kernel)
theorem uf_RX12_258 : x_uF RX12 258 12 32 := x_uF_tb (c0 := "LocationDeskModel") (n0 := "most") lF_RX12 rfl (by decide +kernel)
theorem un_RX12_258 : x_nS RX12 258 := x_nS_tb (c0 := "LocationDeskModel") (n0 := "most") lF_RX12 rfl (by decide +kernel)
theorem uf_RX12_299 : x_uF RX12 299 12 31 := x_uF_tb (c0 := "LocationDeskModel") (n0 := "steps") lF_RX12 rfl (by decide +kernel)
theorem un_RX12_299 : x_nS RX12 299 := x_nS_tb (c0 := "LocationDeskModel") (n0 := "steps") lF_RX12 rfl (by decide +kernel)
theorem uf_RX12_30 : x_uF RX12 30 12 12 := x_uF_tb (c0 := "LocationDeskModel") (n0 := "tape") lF_RX12 rfl (by decide +kernel)
theorem un_RX12_30 : x_nS RX12 30 := x_nS_tb (c0 := "LocationDeskModel") (n0 := "tape") lF_RX12 rfl (by decide +kernel)
theorem uf_RX12_361 : x_uF RX12 361 12 53 := x_uF_tb (c0 := "LocationDeskModel") (n0 := "hasTold") lF_RX12 rfl (by decide +kernel)
theorem un_RX12_361 : x_nS RX12 361 := x_nS_tb (c0 := "LocationDeskModel") (n0 := "hasTold") lF_RX12 rfl (by decide +kernel)
theorem uf_RX12_364 : x_uF RX12 364 12 54 := x_uF_tb (c0 := "LocationDeskModel") (n0 := "faultTold") lF_RX12 rfl (by decide +kernel)
theorem un_RX12_364 : x_nS RX12 364 := x_nS_tb (c0 := "LocationDeskModel") (n0 := "faultTold") lF_RX12 rfl (by decide +kernel)
theorem uf_RX12_367 : x_uF RX12 367 12 56 := x_uF_tb (c0 := "LocationDeskModel") (n0 := "stepsTold") lF_RX12 rfl (by decide +kernel)
theorem un_RX12_367 : x_nS RX12 367 := x_nS_tb (c0 := "LocationDeskModel") (n0 := "stepsTold") lF_RX12 rfl (by decide +kernel)
theorem uf_RX12_370 : x_uF RX12 370 12 57 := x_uF_tb (c0 := "LocationDeskModel") (n0 := "mostTold") lF_RX12 rfl (by decide +kernel)
theorem un_RX12_370 : x_nS RX12 370 := x_nS_tb (c0 := "LocationDeskModel") (n0 := "mostTold") lF_RX12 rfl (by decide +kernel)
theorem uf_RX12_446 : x_uF RX12 446 12 67 := x_uF_tb (c0 := "LocationDeskModel") (n0 := "tokens") lF_RX12 rfl (by decide +kernel)
theorem un_RX12_446 : x_nS RX12 446 := x_nS_tb (c0 := "LocationDeskModel") (n0 := "tokens") lF_RX12 rfl (by decide +kernel)
theorem uf_RX12_475 : x_uF RX12 475 12 69 := x_uF_tb (c0 := "LocationDeskModel") (n0 := "fault") lF_RX12 rfl (by decide +kernel)
theorem un_RX12_475 : x_nS RX12 475 := x_nS_tb (c0 := "LocationDeskModel") (n0 := "fault") lF_RX12 rfl (by decide +kernel)
theorem uf_RX12_478 : x_uF RX12 478 12 68 := x_uF_tb (c0 := "LocationDeskModel") (n0 := "ti") lF_RX12 rfl (by decide +kernel)
theorem un_RX12_478 : x_nS RX12 478 := x_nS_tb (c0 := "LocationDeskModel") (n0 := "ti") lF_RX12 rfl (by decide +kernel)
theorem uf_RX12_481 : x_uF RX12 481 12 70 := x_uF_tb (c0 := "LocationDeskModel") (n0 := "faultAt") lF_RX12 rfl (by decide +kernel)
theorem un_RX12_481 : x_nS RX12 481 := x_nS_tb (c0 := "LocationDeskModel") (n0 := "faultAt") lF_RX12 rfl (by decide +kernel)
theorem uf_RX12_490 : x_uF RX12 490 12 71 := x_uF_tb (c0 := "LocationDeskModel") (n0 := "opened") lF_RX12 rfl (by decide +kernel)
theorem un_RX12_490 : x_nS RX12 490 := x_nS_tb (c0 := "LocationDeskModel") (n0 := "opened") lF_RX12 rfl (by decide +kernel)
theorem uf_RX12_493 : x_uF RX12 493 12 73 := x_uF_tb (c0 := "LocationDeskModel") (n0 := "many") lF_RX12 rfl (by decide +kernel)
theorem un_RX12_493 : x_nS RX12 493 := x_nS_tb (c0 := "LocationDeskModel") (n0 := "many") lF_RX12 rfl (by decide +kernel)
theorem uf_RX12_515 : x_uF RX12 515 12 78 := x_uF_tb (c0 := "LocationDeskModel") (n0 := "made") lF_RX12 rfl (by decide +kernel)
theorem un_RX12_515 : x_nS RX12 515 := x_nS_tb (c0 := "LocationDeskModel") (n0 := "made") lF_RX12 rfl (by decide +kernel)
theorem uf_RX12_524 : x_uF RX12 524 12 74 := x_uF_tb (c0 := "LocationDeskModel") (n0 := "variables") lF_RX12 rfl (by decide +kernel)
theorem un_RX12_524 : x_nS RX12 524 := x_nS_tb (c0 := "LocationDeskModel") (n0 := "variables") lF_RX12 rfl (by decide +kernel)
theorem uf_RX12_556 : x_uF RX12 556 12 90 := x_uF_tb (c0 := "LocationDeskModel") (n0 := "waiting") lF_RX12 rfl (by decide +kernel)
theorem un_RX12_556 : x_nS RX12 556 := x_nS_tb (c0 := "LocationDeskModel") (n0 := "waiting") lF_RX12 rfl (by decide +kernel)
theorem uf_RX12_577 : x_uF RX12 577 12 91 := x_uF_tb (c0 := "LocationDeskModel") (n0 := "isClosed") lF_RX12 rfl (by decide +kernel)
theorem un_RX12_577 : x_nS RX12 577 := x_nS_tb (c0 := "LocationDeskModel") (n0 := "isClosed") lF_RX12 rfl (by decide +kernel)
theorem uf_RX12_99 : x_uF RX12 99 12 55 := x_uF_tb (c0 := "LocationDeskModel") (n0 := "placeTold") lF_RX12 rfl (by decide +kernel)
theorem un_RX12_99 : x_nS RX12 99 := x_nS_tb (c0 := "LocationDeskModel") (n0 := "placeTold") lF_RX12 rfl (by decide +kernel)
theorem um_RX12_193 : x_uM RX12 193 yX12_puts := x_uM_tb lM_RX12 rfl
theorem um_RX12_380 : x_uM RX12 380 yX12_tells := x_uM_tb lM_RX12 rfl
theorem um_RX12_423 : x_uM RX12 423 yX12_isSmall := x_uM_tb lM_RX12 rfl
theorem um_RX12_449 : x_uM RX12 449 yX12_sign := x_uM_tb lM_RX12 rfl
theorem um_RX12_452 : x_uM RX12 452 yX12_isDigit := x_uM_tb lM_RX12 rfl
theorem um_RX12_457 : x_uM RX12 457 yX12_token := x_uM_tb lM_RX12 rfl
theorem um_RX12_461 : x_uM RX12 461 yX12_word := x_uM_tb lM_RX12 rfl
theorem um_RX12_469 : x_uM RX12 469 yX12_isLetter := x_uM_tb lM_RX12 rfl
theorem um_RX12_472 : x_uM RX12 472 yX12_signs := x_uM_tb lM_RX12 rfl
theorem um_RX12_484 : x_uM RX12 484 yX12_isSign := x_uM_tb lM_RX12 rfl
theorem um_RX12_487 : x_uM RX12 487 yX12_fail := x_uM_tb lM_RX12 rfl
theorem um_RX12_496 : x_uM RX12 496 yX12_emit := x_uM_tb lM_RX12 rfl
theorem um_RX12_505 : x_uM RX12 505 yX12_emits := x_uM_tb lM_RX12 rfl
theorem um_RX12_513 : x_uM RX12 513 yX12_tokens := x_uM_tb lM_RX12 rfl
theorem um_RX12_518 : x_uM RX12 518 yX12_declared := x_uM_tb lM_RX12 rfl
theorem um_RX12_521 : x_uM RX12 521 yX12_faulty := x_uM_tb lM_RX12 rfl
theorem um_RX12_527 : x_uM RX12 527 yX12_need := x_uM_tb lM_RX12 rfl
theorem um_RX12_530 : x_uM RX12 530 yX12_rows := x_uM_tb lM_RX12 rfl
theorem um_RX12_532 : x_uM RX12 532 yX12_location := x_uM_tb lM_RX12 rfl
theorem um_RX12_535 : x_uM RX12 535 yX12_isWord := x_uM_tb lM_RX12 rfl
theorem um_RX12_538 : x_uM RX12 538 yX12_opens := x_uM_tb lM_RX12 rfl
theorem um_RX12_541 : x_uM RX12 541 yX12_isPlace := x_uM_tb lM_RX12 rfl
theorem um_RX12_544 : x_uM RX12 544 yX12_place := x_uM_tb lM_RX12 rfl
theorem um_RX12_549 : x_uM RX12 549 yX12_unsigned := x_uM_tb lM_RX12 rfl
theorem um_RX12_553 : x_uM RX12 553 yX12_chosen := x_uM_tb lM_RX12 rfl
theorem um_RX12_559 : x_uM RX12 559 yX12_tops := x_uM_tb lM_RX12 rfl
theorem um_RX12_563 : x_uM RX12 563 yX12_emitted := x_uM_tb lM_RX12 rfl
theorem um_RX12_566 : x_uM RX12 566 yX12_reduced := x_uM_tb lM_RX12 rfl
theorem um_RX12_569 : x_uM RX12 569 yX12_turned := x_uM_tb lM_RX12 rfl
theorem um_RX12_571 : x_uM RX12 571 yX12_operand := x_uM_tb lM_RX12 rfl
theorem um_RX12_574 : x_uM RX12 574 yX12_operator := x_uM_tb lM_RX12 rfl
theorem um_RX12_580 : x_uM RX12 580 yX12_later := x_uM_tb lM_RX12 rfl
theorem um_RX12_583 : x_uM RX12 583 yX12_push := x_uM_tb lM_RX12 rfl
theorem um_RX12_586 : x_uM RX12 586 yX12_registered := x_uM_tb lM_RX12 rfl
theorem um_RX12_589 : x_uM RX12 589 yX12_combined := x_uM_tb lM_RX12 rfl
theorem um_RX12_593 : x_uM RX12 593 yX12_signed := x_uM_tb lM_RX12 rfl
theorem um_RX12_596 : x_uM RX12 596 yX12_finished := x_uM_tb lM_RX12 rfl
theorem um_RX12_599 : x_uM RX12 599 yX12_adds := x_uM_tb lM_RX12 rfl
theorem um_RX12_602 : x_uM RX12 602 yX12_isAlone := x_uM_tb lM_RX12 rfl
theorem um_RX12_607 : x_uM RX12 607 yX12_multiplies := x_uM_tb lM_RX12 rfl
theorem um_RX12_610 : x_uM RX12 610 yX12_binary := x_uM_tb lM_RX12 rfl
theorem um_RX12_614 : x_uM RX12 614 yX12_added := x_uM_tb lM_RX12 rfl
theorem um_RX12_617 : x_uM RX12 617 yX12_shifts := x_uM_tb lM_RX12 rfl
theorem um_RX12_620 : x_uM RX12 620 yX12_compares := x_uM_tb lM_RX12 rfl
theorem um_RX12_623 : x_uM RX12 623 yX12_ended := x_uM_tb lM_RX12 rfl
theorem um_RX12_626 : x_uM RX12 626 yX12_reducedAll := x_uM_tb lM_RX12 rfl
theorem ujX12_added : x_uJ yX12_added 245 := x_uJ_nd (show xMM 245 = some _ from rfl)
theorem ujX12_adds : x_uJ yX12_adds 250 := x_uJ_nd (show xMM 250 = some _ from rfl)
theorem ujX12_binary : x_uJ yX12_binary 244 := x_uJ_nd (show xMM 244 = some _ from rfl)
theorem ujX12_chosen : x_uJ yX12_chosen 238 := x_uJ_nd (show xMM 238 = some _ from rfl)
theorem ujX12_combined : x_uJ yX12_combined 241 := x_uJ_nd (show xMM 241 = some _ from rfl)
theorem ujX12_compares : x_uJ yX12_compares 246 := x_uJ_nd (show xMM 246 = some _ from rfl)
theorem ujX12_declared : x_uJ yX12_declared 226 := x_uJ_nd (show xMM 226 = some _ from rfl)
theorem ujX12_emit : x_uJ yX12_emit 219 := x_uJ_nd (show xMM 219 = some _ from rfl)
theorem ujX12_emits : x_uJ yX12_emits 220 := x_uJ_nd (show xMM 220 = some _ from rfl)
theorem ujX12_emitted : x_uJ yX12_emitted 233 := x_uJ_nd (show xMM 233 = some _ from rfl)
theorem ujX12_ended : x_uJ yX12_ended 243 := x_uJ_nd (show xMM 243 = some _ from rfl)
theorem ujX12_fail : x_uJ yX12_fail 214 := x_uJ_nd (show xMM 214 = some _ from rfl)
theorem ujX12_faulty : x_uJ yX12_faulty 224 := x_uJ_nd (show xMM 224 = some _ from rfl)
theorem ujX12_finished : x_uJ yX12_finished 234 := x_uJ_nd (show xMM 234 = some _ from rfl)
theorem ujX12_isAlone : x_uJ yX12_isAlone 249 := x_uJ_nd (show xMM 249 = some _ from rfl)
theorem ujX12_isDigit : x_uJ yX12_isDigit 208 := x_uJ_nd (show xMM 208 = some _ from rfl)
theorem ujX12_isLetter : x_uJ yX12_isLetter 209 := x_uJ_nd (show xMM 209 = some _ from rfl)
theorem ujX12_isPlace : x_uJ yX12_isPlace 228 := x_uJ_nd (show xMM 228 = some _ from rfl)
theorem ujX12_isSign : x_uJ yX12_isSign 215 := x_uJ_nd (show xMM 215 = some _ from rfl)
theorem ujX12_isSmall : x_uJ yX12_isSmall 207 := x_uJ_nd (show xMM 207 = some _ from rfl)
theorem ujX12_isWord : x_uJ yX12_isWord 216 := x_uJ_nd (show xMM 216 = some _ from rfl)
theorem ujX12_later : x_uJ yX12_later 231 := x_uJ_nd (show xMM 231 = some _ from rfl)
theorem ujX12_location : x_uJ yX12_location 229 := x_uJ_nd (show xMM 229 = some _ from rfl)
theorem ujX12_multiplies : x_uJ yX12_multiplies 248 := x_uJ_nd (show xMM 248 = some _ from rfl)
theorem ujX12_need : x_uJ yX12_need 217 := x_uJ_nd (show xMM 217 = some _ from rfl)
theorem ujX12_opens : x_uJ yX12_opens 218 := x_uJ_nd (show xMM 218 = some _ from rfl)
theorem ujX12_operand : x_uJ yX12_operand 239 := x_uJ_nd (show xMM 239 = some _ from rfl)
theorem ujX12_operator : x_uJ yX12_operator 242 := x_uJ_nd (show xMM 242 = some _ from rfl)
theorem ujX12_place : x_uJ yX12_place 230 := x_uJ_nd (show xMM 230 = some _ from rfl)
theorem ujX12_push : x_uJ yX12_push 223 := x_uJ_nd (show xMM 223 = some _ from rfl)
theorem ujX12_puts : x_uJ yX12_puts 153 := x_uJ_nd (show xMM 153 = some _ from rfl)
theorem ujX12_reduced : x_uJ yX12_reduced 235 := x_uJ_nd (show xMM 235 = some _ from rfl)
theorem ujX12_reducedAll : x_uJ yX12_reducedAll 237 := x_uJ_nd (show xMM 237 = some _ from rfl)
theorem ujX12_registered : x_uJ yX12_registered 240 := x_uJ_nd (show xMM 240 = some _ from rfl)
theorem ujX12_rows : x_uJ yX12_rows 227 := x_uJ_nd (show xMM 227 = some _ from rfl)
theorem ujX12_shifts : x_uJ yX12_shifts 247 := x_uJ_nd (show xMM 247 = some _ from rfl)
theorem ujX12_sign : x_uJ yX12_sign 206 := x_uJ_nd (show xMM 206 = some _ from rfl)
theorem ujX12_signed : x_uJ yX12_signed 222 := x_uJ_nd (show xMM 222 = some _ from rfl)
theorem ujX12_signs : x_uJ yX12_signs 213 := x_uJ_nd (show xMM 213 = some _ from rfl)
theorem ujX12_tells : x_uJ yX12_tells 188 := x_uJ_nd (show xMM 188 = some _ from rfl)
theorem ujX12_token : x_uJ yX12_token 211 := x_uJ_nd (show xMM 211 = some _ from rfl)
theorem ujX12_tokens : x_uJ yX12_tokens 212 := x_uJ_nd (show xMM 212 = some _ from rfl)
theorem ujX12_tops : x_uJ yX12_tops 232 := x_uJ_nd (show xMM 232 = some _ from rfl)
theorem ujX12_turned : x_uJ yX12_turned 236 := x_uJ_nd (show xMM 236 = some _ from rfl)
theorem ujX12_unsigned : x_uJ yX12_unsigned 221 := x_uJ_nd (show xMM 221 = some _ from rfl)
theorem ujX12_word : x_uJ yX12_word 210 := x_uJ_nd (show xMM 210 = some _ from rfl)
theorem uk_RX12_250 : ∀ v, Cond.constantLong RX12 250 v ∈ x_Ts → v = (63 : Int64) := x_uC_tb lC_RX12 rfl
theorem uk_RX12_310 : ∀ v, Cond.constantLong RX12 310 v ∈ x_Ts → v = (31 : Int64) := x_uC_tb lC_RX12 rfl
theorem uk_RX12_315 : ∀ v, Cond.constantLong RX12 315 v ∈ x_Ts → v = (8 : Int64) := x_uC_tb lC_RX12 rfl
theorem uk_RX12_426 : ∀ v, Cond.constantLong RX12 426 v ∈ x_Ts → v = (24834 : Int64) := x_uC_tb lC_RX12 rfl
theorem uk_RX12_428 : ∀ v, Cond.constantLong RX12 428 v ∈ x_Ts → v = (41299405 : Int64) := x_uC_tb lC_RX12 rfl
theorem uk_RX12_430 : ∀ v, Cond.constantLong RX12 430 v ∈ x_Ts → v = (5042231 : Int64) := x_uC_tb lC_RX12 rfl
theorem uk_RX12_432 : ∀ v, Cond.constantLong RX12 432 v ∈ x_Ts → v = (730200 : Int64) := x_uC_tb lC_RX12 rfl
theorem uk_RX12_434 : ∀ v, Cond.constantLong RX12 434 v ∈ x_Ts → v = (224 : Int64) := x_uC_tb lC_RX12 rfl
theorem uk_RX12_436 : ∀ v, Cond.constantLong RX12 436 v ∈ x_Ts → v = (4330 : Int64) := x_uC_tb lC_RX12 rfl
theorem uk_RX12_438 : ∀ v, Cond.constantLong RX12 438 v ∈ x_Ts → v = (20619 : Int64) := x_uC_tb lC_RX12 rfl
theorem uk_RX12_440 : ∀ v, Cond.constantLong RX12 440 v ∈ x_Ts → v = (27843 : Int64) := x_uC_tb lC_RX12 rfl
theorem uk_RX12_442 : ∀ v, Cond.constantLong RX12 442 v ∈ x_Ts → v = (5831 : Int64) := x_uC_tb lC_RX12 rfl
theorem uk_RX12_444 : ∀ v, Cond.constantLong RX12 444 v ∈ x_Ts → v = (18356 : Int64) := x_uC_tb lC_RX12 rfl
theorem uk_RX12_455 : ∀ v, Cond.constantLong RX12 455 v ∈ x_Ts → v = (37 : Int64) := x_uC_tb lC_RX12 rfl
theorem uk_RX12_465 : ∀ v, Cond.constantLong RX12 465 v ∈ x_Ts → v = (10 : Int64) := x_uC_tb lC_RX12 rfl
theorem uk_RX12_467 : ∀ v, Cond.constantLong RX12 467 v ∈ x_Ts → v = (48 : Int64) := x_uC_tb lC_RX12 rfl
theorem uk_RX12_499 : ∀ v, Cond.constantLong RX12 499 v ∈ x_Ts → v = (127 : Int64) := x_uC_tb lC_RX12 rfl
theorem uk_RX12_501 : ∀ v, Cond.constantLong RX12 501 v ∈ x_Ts → v = (-64 : Int64) := x_uC_tb lC_RX12 rfl
theorem uk_RX12_503 : ∀ v, Cond.constantLong RX12 503 v ∈ x_Ts → v = (255 : Int64) := x_uC_tb lC_RX12 rfl
theorem uk_RX12_509 : ∀ v, Cond.constantLong RX12 509 v ∈ x_Ts → v = (65535 : Int64) := x_uC_tb lC_RX12 rfl
theorem uk_RX12_511 : ∀ v, Cond.constantLong RX12 511 v ∈ x_Ts → v = (4294967295 : Int64) := x_uC_tb lC_RX12 rfl
theorem uk_RX12_547 : ∀ v, Cond.constantLong RX12 547 v ∈ x_Ts → v = (64 : Int64) := x_uC_tb lC_RX12 rfl
theorem uk_RX12_605 : ∀ v, Cond.constantLong RX12 605 v ∈ x_Ts → v = (43 : Int64) := x_uC_tb lC_RX12 rfl
theorem uk_RX12_629 : ∀ v, Cond.constantLong RX12 629 v ∈ x_Ts → v = (257 : Int64) := x_uC_tb lC_RX12 rfl
theorem uk_RX12_631 : ∀ v, Cond.constantLong RX12 631 v ∈ x_Ts → v = (258 : Int64) := x_uC_tb lC_RX12 rfl
theorem uk_RX12_633 : ∀ v, Cond.constantLong RX12 633 v ∈ x_Ts → v = (60 : Int64) := x_uC_tb lC_RX12 rfl
theorem uk_RX12_635 : ∀ v, Cond.constantLong RX12 635 v ∈ x_Ts → v = (259 : Int64) := x_uC_tb lC_RX12 rfl
theorem uk_RX12_637 : ∀ v, Cond.constantLong RX12 637 v ∈ x_Ts → v = (62 : Int64) := x_uC_tb lC_RX12 rfl
theorem uk_RX12_639 : ∀ v, Cond.constantLong RX12 639 v ∈ x_Ts → v = (260 : Int64) := x_uC_tb lC_RX12 rfl
theorem uk_RX12_641 : ∀ v, Cond.constantLong RX12 641 v ∈ x_Ts → v = (261 : Int64) := x_uC_tb lC_RX12 rfl
theorem uk_RX12_643 : ∀ v, Cond.constantLong RX12 643 v ∈ x_Ts → v = (262 : Int64) := x_uC_tb lC_RX12 rfl
theorem uk_RX12_645 : ∀ v, Cond.constantLong RX12 645 v ∈ x_Ts → v = (263 : Int64) := x_uC_tb lC_RX12 rfl
theorem uk_RX12_647 : ∀ v, Cond.constantLong RX12 647 v ∈ x_Ts → v = (42 : Int64) := x_uC_tb lC_RX12 rfl
theorem uk_RX12_649 : ∀ v, Cond.constantLong RX12 649 v ∈ x_Ts → v = (9 : Int64) := x_uC_tb lC_RX12 rfl
theorem uk_RX12_651 : ∀ v, Cond.constantLong RX12 651 v ∈ x_Ts → v = (45 : Int64) := x_uC_tb lC_RX12 rfl
