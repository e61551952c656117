section
-- ===== PART A: goes FIRST, ahead of the names: the tables' words, and 'selects' of the private methods out of them =====
/-- a private method of a class that the tables say can be made, by its rows of tables_1 -/
def lw_okq (q : MethodName × Nat) : Prop := (q.1.cls ≠ "java/lang/invoke/MethodHandle" ∧ q.1.cls ≠ "java/lang/invoke/VarHandle") ∧ Cond.instantiable q.1.cls q.2 ∈ tables_1 ∧ Cond.privateMethod q.1 ∈ tables_1 ∧ Cond.instanceMethod q.1 ∈ tables_1
theorem lw_p0 : lw_okq (⟨"LocationDesk", "feedFour", "(I)V"⟩, 13) := ⟨⟨by decide +kernel, by decide +kernel⟩, List.mem_of_getElem? (i := 23) (by decide +kernel), List.mem_of_getElem? (i := 386) (by decide +kernel), List.mem_of_getElem? (i := 387) (by decide +kernel)⟩
theorem lw_p1 : lw_okq (⟨"LocationDesk", "tapeInto", "([[II)I"⟩, 13) := ⟨⟨by decide +kernel, by decide +kernel⟩, List.mem_of_getElem? (i := 23) (by decide +kernel), List.mem_of_getElem? (i := 398) (by decide +kernel), List.mem_of_getElem? (i := 399) (by decide +kernel)⟩
theorem lw_p2 : lw_okq (⟨"LocationDesk$Machine", "registerValue", "(J)J"⟩, 11) := ⟨⟨by decide +kernel, by decide +kernel⟩, List.mem_of_getElem? (i := 89) (by decide +kernel), List.mem_of_getElem? (i := 430) (by decide +kernel), List.mem_of_getElem? (i := 431) (by decide +kernel)⟩
theorem lw_p3 : lw_okq (⟨"LocationDesk", "runBytes", "([IIII)I"⟩, 13) := ⟨⟨by decide +kernel, by decide +kernel⟩, List.mem_of_getElem? (i := 23) (by decide +kernel), List.mem_of_getElem? (i := 461) (by decide +kernel), List.mem_of_getElem? (i := 462) (by decide +kernel)⟩
theorem lw_p4 : lw_okq (⟨"LocationDesk$Run", "start", "([IIII)I"⟩, 16) := ⟨⟨by decide +kernel, by decide +kernel⟩, List.mem_of_getElem? (i := 152) (by decide +kernel), List.mem_of_getElem? (i := 465) (by decide +kernel), List.mem_of_getElem? (i := 466) (by decide +kernel)⟩
theorem lw_p5 : lw_okq (⟨"LocationDesk$Run", "reset", "(II)V"⟩, 16) := ⟨⟨by decide +kernel, by decide +kernel⟩, List.mem_of_getElem? (i := 152) (by decide +kernel), List.mem_of_getElem? (i := 469) (by decide +kernel), List.mem_of_getElem? (i := 470) (by decide +kernel)⟩
theorem lw_p6 : lw_okq (⟨"LocationDesk$Part", "become", "(IJ)V"⟩, 6) := ⟨⟨by decide +kernel, by decide +kernel⟩, List.mem_of_getElem? (i := 38) (by decide +kernel), List.mem_of_getElem? (i := 473) (by decide +kernel), List.mem_of_getElem? (i := 474) (by decide +kernel)⟩
theorem lw_p7 : lw_okq (⟨"LocationDesk$Result", "clear", "()V"⟩, 3) := ⟨⟨by decide +kernel, by decide +kernel⟩, List.mem_of_getElem? (i := 31) (by decide +kernel), List.mem_of_getElem? (i := 477) (by decide +kernel), List.mem_of_getElem? (i := 478) (by decide +kernel)⟩
theorem lw_p8 : lw_okq (⟨"LocationDesk$Result", "only", "()LLocationDesk$Part;"⟩, 3) := ⟨⟨by decide +kernel, by decide +kernel⟩, List.mem_of_getElem? (i := 31) (by decide +kernel), List.mem_of_getElem? (i := 481) (by decide +kernel), List.mem_of_getElem? (i := 482) (by decide +kernel)⟩
theorem lw_p9 : lw_okq (⟨"LocationDesk$Run", "perform", "([IIII)I"⟩, 16) := ⟨⟨by decide +kernel, by decide +kernel⟩, List.mem_of_getElem? (i := 152) (by decide +kernel), List.mem_of_getElem? (i := 486) (by decide +kernel), List.mem_of_getElem? (i := 487) (by decide +kernel)⟩
theorem lw_p10 : lw_okq (⟨"LocationDesk$Run", "step", "([IIII)I"⟩, 16) := ⟨⟨by decide +kernel, by decide +kernel⟩, List.mem_of_getElem? (i := 152) (by decide +kernel), List.mem_of_getElem? (i := 490) (by decide +kernel), List.mem_of_getElem? (i := 491) (by decide +kernel)⟩
theorem lw_p11 : lw_okq (⟨"LocationDesk$Run", "readOperands", "([III)I"⟩, 16) := ⟨⟨by decide +kernel, by decide +kernel⟩, List.mem_of_getElem? (i := 152) (by decide +kernel), List.mem_of_getElem? (i := 497) (by decide +kernel), List.mem_of_getElem? (i := 498) (by decide +kernel)⟩
theorem lw_p12 : lw_okq (⟨"LocationDesk$Run", "readNumber", "([III)I"⟩, 16) := ⟨⟨by decide +kernel, by decide +kernel⟩, List.mem_of_getElem? (i := 152) (by decide +kernel), List.mem_of_getElem? (i := 501) (by decide +kernel), List.mem_of_getElem? (i := 502) (by decide +kernel)⟩
theorem lw_p13 : lw_okq (⟨"LocationDesk$Run", "readLeb", "([IIZ)I"⟩, 16) := ⟨⟨by decide +kernel, by decide +kernel⟩, List.mem_of_getElem? (i := 152) (by decide +kernel), List.mem_of_getElem? (i := 508) (by decide +kernel), List.mem_of_getElem? (i := 509) (by decide +kernel)⟩
theorem lw_p14 : lw_okq (⟨"LocationDesk$Run", "check", "(I)I"⟩, 16) := ⟨⟨by decide +kernel, by decide +kernel⟩, List.mem_of_getElem? (i := 152) (by decide +kernel), List.mem_of_getElem? (i := 513) (by decide +kernel), List.mem_of_getElem? (i := 514) (by decide +kernel)⟩
theorem lw_p15 : lw_okq (⟨"LocationDesk$Run", "isTooMuch", "(I)Z"⟩, 16) := ⟨⟨by decide +kernel, by decide +kernel⟩, List.mem_of_getElem? (i := 152) (by decide +kernel), List.mem_of_getElem? (i := 522) (by decide +kernel), List.mem_of_getElem? (i := 523) (by decide +kernel)⟩
def lw_privs_1 : List (MethodName × Nat) := [(⟨"LocationDesk", "feedFour", "(I)V"⟩, 13), (⟨"LocationDesk", "tapeInto", "([[II)I"⟩, 13), (⟨"LocationDesk$Machine", "registerValue", "(J)J"⟩, 11), (⟨"LocationDesk", "runBytes", "([IIII)I"⟩, 13), (⟨"LocationDesk$Run", "start", "([IIII)I"⟩, 16), (⟨"LocationDesk$Run", "reset", "(II)V"⟩, 16), (⟨"LocationDesk$Part", "become", "(IJ)V"⟩, 6), (⟨"LocationDesk$Result", "clear", "()V"⟩, 3), (⟨"LocationDesk$Result", "only", "()LLocationDesk$Part;"⟩, 3), (⟨"LocationDesk$Run", "perform", "([IIII)I"⟩, 16), (⟨"LocationDesk$Run", "step", "([IIII)I"⟩, 16), (⟨"LocationDesk$Run", "readOperands", "([III)I"⟩, 16), (⟨"LocationDesk$Run", "readNumber", "([III)I"⟩, 16), (⟨"LocationDesk$Run", "readLeb", "([IIZ)I"⟩, 16), (⟨"LocationDesk$Run", "check", "(I)I"⟩, 16), (⟨"LocationDesk$Run", "isTooMuch", "(I)Z"⟩, 16)]
theorem lw_r1 : ∀ q ∈ lw_privs_1, lw_okq q := List.forall_mem_cons.mpr ⟨lw_p0, List.forall_mem_cons.mpr ⟨lw_p1, List.forall_mem_cons.mpr ⟨lw_p2, List.forall_mem_cons.mpr ⟨lw_p3, List.forall_mem_cons.mpr ⟨lw_p4, List.forall_mem_cons.mpr ⟨lw_p5, List.forall_mem_cons.mpr ⟨lw_p6, List.forall_mem_cons.mpr ⟨lw_p7, List.forall_mem_cons.mpr ⟨lw_p8, List.forall_mem_cons.mpr ⟨lw_p9, List.forall_mem_cons.mpr ⟨lw_p10, List.forall_mem_cons.mpr ⟨lw_p11, List.forall_mem_cons.mpr ⟨lw_p12, List.forall_mem_cons.mpr ⟨lw_p13, List.forall_mem_cons.mpr ⟨lw_p14, List.forall_mem_cons.mpr ⟨lw_p15, fun _ h => absurd h List.not_mem_nil⟩⟩⟩⟩⟩⟩⟩⟩⟩⟩⟩⟩⟩⟩⟩⟩
theorem lw_p16 : lw_okq (⟨"LocationDesk$Run", "wanted", "(I)I"⟩, 16) := ⟨⟨by decide +kernel, by decide +kernel⟩, List.mem_of_getElem? (i := 152) (by decide +kernel), List.mem_of_getElem? (i := 527) (by decide +kernel), List.mem_of_getElem? (i := 528) (by decide +kernel)⟩
theorem lw_p17 : lw_okq (⟨"LocationDesk$Run", "pop", "()J"⟩, 16) := ⟨⟨by decide +kernel, by decide +kernel⟩, List.mem_of_getElem? (i := 152) (by decide +kernel), List.mem_of_getElem? (i := 531) (by decide +kernel), List.mem_of_getElem? (i := 532) (by decide +kernel)⟩
theorem lw_p18 : lw_okq (⟨"LocationDesk$Run", "call", "(JI)I"⟩, 16) := ⟨⟨by decide +kernel, by decide +kernel⟩, List.mem_of_getElem? (i := 152) (by decide +kernel), List.mem_of_getElem? (i := 535) (by decide +kernel), List.mem_of_getElem? (i := 536) (by decide +kernel)⟩
theorem lw_p19 : lw_okq (⟨"LocationDesk$Run", "operate", "(I[II)I"⟩, 16) := ⟨⟨by decide +kernel, by decide +kernel⟩, List.mem_of_getElem? (i := 152) (by decide +kernel), List.mem_of_getElem? (i := 539) (by decide +kernel), List.mem_of_getElem? (i := 540) (by decide +kernel)⟩
theorem lw_p20 : lw_okq (⟨"LocationDesk$Run", "push", "(J)I"⟩, 16) := ⟨⟨by decide +kernel, by decide +kernel⟩, List.mem_of_getElem? (i := 152) (by decide +kernel), List.mem_of_getElem? (i := 543) (by decide +kernel), List.mem_of_getElem? (i := 544) (by decide +kernel)⟩
theorem lw_p21 : lw_okq (⟨"LocationDesk$Run", "shuffle", "(I)I"⟩, 16) := ⟨⟨by decide +kernel, by decide +kernel⟩, List.mem_of_getElem? (i := 152) (by decide +kernel), List.mem_of_getElem? (i := 551) (by decide +kernel), List.mem_of_getElem? (i := 552) (by decide +kernel)⟩
theorem lw_p22 : lw_okq (⟨"LocationDesk$Run", "below", "(I)J"⟩, 16) := ⟨⟨by decide +kernel, by decide +kernel⟩, List.mem_of_getElem? (i := 152) (by decide +kernel), List.mem_of_getElem? (i := 555) (by decide +kernel), List.mem_of_getElem? (i := 556) (by decide +kernel)⟩
theorem lw_p23 : lw_okq (⟨"LocationDesk$Run", "changed", "(IJ)J"⟩, 16) := ⟨⟨by decide +kernel, by decide +kernel⟩, List.mem_of_getElem? (i := 152) (by decide +kernel), List.mem_of_getElem? (i := 559) (by decide +kernel), List.mem_of_getElem? (i := 560) (by decide +kernel)⟩
theorem lw_p24 : lw_okq (⟨"LocationDesk$Run", "addPiece", "(II)I"⟩, 16) := ⟨⟨by decide +kernel, by decide +kernel⟩, List.mem_of_getElem? (i := 152) (by decide +kernel), List.mem_of_getElem? (i := 580) (by decide +kernel), List.mem_of_getElem? (i := 581) (by decide +kernel)⟩
theorem lw_p25 : lw_okq (⟨"LocationDesk$Run", "holdTop", "()V"⟩, 16) := ⟨⟨by decide +kernel, by decide +kernel⟩, List.mem_of_getElem? (i := 152) (by decide +kernel), List.mem_of_getElem? (i := 584) (by decide +kernel), List.mem_of_getElem? (i := 585) (by decide +kernel)⟩
theorem lw_p26 : lw_okq (⟨"LocationDesk$Result", "addPiece", "(LLocationDesk$Part;II)V"⟩, 3) := ⟨⟨by decide +kernel, by decide +kernel⟩, List.mem_of_getElem? (i := 31) (by decide +kernel), List.mem_of_getElem? (i := 588) (by decide +kernel), List.mem_of_getElem? (i := 589) (by decide +kernel)⟩
theorem lw_p27 : lw_okq (⟨"LocationDesk$Part", "take", "(LLocationDesk$Part;)V"⟩, 6) := ⟨⟨by decide +kernel, by decide +kernel⟩, List.mem_of_getElem? (i := 38) (by decide +kernel), List.mem_of_getElem? (i := 592) (by decide +kernel), List.mem_of_getElem? (i := 593) (by decide +kernel)⟩
theorem lw_p28 : lw_okq (⟨"LocationDesk$Run", "keep", "(I[I)I"⟩, 16) := ⟨⟨by decide +kernel, by decide +kernel⟩, List.mem_of_getElem? (i := 152) (by decide +kernel), List.mem_of_getElem? (i := 596) (by decide +kernel), List.mem_of_getElem? (i := 597) (by decide +kernel)⟩
theorem lw_p29 : lw_okq (⟨"LocationDesk$Part", "becomeBlock", "([III)V"⟩, 6) := ⟨⟨by decide +kernel, by decide +kernel⟩, List.mem_of_getElem? (i := 38) (by decide +kernel), List.mem_of_getElem? (i := 600) (by decide +kernel), List.mem_of_getElem? (i := 601) (by decide +kernel)⟩
theorem lw_p30 : lw_okq (⟨"LocationDesk$Run", "ask", "(II)I"⟩, 16) := ⟨⟨by decide +kernel, by decide +kernel⟩, List.mem_of_getElem? (i := 152) (by decide +kernel), List.mem_of_getElem? (i := 605) (by decide +kernel), List.mem_of_getElem? (i := 606) (by decide +kernel)⟩
theorem lw_p31 : lw_okq (⟨"LocationDesk$Run", "pushBytes", "(JI)I"⟩, 16) := ⟨⟨by decide +kernel, by decide +kernel⟩, List.mem_of_getElem? (i := 152) (by decide +kernel), List.mem_of_getElem? (i := 609) (by decide +kernel), List.mem_of_getElem? (i := 610) (by decide +kernel)⟩
def lw_privs_2 : List (MethodName × Nat) := [(⟨"LocationDesk$Run", "wanted", "(I)I"⟩, 16), (⟨"LocationDesk$Run", "pop", "()J"⟩, 16), (⟨"LocationDesk$Run", "call", "(JI)I"⟩, 16), (⟨"LocationDesk$Run", "operate", "(I[II)I"⟩, 16), (⟨"LocationDesk$Run", "push", "(J)I"⟩, 16), (⟨"LocationDesk$Run", "shuffle", "(I)I"⟩, 16), (⟨"LocationDesk$Run", "below", "(I)J"⟩, 16), (⟨"LocationDesk$Run", "changed", "(IJ)J"⟩, 16), (⟨"LocationDesk$Run", "addPiece", "(II)I"⟩, 16), (⟨"LocationDesk$Run", "holdTop", "()V"⟩, 16), (⟨"LocationDesk$Result", "addPiece", "(LLocationDesk$Part;II)V"⟩, 3), (⟨"LocationDesk$Part", "take", "(LLocationDesk$Part;)V"⟩, 6), (⟨"LocationDesk$Run", "keep", "(I[I)I"⟩, 16), (⟨"LocationDesk$Part", "becomeBlock", "([III)V"⟩, 6), (⟨"LocationDesk$Run", "ask", "(II)I"⟩, 16), (⟨"LocationDesk$Run", "pushBytes", "(JI)I"⟩, 16)]
theorem lw_r2 : ∀ q ∈ lw_privs_2, lw_okq q := List.forall_mem_cons.mpr ⟨lw_p16, List.forall_mem_cons.mpr ⟨lw_p17, List.forall_mem_cons.mpr ⟨lw_p18, List.forall_mem_cons.mpr ⟨lw_p19, List.forall_mem_cons.mpr ⟨lw_p20, List.forall_mem_cons.mpr ⟨lw_p21, List.forall_mem_cons.mpr ⟨lw_p22, List.forall_mem_cons.mpr ⟨lw_p23, List.forall_mem_cons.mpr ⟨lw_p24, List.forall_mem_cons.mpr ⟨lw_p25, List.forall_mem_cons.mpr ⟨lw_p26, List.forall_mem_cons.mpr ⟨lw_p27, List.forall_mem_cons.mpr ⟨lw_p28, List.forall_mem_cons.mpr ⟨lw_p29, List.forall_mem_cons.mpr ⟨lw_p30, List.forall_mem_cons.mpr ⟨lw_p31, fun _ h => absurd h List.not_mem_nil⟩⟩⟩⟩⟩⟩⟩⟩⟩⟩⟩⟩⟩⟩⟩⟩
theorem lw_p32 : lw_okq (⟨"LocationDesk$Machine", "hasBytes", "(JI)Z"⟩, 11) := ⟨⟨by decide +kernel, by decide +kernel⟩, List.mem_of_getElem? (i := 89) (by decide +kernel), List.mem_of_getElem? (i := 613) (by decide +kernel), List.mem_of_getElem? (i := 614) (by decide +kernel)⟩
theorem lw_p33 : lw_okq (⟨"LocationDesk$Machine", "bytes", "(JI)J"⟩, 11) := ⟨⟨by decide +kernel, by decide +kernel⟩, List.mem_of_getElem? (i := 89) (by decide +kernel), List.mem_of_getElem? (i := 617) (by decide +kernel), List.mem_of_getElem? (i := 618) (by decide +kernel)⟩
theorem lw_p34 : lw_okq (⟨"LocationDesk$Run", "base", "(III)I"⟩, 16) := ⟨⟨by decide +kernel, by decide +kernel⟩, List.mem_of_getElem? (i := 152) (by decide +kernel), List.mem_of_getElem? (i := 623) (by decide +kernel), List.mem_of_getElem? (i := 624) (by decide +kernel)⟩
theorem lw_p35 : lw_okq (⟨"LocationDesk$Run", "settle", "()I"⟩, 16) := ⟨⟨by decide +kernel, by decide +kernel⟩, List.mem_of_getElem? (i := 152) (by decide +kernel), List.mem_of_getElem? (i := 627) (by decide +kernel), List.mem_of_getElem? (i := 628) (by decide +kernel)⟩
theorem lw_p36 : lw_okq (⟨"LocationDesk$Run", "takeBase", "(LLocationDesk$Result;)I"⟩, 16) := ⟨⟨by decide +kernel, by decide +kernel⟩, List.mem_of_getElem? (i := 152) (by decide +kernel), List.mem_of_getElem? (i := 633) (by decide +kernel), List.mem_of_getElem? (i := 634) (by decide +kernel)⟩
theorem lw_p37 : lw_okq (⟨"LocationDesk$Machine", "cfaValue", "()J"⟩, 11) := ⟨⟨by decide +kernel, by decide +kernel⟩, List.mem_of_getElem? (i := 89) (by decide +kernel), List.mem_of_getElem? (i := 637) (by decide +kernel), List.mem_of_getElem? (i := 638) (by decide +kernel)⟩
theorem lw_p38 : lw_okq (⟨"LocationDesk$Result", "take", "(LLocationDesk$Result;)V"⟩, 3) := ⟨⟨by decide +kernel, by decide +kernel⟩, List.mem_of_getElem? (i := 31) (by decide +kernel), List.mem_of_getElem? (i := 642) (by decide +kernel), List.mem_of_getElem? (i := 643) (by decide +kernel)⟩
theorem lw_p39 : lw_okq (⟨"LocationDesk$Result", "count", "()I"⟩, 3) := ⟨⟨by decide +kernel, by decide +kernel⟩, List.mem_of_getElem? (i := 31) (by decide +kernel), List.mem_of_getElem? (i := 646) (by decide +kernel), List.mem_of_getElem? (i := 647) (by decide +kernel)⟩
theorem lw_p40 : lw_okq (⟨"LocationDesk", "tell", "(IIII)V"⟩, 13) := ⟨⟨by decide +kernel, by decide +kernel⟩, List.mem_of_getElem? (i := 23) (by decide +kernel), List.mem_of_getElem? (i := 650) (by decide +kernel), List.mem_of_getElem? (i := 651) (by decide +kernel)⟩
theorem lw_p41 : lw_okq (⟨"LocationDesk", "search", "([IJJI)I"⟩, 13) := ⟨⟨by decide +kernel, by decide +kernel⟩, List.mem_of_getElem? (i := 23) (by decide +kernel), List.mem_of_getElem? (i := 658) (by decide +kernel), List.mem_of_getElem? (i := 659) (by decide +kernel)⟩
theorem lw_p42 : lw_okq (⟨"LocationDesk", "endless", "(I)I"⟩, 13) := ⟨⟨by decide +kernel, by decide +kernel⟩, List.mem_of_getElem? (i := 23) (by decide +kernel), List.mem_of_getElem? (i := 662) (by decide +kernel), List.mem_of_getElem? (i := 663) (by decide +kernel)⟩
theorem lw_p43 : lw_okq (⟨"LocationDesk$Part", "blockByte", "(J)I"⟩, 6) := ⟨⟨by decide +kernel, by decide +kernel⟩, List.mem_of_getElem? (i := 38) (by decide +kernel), List.mem_of_getElem? (i := 684) (by decide +kernel), List.mem_of_getElem? (i := 685) (by decide +kernel)⟩
theorem lw_p44 : lw_okq (⟨"LocationDesk$Machine", "bitOf", "(LLocationDesk$Part;I)I"⟩, 11) := ⟨⟨by decide +kernel, by decide +kernel⟩, List.mem_of_getElem? (i := 89) (by decide +kernel), List.mem_of_getElem? (i := 698) (by decide +kernel), List.mem_of_getElem? (i := 699) (by decide +kernel)⟩
theorem lw_p45 : lw_okq (⟨"LocationDesk$Machine", "putBit", "(LLocationDesk$Part;II)Z"⟩, 11) := ⟨⟨by decide +kernel, by decide +kernel⟩, List.mem_of_getElem? (i := 89) (by decide +kernel), List.mem_of_getElem? (i := 707) (by decide +kernel), List.mem_of_getElem? (i := 708) (by decide +kernel)⟩
theorem lw_p46 : lw_okq (⟨"LocationDesk$Parser", "begin", "([II)V"⟩, 10) := ⟨⟨by decide +kernel, by decide +kernel⟩, List.mem_of_getElem? (i := 243) (by decide +kernel), List.mem_of_getElem? (i := 720) (by decide +kernel), List.mem_of_getElem? (i := 721) (by decide +kernel)⟩
theorem lw_p47 : lw_okq (⟨"LocationDesk$Reader", "readAll", "([II)V"⟩, 11) := ⟨⟨by decide +kernel, by decide +kernel⟩, List.mem_of_getElem? (i := 249) (by decide +kernel), List.mem_of_getElem? (i := 724) (by decide +kernel), List.mem_of_getElem? (i := 725) (by decide +kernel)⟩
def lw_privs_3 : List (MethodName × Nat) := [(⟨"LocationDesk$Machine", "hasBytes", "(JI)Z"⟩, 11), (⟨"LocationDesk$Machine", "bytes", "(JI)J"⟩, 11), (⟨"LocationDesk$Run", "base", "(III)I"⟩, 16), (⟨"LocationDesk$Run", "settle", "()I"⟩, 16), (⟨"LocationDesk$Run", "takeBase", "(LLocationDesk$Result;)I"⟩, 16), (⟨"LocationDesk$Machine", "cfaValue", "()J"⟩, 11), (⟨"LocationDesk$Result", "take", "(LLocationDesk$Result;)V"⟩, 3), (⟨"LocationDesk$Result", "count", "()I"⟩, 3), (⟨"LocationDesk", "tell", "(IIII)V"⟩, 13), (⟨"LocationDesk", "search", "([IJJI)I"⟩, 13), (⟨"LocationDesk", "endless", "(I)I"⟩, 13), (⟨"LocationDesk$Part", "blockByte", "(J)I"⟩, 6), (⟨"LocationDesk$Machine", "bitOf", "(LLocationDesk$Part;I)I"⟩, 11), (⟨"LocationDesk$Machine", "putBit", "(LLocationDesk$Part;II)Z"⟩, 11), (⟨"LocationDesk$Parser", "begin", "([II)V"⟩, 10), (⟨"LocationDesk$Reader", "readAll", "([II)V"⟩, 11)]
theorem lw_r3 : ∀ q ∈ lw_privs_3, lw_okq q := List.forall_mem_cons.mpr ⟨lw_p32, List.forall_mem_cons.mpr ⟨lw_p33, List.forall_mem_cons.mpr ⟨lw_p34, List.forall_mem_cons.mpr ⟨lw_p35, List.forall_mem_cons.mpr ⟨lw_p36, List.forall_mem_cons.mpr ⟨lw_p37, List.forall_mem_cons.mpr ⟨lw_p38, List.forall_mem_cons.mpr ⟨lw_p39, List.forall_mem_cons.mpr ⟨lw_p40, List.forall_mem_cons.mpr ⟨lw_p41, List.forall_mem_cons.mpr ⟨lw_p42, List.forall_mem_cons.mpr ⟨lw_p43, List.forall_mem_cons.mpr ⟨lw_p44, List.forall_mem_cons.mpr ⟨lw_p45, List.forall_mem_cons.mpr ⟨lw_p46, List.forall_mem_cons.mpr ⟨lw_p47, fun _ h => absurd h List.not_mem_nil⟩⟩⟩⟩⟩⟩⟩⟩⟩⟩⟩⟩⟩⟩⟩⟩
theorem lw_p48 : lw_okq (⟨"LocationDesk$Reader", "readToken", "()V"⟩, 11) := ⟨⟨by decide +kernel, by decide +kernel⟩, List.mem_of_getElem? (i := 249) (by decide +kernel), List.mem_of_getElem? (i := 729) (by decide +kernel), List.mem_of_getElem? (i := 730) (by decide +kernel)⟩
theorem lw_p49 : lw_okq (⟨"LocationDesk$Reader", "letter", "(I)I"⟩, 11) := ⟨⟨by decide +kernel, by decide +kernel⟩, List.mem_of_getElem? (i := 249) (by decide +kernel), List.mem_of_getElem? (i := 733) (by decide +kernel), List.mem_of_getElem? (i := 734) (by decide +kernel)⟩
theorem lw_p50 : lw_okq (⟨"LocationDesk$Reader", "readWord", "()V"⟩, 11) := ⟨⟨by decide +kernel, by decide +kernel⟩, List.mem_of_getElem? (i := 249) (by decide +kernel), List.mem_of_getElem? (i := 740) (by decide +kernel), List.mem_of_getElem? (i := 741) (by decide +kernel)⟩
theorem lw_p51 : lw_okq (⟨"LocationDesk$Reader", "wordKind", "()I"⟩, 11) := ⟨⟨by decide +kernel, by decide +kernel⟩, List.mem_of_getElem? (i := 249) (by decide +kernel), List.mem_of_getElem? (i := 747) (by decide +kernel), List.mem_of_getElem? (i := 748) (by decide +kernel)⟩
theorem lw_p52 : lw_okq (⟨"LocationDesk$Reader", "isWord", "(Ljava/lang/String;)Z"⟩, 11) := ⟨⟨by decide +kernel, by decide +kernel⟩, List.mem_of_getElem? (i := 249) (by decide +kernel), List.mem_of_getElem? (i := 752) (by decide +kernel), List.mem_of_getElem? (i := 753) (by decide +kernel)⟩
theorem lw_p53 : lw_okq (⟨"LocationDesk$Reader", "readNumber", "()V"⟩, 11) := ⟨⟨by decide +kernel, by decide +kernel⟩, List.mem_of_getElem? (i := 249) (by decide +kernel), List.mem_of_getElem? (i := 813) (by decide +kernel), List.mem_of_getElem? (i := 814) (by decide +kernel)⟩
theorem lw_p54 : lw_okq (⟨"LocationDesk$Reader", "readAt", "()V"⟩, 11) := ⟨⟨by decide +kernel, by decide +kernel⟩, List.mem_of_getElem? (i := 249) (by decide +kernel), List.mem_of_getElem? (i := 818) (by decide +kernel), List.mem_of_getElem? (i := 819) (by decide +kernel)⟩
theorem lw_p55 : lw_okq (⟨"LocationDesk$Reader", "readSign", "(I)V"⟩, 11) := ⟨⟨by decide +kernel, by decide +kernel⟩, List.mem_of_getElem? (i := 249) (by decide +kernel), List.mem_of_getElem? (i := 822) (by decide +kernel), List.mem_of_getElem? (i := 823) (by decide +kernel)⟩
theorem lw_p56 : lw_okq (⟨"LocationDesk$Parser", "take", "()V"⟩, 10) := ⟨⟨by decide +kernel, by decide +kernel⟩, List.mem_of_getElem? (i := 243) (by decide +kernel), List.mem_of_getElem? (i := 885) (by decide +kernel), List.mem_of_getElem? (i := 886) (by decide +kernel)⟩
theorem lw_p57 : lw_okq (⟨"LocationDesk$Parser", "goesOn", "()Z"⟩, 10) := ⟨⟨by decide +kernel, by decide +kernel⟩, List.mem_of_getElem? (i := 243) (by decide +kernel), List.mem_of_getElem? (i := 889) (by decide +kernel), List.mem_of_getElem? (i := 890) (by decide +kernel)⟩
theorem lw_p58 : lw_okq (⟨"LocationDesk$Parser", "readDeclaration", "()V"⟩, 10) := ⟨⟨by decide +kernel, by decide +kernel⟩, List.mem_of_getElem? (i := 243) (by decide +kernel), List.mem_of_getElem? (i := 893) (by decide +kernel), List.mem_of_getElem? (i := 894) (by decide +kernel)⟩
theorem lw_p59 : lw_okq (⟨"LocationDesk$Reader", "letters", "(I)[I"⟩, 11) := ⟨⟨by decide +kernel, by decide +kernel⟩, List.mem_of_getElem? (i := 249) (by decide +kernel), List.mem_of_getElem? (i := 897) (by decide +kernel), List.mem_of_getElem? (i := 898) (by decide +kernel)⟩
theorem lw_p60 : lw_okq (⟨"LocationDesk$Parser", "refuse", "(I)V"⟩, 10) := ⟨⟨by decide +kernel, by decide +kernel⟩, List.mem_of_getElem? (i := 243) (by decide +kernel), List.mem_of_getElem? (i := 910) (by decide +kernel), List.mem_of_getElem? (i := 911) (by decide +kernel)⟩
theorem lw_p61 : lw_okq (⟨"LocationDesk$Parser", "isKnown", "([I)Z"⟩, 10) := ⟨⟨by decide +kernel, by decide +kernel⟩, List.mem_of_getElem? (i := 243) (by decide +kernel), List.mem_of_getElem? (i := 914) (by decide +kernel), List.mem_of_getElem? (i := 915) (by decide +kernel)⟩
theorem lw_p62 : lw_okq (⟨"LocationDesk$Parser", "expect", "(I)V"⟩, 10) := ⟨⟨by decide +kernel, by decide +kernel⟩, List.mem_of_getElem? (i := 243) (by decide +kernel), List.mem_of_getElem? (i := 967) (by decide +kernel), List.mem_of_getElem? (i := 968) (by decide +kernel)⟩
theorem lw_p63 : lw_okq (⟨"LocationDesk$Parser", "readRows", "(LLocationDesk$Variable;)V"⟩, 10) := ⟨⟨by decide +kernel, by decide +kernel⟩, List.mem_of_getElem? (i := 243) (by decide +kernel), List.mem_of_getElem? (i := 971) (by decide +kernel), List.mem_of_getElem? (i := 972) (by decide +kernel)⟩
def lw_privs_4 : List (MethodName × Nat) := [(⟨"LocationDesk$Reader", "readToken", "()V"⟩, 11), (⟨"LocationDesk$Reader", "letter", "(I)I"⟩, 11), (⟨"LocationDesk$Reader", "readWord", "()V"⟩, 11), (⟨"LocationDesk$Reader", "wordKind", "()I"⟩, 11), (⟨"LocationDesk$Reader", "isWord", "(Ljava/lang/String;)Z"⟩, 11), (⟨"LocationDesk$Reader", "readNumber", "()V"⟩, 11), (⟨"LocationDesk$Reader", "readAt", "()V"⟩, 11), (⟨"LocationDesk$Reader", "readSign", "(I)V"⟩, 11), (⟨"LocationDesk$Parser", "take", "()V"⟩, 10), (⟨"LocationDesk$Parser", "goesOn", "()Z"⟩, 10), (⟨"LocationDesk$Parser", "readDeclaration", "()V"⟩, 10), (⟨"LocationDesk$Reader", "letters", "(I)[I"⟩, 11), (⟨"LocationDesk$Parser", "refuse", "(I)V"⟩, 10), (⟨"LocationDesk$Parser", "isKnown", "([I)Z"⟩, 10), (⟨"LocationDesk$Parser", "expect", "(I)V"⟩, 10), (⟨"LocationDesk$Parser", "readRows", "(LLocationDesk$Variable;)V"⟩, 10)]
theorem lw_r4 : ∀ q ∈ lw_privs_4, lw_okq q := List.forall_mem_cons.mpr ⟨lw_p48, List.forall_mem_cons.mpr ⟨lw_p49, List.forall_mem_cons.mpr ⟨lw_p50, List.forall_mem_cons.mpr ⟨lw_p51, List.forall_mem_cons.mpr ⟨lw_p52, List.forall_mem_cons.mpr ⟨lw_p53, List.forall_mem_cons.mpr ⟨lw_p54, List.forall_mem_cons.mpr ⟨lw_p55, List.forall_mem_cons.mpr ⟨lw_p56, List.forall_mem_cons.mpr ⟨lw_p57, List.forall_mem_cons.mpr ⟨lw_p58, List.forall_mem_cons.mpr ⟨lw_p59, List.forall_mem_cons.mpr ⟨lw_p60, List.forall_mem_cons.mpr ⟨lw_p61, List.forall_mem_cons.mpr ⟨lw_p62, List.forall_mem_cons.mpr ⟨lw_p63, fun _ h => absurd h List.not_mem_nil⟩⟩⟩⟩⟩⟩⟩⟩⟩⟩⟩⟩⟩⟩⟩⟩
theorem lw_p64 : lw_okq (⟨"LocationDesk$Parser", "readRange", "(LLocationDesk$Variable;I)V"⟩, 10) := ⟨⟨by decide +kernel, by decide +kernel⟩, List.mem_of_getElem? (i := 243) (by decide +kernel), List.mem_of_getElem? (i := 975) (by decide +kernel), List.mem_of_getElem? (i := 976) (by decide +kernel)⟩
theorem lw_p65 : lw_okq (⟨"LocationDesk$Parser", "readLocation", "()LLocationDesk$Place;"⟩, 10) := ⟨⟨by decide +kernel, by decide +kernel⟩, List.mem_of_getElem? (i := 243) (by decide +kernel), List.mem_of_getElem? (i := 979) (by decide +kernel), List.mem_of_getElem? (i := 980) (by decide +kernel)⟩
theorem lw_p66 : lw_okq (⟨"LocationDesk$Parser", "raise", "()Z"⟩, 10) := ⟨⟨by decide +kernel, by decide +kernel⟩, List.mem_of_getElem? (i := 243) (by decide +kernel), List.mem_of_getElem? (i := 983) (by decide +kernel), List.mem_of_getElem? (i := 984) (by decide +kernel)⟩
theorem lw_p67 : lw_okq (⟨"LocationDesk$Parser", "readPlace", "()LLocationDesk$Place;"⟩, 10) := ⟨⟨by decide +kernel, by decide +kernel⟩, List.mem_of_getElem? (i := 243) (by decide +kernel), List.mem_of_getElem? (i := 987) (by decide +kernel), List.mem_of_getElem? (i := 988) (by decide +kernel)⟩
theorem lw_p68 : lw_okq (⟨"LocationDesk$Parser", "refuseHighRegister", "()J"⟩, 10) := ⟨⟨by decide +kernel, by decide +kernel⟩, List.mem_of_getElem? (i := 243) (by decide +kernel), List.mem_of_getElem? (i := 1032) (by decide +kernel), List.mem_of_getElem? (i := 1033) (by decide +kernel)⟩
theorem lw_p69 : lw_okq (⟨"LocationDesk$Parser", "readChoice", "()LLocationDesk$Node;"⟩, 10) := ⟨⟨by decide +kernel, by decide +kernel⟩, List.mem_of_getElem? (i := 243) (by decide +kernel), List.mem_of_getElem? (i := 1037) (by decide +kernel), List.mem_of_getElem? (i := 1038) (by decide +kernel)⟩
theorem lw_p70 : lw_okq (⟨"LocationDesk$Parser", "readLevel", "(I)LLocationDesk$Node;"⟩, 10) := ⟨⟨by decide +kernel, by decide +kernel⟩, List.mem_of_getElem? (i := 243) (by decide +kernel), List.mem_of_getElem? (i := 1041) (by decide +kernel), List.mem_of_getElem? (i := 1042) (by decide +kernel)⟩
theorem lw_p71 : lw_okq (⟨"LocationDesk$Parser", "readUnary", "()LLocationDesk$Node;"⟩, 10) := ⟨⟨by decide +kernel, by decide +kernel⟩, List.mem_of_getElem? (i := 243) (by decide +kernel), List.mem_of_getElem? (i := 1045) (by decide +kernel), List.mem_of_getElem? (i := 1046) (by decide +kernel)⟩
theorem lw_p72 : lw_okq (⟨"LocationDesk$Parser", "readBlock", "()[I"⟩, 10) := ⟨⟨by decide +kernel, by decide +kernel⟩, List.mem_of_getElem? (i := 243) (by decide +kernel), List.mem_of_getElem? (i := 1096) (by decide +kernel), List.mem_of_getElem? (i := 1097) (by decide +kernel)⟩
theorem lw_p73 : lw_okq (⟨"LocationDesk$Parser", "readWidth", "(LLocationDesk$Place;)V"⟩, 10) := ⟨⟨by decide +kernel, by decide +kernel⟩, List.mem_of_getElem? (i := 243) (by decide +kernel), List.mem_of_getElem? (i := 1102) (by decide +kernel), List.mem_of_getElem? (i := 1103) (by decide +kernel)⟩
theorem lw_p74 : lw_okq (⟨"LocationDesk$Coder", "code", "(LLocationDesk$Variable;)[I"⟩, 2) := ⟨⟨by decide +kernel, by decide +kernel⟩, List.mem_of_getElem? (i := 329) (by decide +kernel), List.mem_of_getElem? (i := 1107) (by decide +kernel), List.mem_of_getElem? (i := 1108) (by decide +kernel)⟩
theorem lw_p75 : lw_okq (⟨"LocationDesk$Coder", "putLocation", "(LLocationDesk$Place;)Z"⟩, 2) := ⟨⟨by decide +kernel, by decide +kernel⟩, List.mem_of_getElem? (i := 329) (by decide +kernel), List.mem_of_getElem? (i := 1111) (by decide +kernel), List.mem_of_getElem? (i := 1112) (by decide +kernel)⟩
theorem lw_p76 : lw_okq (⟨"LocationDesk$Coder", "putPlace", "(LLocationDesk$Place;)V"⟩, 2) := ⟨⟨by decide +kernel, by decide +kernel⟩, List.mem_of_getElem? (i := 329) (by decide +kernel), List.mem_of_getElem? (i := 1115) (by decide +kernel), List.mem_of_getElem? (i := 1116) (by decide +kernel)⟩
theorem lw_p77 : lw_okq (⟨"LocationDesk$Coder", "put", "(I)V"⟩, 2) := ⟨⟨by decide +kernel, by decide +kernel⟩, List.mem_of_getElem? (i := 329) (by decide +kernel), List.mem_of_getElem? (i := 1119) (by decide +kernel), List.mem_of_getElem? (i := 1120) (by decide +kernel)⟩
theorem lw_p78 : lw_okq (⟨"LocationDesk$Coder", "putNode", "(LLocationDesk$Node;I)V"⟩, 2) := ⟨⟨by decide +kernel, by decide +kernel⟩, List.mem_of_getElem? (i := 329) (by decide +kernel), List.mem_of_getElem? (i := 1123) (by decide +kernel), List.mem_of_getElem? (i := 1124) (by decide +kernel)⟩
theorem lw_p79 : lw_okq (⟨"LocationDesk$Coder", "putConstant", "(J)V"⟩, 2) := ⟨⟨by decide +kernel, by decide +kernel⟩, List.mem_of_getElem? (i := 329) (by decide +kernel), List.mem_of_getElem? (i := 1127) (by decide +kernel), List.mem_of_getElem? (i := 1128) (by decide +kernel)⟩
def lw_privs_5 : List (MethodName × Nat) := [(⟨"LocationDesk$Parser", "readRange", "(LLocationDesk$Variable;I)V"⟩, 10), (⟨"LocationDesk$Parser", "readLocation", "()LLocationDesk$Place;"⟩, 10), (⟨"LocationDesk$Parser", "raise", "()Z"⟩, 10), (⟨"LocationDesk$Parser", "readPlace", "()LLocationDesk$Place;"⟩, 10), (⟨"LocationDesk$Parser", "refuseHighRegister", "()J"⟩, 10), (⟨"LocationDesk$Parser", "readChoice", "()LLocationDesk$Node;"⟩, 10), (⟨"LocationDesk$Parser", "readLevel", "(I)LLocationDesk$Node;"⟩, 10), (⟨"LocationDesk$Parser", "readUnary", "()LLocationDesk$Node;"⟩, 10), (⟨"LocationDesk$Parser", "readBlock", "()[I"⟩, 10), (⟨"LocationDesk$Parser", "readWidth", "(LLocationDesk$Place;)V"⟩, 10), (⟨"LocationDesk$Coder", "code", "(LLocationDesk$Variable;)[I"⟩, 2), (⟨"LocationDesk$Coder", "putLocation", "(LLocationDesk$Place;)Z"⟩, 2), (⟨"LocationDesk$Coder", "putPlace", "(LLocationDesk$Place;)V"⟩, 2), (⟨"LocationDesk$Coder", "put", "(I)V"⟩, 2), (⟨"LocationDesk$Coder", "putNode", "(LLocationDesk$Node;I)V"⟩, 2), (⟨"LocationDesk$Coder", "putConstant", "(J)V"⟩, 2)]
theorem lw_r5 : ∀ q ∈ lw_privs_5, lw_okq q := List.forall_mem_cons.mpr ⟨lw_p64, List.forall_mem_cons.mpr ⟨lw_p65, List.forall_mem_cons.mpr ⟨lw_p66, List.forall_mem_cons.mpr ⟨lw_p67, List.forall_mem_cons.mpr ⟨lw_p68, List.forall_mem_cons.mpr ⟨lw_p69, List.forall_mem_cons.mpr ⟨lw_p70, List.forall_mem_cons.mpr ⟨lw_p71, List.forall_mem_cons.mpr ⟨lw_p72, List.forall_mem_cons.mpr ⟨lw_p73, List.forall_mem_cons.mpr ⟨lw_p74, List.forall_mem_cons.mpr ⟨lw_p75, List.forall_mem_cons.mpr ⟨lw_p76, List.forall_mem_cons.mpr ⟨lw_p77, List.forall_mem_cons.mpr ⟨lw_p78, List.forall_mem_cons.mpr ⟨lw_p79, fun _ h => absurd h List.not_mem_nil⟩⟩⟩⟩⟩⟩⟩⟩⟩⟩⟩⟩⟩⟩⟩⟩
theorem lw_p80 : lw_okq (⟨"LocationDesk$Coder", "putNumber", "(JI)V"⟩, 2) := ⟨⟨by decide +kernel, by decide +kernel⟩, List.mem_of_getElem? (i := 329) (by decide +kernel), List.mem_of_getElem? (i := 1133) (by decide +kernel), List.mem_of_getElem? (i := 1134) (by decide +kernel)⟩
theorem lw_p81 : lw_okq (⟨"LocationDesk$Coder", "putBased", "(LLocationDesk$Node;J)V"⟩, 2) := ⟨⟨by decide +kernel, by decide +kernel⟩, List.mem_of_getElem? (i := 329) (by decide +kernel), List.mem_of_getElem? (i := 1139) (by decide +kernel), List.mem_of_getElem? (i := 1140) (by decide +kernel)⟩
theorem lw_p82 : lw_okq (⟨"LocationDesk$Coder", "putSignedLeb", "(J)V"⟩, 2) := ⟨⟨by decide +kernel, by decide +kernel⟩, List.mem_of_getElem? (i := 329) (by decide +kernel), List.mem_of_getElem? (i := 1143) (by decide +kernel), List.mem_of_getElem? (i := 1144) (by decide +kernel)⟩
theorem lw_p83 : lw_okq (⟨"LocationDesk$Coder", "putChoice", "(LLocationDesk$Node;I)V"⟩, 2) := ⟨⟨by decide +kernel, by decide +kernel⟩, List.mem_of_getElem? (i := 329) (by decide +kernel), List.mem_of_getElem? (i := 1150) (by decide +kernel), List.mem_of_getElem? (i := 1151) (by decide +kernel)⟩
theorem lw_p84 : lw_okq (⟨"LocationDesk$Coder", "patch", "(II)V"⟩, 2) := ⟨⟨by decide +kernel, by decide +kernel⟩, List.mem_of_getElem? (i := 329) (by decide +kernel), List.mem_of_getElem? (i := 1154) (by decide +kernel), List.mem_of_getElem? (i := 1155) (by decide +kernel)⟩
theorem lw_p85 : lw_okq (⟨"LocationDesk$Coder", "putChain", "(LLocationDesk$Node;I)V"⟩, 2) := ⟨⟨by decide +kernel, by decide +kernel⟩, List.mem_of_getElem? (i := 329) (by decide +kernel), List.mem_of_getElem? (i := 1158) (by decide +kernel), List.mem_of_getElem? (i := 1159) (by decide +kernel)⟩
theorem lw_p86 : lw_okq (⟨"LocationDesk$Coder", "putLeb", "(J)V"⟩, 2) := ⟨⟨by decide +kernel, by decide +kernel⟩, List.mem_of_getElem? (i := 329) (by decide +kernel), List.mem_of_getElem? (i := 1168) (by decide +kernel), List.mem_of_getElem? (i := 1169) (by decide +kernel)⟩
theorem lw_p87 : lw_okq (⟨"LocationDesk$Coder", "putUnary", "(LLocationDesk$Node;)V"⟩, 2) := ⟨⟨by decide +kernel, by decide +kernel⟩, List.mem_of_getElem? (i := 329) (by decide +kernel), List.mem_of_getElem? (i := 1175) (by decide +kernel), List.mem_of_getElem? (i := 1176) (by decide +kernel)⟩
theorem lw_p88 : lw_okq (⟨"LocationDesk$Coder", "putBlock", "([I)V"⟩, 2) := ⟨⟨by decide +kernel, by decide +kernel⟩, List.mem_of_getElem? (i := 329) (by decide +kernel), List.mem_of_getElem? (i := 1180) (by decide +kernel), List.mem_of_getElem? (i := 1181) (by decide +kernel)⟩
theorem lw_p89 : lw_okq (⟨"LocationDesk", "isVariable", "(I)Z"⟩, 13) := ⟨⟨by decide +kernel, by decide +kernel⟩, List.mem_of_getElem? (i := 23) (by decide +kernel), List.mem_of_getElem? (i := 1189) (by decide +kernel), List.mem_of_getElem? (i := 1190) (by decide +kernel)⟩
theorem lw_p90 : lw_okq (⟨"LocationDesk$Meaning", "say", "(LLocationDesk$Variable;J)I"⟩, 5) := ⟨⟨by decide +kernel, by decide +kernel⟩, List.mem_of_getElem? (i := 216) (by decide +kernel), List.mem_of_getElem? (i := 1203) (by decide +kernel), List.mem_of_getElem? (i := 1204) (by decide +kernel)⟩
theorem lw_p91 : lw_okq (⟨"LocationDesk$Meaning", "meet", "(LLocationDesk$Place;)V"⟩, 5) := ⟨⟨by decide +kernel, by decide +kernel⟩, List.mem_of_getElem? (i := 216) (by decide +kernel), List.mem_of_getElem? (i := 1212) (by decide +kernel), List.mem_of_getElem? (i := 1213) (by decide +kernel)⟩
theorem lw_p92 : lw_okq (⟨"LocationDesk$Meaning", "value", "(LLocationDesk$Node;I)J"⟩, 5) := ⟨⟨by decide +kernel, by decide +kernel⟩, List.mem_of_getElem? (i := 216) (by decide +kernel), List.mem_of_getElem? (i := 1217) (by decide +kernel), List.mem_of_getElem? (i := 1218) (by decide +kernel)⟩
theorem lw_p93 : lw_okq (⟨"LocationDesk$Meaning", "fail", "(I)J"⟩, 5) := ⟨⟨by decide +kernel, by decide +kernel⟩, List.mem_of_getElem? (i := 216) (by decide +kernel), List.mem_of_getElem? (i := 1223) (by decide +kernel), List.mem_of_getElem? (i := 1224) (by decide +kernel)⟩
theorem lw_p94 : lw_okq (⟨"LocationDesk$Meaning", "chainValue", "(LLocationDesk$Node;I)J"⟩, 5) := ⟨⟨by decide +kernel, by decide +kernel⟩, List.mem_of_getElem? (i := 216) (by decide +kernel), List.mem_of_getElem? (i := 1228) (by decide +kernel), List.mem_of_getElem? (i := 1229) (by decide +kernel)⟩
theorem lw_p95 : lw_okq (⟨"LocationDesk$Meaning", "unaryValue", "(LLocationDesk$Node;J)J"⟩, 5) := ⟨⟨by decide +kernel, by decide +kernel⟩, List.mem_of_getElem? (i := 216) (by decide +kernel), List.mem_of_getElem? (i := 1234) (by decide +kernel), List.mem_of_getElem? (i := 1235) (by decide +kernel)⟩
def lw_privs_6 : List (MethodName × Nat) := [(⟨"LocationDesk$Coder", "putNumber", "(JI)V"⟩, 2), (⟨"LocationDesk$Coder", "putBased", "(LLocationDesk$Node;J)V"⟩, 2), (⟨"LocationDesk$Coder", "putSignedLeb", "(J)V"⟩, 2), (⟨"LocationDesk$Coder", "putChoice", "(LLocationDesk$Node;I)V"⟩, 2), (⟨"LocationDesk$Coder", "patch", "(II)V"⟩, 2), (⟨"LocationDesk$Coder", "putChain", "(LLocationDesk$Node;I)V"⟩, 2), (⟨"LocationDesk$Coder", "putLeb", "(J)V"⟩, 2), (⟨"LocationDesk$Coder", "putUnary", "(LLocationDesk$Node;)V"⟩, 2), (⟨"LocationDesk$Coder", "putBlock", "([I)V"⟩, 2), (⟨"LocationDesk", "isVariable", "(I)Z"⟩, 13), (⟨"LocationDesk$Meaning", "say", "(LLocationDesk$Variable;J)I"⟩, 5), (⟨"LocationDesk$Meaning", "meet", "(LLocationDesk$Place;)V"⟩, 5), (⟨"LocationDesk$Meaning", "value", "(LLocationDesk$Node;I)J"⟩, 5), (⟨"LocationDesk$Meaning", "fail", "(I)J"⟩, 5), (⟨"LocationDesk$Meaning", "chainValue", "(LLocationDesk$Node;I)J"⟩, 5), (⟨"LocationDesk$Meaning", "unaryValue", "(LLocationDesk$Node;J)J"⟩, 5)]
theorem lw_r6 : ∀ q ∈ lw_privs_6, lw_okq q := List.forall_mem_cons.mpr ⟨lw_p80, List.forall_mem_cons.mpr ⟨lw_p81, List.forall_mem_cons.mpr ⟨lw_p82, List.forall_mem_cons.mpr ⟨lw_p83, List.forall_mem_cons.mpr ⟨lw_p84, List.forall_mem_cons.mpr ⟨lw_p85, List.forall_mem_cons.mpr ⟨lw_p86, List.forall_mem_cons.mpr ⟨lw_p87, List.forall_mem_cons.mpr ⟨lw_p88, List.forall_mem_cons.mpr ⟨lw_p89, List.forall_mem_cons.mpr ⟨lw_p90, List.forall_mem_cons.mpr ⟨lw_p91, List.forall_mem_cons.mpr ⟨lw_p92, List.forall_mem_cons.mpr ⟨lw_p93, List.forall_mem_cons.mpr ⟨lw_p94, List.forall_mem_cons.mpr ⟨lw_p95, fun _ h => absurd h List.not_mem_nil⟩⟩⟩⟩⟩⟩⟩⟩⟩⟩⟩⟩⟩⟩⟩⟩
theorem lw_p96 : lw_okq (⟨"LocationDeskModel", "puts", "(I)V"⟩, 105) := ⟨⟨by decide +kernel, by decide +kernel⟩, List.mem_of_getElem? (i := 1245) (by decide +kernel), List.mem_of_getElem? (i := 1572) (by decide +kernel), List.mem_of_getElem? (i := 1573) (by decide +kernel)⟩
theorem lw_p97 : lw_okq (⟨"LocationDeskModel", "keep", "(II)I"⟩, 105) := ⟨⟨by decide +kernel, by decide +kernel⟩, List.mem_of_getElem? (i := 1245) (by decide +kernel), List.mem_of_getElem? (i := 1584) (by decide +kernel), List.mem_of_getElem? (i := 1585) (by decide +kernel)⟩
theorem lw_p98 : lw_okq (⟨"LocationDeskModel", "isFuel", "(I)Z"⟩, 105) := ⟨⟨by decide +kernel, by decide +kernel⟩, List.mem_of_getElem? (i := 1245) (by decide +kernel), List.mem_of_getElem? (i := 1624) (by decide +kernel), List.mem_of_getElem? (i := 1625) (by decide +kernel)⟩
theorem lw_p99 : lw_okq (⟨"LocationDeskModel", "runs", "(III)I"⟩, 105) := ⟨⟨by decide +kernel, by decide +kernel⟩, List.mem_of_getElem? (i := 1245) (by decide +kernel), List.mem_of_getElem? (i := 1628) (by decide +kernel), List.mem_of_getElem? (i := 1629) (by decide +kernel)⟩
theorem lw_p100 : lw_okq (⟨"LocationDeskModel", "begins", "(I)V"⟩, 105) := ⟨⟨by decide +kernel, by decide +kernel⟩, List.mem_of_getElem? (i := 1245) (by decide +kernel), List.mem_of_getElem? (i := 1632) (by decide +kernel), List.mem_of_getElem? (i := 1633) (by decide +kernel)⟩
theorem lw_p101 : lw_okq (⟨"LocationDeskModel", "exec", "(III)I"⟩, 105) := ⟨⟨by decide +kernel, by decide +kernel⟩, List.mem_of_getElem? (i := 1245) (by decide +kernel), List.mem_of_getElem? (i := 1636) (by decide +kernel), List.mem_of_getElem? (i := 1637) (by decide +kernel)⟩
theorem lw_p102 : lw_okq (⟨"LocationDeskModel", "clears", "(I)V"⟩, 105) := ⟨⟨by decide +kernel, by decide +kernel⟩, List.mem_of_getElem? (i := 1245) (by decide +kernel), List.mem_of_getElem? (i := 1640) (by decide +kernel), List.mem_of_getElem? (i := 1641) (by decide +kernel)⟩
theorem lw_p103 : lw_okq (⟨"LocationDeskModel", "fails", "(II)I"⟩, 105) := ⟨⟨by decide +kernel, by decide +kernel⟩, List.mem_of_getElem? (i := 1245) (by decide +kernel), List.mem_of_getElem? (i := 1644) (by decide +kernel), List.mem_of_getElem? (i := 1645) (by decide +kernel)⟩
theorem lw_p104 : lw_okq (⟨"LocationDeskModel", "isBase", "()Z"⟩, 105) := ⟨⟨by decide +kernel, by decide +kernel⟩, List.mem_of_getElem? (i := 1245) (by decide +kernel), List.mem_of_getElem? (i := 1648) (by decide +kernel), List.mem_of_getElem? (i := 1649) (by decide +kernel)⟩
theorem lw_p105 : lw_okq (⟨"LocationDeskModel", "pushed", "(IJ)V"⟩, 105) := ⟨⟨by decide +kernel, by decide +kernel⟩, List.mem_of_getElem? (i := 1245) (by decide +kernel), List.mem_of_getElem? (i := 1652) (by decide +kernel), List.mem_of_getElem? (i := 1653) (by decide +kernel)⟩
theorem lw_p106 : lw_okq (⟨"LocationDeskModel", "isKnown", "(I)Z"⟩, 105) := ⟨⟨by decide +kernel, by decide +kernel⟩, List.mem_of_getElem? (i := 1245) (by decide +kernel), List.mem_of_getElem? (i := 1656) (by decide +kernel), List.mem_of_getElem? (i := 1657) (by decide +kernel)⟩
theorem lw_p107 : lw_okq (⟨"LocationDeskModel", "operands", "(II)V"⟩, 105) := ⟨⟨by decide +kernel, by decide +kernel⟩, List.mem_of_getElem? (i := 1245) (by decide +kernel), List.mem_of_getElem? (i := 1660) (by decide +kernel), List.mem_of_getElem? (i := 1661) (by decide +kernel)⟩
theorem lw_p108 : lw_okq (⟨"LocationDeskModel", "fixed", "(IZI)J"⟩, 105) := ⟨⟨by decide +kernel, by decide +kernel⟩, List.mem_of_getElem? (i := 1245) (by decide +kernel), List.mem_of_getElem? (i := 1664) (by decide +kernel), List.mem_of_getElem? (i := 1665) (by decide +kernel)⟩
theorem lw_p109 : lw_okq (⟨"LocationDeskModel", "leb", "(ZI)J"⟩, 105) := ⟨⟨by decide +kernel, by decide +kernel⟩, List.mem_of_getElem? (i := 1245) (by decide +kernel), List.mem_of_getElem? (i := 1668) (by decide +kernel), List.mem_of_getElem? (i := 1669) (by decide +kernel)⟩
theorem lw_p110 : lw_okq (⟨"LocationDeskModel", "isAbove", "(JJ)Z"⟩, 105) := ⟨⟨by decide +kernel, by decide +kernel⟩, List.mem_of_getElem? (i := 1245) (by decide +kernel), List.mem_of_getElem? (i := 1674) (by decide +kernel), List.mem_of_getElem? (i := 1675) (by decide +kernel)⟩
theorem lw_p111 : lw_okq (⟨"LocationDeskModel", "isPiece", "(IZJJ)Z"⟩, 105) := ⟨⟨by decide +kernel, by decide +kernel⟩, List.mem_of_getElem? (i := 1245) (by decide +kernel), List.mem_of_getElem? (i := 1679) (by decide +kernel), List.mem_of_getElem? (i := 1680) (by decide +kernel)⟩
def lw_privs_7 : List (MethodName × Nat) := [(⟨"LocationDeskModel", "puts", "(I)V"⟩, 105), (⟨"LocationDeskModel", "keep", "(II)I"⟩, 105), (⟨"LocationDeskModel", "isFuel", "(I)Z"⟩, 105), (⟨"LocationDeskModel", "runs", "(III)I"⟩, 105), (⟨"LocationDeskModel", "begins", "(I)V"⟩, 105), (⟨"LocationDeskModel", "exec", "(III)I"⟩, 105), (⟨"LocationDeskModel", "clears", "(I)V"⟩, 105), (⟨"LocationDeskModel", "fails", "(II)I"⟩, 105), (⟨"LocationDeskModel", "isBase", "()Z"⟩, 105), (⟨"LocationDeskModel", "pushed", "(IJ)V"⟩, 105), (⟨"LocationDeskModel", "isKnown", "(I)Z"⟩, 105), (⟨"LocationDeskModel", "operands", "(II)V"⟩, 105), (⟨"LocationDeskModel", "fixed", "(IZI)J"⟩, 105), (⟨"LocationDeskModel", "leb", "(ZI)J"⟩, 105), (⟨"LocationDeskModel", "isAbove", "(JJ)Z"⟩, 105), (⟨"LocationDeskModel", "isPiece", "(IZJJ)Z"⟩, 105)]
theorem lw_r7 : ∀ q ∈ lw_privs_7, lw_okq q := List.forall_mem_cons.mpr ⟨lw_p96, List.forall_mem_cons.mpr ⟨lw_p97, List.forall_mem_cons.mpr ⟨lw_p98, List.forall_mem_cons.mpr ⟨lw_p99, List.forall_mem_cons.mpr ⟨lw_p100, List.forall_mem_cons.mpr ⟨lw_p101, List.forall_mem_cons.mpr ⟨lw_p102, List.forall_mem_cons.mpr ⟨lw_p103, List.forall_mem_cons.mpr ⟨lw_p104, List.forall_mem_cons.mpr ⟨lw_p105, List.forall_mem_cons.mpr ⟨lw_p106, List.forall_mem_cons.mpr ⟨lw_p107, List.forall_mem_cons.mpr ⟨lw_p108, List.forall_mem_cons.mpr ⟨lw_p109, List.forall_mem_cons.mpr ⟨lw_p110, List.forall_mem_cons.mpr ⟨lw_p111, fun _ h => absurd h List.not_mem_nil⟩⟩⟩⟩⟩⟩⟩⟩⟩⟩⟩⟩⟩⟩⟩⟩
theorem lw_p112 : lw_okq (⟨"LocationDeskModel", "wants", "(I)I"⟩, 105) := ⟨⟨by decide +kernel, by decide +kernel⟩, List.mem_of_getElem? (i := 1245) (by decide +kernel), List.mem_of_getElem? (i := 1685) (by decide +kernel), List.mem_of_getElem? (i := 1686) (by decide +kernel)⟩
theorem lw_p113 : lw_okq (⟨"LocationDeskModel", "isThere", "(JJ)Z"⟩, 105) := ⟨⟨by decide +kernel, by decide +kernel⟩, List.mem_of_getElem? (i := 1245) (by decide +kernel), List.mem_of_getElem? (i := 1690) (by decide +kernel), List.mem_of_getElem? (i := 1691) (by decide +kernel)⟩
theorem lw_p114 : lw_okq (⟨"LocationDeskModel", "pushes", "(I)Z"⟩, 105) := ⟨⟨by decide +kernel, by decide +kernel⟩, List.mem_of_getElem? (i := 1245) (by decide +kernel), List.mem_of_getElem? (i := 1694) (by decide +kernel), List.mem_of_getElem? (i := 1695) (by decide +kernel)⟩
theorem lw_p115 : lw_okq (⟨"LocationDeskModel", "pushes", "(IJJJJI)J"⟩, 105) := ⟨⟨by decide +kernel, by decide +kernel⟩, List.mem_of_getElem? (i := 1245) (by decide +kernel), List.mem_of_getElem? (i := 1698) (by decide +kernel), List.mem_of_getElem? (i := 1699) (by decide +kernel)⟩
theorem lw_p116 : lw_okq (⟨"LocationDeskModel", "acts", "(IIJJ)V"⟩, 105) := ⟨⟨by decide +kernel, by decide +kernel⟩, List.mem_of_getElem? (i := 1245) (by decide +kernel), List.mem_of_getElem? (i := 1702) (by decide +kernel), List.mem_of_getElem? (i := 1703) (by decide +kernel)⟩
theorem lw_p117 : lw_okq (⟨"LocationDeskModel", "read", "(JI)J"⟩, 105) := ⟨⟨by decide +kernel, by decide +kernel⟩, List.mem_of_getElem? (i := 1245) (by decide +kernel), List.mem_of_getElem? (i := 1706) (by decide +kernel), List.mem_of_getElem? (i := 1707) (by decide +kernel)⟩
theorem lw_p118 : lw_okq (⟨"LocationDeskModel", "worked", "(IJJ)J"⟩, 105) := ⟨⟨by decide +kernel, by decide +kernel⟩, List.mem_of_getElem? (i := 1245) (by decide +kernel), List.mem_of_getElem? (i := 1710) (by decide +kernel), List.mem_of_getElem? (i := 1711) (by decide +kernel)⟩
theorem lw_p119 : lw_okq (⟨"LocationDeskModel", "rest", "(JJ)J"⟩, 105) := ⟨⟨by decide +kernel, by decide +kernel⟩, List.mem_of_getElem? (i := 1245) (by decide +kernel), List.mem_of_getElem? (i := 1714) (by decide +kernel), List.mem_of_getElem? (i := 1715) (by decide +kernel)⟩
theorem lw_p120 : lw_okq (⟨"LocationDeskModel", "isBelow", "(JJ)Z"⟩, 105) := ⟨⟨by decide +kernel, by decide +kernel⟩, List.mem_of_getElem? (i := 1245) (by decide +kernel), List.mem_of_getElem? (i := 1718) (by decide +kernel), List.mem_of_getElem? (i := 1719) (by decide +kernel)⟩
theorem lw_p121 : lw_okq (⟨"LocationDeskModel", "hold", "(IIJI)V"⟩, 105) := ⟨⟨by decide +kernel, by decide +kernel⟩, List.mem_of_getElem? (i := 1245) (by decide +kernel), List.mem_of_getElem? (i := 1724) (by decide +kernel), List.mem_of_getElem? (i := 1725) (by decide +kernel)⟩
theorem lw_p122 : lw_okq (⟨"LocationDeskModel", "tells", "(II)I"⟩, 105) := ⟨⟨by decide +kernel, by decide +kernel⟩, List.mem_of_getElem? (i := 1245) (by decide +kernel), List.mem_of_getElem? (i := 1728) (by decide +kernel), List.mem_of_getElem? (i := 1729) (by decide +kernel)⟩
theorem lw_p123 : lw_okq (⟨"LocationDeskModel", "part", "(IIJIII)V"⟩, 105) := ⟨⟨by decide +kernel, by decide +kernel⟩, List.mem_of_getElem? (i := 1245) (by decide +kernel), List.mem_of_getElem? (i := 1732) (by decide +kernel), List.mem_of_getElem? (i := 1733) (by decide +kernel)⟩
theorem lw_p124 : lw_okq (⟨"LocationDeskModel", "empty", "()V"⟩, 105) := ⟨⟨by decide +kernel, by decide +kernel⟩, List.mem_of_getElem? (i := 1245) (by decide +kernel), List.mem_of_getElem? (i := 1736) (by decide +kernel), List.mem_of_getElem? (i := 1737) (by decide +kernel)⟩
theorem lw_p125 : lw_okq (⟨"LocationDeskModel", "finds", "(IIJJI)I"⟩, 105) := ⟨⟨by decide +kernel, by decide +kernel⟩, List.mem_of_getElem? (i := 1245) (by decide +kernel), List.mem_of_getElem? (i := 1744) (by decide +kernel), List.mem_of_getElem? (i := 1745) (by decide +kernel)⟩
theorem lw_p126 : lw_okq (⟨"LocationDeskModel", "number", "(II)J"⟩, 105) := ⟨⟨by decide +kernel, by decide +kernel⟩, List.mem_of_getElem? (i := 1245) (by decide +kernel), List.mem_of_getElem? (i := 1748) (by decide +kernel), List.mem_of_getElem? (i := 1749) (by decide +kernel)⟩
theorem lw_p127 : lw_okq (⟨"LocationDeskModel", "goes", "()Z"⟩, 105) := ⟨⟨by decide +kernel, by decide +kernel⟩, List.mem_of_getElem? (i := 1245) (by decide +kernel), List.mem_of_getElem? (i := 1768) (by decide +kernel), List.mem_of_getElem? (i := 1769) (by decide +kernel)⟩
def lw_privs_8 : List (MethodName × Nat) := [(⟨"LocationDeskModel", "wants", "(I)I"⟩, 105), (⟨"LocationDeskModel", "isThere", "(JJ)Z"⟩, 105), (⟨"LocationDeskModel", "pushes", "(I)Z"⟩, 105), (⟨"LocationDeskModel", "pushes", "(IJJJJI)J"⟩, 105), (⟨"LocationDeskModel", "acts", "(IIJJ)V"⟩, 105), (⟨"LocationDeskModel", "read", "(JI)J"⟩, 105), (⟨"LocationDeskModel", "worked", "(IJJ)J"⟩, 105), (⟨"LocationDeskModel", "rest", "(JJ)J"⟩, 105), (⟨"LocationDeskModel", "isBelow", "(JJ)Z"⟩, 105), (⟨"LocationDeskModel", "hold", "(IIJI)V"⟩, 105), (⟨"LocationDeskModel", "tells", "(II)I"⟩, 105), (⟨"LocationDeskModel", "part", "(IIJIII)V"⟩, 105), (⟨"LocationDeskModel", "empty", "()V"⟩, 105), (⟨"LocationDeskModel", "finds", "(IIJJI)I"⟩, 105), (⟨"LocationDeskModel", "number", "(II)J"⟩, 105), (⟨"LocationDeskModel", "goes", "()Z"⟩, 105)]
theorem lw_r8 : ∀ q ∈ lw_privs_8, lw_okq q := List.forall_mem_cons.mpr ⟨lw_p112, List.forall_mem_cons.mpr ⟨lw_p113, List.forall_mem_cons.mpr ⟨lw_p114, List.forall_mem_cons.mpr ⟨lw_p115, List.forall_mem_cons.mpr ⟨lw_p116, List.forall_mem_cons.mpr ⟨lw_p117, List.forall_mem_cons.mpr ⟨lw_p118, List.forall_mem_cons.mpr ⟨lw_p119, List.forall_mem_cons.mpr ⟨lw_p120, List.forall_mem_cons.mpr ⟨lw_p121, List.forall_mem_cons.mpr ⟨lw_p122, List.forall_mem_cons.mpr ⟨lw_p123, List.forall_mem_cons.mpr ⟨lw_p124, List.forall_mem_cons.mpr ⟨lw_p125, List.forall_mem_cons.mpr ⟨lw_p126, List.forall_mem_cons.mpr ⟨lw_p127, fun _ h => absurd h List.not_mem_nil⟩⟩⟩⟩⟩⟩⟩⟩⟩⟩⟩⟩⟩⟩⟩⟩
theorem lw_p128 : lw_okq (⟨"LocationDeskModel", "bit", "(IJ)I"⟩, 105) := ⟨⟨by decide +kernel, by decide +kernel⟩, List.mem_of_getElem? (i := 1245) (by decide +kernel), List.mem_of_getElem? (i := 1772) (by decide +kernel), List.mem_of_getElem? (i := 1773) (by decide +kernel)⟩
theorem lw_p129 : lw_okq (⟨"LocationDeskModel", "puts", "(IJI)Z"⟩, 105) := ⟨⟨by decide +kernel, by decide +kernel⟩, List.mem_of_getElem? (i := 1245) (by decide +kernel), List.mem_of_getElem? (i := 1781) (by decide +kernel), List.mem_of_getElem? (i := 1782) (by decide +kernel)⟩
theorem lw_p130 : lw_okq (⟨"LocationDeskModel", "tokens", "()V"⟩, 105) := ⟨⟨by decide +kernel, by decide +kernel⟩, List.mem_of_getElem? (i := 1245) (by decide +kernel), List.mem_of_getElem? (i := 1793) (by decide +kernel), List.mem_of_getElem? (i := 1794) (by decide +kernel)⟩
theorem lw_p131 : lw_okq (⟨"LocationDeskModel", "sign", "(I)I"⟩, 105) := ⟨⟨by decide +kernel, by decide +kernel⟩, List.mem_of_getElem? (i := 1245) (by decide +kernel), List.mem_of_getElem? (i := 1797) (by decide +kernel), List.mem_of_getElem? (i := 1798) (by decide +kernel)⟩
theorem lw_p132 : lw_okq (⟨"LocationDeskModel", "isSmall", "(I)Z"⟩, 105) := ⟨⟨by decide +kernel, by decide +kernel⟩, List.mem_of_getElem? (i := 1245) (by decide +kernel), List.mem_of_getElem? (i := 1801) (by decide +kernel), List.mem_of_getElem? (i := 1802) (by decide +kernel)⟩
theorem lw_p133 : lw_okq (⟨"LocationDeskModel", "isDigit", "(I)Z"⟩, 105) := ⟨⟨by decide +kernel, by decide +kernel⟩, List.mem_of_getElem? (i := 1245) (by decide +kernel), List.mem_of_getElem? (i := 1805) (by decide +kernel), List.mem_of_getElem? (i := 1806) (by decide +kernel)⟩
theorem lw_p134 : lw_okq (⟨"LocationDeskModel", "token", "(IJI)V"⟩, 105) := ⟨⟨by decide +kernel, by decide +kernel⟩, List.mem_of_getElem? (i := 1245) (by decide +kernel), List.mem_of_getElem? (i := 1810) (by decide +kernel), List.mem_of_getElem? (i := 1811) (by decide +kernel)⟩
theorem lw_p135 : lw_okq (⟨"LocationDeskModel", "word", "(J)I"⟩, 105) := ⟨⟨by decide +kernel, by decide +kernel⟩, List.mem_of_getElem? (i := 1245) (by decide +kernel), List.mem_of_getElem? (i := 1814) (by decide +kernel), List.mem_of_getElem? (i := 1815) (by decide +kernel)⟩
theorem lw_p136 : lw_okq (⟨"LocationDeskModel", "isLetter", "(I)Z"⟩, 105) := ⟨⟨by decide +kernel, by decide +kernel⟩, List.mem_of_getElem? (i := 1245) (by decide +kernel), List.mem_of_getElem? (i := 1830) (by decide +kernel), List.mem_of_getElem? (i := 1831) (by decide +kernel)⟩
theorem lw_p137 : lw_okq (⟨"LocationDeskModel", "signs", "(II)I"⟩, 105) := ⟨⟨by decide +kernel, by decide +kernel⟩, List.mem_of_getElem? (i := 1245) (by decide +kernel), List.mem_of_getElem? (i := 1834) (by decide +kernel), List.mem_of_getElem? (i := 1835) (by decide +kernel)⟩
theorem lw_p138 : lw_okq (⟨"LocationDeskModel", "declared", "()V"⟩, 105) := ⟨⟨by decide +kernel, by decide +kernel⟩, List.mem_of_getElem? (i := 1245) (by decide +kernel), List.mem_of_getElem? (i := 1838) (by decide +kernel), List.mem_of_getElem? (i := 1839) (by decide +kernel)⟩
theorem lw_p139 : lw_okq (⟨"LocationDeskModel", "fail", "(I)V"⟩, 105) := ⟨⟨by decide +kernel, by decide +kernel⟩, List.mem_of_getElem? (i := 1245) (by decide +kernel), List.mem_of_getElem? (i := 1842) (by decide +kernel), List.mem_of_getElem? (i := 1843) (by decide +kernel)⟩
theorem lw_p140 : lw_okq (⟨"LocationDeskModel", "need", "(I)V"⟩, 105) := ⟨⟨by decide +kernel, by decide +kernel⟩, List.mem_of_getElem? (i := 1245) (by decide +kernel), List.mem_of_getElem? (i := 1846) (by decide +kernel), List.mem_of_getElem? (i := 1847) (by decide +kernel)⟩
theorem lw_p141 : lw_okq (⟨"LocationDeskModel", "isSign", "(I)Z"⟩, 105) := ⟨⟨by decide +kernel, by decide +kernel⟩, List.mem_of_getElem? (i := 1245) (by decide +kernel), List.mem_of_getElem? (i := 1850) (by decide +kernel), List.mem_of_getElem? (i := 1851) (by decide +kernel)⟩
theorem lw_p142 : lw_okq (⟨"LocationDeskModel", "rows", "()V"⟩, 105) := ⟨⟨by decide +kernel, by decide +kernel⟩, List.mem_of_getElem? (i := 1245) (by decide +kernel), List.mem_of_getElem? (i := 1854) (by decide +kernel), List.mem_of_getElem? (i := 1855) (by decide +kernel)⟩
theorem lw_p143 : lw_okq (⟨"LocationDeskModel", "emits", "(JI)V"⟩, 105) := ⟨⟨by decide +kernel, by decide +kernel⟩, List.mem_of_getElem? (i := 1245) (by decide +kernel), List.mem_of_getElem? (i := 1858) (by decide +kernel), List.mem_of_getElem? (i := 1859) (by decide +kernel)⟩
def lw_privs_9 : List (MethodName × Nat) := [(⟨"LocationDeskModel", "bit", "(IJ)I"⟩, 105), (⟨"LocationDeskModel", "puts", "(IJI)Z"⟩, 105), (⟨"LocationDeskModel", "tokens", "()V"⟩, 105), (⟨"LocationDeskModel", "sign", "(I)I"⟩, 105), (⟨"LocationDeskModel", "isSmall", "(I)Z"⟩, 105), (⟨"LocationDeskModel", "isDigit", "(I)Z"⟩, 105), (⟨"LocationDeskModel", "token", "(IJI)V"⟩, 105), (⟨"LocationDeskModel", "word", "(J)I"⟩, 105), (⟨"LocationDeskModel", "isLetter", "(I)Z"⟩, 105), (⟨"LocationDeskModel", "signs", "(II)I"⟩, 105), (⟨"LocationDeskModel", "declared", "()V"⟩, 105), (⟨"LocationDeskModel", "fail", "(I)V"⟩, 105), (⟨"LocationDeskModel", "need", "(I)V"⟩, 105), (⟨"LocationDeskModel", "isSign", "(I)Z"⟩, 105), (⟨"LocationDeskModel", "rows", "()V"⟩, 105), (⟨"LocationDeskModel", "emits", "(JI)V"⟩, 105)]
theorem lw_r9 : ∀ q ∈ lw_privs_9, lw_okq q := List.forall_mem_cons.mpr ⟨lw_p128, List.forall_mem_cons.mpr ⟨lw_p129, List.forall_mem_cons.mpr ⟨lw_p130, List.forall_mem_cons.mpr ⟨lw_p131, List.forall_mem_cons.mpr ⟨lw_p132, List.forall_mem_cons.mpr ⟨lw_p133, List.forall_mem_cons.mpr ⟨lw_p134, List.forall_mem_cons.mpr ⟨lw_p135, List.forall_mem_cons.mpr ⟨lw_p136, List.forall_mem_cons.mpr ⟨lw_p137, List.forall_mem_cons.mpr ⟨lw_p138, List.forall_mem_cons.mpr ⟨lw_p139, List.forall_mem_cons.mpr ⟨lw_p140, List.forall_mem_cons.mpr ⟨lw_p141, List.forall_mem_cons.mpr ⟨lw_p142, List.forall_mem_cons.mpr ⟨lw_p143, fun _ h => absurd h List.not_mem_nil⟩⟩⟩⟩⟩⟩⟩⟩⟩⟩⟩⟩⟩⟩⟩⟩
theorem lw_p144 : lw_okq (⟨"LocationDeskModel", "emit", "(I)V"⟩, 105) := ⟨⟨by decide +kernel, by decide +kernel⟩, List.mem_of_getElem? (i := 1245) (by decide +kernel), List.mem_of_getElem? (i := 1862) (by decide +kernel), List.mem_of_getElem? (i := 1863) (by decide +kernel)⟩
theorem lw_p145 : lw_okq (⟨"LocationDeskModel", "location", "()V"⟩, 105) := ⟨⟨by decide +kernel, by decide +kernel⟩, List.mem_of_getElem? (i := 1245) (by decide +kernel), List.mem_of_getElem? (i := 1866) (by decide +kernel), List.mem_of_getElem? (i := 1867) (by decide +kernel)⟩
theorem lw_p146 : lw_okq (⟨"LocationDeskModel", "opens", "()V"⟩, 105) := ⟨⟨by decide +kernel, by decide +kernel⟩, List.mem_of_getElem? (i := 1245) (by decide +kernel), List.mem_of_getElem? (i := 1870) (by decide +kernel), List.mem_of_getElem? (i := 1871) (by decide +kernel)⟩
theorem lw_p147 : lw_okq (⟨"LocationDeskModel", "isPlace", "()Z"⟩, 105) := ⟨⟨by decide +kernel, by decide +kernel⟩, List.mem_of_getElem? (i := 1245) (by decide +kernel), List.mem_of_getElem? (i := 1874) (by decide +kernel), List.mem_of_getElem? (i := 1875) (by decide +kernel)⟩
theorem lw_p148 : lw_okq (⟨"LocationDeskModel", "isWord", "(I)Z"⟩, 105) := ⟨⟨by decide +kernel, by decide +kernel⟩, List.mem_of_getElem? (i := 1245) (by decide +kernel), List.mem_of_getElem? (i := 1878) (by decide +kernel), List.mem_of_getElem? (i := 1879) (by decide +kernel)⟩
theorem lw_p149 : lw_okq (⟨"LocationDeskModel", "place", "()V"⟩, 105) := ⟨⟨by decide +kernel, by decide +kernel⟩, List.mem_of_getElem? (i := 1245) (by decide +kernel), List.mem_of_getElem? (i := 1882) (by decide +kernel), List.mem_of_getElem? (i := 1883) (by decide +kernel)⟩
theorem lw_p150 : lw_okq (⟨"LocationDeskModel", "chosen", "()V"⟩, 105) := ⟨⟨by decide +kernel, by decide +kernel⟩, List.mem_of_getElem? (i := 1245) (by decide +kernel), List.mem_of_getElem? (i := 1886) (by decide +kernel), List.mem_of_getElem? (i := 1887) (by decide +kernel)⟩
theorem lw_p151 : lw_okq (⟨"LocationDeskModel", "operand", "()Z"⟩, 105) := ⟨⟨by decide +kernel, by decide +kernel⟩, List.mem_of_getElem? (i := 1245) (by decide +kernel), List.mem_of_getElem? (i := 1890) (by decide +kernel), List.mem_of_getElem? (i := 1891) (by decide +kernel)⟩
theorem lw_p152 : lw_okq (⟨"LocationDeskModel", "later", "(II)V"⟩, 105) := ⟨⟨by decide +kernel, by decide +kernel⟩, List.mem_of_getElem? (i := 1245) (by decide +kernel), List.mem_of_getElem? (i := 1894) (by decide +kernel), List.mem_of_getElem? (i := 1895) (by decide +kernel)⟩
theorem lw_p153 : lw_okq (⟨"LocationDeskModel", "push", "(J)V"⟩, 105) := ⟨⟨by decide +kernel, by decide +kernel⟩, List.mem_of_getElem? (i := 1245) (by decide +kernel), List.mem_of_getElem? (i := 1898) (by decide +kernel), List.mem_of_getElem? (i := 1899) (by decide +kernel)⟩
theorem lw_p154 : lw_okq (⟨"LocationDeskModel", "registered", "()V"⟩, 105) := ⟨⟨by decide +kernel, by decide +kernel⟩, List.mem_of_getElem? (i := 1245) (by decide +kernel), List.mem_of_getElem? (i := 1905) (by decide +kernel), List.mem_of_getElem? (i := 1906) (by decide +kernel)⟩
theorem lw_p155 : lw_okq (⟨"LocationDeskModel", "combined", "(I)J"⟩, 105) := ⟨⟨by decide +kernel, by decide +kernel⟩, List.mem_of_getElem? (i := 1245) (by decide +kernel), List.mem_of_getElem? (i := 1909) (by decide +kernel), List.mem_of_getElem? (i := 1910) (by decide +kernel)⟩
theorem lw_p156 : lw_okq (⟨"LocationDeskModel", "tops", "()I"⟩, 105) := ⟨⟨by decide +kernel, by decide +kernel⟩, List.mem_of_getElem? (i := 1245) (by decide +kernel), List.mem_of_getElem? (i := 1913) (by decide +kernel), List.mem_of_getElem? (i := 1914) (by decide +kernel)⟩
theorem lw_p157 : lw_okq (⟨"LocationDeskModel", "adds", "(I)Z"⟩, 105) := ⟨⟨by decide +kernel, by decide +kernel⟩, List.mem_of_getElem? (i := 1245) (by decide +kernel), List.mem_of_getElem? (i := 1917) (by decide +kernel), List.mem_of_getElem? (i := 1918) (by decide +kernel)⟩
theorem lw_p158 : lw_okq (⟨"LocationDeskModel", "isAlone", "(I)Z"⟩, 105) := ⟨⟨by decide +kernel, by decide +kernel⟩, List.mem_of_getElem? (i := 1245) (by decide +kernel), List.mem_of_getElem? (i := 1923) (by decide +kernel), List.mem_of_getElem? (i := 1924) (by decide +kernel)⟩
theorem lw_p159 : lw_okq (⟨"LocationDeskModel", "multiplies", "(IJ)I"⟩, 105) := ⟨⟨by decide +kernel, by decide +kernel⟩, List.mem_of_getElem? (i := 1245) (by decide +kernel), List.mem_of_getElem? (i := 1927) (by decide +kernel), List.mem_of_getElem? (i := 1928) (by decide +kernel)⟩
def lw_privs_10 : List (MethodName × Nat) := [(⟨"LocationDeskModel", "emit", "(I)V"⟩, 105), (⟨"LocationDeskModel", "location", "()V"⟩, 105), (⟨"LocationDeskModel", "opens", "()V"⟩, 105), (⟨"LocationDeskModel", "isPlace", "()Z"⟩, 105), (⟨"LocationDeskModel", "isWord", "(I)Z"⟩, 105), (⟨"LocationDeskModel", "place", "()V"⟩, 105), (⟨"LocationDeskModel", "chosen", "()V"⟩, 105), (⟨"LocationDeskModel", "operand", "()Z"⟩, 105), (⟨"LocationDeskModel", "later", "(II)V"⟩, 105), (⟨"LocationDeskModel", "push", "(J)V"⟩, 105), (⟨"LocationDeskModel", "registered", "()V"⟩, 105), (⟨"LocationDeskModel", "combined", "(I)J"⟩, 105), (⟨"LocationDeskModel", "tops", "()I"⟩, 105), (⟨"LocationDeskModel", "adds", "(I)Z"⟩, 105), (⟨"LocationDeskModel", "isAlone", "(I)Z"⟩, 105), (⟨"LocationDeskModel", "multiplies", "(IJ)I"⟩, 105)]
theorem lw_r10 : ∀ q ∈ lw_privs_10, lw_okq q := List.forall_mem_cons.mpr ⟨lw_p144, List.forall_mem_cons.mpr ⟨lw_p145, List.forall_mem_cons.mpr ⟨lw_p146, List.forall_mem_cons.mpr ⟨lw_p147, List.forall_mem_cons.mpr ⟨lw_p148, List.forall_mem_cons.mpr ⟨lw_p149, List.forall_mem_cons.mpr ⟨lw_p150, List.forall_mem_cons.mpr ⟨lw_p151, List.forall_mem_cons.mpr ⟨lw_p152, List.forall_mem_cons.mpr ⟨lw_p153, List.forall_mem_cons.mpr ⟨lw_p154, List.forall_mem_cons.mpr ⟨lw_p155, List.forall_mem_cons.mpr ⟨lw_p156, List.forall_mem_cons.mpr ⟨lw_p157, List.forall_mem_cons.mpr ⟨lw_p158, List.forall_mem_cons.mpr ⟨lw_p159, fun _ h => absurd h List.not_mem_nil⟩⟩⟩⟩⟩⟩⟩⟩⟩⟩⟩⟩⟩⟩⟩⟩
theorem lw_p160 : lw_okq (⟨"LocationDeskModel", "signed", "(J)V"⟩, 105) := ⟨⟨by decide +kernel, by decide +kernel⟩, List.mem_of_getElem? (i := 1245) (by decide +kernel), List.mem_of_getElem? (i := 1933) (by decide +kernel), List.mem_of_getElem? (i := 1934) (by decide +kernel)⟩
theorem lw_p161 : lw_okq (⟨"LocationDeskModel", "finished", "()V"⟩, 105) := ⟨⟨by decide +kernel, by decide +kernel⟩, List.mem_of_getElem? (i := 1245) (by decide +kernel), List.mem_of_getElem? (i := 1939) (by decide +kernel), List.mem_of_getElem? (i := 1940) (by decide +kernel)⟩
theorem lw_p162 : lw_okq (⟨"LocationDeskModel", "emitted", "(I)V"⟩, 105) := ⟨⟨by decide +kernel, by decide +kernel⟩, List.mem_of_getElem? (i := 1245) (by decide +kernel), List.mem_of_getElem? (i := 1943) (by decide +kernel), List.mem_of_getElem? (i := 1944) (by decide +kernel)⟩
theorem lw_p163 : lw_okq (⟨"LocationDeskModel", "operator", "()Z"⟩, 105) := ⟨⟨by decide +kernel, by decide +kernel⟩, List.mem_of_getElem? (i := 1245) (by decide +kernel), List.mem_of_getElem? (i := 1947) (by decide +kernel), List.mem_of_getElem? (i := 1948) (by decide +kernel)⟩
theorem lw_p164 : lw_okq (⟨"LocationDeskModel", "binary", "(II)Z"⟩, 105) := ⟨⟨by decide +kernel, by decide +kernel⟩, List.mem_of_getElem? (i := 1245) (by decide +kernel), List.mem_of_getElem? (i := 1951) (by decide +kernel), List.mem_of_getElem? (i := 1952) (by decide +kernel)⟩
theorem lw_p165 : lw_okq (⟨"LocationDeskModel", "reduced", "(I)V"⟩, 105) := ⟨⟨by decide +kernel, by decide +kernel⟩, List.mem_of_getElem? (i := 1245) (by decide +kernel), List.mem_of_getElem? (i := 1955) (by decide +kernel), List.mem_of_getElem? (i := 1956) (by decide +kernel)⟩
theorem lw_p166 : lw_okq (⟨"LocationDeskModel", "added", "()Z"⟩, 105) := ⟨⟨by decide +kernel, by decide +kernel⟩, List.mem_of_getElem? (i := 1245) (by decide +kernel), List.mem_of_getElem? (i := 1959) (by decide +kernel), List.mem_of_getElem? (i := 1960) (by decide +kernel)⟩
theorem lw_p167 : lw_okq (⟨"LocationDeskModel", "unsigned", "(J)V"⟩, 105) := ⟨⟨by decide +kernel, by decide +kernel⟩, List.mem_of_getElem? (i := 1245) (by decide +kernel), List.mem_of_getElem? (i := 1963) (by decide +kernel), List.mem_of_getElem? (i := 1964) (by decide +kernel)⟩
theorem lw_p168 : lw_okq (⟨"LocationDeskModel", "shifts", "(IJ)I"⟩, 105) := ⟨⟨by decide +kernel, by decide +kernel⟩, List.mem_of_getElem? (i := 1245) (by decide +kernel), List.mem_of_getElem? (i := 1967) (by decide +kernel), List.mem_of_getElem? (i := 1968) (by decide +kernel)⟩
theorem lw_p169 : lw_okq (⟨"LocationDeskModel", "compares", "(IJ)I"⟩, 105) := ⟨⟨by decide +kernel, by decide +kernel⟩, List.mem_of_getElem? (i := 1245) (by decide +kernel), List.mem_of_getElem? (i := 1974) (by decide +kernel), List.mem_of_getElem? (i := 1975) (by decide +kernel)⟩
theorem lw_p170 : lw_okq (⟨"LocationDeskModel", "ended", "()Z"⟩, 105) := ⟨⟨by decide +kernel, by decide +kernel⟩, List.mem_of_getElem? (i := 1245) (by decide +kernel), List.mem_of_getElem? (i := 1984) (by decide +kernel), List.mem_of_getElem? (i := 1985) (by decide +kernel)⟩
theorem lw_p171 : lw_okq (⟨"LocationDeskModel", "reducedAll", "()V"⟩, 105) := ⟨⟨by decide +kernel, by decide +kernel⟩, List.mem_of_getElem? (i := 1245) (by decide +kernel), List.mem_of_getElem? (i := 1988) (by decide +kernel), List.mem_of_getElem? (i := 1989) (by decide +kernel)⟩
theorem lw_p172 : lw_okq (⟨"LocationDeskModel", "turned", "()V"⟩, 105) := ⟨⟨by decide +kernel, by decide +kernel⟩, List.mem_of_getElem? (i := 1245) (by decide +kernel), List.mem_of_getElem? (i := 1992) (by decide +kernel), List.mem_of_getElem? (i := 1993) (by decide +kernel)⟩
theorem lw_p173 : lw_okq (⟨"LocationDeskModel", "faulty", "(II)I"⟩, 105) := ⟨⟨by decide +kernel, by decide +kernel⟩, List.mem_of_getElem? (i := 1245) (by decide +kernel), List.mem_of_getElem? (i := 1997) (by decide +kernel), List.mem_of_getElem? (i := 1998) (by decide +kernel)⟩
theorem lw_p174 : lw_okq (⟨"LocationDeskModel", "meantLocation", "(Z)V"⟩, 105) := ⟨⟨by decide +kernel, by decide +kernel⟩, List.mem_of_getElem? (i := 1245) (by decide +kernel), List.mem_of_getElem? (i := 2013) (by decide +kernel), List.mem_of_getElem? (i := 2014) (by decide +kernel)⟩
theorem lw_p175 : lw_okq (⟨"LocationDeskModel", "keepsSign", "(I)Z"⟩, 105) := ⟨⟨by decide +kernel, by decide +kernel⟩, List.mem_of_getElem? (i := 1245) (by decide +kernel), List.mem_of_getElem? (i := 2017) (by decide +kernel), List.mem_of_getElem? (i := 2018) (by decide +kernel)⟩
def lw_privs_11 : List (MethodName × Nat) := [(⟨"LocationDeskModel", "signed", "(J)V"⟩, 105), (⟨"LocationDeskModel", "finished", "()V"⟩, 105), (⟨"LocationDeskModel", "emitted", "(I)V"⟩, 105), (⟨"LocationDeskModel", "operator", "()Z"⟩, 105), (⟨"LocationDeskModel", "binary", "(II)Z"⟩, 105), (⟨"LocationDeskModel", "reduced", "(I)V"⟩, 105), (⟨"LocationDeskModel", "added", "()Z"⟩, 105), (⟨"LocationDeskModel", "unsigned", "(J)V"⟩, 105), (⟨"LocationDeskModel", "shifts", "(IJ)I"⟩, 105), (⟨"LocationDeskModel", "compares", "(IJ)I"⟩, 105), (⟨"LocationDeskModel", "ended", "()Z"⟩, 105), (⟨"LocationDeskModel", "reducedAll", "()V"⟩, 105), (⟨"LocationDeskModel", "turned", "()V"⟩, 105), (⟨"LocationDeskModel", "faulty", "(II)I"⟩, 105), (⟨"LocationDeskModel", "meantLocation", "(Z)V"⟩, 105), (⟨"LocationDeskModel", "keepsSign", "(I)Z"⟩, 105)]
theorem lw_r11 : ∀ q ∈ lw_privs_11, lw_okq q := List.forall_mem_cons.mpr ⟨lw_p160, List.forall_mem_cons.mpr ⟨lw_p161, List.forall_mem_cons.mpr ⟨lw_p162, List.forall_mem_cons.mpr ⟨lw_p163, List.forall_mem_cons.mpr ⟨lw_p164, List.forall_mem_cons.mpr ⟨lw_p165, List.forall_mem_cons.mpr ⟨lw_p166, List.forall_mem_cons.mpr ⟨lw_p167, List.forall_mem_cons.mpr ⟨lw_p168, List.forall_mem_cons.mpr ⟨lw_p169, List.forall_mem_cons.mpr ⟨lw_p170, List.forall_mem_cons.mpr ⟨lw_p171, List.forall_mem_cons.mpr ⟨lw_p172, List.forall_mem_cons.mpr ⟨lw_p173, List.forall_mem_cons.mpr ⟨lw_p174, List.forall_mem_cons.mpr ⟨lw_p175, fun _ h => absurd h List.not_mem_nil⟩⟩⟩⟩⟩⟩⟩⟩⟩⟩⟩⟩⟩⟩⟩⟩
theorem lw_p176 : lw_okq (⟨"LocationDeskModel", "meantPlace", "(ZI)V"⟩, 105) := ⟨⟨by decide +kernel, by decide +kernel⟩, List.mem_of_getElem? (i := 1245) (by decide +kernel), List.mem_of_getElem? (i := 2021) (by decide +kernel), List.mem_of_getElem? (i := 2022) (by decide +kernel)⟩
theorem lw_p177 : lw_okq (⟨"LocationDeskModel", "choice", "(Z)J"⟩, 105) := ⟨⟨by decide +kernel, by decide +kernel⟩, List.mem_of_getElem? (i := 1245) (by decide +kernel), List.mem_of_getElem? (i := 2025) (by decide +kernel), List.mem_of_getElem? (i := 2026) (by decide +kernel)⟩
theorem lw_p178 : lw_okq (⟨"LocationDeskModel", "meansOperand", "()Z"⟩, 105) := ⟨⟨by decide +kernel, by decide +kernel⟩, List.mem_of_getElem? (i := 1245) (by decide +kernel), List.mem_of_getElem? (i := 2029) (by decide +kernel), List.mem_of_getElem? (i := 2030) (by decide +kernel)⟩
theorem lw_p179 : lw_okq (⟨"LocationDeskModel", "keepsWord", "(I)Z"⟩, 105) := ⟨⟨by decide +kernel, by decide +kernel⟩, List.mem_of_getElem? (i := 1245) (by decide +kernel), List.mem_of_getElem? (i := 2034) (by decide +kernel), List.mem_of_getElem? (i := 2035) (by decide +kernel)⟩
theorem lw_p180 : lw_okq (⟨"LocationDeskModel", "value", "(J)V"⟩, 105) := ⟨⟨by decide +kernel, by decide +kernel⟩, List.mem_of_getElem? (i := 1245) (by decide +kernel), List.mem_of_getElem? (i := 2039) (by decide +kernel), List.mem_of_getElem? (i := 2040) (by decide +kernel)⟩
theorem lw_p181 : lw_okq (⟨"LocationDeskModel", "does", "()Z"⟩, 105) := ⟨⟨by decide +kernel, by decide +kernel⟩, List.mem_of_getElem? (i := 1245) (by decide +kernel), List.mem_of_getElem? (i := 2044) (by decide +kernel), List.mem_of_getElem? (i := 2045) (by decide +kernel)⟩
theorem lw_p182 : lw_okq (⟨"LocationDeskModel", "bases", "()V"⟩, 105) := ⟨⟨by decide +kernel, by decide +kernel⟩, List.mem_of_getElem? (i := 1245) (by decide +kernel), List.mem_of_getElem? (i := 2049) (by decide +kernel), List.mem_of_getElem? (i := 2050) (by decide +kernel)⟩
theorem lw_p183 : lw_okq (⟨"LocationDeskModel", "meansFinished", "()V"⟩, 105) := ⟨⟨by decide +kernel, by decide +kernel⟩, List.mem_of_getElem? (i := 1245) (by decide +kernel), List.mem_of_getElem? (i := 2053) (by decide +kernel), List.mem_of_getElem? (i := 2054) (by decide +kernel)⟩
theorem lw_p184 : lw_okq (⟨"LocationDeskModel", "meansOperator", "()Z"⟩, 105) := ⟨⟨by decide +kernel, by decide +kernel⟩, List.mem_of_getElem? (i := 1245) (by decide +kernel), List.mem_of_getElem? (i := 2057) (by decide +kernel), List.mem_of_getElem? (i := 2058) (by decide +kernel)⟩
theorem lw_p185 : lw_okq (⟨"LocationDeskModel", "meansBinary", "(II)Z"⟩, 105) := ⟨⟨by decide +kernel, by decide +kernel⟩, List.mem_of_getElem? (i := 1245) (by decide +kernel), List.mem_of_getElem? (i := 2061) (by decide +kernel), List.mem_of_getElem? (i := 2062) (by decide +kernel)⟩
theorem lw_p186 : lw_okq (⟨"LocationDeskModel", "meansReduced", "(I)V"⟩, 105) := ⟨⟨by decide +kernel, by decide +kernel⟩, List.mem_of_getElem? (i := 1245) (by decide +kernel), List.mem_of_getElem? (i := 2065) (by decide +kernel), List.mem_of_getElem? (i := 2066) (by decide +kernel)⟩
theorem lw_p187 : lw_okq (⟨"LocationDeskModel", "meansReducedAll", "()V"⟩, 105) := ⟨⟨by decide +kernel, by decide +kernel⟩, List.mem_of_getElem? (i := 1245) (by decide +kernel), List.mem_of_getElem? (i := 2069) (by decide +kernel), List.mem_of_getElem? (i := 2070) (by decide +kernel)⟩
def lw_privs_12 : List (MethodName × Nat) := [(⟨"LocationDeskModel", "meantPlace", "(ZI)V"⟩, 105), (⟨"LocationDeskModel", "choice", "(Z)J"⟩, 105), (⟨"LocationDeskModel", "meansOperand", "()Z"⟩, 105), (⟨"LocationDeskModel", "keepsWord", "(I)Z"⟩, 105), (⟨"LocationDeskModel", "value", "(J)V"⟩, 105), (⟨"LocationDeskModel", "does", "()Z"⟩, 105), (⟨"LocationDeskModel", "bases", "()V"⟩, 105), (⟨"LocationDeskModel", "meansFinished", "()V"⟩, 105), (⟨"LocationDeskModel", "meansOperator", "()Z"⟩, 105), (⟨"LocationDeskModel", "meansBinary", "(II)Z"⟩, 105), (⟨"LocationDeskModel", "meansReduced", "(I)V"⟩, 105), (⟨"LocationDeskModel", "meansReducedAll", "()V"⟩, 105)]
theorem lw_r12 : ∀ q ∈ lw_privs_12, lw_okq q := List.forall_mem_cons.mpr ⟨lw_p176, List.forall_mem_cons.mpr ⟨lw_p177, List.forall_mem_cons.mpr ⟨lw_p178, List.forall_mem_cons.mpr ⟨lw_p179, List.forall_mem_cons.mpr ⟨lw_p180, List.forall_mem_cons.mpr ⟨lw_p181, List.forall_mem_cons.mpr ⟨lw_p182, List.forall_mem_cons.mpr ⟨lw_p183, List.forall_mem_cons.mpr ⟨lw_p184, List.forall_mem_cons.mpr ⟨lw_p185, List.forall_mem_cons.mpr ⟨lw_p186, List.forall_mem_cons.mpr ⟨lw_p187, fun _ h => absurd h List.not_mem_nil⟩⟩⟩⟩⟩⟩⟩⟩⟩⟩⟩⟩
def lw_privs : List (MethodName × Nat) := lw_privs_1 ++ (lw_privs_2 ++ (lw_privs_3 ++ (lw_privs_4 ++ (lw_privs_5 ++ (lw_privs_6 ++ (lw_privs_7 ++ (lw_privs_8 ++ (lw_privs_9 ++ (lw_privs_10 ++ (lw_privs_11 ++ (lw_privs_12)))))))))))
def lw_tbl : List Cond := k2_sels lw_privs ++ tables_1
theorem lw_privs_ok : ∀ q ∈ lw_privs, lw_okq q := by
  show ∀ q ∈ lw_privs_1 ++ (lw_privs_2 ++ (lw_privs_3 ++ (lw_privs_4 ++ (lw_privs_5 ++ (lw_privs_6 ++ (lw_privs_7 ++ (lw_privs_8 ++ (lw_privs_9 ++ (lw_privs_10 ++ (lw_privs_11 ++ (lw_privs_12))))))))))), lw_okq q
  exact List.forall_mem_append.mpr ⟨lw_r1, List.forall_mem_append.mpr ⟨lw_r2, List.forall_mem_append.mpr ⟨lw_r3, List.forall_mem_append.mpr ⟨lw_r4, List.forall_mem_append.mpr ⟨lw_r5, List.forall_mem_append.mpr ⟨lw_r6, List.forall_mem_append.mpr ⟨lw_r7, List.forall_mem_append.mpr ⟨lw_r8, List.forall_mem_append.mpr ⟨lw_r9, List.forall_mem_append.mpr ⟨lw_r10, List.forall_mem_append.mpr ⟨lw_r11, lw_r12⟩⟩⟩⟩⟩⟩⟩⟩⟩⟩⟩
-- ===== end of PART A; then your names; then what follows =====
end
section
def RX0 : String := "LocationDesk$Coder"
def TX0 : u_T := fun k => match k with
  | 0 => ("LocationDesk$Coder", "buffer", "[I", true)
  | _ => ("LocationDesk$Coder", "size", "I", false)
def tyX0 : Nat → FieldType := fun k => match k with
  | 0 => .array .int
  | _ => .int
theorem nmX0 : ∀ a, a < 2 → ∀ b, b < 2 → a ≠ b → (TX0 a).2.1 ≠ (TX0 b).2.1 := by decide +kernel
theorem tyX0_ok : ∀ k, k < 2 → parseFieldDescriptor (TX0 k).2.2.1 = some (tyX0 k) := by decide +kernel
abbrev cX0_init : ByteArray := prog_2_method_1_code
def yX0_init : MethodName := ⟨RX0, "<init>", "()V"⟩
abbrev cX0_code : ByteArray := prog_2_method_2_code
def yX0_code : MethodName := ⟨RX0, "code", "(LLocationDesk$Variable;)[I"⟩
abbrev cX0_putLocation : ByteArray := prog_2_method_3_code
def yX0_putLocation : MethodName := ⟨RX0, "putLocation", "(LLocationDesk$Place;)Z"⟩
abbrev cX0_putPlace : ByteArray := prog_2_method_4_code
def yX0_putPlace : MethodName := ⟨RX0, "putPlace", "(LLocationDesk$Place;)V"⟩
abbrev cX0_putBlock : ByteArray := prog_2_method_5_code
def yX0_putBlock : MethodName := ⟨RX0, "putBlock", "([I)V"⟩
abbrev cX0_putNode : ByteArray := prog_2_method_6_code
def yX0_putNode : MethodName := ⟨RX0, "putNode", "(LLocationDesk$Node;I)V"⟩
abbrev cX0_putUnary : ByteArray := prog_2_method_7_code
def yX0_putUnary : MethodName := ⟨RX0, "putUnary", "(LLocationDesk$Node;)V"⟩
abbrev cX0_putChoice : ByteArray := prog_2_method_8_code
def yX0_putChoice : MethodName := ⟨RX0, "putChoice", "(LLocationDesk$Node;I)V"⟩
abbrev cX0_putChain : ByteArray := prog_2_method_9_code
def yX0_putChain : MethodName := ⟨RX0, "putChain", "(LLocationDesk$Node;I)V"⟩
abbrev cX0_isBased : ByteArray := prog_2_method_10_code
def yX0_isBased : MethodName := ⟨RX0, "isBased", "(LLocationDesk$Node;)Z"⟩
abbrev cX0_isPlainTerm : ByteArray := prog_2_method_11_code
def yX0_isPlainTerm : MethodName := ⟨RX0, "isPlainTerm", "(LLocationDesk$Node;)Z"⟩
abbrev cX0_putBased : ByteArray := prog_2_method_12_code
def yX0_putBased : MethodName := ⟨RX0, "putBased", "(LLocationDesk$Node;J)V"⟩
abbrev cX0_putConstant : ByteArray := prog_2_method_13_code
def yX0_putConstant : MethodName := ⟨RX0, "putConstant", "(J)V"⟩
abbrev cX0_put : ByteArray := prog_2_method_14_code
def yX0_put : MethodName := ⟨RX0, "put", "(I)V"⟩
abbrev cX0_putNumber : ByteArray := prog_2_method_15_code
def yX0_putNumber : MethodName := ⟨RX0, "putNumber", "(JI)V"⟩
abbrev cX0_patch : ByteArray := prog_2_method_16_code
def yX0_patch : MethodName := ⟨RX0, "patch", "(II)V"⟩
abbrev cX0_putLeb : ByteArray := prog_2_method_17_code
def yX0_putLeb : MethodName := ⟨RX0, "putLeb", "(J)V"⟩
abbrev cX0_putSignedLeb : ByteArray := prog_2_method_18_code
def yX0_putSignedLeb : MethodName := ⟨RX0, "putSignedLeb", "(J)V"⟩
def RX1 : String := "LocationDesk$Machine"
def TX1 : u_T := fun k => match k with
  | 0 => ("LocationDesk$Machine", "registers", "[J", true)
  | 1 => ("LocationDesk$Machine", "memory", "[I", true)
  | 2 => ("LocationDesk$Machine", "expressions", "[[I", true)
  | 3 => ("LocationDesk$Machine", "lists", "[[I", true)
  | 4 => ("LocationDesk$Machine", "frameNumber", "I", false)
  | 5 => ("LocationDesk$Machine", "cfaRegister", "I", false)
  | 6 => ("LocationDesk$Machine", "cfaOffset", "J", false)
  | 7 => ("LocationDesk$Machine", "hasObject", "Z", false)
  | 8 => ("LocationDesk$Machine", "object", "J", false)
  | 9 => ("LocationDesk$Machine", "hasTls", "Z", false)
  | _ => ("LocationDesk$Machine", "tls", "J", false)
def tyX1 : Nat → FieldType := fun k => match k with
  | 0 => .array .long
  | 1 => .array .int
  | 2 => .array (.array .int)
  | 3 => .array (.array .int)
  | 4 => .int
  | 5 => .int
  | 6 => .long
  | 7 => .boolean
  | 8 => .long
  | 9 => .boolean
  | _ => .long
theorem nmX1 : ∀ a, a < 11 → ∀ b, b < 11 → a ≠ b → (TX1 a).2.1 ≠ (TX1 b).2.1 := by decide +kernel
theorem tyX1_ok : ∀ k, k < 11 → parseFieldDescriptor (TX1 k).2.2.1 = some (tyX1 k) := by decide +kernel
abbrev cX1_init : ByteArray := prog_3_method_1_code
def yX1_init : MethodName := ⟨RX1, "<init>", "()V"⟩
abbrev cX1_registerValue : ByteArray := prog_3_method_2_code
def yX1_registerValue : MethodName := ⟨RX1, "registerValue", "(J)J"⟩
abbrev cX1_cfaValue : ByteArray := prog_3_method_3_code
def yX1_cfaValue : MethodName := ⟨RX1, "cfaValue", "()J"⟩
abbrev cX1_hasBytes : ByteArray := prog_3_method_4_code
def yX1_hasBytes : MethodName := ⟨RX1, "hasBytes", "(JI)Z"⟩
abbrev cX1_bytes : ByteArray := prog_3_method_5_code
def yX1_bytes : MethodName := ⟨RX1, "bytes", "(JI)J"⟩
abbrev cX1_bitOf : ByteArray := prog_3_method_6_code
def yX1_bitOf : MethodName := ⟨RX1, "bitOf", "(LLocationDesk$Part;I)I"⟩
abbrev cX1_putBit : ByteArray := prog_3_method_7_code
def yX1_putBit : MethodName := ⟨RX1, "putBit", "(LLocationDesk$Part;II)Z"⟩
def RX2 : String := "LocationDesk$Meaning"
def TX2 : u_T := fun k => match k with
  | 0 => ("LocationDesk$Meaning", "machine", "LLocationDesk$Machine;", true)
  | 1 => ("LocationDesk$Meaning", "runner", "LLocationDesk$Run;", true)
  | 2 => ("LocationDesk$Meaning", "outcome", "LLocationDesk$Result;", true)
  | 3 => ("LocationDesk$Meaning", "thing", "LLocationDesk$Part;", true)
  | _ => ("LocationDesk$Meaning", "fault", "I", false)
def tyX2 : Nat → FieldType := fun k => match k with
  | 0 => .object "LocationDesk$Machine"
  | 1 => .object "LocationDesk$Run"
  | 2 => .object "LocationDesk$Result"
  | 3 => .object "LocationDesk$Part"
  | _ => .int
theorem nmX2 : ∀ a, a < 5 → ∀ b, b < 5 → a ≠ b → (TX2 a).2.1 ≠ (TX2 b).2.1 := by decide +kernel
theorem tyX2_ok : ∀ k, k < 5 → parseFieldDescriptor (TX2 k).2.2.1 = some (tyX2 k) := by decide +kernel
abbrev cX2_init : ByteArray := prog_4_method_1_code
def yX2_init : MethodName := ⟨RX2, "<init>", "(LLocationDesk$Machine;LLocationDesk$Run;)V"⟩
abbrev cX2_say : ByteArray := prog_4_method_2_code
def yX2_say : MethodName := ⟨RX2, "say", "(LLocationDesk$Variable;J)I"⟩
abbrev cX2_placeFor : ByteArray := prog_4_method_3_code
def yX2_placeFor : MethodName := ⟨RX2, "placeFor", "(LLocationDesk$Variable;J)LLocationDesk$Place;"⟩
abbrev cX2_meet : ByteArray := prog_4_method_4_code
def yX2_meet : MethodName := ⟨RX2, "meet", "(LLocationDesk$Place;)V"⟩
abbrev cX2_value : ByteArray := prog_4_method_5_code
def yX2_value : MethodName := ⟨RX2, "value", "(LLocationDesk$Node;I)J"⟩
abbrev cX2_fail : ByteArray := prog_4_method_6_code
def yX2_fail : MethodName := ⟨RX2, "fail", "(I)J"⟩
abbrev cX2_chainValue : ByteArray := prog_4_method_7_code
def yX2_chainValue : MethodName := ⟨RX2, "chainValue", "(LLocationDesk$Node;I)J"⟩
abbrev cX2_unaryValue : ByteArray := prog_4_method_8_code
def yX2_unaryValue : MethodName := ⟨RX2, "unaryValue", "(LLocationDesk$Node;J)J"⟩
def RX3 : String := "LocationDesk$Node"
def TX3 : u_T := fun k => match k with
  | 0 => ("LocationDesk$Node", "kind", "I", true)
  | 1 => ("LocationDesk$Node", "number", "J", false)
  | 2 => ("LocationDesk$Node", "sign", "I", false)
  | 3 => ("LocationDesk$Node", "first", "LLocationDesk$Node;", false)
  | 4 => ("LocationDesk$Node", "yes", "LLocationDesk$Node;", false)
  | 5 => ("LocationDesk$Node", "no", "LLocationDesk$Node;", false)
  | _ => ("LocationDesk$Node", "next", "LLocationDesk$Node;", false)
def tyX3 : Nat → FieldType := fun k => match k with
  | 0 => .int
  | 1 => .long
  | 2 => .int
  | 3 => .object "LocationDesk$Node"
  | 4 => .object "LocationDesk$Node"
  | 5 => .object "LocationDesk$Node"
  | _ => .object "LocationDesk$Node"
theorem nmX3 : ∀ a, a < 7 → ∀ b, b < 7 → a ≠ b → (TX3 a).2.1 ≠ (TX3 b).2.1 := by decide +kernel
theorem tyX3_ok : ∀ k, k < 7 → parseFieldDescriptor (TX3 k).2.2.1 = some (tyX3 k) := by decide +kernel
abbrev cX3_init : ByteArray := prog_5_method_1_code
def yX3_init : MethodName := ⟨RX3, "<init>", "(IJ)V"⟩
def RX4 : String := "LocationDesk$Parser"
def TX4 : u_T := fun k => match k with
  | 0 => ("LocationDesk$Parser", "reader", "LLocationDesk$Reader;", true)
  | 1 => ("LocationDesk$Parser", "row", "[I", true)
  | 2 => ("LocationDesk$Parser", "variables", "[LLocationDesk$Variable;", false)
  | 3 => ("LocationDesk$Parser", "count", "I", false)
  | 4 => ("LocationDesk$Parser", "open", "I", false)
  | 5 => ("LocationDesk$Parser", "fault", "I", false)
  | 6 => ("LocationDesk$Parser", "place", "I", false)
  | 7 => ("LocationDesk$Parser", "token", "I", false)
  | 8 => ("LocationDesk$Parser", "kind", "I", false)
  | _ => ("LocationDesk$Parser", "number", "J", false)
def tyX4 : Nat → FieldType := fun k => match k with
  | 0 => .object "LocationDesk$Reader"
  | 1 => .array .int
  | 2 => .array (.object "LocationDesk$Variable")
  | 3 => .int
  | 4 => .int
  | 5 => .int
  | 6 => .int
  | 7 => .int
  | 8 => .int
  | _ => .long
theorem nmX4 : ∀ a, a < 10 → ∀ b, b < 10 → a ≠ b → (TX4 a).2.1 ≠ (TX4 b).2.1 := by decide +kernel
theorem tyX4_ok : ∀ k, k < 10 → parseFieldDescriptor (TX4 k).2.2.1 = some (tyX4 k) := by decide +kernel
abbrev cX4_init : ByteArray := prog_6_method_1_code
def yX4_init : MethodName := ⟨RX4, "<init>", "()V"⟩
abbrev cX4_begin : ByteArray := prog_6_method_2_code
def yX4_begin : MethodName := ⟨RX4, "begin", "([II)V"⟩
abbrev cX4_goesOn : ByteArray := prog_6_method_3_code
def yX4_goesOn : MethodName := ⟨RX4, "goesOn", "()Z"⟩
abbrev cX4_take : ByteArray := prog_6_method_4_code
def yX4_take : MethodName := ⟨RX4, "take", "()V"⟩
abbrev cX4_refuse : ByteArray := prog_6_method_5_code
def yX4_refuse : MethodName := ⟨RX4, "refuse", "(I)V"⟩
abbrev cX4_expect : ByteArray := prog_6_method_6_code
def yX4_expect : MethodName := ⟨RX4, "expect", "(I)V"⟩
abbrev cX4_raise : ByteArray := prog_6_method_7_code
def yX4_raise : MethodName := ⟨RX4, "raise", "()Z"⟩
abbrev cX4_readDeclaration : ByteArray := prog_6_method_8_code
def yX4_readDeclaration : MethodName := ⟨RX4, "readDeclaration", "()V"⟩
abbrev cX4_isKnown : ByteArray := prog_6_method_9_code
def yX4_isKnown : MethodName := ⟨RX4, "isKnown", "([I)Z"⟩
abbrev cX4_areSame : ByteArray := prog_6_method_10_code
def yX4_areSame : MethodName := ⟨RX4, "areSame", "([I[I)Z"⟩
abbrev cX4_readRows : ByteArray := prog_6_method_11_code
def yX4_readRows : MethodName := ⟨RX4, "readRows", "(LLocationDesk$Variable;)V"⟩
abbrev cX4_readRange : ByteArray := prog_6_method_12_code
def yX4_readRange : MethodName := ⟨RX4, "readRange", "(LLocationDesk$Variable;I)V"⟩
abbrev cX4_readLocation : ByteArray := prog_6_method_13_code
def yX4_readLocation : MethodName := ⟨RX4, "readLocation", "()LLocationDesk$Place;"⟩
abbrev cX4_readWidth : ByteArray := prog_6_method_14_code
def yX4_readWidth : MethodName := ⟨RX4, "readWidth", "(LLocationDesk$Place;)V"⟩
abbrev cX4_beginsPlace : ByteArray := prog_6_method_15_code
def yX4_beginsPlace : MethodName := ⟨RX4, "beginsPlace", "(I)Z"⟩
abbrev cX4_readPlace : ByteArray := prog_6_method_16_code
def yX4_readPlace : MethodName := ⟨RX4, "readPlace", "()LLocationDesk$Place;"⟩
abbrev cX4_refuseHighRegister : ByteArray := prog_6_method_17_code
def yX4_refuseHighRegister : MethodName := ⟨RX4, "refuseHighRegister", "()J"⟩
abbrev cX4_readBlock : ByteArray := prog_6_method_18_code
def yX4_readBlock : MethodName := ⟨RX4, "readBlock", "()[I"⟩
abbrev cX4_readChoice : ByteArray := prog_6_method_19_code
def yX4_readChoice : MethodName := ⟨RX4, "readChoice", "()LLocationDesk$Node;"⟩
abbrev cX4_readLevel : ByteArray := prog_6_method_20_code
def yX4_readLevel : MethodName := ⟨RX4, "readLevel", "(I)LLocationDesk$Node;"⟩
abbrev cX4_levelOf : ByteArray := prog_6_method_21_code
def yX4_levelOf : MethodName := ⟨RX4, "levelOf", "(I)I"⟩
abbrev cX4_readUnary : ByteArray := prog_6_method_22_code
def yX4_readUnary : MethodName := ⟨RX4, "readUnary", "()LLocationDesk$Node;"⟩
abbrev cX4_operationOf : ByteArray := prog_6_method_23_code
def yX4_operationOf : MethodName := ⟨RX4, "operationOf", "(I)I"⟩
def RX5 : String := "LocationDesk$Part"
def TX5 : u_T := fun k => match k with
  | 0 => ("LocationDesk$Part", "kind", "I", false)
  | 1 => ("LocationDesk$Part", "number", "J", false)
  | 2 => ("LocationDesk$Part", "bits", "I", false)
  | 3 => ("LocationDesk$Part", "first", "I", false)
  | 4 => ("LocationDesk$Part", "block", "[I", false)
  | _ => ("LocationDesk$Part", "blockFrom", "I", false)
def tyX5 : Nat → FieldType := fun k => match k with
  | 0 => .int
  | 1 => .long
  | 2 => .int
  | 3 => .int
  | 4 => .array .int
  | _ => .int
theorem nmX5 : ∀ a, a < 6 → ∀ b, b < 6 → a ≠ b → (TX5 a).2.1 ≠ (TX5 b).2.1 := by decide +kernel
theorem tyX5_ok : ∀ k, k < 6 → parseFieldDescriptor (TX5 k).2.2.1 = some (tyX5 k) := by decide +kernel
abbrev cX5_init : ByteArray := prog_7_method_1_code
def yX5_init : MethodName := ⟨RX5, "<init>", "()V"⟩
abbrev cX5_become : ByteArray := prog_7_method_2_code
def yX5_become : MethodName := ⟨RX5, "become", "(IJ)V"⟩
abbrev cX5_becomeBlock : ByteArray := prog_7_method_3_code
def yX5_becomeBlock : MethodName := ⟨RX5, "becomeBlock", "([III)V"⟩
abbrev cX5_take : ByteArray := prog_7_method_4_code
def yX5_take : MethodName := ⟨RX5, "take", "(LLocationDesk$Part;)V"⟩
abbrev cX5_blockByte : ByteArray := prog_7_method_5_code
def yX5_blockByte : MethodName := ⟨RX5, "blockByte", "(J)I"⟩
def RX6 : String := "LocationDesk$Place"
def TX6 : u_T := fun k => match k with
  | 0 => ("LocationDesk$Place", "kind", "I", false)
  | 1 => ("LocationDesk$Place", "number", "J", false)
  | 2 => ("LocationDesk$Place", "e", "LLocationDesk$Node;", false)
  | 3 => ("LocationDesk$Place", "block", "[I", false)
  | 4 => ("LocationDesk$Place", "bytes", "I", false)
  | _ => ("LocationDesk$Place", "next", "LLocationDesk$Place;", false)
def tyX6 : Nat → FieldType := fun k => match k with
  | 0 => .int
  | 1 => .long
  | 2 => .object "LocationDesk$Node"
  | 3 => .array .int
  | 4 => .int
  | _ => .object "LocationDesk$Place"
theorem nmX6 : ∀ a, a < 6 → ∀ b, b < 6 → a ≠ b → (TX6 a).2.1 ≠ (TX6 b).2.1 := by decide +kernel
theorem tyX6_ok : ∀ k, k < 6 → parseFieldDescriptor (TX6 k).2.2.1 = some (tyX6 k) := by decide +kernel
abbrev cX6_init : ByteArray := prog_8_method_1_code
def yX6_init : MethodName := ⟨RX6, "<init>", "()V"⟩
def RX7 : String := "LocationDesk$Reader"
def TX7 : u_T := fun k => match k with
  | 0 => ("LocationDesk$Reader", "kinds", "[I", true)
  | 1 => ("LocationDesk$Reader", "numbers", "[J", true)
  | 2 => ("LocationDesk$Reader", "places", "[I", true)
  | 3 => ("LocationDesk$Reader", "ends", "[I", true)
  | 4 => ("LocationDesk$Reader", "count", "I", false)
  | 5 => ("LocationDesk$Reader", "text", "[I", false)
  | 6 => ("LocationDesk$Reader", "size", "I", false)
  | 7 => ("LocationDesk$Reader", "place", "I", false)
  | 8 => ("LocationDesk$Reader", "behind", "I", false)
  | 9 => ("LocationDesk$Reader", "kind", "I", false)
  | _ => ("LocationDesk$Reader", "number", "J", false)
def tyX7 : Nat → FieldType := fun k => match k with
  | 0 => .array .int
  | 1 => .array .long
  | 2 => .array .int
  | 3 => .array .int
  | 4 => .int
  | 5 => .array .int
  | 6 => .int
  | 7 => .int
  | 8 => .int
  | 9 => .int
  | _ => .long
theorem nmX7 : ∀ a, a < 11 → ∀ b, b < 11 → a ≠ b → (TX7 a).2.1 ≠ (TX7 b).2.1 := by decide +kernel
theorem tyX7_ok : ∀ k, k < 11 → parseFieldDescriptor (TX7 k).2.2.1 = some (tyX7 k) := by decide +kernel
abbrev cX7_init : ByteArray := prog_9_method_1_code
def yX7_init : MethodName := ⟨RX7, "<init>", "()V"⟩
abbrev cX7_readAll : ByteArray := prog_9_method_2_code
def yX7_readAll : MethodName := ⟨RX7, "readAll", "([II)V"⟩
abbrev cX7_readToken : ByteArray := prog_9_method_3_code
def yX7_readToken : MethodName := ⟨RX7, "readToken", "()V"⟩
abbrev cX7_letter : ByteArray := prog_9_method_4_code
def yX7_letter : MethodName := ⟨RX7, "letter", "(I)I"⟩
abbrev cX7_isSmall : ByteArray := prog_9_method_5_code
def yX7_isSmall : MethodName := ⟨RX7, "isSmall", "(I)Z"⟩
abbrev cX7_isDigit : ByteArray := prog_9_method_6_code
def yX7_isDigit : MethodName := ⟨RX7, "isDigit", "(I)Z"⟩
abbrev cX7_readWord : ByteArray := prog_9_method_7_code
def yX7_readWord : MethodName := ⟨RX7, "readWord", "()V"⟩
abbrev cX7_wordKind : ByteArray := prog_9_method_8_code
def yX7_wordKind : MethodName := ⟨RX7, "wordKind", "()I"⟩
abbrev cX7_isWord : ByteArray := prog_9_method_9_code
def yX7_isWord : MethodName := ⟨RX7, "isWord", "(Ljava/lang/String;)Z"⟩
abbrev cX7_readNumber : ByteArray := prog_9_method_10_code
def yX7_readNumber : MethodName := ⟨RX7, "readNumber", "()V"⟩
abbrev cX7_readAt : ByteArray := prog_9_method_11_code
def yX7_readAt : MethodName := ⟨RX7, "readAt", "()V"⟩
abbrev cX7_readSign : ByteArray := prog_9_method_12_code
def yX7_readSign : MethodName := ⟨RX7, "readSign", "(I)V"⟩
abbrev cX7_signOfTwo : ByteArray := prog_9_method_13_code
def yX7_signOfTwo : MethodName := ⟨RX7, "signOfTwo", "(II)I"⟩
abbrev cX7_letters : ByteArray := prog_9_method_14_code
def yX7_letters : MethodName := ⟨RX7, "letters", "(I)[I"⟩
def RX8 : String := "LocationDesk$Result"
def TX8 : u_T := fun k => match k with
  | 0 => ("LocationDesk$Result", "things", "[LLocationDesk$Part;", true)
  | 1 => ("LocationDesk$Result", "pieces", "I", false)
  | _ => ("LocationDesk$Result", "bits", "I", false)
def tyX8 : Nat → FieldType := fun k => match k with
  | 0 => .array (.object "LocationDesk$Part")
  | 1 => .int
  | _ => .int
theorem nmX8 : ∀ a, a < 3 → ∀ b, b < 3 → a ≠ b → (TX8 a).2.1 ≠ (TX8 b).2.1 := by decide +kernel
theorem tyX8_ok : ∀ k, k < 3 → parseFieldDescriptor (TX8 k).2.2.1 = some (tyX8 k) := by decide +kernel
abbrev cX8_init : ByteArray := prog_10_method_1_code
def yX8_init : MethodName := ⟨RX8, "<init>", "()V"⟩
abbrev cX8_count : ByteArray := prog_10_method_2_code
def yX8_count : MethodName := ⟨RX8, "count", "()I"⟩
abbrev cX8_only : ByteArray := prog_10_method_3_code
def yX8_only : MethodName := ⟨RX8, "only", "()LLocationDesk$Part;"⟩
abbrev cX8_clear : ByteArray := prog_10_method_4_code
def yX8_clear : MethodName := ⟨RX8, "clear", "()V"⟩
abbrev cX8_take : ByteArray := prog_10_method_5_code
def yX8_take : MethodName := ⟨RX8, "take", "(LLocationDesk$Result;)V"⟩
abbrev cX8_addPiece : ByteArray := prog_10_method_6_code
def yX8_addPiece : MethodName := ⟨RX8, "addPiece", "(LLocationDesk$Part;II)V"⟩
def RX9 : String := "LocationDesk$Run"
def TX9 : u_T := fun k => match k with
  | 0 => ("LocationDesk$Run", "machine", "LLocationDesk$Machine;", true)
  | 1 => ("LocationDesk$Run", "inner", "LLocationDesk$Run;", true)
  | 2 => ("LocationDesk$Run", "stack", "[J", true)
  | 3 => ("LocationDesk$Run", "hold", "LLocationDesk$Part;", true)
  | 4 => ("LocationDesk$Run", "outcome", "LLocationDesk$Result;", true)
  | 5 => ("LocationDesk$Run", "size", "I", false)
  | 6 => ("LocationDesk$Run", "fuel", "I", false)
  | 7 => ("LocationDesk$Run", "steps", "I", false)
  | 8 => ("LocationDesk$Run", "most", "I", false)
  | 9 => ("LocationDesk$Run", "place", "I", false)
  | 10 => ("LocationDesk$Run", "cursor", "I", false)
  | 11 => ("LocationDesk$Run", "target", "I", false)
  | 12 => ("LocationDesk$Run", "operand", "J", false)
  | 13 => ("LocationDesk$Run", "second", "J", false)
  | 14 => ("LocationDesk$Run", "leb", "J", false)
  | _ => ("LocationDesk$Run", "basis", "J", false)
def tyX9 : Nat → FieldType := fun k => match k with
  | 0 => .object "LocationDesk$Machine"
  | 1 => .object "LocationDesk$Run"
  | 2 => .array .long
  | 3 => .object "LocationDesk$Part"
  | 4 => .object "LocationDesk$Result"
  | 5 => .int
  | 6 => .int
  | 7 => .int
  | 8 => .int
  | 9 => .int
  | 10 => .int
  | 11 => .int
  | 12 => .long
  | 13 => .long
  | 14 => .long
  | _ => .long
theorem nmX9 : ∀ a, a < 16 → ∀ b, b < 16 → a ≠ b → (TX9 a).2.1 ≠ (TX9 b).2.1 := by decide +kernel
theorem tyX9_ok : ∀ k, k < 16 → parseFieldDescriptor (TX9 k).2.2.1 = some (tyX9 k) := by decide +kernel
abbrev cX9_init : ByteArray := prog_11_method_1_code
def yX9_init : MethodName := ⟨RX9, "<init>", "(LLocationDesk$Machine;LLocationDesk$Run;)V"⟩
abbrev cX9_start : ByteArray := prog_11_method_2_code
def yX9_start : MethodName := ⟨RX9, "start", "([IIII)I"⟩
abbrev cX9_reset : ByteArray := prog_11_method_3_code
def yX9_reset : MethodName := ⟨RX9, "reset", "(II)V"⟩
abbrev cX9_perform : ByteArray := prog_11_method_4_code
def yX9_perform : MethodName := ⟨RX9, "perform", "([IIII)I"⟩
abbrev cX9_step : ByteArray := prog_11_method_5_code
def yX9_step : MethodName := ⟨RX9, "step", "([IIII)I"⟩
abbrev cX9_shape : ByteArray := prog_11_method_6_code
def yX9_shape : MethodName := ⟨RX9, "shape", "(I)I"⟩
abbrev cX9_readOperands : ByteArray := prog_11_method_7_code
def yX9_readOperands : MethodName := ⟨RX9, "readOperands", "([III)I"⟩
abbrev cX9_readNumber : ByteArray := prog_11_method_8_code
def yX9_readNumber : MethodName := ⟨RX9, "readNumber", "([III)I"⟩
abbrev cX9_readLeb : ByteArray := prog_11_method_9_code
def yX9_readLeb : MethodName := ⟨RX9, "readLeb", "([IIZ)I"⟩
abbrev cX9_check : ByteArray := prog_11_method_10_code
def yX9_check : MethodName := ⟨RX9, "check", "(I)I"⟩
abbrev cX9_goesWithHold : ByteArray := prog_11_method_11_code
def yX9_goesWithHold : MethodName := ⟨RX9, "goesWithHold", "(I)Z"⟩
abbrev cX9_isTooMuch : ByteArray := prog_11_method_12_code
def yX9_isTooMuch : MethodName := ⟨RX9, "isTooMuch", "(I)Z"⟩
abbrev cX9_wanted : ByteArray := prog_11_method_13_code
def yX9_wanted : MethodName := ⟨RX9, "wanted", "(I)I"⟩
abbrev cX9_call : ByteArray := prog_11_method_14_code
def yX9_call : MethodName := ⟨RX9, "call", "(JI)I"⟩
abbrev cX9_operate : ByteArray := prog_11_method_15_code
def yX9_operate : MethodName := ⟨RX9, "operate", "(I[II)I"⟩
abbrev cX9_push : ByteArray := prog_11_method_16_code
def yX9_push : MethodName := ⟨RX9, "push", "(J)I"⟩
abbrev cX9_pushBytes : ByteArray := prog_11_method_17_code
def yX9_pushBytes : MethodName := ⟨RX9, "pushBytes", "(JI)I"⟩
abbrev cX9_pop : ByteArray := prog_11_method_18_code
def yX9_pop : MethodName := ⟨RX9, "pop", "()J"⟩
abbrev cX9_below : ByteArray := prog_11_method_19_code
def yX9_below : MethodName := ⟨RX9, "below", "(I)J"⟩
abbrev cX9_shuffle : ByteArray := prog_11_method_20_code
def yX9_shuffle : MethodName := ⟨RX9, "shuffle", "(I)I"⟩
abbrev cX9_changed : ByteArray := prog_11_method_21_code
def yX9_changed : MethodName := ⟨RX9, "changed", "(IJ)J"⟩
abbrev cX9_ask : ByteArray := prog_11_method_22_code
def yX9_ask : MethodName := ⟨RX9, "ask", "(II)I"⟩
abbrev cX9_keep : ByteArray := prog_11_method_23_code
def yX9_keep : MethodName := ⟨RX9, "keep", "(I[I)I"⟩
abbrev cX9_addPiece : ByteArray := prog_11_method_24_code
def yX9_addPiece : MethodName := ⟨RX9, "addPiece", "(II)I"⟩
abbrev cX9_holdTop : ByteArray := prog_11_method_25_code
def yX9_holdTop : MethodName := ⟨RX9, "holdTop", "()V"⟩
abbrev cX9_settle : ByteArray := prog_11_method_26_code
def yX9_settle : MethodName := ⟨RX9, "settle", "()I"⟩
abbrev cX9_base : ByteArray := prog_11_method_27_code
def yX9_base : MethodName := ⟨RX9, "base", "(III)I"⟩
abbrev cX9_takeBase : ByteArray := prog_11_method_28_code
def yX9_takeBase : MethodName := ⟨RX9, "takeBase", "(LLocationDesk$Result;)I"⟩
abbrev cX9_joined : ByteArray := prog_11_method_29_code
def yX9_joined : MethodName := ⟨RX9, "joined", "(IJJ)J"⟩
abbrev cX9_shifted : ByteArray := prog_11_method_30_code
def yX9_shifted : MethodName := ⟨RX9, "shifted", "(IJJ)J"⟩
abbrev cX9_compared : ByteArray := prog_11_method_31_code
def yX9_compared : MethodName := ⟨RX9, "compared", "(IJJ)Z"⟩
abbrev cX9_restWithoutSign : ByteArray := prog_11_method_32_code
def yX9_restWithoutSign : MethodName := ⟨RX9, "restWithoutSign", "(JJ)J"⟩
def RX10 : String := "LocationDesk$Variable"
def TX10 : u_T := fun k => match k with
  | 0 => ("LocationDesk$Variable", "name", "[I", true)
  | 1 => ("LocationDesk$Variable", "place", "I", true)
  | 2 => ("LocationDesk$Variable", "from", "[J", true)
  | 3 => ("LocationDesk$Variable", "to", "[J", true)
  | 4 => ("LocationDesk$Variable", "places", "[LLocationDesk$Place;", true)
  | 5 => ("LocationDesk$Variable", "rows", "I", false)
  | _ => ("LocationDesk$Variable", "code", "[I", false)
def tyX10 : Nat → FieldType := fun k => match k with
  | 0 => .array .int
  | 1 => .int
  | 2 => .array .long
  | 3 => .array .long
  | 4 => .array (.object "LocationDesk$Place")
  | 5 => .int
  | _ => .array .int
theorem nmX10 : ∀ a, a < 7 → ∀ b, b < 7 → a ≠ b → (TX10 a).2.1 ≠ (TX10 b).2.1 := by decide +kernel
theorem tyX10_ok : ∀ k, k < 7 → parseFieldDescriptor (TX10 k).2.2.1 = some (tyX10 k) := by decide +kernel
abbrev cX10_init : ByteArray := prog_12_method_1_code
def yX10_init : MethodName := ⟨RX10, "<init>", "([II)V"⟩
def RX11 : String := "LocationDesk"
def TX11 : u_T := fun k => match k with
  | 0 => ("LocationDesk", "machine", "LLocationDesk$Machine;", true)
  | 1 => ("LocationDesk", "runner", "LLocationDesk$Run;", true)
  | 2 => ("LocationDesk", "meaning", "LLocationDesk$Meaning;", true)
  | 3 => ("LocationDesk", "parser", "LLocationDesk$Parser;", true)
  | 4 => ("LocationDesk", "coder", "LLocationDesk$Coder;", true)
  | 5 => ("LocationDesk", "result", "LLocationDesk$Result;", true)
  | 6 => ("LocationDesk", "tape", "[I", true)
  | 7 => ("LocationDesk", "fetched", "[I", true)
  | 8 => ("LocationDesk", "report", "[I", true)
  | 9 => ("LocationDesk", "tapeSize", "I", false)
  | 10 => ("LocationDesk", "fetchedSize", "I", false)
  | 11 => ("LocationDesk", "variables", "[LLocationDesk$Variable;", false)
  | _ => ("LocationDesk", "variableCount", "I", false)
def tyX11 : Nat → FieldType := fun k => match k with
  | 0 => .object "LocationDesk$Machine"
  | 1 => .object "LocationDesk$Run"
  | 2 => .object "LocationDesk$Meaning"
  | 3 => .object "LocationDesk$Parser"
  | 4 => .object "LocationDesk$Coder"
  | 5 => .object "LocationDesk$Result"
  | 6 => .array .int
  | 7 => .array .int
  | 8 => .array .int
  | 9 => .int
  | 10 => .int
  | 11 => .array (.object "LocationDesk$Variable")
  | _ => .int
theorem nmX11 : ∀ a, a < 13 → ∀ b, b < 13 → a ≠ b → (TX11 a).2.1 ≠ (TX11 b).2.1 := by decide +kernel
theorem tyX11_ok : ∀ k, k < 13 → parseFieldDescriptor (TX11 k).2.2.1 = some (tyX11 k) := by decide +kernel
abbrev cX11_init : ByteArray := prog_1_method_1_code
def yX11_init : MethodName := ⟨RX11, "<init>", "()V"⟩
abbrev cX11_feed : ByteArray := prog_1_method_2_code
def yX11_feed : MethodName := ⟨RX11, "feed", "(IIIII)I"⟩
abbrev cX11_feedFour : ByteArray := prog_1_method_3_code
def yX11_feedFour : MethodName := ⟨RX11, "feedFour", "(I)V"⟩
abbrev cX11_end : ByteArray := prog_1_method_4_code
def yX11_end : MethodName := ⟨RX11, "end", "(I)I"⟩
abbrev cX11_expression : ByteArray := prog_1_method_5_code
def yX11_expression : MethodName := ⟨RX11, "expression", "(I)I"⟩
abbrev cX11_list : ByteArray := prog_1_method_6_code
def yX11_list : MethodName := ⟨RX11, "list", "(I)I"⟩
abbrev cX11_tapeInto : ByteArray := prog_1_method_7_code
def yX11_tapeInto : MethodName := ⟨RX11, "tapeInto", "([[II)I"⟩
abbrev cX11_load : ByteArray := prog_1_method_8_code
def yX11_load : MethodName := ⟨RX11, "load", "(IJ)Z"⟩
abbrev cX11_register : ByteArray := prog_1_method_9_code
def yX11_register : MethodName := ⟨RX11, "register", "(I)J"⟩
abbrev cX11_poke : ByteArray := prog_1_method_10_code
def yX11_poke : MethodName := ⟨RX11, "poke", "(II)Z"⟩
abbrev cX11_peek : ByteArray := prog_1_method_11_code
def yX11_peek : MethodName := ⟨RX11, "peek", "(I)I"⟩
abbrev cX11_frame : ByteArray := prog_1_method_12_code
def yX11_frame : MethodName := ⟨RX11, "frame", "(I)Z"⟩
abbrev cX11_cfa : ByteArray := prog_1_method_13_code
def yX11_cfa : MethodName := ⟨RX11, "cfa", "(IJ)Z"⟩
abbrev cX11_set : ByteArray := prog_1_method_14_code
def yX11_set : MethodName := ⟨RX11, "set", "(IJZ)Z"⟩
abbrev cX11_run : ByteArray := prog_1_method_15_code
def yX11_run : MethodName := ⟨RX11, "run", "(II)I"⟩
abbrev cX11_find : ByteArray := prog_1_method_16_code
def yX11_find : MethodName := ⟨RX11, "find", "(IJJI)I"⟩
abbrev cX11_isFuel : ByteArray := prog_1_method_17_code
def yX11_isFuel : MethodName := ⟨RX11, "isFuel", "(I)Z"⟩
abbrev cX11_runBytes : ByteArray := prog_1_method_18_code
def yX11_runBytes : MethodName := ⟨RX11, "runBytes", "([IIII)I"⟩
abbrev cX11_search : ByteArray := prog_1_method_19_code
def yX11_search : MethodName := ⟨RX11, "search", "([IJJI)I"⟩
abbrev cX11_endless : ByteArray := prog_1_method_20_code
def yX11_endless : MethodName := ⟨RX11, "endless", "(I)I"⟩
abbrev cX11_tell : ByteArray := prog_1_method_21_code
def yX11_tell : MethodName := ⟨RX11, "tell", "(IIII)V"⟩
abbrev cX11_isBelow : ByteArray := prog_1_method_22_code
def yX11_isBelow : MethodName := ⟨RX11, "isBelow", "(JJ)Z"⟩
abbrev cX11_number : ByteArray := prog_1_method_23_code
def yX11_number : MethodName := ⟨RX11, "number", "([III)J"⟩
abbrev cX11_told : ByteArray := prog_1_method_24_code
def yX11_told : MethodName := ⟨RX11, "told", "(I)I"⟩
abbrev cX11_parts : ByteArray := prog_1_method_25_code
def yX11_parts : MethodName := ⟨RX11, "parts", "()I"⟩
abbrev cX11_part : ByteArray := prog_1_method_26_code
def yX11_part : MethodName := ⟨RX11, "part", "(II)J"⟩
abbrev cX11_fetch : ByteArray := prog_1_method_27_code
def yX11_fetch : MethodName := ⟨RX11, "fetch", "(I)I"⟩
abbrev cX11_store : ByteArray := prog_1_method_28_code
def yX11_store : MethodName := ⟨RX11, "store", "(I)I"⟩
abbrev cX11_out : ByteArray := prog_1_method_29_code
def yX11_out : MethodName := ⟨RX11, "out", "(I)I"⟩
abbrev cX11_compile : ByteArray := prog_1_method_30_code
def yX11_compile : MethodName := ⟨RX11, "compile", "()I"⟩
abbrev cX11_isVariable : ByteArray := prog_1_method_31_code
def yX11_isVariable : MethodName := ⟨RX11, "isVariable", "(I)Z"⟩
abbrev cX11_variable : ByteArray := prog_1_method_32_code
def yX11_variable : MethodName := ⟨RX11, "variable", "(II)I"⟩
abbrev cX11_byteAt : ByteArray := prog_1_method_33_code
def yX11_byteAt : MethodName := ⟨RX11, "byteAt", "([IJ)I"⟩
abbrev cX11_where : ByteArray := prog_1_method_34_code
def yX11_where : MethodName := ⟨RX11, "where", "(IJI)I"⟩
abbrev cX11_means : ByteArray := prog_1_method_35_code
def yX11_means : MethodName := ⟨RX11, "means", "(IJ)I"⟩
def RX12 : String := "LocationDeskModel"
def TX12 : u_T := fun k => match k with
  | 0 => ("LocationDeskModel", "told", "I", false)
  | 1 => ("LocationDeskModel", "registers", "[J", true)
  | 2 => ("LocationDeskModel", "memory", "[I", true)
  | 3 => ("LocationDeskModel", "pool", "[I", true)
  | 4 => ("LocationDeskModel", "size", "[I", true)
  | 5 => ("LocationDeskModel", "frame", "I", false)
  | 6 => ("LocationDeskModel", "cfaRegister", "I", false)
  | 7 => ("LocationDeskModel", "cfaMore", "J", false)
  | 8 => ("LocationDeskModel", "object", "J", false)
  | 9 => ("LocationDeskModel", "tls", "J", false)
  | 10 => ("LocationDeskModel", "hasObject", "Z", false)
  | 11 => ("LocationDeskModel", "hasTls", "Z", false)
  | 12 => ("LocationDeskModel", "tape", "[I", true)
  | 13 => ("LocationDeskModel", "taped", "I", false)
  | 14 => ("LocationDeskModel", "stack", "[J", true)
  | 15 => ("LocationDeskModel", "top", "[I", true)
  | 16 => ("LocationDeskModel", "pieces", "[I", true)
  | 17 => ("LocationDeskModel", "pieceKind", "[I", true)
  | 18 => ("LocationDeskModel", "pieceValue", "[J", true)
  | 19 => ("LocationDeskModel", "pieceBits", "[I", true)
  | 20 => ("LocationDeskModel", "pieceFirst", "[I", true)
  | 21 => ("LocationDeskModel", "pieceSize", "[I", true)
  | 22 => ("LocationDeskModel", "bitsOf", "[I", true)
  | 23 => ("LocationDeskModel", "holdKind", "[I", true)
  | 24 => ("LocationDeskModel", "holdValue", "[J", true)
  | 25 => ("LocationDeskModel", "holdSize", "[I", true)
  | 26 => ("LocationDeskModel", "back", "[I", true)
  | 27 => ("LocationDeskModel", "backBegin", "[I", true)
  | 28 => ("LocationDeskModel", "backEnd", "[I", true)
  | 29 => ("LocationDeskModel", "open", "I", false)
  | 30 => ("LocationDeskModel", "fuel", "I", false)
  | 31 => ("LocationDeskModel", "steps", "I", false)
  | 32 => ("LocationDeskModel", "most", "I", false)
  | 33 => ("LocationDeskModel", "outer", "I", false)
  | 34 => ("LocationDeskModel", "faultPlace", "I", false)
  | 35 => ("LocationDeskModel", "one", "J", false)
  | 36 => ("LocationDeskModel", "two", "J", false)
  | 37 => ("LocationDeskModel", "next", "I", false)
  | 38 => ("LocationDeskModel", "decodes", "I", false)
  | 39 => ("LocationDeskModel", "base", "J", false)
  | 40 => ("LocationDeskModel", "laterAt", "I", false)
  | 41 => ("LocationDeskModel", "laterFrom", "I", false)
  | 42 => ("LocationDeskModel", "laterTo", "I", false)
  | 43 => ("LocationDeskModel", "laterOuter", "I", false)
  | 44 => ("LocationDeskModel", "laterMore", "J", false)
  | 45 => ("LocationDeskModel", "depths", "[I", true)
  | 46 => ("LocationDeskModel", "parts", "I", false)
  | 47 => ("LocationDeskModel", "isPieces", "Z", false)
  | 48 => ("LocationDeskModel", "partKind", "[I", true)
  | 49 => ("LocationDeskModel", "partValue", "[J", true)
  | 50 => ("LocationDeskModel", "partBits", "[I", true)
  | 51 => ("LocationDeskModel", "partFirst", "[I", true)
  | 52 => ("LocationDeskModel", "partBytes", "[I", true)
  | 53 => ("LocationDeskModel", "hasTold", "Z", false)
  | 54 => ("LocationDeskModel", "faultTold", "I", false)
  | 55 => ("LocationDeskModel", "placeTold", "I", false)
  | 56 => ("LocationDeskModel", "stepsTold", "I", false)
  | 57 => ("LocationDeskModel", "mostTold", "I", false)
  | 58 => ("LocationDeskModel", "bitPart", "I", false)
  | 59 => ("LocationDeskModel", "bitAt", "I", false)
  | 60 => ("LocationDeskModel", "out", "[I", true)
  | 61 => ("LocationDeskModel", "outs", "I", false)
  | 62 => ("LocationDeskModel", "kind", "[I", true)
  | 63 => ("LocationDeskModel", "worth", "[J", true)
  | 64 => ("LocationDeskModel", "where", "[I", true)
  | 65 => ("LocationDeskModel", "keptKind", "[I", true)
  | 66 => ("LocationDeskModel", "keptWorth", "[J", true)
  | 67 => ("LocationDeskModel", "tokens", "I", false)
  | 68 => ("LocationDeskModel", "ti", "I", false)
  | 69 => ("LocationDeskModel", "fault", "I", false)
  | 70 => ("LocationDeskModel", "faultAt", "I", false)
  | 71 => ("LocationDeskModel", "opened", "I", false)
  | 72 => ("LocationDeskModel", "bytes", "[I", true)
  | 73 => ("LocationDeskModel", "many", "I", false)
  | 74 => ("LocationDeskModel", "variables", "I", false)
  | 75 => ("LocationDeskModel", "names", "[J", true)
  | 76 => ("LocationDeskModel", "rows", "[I", true)
  | 77 => ("LocationDeskModel", "starts", "[I", true)
  | 78 => ("LocationDeskModel", "made", "I", false)
  | 79 => ("LocationDeskModel", "madeName", "[J", true)
  | 80 => ("LocationDeskModel", "madeRows", "[I", true)
  | 81 => ("LocationDeskModel", "madeStart", "[I", true)
  | 82 => ("LocationDeskModel", "madeBegin", "[I", true)
  | 83 => ("LocationDeskModel", "madeAt", "[I", true)
  | 84 => ("LocationDeskModel", "isLong", "[Z", true)
  | 85 => ("LocationDeskModel", "turned", "[I", true)
  | 86 => ("LocationDeskModel", "waits", "[I", true)
  | 87 => ("LocationDeskModel", "binds", "[I", true)
  | 88 => ("LocationDeskModel", "placed", "[I", true)
  | 89 => ("LocationDeskModel", "midst", "[I", true)
  | 90 => ("LocationDeskModel", "waiting", "I", false)
  | 91 => ("LocationDeskModel", "isClosed", "Z", false)
  | 92 => ("LocationDeskModel", "mi", "I", false)
  | 93 => ("LocationDeskModel", "wrong", "I", false)
  | 94 => ("LocationDeskModel", "meant", "I", false)
  | 95 => ("LocationDeskModel", "meantPieces", "Z", false)
  | 96 => ("LocationDeskModel", "meantKind", "[I", true)
  | 97 => ("LocationDeskModel", "meantValue", "[J", true)
  | 98 => ("LocationDeskModel", "meantBits", "[I", true)
  | 99 => ("LocationDeskModel", "meantBytes", "[I", true)
  | 100 => ("LocationDeskModel", "values", "[J", true)
  | 101 => ("LocationDeskModel", "valued", "I", false)
  | 102 => ("LocationDeskModel", "wasLive", "[Z", true)
  | 103 => ("LocationDeskModel", "isSo", "[Z", true)
  | _ => ("LocationDeskModel", "live", "Z", false)
def tyX12 : Nat → FieldType := fun k => match k with
  | 0 => .int
  | 1 => .array .long
  | 2 => .array .int
  | 3 => .array .int
  | 4 => .array .int
  | 5 => .int
  | 6 => .int
  | 7 => .long
  | 8 => .long
  | 9 => .long
  | 10 => .boolean
  | 11 => .boolean
  | 12 => .array .int
  | 13 => .int
  | 14 => .array .long
  | 15 => .array .int
  | 16 => .array .int
  | 17 => .array .int
  | 18 => .array .long
  | 19 => .array .int
  | 20 => .array .int
  | 21 => .array .int
  | 22 => .array .int
  | 23 => .array .int
  | 24 => .array .long
  | 25 => .array .int
  | 26 => .array .int
  | 27 => .array .int
  | 28 => .array .int
  | 29 => .int
  | 30 => .int
  | 31 => .int
  | 32 => .int
  | 33 => .int
  | 34 => .int
  | 35 => .long
  | 36 => .long
  | 37 => .int
  | 38 => .int
  | 39 => .long
  | 40 => .int
  | 41 => .int
  | 42 => .int
  | 43 => .int
  | 44 => .long
  | 45 => .array .int
  | 46 => .int
  | 47 => .boolean
  | 48 => .array .int
  | 49 => .array .long
  | 50 => .array .int
  | 51 => .array .int
  | 52 => .array .int
  | 53 => .boolean
  | 54 => .int
  | 55 => .int
  | 56 => .int
  | 57 => .int
  | 58 => .int
  | 59 => .int
  | 60 => .array .int
  | 61 => .int
  | 62 => .array .int
  | 63 => .array .long
  | 64 => .array .int
  | 65 => .array .int
  | 66 => .array .long
  | 67 => .int
  | 68 => .int
  | 69 => .int
  | 70 => .int
  | 71 => .int
  | 72 => .array .int
  | 73 => .int
  | 74 => .int
  | 75 => .array .long
  | 76 => .array .int
  | 77 => .array .int
  | 78 => .int
  | 79 => .array .long
  | 80 => .array .int
  | 81 => .array .int
  | 82 => .array .int
  | 83 => .array .int
  | 84 => .array .boolean
  | 85 => .array .int
  | 86 => .array .int
  | 87 => .array .int
  | 88 => .array .int
  | 89 => .array .int
  | 90 => .int
  | 91 => .boolean
  | 92 => .int
  | 93 => .int
  | 94 => .int
  | 95 => .boolean
  | 96 => .array .int
  | 97 => .array .long
  | 98 => .array .int
  | 99 => .array .int
  | 100 => .array .long
  | 101 => .int
  | 102 => .array .boolean
  | 103 => .array .boolean
  | _ => .boolean
theorem nmX12 : ∀ a, a < 105 → ∀ b, b < 105 → a ≠ b → (TX12 a).2.1 ≠ (TX12 b).2.1 := by decide +kernel
theorem tyX12_ok : ∀ k, k < 105 → parseFieldDescriptor (TX12 k).2.2.1 = some (tyX12 k) := by decide +kernel
abbrev cX12_init : ByteArray := prog_14_method_1_code
def yX12_init : MethodName := ⟨RX12, "<init>", "()V"⟩
abbrev cX12_puts : ByteArray := prog_14_method_3_code
def yX12_puts : MethodName := ⟨RX12, "puts", "(I)V"⟩
abbrev cX12_feed : ByteArray := prog_14_method_4_code
def yX12_feed : MethodName := ⟨RX12, "feed", "(IIIII)I"⟩
abbrev cX12_end : ByteArray := prog_14_method_5_code
def yX12_end : MethodName := ⟨RX12, "end", "(I)I"⟩
abbrev cX12_keep : ByteArray := prog_14_method_6_code
def yX12_keep : MethodName := ⟨RX12, "keep", "(II)I"⟩
abbrev cX12_expression : ByteArray := prog_14_method_7_code
def yX12_expression : MethodName := ⟨RX12, "expression", "(I)I"⟩
abbrev cX12_list : ByteArray := prog_14_method_8_code
def yX12_list : MethodName := ⟨RX12, "list", "(I)I"⟩
abbrev cX12_load : ByteArray := prog_14_method_9_code
def yX12_load : MethodName := ⟨RX12, "load", "(IJ)Z"⟩
abbrev cX12_register : ByteArray := prog_14_method_10_code
def yX12_register : MethodName := ⟨RX12, "register", "(I)J"⟩
abbrev cX12_poke : ByteArray := prog_14_method_11_code
def yX12_poke : MethodName := ⟨RX12, "poke", "(II)Z"⟩
abbrev cX12_peek : ByteArray := prog_14_method_12_code
def yX12_peek : MethodName := ⟨RX12, "peek", "(I)I"⟩
abbrev cX12_frame : ByteArray := prog_14_method_13_code
def yX12_frame : MethodName := ⟨RX12, "frame", "(I)Z"⟩
abbrev cX12_cfa : ByteArray := prog_14_method_14_code
def yX12_cfa : MethodName := ⟨RX12, "cfa", "(IJ)Z"⟩
abbrev cX12_set : ByteArray := prog_14_method_15_code
def yX12_set : MethodName := ⟨RX12, "set", "(IJZ)Z"⟩
abbrev cX12_isThere : ByteArray := prog_14_method_16_code
def yX12_isThere : MethodName := ⟨RX12, "isThere", "(JJ)Z"⟩
abbrev cX12_read : ByteArray := prog_14_method_17_code
def yX12_read : MethodName := ⟨RX12, "read", "(JI)J"⟩
abbrev cX12_fixed : ByteArray := prog_14_method_18_code
def yX12_fixed : MethodName := ⟨RX12, "fixed", "(IZI)J"⟩
abbrev cX12_leb : ByteArray := prog_14_method_19_code
def yX12_leb : MethodName := ⟨RX12, "leb", "(ZI)J"⟩
abbrev cX12_isKnown : ByteArray := prog_14_method_20_code
def yX12_isKnown : MethodName := ⟨RX12, "isKnown", "(I)Z"⟩
abbrev cX12_operands : ByteArray := prog_14_method_21_code
def yX12_operands : MethodName := ⟨RX12, "operands", "(II)V"⟩
abbrev cX12_isAbove : ByteArray := prog_14_method_22_code
def yX12_isAbove : MethodName := ⟨RX12, "isAbove", "(JJ)Z"⟩
abbrev cX12_wants : ByteArray := prog_14_method_23_code
def yX12_wants : MethodName := ⟨RX12, "wants", "(I)I"⟩
abbrev cX12_pushes : ByteArray := prog_14_method_24_code
def yX12_pushes : MethodName := ⟨RX12, "pushes", "(I)Z"⟩
abbrev cX12_rest : ByteArray := prog_14_method_25_code
def yX12_rest : MethodName := ⟨RX12, "rest", "(JJ)J"⟩
abbrev cX12_worked : ByteArray := prog_14_method_26_code
def yX12_worked : MethodName := ⟨RX12, "worked", "(IJJ)J"⟩
abbrev cX12_isBase : ByteArray := prog_14_method_27_code
def yX12_isBase : MethodName := ⟨RX12, "isBase", "()Z"⟩
abbrev cX12_fails : ByteArray := prog_14_method_28_code
def yX12_fails : MethodName := ⟨RX12, "fails", "(II)I"⟩
abbrev cX12_clears : ByteArray := prog_14_method_29_code
def yX12_clears : MethodName := ⟨RX12, "clears", "(I)V"⟩
abbrev cX12_pushed : ByteArray := prog_14_method_30_code
def yX12_pushed : MethodName := ⟨RX12, "pushed", "(IJ)V"⟩
abbrev cX12_exec : ByteArray := prog_14_method_31_code
def yX12_exec : MethodName := ⟨RX12, "exec", "(III)I"⟩
abbrev cX12_isPiece : ByteArray := prog_14_method_32_code
def yX12_isPiece : MethodName := ⟨RX12, "isPiece", "(IZJJ)Z"⟩
abbrev cX12_pushes_ : ByteArray := prog_14_method_33_code
def yX12_pushes_ : MethodName := ⟨RX12, "pushes", "(IJJJJI)J"⟩
abbrev cX12_acts : ByteArray := prog_14_method_34_code
def yX12_acts : MethodName := ⟨RX12, "acts", "(IIJJ)V"⟩
abbrev cX12_hold : ByteArray := prog_14_method_35_code
def yX12_hold : MethodName := ⟨RX12, "hold", "(IIJI)V"⟩
abbrev cX12_part : ByteArray := prog_14_method_36_code
def yX12_part : MethodName := ⟨RX12, "part", "(IIJIII)V"⟩
abbrev cX12_empty : ByteArray := prog_14_method_37_code
def yX12_empty : MethodName := ⟨RX12, "empty", "()V"⟩
abbrev cX12_tells : ByteArray := prog_14_method_38_code
def yX12_tells : MethodName := ⟨RX12, "tells", "(II)I"⟩
abbrev cX12_begins : ByteArray := prog_14_method_39_code
def yX12_begins : MethodName := ⟨RX12, "begins", "(I)V"⟩
abbrev cX12_runs : ByteArray := prog_14_method_40_code
def yX12_runs : MethodName := ⟨RX12, "runs", "(III)I"⟩
abbrev cX12_isFuel : ByteArray := prog_14_method_41_code
def yX12_isFuel : MethodName := ⟨RX12, "isFuel", "(I)Z"⟩
abbrev cX12_run : ByteArray := prog_14_method_42_code
def yX12_run : MethodName := ⟨RX12, "run", "(II)I"⟩
abbrev cX12_number : ByteArray := prog_14_method_43_code
def yX12_number : MethodName := ⟨RX12, "number", "(II)J"⟩
abbrev cX12_isBelow : ByteArray := prog_14_method_44_code
def yX12_isBelow : MethodName := ⟨RX12, "isBelow", "(JJ)Z"⟩
abbrev cX12_finds : ByteArray := prog_14_method_45_code
def yX12_finds : MethodName := ⟨RX12, "finds", "(IIJJI)I"⟩
abbrev cX12_find : ByteArray := prog_14_method_46_code
def yX12_find : MethodName := ⟨RX12, "find", "(IJJI)I"⟩
abbrev cX12_told : ByteArray := prog_14_method_47_code
def yX12_told : MethodName := ⟨RX12, "told", "(I)I"⟩
abbrev cX12_parts : ByteArray := prog_14_method_48_code
def yX12_parts : MethodName := ⟨RX12, "parts", "()I"⟩
abbrev cX12_part_ : ByteArray := prog_14_method_49_code
def yX12_part_ : MethodName := ⟨RX12, "part", "(II)J"⟩
abbrev cX12_goes : ByteArray := prog_14_method_50_code
def yX12_goes : MethodName := ⟨RX12, "goes", "()Z"⟩
abbrev cX12_bit : ByteArray := prog_14_method_51_code
def yX12_bit : MethodName := ⟨RX12, "bit", "(IJ)I"⟩
abbrev cX12_puts_ : ByteArray := prog_14_method_52_code
def yX12_puts_ : MethodName := ⟨RX12, "puts", "(IJI)Z"⟩
abbrev cX12_fetch : ByteArray := prog_14_method_53_code
def yX12_fetch : MethodName := ⟨RX12, "fetch", "(I)I"⟩
abbrev cX12_store : ByteArray := prog_14_method_54_code
def yX12_store : MethodName := ⟨RX12, "store", "(I)I"⟩
abbrev cX12_out : ByteArray := prog_14_method_55_code
def yX12_out : MethodName := ⟨RX12, "out", "(I)I"⟩
abbrev cX12_sign : ByteArray := prog_14_method_56_code
def yX12_sign : MethodName := ⟨RX12, "sign", "(I)I"⟩
abbrev cX12_isSmall : ByteArray := prog_14_method_57_code
def yX12_isSmall : MethodName := ⟨RX12, "isSmall", "(I)Z"⟩
abbrev cX12_isDigit : ByteArray := prog_14_method_58_code
def yX12_isDigit : MethodName := ⟨RX12, "isDigit", "(I)Z"⟩
abbrev cX12_isLetter : ByteArray := prog_14_method_59_code
def yX12_isLetter : MethodName := ⟨RX12, "isLetter", "(I)Z"⟩
abbrev cX12_word : ByteArray := prog_14_method_60_code
def yX12_word : MethodName := ⟨RX12, "word", "(J)I"⟩
abbrev cX12_token : ByteArray := prog_14_method_61_code
def yX12_token : MethodName := ⟨RX12, "token", "(IJI)V"⟩
abbrev cX12_tokens : ByteArray := prog_14_method_62_code
def yX12_tokens : MethodName := ⟨RX12, "tokens", "()V"⟩
abbrev cX12_signs : ByteArray := prog_14_method_63_code
def yX12_signs : MethodName := ⟨RX12, "signs", "(II)I"⟩
abbrev cX12_fail : ByteArray := prog_14_method_64_code
def yX12_fail : MethodName := ⟨RX12, "fail", "(I)V"⟩
abbrev cX12_isSign : ByteArray := prog_14_method_65_code
def yX12_isSign : MethodName := ⟨RX12, "isSign", "(I)Z"⟩
abbrev cX12_isWord : ByteArray := prog_14_method_66_code
def yX12_isWord : MethodName := ⟨RX12, "isWord", "(I)Z"⟩
abbrev cX12_need : ByteArray := prog_14_method_67_code
def yX12_need : MethodName := ⟨RX12, "need", "(I)V"⟩
abbrev cX12_opens : ByteArray := prog_14_method_68_code
def yX12_opens : MethodName := ⟨RX12, "opens", "()V"⟩
abbrev cX12_emit : ByteArray := prog_14_method_69_code
def yX12_emit : MethodName := ⟨RX12, "emit", "(I)V"⟩
abbrev cX12_emits : ByteArray := prog_14_method_70_code
def yX12_emits : MethodName := ⟨RX12, "emits", "(JI)V"⟩
abbrev cX12_unsigned : ByteArray := prog_14_method_71_code
def yX12_unsigned : MethodName := ⟨RX12, "unsigned", "(J)V"⟩
abbrev cX12_signed : ByteArray := prog_14_method_72_code
def yX12_signed : MethodName := ⟨RX12, "signed", "(J)V"⟩
abbrev cX12_push : ByteArray := prog_14_method_73_code
def yX12_push : MethodName := ⟨RX12, "push", "(J)V"⟩
abbrev cX12_faulty : ByteArray := prog_14_method_74_code
def yX12_faulty : MethodName := ⟨RX12, "faulty", "(II)I"⟩
abbrev cX12_compile : ByteArray := prog_14_method_75_code
def yX12_compile : MethodName := ⟨RX12, "compile", "()I"⟩
abbrev cX12_declared : ByteArray := prog_14_method_76_code
def yX12_declared : MethodName := ⟨RX12, "declared", "()V"⟩
abbrev cX12_rows : ByteArray := prog_14_method_77_code
def yX12_rows : MethodName := ⟨RX12, "rows", "()V"⟩
abbrev cX12_isPlace : ByteArray := prog_14_method_78_code
def yX12_isPlace : MethodName := ⟨RX12, "isPlace", "()Z"⟩
abbrev cX12_location : ByteArray := prog_14_method_79_code
def yX12_location : MethodName := ⟨RX12, "location", "()V"⟩
abbrev cX12_place : ByteArray := prog_14_method_80_code
def yX12_place : MethodName := ⟨RX12, "place", "()V"⟩
abbrev cX12_later : ByteArray := prog_14_method_81_code
def yX12_later : MethodName := ⟨RX12, "later", "(II)V"⟩
abbrev cX12_tops : ByteArray := prog_14_method_82_code
def yX12_tops : MethodName := ⟨RX12, "tops", "()I"⟩
abbrev cX12_emitted : ByteArray := prog_14_method_83_code
def yX12_emitted : MethodName := ⟨RX12, "emitted", "(I)V"⟩
abbrev cX12_finished : ByteArray := prog_14_method_84_code
def yX12_finished : MethodName := ⟨RX12, "finished", "()V"⟩
abbrev cX12_reduced : ByteArray := prog_14_method_85_code
def yX12_reduced : MethodName := ⟨RX12, "reduced", "(I)V"⟩
abbrev cX12_turned : ByteArray := prog_14_method_86_code
def yX12_turned : MethodName := ⟨RX12, "turned", "()V"⟩
abbrev cX12_reducedAll : ByteArray := prog_14_method_87_code
def yX12_reducedAll : MethodName := ⟨RX12, "reducedAll", "()V"⟩
abbrev cX12_chosen : ByteArray := prog_14_method_88_code
def yX12_chosen : MethodName := ⟨RX12, "chosen", "()V"⟩
abbrev cX12_operand : ByteArray := prog_14_method_89_code
def yX12_operand : MethodName := ⟨RX12, "operand", "()Z"⟩
abbrev cX12_registered : ByteArray := prog_14_method_90_code
def yX12_registered : MethodName := ⟨RX12, "registered", "()V"⟩
abbrev cX12_combined : ByteArray := prog_14_method_91_code
def yX12_combined : MethodName := ⟨RX12, "combined", "(I)J"⟩
abbrev cX12_operator : ByteArray := prog_14_method_92_code
def yX12_operator : MethodName := ⟨RX12, "operator", "()Z"⟩
abbrev cX12_ended : ByteArray := prog_14_method_93_code
def yX12_ended : MethodName := ⟨RX12, "ended", "()Z"⟩
abbrev cX12_binary : ByteArray := prog_14_method_94_code
def yX12_binary : MethodName := ⟨RX12, "binary", "(II)Z"⟩
abbrev cX12_added : ByteArray := prog_14_method_95_code
def yX12_added : MethodName := ⟨RX12, "added", "()Z"⟩
abbrev cX12_compares : ByteArray := prog_14_method_96_code
def yX12_compares : MethodName := ⟨RX12, "compares", "(IJ)I"⟩
abbrev cX12_shifts : ByteArray := prog_14_method_97_code
def yX12_shifts : MethodName := ⟨RX12, "shifts", "(IJ)I"⟩
abbrev cX12_multiplies : ByteArray := prog_14_method_98_code
def yX12_multiplies : MethodName := ⟨RX12, "multiplies", "(IJ)I"⟩
abbrev cX12_isAlone : ByteArray := prog_14_method_99_code
def yX12_isAlone : MethodName := ⟨RX12, "isAlone", "(I)Z"⟩
abbrev cX12_adds : ByteArray := prog_14_method_100_code
def yX12_adds : MethodName := ⟨RX12, "adds", "(I)Z"⟩
abbrev cX12_variable : ByteArray := prog_14_method_101_code
def yX12_variable : MethodName := ⟨RX12, "variable", "(II)I"⟩
abbrev cX12_where : ByteArray := prog_14_method_102_code
def yX12_where : MethodName := ⟨RX12, "where", "(IJI)I"⟩
abbrev cX12_means : ByteArray := prog_14_method_103_code
def yX12_means : MethodName := ⟨RX12, "means", "(IJ)I"⟩
abbrev cX12_keepsSign : ByteArray := prog_14_method_104_code
def yX12_keepsSign : MethodName := ⟨RX12, "keepsSign", "(I)Z"⟩
abbrev cX12_keepsWord : ByteArray := prog_14_method_105_code
def yX12_keepsWord : MethodName := ⟨RX12, "keepsWord", "(I)Z"⟩
abbrev cX12_meantLocation : ByteArray := prog_14_method_106_code
def yX12_meantLocation : MethodName := ⟨RX12, "meantLocation", "(Z)V"⟩
abbrev cX12_meantPlace : ByteArray := prog_14_method_107_code
def yX12_meantPlace : MethodName := ⟨RX12, "meantPlace", "(ZI)V"⟩
abbrev cX12_does : ByteArray := prog_14_method_109_code
def yX12_does : MethodName := ⟨RX12, "does", "()Z"⟩
abbrev cX12_value : ByteArray := prog_14_method_110_code
def yX12_value : MethodName := ⟨RX12, "value", "(J)V"⟩
abbrev cX12_choice : ByteArray := prog_14_method_111_code
def yX12_choice : MethodName := ⟨RX12, "choice", "(Z)J"⟩
abbrev cX12_meansOperand : ByteArray := prog_14_method_112_code
def yX12_meansOperand : MethodName := ⟨RX12, "meansOperand", "()Z"⟩
abbrev cX12_bases : ByteArray := prog_14_method_113_code
def yX12_bases : MethodName := ⟨RX12, "bases", "()V"⟩
abbrev cX12_meansFinished : ByteArray := prog_14_method_114_code
def yX12_meansFinished : MethodName := ⟨RX12, "meansFinished", "()V"⟩
abbrev cX12_meansReduced : ByteArray := prog_14_method_115_code
def yX12_meansReduced : MethodName := ⟨RX12, "meansReduced", "(I)V"⟩
abbrev cX12_meansReducedAll : ByteArray := prog_14_method_116_code
def yX12_meansReducedAll : MethodName := ⟨RX12, "meansReducedAll", "()V"⟩
abbrev cX12_meansBinary : ByteArray := prog_14_method_117_code
def yX12_meansBinary : MethodName := ⟨RX12, "meansBinary", "(II)Z"⟩
abbrev cX12_meansOperator : ByteArray := prog_14_method_118_code
def yX12_meansOperator : MethodName := ⟨RX12, "meansOperator", "()Z"⟩
def RJ11 : String := "java/lang/Character"
def TJ11 : u_T := fun k => match k with
  | _ => ("", "", "", false)
def tyJ11 : Nat → FieldType := fun k => match k with
  | _ => .int
theorem nmJ11 : ∀ a, a < 0 → ∀ b, b < 0 → a ≠ b → (TJ11 a).2.1 ≠ (TJ11 b).2.1 := by decide +kernel
theorem tyJ11_ok : ∀ k, k < 0 → parseFieldDescriptor (TJ11 k).2.2.1 = some (tyJ11 k) := by decide +kernel
abbrev cJ11_isValidCodePoint_9a6ad : ByteArray := prog_15_method_11_code
def yJ11_isValidCodePoint_9a6ad : MethodName := ⟨RJ11, "isValidCodePoint", "(I)Z"⟩
abbrev cJ11_highSurrogate_5068e : ByteArray := prog_15_method_28_code
def yJ11_highSurrogate_5068e : MethodName := ⟨RJ11, "highSurrogate", "(I)C"⟩
abbrev cJ11_lowSurrogate_5068e : ByteArray := prog_15_method_29_code
def yJ11_lowSurrogate_5068e : MethodName := ⟨RJ11, "lowSurrogate", "(I)C"⟩
def RJ9 : String := "java/lang/Math"
def TJ9 : u_T := fun k => match k with
  | _ => ("", "", "", false)
def tyJ9 : Nat → FieldType := fun k => match k with
  | _ => .int
theorem nmJ9 : ∀ a, a < 0 → ∀ b, b < 0 → a ≠ b → (TJ9 a).2.1 ≠ (TJ9 b).2.1 := by decide +kernel
theorem tyJ9_ok : ∀ k, k < 0 → parseFieldDescriptor (TJ9 k).2.2.1 = some (tyJ9 k) := by decide +kernel
abbrev cJ9_max_7cf53 : ByteArray := prog_17_method_65_code
def yJ9_max_7cf53 : MethodName := ⟨RJ9, "max", "(II)I"⟩
abbrev cJ9_min_7cf53 : ByteArray := prog_17_method_69_code
def yJ9_min_7cf53 : MethodName := ⟨RJ9, "min", "(II)I"⟩
def RJ0 : String := "java/lang/String"
def TJ0 : u_T := fun k => match k with
  | _ => ("", "", "", false)
def tyJ0 : Nat → FieldType := fun k => match k with
  | _ => .int
theorem nmJ0 : ∀ a, a < 0 → ∀ b, b < 0 → a ≠ b → (TJ0 a).2.1 ≠ (TJ0 b).2.1 := by decide +kernel
theorem tyJ0_ok : ∀ k, k < 0 → parseFieldDescriptor (TJ0 k).2.2.1 = some (tyJ0 k) := by decide +kernel
abbrev cJ0_length_8abf5 : ByteArray := prog_18_method_54_code
def yJ0_length_8abf5 : MethodName := ⟨RJ0, "length", "()I"⟩
abbrev cJ0_charAt_5068e : ByteArray := prog_18_method_56_code
def yJ0_charAt_5068e : MethodName := ⟨RJ0, "charAt", "(I)C"⟩
abbrev cJ0_indexOf_0f7a4 : ByteArray := prog_18_method_79_code
def yJ0_indexOf_0f7a4 : MethodName := ⟨RJ0, "indexOf", "(I)I"⟩
abbrev cJ0_indexOf_7cf53 : ByteArray := prog_18_method_80_code
def yJ0_indexOf_7cf53 : MethodName := ⟨RJ0, "indexOf", "(II)I"⟩
abbrev cJ0_coder_7d493 : ByteArray := prog_18_method_152_code
def yJ0_coder_7d493 : MethodName := ⟨RJ0, "coder", "()B"⟩
abbrev cJ0_isLatin1_aae02 : ByteArray := prog_18_method_154_code
def yJ0_isLatin1_aae02 : MethodName := ⟨RJ0, "isLatin1", "()Z"⟩
abbrev cJ0_checkIndex_df160 : ByteArray := prog_18_method_155_code
def yJ0_checkIndex_df160 : MethodName := ⟨RJ0, "checkIndex", "(II)V"⟩
abbrev cJ0_checkBoundsBeginEnd_23922 : ByteArray := prog_18_method_158_code
def yJ0_checkBoundsBeginEnd_23922 : MethodName := ⟨RJ0, "checkBoundsBeginEnd", "(III)V"⟩
def RJ1 : String := "java/lang/StringLatin1"
def TJ1 : u_T := fun k => match k with
  | _ => ("", "", "", false)
def tyJ1 : Nat → FieldType := fun k => match k with
  | _ => .int
theorem nmJ1 : ∀ a, a < 0 → ∀ b, b < 0 → a ≠ b → (TJ1 a).2.1 ≠ (TJ1 b).2.1 := by decide +kernel
theorem tyJ1_ok : ∀ k, k < 0 → parseFieldDescriptor (TJ1 k).2.2.1 = some (tyJ1 k) := by decide +kernel
abbrev cJ1_charAt_3b067 : ByteArray := prog_19_method_2_code
def yJ1_charAt_3b067 : MethodName := ⟨RJ1, "charAt", "([BI)C"⟩
abbrev cJ1_canEncode_9a6ad : ByteArray := prog_19_method_4_code
def yJ1_canEncode_9a6ad : MethodName := ⟨RJ1, "canEncode", "(I)Z"⟩
abbrev cJ1_indexOf_4cfef : ByteArray := prog_19_method_22_code
def yJ1_indexOf_4cfef : MethodName := ⟨RJ1, "indexOf", "([BIII)I"⟩
abbrev cJ1_indexOfChar_4cfef : ByteArray := prog_19_method_23_code
def yJ1_indexOfChar_4cfef : MethodName := ⟨RJ1, "indexOfChar", "([BIII)I"⟩
def RJ2 : String := "java/lang/StringUTF16"
def TJ2 : u_T := fun k => match k with
  | _ => ("", "", "", false)
def tyJ2 : Nat → FieldType := fun k => match k with
  | _ => .int
theorem nmJ2 : ∀ a, a < 0 → ∀ b, b < 0 → a ≠ b → (TJ2 a).2.1 ≠ (TJ2 b).2.1 := by decide +kernel
theorem tyJ2_ok : ∀ k, k < 0 → parseFieldDescriptor (TJ2 k).2.2.1 = some (tyJ2 k) := by decide +kernel
abbrev cJ2_getChar_3b067 : ByteArray := prog_20_method_5_code
def yJ2_getChar_3b067 : MethodName := ⟨RJ2, "getChar", "([BI)C"⟩
abbrev cJ2_length_9d52b : ByteArray := prog_20_method_6_code
def yJ2_length_9d52b : MethodName := ⟨RJ2, "length", "([B)I"⟩
abbrev cJ2_indexOf_4cfef : ByteArray := prog_20_method_40_code
def yJ2_indexOf_4cfef : MethodName := ⟨RJ2, "indexOf", "([BIII)I"⟩
abbrev cJ2_indexOfChar_4cfef : ByteArray := prog_20_method_47_code
def yJ2_indexOfChar_4cfef : MethodName := ⟨RJ2, "indexOfChar", "([BIII)I"⟩
abbrev cJ2_indexOfCharUnsafe_4cfef : ByteArray := prog_20_method_48_code
def yJ2_indexOfCharUnsafe_4cfef : MethodName := ⟨RJ2, "indexOfCharUnsafe", "([BIII)I"⟩
abbrev cJ2_indexOfSupplementary_4cfef : ByteArray := prog_20_method_49_code
def yJ2_indexOfSupplementary_4cfef : MethodName := ⟨RJ2, "indexOfSupplementary", "([BIII)I"⟩
abbrev cJ2_charAt_3b067 : ByteArray := prog_20_method_83_code
def yJ2_charAt_3b067 : MethodName := ⟨RJ2, "charAt", "([BI)C"⟩
abbrev cJ2_checkIndex_2214a : ByteArray := prog_20_method_91_code
def yJ2_checkIndex_2214a : MethodName := ⟨RJ2, "checkIndex", "(I[B)V"⟩
abbrev cJ2_checkBoundsBeginEnd_d044e : ByteArray := prog_20_method_93_code
def yJ2_checkBoundsBeginEnd_d044e : MethodName := ⟨RJ2, "checkBoundsBeginEnd", "(II[B)V"⟩
def RJ10 : String := "java/lang/System"
def TJ10 : u_T := fun k => match k with
  | _ => ("", "", "", false)
def tyJ10 : Nat → FieldType := fun k => match k with
  | _ => .int
theorem nmJ10 : ∀ a, a < 0 → ∀ b, b < 0 → a ≠ b → (TJ10 a).2.1 ≠ (TJ10 b).2.1 := by decide +kernel
theorem tyJ10_ok : ∀ k, k < 0 → parseFieldDescriptor (TJ10 k).2.2.1 = some (tyJ10 k) := by decide +kernel
def RJ7 : String := "java/util/Arrays"
def TJ7 : u_T := fun k => match k with
  | _ => ("", "", "", false)
def tyJ7 : Nat → FieldType := fun k => match k with
  | _ => .int
theorem nmJ7 : ∀ a, a < 0 → ∀ b, b < 0 → a ≠ b → (TJ7 a).2.1 ≠ (TJ7 b).2.1 := by decide +kernel
theorem tyJ7_ok : ∀ k, k < 0 → parseFieldDescriptor (TJ7 k).2.2.1 = some (tyJ7 k) := by decide +kernel
abbrev cJ7_fill_53178 : ByteArray := prog_22_method_103_code
def yJ7_fill_53178 : MethodName := ⟨RJ7, "fill", "([II)V"⟩
abbrev cJ7_copyOf_59c91 : ByteArray := prog_22_method_123_code
def yJ7_copyOf_59c91 : MethodName := ⟨RJ7, "copyOf", "([II)[I"⟩
abbrev cJ7_checkLength_df160 : ByteArray := prog_22_method_131_code
def yJ7_checkLength_df160 : MethodName := ⟨RJ7, "checkLength", "(II)V"⟩
abbrev cJ7_copyOfRange_feecc : ByteArray := prog_22_method_136_code
def yJ7_copyOfRange_feecc : MethodName := ⟨RJ7, "copyOfRange", "([III)[I"⟩
abbrev cJ7_copyOfRangeInt_feecc : ByteArray := prog_22_method_137_code
def yJ7_copyOfRangeInt_feecc : MethodName := ⟨RJ7, "copyOfRangeInt", "([III)[I"⟩
def RJ3 : String := "jdk/internal/util/Preconditions"
def TJ3 : u_T := fun k => match k with
  | _ => ("", "", "", false)
def tyJ3 : Nat → FieldType := fun k => match k with
  | _ => .int
theorem nmJ3 : ∀ a, a < 0 → ∀ b, b < 0 → a ≠ b → (TJ3 a).2.1 ≠ (TJ3 b).2.1 := by decide +kernel
theorem tyJ3_ok : ∀ k, k < 0 → parseFieldDescriptor (TJ3 k).2.2.1 = some (tyJ3 k) := by decide +kernel
abbrev cJ3_checkIndex_8e157 : ByteArray := prog_23_method_11_code
def yJ3_checkIndex_8e157 : MethodName := ⟨RJ3, "checkIndex", "(IILjava/util/function/BiFunction;)I"⟩
abbrev cJ3_checkFromToIndex_8c36e : ByteArray := prog_23_method_12_code
def yJ3_checkFromToIndex_8c36e : MethodName := ⟨RJ3, "checkFromToIndex", "(IIILjava/util/function/BiFunction;)I"⟩
def RL : String := "LocationDeskLaw"
abbrev vwCl : List vw_C := [(RX0, TX0, 2), (RX1, TX1, 11), (RX2, TX2, 5), (RX3, TX3, 7), (RX4, TX4, 10), (RX5, TX5, 6), (RX6, TX6, 6), (RX7, TX7, 11), (RX8, TX8, 3), (RX9, TX9, 16), (RX10, TX10, 7), (RX11, TX11, 13), (RX12, TX12, 105)]
end
