section
-- ===== PART A: goes FIRST, ahead of the names: the tables' words, and 'selects' of the private methods out of them =====
/-- a private method of a class that the tables say can be made, by its rows of tables_1 -/
def lw_okq (q : MethodName × Nat) : Prop := (q.1.cls ≠ "java/lang/invoke/MethodHandle" ∧ q.1.cls ≠ "java/lang/invoke/VarHandle") ∧ Cond.instantiable q.1.cls q.2 ∈ tables_1 ∧ Cond.privateMethod q.1 ∈ tables_1 ∧ Cond.instanceMethod q.1 ∈ tables_1
theorem lw_p0 : lw_okq (⟨"DiscLines", "anotherLiesAt", "(II)Z"⟩, 7) := ⟨⟨by decide +kernel, by decide +kernel⟩, List.mem_of_getElem? (i := 16) (by decide +kernel), List.mem_of_getElem? (i := 273) (by decide +kernel), List.mem_of_getElem? (i := 274) (by decide +kernel)⟩
theorem lw_p1 : lw_okq (⟨"DiscLines$Picture", "addUp", "()V"⟩, 4) := ⟨⟨by decide +kernel, by decide +kernel⟩, List.mem_of_getElem? (i := 192) (by decide +kernel), List.mem_of_getElem? (i := 298) (by decide +kernel), List.mem_of_getElem? (i := 299) (by decide +kernel)⟩
theorem lw_p2 : lw_okq (⟨"DiscLines$Picture", "blur", "(II)V"⟩, 4) := ⟨⟨by decide +kernel, by decide +kernel⟩, List.mem_of_getElem? (i := 192) (by decide +kernel), List.mem_of_getElem? (i := 307) (by decide +kernel), List.mem_of_getElem? (i := 308) (by decide +kernel)⟩
theorem lw_p3 : lw_okq (⟨"DiscLines$Picture", "blurredAt", "(II)I"⟩, 4) := ⟨⟨by decide +kernel, by decide +kernel⟩, List.mem_of_getElem? (i := 192) (by decide +kernel), List.mem_of_getElem? (i := 311) (by decide +kernel), List.mem_of_getElem? (i := 312) (by decide +kernel)⟩
theorem lw_p4 : lw_okq (⟨"DiscLines$Law", "read", "()V"⟩, 7) := ⟨⟨by decide +kernel, by decide +kernel⟩, List.mem_of_getElem? (i := 49) (by decide +kernel), List.mem_of_getElem? (i := 333) (by decide +kernel), List.mem_of_getElem? (i := 334) (by decide +kernel)⟩
theorem lw_p5 : lw_okq (⟨"DiscLines$Law", "readLevel", "(II)V"⟩, 7) := ⟨⟨by decide +kernel, by decide +kernel⟩, List.mem_of_getElem? (i := 49) (by decide +kernel), List.mem_of_getElem? (i := 337) (by decide +kernel), List.mem_of_getElem? (i := 338) (by decide +kernel)⟩
theorem lw_p6 : lw_okq (⟨"DiscLines$Law", "readUnit", "(I)V"⟩, 7) := ⟨⟨by decide +kernel, by decide +kernel⟩, List.mem_of_getElem? (i := 49) (by decide +kernel), List.mem_of_getElem? (i := 341) (by decide +kernel), List.mem_of_getElem? (i := 342) (by decide +kernel)⟩
theorem lw_p7 : lw_okq (⟨"DiscLines$Law", "readPlainUnit", "(I)V"⟩, 7) := ⟨⟨by decide +kernel, by decide +kernel⟩, List.mem_of_getElem? (i := 49) (by decide +kernel), List.mem_of_getElem? (i := 348) (by decide +kernel), List.mem_of_getElem? (i := 349) (by decide +kernel)⟩
theorem lw_p8 : lw_okq (⟨"DiscLines$Law", "nextSign", "()I"⟩, 7) := ⟨⟨by decide +kernel, by decide +kernel⟩, List.mem_of_getElem? (i := 49) (by decide +kernel), List.mem_of_getElem? (i := 352) (by decide +kernel), List.mem_of_getElem? (i := 353) (by decide +kernel)⟩
theorem lw_p9 : lw_okq (⟨"DiscLines$Law", "addStep", "(I)V"⟩, 7) := ⟨⟨by decide +kernel, by decide +kernel⟩, List.mem_of_getElem? (i := 49) (by decide +kernel), List.mem_of_getElem? (i := 359) (by decide +kernel), List.mem_of_getElem? (i := 360) (by decide +kernel)⟩
theorem lw_p10 : lw_okq (⟨"DiscLines$Law", "readDigits", "()V"⟩, 7) := ⟨⟨by decide +kernel, by decide +kernel⟩, List.mem_of_getElem? (i := 49) (by decide +kernel), List.mem_of_getElem? (i := 366) (by decide +kernel), List.mem_of_getElem? (i := 367) (by decide +kernel)⟩
theorem lw_p11 : lw_okq (⟨"DiscLines$Law", "noteFault", "(II)V"⟩, 7) := ⟨⟨by decide +kernel, by decide +kernel⟩, List.mem_of_getElem? (i := 49) (by decide +kernel), List.mem_of_getElem? (i := 370) (by decide +kernel), List.mem_of_getElem? (i := 371) (by decide +kernel)⟩
theorem lw_p12 : lw_okq (⟨"DiscLines$Law", "readInside", "(I)V"⟩, 7) := ⟨⟨by decide +kernel, by decide +kernel⟩, List.mem_of_getElem? (i := 49) (by decide +kernel), List.mem_of_getElem? (i := 374) (by decide +kernel), List.mem_of_getElem? (i := 375) (by decide +kernel)⟩
theorem lw_p13 : lw_okq (⟨"DiscLines", "look", "(IIIII)V"⟩, 7) := ⟨⟨by decide +kernel, by decide +kernel⟩, List.mem_of_getElem? (i := 16) (by decide +kernel), List.mem_of_getElem? (i := 401) (by decide +kernel), List.mem_of_getElem? (i := 402) (by decide +kernel)⟩
theorem lw_p14 : lw_okq (⟨"DiscLines$Eye", "aimAt", "(II)V"⟩, 5) := ⟨⟨by decide +kernel, by decide +kernel⟩, List.mem_of_getElem? (i := 186) (by decide +kernel), List.mem_of_getElem? (i := 413) (by decide +kernel), List.mem_of_getElem? (i := 414) (by decide +kernel)⟩
theorem lw_p15 : lw_okq (⟨"DiscLines$Eye", "work", "(LDiscLines$Law;)J"⟩, 5) := ⟨⟨by decide +kernel, by decide +kernel⟩, List.mem_of_getElem? (i := 186) (by decide +kernel), List.mem_of_getElem? (i := 422) (by decide +kernel), List.mem_of_getElem? (i := 423) (by decide +kernel)⟩
def lw_privs_1 : List (MethodName × Nat) := [(⟨"DiscLines", "anotherLiesAt", "(II)Z"⟩, 7), (⟨"DiscLines$Picture", "addUp", "()V"⟩, 4), (⟨"DiscLines$Picture", "blur", "(II)V"⟩, 4), (⟨"DiscLines$Picture", "blurredAt", "(II)I"⟩, 4), (⟨"DiscLines$Law", "read", "()V"⟩, 7), (⟨"DiscLines$Law", "readLevel", "(II)V"⟩, 7), (⟨"DiscLines$Law", "readUnit", "(I)V"⟩, 7), (⟨"DiscLines$Law", "readPlainUnit", "(I)V"⟩, 7), (⟨"DiscLines$Law", "nextSign", "()I"⟩, 7), (⟨"DiscLines$Law", "addStep", "(I)V"⟩, 7), (⟨"DiscLines$Law", "readDigits", "()V"⟩, 7), (⟨"DiscLines$Law", "noteFault", "(II)V"⟩, 7), (⟨"DiscLines$Law", "readInside", "(I)V"⟩, 7), (⟨"DiscLines", "look", "(IIIII)V"⟩, 7), (⟨"DiscLines$Eye", "aimAt", "(II)V"⟩, 5), (⟨"DiscLines$Eye", "work", "(LDiscLines$Law;)J"⟩, 5)]
theorem lw_r1 : ∀ q ∈ lw_privs_1, lw_okq q := List.forall_mem_cons.mpr ⟨lw_p0, List.forall_mem_cons.mpr ⟨lw_p1, List.forall_mem_cons.mpr ⟨lw_p2, List.forall_mem_cons.mpr ⟨lw_p3, List.forall_mem_cons.mpr ⟨lw_p4, List.forall_mem_cons.mpr ⟨lw_p5, List.forall_mem_cons.mpr ⟨lw_p6, List.forall_mem_cons.mpr ⟨lw_p7, List.forall_mem_cons.mpr ⟨lw_p8, List.forall_mem_cons.mpr ⟨lw_p9, List.forall_mem_cons.mpr ⟨lw_p10, List.forall_mem_cons.mpr ⟨lw_p11, List.forall_mem_cons.mpr ⟨lw_p12, List.forall_mem_cons.mpr ⟨lw_p13, List.forall_mem_cons.mpr ⟨lw_p14, List.forall_mem_cons.mpr ⟨lw_p15, fun _ h => absurd h List.not_mem_nil⟩⟩⟩⟩⟩⟩⟩⟩⟩⟩⟩⟩⟩⟩⟩⟩
theorem lw_p16 : lw_okq (⟨"DiscLines$Eye", "unitAt", "(I)J"⟩, 5) := ⟨⟨by decide +kernel, by decide +kernel⟩, List.mem_of_getElem? (i := 186) (by decide +kernel), List.mem_of_getElem? (i := 426) (by decide +kernel), List.mem_of_getElem? (i := 427) (by decide +kernel)⟩
theorem lw_p17 : lw_okq (⟨"DiscLines", "linesFromFar", "(III)I"⟩, 7) := ⟨⟨by decide +kernel, by decide +kernel⟩, List.mem_of_getElem? (i := 16) (by decide +kernel), List.mem_of_getElem? (i := 444) (by decide +kernel), List.mem_of_getElem? (i := 445) (by decide +kernel)⟩
theorem lw_p18 : lw_okq (⟨"DiscLines$Book", "sheetsShown", "(II)I"⟩, 11) := ⟨⟨by decide +kernel, by decide +kernel⟩, List.mem_of_getElem? (i := 82) (by decide +kernel), List.mem_of_getElem? (i := 496) (by decide +kernel), List.mem_of_getElem? (i := 497) (by decide +kernel)⟩
theorem lw_p19 : lw_okq (⟨"DiscLines", "areTwoSheets", "(II)Z"⟩, 7) := ⟨⟨by decide +kernel, by decide +kernel⟩, List.mem_of_getElem? (i := 16) (by decide +kernel), List.mem_of_getElem? (i := 526) (by decide +kernel), List.mem_of_getElem? (i := 527) (by decide +kernel)⟩
theorem lw_p20 : lw_okq (⟨"DiscLines", "setFraction", "(JJ)V"⟩, 7) := ⟨⟨by decide +kernel, by decide +kernel⟩, List.mem_of_getElem? (i := 16) (by decide +kernel), List.mem_of_getElem? (i := 540) (by decide +kernel), List.mem_of_getElem? (i := 541) (by decide +kernel)⟩
theorem lw_p21 : lw_okq (⟨"DiscLines$Book", "costOfOwn", "(II)I"⟩, 11) := ⟨⟨by decide +kernel, by decide +kernel⟩, List.mem_of_getElem? (i := 82) (by decide +kernel), List.mem_of_getElem? (i := 565) (by decide +kernel), List.mem_of_getElem? (i := 566) (by decide +kernel)⟩
theorem lw_p22 : lw_okq (⟨"DiscLines$Book", "costOfTaking", "(II)I"⟩, 11) := ⟨⟨by decide +kernel, by decide +kernel⟩, List.mem_of_getElem? (i := 82) (by decide +kernel), List.mem_of_getElem? (i := 570) (by decide +kernel), List.mem_of_getElem? (i := 571) (by decide +kernel)⟩
theorem lw_p23 : lw_okq (⟨"DiscLines", "allowsAll", "(II)Z"⟩, 7) := ⟨⟨by decide +kernel, by decide +kernel⟩, List.mem_of_getElem? (i := 16) (by decide +kernel), List.mem_of_getElem? (i := 606) (by decide +kernel), List.mem_of_getElem? (i := 607) (by decide +kernel)⟩
theorem lw_p24 : lw_okq (⟨"DiscLines", "areSheets", "(I)Z"⟩, 7) := ⟨⟨by decide +kernel, by decide +kernel⟩, List.mem_of_getElem? (i := 16) (by decide +kernel), List.mem_of_getElem? (i := 615) (by decide +kernel), List.mem_of_getElem? (i := 616) (by decide +kernel)⟩
theorem lw_p25 : lw_okq (⟨"DiscLines", "guessesAllowing", "(I)I"⟩, 7) := ⟨⟨by decide +kernel, by decide +kernel⟩, List.mem_of_getElem? (i := 16) (by decide +kernel), List.mem_of_getElem? (i := 619) (by decide +kernel), List.mem_of_getElem? (i := 620) (by decide +kernel)⟩
theorem lw_p26 : lw_okq (⟨"DiscLines", "drawByAllLaws", "(II)V"⟩, 7) := ⟨⟨by decide +kernel, by decide +kernel⟩, List.mem_of_getElem? (i := 16) (by decide +kernel), List.mem_of_getElem? (i := 637) (by decide +kernel), List.mem_of_getElem? (i := 638) (by decide +kernel)⟩
theorem lw_p27 : lw_okq (⟨"DiscLines", "countUnlike", "(II)I"⟩, 7) := ⟨⟨by decide +kernel, by decide +kernel⟩, List.mem_of_getElem? (i := 16) (by decide +kernel), List.mem_of_getElem? (i := 641) (by decide +kernel), List.mem_of_getElem? (i := 642) (by decide +kernel)⟩
theorem lw_p28 : lw_okq (⟨"DiscLines", "isDrawnAhead", "(III)Z"⟩, 7) := ⟨⟨by decide +kernel, by decide +kernel⟩, List.mem_of_getElem? (i := 16) (by decide +kernel), List.mem_of_getElem? (i := 645) (by decide +kernel), List.mem_of_getElem? (i := 646) (by decide +kernel)⟩
theorem lw_p29 : lw_okq (⟨"DiscLines$Book", "weightOfAllSheets", "()I"⟩, 11) := ⟨⟨by decide +kernel, by decide +kernel⟩, List.mem_of_getElem? (i := 82) (by decide +kernel), List.mem_of_getElem? (i := 657) (by decide +kernel), List.mem_of_getElem? (i := 658) (by decide +kernel)⟩
theorem lw_p30 : lw_okq (⟨"DiscLines$Book", "weightOfSheet", "(I)I"⟩, 11) := ⟨⟨by decide +kernel, by decide +kernel⟩, List.mem_of_getElem? (i := 82) (by decide +kernel), List.mem_of_getElem? (i := 661) (by decide +kernel), List.mem_of_getElem? (i := 662) (by decide +kernel)⟩
theorem lw_p31 : lw_okq (⟨"DiscLinesModel", "change", "(II)I"⟩, 21) := ⟨⟨by decide +kernel, by decide +kernel⟩, List.mem_of_getElem? (i := 760) (by decide +kernel), List.mem_of_getElem? (i := 846) (by decide +kernel), List.mem_of_getElem? (i := 847) (by decide +kernel)⟩
def lw_privs_2 : List (MethodName × Nat) := [(⟨"DiscLines$Eye", "unitAt", "(I)J"⟩, 5), (⟨"DiscLines", "linesFromFar", "(III)I"⟩, 7), (⟨"DiscLines$Book", "sheetsShown", "(II)I"⟩, 11), (⟨"DiscLines", "areTwoSheets", "(II)Z"⟩, 7), (⟨"DiscLines", "setFraction", "(JJ)V"⟩, 7), (⟨"DiscLines$Book", "costOfOwn", "(II)I"⟩, 11), (⟨"DiscLines$Book", "costOfTaking", "(II)I"⟩, 11), (⟨"DiscLines", "allowsAll", "(II)Z"⟩, 7), (⟨"DiscLines", "areSheets", "(I)Z"⟩, 7), (⟨"DiscLines", "guessesAllowing", "(I)I"⟩, 7), (⟨"DiscLines", "drawByAllLaws", "(II)V"⟩, 7), (⟨"DiscLines", "countUnlike", "(II)I"⟩, 7), (⟨"DiscLines", "isDrawnAhead", "(III)Z"⟩, 7), (⟨"DiscLines$Book", "weightOfAllSheets", "()I"⟩, 11), (⟨"DiscLines$Book", "weightOfSheet", "(I)I"⟩, 11), (⟨"DiscLinesModel", "change", "(II)I"⟩, 21)]
theorem lw_r2 : ∀ q ∈ lw_privs_2, lw_okq q := List.forall_mem_cons.mpr ⟨lw_p16, List.forall_mem_cons.mpr ⟨lw_p17, List.forall_mem_cons.mpr ⟨lw_p18, List.forall_mem_cons.mpr ⟨lw_p19, List.forall_mem_cons.mpr ⟨lw_p20, List.forall_mem_cons.mpr ⟨lw_p21, List.forall_mem_cons.mpr ⟨lw_p22, List.forall_mem_cons.mpr ⟨lw_p23, List.forall_mem_cons.mpr ⟨lw_p24, List.forall_mem_cons.mpr ⟨lw_p25, List.forall_mem_cons.mpr ⟨lw_p26, List.forall_mem_cons.mpr ⟨lw_p27, List.forall_mem_cons.mpr ⟨lw_p28, List.forall_mem_cons.mpr ⟨lw_p29, List.forall_mem_cons.mpr ⟨lw_p30, List.forall_mem_cons.mpr ⟨lw_p31, fun _ h => absurd h List.not_mem_nil⟩⟩⟩⟩⟩⟩⟩⟩⟩⟩⟩⟩⟩⟩⟩⟩
theorem lw_p32 : lw_okq (⟨"DiscLinesModel", "layWorld", "(II)V"⟩, 21) := ⟨⟨by decide +kernel, by decide +kernel⟩, List.mem_of_getElem? (i := 760) (by decide +kernel), List.mem_of_getElem? (i := 869) (by decide +kernel), List.mem_of_getElem? (i := 870) (by decide +kernel)⟩
theorem lw_p33 : lw_okq (⟨"DiscLinesModel", "seenAt", "(III)I"⟩, 21) := ⟨⟨by decide +kernel, by decide +kernel⟩, List.mem_of_getElem? (i := 760) (by decide +kernel), List.mem_of_getElem? (i := 873) (by decide +kernel), List.mem_of_getElem? (i := 874) (by decide +kernel)⟩
theorem lw_p34 : lw_okq (⟨"DiscLinesModel", "blurred", "(III)I"⟩, 21) := ⟨⟨by decide +kernel, by decide +kernel⟩, List.mem_of_getElem? (i := 760) (by decide +kernel), List.mem_of_getElem? (i := 877) (by decide +kernel), List.mem_of_getElem? (i := 878) (by decide +kernel)⟩
theorem lw_p35 : lw_okq (⟨"DiscLinesModel", "read", "(I)I"⟩, 21) := ⟨⟨by decide +kernel, by decide +kernel⟩, List.mem_of_getElem? (i := 760) (by decide +kernel), List.mem_of_getElem? (i := 901) (by decide +kernel), List.mem_of_getElem? (i := 902) (by decide +kernel)⟩
theorem lw_p36 : lw_okq (⟨"DiscLinesModel", "goSign", "(II)I"⟩, 21) := ⟨⟨by decide +kernel, by decide +kernel⟩, List.mem_of_getElem? (i := 760) (by decide +kernel), List.mem_of_getElem? (i := 905) (by decide +kernel), List.mem_of_getElem? (i := 906) (by decide +kernel)⟩
theorem lw_p37 : lw_okq (⟨"DiscLinesModel", "goBehind", "(II)I"⟩, 21) := ⟨⟨by decide +kernel, by decide +kernel⟩, List.mem_of_getElem? (i := 760) (by decide +kernel), List.mem_of_getElem? (i := 912) (by decide +kernel), List.mem_of_getElem? (i := 913) (by decide +kernel)⟩
theorem lw_p38 : lw_okq (⟨"DiscLinesModel", "layDown", "(I)V"⟩, 21) := ⟨⟨by decide +kernel, by decide +kernel⟩, List.mem_of_getElem? (i := 760) (by decide +kernel), List.mem_of_getElem? (i := 916) (by decide +kernel), List.mem_of_getElem? (i := 917) (by decide +kernel)⟩
theorem lw_p39 : lw_okq (⟨"DiscLinesModel", "lay", "(IJ)V"⟩, 21) := ⟨⟨by decide +kernel, by decide +kernel⟩, List.mem_of_getElem? (i := 760) (by decide +kernel), List.mem_of_getElem? (i := 923) (by decide +kernel), List.mem_of_getElem? (i := 924) (by decide +kernel)⟩
theorem lw_p40 : lw_okq (⟨"DiscLinesModel", "join", "(I)V"⟩, 21) := ⟨⟨by decide +kernel, by decide +kernel⟩, List.mem_of_getElem? (i := 760) (by decide +kernel), List.mem_of_getElem? (i := 930) (by decide +kernel), List.mem_of_getElem? (i := 931) (by decide +kernel)⟩
theorem lw_p41 : lw_okq (⟨"DiscLinesModel", "goUnit", "(II)I"⟩, 21) := ⟨⟨by decide +kernel, by decide +kernel⟩, List.mem_of_getElem? (i := 760) (by decide +kernel), List.mem_of_getElem? (i := 934) (by decide +kernel), List.mem_of_getElem? (i := 935) (by decide +kernel)⟩
theorem lw_p42 : lw_okq (⟨"DiscLinesModel", "drawnOn", "(IIIIII)I"⟩, 21) := ⟨⟨by decide +kernel, by decide +kernel⟩, List.mem_of_getElem? (i := 760) (by decide +kernel), List.mem_of_getElem? (i := 949) (by decide +kernel), List.mem_of_getElem? (i := 950) (by decide +kernel)⟩
theorem lw_p43 : lw_okq (⟨"DiscLinesModel", "drawnOf", "(IIII)I"⟩, 21) := ⟨⟨by decide +kernel, by decide +kernel⟩, List.mem_of_getElem? (i := 760) (by decide +kernel), List.mem_of_getElem? (i := 953) (by decide +kernel), List.mem_of_getElem? (i := 954) (by decide +kernel)⟩
theorem lw_p44 : lw_okq (⟨"DiscLinesModel", "tells", "()Z"⟩, 21) := ⟨⟨by decide +kernel, by decide +kernel⟩, List.mem_of_getElem? (i := 760) (by decide +kernel), List.mem_of_getElem? (i := 960) (by decide +kernel), List.mem_of_getElem? (i := 961) (by decide +kernel)⟩
theorem lw_p45 : lw_okq (⟨"DiscLinesModel", "drawnFar", "(III)I"⟩, 21) := ⟨⟨by decide +kernel, by decide +kernel⟩, List.mem_of_getElem? (i := 760) (by decide +kernel), List.mem_of_getElem? (i := 971) (by decide +kernel), List.mem_of_getElem? (i := 972) (by decide +kernel)⟩
theorem lw_p46 : lw_okq (⟨"DiscLinesModel", "isNext", "(II)Z"⟩, 21) := ⟨⟨by decide +kernel, by decide +kernel⟩, List.mem_of_getElem? (i := 760) (by decide +kernel), List.mem_of_getElem? (i := 991) (by decide +kernel), List.mem_of_getElem? (i := 992) (by decide +kernel)⟩
theorem lw_p47 : lw_okq (⟨"DiscLinesModel", "isObserver", "(I)Z"⟩, 21) := ⟨⟨by decide +kernel, by decide +kernel⟩, List.mem_of_getElem? (i := 760) (by decide +kernel), List.mem_of_getElem? (i := 995) (by decide +kernel), List.mem_of_getElem? (i := 996) (by decide +kernel)⟩
def lw_privs_3 : List (MethodName × Nat) := [(⟨"DiscLinesModel", "layWorld", "(II)V"⟩, 21), (⟨"DiscLinesModel", "seenAt", "(III)I"⟩, 21), (⟨"DiscLinesModel", "blurred", "(III)I"⟩, 21), (⟨"DiscLinesModel", "read", "(I)I"⟩, 21), (⟨"DiscLinesModel", "goSign", "(II)I"⟩, 21), (⟨"DiscLinesModel", "goBehind", "(II)I"⟩, 21), (⟨"DiscLinesModel", "layDown", "(I)V"⟩, 21), (⟨"DiscLinesModel", "lay", "(IJ)V"⟩, 21), (⟨"DiscLinesModel", "join", "(I)V"⟩, 21), (⟨"DiscLinesModel", "goUnit", "(II)I"⟩, 21), (⟨"DiscLinesModel", "drawnOn", "(IIIIII)I"⟩, 21), (⟨"DiscLinesModel", "drawnOf", "(IIII)I"⟩, 21), (⟨"DiscLinesModel", "tells", "()Z"⟩, 21), (⟨"DiscLinesModel", "drawnFar", "(III)I"⟩, 21), (⟨"DiscLinesModel", "isNext", "(II)Z"⟩, 21), (⟨"DiscLinesModel", "isObserver", "(I)Z"⟩, 21)]
theorem lw_r3 : ∀ q ∈ lw_privs_3, lw_okq q := List.forall_mem_cons.mpr ⟨lw_p32, List.forall_mem_cons.mpr ⟨lw_p33, List.forall_mem_cons.mpr ⟨lw_p34, List.forall_mem_cons.mpr ⟨lw_p35, List.forall_mem_cons.mpr ⟨lw_p36, List.forall_mem_cons.mpr ⟨lw_p37, List.forall_mem_cons.mpr ⟨lw_p38, List.forall_mem_cons.mpr ⟨lw_p39, List.forall_mem_cons.mpr ⟨lw_p40, List.forall_mem_cons.mpr ⟨lw_p41, List.forall_mem_cons.mpr ⟨lw_p42, List.forall_mem_cons.mpr ⟨lw_p43, List.forall_mem_cons.mpr ⟨lw_p44, List.forall_mem_cons.mpr ⟨lw_p45, List.forall_mem_cons.mpr ⟨lw_p46, List.forall_mem_cons.mpr ⟨lw_p47, fun _ h => absurd h List.not_mem_nil⟩⟩⟩⟩⟩⟩⟩⟩⟩⟩⟩⟩⟩⟩⟩⟩
theorem lw_p48 : lw_okq (⟨"DiscLinesModel", "nightOf", "(I)I"⟩, 21) := ⟨⟨by decide +kernel, by decide +kernel⟩, List.mem_of_getElem? (i := 760) (by decide +kernel), List.mem_of_getElem? (i := 999) (by decide +kernel), List.mem_of_getElem? (i := 1000) (by decide +kernel)⟩
theorem lw_p49 : lw_okq (⟨"DiscLinesModel", "addSheet", "(III)I"⟩, 21) := ⟨⟨by decide +kernel, by decide +kernel⟩, List.mem_of_getElem? (i := 760) (by decide +kernel), List.mem_of_getElem? (i := 1004) (by decide +kernel), List.mem_of_getElem? (i := 1005) (by decide +kernel)⟩
theorem lw_p50 : lw_okq (⟨"DiscLinesModel", "shownBy", "(II)I"⟩, 21) := ⟨⟨by decide +kernel, by decide +kernel⟩, List.mem_of_getElem? (i := 760) (by decide +kernel), List.mem_of_getElem? (i := 1012) (by decide +kernel), List.mem_of_getElem? (i := 1013) (by decide +kernel)⟩
theorem lw_p51 : lw_okq (⟨"DiscLinesModel", "sheetsBy", "(II)I"⟩, 21) := ⟨⟨by decide +kernel, by decide +kernel⟩, List.mem_of_getElem? (i := 760) (by decide +kernel), List.mem_of_getElem? (i := 1016) (by decide +kernel), List.mem_of_getElem? (i := 1017) (by decide +kernel)⟩
theorem lw_p52 : lw_okq (⟨"DiscLinesModel", "linesOf", "(I)I"⟩, 21) := ⟨⟨by decide +kernel, by decide +kernel⟩, List.mem_of_getElem? (i := 760) (by decide +kernel), List.mem_of_getElem? (i := 1020) (by decide +kernel), List.mem_of_getElem? (i := 1021) (by decide +kernel)⟩
theorem lw_p53 : lw_okq (⟨"DiscLinesModel", "isSheet", "(I)Z"⟩, 21) := ⟨⟨by decide +kernel, by decide +kernel⟩, List.mem_of_getElem? (i := 760) (by decide +kernel), List.mem_of_getElem? (i := 1028) (by decide +kernel), List.mem_of_getElem? (i := 1029) (by decide +kernel)⟩
theorem lw_p54 : lw_okq (⟨"DiscLinesModel", "sheetTold", "(II)I"⟩, 21) := ⟨⟨by decide +kernel, by decide +kernel⟩, List.mem_of_getElem? (i := 760) (by decide +kernel), List.mem_of_getElem? (i := 1036) (by decide +kernel), List.mem_of_getElem? (i := 1037) (by decide +kernel)⟩
theorem lw_p55 : lw_okq (⟨"DiscLinesModel", "observerOf", "(I)I"⟩, 21) := ⟨⟨by decide +kernel, by decide +kernel⟩, List.mem_of_getElem? (i := 760) (by decide +kernel), List.mem_of_getElem? (i := 1040) (by decide +kernel), List.mem_of_getElem? (i := 1041) (by decide +kernel)⟩
theorem lw_p56 : lw_okq (⟨"DiscLinesModel", "shownFor", "(I)I"⟩, 21) := ⟨⟨by decide +kernel, by decide +kernel⟩, List.mem_of_getElem? (i := 760) (by decide +kernel), List.mem_of_getElem? (i := 1044) (by decide +kernel), List.mem_of_getElem? (i := 1045) (by decide +kernel)⟩
theorem lw_p57 : lw_okq (⟨"DiscLinesModel", "isPair", "(II)Z"⟩, 21) := ⟨⟨by decide +kernel, by decide +kernel⟩, List.mem_of_getElem? (i := 760) (by decide +kernel), List.mem_of_getElem? (i := 1052) (by decide +kernel), List.mem_of_getElem? (i := 1053) (by decide +kernel)⟩
theorem lw_p58 : lw_okq (⟨"DiscLinesModel", "mayHave", "(I)I"⟩, 21) := ⟨⟨by decide +kernel, by decide +kernel⟩, List.mem_of_getElem? (i := 760) (by decide +kernel), List.mem_of_getElem? (i := 1080) (by decide +kernel), List.mem_of_getElem? (i := 1081) (by decide +kernel)⟩
theorem lw_p59 : lw_okq (⟨"DiscLinesModel", "oldest", "(I)I"⟩, 21) := ⟨⟨by decide +kernel, by decide +kernel⟩, List.mem_of_getElem? (i := 760) (by decide +kernel), List.mem_of_getElem? (i := 1085) (by decide +kernel), List.mem_of_getElem? (i := 1086) (by decide +kernel)⟩
theorem lw_p60 : lw_okq (⟨"DiscLinesModel", "allowsOf", "(II)Z"⟩, 21) := ⟨⟨by decide +kernel, by decide +kernel⟩, List.mem_of_getElem? (i := 760) (by decide +kernel), List.mem_of_getElem? (i := 1105) (by decide +kernel), List.mem_of_getElem? (i := 1106) (by decide +kernel)⟩
theorem lw_p61 : lw_okq (⟨"DiscLinesModel", "isSheets", "(I)Z"⟩, 21) := ⟨⟨by decide +kernel, by decide +kernel⟩, List.mem_of_getElem? (i := 760) (by decide +kernel), List.mem_of_getElem? (i := 1113) (by decide +kernel), List.mem_of_getElem? (i := 1114) (by decide +kernel)⟩
theorem lw_p62 : lw_okq (⟨"DiscLinesModel", "mayBeOf", "(I)I"⟩, 21) := ⟨⟨by decide +kernel, by decide +kernel⟩, List.mem_of_getElem? (i := 760) (by decide +kernel), List.mem_of_getElem? (i := 1117) (by decide +kernel), List.mem_of_getElem? (i := 1118) (by decide +kernel)⟩
theorem lw_p63 : lw_okq (⟨"DiscLinesModel", "worldsBy", "(I)I"⟩, 21) := ⟨⟨by decide +kernel, by decide +kernel⟩, List.mem_of_getElem? (i := 760) (by decide +kernel), List.mem_of_getElem? (i := 1125) (by decide +kernel), List.mem_of_getElem? (i := 1126) (by decide +kernel)⟩
def lw_privs_4 : List (MethodName × Nat) := [(⟨"DiscLinesModel", "nightOf", "(I)I"⟩, 21), (⟨"DiscLinesModel", "addSheet", "(III)I"⟩, 21), (⟨"DiscLinesModel", "shownBy", "(II)I"⟩, 21), (⟨"DiscLinesModel", "sheetsBy", "(II)I"⟩, 21), (⟨"DiscLinesModel", "linesOf", "(I)I"⟩, 21), (⟨"DiscLinesModel", "isSheet", "(I)Z"⟩, 21), (⟨"DiscLinesModel", "sheetTold", "(II)I"⟩, 21), (⟨"DiscLinesModel", "observerOf", "(I)I"⟩, 21), (⟨"DiscLinesModel", "shownFor", "(I)I"⟩, 21), (⟨"DiscLinesModel", "isPair", "(II)Z"⟩, 21), (⟨"DiscLinesModel", "mayHave", "(I)I"⟩, 21), (⟨"DiscLinesModel", "oldest", "(I)I"⟩, 21), (⟨"DiscLinesModel", "allowsOf", "(II)Z"⟩, 21), (⟨"DiscLinesModel", "isSheets", "(I)Z"⟩, 21), (⟨"DiscLinesModel", "mayBeOf", "(I)I"⟩, 21), (⟨"DiscLinesModel", "worldsBy", "(I)I"⟩, 21)]
theorem lw_r4 : ∀ q ∈ lw_privs_4, lw_okq q := List.forall_mem_cons.mpr ⟨lw_p48, List.forall_mem_cons.mpr ⟨lw_p49, List.forall_mem_cons.mpr ⟨lw_p50, List.forall_mem_cons.mpr ⟨lw_p51, List.forall_mem_cons.mpr ⟨lw_p52, List.forall_mem_cons.mpr ⟨lw_p53, List.forall_mem_cons.mpr ⟨lw_p54, List.forall_mem_cons.mpr ⟨lw_p55, List.forall_mem_cons.mpr ⟨lw_p56, List.forall_mem_cons.mpr ⟨lw_p57, List.forall_mem_cons.mpr ⟨lw_p58, List.forall_mem_cons.mpr ⟨lw_p59, List.forall_mem_cons.mpr ⟨lw_p60, List.forall_mem_cons.mpr ⟨lw_p61, List.forall_mem_cons.mpr ⟨lw_p62, List.forall_mem_cons.mpr ⟨lw_p63, fun _ h => absurd h List.not_mem_nil⟩⟩⟩⟩⟩⟩⟩⟩⟩⟩⟩⟩⟩⟩⟩⟩
theorem lw_p64 : lw_okq (⟨"DiscLinesModel", "unlikeWays", "(III)I"⟩, 21) := ⟨⟨by decide +kernel, by decide +kernel⟩, List.mem_of_getElem? (i := 760) (by decide +kernel), List.mem_of_getElem? (i := 1134) (by decide +kernel), List.mem_of_getElem? (i := 1135) (by decide +kernel)⟩
theorem lw_p65 : lw_okq (⟨"DiscLinesModel", "weight", "(I)I"⟩, 21) := ⟨⟨by decide +kernel, by decide +kernel⟩, List.mem_of_getElem? (i := 760) (by decide +kernel), List.mem_of_getElem? (i := 1143) (by decide +kernel), List.mem_of_getElem? (i := 1144) (by decide +kernel)⟩
theorem lw_p66 : lw_okq (⟨"DiscLinesModel", "weightOf", "(I)I"⟩, 21) := ⟨⟨by decide +kernel, by decide +kernel⟩, List.mem_of_getElem? (i := 760) (by decide +kernel), List.mem_of_getElem? (i := 1147) (by decide +kernel), List.mem_of_getElem? (i := 1148) (by decide +kernel)⟩
theorem lw_p67 : lw_okq (⟨"DiscLinesModel", "countOf", "(I)I"⟩, 21) := ⟨⟨by decide +kernel, by decide +kernel⟩, List.mem_of_getElem? (i := 760) (by decide +kernel), List.mem_of_getElem? (i := 1167) (by decide +kernel), List.mem_of_getElem? (i := 1168) (by decide +kernel)⟩
theorem lw_p68 : lw_okq (⟨"DiscLinesModel", "tell", "(J)V"⟩, 21) := ⟨⟨by decide +kernel, by decide +kernel⟩, List.mem_of_getElem? (i := 760) (by decide +kernel), List.mem_of_getElem? (i := 1176) (by decide +kernel), List.mem_of_getElem? (i := 1177) (by decide +kernel)⟩
theorem lw_p69 : lw_okq (⟨"DiscLinesModel", "tellRow", "(II)V"⟩, 21) := ⟨⟨by decide +kernel, by decide +kernel⟩, List.mem_of_getElem? (i := 760) (by decide +kernel), List.mem_of_getElem? (i := 1181) (by decide +kernel), List.mem_of_getElem? (i := 1182) (by decide +kernel)⟩
def lw_privs_5 : List (MethodName × Nat) := [(⟨"DiscLinesModel", "unlikeWays", "(III)I"⟩, 21), (⟨"DiscLinesModel", "weight", "(I)I"⟩, 21), (⟨"DiscLinesModel", "weightOf", "(I)I"⟩, 21), (⟨"DiscLinesModel", "countOf", "(I)I"⟩, 21), (⟨"DiscLinesModel", "tell", "(J)V"⟩, 21), (⟨"DiscLinesModel", "tellRow", "(II)V"⟩, 21)]
theorem lw_r5 : ∀ q ∈ lw_privs_5, lw_okq q := List.forall_mem_cons.mpr ⟨lw_p64, List.forall_mem_cons.mpr ⟨lw_p65, List.forall_mem_cons.mpr ⟨lw_p66, List.forall_mem_cons.mpr ⟨lw_p67, List.forall_mem_cons.mpr ⟨lw_p68, List.forall_mem_cons.mpr ⟨lw_p69, fun _ h => absurd h List.not_mem_nil⟩⟩⟩⟩⟩⟩
def lw_privs : List (MethodName × Nat) := lw_privs_1 ++ (lw_privs_2 ++ (lw_privs_3 ++ (lw_privs_4 ++ (lw_privs_5))))
def lw_tbl : List Cond := k2_sels lw_privs ++ tables_1
theorem lw_privs_ok : ∀ q ∈ lw_privs, lw_okq q := by
  show ∀ q ∈ lw_privs_1 ++ (lw_privs_2 ++ (lw_privs_3 ++ (lw_privs_4 ++ (lw_privs_5)))), lw_okq q
  exact List.forall_mem_append.mpr ⟨lw_r1, List.forall_mem_append.mpr ⟨lw_r2, List.forall_mem_append.mpr ⟨lw_r3, List.forall_mem_append.mpr ⟨lw_r4, lw_r5⟩⟩⟩⟩
end
section
/-! names of the classes, their fields; the links of the constant pools, by number -/
def zR0 : String := "DiscLines$Book"
def zR1 : String := "DiscLines$Eye"
def zR2 : String := "DiscLines$Guesses"
def zR3 : String := "DiscLines$Law"
def zR4 : String := "DiscLines$Picture"
def zR5 : String := "DiscLines$State"
def zR6 : String := "DiscLines$World"
def zR7 : String := "DiscLines"
def zR8 : String := "DiscLinesModel"
def zR9 : String := "DiscLines$Step"
def zR10 : String := "DiscLinesLaw"
def zR11 : String := "java/lang/Integer"
def zR12 : String := "java/lang/Math"
def zR13 : String := "java/util/Arrays"
def zR14 : String := "java/lang/System"
def zT0 : u_T := fun k => match k with
  | 0 => ("DiscLines$Book", "observerLaws", "[I", true)
  | 1 => ("DiscLines$Book", "observerWeights", "[I", true)
  | 2 => ("DiscLines$Book", "observerCount", "I", false)
  | 3 => ("DiscLines$Book", "sheetObservers", "[I", true)
  | 4 => ("DiscLines$Book", "sheetNights", "[I", true)
  | 5 => ("DiscLines$Book", "sheetLines", "[I", true)
  | 6 => ("DiscLines$Book", "sheetCount", "I", false)
  | 7 => ("DiscLines$Book", "shownSheets", "[I", true)
  | 8 => ("DiscLines$Book", "shownObservers", "[I", true)
  | 9 => ("DiscLines$Book", "shownNights", "[I", true)
  | _ => ("DiscLines$Book", "showCount", "I", false)
def zy0 : Nat → FieldType := fun k => match k with
  | 0 => .array .int
  | 1 => .array .int
  | 2 => .int
  | 3 => .array .int
  | 4 => .array .int
  | 5 => .array .int
  | 6 => .int
  | 7 => .array .int
  | 8 => .array .int
  | 9 => .array .int
  | _ => .int
theorem zn0 : ∀ a, a < 11 → ∀ b, b < 11 → a ≠ b → (zT0 a).2.1 ≠ (zT0 b).2.1 := by decide +kernel
theorem zq0 : ∀ k, k < 11 → parseFieldDescriptor (zT0 k).2.2.1 = some (zy0 k) := by decide +kernel
def zT1 : u_T := fun k => match k with
  | 0 => ("DiscLines$Eye", "picture", "LDiscLines$Picture;", true)
  | 1 => ("DiscLines$Eye", "units", "[J", true)
  | 2 => ("DiscLines$Eye", "stack", "[J", true)
  | 3 => ("DiscLines$Eye", "linesOfUnshown", "I", false)
  | _ => ("DiscLines$Eye", "linesOfShown", "I", false)
def zy1 : Nat → FieldType := fun k => match k with
  | 0 => .object "DiscLines$Picture"
  | 1 => .array .long
  | 2 => .array .long
  | 3 => .int
  | _ => .int
theorem zn1 : ∀ a, a < 5 → ∀ b, b < 5 → a ≠ b → (zT1 a).2.1 ≠ (zT1 b).2.1 := by decide +kernel
theorem zq1 : ∀ k, k < 5 → parseFieldDescriptor (zT1 k).2.2.1 = some (zy1 k) := by decide +kernel
def zT2 : u_T := fun k => match k with
  | 0 => ("DiscLines$Guesses", "worlds", "[I", true)
  | 1 => ("DiscLines$Guesses", "laws", "[I", true)
  | 2 => ("DiscLines$Guesses", "glasses", "[I", true)
  | _ => ("DiscLines$Guesses", "size", "I", false)
def zy2 : Nat → FieldType := fun k => match k with
  | 0 => .array .int
  | 1 => .array .int
  | 2 => .array .int
  | _ => .int
theorem zn2 : ∀ a, a < 4 → ∀ b, b < 4 → a ≠ b → (zT2 a).2.1 ≠ (zT2 b).2.1 := by decide +kernel
theorem zq2 : ∀ k, k < 4 → parseFieldDescriptor (zT2 k).2.2.1 = some (zy2 k) := by decide +kernel
def zT3 : u_T := fun k => match k with
  | 0 => ("DiscLines$Law", "signs", "[I", true)
  | 1 => ("DiscLines$Law", "length", "I", false)
  | 2 => ("DiscLines$Law", "fault", "I", false)
  | 3 => ("DiscLines$Law", "steps", "[I", true)
  | 4 => ("DiscLines$Law", "stepCount", "I", false)
  | 5 => ("DiscLines$Law", "asksShown", "Z", false)
  | _ => ("DiscLines$Law", "place", "I", false)
def zy3 : Nat → FieldType := fun k => match k with
  | 0 => .array .int
  | 1 => .int
  | 2 => .int
  | 3 => .array .int
  | 4 => .int
  | 5 => .boolean
  | _ => .int
theorem zn3 : ∀ a, a < 7 → ∀ b, b < 7 → a ≠ b → (zT3 a).2.1 ≠ (zT3 b).2.1 := by decide +kernel
theorem zq3 : ∀ k, k < 7 → parseFieldDescriptor (zT3 k).2.2.1 = some (zy3 k) := by decide +kernel
def zT4 : u_T := fun k => match k with
  | 0 => ("DiscLines$Picture", "shades", "[I", true)
  | 1 => ("DiscLines$Picture", "sums", "[I", true)
  | 2 => ("DiscLines$Picture", "values", "[I", true)
  | _ => ("DiscLines$Picture", "glass", "I", false)
def zy4 : Nat → FieldType := fun k => match k with
  | 0 => .array .int
  | 1 => .array .int
  | 2 => .array .int
  | _ => .int
theorem zn4 : ∀ a, a < 4 → ∀ b, b < 4 → a ≠ b → (zT4 a).2.1 ≠ (zT4 b).2.1 := by decide +kernel
theorem zq4 : ∀ k, k < 4 → parseFieldDescriptor (zT4 k).2.2.1 = some (zy4 k) := by decide +kernel
def zT5 : u_T := fun k => match k with
  | 0 => ("DiscLines$State", "worlds", "[LDiscLines$World;", true)
  | 1 => ("DiscLines$State", "marks", "[I", true)
  | 2 => ("DiscLines$State", "laws", "[LDiscLines$Law;", true)
  | 3 => ("DiscLines$State", "book", "LDiscLines$Book;", true)
  | 4 => ("DiscLines$State", "guesses", "LDiscLines$Guesses;", true)
  | 5 => ("DiscLines$State", "own", "I", false)
  | _ => ("DiscLines$State", "error", "I", false)
def zy5 : Nat → FieldType := fun k => match k with
  | 0 => .array (.object "DiscLines$World")
  | 1 => .array .int
  | 2 => .array (.object "DiscLines$Law")
  | 3 => .object "DiscLines$Book"
  | 4 => .object "DiscLines$Guesses"
  | 5 => .int
  | _ => .int
theorem zn5 : ∀ a, a < 7 → ∀ b, b < 7 → a ≠ b → (zT5 a).2.1 ≠ (zT5 b).2.1 := by decide +kernel
theorem zq5 : ∀ k, k < 7 → parseFieldDescriptor (zT5 k).2.2.1 = some (zy5 k) := by decide +kernel
def zT6 : u_T := fun k => match k with
  | 0 => ("DiscLines$World", "shades", "[I", true)
  | _ => ("DiscLines$World", "greens", "[I", true)
def zy6 : Nat → FieldType := fun k => match k with
  | 0 => .array .int
  | _ => .array .int
theorem zn6 : ∀ a, a < 2 → ∀ b, b < 2 → a ≠ b → (zT6 a).2.1 ≠ (zT6 b).2.1 := by decide +kernel
theorem zq6 : ∀ k, k < 2 → parseFieldDescriptor (zT6 k).2.2.1 = some (zy6 k) := by decide +kernel
def zT7 : u_T := fun k => match k with
  | 0 => ("DiscLines", "now", "LDiscLines$State;", true)
  | 1 => ("DiscLines", "images", "[LDiscLines$State;", true)
  | 2 => ("DiscLines", "kept", "[Z", true)
  | 3 => ("DiscLines", "eye", "LDiscLines$Eye;", true)
  | 4 => ("DiscLines", "drawings", "[I", true)
  | 5 => ("DiscLines", "above", "J", false)
  | _ => ("DiscLines", "below", "J", false)
def zy7 : Nat → FieldType := fun k => match k with
  | 0 => .object "DiscLines$State"
  | 1 => .array (.object "DiscLines$State")
  | 2 => .array .boolean
  | 3 => .object "DiscLines$Eye"
  | 4 => .array .int
  | 5 => .long
  | _ => .long
theorem zn7 : ∀ a, a < 7 → ∀ b, b < 7 → a ≠ b → (zT7 a).2.1 ≠ (zT7 b).2.1 := by decide +kernel
theorem zq7 : ∀ k, k < 7 → parseFieldDescriptor (zT7 k).2.2.1 = some (zy7 k) := by decide +kernel
def zT8 : u_T := fun k => match k with
  | 0 => ("DiscLinesModel", "row", "[I", true)
  | 1 => ("DiscLinesModel", "kept", "[I", true)
  | 2 => ("DiscLinesModel", "isKept", "[Z", true)
  | 3 => ("DiscLinesModel", "up", "J", false)
  | 4 => ("DiscLinesModel", "low", "J", false)
  | 5 => ("DiscLinesModel", "picture", "[I", true)
  | 6 => ("DiscLinesModel", "codes", "[I", true)
  | 7 => ("DiscLinesModel", "numbers", "[J", true)
  | 8 => ("DiscLinesModel", "codeMany", "I", false)
  | 9 => ("DiscLinesModel", "waits", "[I", true)
  | 10 => ("DiscLinesModel", "waiting", "I", false)
  | 11 => ("DiscLinesModel", "depth", "I", false)
  | 12 => ("DiscLinesModel", "isCompared", "[Z", true)
  | 13 => ("DiscLinesModel", "isBehind", "Z", false)
  | 14 => ("DiscLinesModel", "digits", "I", false)
  | 15 => ("DiscLinesModel", "numberAt", "I", false)
  | 16 => ("DiscLinesModel", "letters", "[J", true)
  | 17 => ("DiscLinesModel", "stack", "[J", true)
  | 18 => ("DiscLinesModel", "leastCost", "I", false)
  | 19 => ("DiscLinesModel", "drawings", "[I", true)
  | _ => ("DiscLinesModel", "hash", "J", false)
def zy8 : Nat → FieldType := fun k => match k with
  | 0 => .array .int
  | 1 => .array .int
  | 2 => .array .boolean
  | 3 => .long
  | 4 => .long
  | 5 => .array .int
  | 6 => .array .int
  | 7 => .array .long
  | 8 => .int
  | 9 => .array .int
  | 10 => .int
  | 11 => .int
  | 12 => .array .boolean
  | 13 => .boolean
  | 14 => .int
  | 15 => .int
  | 16 => .array .long
  | 17 => .array .long
  | 18 => .int
  | 19 => .array .int
  | _ => .long
theorem zn8 : ∀ a, a < 21 → ∀ b, b < 21 → a ≠ b → (zT8 a).2.1 ≠ (zT8 b).2.1 := by decide +kernel
theorem zq8 : ∀ k, k < 21 → parseFieldDescriptor (zT8 k).2.2.1 = some (zy8 k) := by decide +kernel
def zcn : Nat → String := fun k => match k with
  | 0 => zR0
  | 1 => zR1
  | 2 => zR2
  | 3 => zR3
  | 4 => zR4
  | 5 => zR5
  | 6 => zR6
  | 7 => zR7
  | 8 => zR8
  | 9 => zR9
  | 10 => zR10
  | 11 => zR11
  | 12 => zR12
  | 13 => zR13
  | _ => zR14
abbrev zcl : List vw_C := [(zR0, zT0, 11), (zR1, zT1, 5), (zR2, zT2, 4), (zR3, zT3, 7), (zR4, zT4, 4), (zR5, zT5, 7), (zR6, zT6, 2), (zR7, zT7, 7), (zR8, zT8, 21)]
def zTT : Nat → u_T := fun k => match k with
  | 0 => zT0
  | 1 => zT1
  | 2 => zT2
  | 3 => zT3
  | 4 => zT4
  | 5 => zT5
  | 6 => zT6
  | 7 => zT7
  | _ => zT8
def zYY : Nat → Nat → FieldType := fun k => match k with
  | 0 => zy0
  | 1 => zy1
  | 2 => zy2
  | 3 => zy3
  | 4 => zy4
  | 5 => zy5
  | 6 => zy6
  | 7 => zy7
  | _ => zy8
def zNN : Nat → Nat := fun k => match k with
  | 0 => 11
  | 1 => 5
  | 2 => 4
  | 3 => 7
  | 4 => 4
  | 5 => 7
  | 6 => 2
  | 7 => 7
  | _ => 21
theorem zTbl_ex : ∃ l : List Cond, l = lw_tbl.filter goodWord := ⟨_, rfl⟩
noncomputable def zTbl : List Cond := Classical.choose zTbl_ex
theorem zTbl_eq : zTbl = lw_tbl.filter goodWord := Classical.choose_spec zTbl_ex
theorem zt (i : Nat) {w : Cond} (h : lw_tbl[i]? = some w) (hg : goodWord w = true) : w ∈ zTbl := by rw [zTbl_eq]; exact List.mem_filter.mpr ⟨List.mem_of_getElem? h, hg⟩
theorem zgw {w : Cond} (h : w ∈ zTbl) : goodWord w = true := by rw [zTbl_eq] at h; exact (List.mem_filter.mp h).2
theorem zw0 : ∀ w ∈ u_ws zR0 zT0 11, w ∈ zTbl := by
  intro w hw
  simp only [u_ws, List.mem_map, List.mem_range] at hw
  obtain ⟨k, hk, rfl⟩ := hw
  match k, hk with
  | 0, _ => exact zt 178 (by decide +kernel) rfl
  | 1, _ => exact zt 180 (by decide +kernel) rfl
  | 2, _ => exact zt 182 (by decide +kernel) rfl
  | 3, _ => exact zt 184 (by decide +kernel) rfl
  | 4, _ => exact zt 186 (by decide +kernel) rfl
  | 5, _ => exact zt 188 (by decide +kernel) rfl
  | 6, _ => exact zt 190 (by decide +kernel) rfl
  | 7, _ => exact zt 192 (by decide +kernel) rfl
  | 8, _ => exact zt 194 (by decide +kernel) rfl
  | 9, _ => exact zt 196 (by decide +kernel) rfl
  | 10, _ => exact zt 198 (by decide +kernel) rfl
  | k + 11, h => omega
theorem zw1 : ∀ w ∈ u_ws zR1 zT1 5, w ∈ zTbl := by
  intro w hw
  simp only [u_ws, List.mem_map, List.mem_range] at hw
  obtain ⟨k, hk, rfl⟩ := hw
  match k, hk with
  | 0, _ => exact zt 290 (by decide +kernel) rfl
  | 1, _ => exact zt 292 (by decide +kernel) rfl
  | 2, _ => exact zt 294 (by decide +kernel) rfl
  | 3, _ => exact zt 296 (by decide +kernel) rfl
  | 4, _ => exact zt 298 (by decide +kernel) rfl
  | k + 5, h => omega
theorem zw2 : ∀ w ∈ u_ws zR2 zT2 4, w ∈ zTbl := by
  intro w hw
  simp only [u_ws, List.mem_map, List.mem_range] at hw
  obtain ⟨k, hk, rfl⟩ := hw
  match k, hk with
  | 0, _ => exact zt 216 (by decide +kernel) rfl
  | 1, _ => exact zt 218 (by decide +kernel) rfl
  | 2, _ => exact zt 220 (by decide +kernel) rfl
  | 3, _ => exact zt 222 (by decide +kernel) rfl
  | k + 4, h => omega
theorem zw3 : ∀ w ∈ u_ws zR3 zT3 7, w ∈ zTbl := by
  intro w hw
  simp only [u_ws, List.mem_map, List.mem_range] at hw
  obtain ⟨k, hk, rfl⟩ := hw
  match k, hk with
  | 0, _ => exact zt 136 (by decide +kernel) rfl
  | 1, _ => exact zt 138 (by decide +kernel) rfl
  | 2, _ => exact zt 140 (by decide +kernel) rfl
  | 3, _ => exact zt 142 (by decide +kernel) rfl
  | 4, _ => exact zt 144 (by decide +kernel) rfl
  | 5, _ => exact zt 146 (by decide +kernel) rfl
  | 6, _ => exact zt 148 (by decide +kernel) rfl
  | k + 7, h => omega
theorem zw4 : ∀ w ∈ u_ws zR4 zT4 4, w ∈ zTbl := by
  intro w hw
  simp only [u_ws, List.mem_map, List.mem_range] at hw
  obtain ⟨k, hk, rfl⟩ := hw
  match k, hk with
  | 0, _ => exact zt 274 (by decide +kernel) rfl
  | 1, _ => exact zt 276 (by decide +kernel) rfl
  | 2, _ => exact zt 278 (by decide +kernel) rfl
  | 3, _ => exact zt 280 (by decide +kernel) rfl
  | k + 4, h => omega
theorem zw5 : ∀ w ∈ u_ws zR5 zT5 7, w ∈ zTbl := by
  intro w hw
  simp only [u_ws, List.mem_map, List.mem_range] at hw
  obtain ⟨k, hk, rfl⟩ := hw
  match k, hk with
  | 0, _ => exact zt 239 (by decide +kernel) rfl
  | 1, _ => exact zt 241 (by decide +kernel) rfl
  | 2, _ => exact zt 243 (by decide +kernel) rfl
  | 3, _ => exact zt 245 (by decide +kernel) rfl
  | 4, _ => exact zt 247 (by decide +kernel) rfl
  | 5, _ => exact zt 249 (by decide +kernel) rfl
  | 6, _ => exact zt 251 (by decide +kernel) rfl
  | k + 7, h => omega
theorem zw6 : ∀ w ∈ u_ws zR6 zT6 2, w ∈ zTbl := by
  intro w hw
  simp only [u_ws, List.mem_map, List.mem_range] at hw
  obtain ⟨k, hk, rfl⟩ := hw
  match k, hk with
  | 0, _ => exact zt 111 (by decide +kernel) rfl
  | 1, _ => exact zt 113 (by decide +kernel) rfl
  | k + 2, h => omega
theorem zw7 : ∀ w ∈ u_ws zR7 zT7 7, w ∈ zTbl := by
  intro w hw
  simp only [u_ws, List.mem_map, List.mem_range] at hw
  obtain ⟨k, hk, rfl⟩ := hw
  match k, hk with
  | 0, _ => exact zt 309 (by decide +kernel) rfl
  | 1, _ => exact zt 311 (by decide +kernel) rfl
  | 2, _ => exact zt 313 (by decide +kernel) rfl
  | 3, _ => exact zt 315 (by decide +kernel) rfl
  | 4, _ => exact zt 317 (by decide +kernel) rfl
  | 5, _ => exact zt 319 (by decide +kernel) rfl
  | 6, _ => exact zt 321 (by decide +kernel) rfl
  | k + 7, h => omega
theorem zw8 : ∀ w ∈ u_ws zR8 zT8 21, w ∈ zTbl := by
  intro w hw
  simp only [u_ws, List.mem_map, List.mem_range] at hw
  obtain ⟨k, hk, rfl⟩ := hw
  match k, hk with
  | 0, _ => exact zt 856 (by decide +kernel) rfl
  | 1, _ => exact zt 858 (by decide +kernel) rfl
  | 2, _ => exact zt 860 (by decide +kernel) rfl
  | 3, _ => exact zt 862 (by decide +kernel) rfl
  | 4, _ => exact zt 864 (by decide +kernel) rfl
  | 5, _ => exact zt 866 (by decide +kernel) rfl
  | 6, _ => exact zt 868 (by decide +kernel) rfl
  | 7, _ => exact zt 870 (by decide +kernel) rfl
  | 8, _ => exact zt 872 (by decide +kernel) rfl
  | 9, _ => exact zt 874 (by decide +kernel) rfl
  | 10, _ => exact zt 876 (by decide +kernel) rfl
  | 11, _ => exact zt 878 (by decide +kernel) rfl
  | 12, _ => exact zt 880 (by decide +kernel) rfl
  | 13, _ => exact zt 882 (by decide +kernel) rfl
  | 14, _ => exact zt 884 (by decide +kernel) rfl
  | 15, _ => exact zt 886 (by decide +kernel) rfl
  | 16, _ => exact zt 888 (by decide +kernel) rfl
  | 17, _ => exact zt 890 (by decide +kernel) rfl
  | 18, _ => exact zt 892 (by decide +kernel) rfl
  | 19, _ => exact zt 894 (by decide +kernel) rfl
  | 20, _ => exact zt 896 (by decide +kernel) rfl
  | k + 21, h => omega
abbrev zFLs : List (Nat × Nat × Nat × Nat) := [(6, 9, 6, 0), (7, 50, 6, 0), (4, 54, 6, 0), (6, 15, 6, 1), (7, 59, 6, 1), (3, 9, 3, 0), (3, 22, 3, 1), (3, 15, 3, 2),
  (1, 42, 3, 2), (7, 108, 3, 2), (3, 19, 3, 3), (1, 79, 3, 3), (3, 32, 3, 4), (1, 76, 3, 4), (1, 33, 3, 5), (3, 35, 3, 5),
  (3, 47, 3, 6), (0, 9, 0, 0), (7, 147, 0, 0), (0, 15, 0, 1), (0, 36, 0, 2), (5, 67, 0, 2), (7, 156, 0, 2), (0, 18, 0, 3),
  (7, 168, 0, 3), (0, 21, 0, 4), (7, 159, 0, 4), (0, 24, 0, 5), (7, 165, 0, 5), (5, 74, 0, 6), (0, 44, 0, 6), (7, 153, 0, 6),
  (0, 27, 0, 7), (0, 30, 0, 8), (0, 33, 0, 9), (5, 77, 0, 10), (0, 47, 0, 10), (7, 263, 0, 10), (2, 9, 2, 0), (7, 293, 2, 0),
  (2, 15, 2, 1), (7, 291, 2, 1), (2, 18, 2, 2), (7, 295, 2, 2), (2, 21, 2, 3), (5, 80, 2, 3), (7, 215, 2, 3), (5, 12, 5, 0),
  (7, 46, 5, 0), (5, 18, 5, 1), (7, 65, 5, 1), (5, 25, 5, 2), (7, 94, 5, 2), (5, 32, 5, 3), (7, 132, 5, 3), (5, 39, 5, 4),
  (7, 203, 5, 4), (5, 43, 5, 5), (7, 191, 5, 5), (5, 47, 5, 6), (7, 212, 5, 6), (4, 9, 4, 0), (4, 15, 4, 1), (4, 18, 4, 2),
  (7, 82, 4, 2), (1, 68, 4, 2), (4, 27, 4, 3), (1, 47, 4, 3), (1, 12, 1, 0), (7, 72, 1, 0), (1, 18, 1, 1), (1, 22, 1, 2),
  (1, 29, 1, 3), (1, 39, 1, 4), (7, 12, 7, 0), (7, 16, 7, 1), (7, 20, 7, 2), (7, 27, 7, 3), (7, 31, 7, 4), (7, 35, 7, 5),
  (7, 39, 7, 6), (8, 7, 8, 0), (8, 13, 8, 1), (8, 16, 8, 2), (8, 236, 8, 3), (8, 45, 8, 4), (8, 20, 8, 5), (8, 23, 8, 6),
  (8, 26, 8, 7), (8, 99, 8, 8), (8, 30, 8, 9), (8, 103, 8, 10), (8, 134, 8, 11), (8, 33, 8, 12), (8, 117, 8, 13), (8, 125, 8, 14),
  (8, 128, 8, 15), (8, 36, 8, 16), (8, 39, 8, 17), (8, 243, 8, 18), (8, 42, 8, 19), (8, 282, 8, 20)]
def zFLw (q : Nat × Nat × Nat × Nat) : Cond := .fieldLink (zcn q.1) q.2.1 (zTT q.2.2.1 q.2.2.2).1 (zTT q.2.2.1 q.2.2.2).2.1 (zTT q.2.2.1 q.2.2.2).2.2.1
theorem zFL_ok : ∀ q ∈ zFLs, zFLw q ∈ zTbl := by
  intro q hq
  have h : ∀ k (hk : k < 102), zFLw (zFLs[k]'hk) ∈ zTbl := by
    intro k hk
    match k, hk with
    | 0, _ => exact (zt 106 (by decide +kernel) rfl : zFLw (6, 9, 6, 0) ∈ zTbl)
    | 1, _ => exact (zt 107 (by decide +kernel) rfl : zFLw (7, 50, 6, 0) ∈ zTbl)
    | 2, _ => exact (zt 108 (by decide +kernel) rfl : zFLw (4, 54, 6, 0) ∈ zTbl)
    | 3, _ => exact (zt 109 (by decide +kernel) rfl : zFLw (6, 15, 6, 1) ∈ zTbl)
    | 4, _ => exact (zt 110 (by decide +kernel) rfl : zFLw (7, 59, 6, 1) ∈ zTbl)
    | 5, _ => exact (zt 124 (by decide +kernel) rfl : zFLw (3, 9, 3, 0) ∈ zTbl)
    | 6, _ => exact (zt 125 (by decide +kernel) rfl : zFLw (3, 22, 3, 1) ∈ zTbl)
    | 7, _ => exact (zt 126 (by decide +kernel) rfl : zFLw (3, 15, 3, 2) ∈ zTbl)
    | 8, _ => exact (zt 127 (by decide +kernel) rfl : zFLw (1, 42, 3, 2) ∈ zTbl)
    | 9, _ => exact (zt 128 (by decide +kernel) rfl : zFLw (7, 108, 3, 2) ∈ zTbl)
    | 10, _ => exact (zt 129 (by decide +kernel) rfl : zFLw (3, 19, 3, 3) ∈ zTbl)
    | 11, _ => exact (zt 130 (by decide +kernel) rfl : zFLw (1, 79, 3, 3) ∈ zTbl)
    | 12, _ => exact (zt 131 (by decide +kernel) rfl : zFLw (3, 32, 3, 4) ∈ zTbl)
    | 13, _ => exact (zt 132 (by decide +kernel) rfl : zFLw (1, 76, 3, 4) ∈ zTbl)
    | 14, _ => exact (zt 133 (by decide +kernel) rfl : zFLw (1, 33, 3, 5) ∈ zTbl)
    | 15, _ => exact (zt 134 (by decide +kernel) rfl : zFLw (3, 35, 3, 5) ∈ zTbl)
    | 16, _ => exact (zt 135 (by decide +kernel) rfl : zFLw (3, 47, 3, 6) ∈ zTbl)
    | 17, _ => exact (zt 157 (by decide +kernel) rfl : zFLw (0, 9, 0, 0) ∈ zTbl)
    | 18, _ => exact (zt 158 (by decide +kernel) rfl : zFLw (7, 147, 0, 0) ∈ zTbl)
    | 19, _ => exact (zt 159 (by decide +kernel) rfl : zFLw (0, 15, 0, 1) ∈ zTbl)
    | 20, _ => exact (zt 160 (by decide +kernel) rfl : zFLw (0, 36, 0, 2) ∈ zTbl)
    | 21, _ => exact (zt 161 (by decide +kernel) rfl : zFLw (5, 67, 0, 2) ∈ zTbl)
    | 22, _ => exact (zt 162 (by decide +kernel) rfl : zFLw (7, 156, 0, 2) ∈ zTbl)
    | 23, _ => exact (zt 163 (by decide +kernel) rfl : zFLw (0, 18, 0, 3) ∈ zTbl)
    | 24, _ => exact (zt 164 (by decide +kernel) rfl : zFLw (7, 168, 0, 3) ∈ zTbl)
    | 25, _ => exact (zt 165 (by decide +kernel) rfl : zFLw (0, 21, 0, 4) ∈ zTbl)
    | 26, _ => exact (zt 166 (by decide +kernel) rfl : zFLw (7, 159, 0, 4) ∈ zTbl)
    | 27, _ => exact (zt 167 (by decide +kernel) rfl : zFLw (0, 24, 0, 5) ∈ zTbl)
    | 28, _ => exact (zt 168 (by decide +kernel) rfl : zFLw (7, 165, 0, 5) ∈ zTbl)
    | 29, _ => exact (zt 169 (by decide +kernel) rfl : zFLw (5, 74, 0, 6) ∈ zTbl)
    | 30, _ => exact (zt 170 (by decide +kernel) rfl : zFLw (0, 44, 0, 6) ∈ zTbl)
    | 31, _ => exact (zt 171 (by decide +kernel) rfl : zFLw (7, 153, 0, 6) ∈ zTbl)
    | 32, _ => exact (zt 172 (by decide +kernel) rfl : zFLw (0, 27, 0, 7) ∈ zTbl)
    | 33, _ => exact (zt 173 (by decide +kernel) rfl : zFLw (0, 30, 0, 8) ∈ zTbl)
    | 34, _ => exact (zt 174 (by decide +kernel) rfl : zFLw (0, 33, 0, 9) ∈ zTbl)
    | 35, _ => exact (zt 175 (by decide +kernel) rfl : zFLw (5, 77, 0, 10) ∈ zTbl)
    | 36, _ => exact (zt 176 (by decide +kernel) rfl : zFLw (0, 47, 0, 10) ∈ zTbl)
    | 37, _ => exact (zt 177 (by decide +kernel) rfl : zFLw (7, 263, 0, 10) ∈ zTbl)
    | 38, _ => exact (zt 207 (by decide +kernel) rfl : zFLw (2, 9, 2, 0) ∈ zTbl)
    | 39, _ => exact (zt 208 (by decide +kernel) rfl : zFLw (7, 293, 2, 0) ∈ zTbl)
    | 40, _ => exact (zt 209 (by decide +kernel) rfl : zFLw (2, 15, 2, 1) ∈ zTbl)
    | 41, _ => exact (zt 210 (by decide +kernel) rfl : zFLw (7, 291, 2, 1) ∈ zTbl)
    | 42, _ => exact (zt 211 (by decide +kernel) rfl : zFLw (2, 18, 2, 2) ∈ zTbl)
    | 43, _ => exact (zt 212 (by decide +kernel) rfl : zFLw (7, 295, 2, 2) ∈ zTbl)
    | 44, _ => exact (zt 213 (by decide +kernel) rfl : zFLw (2, 21, 2, 3) ∈ zTbl)
    | 45, _ => exact (zt 214 (by decide +kernel) rfl : zFLw (5, 80, 2, 3) ∈ zTbl)
    | 46, _ => exact (zt 215 (by decide +kernel) rfl : zFLw (7, 215, 2, 3) ∈ zTbl)
    | 47, _ => exact (zt 225 (by decide +kernel) rfl : zFLw (5, 12, 5, 0) ∈ zTbl)
    | 48, _ => exact (zt 226 (by decide +kernel) rfl : zFLw (7, 46, 5, 0) ∈ zTbl)
    | 49, _ => exact (zt 227 (by decide +kernel) rfl : zFLw (5, 18, 5, 1) ∈ zTbl)
    | 50, _ => exact (zt 228 (by decide +kernel) rfl : zFLw (7, 65, 5, 1) ∈ zTbl)
    | 51, _ => exact (zt 229 (by decide +kernel) rfl : zFLw (5, 25, 5, 2) ∈ zTbl)
    | 52, _ => exact (zt 230 (by decide +kernel) rfl : zFLw (7, 94, 5, 2) ∈ zTbl)
    | 53, _ => exact (zt 231 (by decide +kernel) rfl : zFLw (5, 32, 5, 3) ∈ zTbl)
    | 54, _ => exact (zt 232 (by decide +kernel) rfl : zFLw (7, 132, 5, 3) ∈ zTbl)
    | 55, _ => exact (zt 233 (by decide +kernel) rfl : zFLw (5, 39, 5, 4) ∈ zTbl)
    | 56, _ => exact (zt 234 (by decide +kernel) rfl : zFLw (7, 203, 5, 4) ∈ zTbl)
    | 57, _ => exact (zt 235 (by decide +kernel) rfl : zFLw (5, 43, 5, 5) ∈ zTbl)
    | 58, _ => exact (zt 236 (by decide +kernel) rfl : zFLw (7, 191, 5, 5) ∈ zTbl)
    | 59, _ => exact (zt 237 (by decide +kernel) rfl : zFLw (5, 47, 5, 6) ∈ zTbl)
    | 60, _ => exact (zt 238 (by decide +kernel) rfl : zFLw (7, 212, 5, 6) ∈ zTbl)
    | 61, _ => exact (zt 267 (by decide +kernel) rfl : zFLw (4, 9, 4, 0) ∈ zTbl)
    | 62, _ => exact (zt 268 (by decide +kernel) rfl : zFLw (4, 15, 4, 1) ∈ zTbl)
    | 63, _ => exact (zt 269 (by decide +kernel) rfl : zFLw (4, 18, 4, 2) ∈ zTbl)
    | 64, _ => exact (zt 270 (by decide +kernel) rfl : zFLw (7, 82, 4, 2) ∈ zTbl)
    | 65, _ => exact (zt 271 (by decide +kernel) rfl : zFLw (1, 68, 4, 2) ∈ zTbl)
    | 66, _ => exact (zt 272 (by decide +kernel) rfl : zFLw (4, 27, 4, 3) ∈ zTbl)
    | 67, _ => exact (zt 273 (by decide +kernel) rfl : zFLw (1, 47, 4, 3) ∈ zTbl)
    | 68, _ => exact (zt 284 (by decide +kernel) rfl : zFLw (1, 12, 1, 0) ∈ zTbl)
    | 69, _ => exact (zt 285 (by decide +kernel) rfl : zFLw (7, 72, 1, 0) ∈ zTbl)
    | 70, _ => exact (zt 286 (by decide +kernel) rfl : zFLw (1, 18, 1, 1) ∈ zTbl)
    | 71, _ => exact (zt 287 (by decide +kernel) rfl : zFLw (1, 22, 1, 2) ∈ zTbl)
    | 72, _ => exact (zt 288 (by decide +kernel) rfl : zFLw (1, 29, 1, 3) ∈ zTbl)
    | 73, _ => exact (zt 289 (by decide +kernel) rfl : zFLw (1, 39, 1, 4) ∈ zTbl)
    | 74, _ => exact (zt 302 (by decide +kernel) rfl : zFLw (7, 12, 7, 0) ∈ zTbl)
    | 75, _ => exact (zt 303 (by decide +kernel) rfl : zFLw (7, 16, 7, 1) ∈ zTbl)
    | 76, _ => exact (zt 304 (by decide +kernel) rfl : zFLw (7, 20, 7, 2) ∈ zTbl)
    | 77, _ => exact (zt 305 (by decide +kernel) rfl : zFLw (7, 27, 7, 3) ∈ zTbl)
    | 78, _ => exact (zt 306 (by decide +kernel) rfl : zFLw (7, 31, 7, 4) ∈ zTbl)
    | 79, _ => exact (zt 307 (by decide +kernel) rfl : zFLw (7, 35, 7, 5) ∈ zTbl)
    | 80, _ => exact (zt 308 (by decide +kernel) rfl : zFLw (7, 39, 7, 6) ∈ zTbl)
    | 81, _ => exact (zt 835 (by decide +kernel) rfl : zFLw (8, 7, 8, 0) ∈ zTbl)
    | 82, _ => exact (zt 836 (by decide +kernel) rfl : zFLw (8, 13, 8, 1) ∈ zTbl)
    | 83, _ => exact (zt 837 (by decide +kernel) rfl : zFLw (8, 16, 8, 2) ∈ zTbl)
    | 84, _ => exact (zt 838 (by decide +kernel) rfl : zFLw (8, 236, 8, 3) ∈ zTbl)
    | 85, _ => exact (zt 839 (by decide +kernel) rfl : zFLw (8, 45, 8, 4) ∈ zTbl)
    | 86, _ => exact (zt 840 (by decide +kernel) rfl : zFLw (8, 20, 8, 5) ∈ zTbl)
    | 87, _ => exact (zt 841 (by decide +kernel) rfl : zFLw (8, 23, 8, 6) ∈ zTbl)
    | 88, _ => exact (zt 842 (by decide +kernel) rfl : zFLw (8, 26, 8, 7) ∈ zTbl)
    | 89, _ => exact (zt 843 (by decide +kernel) rfl : zFLw (8, 99, 8, 8) ∈ zTbl)
    | 90, _ => exact (zt 844 (by decide +kernel) rfl : zFLw (8, 30, 8, 9) ∈ zTbl)
    | 91, _ => exact (zt 845 (by decide +kernel) rfl : zFLw (8, 103, 8, 10) ∈ zTbl)
    | 92, _ => exact (zt 846 (by decide +kernel) rfl : zFLw (8, 134, 8, 11) ∈ zTbl)
    | 93, _ => exact (zt 847 (by decide +kernel) rfl : zFLw (8, 33, 8, 12) ∈ zTbl)
    | 94, _ => exact (zt 848 (by decide +kernel) rfl : zFLw (8, 117, 8, 13) ∈ zTbl)
    | 95, _ => exact (zt 849 (by decide +kernel) rfl : zFLw (8, 125, 8, 14) ∈ zTbl)
    | 96, _ => exact (zt 850 (by decide +kernel) rfl : zFLw (8, 128, 8, 15) ∈ zTbl)
    | 97, _ => exact (zt 851 (by decide +kernel) rfl : zFLw (8, 36, 8, 16) ∈ zTbl)
    | 98, _ => exact (zt 852 (by decide +kernel) rfl : zFLw (8, 39, 8, 17) ∈ zTbl)
    | 99, _ => exact (zt 853 (by decide +kernel) rfl : zFLw (8, 243, 8, 18) ∈ zTbl)
    | 100, _ => exact (zt 854 (by decide +kernel) rfl : zFLw (8, 42, 8, 19) ∈ zTbl)
    | 101, _ => exact (zt 855 (by decide +kernel) rfl : zFLw (8, 282, 8, 20) ∈ zTbl)
    | k + 102, h => omega
  obtain ⟨k, hk, rfl⟩ := List.mem_iff_getElem.mp hq
  exact h k hk
abbrev zCs : List (Nat × Nat × Int) := [(7, 112, 268435456), (11, 265, 1431655765), (11, 266, 858993459), (11, 267, 252645135), (0, 84, 65536), (7, 231, 268435455), (0, 64, 268435455), (8, 246, 65536),
  (8, 265, 268435455)]
theorem zCs_ok : ∀ q ∈ zCs, Cond.constant (zcn q.1) q.2.1 (Int32.ofInt q.2.2) ∈ zTbl := by
  intro q hq
  have h : ∀ k (hk : k < 9), Cond.constant (zcn (zCs[k]'hk).1) (zCs[k]'hk).2.1 (Int32.ofInt (zCs[k]'hk).2.2) ∈ zTbl := by
    intro k hk
    match k, hk with
    | 0, _ => exact (zt 469 (by decide +kernel) rfl : Cond.constant (zcn 7) 112 (Int32.ofInt (268435456)) ∈ zTbl)
    | 1, _ => exact (zt 532 (by decide +kernel) rfl : Cond.constant (zcn 11) 265 (Int32.ofInt (1431655765)) ∈ zTbl)
    | 2, _ => exact (zt 533 (by decide +kernel) rfl : Cond.constant (zcn 11) 266 (Int32.ofInt (858993459)) ∈ zTbl)
    | 3, _ => exact (zt 534 (by decide +kernel) rfl : Cond.constant (zcn 11) 267 (Int32.ofInt (252645135)) ∈ zTbl)
    | 4, _ => exact (zt 644 (by decide +kernel) rfl : Cond.constant (zcn 0) 84 (Int32.ofInt (65536)) ∈ zTbl)
    | 5, _ => exact (zt 701 (by decide +kernel) rfl : Cond.constant (zcn 7) 231 (Int32.ofInt (268435455)) ∈ zTbl)
    | 6, _ => exact (zt 747 (by decide +kernel) rfl : Cond.constant (zcn 0) 64 (Int32.ofInt (268435455)) ∈ zTbl)
    | 7, _ => exact (zt 1153 (by decide +kernel) rfl : Cond.constant (zcn 8) 246 (Int32.ofInt (65536)) ∈ zTbl)
    | 8, _ => exact (zt 1198 (by decide +kernel) rfl : Cond.constant (zcn 8) 265 (Int32.ofInt (268435455)) ∈ zTbl)
    | k + 9, h => omega
  obtain ⟨k, hk, rfl⟩ := List.mem_iff_getElem.mp hq
  exact h k hk
abbrev zLs : List (Nat × Nat × Int) := [(7, 189, -1), (7, 266, 431), (7, 276, 31), (8, 49, 3), (8, 55, 80), (8, 64, 15), (8, 70, 8), (8, 72, 511),
  (8, 74, 7), (8, 80, 4), (8, 97, 127), (8, 121, 48), (8, 123, 57), (8, 143, 10), (8, 172, 268435455), (8, 187, 9),
  (8, 195, 999), (8, 239, -1), (8, 241, 28), (8, 272, 37), (8, 289, 431), (8, 280, 31)]
theorem zLs_ok : ∀ q ∈ zLs, Cond.constantLong (zcn q.1) q.2.1 (Int64.ofInt q.2.2) ∈ zTbl := by
  intro q hq
  have h : ∀ k (hk : k < 22), Cond.constantLong (zcn (zLs[k]'hk).1) (zLs[k]'hk).2.1 (Int64.ofInt (zLs[k]'hk).2.2) ∈ zTbl := by
    intro k hk
    match k, hk with
    | 0, _ => exact (zt 617 (by decide +kernel) rfl : Cond.constantLong (zcn 7) 189 (Int64.ofInt (-1)) ∈ zTbl)
    | 1, _ => exact (zt 795 (by decide +kernel) rfl : Cond.constantLong (zcn 7) 266 (Int64.ofInt (431)) ∈ zTbl)
    | 2, _ => exact (zt 803 (by decide +kernel) rfl : Cond.constantLong (zcn 7) 276 (Int64.ofInt (31)) ∈ zTbl)
    | 3, _ => exact (zt 906 (by decide +kernel) rfl : Cond.constantLong (zcn 8) 49 (Int64.ofInt (3)) ∈ zTbl)
    | 4, _ => exact (zt 913 (by decide +kernel) rfl : Cond.constantLong (zcn 8) 55 (Int64.ofInt (80)) ∈ zTbl)
    | 5, _ => exact (zt 914 (by decide +kernel) rfl : Cond.constantLong (zcn 8) 64 (Int64.ofInt (15)) ∈ zTbl)
    | 6, _ => exact (zt 923 (by decide +kernel) rfl : Cond.constantLong (zcn 8) 70 (Int64.ofInt (8)) ∈ zTbl)
    | 7, _ => exact (zt 924 (by decide +kernel) rfl : Cond.constantLong (zcn 8) 72 (Int64.ofInt (511)) ∈ zTbl)
    | 8, _ => exact (zt 929 (by decide +kernel) rfl : Cond.constantLong (zcn 8) 74 (Int64.ofInt (7)) ∈ zTbl)
    | 9, _ => exact (zt 937 (by decide +kernel) rfl : Cond.constantLong (zcn 8) 80 (Int64.ofInt (4)) ∈ zTbl)
    | 10, _ => exact (zt 961 (by decide +kernel) rfl : Cond.constantLong (zcn 8) 97 (Int64.ofInt (127)) ∈ zTbl)
    | 11, _ => exact (zt 978 (by decide +kernel) rfl : Cond.constantLong (zcn 8) 121 (Int64.ofInt (48)) ∈ zTbl)
    | 12, _ => exact (zt 979 (by decide +kernel) rfl : Cond.constantLong (zcn 8) 123 (Int64.ofInt (57)) ∈ zTbl)
    | 13, _ => exact (zt 980 (by decide +kernel) rfl : Cond.constantLong (zcn 8) 143 (Int64.ofInt (10)) ∈ zTbl)
    | 14, _ => exact (zt 1017 (by decide +kernel) rfl : Cond.constantLong (zcn 8) 172 (Int64.ofInt (268435455)) ∈ zTbl)
    | 15, _ => exact (zt 1055 (by decide +kernel) rfl : Cond.constantLong (zcn 8) 187 (Int64.ofInt (9)) ∈ zTbl)
    | 16, _ => exact (zt 1072 (by decide +kernel) rfl : Cond.constantLong (zcn 8) 195 (Int64.ofInt (999)) ∈ zTbl)
    | 17, _ => exact (zt 1139 (by decide +kernel) rfl : Cond.constantLong (zcn 8) 239 (Int64.ofInt (-1)) ∈ zTbl)
    | 18, _ => exact (zt 1144 (by decide +kernel) rfl : Cond.constantLong (zcn 8) 241 (Int64.ofInt (28)) ∈ zTbl)
    | 19, _ => exact (zt 1211 (by decide +kernel) rfl : Cond.constantLong (zcn 8) 272 (Int64.ofInt (37)) ∈ zTbl)
    | 20, _ => exact (zt 1244 (by decide +kernel) rfl : Cond.constantLong (zcn 8) 289 (Int64.ofInt (431)) ∈ zTbl)
    | 21, _ => exact (zt 1249 (by decide +kernel) rfl : Cond.constantLong (zcn 8) 280 (Int64.ofInt (31)) ∈ zTbl)
    | k + 22, h => omega
  obtain ⟨k, hk, rfl⟩ := List.mem_iff_getElem.mp hq
  exact h k hk
abbrev zNest : List (Nat × Nat × MethodName) := [(7, 11, ⟨"DiscLines$State", "<init>", "()V"⟩), (5, 11, ⟨"DiscLines$World", "<init>", "()V"⟩), (5, 24, ⟨"DiscLines$Law", "<init>", "()V"⟩),
  (5, 31, ⟨"DiscLines$Book", "<init>", "()V"⟩), (5, 38, ⟨"DiscLines$Guesses", "<init>", "()V"⟩), (7, 26, ⟨"DiscLines$Eye", "<init>", "()V"⟩),
  (1, 11, ⟨"DiscLines$Picture", "<init>", "()V"⟩), (6, 18, ⟨"DiscLines", "has", "(II)Z"⟩), (4, 34, ⟨"DiscLines", "isOneOf", "(II)Z"⟩),
  (1, 64, ⟨"DiscLines", "isOneOf", "(II)Z"⟩), (0, 40, ⟨"DiscLines", "isOneOf", "(II)Z"⟩), (0, 61, ⟨"DiscLines", "has", "(II)Z"⟩),
  (2, 25, ⟨"DiscLines", "isOneOf", "(II)Z"⟩), (2, 29, ⟨"DiscLines", "has", "(II)Z"⟩), (6, 28, ⟨"DiscLines", "copyRow", "([I[I)V"⟩),
  (5, 54, ⟨"DiscLines", "copyRow", "([I[I)V"⟩), (3, 28, ⟨"DiscLines", "copyRow", "([I[I)V"⟩), (0, 101, ⟨"DiscLines", "copyRow", "([I[I)V"⟩),
  (2, 32, ⟨"DiscLines", "copyRow", "([I[I)V"⟩), (5, 70, ⟨"DiscLines", "mix", "(JJ)J"⟩), (6, 32, ⟨"DiscLines", "mixRow", "(J[II)J"⟩),
  (5, 87, ⟨"DiscLines", "mixRow", "(J[II)J"⟩), (3, 39, ⟨"DiscLines", "mix", "(JJ)J"⟩), (3, 43, ⟨"DiscLines", "mixRow", "(J[II)J"⟩),
  (0, 105, ⟨"DiscLines", "mix", "(JJ)J"⟩), (2, 36, ⟨"DiscLines", "mix", "(JJ)J"⟩)]
def zNw (q : Nat × Nat × MethodName) : Cond := .methodLinkNest (zcn q.1) q.2.1 q.2.2 "DiscLines"
theorem zNest_ok : ∀ q ∈ zNest, zNw q ∈ lw_tbl := by
  intro q hq
  have h : ∀ k (hk : k < 26), zNw (zNest[k]'hk) ∈ lw_tbl := by
    intro k hk
    match k, hk with
    | 0, _ => exact (List.mem_of_getElem? (i := 95) (by decide +kernel) : zNw (7, 11, ⟨"DiscLines$State", "<init>", "()V"⟩) ∈ lw_tbl)
    | 1, _ => exact (List.mem_of_getElem? (i := 102) (by decide +kernel) : zNw (5, 11, ⟨"DiscLines$World", "<init>", "()V"⟩) ∈ lw_tbl)
    | 2, _ => exact (List.mem_of_getElem? (i := 120) (by decide +kernel) : zNw (5, 24, ⟨"DiscLines$Law", "<init>", "()V"⟩) ∈ lw_tbl)
    | 3, _ => exact (List.mem_of_getElem? (i := 153) (by decide +kernel) : zNw (5, 31, ⟨"DiscLines$Book", "<init>", "()V"⟩) ∈ lw_tbl)
    | 4, _ => exact (List.mem_of_getElem? (i := 203) (by decide +kernel) : zNw (5, 38, ⟨"DiscLines$Guesses", "<init>", "()V"⟩) ∈ lw_tbl)
    | 5, _ => exact (List.mem_of_getElem? (i := 257) (by decide +kernel) : zNw (7, 26, ⟨"DiscLines$Eye", "<init>", "()V"⟩) ∈ lw_tbl)
    | 6, _ => exact (List.mem_of_getElem? (i := 263) (by decide +kernel) : zNw (1, 11, ⟨"DiscLines$Picture", "<init>", "()V"⟩) ∈ lw_tbl)
    | 7, _ => exact (List.mem_of_getElem? (i := 361) (by decide +kernel) : zNw (6, 18, ⟨"DiscLines", "has", "(II)Z"⟩) ∈ lw_tbl)
    | 8, _ => exact (List.mem_of_getElem? (i := 371) (by decide +kernel) : zNw (4, 34, ⟨"DiscLines", "isOneOf", "(II)Z"⟩) ∈ lw_tbl)
    | 9, _ => exact (List.mem_of_getElem? (i := 489) (by decide +kernel) : zNw (1, 64, ⟨"DiscLines", "isOneOf", "(II)Z"⟩) ∈ lw_tbl)
    | 10, _ => exact (List.mem_of_getElem? (i := 544) (by decide +kernel) : zNw (0, 40, ⟨"DiscLines", "isOneOf", "(II)Z"⟩) ∈ lw_tbl)
    | 11, _ => exact (List.mem_of_getElem? (i := 573) (by decide +kernel) : zNw (0, 61, ⟨"DiscLines", "has", "(II)Z"⟩) ∈ lw_tbl)
    | 12, _ => exact (List.mem_of_getElem? (i := 666) (by decide +kernel) : zNw (2, 25, ⟨"DiscLines", "isOneOf", "(II)Z"⟩) ∈ lw_tbl)
    | 13, _ => exact (List.mem_of_getElem? (i := 700) (by decide +kernel) : zNw (2, 29, ⟨"DiscLines", "has", "(II)Z"⟩) ∈ lw_tbl)
    | 14, _ => exact (List.mem_of_getElem? (i := 761) (by decide +kernel) : zNw (6, 28, ⟨"DiscLines", "copyRow", "([I[I)V"⟩) ∈ lw_tbl)
    | 15, _ => exact (List.mem_of_getElem? (i := 767) (by decide +kernel) : zNw (5, 54, ⟨"DiscLines", "copyRow", "([I[I)V"⟩) ∈ lw_tbl)
    | 16, _ => exact (List.mem_of_getElem? (i := 772) (by decide +kernel) : zNw (3, 28, ⟨"DiscLines", "copyRow", "([I[I)V"⟩) ∈ lw_tbl)
    | 17, _ => exact (List.mem_of_getElem? (i := 777) (by decide +kernel) : zNw (0, 101, ⟨"DiscLines", "copyRow", "([I[I)V"⟩) ∈ lw_tbl)
    | 18, _ => exact (List.mem_of_getElem? (i := 782) (by decide +kernel) : zNw (2, 32, ⟨"DiscLines", "copyRow", "([I[I)V"⟩) ∈ lw_tbl)
    | 19, _ => exact (List.mem_of_getElem? (i := 800) (by decide +kernel) : zNw (5, 70, ⟨"DiscLines", "mix", "(JJ)J"⟩) ∈ lw_tbl)
    | 20, _ => exact (List.mem_of_getElem? (i := 808) (by decide +kernel) : zNw (6, 32, ⟨"DiscLines", "mixRow", "(J[II)J"⟩) ∈ lw_tbl)
    | 21, _ => exact (List.mem_of_getElem? (i := 812) (by decide +kernel) : zNw (5, 87, ⟨"DiscLines", "mixRow", "(J[II)J"⟩) ∈ lw_tbl)
    | 22, _ => exact (List.mem_of_getElem? (i := 817) (by decide +kernel) : zNw (3, 39, ⟨"DiscLines", "mix", "(JJ)J"⟩) ∈ lw_tbl)
    | 23, _ => exact (List.mem_of_getElem? (i := 818) (by decide +kernel) : zNw (3, 43, ⟨"DiscLines", "mixRow", "(J[II)J"⟩) ∈ lw_tbl)
    | 24, _ => exact (List.mem_of_getElem? (i := 823) (by decide +kernel) : zNw (0, 105, ⟨"DiscLines", "mix", "(JJ)J"⟩) ∈ lw_tbl)
    | 25, _ => exact (List.mem_of_getElem? (i := 828) (by decide +kernel) : zNw (2, 36, ⟨"DiscLines", "mix", "(JJ)J"⟩) ∈ lw_tbl)
    | k + 26, h => omega
  obtain ⟨k, hk, rfl⟩ := List.mem_iff_getElem.mp hq
  exact h k hk
end
section
/-! THE LAYER: a frame as (pc, locals, stack) over a heap of known cells; every fact of the machine is kept inside zJ -/
abbrev zRow : Type := Nat × Instr × Nat × Nat × Nat × Int
abbrev zY : Type := MethodName × Nat × ByteArray × Nat × Option FieldType × List zRow
abbrev zE : Type := Launch × va_G × (Nat → ClassId) × Nat × Heap × Nat × Nat × (Nat → Int32) × Nat × Nat
abbrev zE.l (E : zE) : Launch := E.1
abbrev zE.D (E : zE) : va_G := E.2.1
abbrev zE.cA (E : zE) : Nat → ClassId := E.2.2.1
abbrev zE.z (E : zE) : Nat := E.2.2.2.1
abbrev zE.H0 (E : zE) : Heap := E.2.2.2.2.1
abbrev zE.b (E : zE) : Nat := E.2.2.2.2.2.1
abbrev zE.L (E : zE) : Nat := E.2.2.2.2.2.2.1
abbrev zE.xs (E : zE) : Nat → Int32 := E.2.2.2.2.2.2.2.1
abbrev zE.t1 (E : zE) : Nat := E.2.2.2.2.2.2.2.2.1
abbrev zE.t2 (E : zE) : Nat := E.2.2.2.2.2.2.2.2.2
abbrev zH : Type := Nat → Option va_E
abbrev zY.nm (Y : zY) : MethodName := Y.1
abbrev zY.oc (Y : zY) : Nat := Y.2.1
abbrev zY.code (Y : zY) : ByteArray := Y.2.2.1
abbrev zY.nL (Y : zY) : Nat := Y.2.2.2.1
abbrev zY.ret (Y : zY) : Option FieldType := Y.2.2.2.2.1
abbrev zY.rows (Y : zY) : List zRow := Y.2.2.2.2.2
def zup (σ : zH) (a : Nat) (e : va_E) : zH := fun q => if q = a then some e else σ q
theorem zup_eq (σ : zH) (a : Nat) (e : va_E) : zup σ a e a = some e := by simp [zup]
theorem zup_ne {σ : zH} {a q : Nat} {e : va_E} (h : q ≠ a) : zup σ a e q = σ q := by simp [zup, h]
theorem zup_zup (σ : zH) (a : Nat) (e e' : va_E) : zup (zup σ a e) a e' = zup σ a e' := by
  funext q
  by_cases h : q = a <;> simp [zup, h]
theorem zup_same {σ : zH} {a : Nat} {e : va_E} (h : σ a = some e) : zup σ a e = σ := by
  funext q
  by_cases hq : q = a
  · subst hq; simp [zup, h]
  · simp [zup, hq]
theorem zup_comm (σ : zH) {a b : Nat} (h : a ≠ b) (e f : va_E) : zup (zup σ a e) b f = zup (zup σ b f) a e := by
  funext q
  by_cases h1 : q = a
  · subst h1; simp [zup, h]
  · by_cases h2 : q = b
    · subst h2; simp [zup, h1]
    · simp [zup, h1, h2]
def zve (E : zE) (e : va_E) : va_E := match e with
  | .inl a => .inl (E.cA a.1, a.2)
  | .inr o => .inr o
def zty : Nat → FieldType := fun k => match k with
  | 0 => .int
  | 1 => .long
  | 2 => .boolean
  | 3 => .object "DiscLines$World"
  | 4 => .object "DiscLines$Law"
  | _ => .object "DiscLines$State"
def ztys (E : zE) : List (ClassId × FieldType) := (List.range 6).map (fun t => (E.cA t, zty t))
theorem ztys_at (E : zE) {t : Nat} (h : t < 6) : (ztys E)[t]? = some (E.cA t, zty t) := by
  simp [ztys, h]
def zR (E : zE) (n : Nat) (σ : zH) (H : Heap) : Prop := H.size = n ∧ (∀ q, q < E.z → H[q]? = E.H0[q]?) ∧ ∀ a e, σ a = some e → E.z ≤ a ∧ va_at E.D zcl (a, zve E e) H
def zrs : Nat → Int32 := fun j => match j with
  | 1 => -1
  | 2 => 1
  | _ => 0
def zcs : Nat → Int32 := fun j => match j with
  | 3 => -1
  | 4 => 1
  | _ => 0
def zSt (E : zE) (U : State) : Prop := va_X E.b E.L E.xs U E.H0 ∧ E.b < E.z ∧
  (va_Z "DiscLines$Picture" "ROW_STEPS" "[I" (.ref E.t1) (fun q => E.z ≤ q) U E.H0 ∧ va_T .int E.t1 5 (fun j => .int (zrs j)) (fun q => E.z ≤ q) U E.H0) ∧
  (va_Z "DiscLines$Picture" "COLUMN_STEPS" "[I" (.ref E.t2) (fun q => E.z ≤ q) U E.H0 ∧ va_T .int E.t2 5 (fun j => .int (zcs j)) (fun q => E.z ≤ q) U E.H0)
def zK (E : zE) (U : State) : Prop := va_K E.D zcl (ztys E) U ∧ (∀ q ∈ zNest, va_Nw (zNw q) U) ∧ (∀ t, 3 ≤ t → t < 6 → ∀ C, zty t = .object C → va_AO C U) ∧ zSt E U
theorem va_X.zmoved {b L : Nat} {xs : Nat → Int32} {u U : State} {H : Heap} (hvm : u.vm.Alike U.vm) (h : va_X b L xs u H) : va_X b L xs U H := by
  obtain ⟨scr, h1, h2, h3⟩ := h
  exact ⟨scr, h1, State.isArrayOf_alike hvm h2, h3⟩
theorem zK.warm {E : zE} {s U : State} (hW : s.WarmedH U.vm) (h : zK E s) : zK E U := by
  obtain ⟨h1, h2, h3, h4, h5, ⟨h6, h7⟩, h8, h9⟩ := h
  have ha := hW.alike
  exact ⟨va_K.moved ha h1, fun q hq => va_Nw.warmM hW (h2 q hq), fun t a b C hC => va_AO.moved ha (h3 t a b C hC), va_X.zmoved ha h4, h5, ⟨va_Z.moved ha h6, va_T.moved ha h7⟩, va_Z.moved ha h8, va_T.moved ha h9⟩
theorem zK.calling {E : zE} {U : State} (g : JFrame) (mk : MethodId) (a : Array Value) (h : zK E U) : zK E (U.calling g mk a) := by
  obtain ⟨h1, h2, h3, h4, h5, ⟨h6, h7⟩, h8, h9⟩ := h
  have ha : U.vm.Alike (U.calling g mk a).vm := Vm.Alike.refl U.vm
  exact ⟨va_K.moved ha h1, fun q hq => va_Nw.same rfl rfl (h2 q hq), fun t a b C hC => va_AO.moved ha (h3 t a b C hC), va_X.zmoved ha h4, h5, ⟨va_Z.moved ha h6, va_T.moved ha h7⟩, va_Z.moved ha h8, va_T.moved ha h9⟩
/-! rows -/
def zaux (Y : zY) (r : zRow) : Bool := match r with
  | (pc, .if_icmp _ off, _, u, _, _) => decide ((pc : Int) + off = (u : Int))
  | (pc, .ifCond _ off, _, u, _, _) => decide ((pc : Int) + off = (u : Int))
  | (pc, .goto off, _, u, _, _) => decide ((pc : Int) + off = (u : Int))
  | (_, .getfield idx, _, u, v, _) => zFLs.contains (Y.oc, idx, u, v) && decide (u < 9) && decide (v < zNN u)
  | (_, .putfield idx, _, u, v, _) => zFLs.contains (Y.oc, idx, u, v) && decide (u < 9) && decide (v < zNN u)
  | (_, .ldc idx, _, _, _, w) => zCs.contains (Y.oc, idx, w)
  | (_, .ldc_w idx, _, _, _, w) => zCs.contains (Y.oc, idx, w)
  | (_, .ldc2_w idx, _, _, _, w) => zLs.contains (Y.oc, idx, w)
  | (_, .istore i, _, _, _, _) => decide (i < Y.nL)
  | (_, .istore_n i, _, _, _, _) => decide (i.val < Y.nL)
  | (_, .astore i, _, _, _, _) => decide (i < Y.nL)
  | (_, .astore_n i, _, _, _, _) => decide (i.val < Y.nL)
  | (_, .lstore i, _, _, _, _) => decide (i + 1 < Y.nL)
  | (_, .lstore_n i, _, _, _, _) => decide (i.val + 1 < Y.nL)
  | (_, .iinc i _, _, _, _, _) => decide (i < Y.nL)
  | _ => true
def zchk (Y : zY) (r : zRow) : Bool := decide (decode Y.code r.1 = .ok (r.2.1, r.2.2.1 - r.1)) && decide (r.1 < r.2.2.1) && zaux Y r
def zok (Y : zY) : Prop := Y.rows.all (zchk Y) = true
theorem zdec {Y : zY} (ok : zok Y) {k : Nat} {pc q u v len : Nat} {w : Int} {ins : Instr} (h : Y.rows[k]? = some (pc, ins, q, u, v, w)) (hq : pc + len = q) : decode Y.code pc = .ok (ins, len) ∧ zaux Y (pc, ins, q, u, v, w) = true := by
  have h1 := List.all_eq_true.mp ok _ (List.mem_of_getElem? h)
  unfold zchk at h1
  simp only [Bool.and_eq_true, decide_eq_true_eq] at h1
  obtain ⟨⟨h2, h3⟩, h4⟩ := h1
  have e : q - pc = len := by omega
  rw [e] at h2
  exact ⟨h2, h4⟩
/-! locals -/
def zlv : Nat → List (Option Value) → List (Nat × Value)
  | _, [] => []
  | i, none :: L => zlv (i + 1) L
  | i, some v :: L => (i, v) :: zlv (i + 1) L
def zc (o : Option Value) : Option Value := match o with
  | some (.long _) => none
  | some (.double _) => none
  | o => o
def zs1 : List (Option Value) → Nat → Value → List (Option Value)
  | [], _, _ => []
  | _ :: L, 0, v => some v :: L
  | o :: L, 1, v => zc o :: zs1 L 0 v
  | o :: L, i + 2, v => o :: zs1 L (i + 1) v
def zs2 (L : List (Option Value)) (i : Nat) (v : Value) : List (Option Value) := (zs1 L i v).set (i + 1) none
theorem zlv_mem {v : Value} : ∀ {L : List (Option Value)} {i k : Nat}, L[i]? = some (some v) → (k + i, v) ∈ zlv k L
  | [], i, k, h => by simp at h
  | none :: L, 0, k, h => by simp at h
  | some x :: L, 0, k, h => by
    simp only [List.getElem?_cons_zero, Option.some.injEq] at h
    subst h
    simp [zlv]
  | none :: L, i + 1, k, h => by
    have := zlv_mem (k := k + 1) (by simpa using h : L[i]? = some (some v))
    simp only [zlv]
    rw [show k + (i + 1) = k + 1 + i by omega]
    exact this
  | some x :: L, i + 1, k, h => by
    have := zlv_mem (k := k + 1) (by simpa using h : L[i]? = some (some v))
    simp only [zlv]
    rw [show k + (i + 1) = k + 1 + i by omega]
    exact List.mem_cons_of_mem _ this
theorem zlv_of {j : Nat} {v : Value} : ∀ {L : List (Option Value)} {k : Nat}, (j, v) ∈ zlv k L → ∃ i, j = k + i ∧ L[i]? = some (some v)
  | [], k, h => by simp [zlv] at h
  | none :: L, k, h => by
    obtain ⟨i, h1, h2⟩ := zlv_of (L := L) (k := k + 1) h
    exact ⟨i + 1, by omega, by simpa using h2⟩
  | some x :: L, k, h => by
    simp only [zlv, List.mem_cons, Prod.mk.injEq] at h
    rcases h with ⟨rfl, rfl⟩ | h
    · exact ⟨0, rfl, rfl⟩
    · obtain ⟨i, h1, h2⟩ := zlv_of (L := L) (k := k + 1) h
      exact ⟨i + 1, by omega, by simpa using h2⟩
theorem zc_of {o : Option Value} {w : Value} (h : zc o = some w) : o = some w ∧ ¬ w.category = 2 := by
  unfold zc at h
  split at h
  · cases h
  · cases h
  · rename_i h1 h2
    refine ⟨h, fun hc => ?_⟩
    subst h
    cases w <;> simp_all [Value.category]
theorem zs1_of {v w : Value} : ∀ {L : List (Option Value)} {i j : Nat}, (zs1 L i v)[j]? = some (some w) → (j = i ∧ w = v) ∨ (j ≠ i ∧ L[j]? = some (some w) ∧ ¬ (j + 1 = i ∧ w.category = 2))
  | [], i, j, h => by simp [zs1] at h
  | o :: L, 0, j, h => by
    simp only [zs1] at h
    cases j with
    | zero => simp only [List.getElem?_cons_zero, Option.some.injEq] at h; exact Or.inl ⟨rfl, h.symm⟩
    | succ j => exact Or.inr ⟨by omega, by simpa using h, by omega⟩
  | o :: L, 1, j, h => by
    simp only [zs1] at h
    cases j with
    | zero =>
      simp only [List.getElem?_cons_zero, Option.some.injEq] at h
      obtain ⟨h1, h2⟩ := zc_of h
      subst h1
      exact Or.inr ⟨by omega, rfl, fun q => h2 q.2⟩
    | succ j =>
      have := zs1_of (L := L) (i := 0) (j := j) (by simpa using h)
      rcases this with ⟨a, b⟩ | ⟨a, b, c⟩
      · exact Or.inl ⟨by omega, b⟩
      · exact Or.inr ⟨by omega, by simpa using b, fun q => c ⟨by omega, q.2⟩⟩
  | o :: L, i + 2, j, h => by
    simp only [zs1] at h
    cases j with
    | zero =>
      simp only [List.getElem?_cons_zero, Option.some.injEq] at h
      subst h
      exact Or.inr ⟨by omega, rfl, by omega⟩
    | succ j =>
      have := zs1_of (L := L) (i := i + 1) (j := j) (by simpa using h)
      rcases this with ⟨a, b⟩ | ⟨a, b, c⟩
      · exact Or.inl ⟨by omega, b⟩
      · exact Or.inr ⟨by omega, by simpa using b, fun q => c ⟨by omega, q.2⟩⟩
theorem zs2_of {v w : Value} {L : List (Option Value)} {i j : Nat} (h : (zs2 L i v)[j]? = some (some w)) : (j = i ∧ w = v) ∨ (j ≠ i ∧ j ≠ i + 1 ∧ L[j]? = some (some w) ∧ ¬ (j + 1 = i ∧ w.category = 2)) := by
  unfold zs2 at h
  by_cases hj : j = i + 1
  · subst hj
    rw [List.getElem?_set] at h
    simp at h
  · rw [List.getElem?_set_ne (fun q => hj q.symm)] at h
    rcases zs1_of h with h | ⟨a, b, c⟩
    · exact Or.inl h
    · exact Or.inr ⟨a, hj, b, c⟩
theorem zhas_mono {ls : Array Slot} {n : Nat} {l l' : List (Nat × Value)} (h : lv_has ls n l) (hs : ∀ q ∈ l', q ∈ l) : lv_has ls n l' := ⟨h.1, h.2.1, fun q hq => h.2.2 q (hs q hq)⟩
theorem zhas_at {ls : Array Slot} {n i : Nat} {L : List (Option Value)} {v : Value} (h : lv_has ls n (zlv 0 L)) (hl : L[i]? = some (some v)) : ls[i]? = some (.val v) := by
  have := h.2.2 _ (zlv_mem (k := 0) hl)
  simpa using this
theorem zhas1 {ls : Array Slot} {n i : Nat} {L : List (Option Value)} {v : Value} (h : lv_has ls n ((i, v) :: (zlv 0 L).filter (fun q => !(q.1 == i) && !(q.1 + 1 == i && q.2.category == 2)))) : lv_has ls n (zlv 0 (zs1 L i v)) := by
  refine zhas_mono h fun q hq => ?_
  obtain ⟨j, w⟩ := q
  obtain ⟨j', h1, h2⟩ := zlv_of hq
  have e : j = j' := by omega
  subst e
  rcases zs1_of h2 with ⟨a, b⟩ | ⟨a, b, c⟩
  · subst a; subst b; exact List.mem_cons_self
  · refine List.mem_cons_of_mem _ (List.mem_filter.mpr ⟨by have := zlv_mem (k := 0) b; simpa using this, ?_⟩)
    simp only [Bool.and_eq_true, Bool.not_eq_true', beq_eq_false_iff_ne, ne_eq, Bool.and_eq_false_iff]
    exact ⟨a, (Decidable.em (j + 1 = i)).elim (fun h3 => Or.inr fun e => c ⟨h3, e⟩) Or.inl⟩
theorem zhas2 {ls : Array Slot} {n i : Nat} {L : List (Option Value)} {v : Value} (h : lv_has ls n ((i, v) :: (zlv 0 L).filter (fun q => !(q.1 == i) && (!(q.1 == i + 1) && !(q.1 + 1 == i && q.2.category == 2))))) : lv_has ls n (zlv 0 (zs2 L i v)) := by
  refine zhas_mono h fun q hq => ?_
  obtain ⟨j, w⟩ := q
  obtain ⟨j', h1, h2⟩ := zlv_of hq
  have e : j = j' := by omega
  subst e
  rcases zs2_of h2 with ⟨a, b⟩ | ⟨a, a2, b, c⟩
  · subst a; subst b; exact List.mem_cons_self
  · refine List.mem_cons_of_mem _ (List.mem_filter.mpr ⟨by have := zlv_mem (k := 0) b; simpa using this, ?_⟩)
    simp only [Bool.and_eq_true, Bool.not_eq_true', beq_eq_false_iff_ne, ne_eq, Bool.and_eq_false_iff]
    exact ⟨a, a2, (Decidable.em (j + 1 = i)).elim (fun h3 => Or.inr fun e => c ⟨h3, e⟩) Or.inl⟩
/-! the judgement -/
def zCx (E : zE) (Y : zY) (p : Program) (s : State) (m : MethodId) (args : Array Value) (meth : Method) (c : Code) : Prop :=
  p.tables.exec = Jvm.exec ∧ c.code = Y.code ∧ c.maxLocals = Y.nL ∧ meth.sig.returnType = Y.ret ∧ meth.locks = false ∧ s.vm.findClass (zcn Y.oc) = some m.cls ∧ (∀ w ∈ zTbl, w.before args s = true) ∧ zK E s ∧ meth.name = Y.nm.name ∧ zok Y
abbrev zF : Type := List Frame → Array Value → State → State → Prop
def zJ (E : zE) (Y : zY) (R : Room) (fin : zF) (n cells slots : Nat) (σ : zH) (pc : Nat) (L : List (Option Value)) (st : List Value) : Prop :=
  ∀ (p : Program) (e : Env) (s : State) (m : MethodId) (args : Array Value) (below : List Frame) (meth : Method) (c : Code) (H : Heap) (locs : List Loc) (ls : Array Slot),
    zCx E Y p s m args meth c → zR E n σ H → (∀ q ∈ locs, E.z ≤ q.base) → lv_has ls Y.nL (zlv 0 L) →
    W p E.l e R s m args below meth c H locs cells slots (fin below args s) (F0 m pc ls st)
section
variable {E : zE} {Y : zY} {R : Room} {fin : zF} {n cells slots : Nat} {σ : zH} {pc q u v : Nat} {w : Int} {L : List (Option Value)} {rest : List Value}
theorem zj_iconst (k : Nat) {i : Int} (x : Int32) (h : Y.rows[k]? = some (pc, .iconst i, q, u, v, w)) (hq : pc + 1 = q) (hx : Int32.ofInt i = x) (kk : zJ E Y R fin n cells slots σ q L (.int x :: rest)) : zJ E Y R fin n cells slots σ pc L rest := by
  intro p e s m args below meth c H locs ls C hR hf hl
  subst hq
  exact lv_iconst C.1 C.2.1 (zdec C.2.2.2.2.2.2.2.2.2 h rfl).1 hx (kk p e s m args below meth c H locs ls C hR hf hl)
theorem zj_bipush (k : Nat) {i : Int} (x : Int32) (h : Y.rows[k]? = some (pc, .bipush i, q, u, v, w)) (hq : pc + 2 = q) (hx : (Int8.ofInt i).toInt32 = x) (kk : zJ E Y R fin n cells slots σ q L (.int x :: rest)) : zJ E Y R fin n cells slots σ pc L rest := by
  intro p e s m args below meth c H locs ls C hR hf hl
  subst hq
  exact lv_bipush C.1 C.2.1 (zdec C.2.2.2.2.2.2.2.2.2 h rfl).1 hx (kk p e s m args below meth c H locs ls C hR hf hl)
theorem zj_sipush (k : Nat) {i : Int} (x : Int32) (h : Y.rows[k]? = some (pc, .sipush i, q, u, v, w)) (hq : pc + 3 = q) (hx : (Int16.ofInt i).toInt32 = x) (kk : zJ E Y R fin n cells slots σ q L (.int x :: rest)) : zJ E Y R fin n cells slots σ pc L rest := by
  intro p e s m args below meth c H locs ls C hR hf hl
  subst hq
  exact lv_sipush C.1 C.2.1 (zdec C.2.2.2.2.2.2.2.2.2 h rfl).1 hx (kk p e s m args below meth c H locs ls C hR hf hl)
theorem zj_lconst (k : Nat) {i : Fin 2} (x : Int64) (h : Y.rows[k]? = some (pc, .lconst i, q, u, v, w)) (hq : pc + 1 = q) (hx : Int64.ofNat (i : Nat) = x) (kk : zJ E Y R fin n cells slots σ q L (.long x :: rest)) : zJ E Y R fin n cells slots σ pc L rest := by
  intro p e s m args below meth c H locs ls C hR hf hl
  subst hq
  exact lv_lconst C.1 C.2.1 (zdec C.2.2.2.2.2.2.2.2.2 h rfl).1 hx (kk p e s m args below meth c H locs ls C hR hf hl)
theorem zj_ldc (k : Nat) {i : Nat} (x : Int32) (h : Y.rows[k]? = some (pc, .ldc i, q, u, v, w)) (hq : pc + 2 = q) (hx : Int32.ofInt w = x) (kk : zJ E Y R fin n cells slots σ q L (.int x :: rest)) : zJ E Y R fin n cells slots σ pc L rest := by
  intro p e s m args below meth c H locs ls C hR hf hl
  subst hq
  have h1 := zdec C.2.2.2.2.2.2.2.2.2 h rfl
  have h2 := zCs_ok _ (List.contains_iff_mem.mp h1.2)
  rw [hx] at h2
  exact lv_ldc C.1 C.2.1 C.2.2.2.2.2.1 (C.2.2.2.2.2.2.1 _ h2) h1.1 (kk p e s m args below meth c H locs ls C hR hf hl)
theorem zj_ldcw (k : Nat) {i : Nat} (x : Int32) (h : Y.rows[k]? = some (pc, .ldc_w i, q, u, v, w)) (hq : pc + 3 = q) (hx : Int32.ofInt w = x) (kk : zJ E Y R fin n cells slots σ q L (.int x :: rest)) : zJ E Y R fin n cells slots σ pc L rest := by
  intro p e s m args below meth c H locs ls C hR hf hl
  subst hq
  have h1 := zdec C.2.2.2.2.2.2.2.2.2 h rfl
  have h2 := zCs_ok _ (List.contains_iff_mem.mp h1.2)
  rw [hx] at h2
  exact lv_ldcw C.1 C.2.1 C.2.2.2.2.2.1 (C.2.2.2.2.2.2.1 _ h2) h1.1 (kk p e s m args below meth c H locs ls C hR hf hl)
theorem zj_ldc2 (k : Nat) {i : Nat} (x : Int64) (h : Y.rows[k]? = some (pc, .ldc2_w i, q, u, v, w)) (hq : pc + 3 = q) (hx : Int64.ofInt w = x) (kk : zJ E Y R fin n cells slots σ q L (.long x :: rest)) : zJ E Y R fin n cells slots σ pc L rest := by
  intro p e s m args below meth c H locs ls C hR hf hl
  subst hq
  have h1 := zdec C.2.2.2.2.2.2.2.2.2 h rfl
  have h2 := zLs_ok _ (List.contains_iff_mem.mp h1.2)
  rw [hx] at h2
  exact lv_ldc2 C.1 C.2.1 C.2.2.2.2.2.1 (C.2.2.2.2.2.2.1 _ h2) h1.1 (kk p e s m args below meth c H locs ls C hR hf hl)
theorem zj_iload_n (k : Nat) {i : Fin 4} {x : Int32} (h : Y.rows[k]? = some (pc, .iload_n i, q, u, v, w)) (hq : pc + 1 = q) (hx : L[i.val]? = some (some (.int x))) (kk : zJ E Y R fin n cells slots σ q L (.int x :: rest)) : zJ E Y R fin n cells slots σ pc L rest := by
  intro p e s m args below meth c H locs ls C hR hf hl
  subst hq
  exact lv_iload_n C.1 C.2.1 (zdec C.2.2.2.2.2.2.2.2.2 h rfl).1 rfl (zhas_at hl hx) (kk p e s m args below meth c H locs ls C hR hf hl)
theorem zj_iload (k : Nat) {i : Nat} {x : Int32} (h : Y.rows[k]? = some (pc, .iload i, q, u, v, w)) (hq : pc + 2 = q) (hx : L[i]? = some (some (.int x))) (kk : zJ E Y R fin n cells slots σ q L (.int x :: rest)) : zJ E Y R fin n cells slots σ pc L rest := by
  intro p e s m args below meth c H locs ls C hR hf hl
  subst hq
  exact lv_iload C.1 C.2.1 (zdec C.2.2.2.2.2.2.2.2.2 h rfl).1 (zhas_at hl hx) (kk p e s m args below meth c H locs ls C hR hf hl)
theorem zj_lload_n (k : Nat) {i : Fin 4} {x : Int64} (h : Y.rows[k]? = some (pc, .lload_n i, q, u, v, w)) (hq : pc + 1 = q) (hx : L[i.val]? = some (some (.long x))) (kk : zJ E Y R fin n cells slots σ q L (.long x :: rest)) : zJ E Y R fin n cells slots σ pc L rest := by
  intro p e s m args below meth c H locs ls C hR hf hl
  subst hq
  exact lv_lload_n C.1 C.2.1 (zdec C.2.2.2.2.2.2.2.2.2 h rfl).1 rfl (zhas_at hl hx) (kk p e s m args below meth c H locs ls C hR hf hl)
theorem zj_lload (k : Nat) {i : Nat} {x : Int64} (h : Y.rows[k]? = some (pc, .lload i, q, u, v, w)) (hq : pc + 2 = q) (hx : L[i]? = some (some (.long x))) (kk : zJ E Y R fin n cells slots σ q L (.long x :: rest)) : zJ E Y R fin n cells slots σ pc L rest := by
  intro p e s m args below meth c H locs ls C hR hf hl
  subst hq
  exact lv_lload C.1 C.2.1 (zdec C.2.2.2.2.2.2.2.2.2 h rfl).1 (zhas_at hl hx) (kk p e s m args below meth c H locs ls C hR hf hl)
theorem zj_aload_n (k : Nat) {i : Fin 4} {x : Nat} (h : Y.rows[k]? = some (pc, .aload_n i, q, u, v, w)) (hq : pc + 1 = q) (hx : L[i.val]? = some (some (.ref x))) (kk : zJ E Y R fin n cells slots σ q L (.ref x :: rest)) : zJ E Y R fin n cells slots σ pc L rest := by
  intro p e s m args below meth c H locs ls C hR hf hl
  subst hq
  exact lv_aload_n C.1 C.2.1 (zdec C.2.2.2.2.2.2.2.2.2 h rfl).1 rfl (zhas_at hl hx) (kk p e s m args below meth c H locs ls C hR hf hl)
theorem zj_aload (k : Nat) {i : Nat} {x : Nat} (h : Y.rows[k]? = some (pc, .aload i, q, u, v, w)) (hq : pc + 2 = q) (hx : L[i]? = some (some (.ref x))) (kk : zJ E Y R fin n cells slots σ q L (.ref x :: rest)) : zJ E Y R fin n cells slots σ pc L rest := by
  intro p e s m args below meth c H locs ls C hR hf hl
  subst hq
  exact lv_aload C.1 C.2.1 (zdec C.2.2.2.2.2.2.2.2.2 h rfl).1 (zhas_at hl hx) (kk p e s m args below meth c H locs ls C hR hf hl)
theorem zj_istore_n (k : Nat) {i : Fin 4} {x : Int32} (h : Y.rows[k]? = some (pc, .istore_n i, q, u, v, w)) (hq : pc + 1 = q) (kk : zJ E Y R fin n cells slots σ q (zs1 L i.val (.int x)) rest) : zJ E Y R fin n cells slots σ pc L (.int x :: rest) := by
  intro p e s m args below meth c H locs ls C hR hf hl
  subst hq
  have h1 := zdec C.2.2.2.2.2.2.2.2.2 h rfl
  exact lv_istore_n C.1 C.2.1 h1.1 rfl hl (of_decide_eq_true h1.2) rfl (fun ls' hl' => kk p e s m args below meth c H locs ls' C hR hf (zhas1 hl'))
theorem zj_istore (k : Nat) {i : Nat} {x : Int32} (h : Y.rows[k]? = some (pc, .istore i, q, u, v, w)) (hq : pc + 2 = q) (kk : zJ E Y R fin n cells slots σ q (zs1 L i (.int x)) rest) : zJ E Y R fin n cells slots σ pc L (.int x :: rest) := by
  intro p e s m args below meth c H locs ls C hR hf hl
  subst hq
  have h1 := zdec C.2.2.2.2.2.2.2.2.2 h rfl
  exact lv_istore C.1 C.2.1 h1.1 hl (of_decide_eq_true h1.2) rfl (fun ls' hl' => kk p e s m args below meth c H locs ls' C hR hf (zhas1 hl'))
theorem zj_astore_n (k : Nat) {i : Fin 4} {x : Nat} (h : Y.rows[k]? = some (pc, .astore_n i, q, u, v, w)) (hq : pc + 1 = q) (kk : zJ E Y R fin n cells slots σ q (zs1 L i.val (.ref x)) rest) : zJ E Y R fin n cells slots σ pc L (.ref x :: rest) := by
  intro p e s m args below meth c H locs ls C hR hf hl
  subst hq
  have h1 := zdec C.2.2.2.2.2.2.2.2.2 h rfl
  exact lv_astore_n C.1 C.2.1 h1.1 rfl hl (of_decide_eq_true h1.2) rfl (fun ls' hl' => kk p e s m args below meth c H locs ls' C hR hf (zhas1 hl'))
theorem zj_astore (k : Nat) {i : Nat} {x : Nat} (h : Y.rows[k]? = some (pc, .astore i, q, u, v, w)) (hq : pc + 2 = q) (kk : zJ E Y R fin n cells slots σ q (zs1 L i (.ref x)) rest) : zJ E Y R fin n cells slots σ pc L (.ref x :: rest) := by
  intro p e s m args below meth c H locs ls C hR hf hl
  subst hq
  have h1 := zdec C.2.2.2.2.2.2.2.2.2 h rfl
  exact lv_astore C.1 C.2.1 h1.1 hl (of_decide_eq_true h1.2) rfl (fun ls' hl' => kk p e s m args below meth c H locs ls' C hR hf (zhas1 hl'))
theorem zj_lstore_n (k : Nat) {i : Fin 4} {x : Int64} (h : Y.rows[k]? = some (pc, .lstore_n i, q, u, v, w)) (hq : pc + 1 = q) (kk : zJ E Y R fin n cells slots σ q (zs2 L i.val (.long x)) rest) : zJ E Y R fin n cells slots σ pc L (.long x :: rest) := by
  intro p e s m args below meth c H locs ls C hR hf hl
  subst hq
  have h1 := zdec C.2.2.2.2.2.2.2.2.2 h rfl
  exact lv_lstore_n C.1 C.2.1 h1.1 rfl hl (of_decide_eq_true h1.2) rfl (fun ls' hl' => kk p e s m args below meth c H locs ls' C hR hf (zhas2 hl'))
theorem zj_lstore (k : Nat) {i : Nat} {x : Int64} (h : Y.rows[k]? = some (pc, .lstore i, q, u, v, w)) (hq : pc + 2 = q) (kk : zJ E Y R fin n cells slots σ q (zs2 L i (.long x)) rest) : zJ E Y R fin n cells slots σ pc L (.long x :: rest) := by
  intro p e s m args below meth c H locs ls C hR hf hl
  subst hq
  have h1 := zdec C.2.2.2.2.2.2.2.2.2 h rfl
  exact lv_lstore C.1 C.2.1 h1.1 hl (of_decide_eq_true h1.2) rfl (fun ls' hl' => kk p e s m args below meth c H locs ls' C hR hf (zhas2 hl'))
theorem zj_iinc (k : Nat) {i : Nat} {j : Int} {x : Int32} (d : Int32) (h : Y.rows[k]? = some (pc, .iinc i j, q, u, v, w)) (hq : pc + 3 = q) (hx : L[i]? = some (some (.int x))) (hd : Int32.ofInt j = d) (kk : zJ E Y R fin n cells slots σ q (zs1 L i (.int (x + d))) rest) : zJ E Y R fin n cells slots σ pc L rest := by
  intro p e s m args below meth c H locs ls C hR hf hl
  subst hq
  subst hd
  have h1 := zdec C.2.2.2.2.2.2.2.2.2 h rfl
  obtain ⟨kx, hkx⟩ := List.getElem?_of_mem (zlv_mem (k := 0) hx)
  rw [Nat.zero_add] at hkx
  exact lv_iinc (k := kx) C.1 C.2.1 h1.1 hl hkx rfl (of_decide_eq_true h1.2) rfl (fun ls' hl' => kk p e s m args below meth c H locs ls' C hR hf (zhas1 hl'))
theorem zj_iadd (k : Nat) {x y : Int32} (h : Y.rows[k]? = some (pc, .iadd, q, u, v, w)) (hq : pc + 1 = q) (kk : zJ E Y R fin n cells slots σ q L (.int (x + y) :: rest)) : zJ E Y R fin n cells slots σ pc L (.int y :: .int x :: rest) := by
  intro p e s m args below meth c H locs ls C hR hf hl
  subst hq
  exact lv_iadd C.1 C.2.1 (zdec C.2.2.2.2.2.2.2.2.2 h rfl).1 (kk p e s m args below meth c H locs ls C hR hf hl)
theorem zj_isub (k : Nat) {x y : Int32} (h : Y.rows[k]? = some (pc, .isub, q, u, v, w)) (hq : pc + 1 = q) (kk : zJ E Y R fin n cells slots σ q L (.int (x - y) :: rest)) : zJ E Y R fin n cells slots σ pc L (.int y :: .int x :: rest) := by
  intro p e s m args below meth c H locs ls C hR hf hl
  subst hq
  exact lv_isub C.1 C.2.1 (zdec C.2.2.2.2.2.2.2.2.2 h rfl).1 (kk p e s m args below meth c H locs ls C hR hf hl)
theorem zj_imul (k : Nat) {x y : Int32} (h : Y.rows[k]? = some (pc, .imul, q, u, v, w)) (hq : pc + 1 = q) (kk : zJ E Y R fin n cells slots σ q L (.int (x * y) :: rest)) : zJ E Y R fin n cells slots σ pc L (.int y :: .int x :: rest) := by
  intro p e s m args below meth c H locs ls C hR hf hl
  subst hq
  exact lv_imul C.1 C.2.1 (zdec C.2.2.2.2.2.2.2.2.2 h rfl).1 (kk p e s m args below meth c H locs ls C hR hf hl)
theorem zj_iand (k : Nat) {x y : Int32} (h : Y.rows[k]? = some (pc, .iand, q, u, v, w)) (hq : pc + 1 = q) (kk : zJ E Y R fin n cells slots σ q L (.int (x &&& y) :: rest)) : zJ E Y R fin n cells slots σ pc L (.int y :: .int x :: rest) := by
  intro p e s m args below meth c H locs ls C hR hf hl
  subst hq
  exact lv_iand C.1 C.2.1 (zdec C.2.2.2.2.2.2.2.2.2 h rfl).1 (kk p e s m args below meth c H locs ls C hR hf hl)
theorem zj_ior (k : Nat) {x y : Int32} (h : Y.rows[k]? = some (pc, .ior, q, u, v, w)) (hq : pc + 1 = q) (kk : zJ E Y R fin n cells slots σ q L (.int (x ||| y) :: rest)) : zJ E Y R fin n cells slots σ pc L (.int y :: .int x :: rest) := by
  intro p e s m args below meth c H locs ls C hR hf hl
  subst hq
  exact lv_ior C.1 C.2.1 (zdec C.2.2.2.2.2.2.2.2.2 h rfl).1 (kk p e s m args below meth c H locs ls C hR hf hl)
theorem zj_ixor (k : Nat) {x y : Int32} (h : Y.rows[k]? = some (pc, .ixor, q, u, v, w)) (hq : pc + 1 = q) (kk : zJ E Y R fin n cells slots σ q L (.int (x ^^^ y) :: rest)) : zJ E Y R fin n cells slots σ pc L (.int y :: .int x :: rest) := by
  intro p e s m args below meth c H locs ls C hR hf hl
  subst hq
  exact lv_ixor C.1 C.2.1 (zdec C.2.2.2.2.2.2.2.2.2 h rfl).1 (kk p e s m args below meth c H locs ls C hR hf hl)
theorem zj_ishl (k : Nat) {x y : Int32} (h : Y.rows[k]? = some (pc, .ishl, q, u, v, w)) (hq : pc + 1 = q) (kk : zJ E Y R fin n cells slots σ q L (.int (x <<< (y &&& 31)) :: rest)) : zJ E Y R fin n cells slots σ pc L (.int y :: .int x :: rest) := by
  intro p e s m args below meth c H locs ls C hR hf hl
  subst hq
  exact lv_ishl C.1 C.2.1 (zdec C.2.2.2.2.2.2.2.2.2 h rfl).1 (kk p e s m args below meth c H locs ls C hR hf hl)
theorem zj_ishr (k : Nat) {x y : Int32} (h : Y.rows[k]? = some (pc, .ishr, q, u, v, w)) (hq : pc + 1 = q) (kk : zJ E Y R fin n cells slots σ q L (.int (x >>> (y &&& 31)) :: rest)) : zJ E Y R fin n cells slots σ pc L (.int y :: .int x :: rest) := by
  intro p e s m args below meth c H locs ls C hR hf hl
  subst hq
  exact lv_ishr C.1 C.2.1 (zdec C.2.2.2.2.2.2.2.2.2 h rfl).1 (kk p e s m args below meth c H locs ls C hR hf hl)
theorem zj_idiv (k : Nat) {x y : Int32} (h : Y.rows[k]? = some (pc, .idiv, q, u, v, w)) (hq : pc + 1 = q) (hne : ¬ y = 0) (kk : zJ E Y R fin n cells slots σ q L (.int (x / y) :: rest)) : zJ E Y R fin n cells slots σ pc L (.int y :: .int x :: rest) := by
  intro p e s m args below meth c H locs ls C hR hf hl
  subst hq
  exact lv_idiv C.1 C.2.1 (zdec C.2.2.2.2.2.2.2.2.2 h rfl).1 hne (kk p e s m args below meth c H locs ls C hR hf hl)
theorem zj_irem (k : Nat) {x y : Int32} (h : Y.rows[k]? = some (pc, .irem, q, u, v, w)) (hq : pc + 1 = q) (hne : ¬ y = 0) (kk : zJ E Y R fin n cells slots σ q L (.int (x - x / y * y) :: rest)) : zJ E Y R fin n cells slots σ pc L (.int y :: .int x :: rest) := by
  intro p e s m args below meth c H locs ls C hR hf hl
  subst hq
  exact lv_irem C.1 C.2.1 (zdec C.2.2.2.2.2.2.2.2.2 h rfl).1 hne (kk p e s m args below meth c H locs ls C hR hf hl)
theorem zj_iushr (k : Nat) {x y : Int32} (h : Y.rows[k]? = some (pc, .iushr, q, u, v, w)) (hq : pc + 1 = q) (kk : zJ E Y R fin n cells slots σ q L (.int ((x.toUInt32 >>> (y.toUInt32 &&& Int32.toUInt32 31)).toInt32) :: rest)) : zJ E Y R fin n cells slots σ pc L (.int y :: .int x :: rest) := by
  intro p e s m args below meth c H locs ls C hR hf hl
  subst hq
  exact lv_iushr C.1 C.2.1 (zdec C.2.2.2.2.2.2.2.2.2 h rfl).1 rfl (kk p e s m args below meth c H locs ls C hR hf hl)
theorem zj_ineg (k : Nat) {x : Int32} (h : Y.rows[k]? = some (pc, .ineg, q, u, v, w)) (hq : pc + 1 = q) (kk : zJ E Y R fin n cells slots σ q L (.int (-x) :: rest)) : zJ E Y R fin n cells slots σ pc L (.int x :: rest) := by
  intro p e s m args below meth c H locs ls C hR hf hl
  subst hq
  exact lv_ineg C.1 C.2.1 (zdec C.2.2.2.2.2.2.2.2.2 h rfl).1 (kk p e s m args below meth c H locs ls C hR hf hl)
theorem zj_ladd (k : Nat) {x y : Int64} (h : Y.rows[k]? = some (pc, .ladd, q, u, v, w)) (hq : pc + 1 = q) (kk : zJ E Y R fin n cells slots σ q L (.long (x + y) :: rest)) : zJ E Y R fin n cells slots σ pc L (.long y :: .long x :: rest) := by
  intro p e s m args below meth c H locs ls C hR hf hl
  subst hq
  exact lv_ladd C.1 C.2.1 (zdec C.2.2.2.2.2.2.2.2.2 h rfl).1 (kk p e s m args below meth c H locs ls C hR hf hl)
theorem zj_lsub (k : Nat) {x y : Int64} (h : Y.rows[k]? = some (pc, .lsub, q, u, v, w)) (hq : pc + 1 = q) (kk : zJ E Y R fin n cells slots σ q L (.long (x - y) :: rest)) : zJ E Y R fin n cells slots σ pc L (.long y :: .long x :: rest) := by
  intro p e s m args below meth c H locs ls C hR hf hl
  subst hq
  exact lv_lsub C.1 C.2.1 (zdec C.2.2.2.2.2.2.2.2.2 h rfl).1 (kk p e s m args below meth c H locs ls C hR hf hl)
theorem zj_lmul (k : Nat) {x y : Int64} (h : Y.rows[k]? = some (pc, .lmul, q, u, v, w)) (hq : pc + 1 = q) (kk : zJ E Y R fin n cells slots σ q L (.long (x * y) :: rest)) : zJ E Y R fin n cells slots σ pc L (.long y :: .long x :: rest) := by
  intro p e s m args below meth c H locs ls C hR hf hl
  subst hq
  exact lv_lmul C.1 C.2.1 (zdec C.2.2.2.2.2.2.2.2.2 h rfl).1 (kk p e s m args below meth c H locs ls C hR hf hl)
theorem zj_ldiv (k : Nat) {x y : Int64} (h : Y.rows[k]? = some (pc, .ldiv, q, u, v, w)) (hq : pc + 1 = q) (hne : ¬ y = 0) (kk : zJ E Y R fin n cells slots σ q L (.long (x / y) :: rest)) : zJ E Y R fin n cells slots σ pc L (.long y :: .long x :: rest) := by
  intro p e s m args below meth c H locs ls C hR hf hl
  subst hq
  exact lv_ldiv C.1 C.2.1 (zdec C.2.2.2.2.2.2.2.2.2 h rfl).1 hne (kk p e s m args below meth c H locs ls C hR hf hl)
theorem zj_lrem (k : Nat) {x y : Int64} (h : Y.rows[k]? = some (pc, .lrem, q, u, v, w)) (hq : pc + 1 = q) (hne : ¬ y = 0) (kk : zJ E Y R fin n cells slots σ q L (.long (x - x / y * y) :: rest)) : zJ E Y R fin n cells slots σ pc L (.long y :: .long x :: rest) := by
  intro p e s m args below meth c H locs ls C hR hf hl
  subst hq
  exact lv_lrem C.1 C.2.1 (zdec C.2.2.2.2.2.2.2.2.2 h rfl).1 hne (kk p e s m args below meth c H locs ls C hR hf hl)
theorem zj_lneg (k : Nat) {x : Int64} (h : Y.rows[k]? = some (pc, .lneg, q, u, v, w)) (hq : pc + 1 = q) (kk : zJ E Y R fin n cells slots σ q L (.long (-x) :: rest)) : zJ E Y R fin n cells slots σ pc L (.long x :: rest) := by
  intro p e s m args below meth c H locs ls C hR hf hl
  subst hq
  exact lv_lneg C.1 C.2.1 (zdec C.2.2.2.2.2.2.2.2.2 h rfl).1 (kk p e s m args below meth c H locs ls C hR hf hl)
theorem zj_i2l (k : Nat) {x : Int32} (h : Y.rows[k]? = some (pc, .i2l, q, u, v, w)) (hq : pc + 1 = q) (kk : zJ E Y R fin n cells slots σ q L (.long x.toInt64 :: rest)) : zJ E Y R fin n cells slots σ pc L (.int x :: rest) := by
  intro p e s m args below meth c H locs ls C hR hf hl
  subst hq
  exact lv_i2l C.1 C.2.1 (zdec C.2.2.2.2.2.2.2.2.2 h rfl).1 rfl (kk p e s m args below meth c H locs ls C hR hf hl)
theorem zj_lcmp (k : Nat) {x y : Int64} (h : Y.rows[k]? = some (pc, .lcmp, q, u, v, w)) (hq : pc + 1 = q) (kk : zJ E Y R fin n cells slots σ q L (.int (lg_cmp x y) :: rest)) : zJ E Y R fin n cells slots σ pc L (.long y :: .long x :: rest) := by
  intro p e s m args below meth c H locs ls C hR hf hl
  subst hq
  exact W.lcmp C.1 C.2.1 (zdec C.2.2.2.2.2.2.2.2.2 h rfl).1 (kk p e s m args below meth c H locs ls C hR hf hl)
theorem zj_dup (k : Nat) {va : Value} (h : Y.rows[k]? = some (pc, .dup, q, u, v, w)) (hq : pc + 1 = q) (hva : va.category = 1) (kk : zJ E Y R fin n cells slots σ q L (va :: va :: rest)) : zJ E Y R fin n cells slots σ pc L (va :: rest) := by
  intro p e s m args below meth c H locs ls C hR hf hl
  subst hq
  exact lv_dup C.1 C.2.1 (zdec C.2.2.2.2.2.2.2.2.2 h rfl).1 hva (kk p e s m args below meth c H locs ls C hR hf hl)
theorem zj_pop (k : Nat) {va : Value} (h : Y.rows[k]? = some (pc, .pop, q, u, v, w)) (hq : pc + 1 = q) (hva : va.category = 1) (kk : zJ E Y R fin n cells slots σ q L (rest)) : zJ E Y R fin n cells slots σ pc L (va :: rest) := by
  intro p e s m args below meth c H locs ls C hR hf hl
  subst hq
  exact lv_pop C.1 C.2.1 (zdec C.2.2.2.2.2.2.2.2.2 h rfl).1 hva (kk p e s m args below meth c H locs ls C hR hf hl)
theorem zj_dup2 (k : Nat) {va vb : Value} (h : Y.rows[k]? = some (pc, .dup2, q, u, v, w)) (hq : pc + 1 = q) (hva : va.category = 1) (hvb : vb.category = 1) (kk : zJ E Y R fin n cells slots σ q L (va :: vb :: va :: vb :: rest)) : zJ E Y R fin n cells slots σ pc L (va :: vb :: rest) := by
  intro p e s m args below meth c H locs ls C hR hf hl
  subst hq
  exact lv_dup2_11 C.1 C.2.1 (zdec C.2.2.2.2.2.2.2.2.2 h rfl).1 hva hvb (kk p e s m args below meth c H locs ls C hR hf hl)
theorem zj_if_eq (k : Nat) {x : Int32} {off : Int} (h : Y.rows[k]? = some (pc, .ifCond .eq off, q, u, v, w)) (hq : pc + 3 = q) (kt : x = 0 → zJ E Y R fin n cells slots σ u L rest) (kf : ¬ x = 0 → zJ E Y R fin n cells slots σ q L rest) : zJ E Y R fin n cells slots σ pc L (.int x :: rest) := by
  intro p e s m args below meth c H locs ls C hR hf hl
  subst hq
  have h1 := zdec C.2.2.2.2.2.2.2.2.2 h rfl
  exact lv_if_eq C.1 C.2.1 h1.1 (of_decide_eq_true h1.2) (fun g => kt g p e s m args below meth c H locs ls C hR hf hl) (fun g => kf g p e s m args below meth c H locs ls C hR hf hl)
theorem zj_icmp_eq (k : Nat) {x y : Int32} {off : Int} (h : Y.rows[k]? = some (pc, .if_icmp .eq off, q, u, v, w)) (hq : pc + 3 = q) (kt : x = y → zJ E Y R fin n cells slots σ u L rest) (kf : ¬ x = y → zJ E Y R fin n cells slots σ q L rest) : zJ E Y R fin n cells slots σ pc L (.int y :: .int x :: rest) := by
  intro p e s m args below meth c H locs ls C hR hf hl
  subst hq
  have h1 := zdec C.2.2.2.2.2.2.2.2.2 h rfl
  exact lv_icmp_eq C.1 C.2.1 h1.1 (of_decide_eq_true h1.2) (fun g => kt g p e s m args below meth c H locs ls C hR hf hl) (fun g => kf g p e s m args below meth c H locs ls C hR hf hl)
theorem zj_if_ne (k : Nat) {x : Int32} {off : Int} (h : Y.rows[k]? = some (pc, .ifCond .ne off, q, u, v, w)) (hq : pc + 3 = q) (kt : ¬ x = 0 → zJ E Y R fin n cells slots σ u L rest) (kf : x = 0 → zJ E Y R fin n cells slots σ q L rest) : zJ E Y R fin n cells slots σ pc L (.int x :: rest) := by
  intro p e s m args below meth c H locs ls C hR hf hl
  subst hq
  have h1 := zdec C.2.2.2.2.2.2.2.2.2 h rfl
  exact lv_if_ne C.1 C.2.1 h1.1 (of_decide_eq_true h1.2) (fun g => kt g p e s m args below meth c H locs ls C hR hf hl) (fun g => kf g p e s m args below meth c H locs ls C hR hf hl)
theorem zj_icmp_ne (k : Nat) {x y : Int32} {off : Int} (h : Y.rows[k]? = some (pc, .if_icmp .ne off, q, u, v, w)) (hq : pc + 3 = q) (kt : ¬ x = y → zJ E Y R fin n cells slots σ u L rest) (kf : x = y → zJ E Y R fin n cells slots σ q L rest) : zJ E Y R fin n cells slots σ pc L (.int y :: .int x :: rest) := by
  intro p e s m args below meth c H locs ls C hR hf hl
  subst hq
  have h1 := zdec C.2.2.2.2.2.2.2.2.2 h rfl
  exact lv_icmp_ne C.1 C.2.1 h1.1 (of_decide_eq_true h1.2) (fun g => kt g p e s m args below meth c H locs ls C hR hf hl) (fun g => kf g p e s m args below meth c H locs ls C hR hf hl)
theorem zj_if_lt (k : Nat) {x : Int32} {off : Int} (h : Y.rows[k]? = some (pc, .ifCond .lt off, q, u, v, w)) (hq : pc + 3 = q) (kt : x < 0 → zJ E Y R fin n cells slots σ u L rest) (kf : ¬ x < 0 → zJ E Y R fin n cells slots σ q L rest) : zJ E Y R fin n cells slots σ pc L (.int x :: rest) := by
  intro p e s m args below meth c H locs ls C hR hf hl
  subst hq
  have h1 := zdec C.2.2.2.2.2.2.2.2.2 h rfl
  exact lv_if_lt C.1 C.2.1 h1.1 (of_decide_eq_true h1.2) (fun g => kt g p e s m args below meth c H locs ls C hR hf hl) (fun g => kf g p e s m args below meth c H locs ls C hR hf hl)
theorem zj_icmp_lt (k : Nat) {x y : Int32} {off : Int} (h : Y.rows[k]? = some (pc, .if_icmp .lt off, q, u, v, w)) (hq : pc + 3 = q) (kt : x < y → zJ E Y R fin n cells slots σ u L rest) (kf : ¬ x < y → zJ E Y R fin n cells slots σ q L rest) : zJ E Y R fin n cells slots σ pc L (.int y :: .int x :: rest) := by
  intro p e s m args below meth c H locs ls C hR hf hl
  subst hq
  have h1 := zdec C.2.2.2.2.2.2.2.2.2 h rfl
  exact lv_icmp_lt C.1 C.2.1 h1.1 (of_decide_eq_true h1.2) (fun g => kt g p e s m args below meth c H locs ls C hR hf hl) (fun g => kf g p e s m args below meth c H locs ls C hR hf hl)
theorem zj_if_ge (k : Nat) {x : Int32} {off : Int} (h : Y.rows[k]? = some (pc, .ifCond .ge off, q, u, v, w)) (hq : pc + 3 = q) (kt : 0 ≤ x → zJ E Y R fin n cells slots σ u L rest) (kf : ¬ 0 ≤ x → zJ E Y R fin n cells slots σ q L rest) : zJ E Y R fin n cells slots σ pc L (.int x :: rest) := by
  intro p e s m args below meth c H locs ls C hR hf hl
  subst hq
  have h1 := zdec C.2.2.2.2.2.2.2.2.2 h rfl
  exact lv_if_ge C.1 C.2.1 h1.1 (of_decide_eq_true h1.2) (fun g => kt g p e s m args below meth c H locs ls C hR hf hl) (fun g => kf g p e s m args below meth c H locs ls C hR hf hl)
theorem zj_icmp_ge (k : Nat) {x y : Int32} {off : Int} (h : Y.rows[k]? = some (pc, .if_icmp .ge off, q, u, v, w)) (hq : pc + 3 = q) (kt : y ≤ x → zJ E Y R fin n cells slots σ u L rest) (kf : ¬ y ≤ x → zJ E Y R fin n cells slots σ q L rest) : zJ E Y R fin n cells slots σ pc L (.int y :: .int x :: rest) := by
  intro p e s m args below meth c H locs ls C hR hf hl
  subst hq
  have h1 := zdec C.2.2.2.2.2.2.2.2.2 h rfl
  exact lv_icmp_ge C.1 C.2.1 h1.1 (of_decide_eq_true h1.2) (fun g => kt g p e s m args below meth c H locs ls C hR hf hl) (fun g => kf g p e s m args below meth c H locs ls C hR hf hl)
theorem zj_if_gt (k : Nat) {x : Int32} {off : Int} (h : Y.rows[k]? = some (pc, .ifCond .gt off, q, u, v, w)) (hq : pc + 3 = q) (kt : 0 < x → zJ E Y R fin n cells slots σ u L rest) (kf : ¬ 0 < x → zJ E Y R fin n cells slots σ q L rest) : zJ E Y R fin n cells slots σ pc L (.int x :: rest) := by
  intro p e s m args below meth c H locs ls C hR hf hl
  subst hq
  have h1 := zdec C.2.2.2.2.2.2.2.2.2 h rfl
  exact lv_if_gt C.1 C.2.1 h1.1 (of_decide_eq_true h1.2) (fun g => kt g p e s m args below meth c H locs ls C hR hf hl) (fun g => kf g p e s m args below meth c H locs ls C hR hf hl)
theorem zj_icmp_gt (k : Nat) {x y : Int32} {off : Int} (h : Y.rows[k]? = some (pc, .if_icmp .gt off, q, u, v, w)) (hq : pc + 3 = q) (kt : y < x → zJ E Y R fin n cells slots σ u L rest) (kf : ¬ y < x → zJ E Y R fin n cells slots σ q L rest) : zJ E Y R fin n cells slots σ pc L (.int y :: .int x :: rest) := by
  intro p e s m args below meth c H locs ls C hR hf hl
  subst hq
  have h1 := zdec C.2.2.2.2.2.2.2.2.2 h rfl
  exact lv_icmp_gt C.1 C.2.1 h1.1 (of_decide_eq_true h1.2) (fun g => kt g p e s m args below meth c H locs ls C hR hf hl) (fun g => kf g p e s m args below meth c H locs ls C hR hf hl)
theorem zj_if_le (k : Nat) {x : Int32} {off : Int} (h : Y.rows[k]? = some (pc, .ifCond .le off, q, u, v, w)) (hq : pc + 3 = q) (kt : x ≤ 0 → zJ E Y R fin n cells slots σ u L rest) (kf : ¬ x ≤ 0 → zJ E Y R fin n cells slots σ q L rest) : zJ E Y R fin n cells slots σ pc L (.int x :: rest) := by
  intro p e s m args below meth c H locs ls C hR hf hl
  subst hq
  have h1 := zdec C.2.2.2.2.2.2.2.2.2 h rfl
  exact lv_if_le C.1 C.2.1 h1.1 (of_decide_eq_true h1.2) (fun g => kt g p e s m args below meth c H locs ls C hR hf hl) (fun g => kf g p e s m args below meth c H locs ls C hR hf hl)
theorem zj_icmp_le (k : Nat) {x y : Int32} {off : Int} (h : Y.rows[k]? = some (pc, .if_icmp .le off, q, u, v, w)) (hq : pc + 3 = q) (kt : x ≤ y → zJ E Y R fin n cells slots σ u L rest) (kf : ¬ x ≤ y → zJ E Y R fin n cells slots σ q L rest) : zJ E Y R fin n cells slots σ pc L (.int y :: .int x :: rest) := by
  intro p e s m args below meth c H locs ls C hR hf hl
  subst hq
  have h1 := zdec C.2.2.2.2.2.2.2.2.2 h rfl
  exact lv_icmp_le C.1 C.2.1 h1.1 (of_decide_eq_true h1.2) (fun g => kt g p e s m args below meth c H locs ls C hR hf hl) (fun g => kf g p e s m args below meth c H locs ls C hR hf hl)
theorem zj_goto (k : Nat) {off : Int} (h : Y.rows[k]? = some (pc, .goto off, q, u, v, w)) (hq : pc + 3 = q) (kk : zJ E Y R fin n cells slots σ u L rest) : zJ E Y R fin n cells slots σ pc L rest := by
  intro p e s m args below meth c H locs ls C hR hf hl
  subst hq
  have h1 := zdec C.2.2.2.2.2.2.2.2.2 h rfl
  exact lv_goto C.1 C.2.1 h1.1 (of_decide_eq_true h1.2) (kk p e s m args below meth c H locs ls C hR hf hl)
end
end
section
/-! heap: fields, arrays; returns; contracts and calls -/
section
variable {E : zE} {Y : zY} {R : Room} {fin : zF} {n cells slots : Nat} {σ : zH} {pc q u v : Nat} {w : Int} {L : List (Option Value)} {rest : List Value}
theorem zR.at {H : Heap} (h : zR E n σ H) {a : Nat} {e : va_E} (he : σ a = some e) : va_at E.D zcl (a, zve E e) H := (h.2.2 a e he).2
theorem zR.put {H H' : Heap} (h : zR E n σ H) {a : Nat} {e e' : va_E} (he : σ a = some e) (hz : H'.size = H.size) (ho : ∀ q, q ≠ a → H'[q]? = H[q]?) (ha : va_at E.D zcl (a, zve E e') H') : zR E n (zup σ a e') H' := by
  have hlo := (h.2.2 a e he).1
  refine ⟨hz.trans h.1, fun q hq => (ho q (by omega)).trans (h.2.1 q hq), fun q f hf => ?_⟩
  by_cases hqa : q = a
  · subst hqa
    rw [zup_eq] at hf
    cases hf
    exact ⟨hlo, ha⟩
  · rw [zup_ne hqa] at hf
    exact ⟨(h.2.2 q f hf).1, (h.2.2 q f hf).2.kept (ho q hqa)⟩
theorem zcl_at {ci : Nat} (h : ci < 9) : zcl[ci]? = some (zcn ci, zTT ci, zNN ci) := by
  match ci, h with
  | 0, _ => rfl
  | 1, _ => rfl
  | 2, _ => rfl
  | 3, _ => rfl
  | 4, _ => rfl
  | 5, _ => rfl
  | 6, _ => rfl
  | 7, _ => rfl
  | 8, _ => rfl
  | c + 9, h => omega
theorem zws_at {ci : Nat} (h : ci < 9) : ∀ w ∈ u_ws (zcn ci) (zTT ci) (zNN ci), w ∈ zTbl := by
  match ci, h with
  | 0, _ => exact zw0
  | 1, _ => exact zw1
  | 2, _ => exact zw2
  | 3, _ => exact zw3
  | 4, _ => exact zw4
  | 5, _ => exact zw5
  | 6, _ => exact zw6
  | 7, _ => exact zw7
  | 8, _ => exact zw8
  | c + 9, h => omega
theorem zqq_at {ci : Nat} (h : ci < 9) : ∀ k, k < zNN ci → parseFieldDescriptor (zTT ci k).2.2.1 = some (zYY ci k) := by
  match ci, h with
  | 0, _ => exact zq0
  | 1, _ => exact zq1
  | 2, _ => exact zq2
  | 3, _ => exact zq3
  | 4, _ => exact zq4
  | 5, _ => exact zq5
  | 6, _ => exact zq6
  | 7, _ => exact zq7
  | 8, _ => exact zq8
  | c + 9, h => omega
theorem znn_at {ci : Nat} (h : ci < 9) : ∀ a, a < zNN ci → ∀ b, b < zNN ci → a ≠ b → (zTT ci a).2.1 ≠ (zTT ci b).2.1 := by
  match ci, h with
  | 0, _ => exact zn0
  | 1, _ => exact zn1
  | 2, _ => exact zn2
  | 3, _ => exact zn3
  | 4, _ => exact zn4
  | 5, _ => exact zn5
  | 6, _ => exact zn6
  | 7, _ => exact zn7
  | 8, _ => exact zn8
  | c + 9, h => omega
theorem zaux_f {oc idx u v : Nat} (h : (zFLs.contains (oc, idx, u, v) && decide (u < 9) && decide (v < zNN u)) = true) : (Cond.fieldLink (zcn oc) idx (zTT u v).1 (zTT u v).2.1 (zTT u v).2.2.1) ∈ zTbl ∧ u < 9 ∧ v < zNN u := by
  simp only [Bool.and_eq_true, decide_eq_true_eq] at h
  exact ⟨zFL_ok _ (List.contains_iff_mem.mp h.1.1), h.1.2, h.2⟩
theorem zj_get (k : Nat) {idx a : Nat} {fs : List Value} {x : Value} (h : Y.rows[k]? = some (pc, .getfield idx, q, u, v, w)) (hq : pc + 3 = q) (hs : σ a = some (.inr (u, fs))) (hx : fs[v]? = some x) (kk : zJ E Y R fin n cells slots σ q L (x :: rest)) : zJ E Y R fin n cells slots σ pc L (.ref a :: rest) := by
  intro p e s m args below meth c H locs ls C hR hf hl
  subst hq
  have h1 := zdec C.2.2.2.2.2.2.2.2.2 h rfl
  obtain ⟨g1, g2, g3⟩ := zaux_f h1.2
  have hP : va_P E.D zcl [(a, .inr (u, fs))] H := fun j qq hj => by
    match j, hj with
    | 0, hj => cases hj; exact hR.at hs
    | j + 1, hj => simp at hj
  exact va_get (ref := (zTT u v).1) C.1 C.2.1 C.2.2.2.2.2.2.1 (zws_at g2) C.2.2.2.2.2.1 C.2.2.2.2.2.2.2.1.1 hP 0 rfl (zcl_at g2) v g3 (C.2.2.2.2.2.2.1 _ g1) (fun _ h => h) hx h1.1 (kk p e s m args below meth c H locs ls C hR hf hl)
theorem zj_put (k : Nat) {idx a : Nat} {fs : List Value} {x : Value} (h : Y.rows[k]? = some (pc, .putfield idx, q, u, v, w)) (hq : pc + 3 = q) (hs : σ a = some (.inr (u, fs))) (hfin : (zTT u v).2.2.2 = false) (hn : narrow (zYY u v) x = x) (hfit : fits (zYY u v) x = true) (hl0 : v < fs.length) (kk : zJ E Y R fin n cells slots (zup σ a (.inr (u, fs.set v x))) q L rest) : zJ E Y R fin n cells slots σ pc L (x :: .ref a :: rest) := by
  intro p e s m args below meth c H locs ls C hR hf hl
  subst hq
  have h1 := zdec C.2.2.2.2.2.2.2.2.2 h rfl
  obtain ⟨g1, g2, g3⟩ := zaux_f h1.2
  have hK := C.2.2.2.2.2.2.2.1.1
  have hts := C.2.2.2.2.2.2.1
  have hap := va_apart (own := zcn Y.oc) hts (zws_at g2) (zYY u) (zqq_at g2) (znn_at g2) hK (zcl_at g2)
  obtain ⟨r, hr1, cell, q1, q2, q3, q4⟩ := hR.at hs
  have hr : r = (zcn u, zTT u, zNN u) := Option.some.inj (hr1.symm.trans (zcl_at g2))
  subst hr
  obtain ⟨hS, hfc, kC, hkC, hkind⟩ := hK.1 u _ (zcl_at g2)
  obtain ⟨cf, kf, fi, f, hi, hsl⟩ := hS v g3
  have hlay := hts _ (zws_at g2 _ (u_in_lay g3))
  unfold u_lay at hlay
  rw [if_neg (by rw [hfin]; decide)] at hlay
  have hst := (u_facts hfc hkC (u_lays hts (zws_at g2) g3) hi).1
  have h6 := u_store hfc hkC hkind hlay hi (zqq_at g2 v g3) hn hfit
  refine W.putK C.1 C.2.1 (f := f) ⟨C.2.2.2.2.2.1, hts _ g1, ⟨_, _, _, hi⟩, hst⟩ (by rw [q2]; exact h6) q1 q3 (by rw [hsl]; exact k2_hasslot (q4 v g3)) rfl rfl h1.1 fun H' e1 e2 e3 => ?_
  rw [hsl] at e1 ⊢
  refine kk p e s m args below meth c H' _ ls C (hR.put hs e2 e3 ⟨_, zcl_at g2, t_OB.to (V := updV (vp_V fs) v x) ⟨_, e1, q2, q3, t_set q4 hap g3 x⟩ (fun j _ => vp_updV_set hl0 x j)⟩) (fun l hl' => ?_) hl
  rcases List.mem_append.mp hl' with h' | h'
  · exact hf l h'
  · rw [List.mem_singleton.mp h']; exact (hR.2.2 a _ hs).1
theorem zarr {s : State} (hK : zK E s) {t : Nat} (ht : t < 6) : ArrOfT s (E.cA t) (zty t) := (hK.1.2 t _ (ztys_at E ht)).1
theorem zj_iald (k : Nat) {a N : Nat} {f : Nat → Int32} {i : Int32} (h : Y.rows[k]? = some (pc, .iaload, q, u, v, w)) (hq : pc + 1 = q) (hs : σ a = some (.inl (0, N, .inl f))) (hin : vp_in i N) (kk : zJ E Y R fin n cells slots σ q L (.int (f i.toNatClampNeg) :: rest)) : zJ E Y R fin n cells slots σ pc L (.int i :: .ref a :: rest) := by
  intro p e s m args below meth c H locs ls C hR hf hl
  subst hq
  have hlt : i.toNatClampNeg < N := Nat.not_le.mp fun q => hin (Or.inr q)
  exact W.iald (v := .int (f i.toNatClampNeg)) C.1 C.2.1 (hR.at hs) (zarr C.2.2.2.2.2.2.2.1 (t := 0) (by decide) N (fun j => .int (f j))) (fun q => by cases q) (by show ¬ (i < 0 ∨ (arrV _ _ _).slots.size ≤ _); rw [arrV_size]; exact hin) (by show (arrV _ _ _).slots[_]? = _; rw [arrV_read _ _ hlt]) rfl rfl (zdec C.2.2.2.2.2.2.2.2.2 h rfl).1 (kk p e s m args below meth c H locs ls C hR hf hl)
theorem zj_lald (k : Nat) {a N : Nat} {f : Nat → Int64} {i : Int32} (h : Y.rows[k]? = some (pc, .laload, q, u, v, w)) (hq : pc + 1 = q) (hs : σ a = some (.inl (1, N, .inr (.inl f)))) (hin : vp_in i N) (kk : zJ E Y R fin n cells slots σ q L (.long (f i.toNatClampNeg) :: rest)) : zJ E Y R fin n cells slots σ pc L (.int i :: .ref a :: rest) := by
  intro p e s m args below meth c H locs ls C hR hf hl
  subst hq
  have hlt : i.toNatClampNeg < N := Nat.not_le.mp fun q => hin (Or.inr q)
  exact W.lald (v := .long (f i.toNatClampNeg)) C.1 C.2.1 (hR.at hs) (zarr C.2.2.2.2.2.2.2.1 (t := 1) (by decide) N (fun j => .long (f j))) (fun q => by cases q) (by show ¬ (i < 0 ∨ (arrV _ _ _).slots.size ≤ _); rw [arrV_size]; exact hin) (by show (arrV _ _ _).slots[_]? = _; rw [arrV_read _ _ hlt]) rfl rfl (zdec C.2.2.2.2.2.2.2.2.2 h rfl).1 (kk p e s m args below meth c H locs ls C hR hf hl)
theorem zj_zald (k : Nat) {a N : Nat} {f : Nat → Int32} {i : Int32} (h : Y.rows[k]? = some (pc, .baload, q, u, v, w)) (hq : pc + 1 = q) (hs : σ a = some (.inl (2, N, .inl f))) (hin : vp_in i N) (kk : zJ E Y R fin n cells slots σ q L (.int (f i.toNatClampNeg) :: rest)) : zJ E Y R fin n cells slots σ pc L (.int i :: .ref a :: rest) := by
  intro p e s m args below meth c H locs ls C hR hf hl
  subst hq
  have hlt : i.toNatClampNeg < N := Nat.not_le.mp fun q => hin (Or.inr q)
  exact W.zald (v := .int (f i.toNatClampNeg)) C.1 C.2.1 (hR.at hs) (zarr C.2.2.2.2.2.2.2.1 (t := 2) (by decide) N (fun j => .int (f j))) (fun q => by cases q) (by show ¬ (i < 0 ∨ (arrV _ _ _).slots.size ≤ _); rw [arrV_size]; exact hin) (by show (arrV _ _ _).slots[_]? = _; rw [arrV_read _ _ hlt]) rfl rfl (zdec C.2.2.2.2.2.2.2.2.2 h rfl).1 (kk p e s m args below meth c H locs ls C hR hf hl)
theorem zj_aald (k : Nat) {a N t : Nat} {f : Nat → Option Nat} {i : Int32} {b : Nat} (h : Y.rows[k]? = some (pc, .aaload, q, u, v, w)) (hq : pc + 1 = q) (hs : σ a = some (.inl (t, N, .inr (.inr (.inr (.inr f)))))) (ht : 3 ≤ t ∧ t < 6) (hin : vp_in i N) (hb : f i.toNatClampNeg = some b) (kk : zJ E Y R fin n cells slots σ q L (.ref b :: rest)) : zJ E Y R fin n cells slots σ pc L (.int i :: .ref a :: rest) := by
  intro p e s m args below meth c H locs ls C hR hf hl
  subst hq
  have hlt : i.toNatClampNeg < N := Nat.not_le.mp fun q => hin (Or.inr q)
  have href : (zty t).isReference = true := by
    obtain ⟨t1, t2⟩ := ht
    match t, t1, t2 with
    | 3, _, _ => rfl
    | 4, _, _ => rfl
    | 5, _, _ => rfl
  exact W.aald (v := .ref b) (ty := zty t) C.1 C.2.1 (hR.at hs) (zarr C.2.2.2.2.2.2.2.1 (t := t) ht.2 N (fun j => va_rf (f j))) href (fun q => by cases q) (by show ¬ (i < 0 ∨ (arrV _ _ _).slots.size ≤ _); rw [arrV_size]; exact hin) (by show (arrV _ _ _).slots[_]? = _; rw [arrV_read _ _ hlt, hb]; rfl) rfl rfl (zdec C.2.2.2.2.2.2.2.2.2 h rfl).1 (kk p e s m args below meth c H locs ls C hR hf hl)
theorem zj_alen (k : Nat) {a t N : Nat} {f : (Nat → Int32) ⊕ (Nat → Int64) ⊕ (Nat → UInt32) ⊕ (Nat → UInt64) ⊕ (Nat → Option Nat)} (h : Y.rows[k]? = some (pc, .arraylength, q, u, v, w)) (hq : pc + 1 = q) (hs : σ a = some (.inl (t, N, f))) (ht : t < 6) (kk : zJ E Y R fin n cells slots σ q L (.int (Int32.ofNat N) :: rest)) : zJ E Y R fin n cells slots σ pc L (.ref a :: rest) := by
  intro p e s m args below meth c H locs ls C hR hf hl
  subst hq
  have hc : ∃ g : Nat → Value, vp_cell (E.cA t) (N, f) = arrV (E.cA t) N g := by
    rcases f with f | f | f | f | f
    · exact ⟨_, vp_cell_i _ _ _⟩
    · exact ⟨_, vp_cell_l _ _ _⟩
    · exact ⟨_, vp_cell_f _ _ _⟩
    · exact ⟨_, vp_cell_d _ _ _⟩
    · exact ⟨_, vp_cell_q _ _ _⟩
  obtain ⟨g, hg⟩ := hc
  have hcell : H[a]? = some (arrV (E.cA t) N g) := by rw [← hg]; exact hR.at hs
  exact W.alen (n := Int32.ofNat N) C.1 C.2.1 hcell (zarr C.2.2.2.2.2.2.2.1 ht N g) (by rw [arrV_size] <;> rfl) rfl rfl (zdec C.2.2.2.2.2.2.2.2.2 h rfl).1 (kk p e s m args below meth c H locs ls C hR hf hl)
theorem zj_iast (k : Nat) {a N : Nat} {f : Nat → Int32} {i x : Int32} (h : Y.rows[k]? = some (pc, .iastore, q, u, v, w)) (hq : pc + 1 = q) (hs : σ a = some (.inl (0, N, .inl f))) (hin : vp_in i N) (kk : zJ E Y R fin n cells slots (zup σ a (.inl (0, N, .inl (va_up f i.toNatClampNeg x)))) q L rest) : zJ E Y R fin n cells slots σ pc L (.int x :: .int i :: .ref a :: rest) := by
  intro p e s m args below meth c H locs ls C hR hf hl
  subst hq
  refine W.iast C.1 C.2.1 (hR.at hs) (zarr C.2.2.2.2.2.2.2.1 (t := 0) (by decide) N (fun j => .int (f j))) (fun q => by cases q) (by show ¬ (i < 0 ∨ (arrV _ _ _).slots.size ≤ _); rw [arrV_size]; exact hin) rfl rfl (zdec C.2.2.2.2.2.2.2.2.2 h rfl).1 (fun H' e1 e2 e3 => ?_)
  refine kk p e s m args below meth c H' _ ls C (hR.put hs e2 e3 ?_) (fun l hl' => ?_) hl
  · show H'[a]? = some (vp_cell _ _)
    rw [e1]
    show some ((arrV (E.cA 0) N (fun j => .int (f j))).setSlot i.toNatClampNeg (.int x)) = some (arrV (E.cA 0) N (fun j => .int (va_up f i.toNatClampNeg x j)))
    rw [arrV_store]
    congr 2
    funext j
    by_cases hj : j = i.toNatClampNeg <;> simp [updV, va_up, hj]
  · rcases List.mem_append.mp hl' with h' | h'
    · exact hf l h'
    · rw [List.mem_singleton.mp h']; exact (hR.2.2 a _ hs).1
theorem zj_last (k : Nat) {a N : Nat} {f : Nat → Int64} {i : Int32} {x : Int64} (h : Y.rows[k]? = some (pc, .lastore, q, u, v, w)) (hq : pc + 1 = q) (hs : σ a = some (.inl (1, N, .inr (.inl f)))) (hin : vp_in i N) (kk : zJ E Y R fin n cells slots (zup σ a (.inl (1, N, .inr (.inl (va_up f i.toNatClampNeg x))))) q L rest) : zJ E Y R fin n cells slots σ pc L (.long x :: .int i :: .ref a :: rest) := by
  intro p e s m args below meth c H locs ls C hR hf hl
  subst hq
  refine W.last C.1 C.2.1 (hR.at hs) (zarr C.2.2.2.2.2.2.2.1 (t := 1) (by decide) N (fun j => .long (f j))) (fun q => by cases q) (by show ¬ (i < 0 ∨ (arrV _ _ _).slots.size ≤ _); rw [arrV_size]; exact hin) rfl rfl (zdec C.2.2.2.2.2.2.2.2.2 h rfl).1 (fun H' e1 e2 e3 => ?_)
  refine kk p e s m args below meth c H' _ ls C (hR.put hs e2 e3 ?_) (fun l hl' => ?_) hl
  · show H'[a]? = some (vp_cell _ _)
    rw [e1]
    show some ((arrV (E.cA 1) N (fun j => .long (f j))).setSlot i.toNatClampNeg (.long x)) = some (arrV (E.cA 1) N (fun j => .long (va_up f i.toNatClampNeg x j)))
    rw [arrV_store]
    congr 2
    funext j
    by_cases hj : j = i.toNatClampNeg <;> simp [updV, va_up, hj]
  · rcases List.mem_append.mp hl' with h' | h'
    · exact hf l h'
    · rw [List.mem_singleton.mp h']; exact (hR.2.2 a _ hs).1
theorem zj_zast (k : Nat) {a N : Nat} {f : Nat → Int32} {i x : Int32} (h : Y.rows[k]? = some (pc, .bastore, q, u, v, w)) (hq : pc + 1 = q) (hs : σ a = some (.inl (2, N, .inl f))) (hin : vp_in i N) (hx : narrow .boolean (.int x) = .int x) (kk : zJ E Y R fin n cells slots (zup σ a (.inl (2, N, .inl (va_up f i.toNatClampNeg x)))) q L rest) : zJ E Y R fin n cells slots σ pc L (.int x :: .int i :: .ref a :: rest) := by
  intro p e s m args below meth c H locs ls C hR hf hl
  subst hq
  refine W.zast C.1 C.2.1 (hR.at hs) (zarr C.2.2.2.2.2.2.2.1 (t := 2) (by decide) N (fun j => .int (f j))) (fun q => by cases q) (by show ¬ (i < 0 ∨ (arrV _ _ _).slots.size ≤ _); rw [arrV_size]; exact hin) rfl rfl (zdec C.2.2.2.2.2.2.2.2.2 h rfl).1 (fun H' e1 e2 e3 => ?_)
  refine kk p e s m args below meth c H' _ ls C (hR.put hs e2 e3 ?_) (fun l hl' => ?_) hl
  · show H'[a]? = some (vp_cell _ _)
    rw [e1, hx]
    show some ((arrV (E.cA 2) N (fun j => .int (f j))).setSlot i.toNatClampNeg (.int x)) = some (arrV (E.cA 2) N (fun j => .int (va_up f i.toNatClampNeg x j)))
    rw [arrV_store]
    congr 2
    funext j
    by_cases hj : j = i.toNatClampNeg <;> simp [updV, va_up, hj]
  · rcases List.mem_append.mp hl' with h' | h'
    · exact hf l h'
    · rw [List.mem_singleton.mp h']; exact (hR.2.2 a _ hs).1
/-! the script and the two tables of steps -/
theorem zj_sald (k : Nat) {i : Int32} (h : Y.rows[k]? = some (pc, .iaload, q, u, v, w)) (hq : pc + 1 = q) (hin : vp_in i E.L) (kk : zJ E Y R fin n cells slots σ q L (.int (E.xs i.toNatClampNeg) :: rest)) : zJ E Y R fin n cells slots σ pc L (.int i :: .ref E.b :: rest) := by
  intro p e s m args below meth c H locs ls C hR hf hl
  subst hq
  have hlt : i.toNatClampNeg < E.L := Nat.not_le.mp fun q => hin (Or.inr q)
  obtain ⟨⟨scr, h1, h2, h3, h4, h5⟩, hb, -⟩ := C.2.2.2.2.2.2.2.1.2.2.2
  exact W.iald (v := .int (E.xs i.toNatClampNeg)) C.1 C.2.1 ((hR.2.1 _ hb).trans h1) h2 h3 (by rw [h4]; exact hin) (h5 _ hlt) rfl rfl (zdec C.2.2.2.2.2.2.2.2.2 h rfl).1 (kk p e s m args below meth c H locs ls C hR hf hl)
theorem zj_slen (k : Nat) (h : Y.rows[k]? = some (pc, .arraylength, q, u, v, w)) (hq : pc + 1 = q) (kk : zJ E Y R fin n cells slots σ q L (.int (Int32.ofNat E.L) :: rest)) : zJ E Y R fin n cells slots σ pc L (.ref E.b :: rest) := by
  intro p e s m args below meth c H locs ls C hR hf hl
  subst hq
  obtain ⟨⟨scr, h1, h2, h3, h4, h5⟩, hb, -⟩ := C.2.2.2.2.2.2.2.1.2.2.2
  exact W.alen (n := Int32.ofNat E.L) C.1 C.2.1 ((hR.2.1 _ hb).trans h1) h2 (by rw [h4] <;> rfl) rfl rfl (zdec C.2.2.2.2.2.2.2.2.2 h rfl).1 (kk p e s m args below meth c H locs ls C hR hf hl)
theorem zj_tald1 (k : Nat) {i : Int32} (h : Y.rows[k]? = some (pc, .iaload, q, u, v, w)) (hq : pc + 1 = q) (hin : vp_in i 5) (kk : zJ E Y R fin n cells slots σ q L (.int (zrs i.toNatClampNeg) :: rest)) : zJ E Y R fin n cells slots σ pc L (.int i :: .ref E.t1 :: rest) := by
  intro p e s m args below meth c H locs ls C hR hf hl
  subst hq
  have hlt : i.toNatClampNeg < 5 := Nat.not_le.mp fun q => hin (Or.inr q)
  obtain ⟨-, -, ⟨-, cell, h1, h2, h3, h4, h5, h6, h7⟩, -⟩ := C.2.2.2.2.2.2.2.1.2.2.2
  exact W.iald (v := .int (zrs i.toNatClampNeg)) C.1 C.2.1 ((hR.2.1 _ (Nat.not_le.mp h7)).trans h1) h2 h3 (fun hh => hin (hh.imp id fun g => by omega)) (h6 _ hlt) rfl rfl (zdec C.2.2.2.2.2.2.2.2.2 h rfl).1 (kk p e s m args below meth c H locs ls C hR hf hl)
theorem zj_tald2 (k : Nat) {i : Int32} (h : Y.rows[k]? = some (pc, .iaload, q, u, v, w)) (hq : pc + 1 = q) (hin : vp_in i 5) (kk : zJ E Y R fin n cells slots σ q L (.int (zcs i.toNatClampNeg) :: rest)) : zJ E Y R fin n cells slots σ pc L (.int i :: .ref E.t2 :: rest) := by
  intro p e s m args below meth c H locs ls C hR hf hl
  subst hq
  have hlt : i.toNatClampNeg < 5 := Nat.not_le.mp fun q => hin (Or.inr q)
  obtain ⟨-, -, -, -, cell, h1, h2, h3, h4, h5, h6, h7⟩ := C.2.2.2.2.2.2.2.1.2.2.2
  exact W.iald (v := .int (zcs i.toNatClampNeg)) C.1 C.2.1 ((hR.2.1 _ (Nat.not_le.mp h7)).trans h1) h2 h3 (fun hh => hin (hh.imp id fun g => by omega)) (h6 _ hlt) rfl rfl (zdec C.2.2.2.2.2.2.2.2.2 h rfl).1 (kk p e s m args below meth c H locs ls C hR hf hl)
theorem zj_gets1 (k : Nat) (h : Y.rows[k]? = some (pc, .getstatic 38, q, u, v, w)) (hq : pc + 3 = q) (ho : Y.oc = 4) (kk : zJ E Y R fin n cells slots σ q L (.ref E.t1 :: rest)) : zJ E Y R fin n cells slots σ pc L rest := by
  intro p e s m args below meth c H locs ls C hR hf hl
  subst hq
  obtain ⟨-, -, ⟨⟨cf, kf, fi, f, a, cell, h1, h2, h3, h4, h5, h6, h7, h8⟩, -⟩, -⟩ := C.2.2.2.2.2.2.2.1.2.2.2
  have hlink := C.2.2.2.2.2.2.1 (.fieldLink "DiscLines$Picture" 38 "DiscLines$Picture" "ROW_STEPS" "[I") (zt 372 (by decide +kernel) rfl)
  have hown := C.2.2.2.2.2.1
  rw [ho] at hown
  exact W.gets C.1 C.2.1 hown hlink h1 h2 h3 h4 ((hR.2.1 _ (Nat.not_le.mp h8)).trans h5) (fun e => by rw [e] at h6; cases h6) h7 rfl (zdec C.2.2.2.2.2.2.2.2.2 h rfl).1 (kk p e s m args below meth c H locs ls C hR hf hl)
theorem zj_gets2 (k : Nat) (h : Y.rows[k]? = some (pc, .getstatic 41, q, u, v, w)) (hq : pc + 3 = q) (ho : Y.oc = 4) (kk : zJ E Y R fin n cells slots σ q L (.ref E.t2 :: rest)) : zJ E Y R fin n cells slots σ pc L rest := by
  intro p e s m args below meth c H locs ls C hR hf hl
  subst hq
  obtain ⟨-, -, -, ⟨cf, kf, fi, f, a, cell, h1, h2, h3, h4, h5, h6, h7, h8⟩, -⟩ := C.2.2.2.2.2.2.2.1.2.2.2
  have hlink := C.2.2.2.2.2.2.1 (.fieldLink "DiscLines$Picture" 41 "DiscLines$Picture" "COLUMN_STEPS" "[I") (zt 374 (by decide +kernel) rfl)
  have hown := C.2.2.2.2.2.1
  rw [ho] at hown
  exact W.gets C.1 C.2.1 hown hlink h1 h2 h3 h4 ((hR.2.1 _ (Nat.not_le.mp h8)).trans h5) (fun e => by rw [e] at h6; cases h6) h7 rfl (zdec C.2.2.2.2.2.2.2.2.2 h rfl).1 (kk p e s m args below meth c H locs ls C hR hf hl)
end
end
section
/-! returns, contracts, calls -/
def zQc (E : zE) (Q : Option Value → Nat → zH → Prop) : Array Value → State → Outcome → State → Prop := fun _ _ o t => ∃ (r : Option Value) (n' : Nat) (σ' : zH), o = .returned r ∧ Q r n' σ' ∧ zR E n' σ' t.heap
def zfin (E : zE) (Q : Option Value → Nat → zH → Prop) (mc ms : Nat) : zF := fun below args s => MQ below (zQc E Q) args s mc ms (fun q => E.z ≤ q)
def zMet (E : zE) (Y : zY) (R : Room) (mc ms : Nat) (av : List Value) (n : Nat) (σ : zH) (Q : Option Value → Nat → zH → Prop) : Prop :=
  Met E.l Y.nm (.code Y.nm Y.code Y.nL Y.ret :: zTbl) R (fun v U => v = av.toArray ∧ zR E n σ U.heap ∧ zK E U) (zQc E Q) mc ms (fun q => E.z ≤ q)
def zen : Nat → List Value → List (Option Value)
  | n, [] => List.replicate n none
  | n, .long x :: vs => some (.long x) :: none :: zen (n - 2) vs
  | n, .double x :: vs => some (.double x) :: none :: zen (n - 2) vs
  | n, v :: vs => some v :: zen (n - 1) vs
theorem zlv_none (n k : Nat) : zlv k (List.replicate n none) = [] := by
  induction n generalizing k with
  | zero => rfl
  | succ n ih => simp only [List.replicate_succ, zlv]; exact ih (k + 1)
theorem zen_sub (vs : List Value) : ∀ (n k : Nat) (q : Nat × Value), q ∈ zlv k (zen n vs) → q ∈ lv_args k vs := by
  induction vs with
  | nil => intro n k q h; simp [zen, zlv_none] at h
  | cons v vs ih =>
    intro n k q h
    cases v with
    | long x =>
      simp only [zen, zlv, List.mem_cons] at h
      rcases h with h | h
      · exact List.mem_cons.mpr (Or.inl h)
      · exact List.mem_cons.mpr (Or.inr (ih _ _ _ h))
    | double x =>
      simp only [zen, zlv, List.mem_cons] at h
      rcases h with h | h
      · exact List.mem_cons.mpr (Or.inl h)
      · exact List.mem_cons.mpr (Or.inr (ih _ _ _ h))
    | _ =>
      simp only [zen, zlv, List.mem_cons] at h
      rcases h with h | h
      · exact List.mem_cons.mpr (Or.inl h)
      · exact List.mem_cons.mpr (Or.inr (ih _ _ _ h))
section
variable {E : zE} {Y : zY} {R : Room} {fin : zF} {n cells slots : Nat} {σ : zH} {pc q u v : Nat} {w : Int} {L : List (Option Value)} {rest : List Value} {Q : Option Value → Nat → zH → Prop}
theorem zj_ireturn (k : Nat) {x : Int32} (h : Y.rows[k]? = some (pc, .ireturn, q, u, v, w)) (hq : pc + 1 = q) (hr : Y.ret = some .int) (hQ : Q (some (.int x)) n σ) : zJ E Y R (zfin E Q cells slots) n cells slots σ pc L [.int x] := by
  intro p e s m args below meth c H locs ls C hR hf hl
  subst hq
  have hlocks := C.2.2.2.2.1
  exact W.iret C.1 C.2.1 (C.2.2.2.1.trans hr) (fun t ht _ => ⟨_, n, σ, rfl, hQ, by rw [ht]; exact hR⟩) hf (zdec C.2.2.2.2.2.2.2.2.2 h rfl).1
theorem zj_zreturn (k : Nat) {x : Int32} (h : Y.rows[k]? = some (pc, .ireturn, q, u, v, w)) (hq : pc + 1 = q) (hr : Y.ret = some .boolean) (hn : narrow .boolean (.int x) = .int x) (hQ : Q (some (.int x)) n σ) : zJ E Y R (zfin E Q cells slots) n cells slots σ pc L [.int x] := by
  intro p e s m args below meth c H locs ls C hR hf hl
  subst hq
  have hlocks := C.2.2.2.2.1
  exact W.zret C.1 C.2.1 (C.2.2.2.1.trans hr) hn (fun t ht _ => ⟨_, n, σ, rfl, hQ, by rw [ht]; exact hR⟩) hf (zdec C.2.2.2.2.2.2.2.2.2 h rfl).1
theorem zj_lreturn (k : Nat) {x : Int64} (h : Y.rows[k]? = some (pc, .lreturn, q, u, v, w)) (hq : pc + 1 = q) (hr : Y.ret = some .long) (hQ : Q (some (.long x)) n σ) : zJ E Y R (zfin E Q cells slots) n cells slots σ pc L [.long x] := by
  intro p e s m args below meth c H locs ls C hR hf hl
  subst hq
  have hlocks := C.2.2.2.2.1
  exact W.lret C.1 C.2.1 (C.2.2.2.1.trans hr) (fun t ht _ => ⟨_, n, σ, rfl, hQ, by rw [ht]; exact hR⟩) hf (zdec C.2.2.2.2.2.2.2.2.2 h rfl).1
theorem zj_return (k : Nat) (h : Y.rows[k]? = some (pc, .return_, q, u, v, w)) (hq : pc + 1 = q) (hr : Y.ret = none) (hQ : Q none n σ) : zJ E Y R (zfin E Q cells slots) n cells slots σ pc L [] := by
  intro p e s m args below meth c H locs ls C hR hf hl
  subst hq
  have hlocks := C.2.2.2.2.1
  exact W.vret C.1 C.2.1 (C.2.2.2.1.trans hr) (fun t ht _ => ⟨_, n, σ, rfl, hQ, by rw [ht]; exact hR⟩) hf (zdec C.2.2.2.2.2.2.2.2.2 h rfl).1
theorem zMet.of {mc ms : Nat} {av : List Value} (ok : zok Y) (hp : plainName Y.nm.cls = true) (hc : Y.nm.cls = zcn Y.oc) (hn : (lg_sl av).length ≤ Y.nL) (body : zJ E Y R (zfin E Q mc ms) n 0 0 σ 0 (zen Y.nL av) []) : zMet E Y R mc ms av n σ Q := by
  refine Met.ofW (cc := Y.code) (maxL := Y.nL) (ret := Y.ret) hp rfl ?_
  intro p e s m args below meth c s₁ B hml hv
  obtain ⟨rfl, hR, hK⟩ := hv
  have hts := atoms_spec (ws := Cond.code Y.nm Y.code Y.nL Y.ret :: zTbl) B.pre
  have hown : s.vm.findClass Y.nm.cls = some m.cls := findClass_of_methodNamed B.named
  rw [hc] at hown
  have hl := lv_entry av (n := Y.nL) hn
  rw [lg_entry_eq]
  exact body p e s m _ below meth c s.heap [] _ ⟨B.exec, B.bytes, hml, B.returns, B.notSynchronized, hown, fun w hw => hts w (List.mem_cons_of_mem _ hw), hK, (name_of_methodNamed B.named B.method).1, ok⟩ hR (fun _ h => by cases h) (zhas_mono hl (fun q hq => zen_sub av _ _ q hq))
end
/-! calls -/
def zLk (oc idx : Nat) (y : MethodName) : Prop := Cond.methodLink (zcn oc) idx y ∈ zTbl ∨ (oc, idx, y) ∈ zNest
def zCk (Y : zY) (n : Nat) : Prop := (Cond.code Y.nm Y.code Y.nL Y.ret) ∈ zTbl ∧ Cond.initialized Y.nm.cls ∈ zTbl ∧ (Y.nm.cls ≠ "java/lang/invoke/MethodHandle" ∧ Y.nm.cls ≠ "java/lang/invoke/VarHandle" ∧ (parseMethodDescriptor Y.nm.desc).map (fun d => d.parameters.length) = some n)
def zCkS (Y : zY) (n : Nat) : Prop := zCk Y n ∧ Cond.static Y.nm ∈ zTbl
def zCkV (Y : zY) (n ci : Nat) : Prop := zCk Y n ∧ Cond.instanceMethod Y.nm ∈ zTbl ∧ Cond.selects (zcn ci) Y.nm Y.nm ∈ zTbl ∧ ci < 9
def zCkI (Y : zY) (n : Nat) : Prop := zCk Y n ∧ Cond.instanceMethod Y.nm ∈ zTbl ∧ Y.nm.name = "<init>" ∧ Y.ret = none
theorem zgood (Y : zY) (h : (Cond.code Y.nm Y.code Y.nL Y.ret) ∈ zTbl) : GoodIn zTbl (Cond.code Y.nm Y.code Y.nL Y.ret :: zTbl) := by
  intro w hw
  have hm : w ∈ zTbl := by
    rcases List.mem_cons.mp hw with rfl | hw
    · exact h
    · exact hw
  exact ⟨hm, good_of_word (zgw hm)⟩
def zRf (R R' : Room) (nL cells slots mc ms : Nat) : Prop := (R'.cells = mc ∧ R'.slots = ms) ∧ (R'.frames + 1 ≤ R.frames ∧ 8 + (nL + 11) + R'.locals ≤ R.locals) ∧ (cells + mc ≤ R.cells ∧ slots + ms ≤ R.slots)
section
variable {E : zE} {Y Yc : zY} {R R' : Room} {fin : zF} {n cells slots mc ms : Nat} {σ : zH} {pc q u v idx : Nat} {w : Int} {L : List (Option Value)} {rest st as : List Value} {Q : Option Value → Nat → zH → Prop}
theorem zblind (n : Nat) (σ : zH) (av : List Value) : FrameBlind (fun (v : Array Value) (U : State) => v = av.toArray ∧ zR E n σ U.heap ∧ zK E U) := fun a U g mk h => ⟨h.1, h.2.1, h.2.2.calling g mk a⟩
theorem zafter {p : Program} {e : Env} {s : State} {m : MethodId} {args : Array Value} {below : List Frame} {meth : Method} {c : Code} {H : Heap} {locs : List Loc} {ls : Array Slot} {a : Array Value}
    (run : va_Run p E.l e R s m args below meth c H locs cells slots mc ms (F0 m pc ls st) rest (zQc E Q a) (fun q => E.z ≤ q)) (C : zCx E Y p s m args meth c) (hf : ∀ q ∈ locs, E.z ≤ q.base) (hl : lv_has ls Y.nL (zlv 0 L)) (hq : pc + 3 = q)
    (kk : ∀ r n' σ', Q r n' σ' → zJ E Y R fin n' (cells + mc) (slots + ms) σ' q L (r.toList ++ rest)) : W p E.l e R s m args below meth c H locs cells slots (fin below args s) (F0 m pc ls st) := by
  subst hq
  intro T hT X
  obtain ⟨v, st₀, t, T', Lc, h0, X', hL, e1, e2, ⟨r, n', σ', hv, hQ, hR'⟩, go⟩ := run T hT X
  cases hv
  obtain ⟨t2, a1, b1⟩ := kk v n' σ' hQ p e s m args below meth c T'.heap (locs ++ Lc) ls C (by rw [e1]; exact hR') (fun q hq => (List.mem_append.mp hq).elim (hf q) (hL q)) hl T' rfl X'
  exact ⟨t2, go t2 a1, b1⟩
theorem zj_cs (k : Nat) (h : Y.rows[k]? = some (pc, .invokestatic idx, q, u, v, w)) (hq : pc + 3 = q) (lk : zLk Y.oc idx Yc.nm) {nn : Nat} (ck : zCkS Yc nn) (hM : zMet E Yc R' mc ms as n σ Q) (hst : st = as.reverse ++ rest) (hn : as.length = nn) (hrest : (rest.map fun v => v.category).sum ≤ 8) (hRm : zRf R R' Yc.nL cells slots mc ms)
    (kk : ∀ r n' σ', Q r n' σ' → zJ E Y R fin n' (cells + mc) (slots + ms) σ' q L (r.toList ++ rest)) : zJ E Y R fin n cells slots σ pc L st := by
  intro p e s m args below meth c H locs ls C hR hf hl
  have hts := C.2.2.2.2.2.2.1
  have hd := (zdec C.2.2.2.2.2.2.2.2.2 h hq).1
  have hK := C.2.2.2.2.2.2.2.1
  have hpre : PreS s H (fun (v : Array Value) (U : State) => v = as.toArray ∧ zR E n σ U.heap ∧ zK E U) as := ⟨zblind n σ as, fun U hU hW => ⟨rfl, by rw [hU]; exact hR, hK.warm hW⟩⟩
  refine zafter (a := as.toArray) ?_ C hf hl hq kk
  rcases lk with lk | lk
  · exact va_runS ⟨C.1, C.2.1, C.2.2.1, C.2.2.2.2.2.1, hts⟩ hM ⟨callB_of nn hts (zgood Yc ck.1.1) rfl hRm.1.1 hRm.1.2 (hts _ ck.1.2.1) (hts _ lk) ck.1.2.2 hRm.2.1, hts _ ck.2⟩ hpre rfl hn hl.1 hst (lv_room hrest) hd hRm.2.2
  · exact va_runSN ⟨C.1, C.2.1, C.2.2.1, C.2.2.2.2.2.1, hts⟩ hM ⟨va_cnB nn hts (zgood Yc ck.1.1) rfl hRm.1.1 hRm.1.2 (hK.2.1 _ lk) (hts _ ck.1.2.1) ck.1.2.2 hRm.2.1, hts _ ck.2, trivial⟩ hpre rfl hn hl.1 hst (lv_room hrest) hd hRm.2.2
theorem zj_cv (k : Nat) {b ci : Nat} {fs : List Value} (h : Y.rows[k]? = some (pc, .invokevirtual idx, q, u, v, w)) (hq : pc + 3 = q) (lk : zLk Y.oc idx Yc.nm) {nn : Nat} (ck : zCkV Yc nn ci) (hs : σ b = some (.inr (ci, fs))) (hM : zMet E Yc R' mc ms (.ref b :: as) n σ Q) (hst : st = as.reverse ++ .ref b :: rest) (hn : as.length = nn) (hrest : (rest.map fun v => v.category).sum ≤ 8) (hRm : zRf R R' Yc.nL cells slots mc ms)
    (kk : ∀ r n' σ', Q r n' σ' → zJ E Y R fin n' (cells + mc) (slots + ms) σ' q L (r.toList ++ rest)) : zJ E Y R fin n cells slots σ pc L st := by
  intro p e s m args below meth c H locs ls C hR hf hl
  have hts := C.2.2.2.2.2.2.1
  have hd := (zdec C.2.2.2.2.2.2.2.2.2 h hq).1
  have hK := C.2.2.2.2.2.2.2.1
  obtain ⟨hk0, hin, hsel, hci⟩ := ck
  have hrecv : ∃ cellB : Cell, H[b]? = some cellB ∧ cellB.vm.isStatics = false ∧ s.vm.findClass (zcn ci) = some cellB.cls := by
    obtain ⟨r, hr1, cell, q1, q2, q3, -⟩ := hR.at hs
    exact ⟨cell, q1, by rw [q3]; rfl, by rw [q2]; exact (hK.1.1 ci _ (zcl_at hci)).2.1⟩
  have hpre : PreV s H (zcn ci) b (fun (v : Array Value) (U : State) => v = (Value.ref b :: as).toArray ∧ zR E n σ U.heap ∧ zK E U) as := ⟨zblind n σ (.ref b :: as), hrecv, fun U hU hW => ⟨rfl, by rw [hU]; exact hR, hK.warm hW⟩⟩
  refine zafter (a := (Value.ref b :: as).toArray) ?_ C hf hl hq kk
  rcases lk with lk | lk
  · exact va_runV ⟨C.1, C.2.1, C.2.2.1, C.2.2.2.2.2.1, hts⟩ hM ⟨callB_of nn hts (zgood Yc hk0.1) rfl hRm.1.1 hRm.1.2 (hts _ hk0.2.1) (hts _ lk) hk0.2.2 hRm.2.1, hts _ hin, hts _ hsel⟩ hpre rfl hn hl.1 hst (lv_room hrest) hd hRm.2.2
  · exact va_runVN ⟨C.1, C.2.1, C.2.2.1, C.2.2.2.2.2.1, hts⟩ hM ⟨va_cnB nn hts (zgood Yc hk0.1) rfl hRm.1.1 hRm.1.2 (hK.2.1 _ lk) (hts _ hk0.2.1) hk0.2.2 hRm.2.1, hts _ hin, hts _ hsel⟩ hpre rfl hn hl.1 hst (lv_room hrest) hd hRm.2.2
theorem zj_ci (k : Nat) {b : Nat} (h : Y.rows[k]? = some (pc, .invokespecial idx, q, u, v, w)) (hq : pc + 3 = q) (lk : zLk Y.oc idx Yc.nm) {nn : Nat} (ck : zCkI Yc nn) (hM : zMet E Yc R' mc ms (.ref b :: as) n σ Q) (hst : st = as.reverse ++ .ref b :: rest) (hn : as.length = nn) (hrest : (rest.map fun v => v.category).sum ≤ 8) (hRm : zRf R R' Yc.nL cells slots mc ms)
    (kk : ∀ r n' σ', Q r n' σ' → zJ E Y R fin n' (cells + mc) (slots + ms) σ' q L (r.toList ++ rest)) : zJ E Y R fin n cells slots σ pc L st := by
  intro p e s m args below meth c H locs ls C hR hf hl
  have hts := C.2.2.2.2.2.2.1
  have hd := (zdec C.2.2.2.2.2.2.2.2.2 h hq).1
  have hK := C.2.2.2.2.2.2.2.1
  obtain ⟨hk0, hin, hinit, hret⟩ := ck
  have hpre : PreS s H (fun (v : Array Value) (U : State) => v = (Value.ref b :: as).toArray ∧ zR E n σ U.heap ∧ zK E U) (.ref b :: as) := ⟨zblind n σ (.ref b :: as), fun U hU hW => ⟨rfl, by rw [hU]; exact hR, hK.warm hW⟩⟩
  have hg := zgood Yc hk0.1
  have hM' : Met E.l Yc.nm (.code Yc.nm Yc.code Yc.nL none :: zTbl) R' (fun v U => v = (Value.ref b :: as).toArray ∧ zR E n σ U.heap ∧ zK E U) (zQc E Q) mc ms (fun q => E.z ≤ q) := by rw [← hret]; exact hM
  rw [hret] at hg
  refine zafter (a := (Value.ref b :: as).toArray) ?_ C hf hl hq kk
  rcases lk with lk | lk
  · exact va_runI ⟨C.1, C.2.1, C.2.2.1, C.2.2.2.2.2.1, hts⟩ hM' ⟨callB_of nn hts hg rfl hRm.1.1 hRm.1.2 (hts _ hk0.2.1) (hts _ lk) hk0.2.2 hRm.2.1, hinit, hts _ hin⟩ hpre rfl hn hl.1 hst (lv_room hrest) hd hRm.2.2
  · exact va_runIN ⟨C.1, C.2.1, C.2.2.1, C.2.2.2.2.2.1, hts⟩ hM' ⟨va_cnB nn hts hg rfl hRm.1.1 hRm.1.2 (hK.2.1 _ lk) (hts _ hk0.2.1) hk0.2.2 hRm.2.1, hinit, hts _ hin⟩ hpre rfl hn hl.1 hst (lv_room hrest) hd hRm.2.2
end
/-! contracts that make nothing and answer one thing -/
def zrm (d : Nat) : Room := { frames := d, cells := 0, slots := 0, locals := 64 * d }
def zM (E : zE) (Y : zY) (d : Nat) (av : List Value) (σ : zH) (r : Option Value) (σ' : zH) : Prop := ∀ n, zMet E Y (zrm d) 0 0 av n σ (fun r' n' s' => r' = r ∧ n' = n ∧ s' = σ')
abbrev zB (E : zE) (Y : zY) (d n : Nat) (r : Option Value) (σ' : zH) (σ : zH) (pc : Nat) (L : List (Option Value)) (st : List Value) : Prop := zJ E Y (zrm d) (zfin E (fun r' n' s' => r' = r ∧ n' = n ∧ s' = σ') 0 0) n 0 0 σ pc L st
section
variable {E : zE} {Y Yc : zY} {R : Room} {fin : zF} {n cells slots : Nat} {σ σ' : zH} {pc q u v idx : Nat} {w : Int} {L : List (Option Value)} {rest st as : List Value}
theorem zM.of {d : Nat} {av : List Value} {r : Option Value} (ok : zok Y) (hp : plainName Y.nm.cls = true) (hc : Y.nm.cls = zcn Y.oc) (hn : (lg_sl av).length.ble Y.nL = true) (body : ∀ n, zB E Y d n r σ' σ 0 (zen Y.nL av) []) : zM E Y d av σ r σ' := fun n => zMet.of ok hp hc (Nat.le_of_ble_eq_true hn) (body n)
def zRg (R : Room) (nL d cells slots : Nat) : Bool := (d + 1).ble R.frames && (nL + 19 + 64 * d).ble R.locals && cells.ble R.cells && slots.ble R.slots
theorem zRg_f {nL d : Nat} (h : zRg R nL d cells slots = true) : zRf R (zrm d) nL cells slots 0 0 := by
  unfold zRg at h
  simp only [Bool.and_eq_true] at h
  have h1 := Nat.le_of_ble_eq_true h.1.1.1
  have h2 := Nat.le_of_ble_eq_true h.1.1.2
  have h3 := Nat.le_of_ble_eq_true h.1.2
  have h4 := Nat.le_of_ble_eq_true h.2
  exact ⟨⟨rfl, rfl⟩, ⟨h1, by show 8 + (nL + 11) + 64 * d ≤ _; omega⟩, by omega, by omega⟩
theorem zj_csx (k : Nat) {d nn : Nat} {x : Value} (h : Y.rows[k]? = some (pc, .invokestatic idx, q, u, v, w)) (hq : pc + 3 = q) (lk : zLk Y.oc idx Yc.nm) (ck : zCkS Yc nn) (hM : zM E Yc d as σ (some x) σ') (hst : st = as.reverse ++ rest) (hn : as.length = nn) (hrest : ((rest.map Value.category).sum).ble 8 = true) (hRm : zRg R Yc.nL d cells slots = true) (kk : zJ E Y R fin n cells slots σ' q L (x :: rest)) : zJ E Y R fin n cells slots σ pc L st :=
  zj_cs k h hq lk ck (hM n) hst hn (Nat.le_of_ble_eq_true hrest) (zRg_f hRm) (fun r n' s' hQ => by obtain ⟨rfl, rfl, rfl⟩ := hQ; exact kk)
theorem zj_csv (k : Nat) {d nn : Nat} (h : Y.rows[k]? = some (pc, .invokestatic idx, q, u, v, w)) (hq : pc + 3 = q) (lk : zLk Y.oc idx Yc.nm) (ck : zCkS Yc nn) (hM : zM E Yc d as σ none σ') (hst : st = as.reverse ++ rest) (hn : as.length = nn) (hrest : ((rest.map Value.category).sum).ble 8 = true) (hRm : zRg R Yc.nL d cells slots = true) (kk : zJ E Y R fin n cells slots σ' q L rest) : zJ E Y R fin n cells slots σ pc L st :=
  zj_cs k h hq lk ck (hM n) hst hn (Nat.le_of_ble_eq_true hrest) (zRg_f hRm) (fun r n' s' hQ => by obtain ⟨rfl, rfl, rfl⟩ := hQ; exact kk)
theorem zj_cvx (k : Nat) {d nn ci b : Nat} {fs : List Value} {x : Value} (h : Y.rows[k]? = some (pc, .invokevirtual idx, q, u, v, w)) (hq : pc + 3 = q) (lk : zLk Y.oc idx Yc.nm) (ck : zCkV Yc nn ci) (hM : zM E Yc d (.ref b :: as) σ (some x) σ') (hst : st = as.reverse ++ .ref b :: rest) (hs : σ b = some (.inr (ci, fs))) (hn : as.length = nn) (hrest : ((rest.map Value.category).sum).ble 8 = true) (hRm : zRg R Yc.nL d cells slots = true) (kk : zJ E Y R fin n cells slots σ' q L (x :: rest)) : zJ E Y R fin n cells slots σ pc L st :=
  zj_cv k h hq lk ck hs (hM n) hst hn (Nat.le_of_ble_eq_true hrest) (zRg_f hRm) (fun r n' s' hQ => by obtain ⟨rfl, rfl, rfl⟩ := hQ; exact kk)
theorem zj_cvv (k : Nat) {d nn ci b : Nat} {fs : List Value} (h : Y.rows[k]? = some (pc, .invokevirtual idx, q, u, v, w)) (hq : pc + 3 = q) (lk : zLk Y.oc idx Yc.nm) (ck : zCkV Yc nn ci) (hM : zM E Yc d (.ref b :: as) σ none σ') (hst : st = as.reverse ++ .ref b :: rest) (hs : σ b = some (.inr (ci, fs))) (hn : as.length = nn) (hrest : ((rest.map Value.category).sum).ble 8 = true) (hRm : zRg R Yc.nL d cells slots = true) (kk : zJ E Y R fin n cells slots σ' q L rest) : zJ E Y R fin n cells slots σ pc L st :=
  zj_cv k h hq lk ck hs (hM n) hst hn (Nat.le_of_ble_eq_true hrest) (zRg_f hRm) (fun r n' s' hQ => by obtain ⟨rfl, rfl, rfl⟩ := hQ; exact kk)
end
end
section
def rBk_init : List zRow := [(0, .aload_n 0, 1, 0, 0, 0),
  (1, .invokespecial 3, 4, 0, 0, 0),
  (4, .aload_n 0, 5, 0, 0, 0),
  (5, .bipush 8, 7, 0, 0, 0),
  (7, .newarray .int, 9, 0, 0, 0),
  (9, .putfield 9, 12, 0, 0, 0),
  (12, .aload_n 0, 13, 0, 0, 0),
  (13, .bipush 8, 15, 0, 0, 0),
  (15, .newarray .int, 17, 0, 0, 0),
  (17, .putfield 15, 20, 0, 1, 0),
  (20, .aload_n 0, 21, 0, 0, 0),
  (21, .bipush 16, 23, 0, 0, 0),
  (23, .newarray .int, 25, 0, 0, 0),
  (25, .putfield 18, 28, 0, 3, 0),
  (28, .aload_n 0, 29, 0, 0, 0),
  (29, .bipush 16, 31, 0, 0, 0),
  (31, .newarray .int, 33, 0, 0, 0),
  (33, .putfield 21, 36, 0, 4, 0),
  (36, .aload_n 0, 37, 0, 0, 0),
  (37, .bipush 16, 39, 0, 0, 0),
  (39, .newarray .int, 41, 0, 0, 0),
  (41, .putfield 24, 44, 0, 5, 0),
  (44, .aload_n 0, 45, 0, 0, 0),
  (45, .bipush 60, 47, 0, 0, 0),
  (47, .newarray .int, 49, 0, 0, 0),
  (49, .putfield 27, 52, 0, 7, 0),
  (52, .aload_n 0, 53, 0, 0, 0),
  (53, .bipush 60, 55, 0, 0, 0),
  (55, .newarray .int, 57, 0, 0, 0),
  (57, .putfield 30, 60, 0, 8, 0),
  (60, .aload_n 0, 61, 0, 0, 0),
  (61, .bipush 60, 63, 0, 0, 0),
  (63, .newarray .int, 65, 0, 0, 0),
  (65, .putfield 33, 68, 0, 9, 0),
  (68, .return_, 69, 0, 0, 0)]
def YBk_init : zY := (⟨"DiscLines$Book", "<init>", "()V"⟩, 0, prog_2_method_1_code, 1, none, rBk_init)
theorem oBk_init : zok YBk_init := (by decide +kernel : YBk_init.rows.all (zchk YBk_init) = true)
theorem ckBk_init : zCkI YBk_init 0 := ⟨⟨zt 155 (by decide +kernel) rfl, zt 75 (by decide +kernel) rfl, by decide +kernel⟩, zt 154 (by decide +kernel) rfl, rfl, rfl⟩
def rBk_addObserver : List zRow := [(0, .aload_n 0, 1, 0, 0, 0),
  (1, .getfield 36, 4, 0, 2, 0),
  (4, .bipush 8, 6, 0, 0, 0),
  (6, .invokestatic 40, 9, 0, 0, 0),
  (9, .ifCond .ne 6, 12, 15, 0, 0),
  (12, .bipush (-4), 14, 0, 0, 0),
  (14, .ireturn, 15, 0, 0, 0),
  (15, .aload_n 0, 16, 0, 0, 0),
  (16, .getfield 9, 19, 0, 0, 0),
  (19, .aload_n 0, 20, 0, 0, 0),
  (20, .getfield 36, 23, 0, 2, 0),
  (23, .iload_n 1, 24, 0, 0, 0),
  (24, .iastore, 25, 0, 0, 0),
  (25, .aload_n 0, 26, 0, 0, 0),
  (26, .getfield 15, 29, 0, 1, 0),
  (29, .aload_n 0, 30, 0, 0, 0),
  (30, .getfield 36, 33, 0, 2, 0),
  (33, .iload_n 2, 34, 0, 0, 0),
  (34, .iastore, 35, 0, 0, 0),
  (35, .aload_n 0, 36, 0, 0, 0),
  (36, .dup, 37, 0, 0, 0),
  (37, .getfield 36, 40, 0, 2, 0),
  (40, .iconst 1, 41, 0, 0, 0),
  (41, .iadd, 42, 0, 0, 0),
  (42, .putfield 36, 45, 0, 2, 0),
  (45, .aload_n 0, 46, 0, 0, 0),
  (46, .getfield 36, 49, 0, 2, 0),
  (49, .iconst 1, 50, 0, 0, 0),
  (50, .isub, 51, 0, 0, 0),
  (51, .ireturn, 52, 0, 0, 0)]
def YBk_addObserver : zY := (⟨"DiscLines$Book", "addObserver", "(II)I"⟩, 0, prog_2_method_2_code, 3, (some .int), rBk_addObserver)
theorem oBk_addObserver : zok YBk_addObserver := (by decide +kernel : YBk_addObserver.rows.all (zchk YBk_addObserver) = true)
theorem ckBk_addObserver : zCkV YBk_addObserver 2 0 := ⟨⟨zt 543 (by decide +kernel) rfl, zt 75 (by decide +kernel) rfl, by decide +kernel⟩, zt 541 (by decide +kernel) rfl, zt 542 (by decide +kernel) rfl, by decide⟩
def rBk_takesSheet : List zRow := [(0, .iload_n 1, 1, 0, 0, 0),
  (1, .aload_n 0, 2, 0, 0, 0),
  (2, .getfield 36, 5, 0, 2, 0),
  (5, .invokestatic 40, 8, 0, 0, 0),
  (8, .ifCond .eq 39, 11, 47, 0, 0),
  (11, .iload_n 2, 12, 0, 0, 0),
  (12, .sipush 1000, 15, 0, 0, 0),
  (15, .invokestatic 40, 18, 0, 0, 0),
  (18, .ifCond .eq 29, 21, 47, 0, 0),
  (21, .aload_n 0, 22, 0, 0, 0),
  (22, .getfield 44, 25, 0, 6, 0),
  (25, .ifCond .eq 18, 28, 43, 0, 0),
  (28, .iload_n 2, 29, 0, 0, 0),
  (29, .aload_n 0, 30, 0, 0, 0),
  (30, .getfield 21, 33, 0, 4, 0),
  (33, .aload_n 0, 34, 0, 0, 0),
  (34, .getfield 44, 37, 0, 6, 0),
  (37, .iconst 1, 38, 0, 0, 0),
  (38, .isub, 39, 0, 0, 0),
  (39, .iaload, 40, 0, 0, 0),
  (40, .if_icmp .lt 7, 43, 47, 0, 0),
  (43, .iconst 1, 44, 0, 0, 0),
  (44, .goto 4, 47, 48, 0, 0),
  (47, .iconst 0, 48, 0, 0, 0),
  (48, .ireturn, 49, 0, 0, 0)]
def YBk_takesSheet : zY := (⟨"DiscLines$Book", "takesSheet", "(II)Z"⟩, 0, prog_2_method_3_code, 3, (some .boolean), rBk_takesSheet)
theorem oBk_takesSheet : zok YBk_takesSheet := (by decide +kernel : YBk_takesSheet.rows.all (zchk YBk_takesSheet) = true)
theorem ckBk_takesSheet : zCkV YBk_takesSheet 2 0 := ⟨⟨zt 552 (by decide +kernel) rfl, zt 75 (by decide +kernel) rfl, by decide +kernel⟩, zt 550 (by decide +kernel) rfl, zt 551 (by decide +kernel) rfl, by decide⟩
def rBk_addSheet : List zRow := [(0, .aload_n 0, 1, 0, 0, 0),
  (1, .getfield 44, 4, 0, 6, 0),
  (4, .bipush 16, 6, 0, 0, 0),
  (6, .invokestatic 40, 9, 0, 0, 0),
  (9, .ifCond .ne 6, 12, 15, 0, 0),
  (12, .bipush (-4), 14, 0, 0, 0),
  (14, .ireturn, 15, 0, 0, 0),
  (15, .aload_n 0, 16, 0, 0, 0),
  (16, .getfield 18, 19, 0, 3, 0),
  (19, .aload_n 0, 20, 0, 0, 0),
  (20, .getfield 44, 23, 0, 6, 0),
  (23, .iload_n 1, 24, 0, 0, 0),
  (24, .iastore, 25, 0, 0, 0),
  (25, .aload_n 0, 26, 0, 0, 0),
  (26, .getfield 21, 29, 0, 4, 0),
  (29, .aload_n 0, 30, 0, 0, 0),
  (30, .getfield 44, 33, 0, 6, 0),
  (33, .iload_n 2, 34, 0, 0, 0),
  (34, .iastore, 35, 0, 0, 0),
  (35, .aload_n 0, 36, 0, 0, 0),
  (36, .getfield 24, 39, 0, 5, 0),
  (39, .aload_n 0, 40, 0, 0, 0),
  (40, .getfield 44, 43, 0, 6, 0),
  (43, .iload_n 3, 44, 0, 0, 0),
  (44, .iastore, 45, 0, 0, 0),
  (45, .aload_n 0, 46, 0, 0, 0),
  (46, .dup, 47, 0, 0, 0),
  (47, .getfield 44, 50, 0, 6, 0),
  (50, .iconst 1, 51, 0, 0, 0),
  (51, .iadd, 52, 0, 0, 0),
  (52, .putfield 44, 55, 0, 6, 0),
  (55, .aload_n 0, 56, 0, 0, 0),
  (56, .getfield 44, 59, 0, 6, 0),
  (59, .iconst 1, 60, 0, 0, 0),
  (60, .isub, 61, 0, 0, 0),
  (61, .ireturn, 62, 0, 0, 0)]
def YBk_addSheet : zY := (⟨"DiscLines$Book", "addSheet", "(III)I"⟩, 0, prog_2_method_4_code, 4, (some .int), rBk_addSheet)
theorem oBk_addSheet : zok YBk_addSheet := (by decide +kernel : YBk_addSheet.rows.all (zchk YBk_addSheet) = true)
theorem ckBk_addSheet : zCkV YBk_addSheet 3 0 := ⟨⟨zt 556 (by decide +kernel) rfl, zt 75 (by decide +kernel) rfl, by decide +kernel⟩, zt 554 (by decide +kernel) rfl, zt 555 (by decide +kernel) rfl, by decide⟩
def rBk_addShow : List zRow := [(0, .aload_n 0, 1, 0, 0, 0),
  (1, .getfield 47, 4, 0, 10, 0),
  (4, .bipush 60, 6, 0, 0, 0),
  (6, .invokestatic 40, 9, 0, 0, 0),
  (9, .ifCond .ne 6, 12, 15, 0, 0),
  (12, .bipush (-4), 14, 0, 0, 0),
  (14, .ireturn, 15, 0, 0, 0),
  (15, .aload_n 0, 16, 0, 0, 0),
  (16, .getfield 27, 19, 0, 7, 0),
  (19, .aload_n 0, 20, 0, 0, 0),
  (20, .getfield 47, 23, 0, 10, 0),
  (23, .iload_n 1, 24, 0, 0, 0),
  (24, .iastore, 25, 0, 0, 0),
  (25, .aload_n 0, 26, 0, 0, 0),
  (26, .getfield 30, 29, 0, 8, 0),
  (29, .aload_n 0, 30, 0, 0, 0),
  (30, .getfield 47, 33, 0, 10, 0),
  (33, .iload_n 2, 34, 0, 0, 0),
  (34, .iastore, 35, 0, 0, 0),
  (35, .aload_n 0, 36, 0, 0, 0),
  (36, .getfield 33, 39, 0, 9, 0),
  (39, .aload_n 0, 40, 0, 0, 0),
  (40, .getfield 47, 43, 0, 10, 0),
  (43, .iload_n 3, 44, 0, 0, 0),
  (44, .iastore, 45, 0, 0, 0),
  (45, .aload_n 0, 46, 0, 0, 0),
  (46, .dup, 47, 0, 0, 0),
  (47, .getfield 47, 50, 0, 10, 0),
  (50, .iconst 1, 51, 0, 0, 0),
  (51, .iadd, 52, 0, 0, 0),
  (52, .putfield 47, 55, 0, 10, 0),
  (55, .aload_n 0, 56, 0, 0, 0),
  (56, .getfield 47, 59, 0, 10, 0),
  (59, .ireturn, 60, 0, 0, 0)]
def YBk_addShow : zY := (⟨"DiscLines$Book", "addShow", "(III)I"⟩, 0, prog_2_method_5_code, 4, (some .int), rBk_addShow)
theorem oBk_addShow : zok YBk_addShow := (by decide +kernel : YBk_addShow.rows.all (zchk YBk_addShow) = true)
theorem ckBk_addShow : zCkV YBk_addShow 3 0 := ⟨⟨zt 581 (by decide +kernel) rfl, zt 75 (by decide +kernel) rfl, by decide +kernel⟩, zt 579 (by decide +kernel) rfl, zt 580 (by decide +kernel) rfl, by decide⟩
def rBk_sheetsShown : List zRow := [(0, .iconst 0, 1, 0, 0, 0),
  (1, .istore_n 3, 2, 0, 0, 0),
  (2, .iconst 0, 3, 0, 0, 0),
  (3, .istore 4, 5, 0, 0, 0),
  (5, .iload 4, 7, 0, 0, 0),
  (7, .aload_n 0, 8, 0, 0, 0),
  (8, .getfield 47, 11, 0, 10, 0),
  (11, .if_icmp .ge 43, 14, 54, 0, 0),
  (14, .aload_n 0, 15, 0, 0, 0),
  (15, .getfield 30, 18, 0, 8, 0),
  (18, .iload 4, 20, 0, 0, 0),
  (20, .iaload, 21, 0, 0, 0),
  (21, .iload_n 1, 22, 0, 0, 0),
  (22, .if_icmp .ne 26, 25, 48, 0, 0),
  (25, .aload_n 0, 26, 0, 0, 0),
  (26, .getfield 33, 29, 0, 9, 0),
  (29, .iload 4, 31, 0, 0, 0),
  (31, .iaload, 32, 0, 0, 0),
  (32, .iload_n 2, 33, 0, 0, 0),
  (33, .if_icmp .gt 15, 36, 48, 0, 0),
  (36, .iload_n 3, 37, 0, 0, 0),
  (37, .iconst 1, 38, 0, 0, 0),
  (38, .aload_n 0, 39, 0, 0, 0),
  (39, .getfield 27, 42, 0, 7, 0),
  (42, .iload 4, 44, 0, 0, 0),
  (44, .iaload, 45, 0, 0, 0),
  (45, .ishl, 46, 0, 0, 0),
  (46, .ior, 47, 0, 0, 0),
  (47, .istore_n 3, 48, 0, 0, 0),
  (48, .iinc 4 1, 51, 0, 0, 0),
  (51, .goto (-46), 54, 5, 0, 0),
  (54, .iload_n 3, 55, 0, 0, 0),
  (55, .ireturn, 56, 0, 0, 0)]
def YBk_sheetsShown : zY := (⟨"DiscLines$Book", "sheetsShown", "(II)I"⟩, 0, prog_2_method_6_code, 5, (some .int), rBk_sheetsShown)
theorem oBk_sheetsShown : zok YBk_sheetsShown := (by decide +kernel : YBk_sheetsShown.rows.all (zchk YBk_sheetsShown) = true)
theorem ckBk_sheetsShown : zCkV YBk_sheetsShown 2 0 := ⟨⟨zt 568 (by decide +kernel) rfl, zt 75 (by decide +kernel) rfl, by decide +kernel⟩, zt 567 (by decide +kernel) rfl, zt 18 (by decide +kernel) rfl, by decide⟩
def rBk_linesShown : List zRow := [(0, .aload_n 0, 1, 0, 0, 0),
  (1, .aload_n 0, 2, 0, 0, 0),
  (2, .iload_n 1, 3, 0, 0, 0),
  (3, .iload_n 2, 4, 0, 0, 0),
  (4, .invokevirtual 50, 7, 0, 0, 0),
  (7, .invokevirtual 54, 10, 0, 0, 0),
  (10, .ireturn, 11, 0, 0, 0)]
def YBk_linesShown : zY := (⟨"DiscLines$Book", "linesShown", "(II)I"⟩, 0, prog_2_method_7_code, 3, (some .int), rBk_linesShown)
theorem oBk_linesShown : zok YBk_linesShown := (by decide +kernel : YBk_linesShown.rows.all (zchk YBk_linesShown) = true)
theorem ckBk_linesShown : zCkV YBk_linesShown 2 0 := ⟨⟨zt 564 (by decide +kernel) rfl, zt 75 (by decide +kernel) rfl, by decide +kernel⟩, zt 562 (by decide +kernel) rfl, zt 563 (by decide +kernel) rfl, by decide⟩
def rBk_linesShownBefore : List zRow := [(0, .aload_n 0, 1, 0, 0, 0),
  (1, .aload_n 0, 2, 0, 0, 0),
  (2, .getfield 18, 5, 0, 3, 0),
  (5, .iload_n 1, 6, 0, 0, 0),
  (6, .iaload, 7, 0, 0, 0),
  (7, .aload_n 0, 8, 0, 0, 0),
  (8, .getfield 21, 11, 0, 4, 0),
  (11, .iload_n 1, 12, 0, 0, 0),
  (12, .iaload, 13, 0, 0, 0),
  (13, .invokevirtual 58, 16, 0, 0, 0),
  (16, .ireturn, 17, 0, 0, 0)]
def YBk_linesShownBefore : zY := (⟨"DiscLines$Book", "linesShownBefore", "(I)I"⟩, 0, prog_2_method_8_code, 2, (some .int), rBk_linesShownBefore)
theorem oBk_linesShownBefore : zok YBk_linesShownBefore := (by decide +kernel : YBk_linesShownBefore.rows.all (zchk YBk_linesShownBefore) = true)
theorem ckBk_linesShownBefore : zCkV YBk_linesShownBefore 1 0 := ⟨⟨zt 589 (by decide +kernel) rfl, zt 75 (by decide +kernel) rfl, by decide +kernel⟩, zt 587 (by decide +kernel) rfl, zt 588 (by decide +kernel) rfl, by decide⟩
def rBk_linesInSome : List zRow := [(0, .iconst 0, 1, 0, 0, 0),
  (1, .istore_n 2, 2, 0, 0, 0),
  (2, .iconst 0, 3, 0, 0, 0),
  (3, .istore_n 3, 4, 0, 0, 0),
  (4, .iload_n 3, 5, 0, 0, 0),
  (5, .aload_n 0, 6, 0, 0, 0),
  (6, .getfield 44, 9, 0, 6, 0),
  (9, .if_icmp .ge 26, 12, 35, 0, 0),
  (12, .iload_n 1, 13, 0, 0, 0),
  (13, .iload_n 3, 14, 0, 0, 0),
  (14, .invokestatic 61, 17, 0, 0, 0),
  (17, .ifCond .eq 12, 20, 29, 0, 0),
  (20, .iload_n 2, 21, 0, 0, 0),
  (21, .aload_n 0, 22, 0, 0, 0),
  (22, .getfield 24, 25, 0, 5, 0),
  (25, .iload_n 3, 26, 0, 0, 0),
  (26, .iaload, 27, 0, 0, 0),
  (27, .ior, 28, 0, 0, 0),
  (28, .istore_n 2, 29, 0, 0, 0),
  (29, .iinc 3 1, 32, 0, 0, 0),
  (32, .goto (-28), 35, 4, 0, 0),
  (35, .iload_n 2, 36, 0, 0, 0),
  (36, .ireturn, 37, 0, 0, 0)]
def YBk_linesInSome : zY := (⟨"DiscLines$Book", "linesInSome", "(I)I"⟩, 0, prog_2_method_9_code, 4, (some .int), rBk_linesInSome)
theorem oBk_linesInSome : zok YBk_linesInSome := (by decide +kernel : YBk_linesInSome.rows.all (zchk YBk_linesInSome) = true)
theorem ckBk_linesInSome : zCkV YBk_linesInSome 1 0 := ⟨⟨zt 572 (by decide +kernel) rfl, zt 75 (by decide +kernel) rfl, by decide +kernel⟩, zt 570 (by decide +kernel) rfl, zt 571 (by decide +kernel) rfl, by decide⟩
def rBk_linesInAll : List zRow := [(0, .ldc 64, 2, 0, 0, 268435455),
  (2, .istore_n 2, 3, 0, 0, 0),
  (3, .iconst 0, 4, 0, 0, 0),
  (4, .istore_n 3, 5, 0, 0, 0),
  (5, .iload_n 3, 6, 0, 0, 0),
  (6, .aload_n 0, 7, 0, 0, 0),
  (7, .getfield 44, 10, 0, 6, 0),
  (10, .if_icmp .ge 26, 13, 36, 0, 0),
  (13, .iload_n 1, 14, 0, 0, 0),
  (14, .iload_n 3, 15, 0, 0, 0),
  (15, .invokestatic 61, 18, 0, 0, 0),
  (18, .ifCond .eq 12, 21, 30, 0, 0),
  (21, .iload_n 2, 22, 0, 0, 0),
  (22, .aload_n 0, 23, 0, 0, 0),
  (23, .getfield 24, 26, 0, 5, 0),
  (26, .iload_n 3, 27, 0, 0, 0),
  (27, .iaload, 28, 0, 0, 0),
  (28, .iand, 29, 0, 0, 0),
  (29, .istore_n 2, 30, 0, 0, 0),
  (30, .iinc 3 1, 33, 0, 0, 0),
  (33, .goto (-28), 36, 5, 0, 0),
  (36, .iload_n 2, 37, 0, 0, 0),
  (37, .ireturn, 38, 0, 0, 0)]
def YBk_linesInAll : zY := (⟨"DiscLines$Book", "linesInAll", "(I)I"⟩, 0, prog_2_method_10_code, 4, (some .int), rBk_linesInAll)
theorem oBk_linesInAll : zok YBk_linesInAll := (by decide +kernel : YBk_linesInAll.rows.all (zchk YBk_linesInAll) = true)
theorem ckBk_linesInAll : zCkV YBk_linesInAll 1 0 := ⟨⟨zt 746 (by decide +kernel) rfl, zt 75 (by decide +kernel) rfl, by decide +kernel⟩, zt 744 (by decide +kernel) rfl, zt 745 (by decide +kernel) rfl, by decide⟩
def rBk_costOfOwn : List zRow := [(0, .aload_n 0, 1, 0, 0, 0),
  (1, .getfield 24, 4, 0, 5, 0),
  (4, .iload_n 1, 5, 0, 0, 0),
  (5, .iaload, 6, 0, 0, 0),
  (6, .invokestatic 65, 9, 0, 0, 0),
  (9, .iload_n 2, 10, 0, 0, 0),
  (10, .iadd, 11, 0, 0, 0),
  (11, .ireturn, 12, 0, 0, 0)]
def YBk_costOfOwn : zY := (⟨"DiscLines$Book", "costOfOwn", "(II)I"⟩, 0, prog_2_method_11_code, 3, (some .int), rBk_costOfOwn)
theorem oBk_costOfOwn : zok YBk_costOfOwn := (by decide +kernel : YBk_costOfOwn.rows.all (zchk YBk_costOfOwn) = true)
theorem ckBk_costOfOwn : zCkV YBk_costOfOwn 2 0 := ⟨⟨zt 637 (by decide +kernel) rfl, zt 75 (by decide +kernel) rfl, by decide +kernel⟩, zt 636 (by decide +kernel) rfl, zt 21 (by decide +kernel) rfl, by decide⟩
def rBk_costOfTaking : List zRow := [(0, .aload_n 0, 1, 0, 0, 0),
  (1, .getfield 24, 4, 0, 5, 0),
  (4, .iload_n 1, 5, 0, 0, 0),
  (5, .iaload, 6, 0, 0, 0),
  (6, .aload_n 0, 7, 0, 0, 0),
  (7, .getfield 24, 10, 0, 5, 0),
  (10, .iload_n 2, 11, 0, 0, 0),
  (11, .iaload, 12, 0, 0, 0),
  (12, .ixor, 13, 0, 0, 0),
  (13, .invokestatic 65, 16, 0, 0, 0),
  (16, .ireturn, 17, 0, 0, 0)]
def YBk_costOfTaking : zY := (⟨"DiscLines$Book", "costOfTaking", "(II)I"⟩, 0, prog_2_method_12_code, 3, (some .int), rBk_costOfTaking)
theorem oBk_costOfTaking : zok YBk_costOfTaking := (by decide +kernel : YBk_costOfTaking.rows.all (zchk YBk_costOfTaking) = true)
theorem ckBk_costOfTaking : zCkV YBk_costOfTaking 2 0 := ⟨⟨zt 642 (by decide +kernel) rfl, zt 75 (by decide +kernel) rfl, by decide +kernel⟩, zt 641 (by decide +kernel) rfl, zt 22 (by decide +kernel) rfl, by decide⟩
def rBk_leastCost : List zRow := [(0, .aload_n 0, 1, 0, 0, 0),
  (1, .aload_n 0, 2, 0, 0, 0),
  (2, .getfield 18, 5, 0, 3, 0),
  (5, .iload_n 1, 6, 0, 0, 0),
  (6, .iaload, 7, 0, 0, 0),
  (7, .aload_n 0, 8, 0, 0, 0),
  (8, .getfield 21, 11, 0, 4, 0),
  (11, .iload_n 1, 12, 0, 0, 0),
  (12, .iaload, 13, 0, 0, 0),
  (13, .invokevirtual 50, 16, 0, 0, 0),
  (16, .istore_n 3, 17, 0, 0, 0),
  (17, .aload_n 0, 18, 0, 0, 0),
  (18, .iload_n 1, 19, 0, 0, 0),
  (19, .iload_n 2, 20, 0, 0, 0),
  (20, .invokevirtual 70, 23, 0, 0, 0),
  (23, .istore 4, 25, 0, 0, 0),
  (25, .iconst 0, 26, 0, 0, 0),
  (26, .istore 5, 28, 0, 0, 0),
  (28, .iload 5, 30, 0, 0, 0),
  (30, .iload_n 1, 31, 0, 0, 0),
  (31, .if_icmp .ge 32, 34, 63, 0, 0),
  (34, .iload_n 3, 35, 0, 0, 0),
  (35, .iload 5, 37, 0, 0, 0),
  (37, .invokestatic 61, 40, 0, 0, 0),
  (40, .ifCond .eq 17, 43, 57, 0, 0),
  (43, .iload 4, 45, 0, 0, 0),
  (45, .aload_n 0, 46, 0, 0, 0),
  (46, .iload_n 1, 47, 0, 0, 0),
  (47, .iload 5, 49, 0, 0, 0),
  (49, .invokevirtual 73, 52, 0, 0, 0),
  (52, .invokestatic 76, 55, 0, 0, 0),
  (55, .istore 4, 57, 0, 0, 0),
  (57, .iinc 5 1, 60, 0, 0, 0),
  (60, .goto (-32), 63, 28, 0, 0),
  (63, .iload 4, 65, 0, 0, 0),
  (65, .ireturn, 66, 0, 0, 0)]
def YBk_leastCost : zY := (⟨"DiscLines$Book", "leastCost", "(II)I"⟩, 0, prog_2_method_13_code, 6, (some .int), rBk_leastCost)
theorem oBk_leastCost : zok YBk_leastCost := (by decide +kernel : YBk_leastCost.rows.all (zchk YBk_leastCost) = true)
theorem ckBk_leastCost : zCkV YBk_leastCost 2 0 := ⟨⟨zt 633 (by decide +kernel) rfl, zt 75 (by decide +kernel) rfl, by decide +kernel⟩, zt 631 (by decide +kernel) rfl, zt 632 (by decide +kernel) rfl, by decide⟩
def rBk_mayHaveTaken : List zRow := [(0, .aload_n 0, 1, 0, 0, 0),
  (1, .aload_n 0, 2, 0, 0, 0),
  (2, .getfield 18, 5, 0, 3, 0),
  (5, .iload_n 1, 6, 0, 0, 0),
  (6, .iaload, 7, 0, 0, 0),
  (7, .aload_n 0, 8, 0, 0, 0),
  (8, .getfield 21, 11, 0, 4, 0),
  (11, .iload_n 1, 12, 0, 0, 0),
  (12, .iaload, 13, 0, 0, 0),
  (13, .invokevirtual 50, 16, 0, 0, 0),
  (16, .istore_n 3, 17, 0, 0, 0),
  (17, .aload_n 0, 18, 0, 0, 0),
  (18, .iload_n 1, 19, 0, 0, 0),
  (19, .iload_n 2, 20, 0, 0, 0),
  (20, .invokevirtual 81, 23, 0, 0, 0),
  (23, .istore 4, 25, 0, 0, 0),
  (25, .aload_n 0, 26, 0, 0, 0),
  (26, .iload_n 1, 27, 0, 0, 0),
  (27, .iload_n 2, 28, 0, 0, 0),
  (28, .invokevirtual 70, 31, 0, 0, 0),
  (31, .iload 4, 33, 0, 0, 0),
  (33, .if_icmp .ne 8, 36, 41, 0, 0),
  (36, .ldc 84, 38, 0, 0, 65536),
  (38, .goto 4, 41, 42, 0, 0),
  (41, .iconst 0, 42, 0, 0, 0),
  (42, .istore 5, 44, 0, 0, 0),
  (44, .iconst 0, 45, 0, 0, 0),
  (45, .istore 6, 47, 0, 0, 0),
  (47, .iload 6, 49, 0, 0, 0),
  (49, .iload_n 1, 50, 0, 0, 0),
  (50, .if_icmp .ge 39, 53, 89, 0, 0),
  (53, .iload_n 3, 54, 0, 0, 0),
  (54, .iload 6, 56, 0, 0, 0),
  (56, .invokestatic 61, 59, 0, 0, 0),
  (59, .ifCond .eq 24, 62, 83, 0, 0),
  (62, .aload_n 0, 63, 0, 0, 0),
  (63, .iload_n 1, 64, 0, 0, 0),
  (64, .iload 6, 66, 0, 0, 0),
  (66, .invokevirtual 73, 69, 0, 0, 0),
  (69, .iload 4, 71, 0, 0, 0),
  (71, .if_icmp .ne 12, 74, 83, 0, 0),
  (74, .iload 5, 76, 0, 0, 0),
  (76, .iconst 1, 77, 0, 0, 0),
  (77, .iload 6, 79, 0, 0, 0),
  (79, .ishl, 80, 0, 0, 0),
  (80, .ior, 81, 0, 0, 0),
  (81, .istore 5, 83, 0, 0, 0),
  (83, .iinc 6 1, 86, 0, 0, 0),
  (86, .goto (-39), 89, 47, 0, 0),
  (89, .iload 5, 91, 0, 0, 0),
  (91, .ireturn, 92, 0, 0, 0)]
def YBk_mayHaveTaken : zY := (⟨"DiscLines$Book", "mayHaveTaken", "(II)I"⟩, 0, prog_2_method_14_code, 7, (some .int), rBk_mayHaveTaken)
theorem oBk_mayHaveTaken : zok YBk_mayHaveTaken := (by decide +kernel : YBk_mayHaveTaken.rows.all (zchk YBk_mayHaveTaken) = true)
theorem ckBk_mayHaveTaken : zCkV YBk_mayHaveTaken 2 0 := ⟨⟨zt 629 (by decide +kernel) rfl, zt 75 (by decide +kernel) rfl, by decide +kernel⟩, zt 627 (by decide +kernel) rfl, zt 628 (by decide +kernel) rfl, by decide⟩
def rBk_oldest : List zRow := [(0, .iload_n 1, 1, 0, 0, 0),
  (1, .istore_n 3, 2, 0, 0, 0),
  (2, .iconst 0, 3, 0, 0, 0),
  (3, .istore 4, 5, 0, 0, 0),
  (5, .iload 4, 7, 0, 0, 0),
  (7, .bipush 16, 9, 0, 0, 0),
  (9, .if_icmp .ge 34, 12, 43, 0, 0),
  (12, .aload_n 0, 13, 0, 0, 0),
  (13, .iload_n 3, 14, 0, 0, 0),
  (14, .iload_n 2, 15, 0, 0, 0),
  (15, .invokevirtual 85, 18, 0, 0, 0),
  (18, .istore 5, 20, 0, 0, 0),
  (20, .iload 5, 22, 0, 0, 0),
  (22, .ldc 84, 24, 0, 0, 65536),
  (24, .iand, 25, 0, 0, 0),
  (25, .ifCond .eq 5, 28, 30, 0, 0),
  (28, .iload_n 3, 29, 0, 0, 0),
  (29, .ireturn, 30, 0, 0, 0),
  (30, .iload 5, 32, 0, 0, 0),
  (32, .iload_n 3, 33, 0, 0, 0),
  (33, .invokestatic 88, 36, 0, 0, 0),
  (36, .istore_n 3, 37, 0, 0, 0),
  (37, .iinc 4 1, 40, 0, 0, 0),
  (40, .goto (-35), 43, 5, 0, 0),
  (43, .iload_n 3, 44, 0, 0, 0),
  (44, .ireturn, 45, 0, 0, 0)]
def YBk_oldest : zY := (⟨"DiscLines$Book", "oldest", "(II)I"⟩, 0, prog_2_method_15_code, 6, (some .int), rBk_oldest)
theorem oBk_oldest : zok YBk_oldest := (by decide +kernel : YBk_oldest.rows.all (zchk YBk_oldest) = true)
theorem ckBk_oldest : zCkV YBk_oldest 2 0 := ⟨⟨zt 649 (by decide +kernel) rfl, zt 75 (by decide +kernel) rfl, by decide +kernel⟩, zt 647 (by decide +kernel) rfl, zt 648 (by decide +kernel) rfl, by decide⟩
def rBk_leastOf : List zRow := [(0, .iconst 0, 1, 0, 0, 0),
  (1, .istore_n 2, 2, 0, 0, 0),
  (2, .iload_n 2, 3, 0, 0, 0),
  (3, .iload_n 1, 4, 0, 0, 0),
  (4, .if_icmp .ge 19, 7, 23, 0, 0),
  (7, .iload_n 0, 8, 0, 0, 0),
  (8, .iload_n 2, 9, 0, 0, 0),
  (9, .invokestatic 61, 12, 0, 0, 0),
  (12, .ifCond .eq 5, 15, 17, 0, 0),
  (15, .iload_n 2, 16, 0, 0, 0),
  (16, .ireturn, 17, 0, 0, 0),
  (17, .iinc 2 1, 20, 0, 0, 0),
  (20, .goto (-18), 23, 2, 0, 0),
  (23, .iload_n 1, 24, 0, 0, 0),
  (24, .ireturn, 25, 0, 0, 0)]
def YBk_leastOf : zY := (⟨"DiscLines$Book", "leastOf", "(II)I"⟩, 0, prog_2_method_16_code, 3, (some .int), rBk_leastOf)
theorem oBk_leastOf : zok YBk_leastOf := (by decide +kernel : YBk_leastOf.rows.all (zchk YBk_leastOf) = true)
theorem ckBk_leastOf : zCkS YBk_leastOf 2 := ⟨⟨zt 653 (by decide +kernel) rfl, zt 75 (by decide +kernel) rfl, by decide +kernel⟩, zt 652 (by decide +kernel) rfl⟩
def rBk_weightOfSheet : List zRow := [(0, .aload_n 0, 1, 0, 0, 0),
  (1, .getfield 15, 4, 0, 1, 0),
  (4, .aload_n 0, 5, 0, 0, 0),
  (5, .getfield 18, 8, 0, 3, 0),
  (8, .iload_n 1, 9, 0, 0, 0),
  (9, .iaload, 10, 0, 0, 0),
  (10, .iaload, 11, 0, 0, 0),
  (11, .ireturn, 12, 0, 0, 0)]
def YBk_weightOfSheet : zY := (⟨"DiscLines$Book", "weightOfSheet", "(I)I"⟩, 0, prog_2_method_17_code, 2, (some .int), rBk_weightOfSheet)
theorem oBk_weightOfSheet : zok YBk_weightOfSheet := (by decide +kernel : YBk_weightOfSheet.rows.all (zchk YBk_weightOfSheet) = true)
theorem ckBk_weightOfSheet : zCkV YBk_weightOfSheet 1 0 := ⟨⟨zt 733 (by decide +kernel) rfl, zt 75 (by decide +kernel) rfl, by decide +kernel⟩, zt 732 (by decide +kernel) rfl, zt 30 (by decide +kernel) rfl, by decide⟩
def rBk_weightOfAllSheets : List zRow := [(0, .iconst 0, 1, 0, 0, 0),
  (1, .istore_n 1, 2, 0, 0, 0),
  (2, .iconst 0, 3, 0, 0, 0),
  (3, .istore_n 2, 4, 0, 0, 0),
  (4, .iload_n 2, 5, 0, 0, 0),
  (5, .aload_n 0, 6, 0, 0, 0),
  (6, .getfield 44, 9, 0, 6, 0),
  (9, .if_icmp .ge 17, 12, 26, 0, 0),
  (12, .iload_n 1, 13, 0, 0, 0),
  (13, .aload_n 0, 14, 0, 0, 0),
  (14, .iload_n 2, 15, 0, 0, 0),
  (15, .invokevirtual 91, 18, 0, 0, 0),
  (18, .iadd, 19, 0, 0, 0),
  (19, .istore_n 1, 20, 0, 0, 0),
  (20, .iinc 2 1, 23, 0, 0, 0),
  (23, .goto (-19), 26, 4, 0, 0),
  (26, .iload_n 1, 27, 0, 0, 0),
  (27, .ireturn, 28, 0, 0, 0)]
def YBk_weightOfAllSheets : zY := (⟨"DiscLines$Book", "weightOfAllSheets", "()I"⟩, 0, prog_2_method_18_code, 3, (some .int), rBk_weightOfAllSheets)
theorem oBk_weightOfAllSheets : zok YBk_weightOfAllSheets := (by decide +kernel : YBk_weightOfAllSheets.rows.all (zchk YBk_weightOfAllSheets) = true)
theorem ckBk_weightOfAllSheets : zCkV YBk_weightOfAllSheets 0 0 := ⟨⟨zt 729 (by decide +kernel) rfl, zt 75 (by decide +kernel) rfl, by decide +kernel⟩, zt 728 (by decide +kernel) rfl, zt 29 (by decide +kernel) rfl, by decide⟩
def rBk_weightOfLine : List zRow := [(0, .iconst 0, 1, 0, 0, 0),
  (1, .istore_n 2, 2, 0, 0, 0),
  (2, .iconst 0, 3, 0, 0, 0),
  (3, .istore_n 3, 4, 0, 0, 0),
  (4, .iload_n 3, 5, 0, 0, 0),
  (5, .aload_n 0, 6, 0, 0, 0),
  (6, .getfield 44, 9, 0, 6, 0),
  (9, .if_icmp .ge 39, 12, 48, 0, 0),
  (12, .iload_n 2, 13, 0, 0, 0),
  (13, .aload_n 0, 14, 0, 0, 0),
  (14, .getfield 24, 17, 0, 5, 0),
  (17, .iload_n 3, 18, 0, 0, 0),
  (18, .iaload, 19, 0, 0, 0),
  (19, .iload_n 1, 20, 0, 0, 0),
  (20, .invokestatic 61, 23, 0, 0, 0),
  (23, .ifCond .eq 11, 26, 34, 0, 0),
  (26, .aload_n 0, 27, 0, 0, 0),
  (27, .iload_n 3, 28, 0, 0, 0),
  (28, .invokevirtual 91, 31, 0, 0, 0),
  (31, .goto 9, 34, 40, 0, 0),
  (34, .aload_n 0, 35, 0, 0, 0),
  (35, .iload_n 3, 36, 0, 0, 0),
  (36, .invokevirtual 91, 39, 0, 0, 0),
  (39, .ineg, 40, 0, 0, 0),
  (40, .iadd, 41, 0, 0, 0),
  (41, .istore_n 2, 42, 0, 0, 0),
  (42, .iinc 3 1, 45, 0, 0, 0),
  (45, .goto (-41), 48, 4, 0, 0),
  (48, .iload_n 2, 49, 0, 0, 0),
  (49, .ireturn, 50, 0, 0, 0)]
def YBk_weightOfLine : zY := (⟨"DiscLines$Book", "weightOfLine", "(I)I"⟩, 0, prog_2_method_19_code, 4, (some .int), rBk_weightOfLine)
theorem oBk_weightOfLine : zok YBk_weightOfLine := (by decide +kernel : YBk_weightOfLine.rows.all (zchk YBk_weightOfLine) = true)
theorem ckBk_weightOfLine : zCkV YBk_weightOfLine 1 0 := ⟨⟨zt 737 (by decide +kernel) rfl, zt 75 (by decide +kernel) rfl, by decide +kernel⟩, zt 735 (by decide +kernel) rfl, zt 736 (by decide +kernel) rfl, by decide⟩
def rBk_linesWeighedAbove : List zRow := [(0, .aload_n 0, 1, 0, 0, 0),
  (1, .invokevirtual 94, 4, 0, 0, 0),
  (4, .istore_n 2, 5, 0, 0, 0),
  (5, .iconst 0, 6, 0, 0, 0),
  (6, .istore_n 3, 7, 0, 0, 0),
  (7, .iconst 0, 8, 0, 0, 0),
  (8, .istore 4, 10, 0, 0, 0),
  (10, .iload 4, 12, 0, 0, 0),
  (12, .bipush 28, 14, 0, 0, 0),
  (14, .if_icmp .ge 41, 17, 55, 0, 0),
  (17, .aload_n 0, 18, 0, 0, 0),
  (18, .iload 4, 20, 0, 0, 0),
  (20, .invokevirtual 98, 23, 0, 0, 0),
  (23, .istore 5, 25, 0, 0, 0),
  (25, .iload 5, 27, 0, 0, 0),
  (27, .ifCond .le 22, 30, 49, 0, 0),
  (30, .iload_n 1, 31, 0, 0, 0),
  (31, .ifCond .eq 11, 34, 42, 0, 0),
  (34, .iconst 2, 35, 0, 0, 0),
  (35, .iload 5, 37, 0, 0, 0),
  (37, .imul, 38, 0, 0, 0),
  (38, .iload_n 2, 39, 0, 0, 0),
  (39, .if_icmp .lt 10, 42, 49, 0, 0),
  (42, .iload_n 3, 43, 0, 0, 0),
  (43, .iconst 1, 44, 0, 0, 0),
  (44, .iload 4, 46, 0, 0, 0),
  (46, .ishl, 47, 0, 0, 0),
  (47, .ior, 48, 0, 0, 0),
  (48, .istore_n 3, 49, 0, 0, 0),
  (49, .iinc 4 1, 52, 0, 0, 0),
  (52, .goto (-42), 55, 10, 0, 0),
  (55, .iload_n 3, 56, 0, 0, 0),
  (56, .ireturn, 57, 0, 0, 0)]
def YBk_linesWeighedAbove : zY := (⟨"DiscLines$Book", "linesWeighedAbove", "(Z)I"⟩, 0, prog_2_method_20_code, 6, (some .int), rBk_linesWeighedAbove)
theorem oBk_linesWeighedAbove : zok YBk_linesWeighedAbove := (by decide +kernel : YBk_linesWeighedAbove.rows.all (zchk YBk_linesWeighedAbove) = true)
theorem ckBk_linesWeighedAbove : zCkV YBk_linesWeighedAbove 1 0 := ⟨⟨zt 725 (by decide +kernel) rfl, zt 75 (by decide +kernel) rfl, by decide +kernel⟩, zt 723 (by decide +kernel) rfl, zt 724 (by decide +kernel) rfl, by decide⟩
def rBk_copy : List zRow := [(0, .aload_n 1, 1, 0, 0, 0),
  (1, .getfield 9, 4, 0, 0, 0),
  (4, .aload_n 0, 5, 0, 0, 0),
  (5, .getfield 9, 8, 0, 0, 0),
  (8, .invokestatic 101, 11, 0, 0, 0),
  (11, .aload_n 1, 12, 0, 0, 0),
  (12, .getfield 15, 15, 0, 1, 0),
  (15, .aload_n 0, 16, 0, 0, 0),
  (16, .getfield 15, 19, 0, 1, 0),
  (19, .invokestatic 101, 22, 0, 0, 0),
  (22, .aload_n 0, 23, 0, 0, 0),
  (23, .aload_n 1, 24, 0, 0, 0),
  (24, .getfield 36, 27, 0, 2, 0),
  (27, .putfield 36, 30, 0, 2, 0),
  (30, .aload_n 1, 31, 0, 0, 0),
  (31, .getfield 18, 34, 0, 3, 0),
  (34, .aload_n 0, 35, 0, 0, 0),
  (35, .getfield 18, 38, 0, 3, 0),
  (38, .invokestatic 101, 41, 0, 0, 0),
  (41, .aload_n 1, 42, 0, 0, 0),
  (42, .getfield 21, 45, 0, 4, 0),
  (45, .aload_n 0, 46, 0, 0, 0),
  (46, .getfield 21, 49, 0, 4, 0),
  (49, .invokestatic 101, 52, 0, 0, 0),
  (52, .aload_n 1, 53, 0, 0, 0),
  (53, .getfield 24, 56, 0, 5, 0),
  (56, .aload_n 0, 57, 0, 0, 0),
  (57, .getfield 24, 60, 0, 5, 0),
  (60, .invokestatic 101, 63, 0, 0, 0),
  (63, .aload_n 0, 64, 0, 0, 0),
  (64, .aload_n 1, 65, 0, 0, 0),
  (65, .getfield 44, 68, 0, 6, 0),
  (68, .putfield 44, 71, 0, 6, 0),
  (71, .aload_n 1, 72, 0, 0, 0),
  (72, .getfield 27, 75, 0, 7, 0),
  (75, .aload_n 0, 76, 0, 0, 0),
  (76, .getfield 27, 79, 0, 7, 0),
  (79, .invokestatic 101, 82, 0, 0, 0),
  (82, .aload_n 1, 83, 0, 0, 0),
  (83, .getfield 30, 86, 0, 8, 0),
  (86, .aload_n 0, 87, 0, 0, 0),
  (87, .getfield 30, 90, 0, 8, 0),
  (90, .invokestatic 101, 93, 0, 0, 0),
  (93, .aload_n 1, 94, 0, 0, 0),
  (94, .getfield 33, 97, 0, 9, 0),
  (97, .aload_n 0, 98, 0, 0, 0),
  (98, .getfield 33, 101, 0, 9, 0),
  (101, .invokestatic 101, 104, 0, 0, 0),
  (104, .aload_n 0, 105, 0, 0, 0),
  (105, .aload_n 1, 106, 0, 0, 0),
  (106, .getfield 47, 109, 0, 10, 0),
  (109, .putfield 47, 112, 0, 10, 0),
  (112, .return_, 113, 0, 0, 0)]
def YBk_copy : zY := (⟨"DiscLines$Book", "copy", "(LDiscLines$Book;)V"⟩, 0, prog_2_method_21_code, 2, none, rBk_copy)
theorem oBk_copy : zok YBk_copy := (by decide +kernel : YBk_copy.rows.all (zchk YBk_copy) = true)
theorem ckBk_copy : zCkV YBk_copy 1 0 := ⟨⟨zt 776 (by decide +kernel) rfl, zt 75 (by decide +kernel) rfl, by decide +kernel⟩, zt 774 (by decide +kernel) rfl, zt 775 (by decide +kernel) rfl, by decide⟩
def rBk_mixInto : List zRow := [(0, .lload_n 1, 1, 0, 0, 0),
  (1, .lstore_n 3, 2, 0, 0, 0),
  (2, .iconst 0, 3, 0, 0, 0),
  (3, .istore 5, 5, 0, 0, 0),
  (5, .iload 5, 7, 0, 0, 0),
  (7, .aload_n 0, 8, 0, 0, 0),
  (8, .getfield 36, 11, 0, 2, 0),
  (11, .if_icmp .ge 33, 14, 44, 0, 0),
  (14, .lload_n 3, 15, 0, 0, 0),
  (15, .aload_n 0, 16, 0, 0, 0),
  (16, .getfield 9, 19, 0, 0, 0),
  (19, .iload 5, 21, 0, 0, 0),
  (21, .iaload, 22, 0, 0, 0),
  (22, .i2l, 23, 0, 0, 0),
  (23, .invokestatic 105, 26, 0, 0, 0),
  (26, .aload_n 0, 27, 0, 0, 0),
  (27, .getfield 15, 30, 0, 1, 0),
  (30, .iload 5, 32, 0, 0, 0),
  (32, .iaload, 33, 0, 0, 0),
  (33, .i2l, 34, 0, 0, 0),
  (34, .invokestatic 105, 37, 0, 0, 0),
  (37, .lstore_n 3, 38, 0, 0, 0),
  (38, .iinc 5 1, 41, 0, 0, 0),
  (41, .goto (-36), 44, 5, 0, 0),
  (44, .iconst 0, 45, 0, 0, 0),
  (45, .istore 5, 47, 0, 0, 0),
  (47, .iload 5, 49, 0, 0, 0),
  (49, .aload_n 0, 50, 0, 0, 0),
  (50, .getfield 44, 53, 0, 6, 0),
  (53, .if_icmp .ge 44, 56, 97, 0, 0),
  (56, .lload_n 3, 57, 0, 0, 0),
  (57, .aload_n 0, 58, 0, 0, 0),
  (58, .getfield 24, 61, 0, 5, 0),
  (61, .iload 5, 63, 0, 0, 0),
  (63, .iaload, 64, 0, 0, 0),
  (64, .i2l, 65, 0, 0, 0),
  (65, .invokestatic 105, 68, 0, 0, 0),
  (68, .aload_n 0, 69, 0, 0, 0),
  (69, .getfield 18, 72, 0, 3, 0),
  (72, .iload 5, 74, 0, 0, 0),
  (74, .iaload, 75, 0, 0, 0),
  (75, .i2l, 76, 0, 0, 0),
  (76, .invokestatic 105, 79, 0, 0, 0),
  (79, .aload_n 0, 80, 0, 0, 0),
  (80, .getfield 21, 83, 0, 4, 0),
  (83, .iload 5, 85, 0, 0, 0),
  (85, .iaload, 86, 0, 0, 0),
  (86, .i2l, 87, 0, 0, 0),
  (87, .invokestatic 105, 90, 0, 0, 0),
  (90, .lstore_n 3, 91, 0, 0, 0),
  (91, .iinc 5 1, 94, 0, 0, 0),
  (94, .goto (-47), 97, 47, 0, 0),
  (97, .iconst 0, 98, 0, 0, 0),
  (98, .istore 5, 100, 0, 0, 0),
  (100, .iload 5, 102, 0, 0, 0),
  (102, .aload_n 0, 103, 0, 0, 0),
  (103, .getfield 47, 106, 0, 10, 0),
  (106, .if_icmp .ge 44, 109, 150, 0, 0),
  (109, .lload_n 3, 110, 0, 0, 0),
  (110, .aload_n 0, 111, 0, 0, 0),
  (111, .getfield 27, 114, 0, 7, 0),
  (114, .iload 5, 116, 0, 0, 0),
  (116, .iaload, 117, 0, 0, 0),
  (117, .i2l, 118, 0, 0, 0),
  (118, .invokestatic 105, 121, 0, 0, 0),
  (121, .aload_n 0, 122, 0, 0, 0),
  (122, .getfield 30, 125, 0, 8, 0),
  (125, .iload 5, 127, 0, 0, 0),
  (127, .iaload, 128, 0, 0, 0),
  (128, .i2l, 129, 0, 0, 0),
  (129, .invokestatic 105, 132, 0, 0, 0),
  (132, .aload_n 0, 133, 0, 0, 0),
  (133, .getfield 33, 136, 0, 9, 0),
  (136, .iload 5, 138, 0, 0, 0),
  (138, .iaload, 139, 0, 0, 0),
  (139, .i2l, 140, 0, 0, 0),
  (140, .invokestatic 105, 143, 0, 0, 0),
  (143, .lstore_n 3, 144, 0, 0, 0),
  (144, .iinc 5 1, 147, 0, 0, 0),
  (147, .goto (-47), 150, 100, 0, 0),
  (150, .lload_n 3, 151, 0, 0, 0),
  (151, .lreturn, 152, 0, 0, 0)]
def YBk_mixInto : zY := (⟨"DiscLines$Book", "mixInto", "(J)J"⟩, 0, prog_2_method_22_code, 6, (some .long), rBk_mixInto)
theorem oBk_mixInto : zok YBk_mixInto := (by decide +kernel : YBk_mixInto.rows.all (zchk YBk_mixInto) = true)
theorem ckBk_mixInto : zCkV YBk_mixInto 1 0 := ⟨⟨zt 822 (by decide +kernel) rfl, zt 75 (by decide +kernel) rfl, by decide +kernel⟩, zt 820 (by decide +kernel) rfl, zt 821 (by decide +kernel) rfl, by decide⟩
def rEy_init : List zRow := [(0, .aload_n 0, 1, 0, 0, 0),
  (1, .invokespecial 3, 4, 0, 0, 0),
  (4, .aload_n 0, 5, 0, 0, 0),
  (5, .new 9, 8, 0, 0, 0),
  (8, .dup, 9, 0, 0, 0),
  (9, .invokespecial 11, 12, 0, 0, 0),
  (12, .putfield 12, 15, 1, 0, 0),
  (15, .aload_n 0, 16, 0, 0, 0),
  (16, .bipush 7, 18, 0, 0, 0),
  (18, .newarray .long, 20, 0, 0, 0),
  (20, .putfield 18, 23, 1, 1, 0),
  (23, .aload_n 0, 24, 0, 0, 0),
  (24, .bipush 40, 26, 0, 0, 0),
  (26, .newarray .long, 28, 0, 0, 0),
  (28, .putfield 22, 31, 1, 2, 0),
  (31, .return_, 32, 0, 0, 0)]
def YEy_init : zY := (⟨"DiscLines$Eye", "<init>", "()V"⟩, 1, prog_3_method_1_code, 1, none, rEy_init)
theorem oEy_init : zok YEy_init := (by decide +kernel : YEy_init.rows.all (zchk YEy_init) = true)
theorem ckEy_init : zCkI YEy_init 0 := ⟨⟨zt 259 (by decide +kernel) rfl, zt 77 (by decide +kernel) rfl, by decide +kernel⟩, zt 258 (by decide +kernel) rfl, rfl, rfl⟩
def rEy_look : List zRow := [(0, .aload_n 0, 1, 0, 0, 0),
  (1, .aload_n 0, 2, 0, 0, 0),
  (2, .aload_n 1, 3, 0, 0, 0),
  (3, .aload_n 2, 4, 0, 0, 0),
  (4, .iconst 0, 5, 0, 0, 0),
  (5, .invokevirtual 25, 8, 0, 0, 0),
  (8, .putfield 29, 11, 1, 3, 0),
  (11, .aload_n 0, 12, 0, 0, 0),
  (12, .aload_n 1, 13, 0, 0, 0),
  (13, .getfield 33, 16, 3, 5, 0),
  (16, .ifCond .eq 13, 19, 29, 0, 0),
  (19, .aload_n 0, 20, 0, 0, 0),
  (20, .aload_n 1, 21, 0, 0, 0),
  (21, .aload_n 2, 22, 0, 0, 0),
  (22, .iconst 1, 23, 0, 0, 0),
  (23, .invokevirtual 25, 26, 0, 0, 0),
  (26, .goto 7, 29, 33, 0, 0),
  (29, .aload_n 0, 30, 0, 0, 0),
  (30, .getfield 29, 33, 1, 3, 0),
  (33, .putfield 39, 36, 1, 4, 0),
  (36, .return_, 37, 0, 0, 0)]
def YEy_look : zY := (⟨"DiscLines$Eye", "look", "(LDiscLines$Law;[I)V"⟩, 1, prog_3_method_2_code, 3, none, rEy_look)
theorem oEy_look : zok YEy_look := (by decide +kernel : YEy_look.rows.all (zchk YEy_look) = true)
theorem ckEy_look : zCkV YEy_look 2 1 := ⟨⟨zt 477 (by decide +kernel) rfl, zt 77 (by decide +kernel) rfl, by decide +kernel⟩, zt 475 (by decide +kernel) rfl, zt 476 (by decide +kernel) rfl, by decide⟩
def rEy_linesIfShown : List zRow := [(0, .aload_n 0, 1, 0, 0, 0),
  (1, .getfield 29, 4, 1, 3, 0),
  (4, .iload_n 1, 5, 0, 0, 0),
  (5, .iconst (-1), 6, 0, 0, 0),
  (6, .ixor, 7, 0, 0, 0),
  (7, .iand, 8, 0, 0, 0),
  (8, .aload_n 0, 9, 0, 0, 0),
  (9, .getfield 39, 12, 1, 4, 0),
  (12, .iload_n 1, 13, 0, 0, 0),
  (13, .iand, 14, 0, 0, 0),
  (14, .ior, 15, 0, 0, 0),
  (15, .ireturn, 16, 0, 0, 0)]
def YEy_linesIfShown : zY := (⟨"DiscLines$Eye", "linesIfShown", "(I)I"⟩, 1, prog_3_method_3_code, 2, (some .int), rEy_linesIfShown)
theorem oEy_linesIfShown : zok YEy_linesIfShown := (by decide +kernel : YEy_linesIfShown.rows.all (zchk YEy_linesIfShown) = true)
theorem ckEy_linesIfShown : zCkV YEy_linesIfShown 1 1 := ⟨⟨zt 508 (by decide +kernel) rfl, zt 77 (by decide +kernel) rfl, by decide +kernel⟩, zt 506 (by decide +kernel) rfl, zt 507 (by decide +kernel) rfl, by decide⟩
def rEy_linesOf : List zRow := [(0, .aload_n 1, 1, 0, 0, 0),
  (1, .getfield 42, 4, 3, 2, 0),
  (4, .iconst (-1), 5, 0, 0, 0),
  (5, .if_icmp .eq 5, 8, 10, 0, 0),
  (8, .iconst 0, 9, 0, 0, 0),
  (9, .ireturn, 10, 0, 0, 0),
  (10, .aload_n 0, 11, 0, 0, 0),
  (11, .getfield 18, 14, 1, 1, 0),
  (14, .iconst 5, 15, 0, 0, 0),
  (15, .iload_n 3, 16, 0, 0, 0),
  (16, .i2l, 17, 0, 0, 0),
  (17, .lastore, 18, 0, 0, 0),
  (18, .aload_n 0, 19, 0, 0, 0),
  (19, .getfield 18, 22, 1, 1, 0),
  (22, .bipush 6, 24, 0, 0, 0),
  (24, .aload_n 0, 25, 0, 0, 0),
  (25, .getfield 12, 28, 1, 0, 0),
  (28, .getfield 47, 31, 4, 3, 0),
  (31, .i2l, 32, 0, 0, 0),
  (32, .lastore, 33, 0, 0, 0),
  (33, .iconst 0, 34, 0, 0, 0),
  (34, .istore 4, 36, 0, 0, 0),
  (36, .iconst 0, 37, 0, 0, 0),
  (37, .istore 5, 39, 0, 0, 0),
  (39, .iconst 0, 40, 0, 0, 0),
  (40, .istore 6, 42, 0, 0, 0),
  (42, .iload 6, 44, 0, 0, 0),
  (44, .aload_n 2, 45, 0, 0, 0),
  (45, .arraylength, 46, 0, 0, 0),
  (46, .if_icmp .ge 62, 49, 108, 0, 0),
  (49, .iload 6, 51, 0, 0, 0),
  (51, .iconst 1, 52, 0, 0, 0),
  (52, .iadd, 53, 0, 0, 0),
  (53, .istore 7, 55, 0, 0, 0),
  (55, .iload 7, 57, 0, 0, 0),
  (57, .aload_n 2, 58, 0, 0, 0),
  (58, .arraylength, 59, 0, 0, 0),
  (59, .if_icmp .ge 43, 62, 102, 0, 0),
  (62, .aload_n 0, 63, 0, 0, 0),
  (63, .aload_n 2, 64, 0, 0, 0),
  (64, .iload 6, 66, 0, 0, 0),
  (66, .iaload, 67, 0, 0, 0),
  (67, .aload_n 2, 68, 0, 0, 0),
  (68, .iload 7, 70, 0, 0, 0),
  (70, .iaload, 71, 0, 0, 0),
  (71, .invokevirtual 50, 74, 0, 0, 0),
  (74, .aload_n 0, 75, 0, 0, 0),
  (75, .aload_n 1, 76, 0, 0, 0),
  (76, .invokevirtual 54, 79, 0, 0, 0),
  (79, .lconst 0, 80, 0, 0, 0),
  (80, .lcmp, 81, 0, 0, 0),
  (81, .ifCond .eq 12, 84, 93, 0, 0),
  (84, .iload 4, 86, 0, 0, 0),
  (86, .iconst 1, 87, 0, 0, 0),
  (87, .iload 5, 89, 0, 0, 0),
  (89, .ishl, 90, 0, 0, 0),
  (90, .ior, 91, 0, 0, 0),
  (91, .istore 4, 93, 0, 0, 0),
  (93, .iinc 5 1, 96, 0, 0, 0),
  (96, .iinc 7 1, 99, 0, 0, 0),
  (99, .goto (-44), 102, 55, 0, 0),
  (102, .iinc 6 1, 105, 0, 0, 0),
  (105, .goto (-63), 108, 42, 0, 0),
  (108, .iload 4, 110, 0, 0, 0),
  (110, .ireturn, 111, 0, 0, 0)]
def YEy_linesOf : zY := (⟨"DiscLines$Eye", "linesOf", "(LDiscLines$Law;[II)I"⟩, 1, prog_3_method_4_code, 8, (some .int), rEy_linesOf)
theorem oEy_linesOf : zok YEy_linesOf := (by decide +kernel : YEy_linesOf.rows.all (zchk YEy_linesOf) = true)
theorem ckEy_linesOf : zCkV YEy_linesOf 3 1 := ⟨⟨zt 481 (by decide +kernel) rfl, zt 77 (by decide +kernel) rfl, by decide +kernel⟩, zt 479 (by decide +kernel) rfl, zt 480 (by decide +kernel) rfl, by decide⟩
def rEy_aimAt : List zRow := [(0, .iload_n 1, 1, 0, 0, 0),
  (1, .bipush 9, 3, 0, 0, 0),
  (3, .idiv, 4, 0, 0, 0),
  (4, .iload_n 2, 5, 0, 0, 0),
  (5, .bipush 9, 7, 0, 0, 0),
  (7, .idiv, 8, 0, 0, 0),
  (8, .iadd, 9, 0, 0, 0),
  (9, .istore_n 3, 10, 0, 0, 0),
  (10, .iload_n 1, 11, 0, 0, 0),
  (11, .bipush 9, 13, 0, 0, 0),
  (13, .irem, 14, 0, 0, 0),
  (14, .iload_n 2, 15, 0, 0, 0),
  (15, .bipush 9, 17, 0, 0, 0),
  (17, .irem, 18, 0, 0, 0),
  (18, .iadd, 19, 0, 0, 0),
  (19, .istore 4, 21, 0, 0, 0),
  (21, .iload_n 1, 22, 0, 0, 0),
  (22, .bipush 9, 24, 0, 0, 0),
  (24, .idiv, 25, 0, 0, 0),
  (25, .iload_n 2, 26, 0, 0, 0),
  (26, .bipush 9, 28, 0, 0, 0),
  (28, .idiv, 29, 0, 0, 0),
  (29, .isub, 30, 0, 0, 0),
  (30, .invokestatic 58, 33, 0, 0, 0),
  (33, .istore 5, 35, 0, 0, 0),
  (35, .iload_n 1, 36, 0, 0, 0),
  (36, .bipush 9, 38, 0, 0, 0),
  (38, .irem, 39, 0, 0, 0),
  (39, .iload_n 2, 40, 0, 0, 0),
  (40, .bipush 9, 42, 0, 0, 0),
  (42, .irem, 43, 0, 0, 0),
  (43, .isub, 44, 0, 0, 0),
  (44, .invokestatic 58, 47, 0, 0, 0),
  (47, .istore 6, 49, 0, 0, 0),
  (49, .bipush 9, 51, 0, 0, 0),
  (51, .iload_n 3, 52, 0, 0, 0),
  (52, .iconst 2, 53, 0, 0, 0),
  (53, .idiv, 54, 0, 0, 0),
  (54, .imul, 55, 0, 0, 0),
  (55, .iload 4, 57, 0, 0, 0),
  (57, .iconst 2, 58, 0, 0, 0),
  (58, .idiv, 59, 0, 0, 0),
  (59, .iadd, 60, 0, 0, 0),
  (60, .istore 7, 62, 0, 0, 0),
  (62, .iload_n 1, 63, 0, 0, 0),
  (63, .bipush 81, 65, 0, 0, 0),
  (65, .invokestatic 64, 68, 0, 0, 0),
  (68, .ifCond .eq 85, 71, 153, 0, 0),
  (71, .iload_n 2, 72, 0, 0, 0),
  (72, .bipush 81, 74, 0, 0, 0),
  (74, .invokestatic 64, 77, 0, 0, 0),
  (77, .ifCond .eq 76, 80, 153, 0, 0),
  (80, .iload 7, 82, 0, 0, 0),
  (82, .bipush 81, 84, 0, 0, 0),
  (84, .invokestatic 64, 87, 0, 0, 0),
  (87, .ifCond .eq 66, 90, 153, 0, 0),
  (90, .aload_n 0, 91, 0, 0, 0),
  (91, .getfield 18, 94, 1, 1, 0),
  (94, .iconst 1, 95, 0, 0, 0),
  (95, .aload_n 0, 96, 0, 0, 0),
  (96, .getfield 12, 99, 1, 0, 0),
  (99, .getfield 68, 102, 4, 2, 0),
  (102, .iload_n 1, 103, 0, 0, 0),
  (103, .iaload, 104, 0, 0, 0),
  (104, .i2l, 105, 0, 0, 0),
  (105, .lastore, 106, 0, 0, 0),
  (106, .aload_n 0, 107, 0, 0, 0),
  (107, .getfield 18, 110, 1, 1, 0),
  (110, .iconst 2, 111, 0, 0, 0),
  (111, .aload_n 0, 112, 0, 0, 0),
  (112, .getfield 12, 115, 1, 0, 0),
  (115, .getfield 68, 118, 4, 2, 0),
  (118, .iload_n 2, 119, 0, 0, 0),
  (119, .iaload, 120, 0, 0, 0),
  (120, .i2l, 121, 0, 0, 0),
  (121, .lastore, 122, 0, 0, 0),
  (122, .aload_n 0, 123, 0, 0, 0),
  (123, .getfield 18, 126, 1, 1, 0),
  (126, .iconst 3, 127, 0, 0, 0),
  (127, .iload 5, 129, 0, 0, 0),
  (129, .iload 6, 131, 0, 0, 0),
  (131, .invokestatic 72, 134, 0, 0, 0),
  (134, .i2l, 135, 0, 0, 0),
  (135, .lastore, 136, 0, 0, 0),
  (136, .aload_n 0, 137, 0, 0, 0),
  (137, .getfield 18, 140, 1, 1, 0),
  (140, .iconst 4, 141, 0, 0, 0),
  (141, .aload_n 0, 142, 0, 0, 0),
  (142, .getfield 12, 145, 1, 0, 0),
  (145, .getfield 68, 148, 4, 2, 0),
  (148, .iload 7, 150, 0, 0, 0),
  (150, .iaload, 151, 0, 0, 0),
  (151, .i2l, 152, 0, 0, 0),
  (152, .lastore, 153, 0, 0, 0),
  (153, .return_, 154, 0, 0, 0)]
def YEy_aimAt : zY := (⟨"DiscLines$Eye", "aimAt", "(II)V"⟩, 1, prog_3_method_5_code, 8, none, rEy_aimAt)
theorem oEy_aimAt : zok YEy_aimAt := (by decide +kernel : YEy_aimAt.rows.all (zchk YEy_aimAt) = true)
theorem ckEy_aimAt : zCkV YEy_aimAt 2 1 := ⟨⟨zt 485 (by decide +kernel) rfl, zt 77 (by decide +kernel) rfl, by decide +kernel⟩, zt 484 (by decide +kernel) rfl, zt 14 (by decide +kernel) rfl, by decide⟩
def rEy_work : List zRow := [(0, .iconst 0, 1, 0, 0, 0),
  (1, .istore_n 2, 2, 0, 0, 0),
  (2, .iconst 0, 3, 0, 0, 0),
  (3, .istore_n 3, 4, 0, 0, 0),
  (4, .iload_n 3, 5, 0, 0, 0),
  (5, .aload_n 1, 6, 0, 0, 0),
  (6, .getfield 76, 9, 3, 4, 0),
  (9, .if_icmp .ge 136, 12, 145, 0, 0),
  (12, .iload_n 3, 13, 0, 0, 0),
  (13, .bipush 40, 15, 0, 0, 0),
  (15, .if_icmp .ge 130, 18, 145, 0, 0),
  (18, .aload_n 1, 19, 0, 0, 0),
  (19, .getfield 79, 22, 3, 3, 0),
  (22, .iload_n 3, 23, 0, 0, 0),
  (23, .iaload, 24, 0, 0, 0),
  (24, .istore 4, 26, 0, 0, 0),
  (26, .iload 4, 28, 0, 0, 0),
  (28, .bipush (-11), 30, 0, 0, 0),
  (30, .if_icmp .le 39, 33, 69, 0, 0),
  (33, .iload_n 2, 34, 0, 0, 0),
  (34, .bipush 40, 36, 0, 0, 0),
  (36, .if_icmp .ge 103, 39, 139, 0, 0),
  (39, .aload_n 0, 40, 0, 0, 0),
  (40, .getfield 22, 43, 1, 2, 0),
  (43, .iload_n 2, 44, 0, 0, 0),
  (44, .iload 4, 46, 0, 0, 0),
  (46, .ifCond .lt 9, 49, 55, 0, 0),
  (49, .iload 4, 51, 0, 0, 0),
  (51, .i2l, 52, 0, 0, 0),
  (52, .goto 10, 55, 62, 0, 0),
  (55, .aload_n 0, 56, 0, 0, 0),
  (56, .iload 4, 58, 0, 0, 0),
  (58, .ineg, 59, 0, 0, 0),
  (59, .invokevirtual 82, 62, 0, 0, 0),
  (62, .lastore, 63, 0, 0, 0),
  (63, .iinc 2 1, 66, 0, 0, 0),
  (66, .goto 73, 69, 139, 0, 0),
  (69, .iload 4, 71, 0, 0, 0),
  (71, .bipush (-21), 73, 0, 0, 0),
  (73, .if_icmp .le 41, 76, 114, 0, 0),
  (76, .iload_n 2, 77, 0, 0, 0),
  (77, .iconst 1, 78, 0, 0, 0),
  (78, .if_icmp .le 61, 81, 139, 0, 0),
  (81, .iinc 2 (-1), 84, 0, 0, 0),
  (84, .aload_n 0, 85, 0, 0, 0),
  (85, .getfield 22, 88, 1, 2, 0),
  (88, .iload_n 2, 89, 0, 0, 0),
  (89, .iconst 1, 90, 0, 0, 0),
  (90, .isub, 91, 0, 0, 0),
  (91, .iload 4, 93, 0, 0, 0),
  (93, .aload_n 0, 94, 0, 0, 0),
  (94, .getfield 22, 97, 1, 2, 0),
  (97, .iload_n 2, 98, 0, 0, 0),
  (98, .iconst 1, 99, 0, 0, 0),
  (99, .isub, 100, 0, 0, 0),
  (100, .laload, 101, 0, 0, 0),
  (101, .aload_n 0, 102, 0, 0, 0),
  (102, .getfield 22, 105, 1, 2, 0),
  (105, .iload_n 2, 106, 0, 0, 0),
  (106, .laload, 107, 0, 0, 0),
  (107, .invokestatic 86, 110, 0, 0, 0),
  (110, .lastore, 111, 0, 0, 0),
  (111, .goto 28, 114, 139, 0, 0),
  (114, .iload_n 2, 115, 0, 0, 0),
  (115, .ifCond .le 24, 118, 139, 0, 0),
  (118, .aload_n 0, 119, 0, 0, 0),
  (119, .getfield 22, 122, 1, 2, 0),
  (122, .iload_n 2, 123, 0, 0, 0),
  (123, .iconst 1, 124, 0, 0, 0),
  (124, .isub, 125, 0, 0, 0),
  (125, .iload 4, 127, 0, 0, 0),
  (127, .aload_n 0, 128, 0, 0, 0),
  (128, .getfield 22, 131, 1, 2, 0),
  (131, .iload_n 2, 132, 0, 0, 0),
  (132, .iconst 1, 133, 0, 0, 0),
  (133, .isub, 134, 0, 0, 0),
  (134, .laload, 135, 0, 0, 0),
  (135, .invokestatic 90, 138, 0, 0, 0),
  (138, .lastore, 139, 0, 0, 0),
  (139, .iinc 3 1, 142, 0, 0, 0),
  (142, .goto (-138), 145, 4, 0, 0),
  (145, .iload_n 2, 146, 0, 0, 0),
  (146, .ifCond .le 14, 149, 160, 0, 0),
  (149, .aload_n 0, 150, 0, 0, 0),
  (150, .getfield 22, 153, 1, 2, 0),
  (153, .iload_n 2, 154, 0, 0, 0),
  (154, .iconst 1, 155, 0, 0, 0),
  (155, .isub, 156, 0, 0, 0),
  (156, .laload, 157, 0, 0, 0),
  (157, .goto 4, 160, 161, 0, 0),
  (160, .lconst 0, 161, 0, 0, 0),
  (161, .lreturn, 162, 0, 0, 0)]
def YEy_work : zY := (⟨"DiscLines$Eye", "work", "(LDiscLines$Law;)J"⟩, 1, prog_3_method_6_code, 5, (some .long), rEy_work)
theorem oEy_work : zok YEy_work := (by decide +kernel : YEy_work.rows.all (zchk YEy_work) = true)
theorem ckEy_work : zCkV YEy_work 1 1 := ⟨⟨zt 494 (by decide +kernel) rfl, zt 77 (by decide +kernel) rfl, by decide +kernel⟩, zt 493 (by decide +kernel) rfl, zt 15 (by decide +kernel) rfl, by decide⟩
def rEy_unitAt : List zRow := [(0, .iload_n 1, 1, 0, 0, 0),
  (1, .bipush 7, 3, 0, 0, 0),
  (3, .if_icmp .ge 12, 6, 15, 0, 0),
  (6, .aload_n 0, 7, 0, 0, 0),
  (7, .getfield 18, 10, 1, 1, 0),
  (10, .iload_n 1, 11, 0, 0, 0),
  (11, .laload, 12, 0, 0, 0),
  (12, .goto 4, 15, 16, 0, 0),
  (15, .lconst 0, 16, 0, 0, 0),
  (16, .lreturn, 17, 0, 0, 0)]
def YEy_unitAt : zY := (⟨"DiscLines$Eye", "unitAt", "(I)J"⟩, 1, prog_3_method_7_code, 2, (some .long), rEy_unitAt)
theorem oEy_unitAt : zok YEy_unitAt := (by decide +kernel : YEy_unitAt.rows.all (zchk YEy_unitAt) = true)
theorem ckEy_unitAt : zCkV YEy_unitAt 1 1 := ⟨⟨zt 498 (by decide +kernel) rfl, zt 77 (by decide +kernel) rfl, by decide +kernel⟩, zt 497 (by decide +kernel) rfl, zt 16 (by decide +kernel) rfl, by decide⟩
def rGu_init : List zRow := [(0, .aload_n 0, 1, 0, 0, 0),
  (1, .invokespecial 3, 4, 0, 0, 0),
  (4, .aload_n 0, 5, 0, 0, 0),
  (5, .bipush 12, 7, 0, 0, 0),
  (7, .newarray .int, 9, 0, 0, 0),
  (9, .putfield 9, 12, 2, 0, 0),
  (12, .aload_n 0, 13, 0, 0, 0),
  (13, .bipush 12, 15, 0, 0, 0),
  (15, .newarray .int, 17, 0, 0, 0),
  (17, .putfield 15, 20, 2, 1, 0),
  (20, .aload_n 0, 21, 0, 0, 0),
  (21, .bipush 12, 23, 0, 0, 0),
  (23, .newarray .int, 25, 0, 0, 0),
  (25, .putfield 18, 28, 2, 2, 0),
  (28, .return_, 29, 0, 0, 0)]
def YGu_init : zY := (⟨"DiscLines$Guesses", "<init>", "()V"⟩, 2, prog_4_method_1_code, 1, none, rGu_init)
theorem oGu_init : zok YGu_init := (by decide +kernel : YGu_init.rows.all (zchk YGu_init) = true)
theorem ckGu_init : zCkI YGu_init 0 := ⟨⟨zt 205 (by decide +kernel) rfl, zt 76 (by decide +kernel) rfl, by decide +kernel⟩, zt 204 (by decide +kernel) rfl, rfl, rfl⟩
def rGu_add : List zRow := [(0, .aload_n 0, 1, 0, 0, 0),
  (1, .getfield 21, 4, 2, 3, 0),
  (4, .bipush 12, 6, 0, 0, 0),
  (6, .invokestatic 25, 9, 0, 0, 0),
  (9, .ifCond .ne 6, 12, 15, 0, 0),
  (12, .bipush (-4), 14, 0, 0, 0),
  (14, .ireturn, 15, 0, 0, 0),
  (15, .aload_n 0, 16, 0, 0, 0),
  (16, .getfield 9, 19, 2, 0, 0),
  (19, .aload_n 0, 20, 0, 0, 0),
  (20, .getfield 21, 23, 2, 3, 0),
  (23, .iload_n 1, 24, 0, 0, 0),
  (24, .iastore, 25, 0, 0, 0),
  (25, .aload_n 0, 26, 0, 0, 0),
  (26, .getfield 15, 29, 2, 1, 0),
  (29, .aload_n 0, 30, 0, 0, 0),
  (30, .getfield 21, 33, 2, 3, 0),
  (33, .iload_n 2, 34, 0, 0, 0),
  (34, .iastore, 35, 0, 0, 0),
  (35, .aload_n 0, 36, 0, 0, 0),
  (36, .getfield 18, 39, 2, 2, 0),
  (39, .aload_n 0, 40, 0, 0, 0),
  (40, .getfield 21, 43, 2, 3, 0),
  (43, .iload_n 3, 44, 0, 0, 0),
  (44, .iastore, 45, 0, 0, 0),
  (45, .aload_n 0, 46, 0, 0, 0),
  (46, .dup, 47, 0, 0, 0),
  (47, .getfield 21, 50, 2, 3, 0),
  (50, .iconst 1, 51, 0, 0, 0),
  (51, .iadd, 52, 0, 0, 0),
  (52, .putfield 21, 55, 2, 3, 0),
  (55, .aload_n 0, 56, 0, 0, 0),
  (56, .getfield 21, 59, 2, 3, 0),
  (59, .iconst 1, 60, 0, 0, 0),
  (60, .isub, 61, 0, 0, 0),
  (61, .ireturn, 62, 0, 0, 0)]
def YGu_add : zY := (⟨"DiscLines$Guesses", "add", "(III)I"⟩, 2, prog_4_method_2_code, 4, (some .int), rGu_add)
theorem oGu_add : zok YGu_add := (by decide +kernel : YGu_add.rows.all (zchk YGu_add) = true)
theorem ckGu_add : zCkV YGu_add 3 2 := ⟨⟨zt 665 (by decide +kernel) rfl, zt 76 (by decide +kernel) rfl, by decide +kernel⟩, zt 663 (by decide +kernel) rfl, zt 664 (by decide +kernel) rfl, by decide⟩
def rGu_worldsIn : List zRow := [(0, .iconst 0, 1, 0, 0, 0),
  (1, .istore_n 2, 2, 0, 0, 0),
  (2, .iconst 0, 3, 0, 0, 0),
  (3, .istore_n 3, 4, 0, 0, 0),
  (4, .iload_n 3, 5, 0, 0, 0),
  (5, .aload_n 0, 6, 0, 0, 0),
  (6, .getfield 21, 9, 2, 3, 0),
  (9, .if_icmp .ge 28, 12, 37, 0, 0),
  (12, .iload_n 1, 13, 0, 0, 0),
  (13, .iload_n 3, 14, 0, 0, 0),
  (14, .invokestatic 29, 17, 0, 0, 0),
  (17, .ifCond .eq 14, 20, 31, 0, 0),
  (20, .iload_n 2, 21, 0, 0, 0),
  (21, .iconst 1, 22, 0, 0, 0),
  (22, .aload_n 0, 23, 0, 0, 0),
  (23, .getfield 9, 26, 2, 0, 0),
  (26, .iload_n 3, 27, 0, 0, 0),
  (27, .iaload, 28, 0, 0, 0),
  (28, .ishl, 29, 0, 0, 0),
  (29, .ior, 30, 0, 0, 0),
  (30, .istore_n 2, 31, 0, 0, 0),
  (31, .iinc 3 1, 34, 0, 0, 0),
  (34, .goto (-30), 37, 4, 0, 0),
  (37, .iload_n 2, 38, 0, 0, 0),
  (38, .ireturn, 39, 0, 0, 0)]
def YGu_worldsIn : zY := (⟨"DiscLines$Guesses", "worldsIn", "(I)I"⟩, 2, prog_4_method_3_code, 4, (some .int), rGu_worldsIn)
theorem oGu_worldsIn : zok YGu_worldsIn := (by decide +kernel : YGu_worldsIn.rows.all (zchk YGu_worldsIn) = true)
theorem ckGu_worldsIn : zCkV YGu_worldsIn 1 2 := ⟨⟨zt 699 (by decide +kernel) rfl, zt 76 (by decide +kernel) rfl, by decide +kernel⟩, zt 697 (by decide +kernel) rfl, zt 698 (by decide +kernel) rfl, by decide⟩
def rGu_copy : List zRow := [(0, .aload_n 1, 1, 0, 0, 0),
  (1, .getfield 9, 4, 2, 0, 0),
  (4, .aload_n 0, 5, 0, 0, 0),
  (5, .getfield 9, 8, 2, 0, 0),
  (8, .invokestatic 32, 11, 0, 0, 0),
  (11, .aload_n 1, 12, 0, 0, 0),
  (12, .getfield 15, 15, 2, 1, 0),
  (15, .aload_n 0, 16, 0, 0, 0),
  (16, .getfield 15, 19, 2, 1, 0),
  (19, .invokestatic 32, 22, 0, 0, 0),
  (22, .aload_n 1, 23, 0, 0, 0),
  (23, .getfield 18, 26, 2, 2, 0),
  (26, .aload_n 0, 27, 0, 0, 0),
  (27, .getfield 18, 30, 2, 2, 0),
  (30, .invokestatic 32, 33, 0, 0, 0),
  (33, .aload_n 0, 34, 0, 0, 0),
  (34, .aload_n 1, 35, 0, 0, 0),
  (35, .getfield 21, 38, 2, 3, 0),
  (38, .putfield 21, 41, 2, 3, 0),
  (41, .return_, 42, 0, 0, 0)]
def YGu_copy : zY := (⟨"DiscLines$Guesses", "copy", "(LDiscLines$Guesses;)V"⟩, 2, prog_4_method_4_code, 2, none, rGu_copy)
theorem oGu_copy : zok YGu_copy := (by decide +kernel : YGu_copy.rows.all (zchk YGu_copy) = true)
theorem ckGu_copy : zCkV YGu_copy 1 2 := ⟨⟨zt 781 (by decide +kernel) rfl, zt 76 (by decide +kernel) rfl, by decide +kernel⟩, zt 779 (by decide +kernel) rfl, zt 780 (by decide +kernel) rfl, by decide⟩
def rGu_mixInto : List zRow := [(0, .lload_n 1, 1, 0, 0, 0),
  (1, .lstore_n 3, 2, 0, 0, 0),
  (2, .iconst 0, 3, 0, 0, 0),
  (3, .istore 5, 5, 0, 0, 0),
  (5, .iload 5, 7, 0, 0, 0),
  (7, .aload_n 0, 8, 0, 0, 0),
  (8, .getfield 21, 11, 2, 3, 0),
  (11, .if_icmp .ge 44, 14, 55, 0, 0),
  (14, .lload_n 3, 15, 0, 0, 0),
  (15, .aload_n 0, 16, 0, 0, 0),
  (16, .getfield 9, 19, 2, 0, 0),
  (19, .iload 5, 21, 0, 0, 0),
  (21, .iaload, 22, 0, 0, 0),
  (22, .i2l, 23, 0, 0, 0),
  (23, .invokestatic 36, 26, 0, 0, 0),
  (26, .aload_n 0, 27, 0, 0, 0),
  (27, .getfield 15, 30, 2, 1, 0),
  (30, .iload 5, 32, 0, 0, 0),
  (32, .iaload, 33, 0, 0, 0),
  (33, .i2l, 34, 0, 0, 0),
  (34, .invokestatic 36, 37, 0, 0, 0),
  (37, .aload_n 0, 38, 0, 0, 0),
  (38, .getfield 18, 41, 2, 2, 0),
  (41, .iload 5, 43, 0, 0, 0),
  (43, .iaload, 44, 0, 0, 0),
  (44, .i2l, 45, 0, 0, 0),
  (45, .invokestatic 36, 48, 0, 0, 0),
  (48, .lstore_n 3, 49, 0, 0, 0),
  (49, .iinc 5 1, 52, 0, 0, 0),
  (52, .goto (-47), 55, 5, 0, 0),
  (55, .lload_n 3, 56, 0, 0, 0),
  (56, .lreturn, 57, 0, 0, 0)]
def YGu_mixInto : zY := (⟨"DiscLines$Guesses", "mixInto", "(J)J"⟩, 2, prog_4_method_5_code, 6, (some .long), rGu_mixInto)
theorem oGu_mixInto : zok YGu_mixInto := (by decide +kernel : YGu_mixInto.rows.all (zchk YGu_mixInto) = true)
theorem ckGu_mixInto : zCkV YGu_mixInto 1 2 := ⟨⟨zt 827 (by decide +kernel) rfl, zt 76 (by decide +kernel) rfl, by decide +kernel⟩, zt 825 (by decide +kernel) rfl, zt 826 (by decide +kernel) rfl, by decide⟩
def rLa_init : List zRow := [(0, .aload_n 0, 1, 0, 0, 0),
  (1, .invokespecial 3, 4, 0, 0, 0),
  (4, .aload_n 0, 5, 0, 0, 0),
  (5, .bipush 40, 7, 0, 0, 0),
  (7, .newarray .int, 9, 0, 0, 0),
  (9, .putfield 9, 12, 3, 0, 0),
  (12, .aload_n 0, 13, 0, 0, 0),
  (13, .iconst 1, 14, 0, 0, 0),
  (14, .putfield 15, 17, 3, 2, 0),
  (17, .aload_n 0, 18, 0, 0, 0),
  (18, .bipush 40, 20, 0, 0, 0),
  (20, .newarray .int, 22, 0, 0, 0),
  (22, .putfield 19, 25, 3, 3, 0),
  (25, .return_, 26, 0, 0, 0)]
def YLa_init : zY := (⟨"DiscLines$Law", "<init>", "()V"⟩, 3, prog_5_method_1_code, 1, none, rLa_init)
theorem oLa_init : zok YLa_init := (by decide +kernel : YLa_init.rows.all (zchk YLa_init) = true)
theorem ckLa_init : zCkI YLa_init 0 := ⟨⟨zt 122 (by decide +kernel) rfl, zt 74 (by decide +kernel) rfl, by decide +kernel⟩, zt 121 (by decide +kernel) rfl, rfl, rfl⟩
def rLa_append : List zRow := [(0, .aload_n 0, 1, 0, 0, 0),
  (1, .getfield 22, 4, 3, 1, 0),
  (4, .bipush 40, 6, 0, 0, 0),
  (6, .if_icmp .lt 6, 9, 12, 0, 0),
  (9, .bipush (-4), 11, 0, 0, 0),
  (11, .ireturn, 12, 0, 0, 0),
  (12, .aload_n 0, 13, 0, 0, 0),
  (13, .getfield 9, 16, 3, 0, 0),
  (16, .aload_n 0, 17, 0, 0, 0),
  (17, .getfield 22, 20, 3, 1, 0),
  (20, .iload_n 1, 21, 0, 0, 0),
  (21, .iastore, 22, 0, 0, 0),
  (22, .aload_n 0, 23, 0, 0, 0),
  (23, .dup, 24, 0, 0, 0),
  (24, .getfield 22, 27, 3, 1, 0),
  (27, .iconst 1, 28, 0, 0, 0),
  (28, .iadd, 29, 0, 0, 0),
  (29, .putfield 22, 32, 3, 1, 0),
  (32, .aload_n 0, 33, 0, 0, 0),
  (33, .invokevirtual 25, 36, 0, 0, 0),
  (36, .aload_n 0, 37, 0, 0, 0),
  (37, .getfield 22, 40, 3, 1, 0),
  (40, .ireturn, 41, 0, 0, 0)]
def YLa_append : zY := (⟨"DiscLines$Law", "append", "(I)I"⟩, 3, prog_5_method_2_code, 2, (some .int), rLa_append)
theorem oLa_append : zok YLa_append := (by decide +kernel : YLa_append.rows.all (zchk YLa_append) = true)
theorem ckLa_append : zCkV YLa_append 1 3 := ⟨⟨zt 401 (by decide +kernel) rfl, zt 74 (by decide +kernel) rfl, by decide +kernel⟩, zt 399 (by decide +kernel) rfl, zt 400 (by decide +kernel) rfl, by decide⟩
def rLa_empty : List zRow := [(0, .aload_n 0, 1, 0, 0, 0),
  (1, .getfield 22, 4, 3, 1, 0),
  (4, .istore_n 1, 5, 0, 0, 0),
  (5, .aload_n 0, 6, 0, 0, 0),
  (6, .iconst 0, 7, 0, 0, 0),
  (7, .putfield 22, 10, 3, 1, 0),
  (10, .aload_n 0, 11, 0, 0, 0),
  (11, .invokevirtual 25, 14, 0, 0, 0),
  (14, .iload_n 1, 15, 0, 0, 0),
  (15, .ireturn, 16, 0, 0, 0)]
def YLa_empty : zY := (⟨"DiscLines$Law", "empty", "()I"⟩, 3, prog_5_method_3_code, 2, (some .int), rLa_empty)
theorem oLa_empty : zok YLa_empty := (by decide +kernel : YLa_empty.rows.all (zchk YLa_empty) = true)
theorem ckLa_empty : zCkV YLa_empty 0 3 := ⟨⟨zt 460 (by decide +kernel) rfl, zt 74 (by decide +kernel) rfl, by decide +kernel⟩, zt 458 (by decide +kernel) rfl, zt 459 (by decide +kernel) rfl, by decide⟩
def rLa_copy : List zRow := [(0, .aload_n 1, 1, 0, 0, 0),
  (1, .getfield 9, 4, 3, 0, 0),
  (4, .aload_n 0, 5, 0, 0, 0),
  (5, .getfield 9, 8, 3, 0, 0),
  (8, .invokestatic 28, 11, 0, 0, 0),
  (11, .aload_n 0, 12, 0, 0, 0),
  (12, .aload_n 1, 13, 0, 0, 0),
  (13, .getfield 22, 16, 3, 1, 0),
  (16, .putfield 22, 19, 3, 1, 0),
  (19, .aload_n 0, 20, 0, 0, 0),
  (20, .aload_n 1, 21, 0, 0, 0),
  (21, .getfield 15, 24, 3, 2, 0),
  (24, .putfield 15, 27, 3, 2, 0),
  (27, .aload_n 1, 28, 0, 0, 0),
  (28, .getfield 19, 31, 3, 3, 0),
  (31, .aload_n 0, 32, 0, 0, 0),
  (32, .getfield 19, 35, 3, 3, 0),
  (35, .invokestatic 28, 38, 0, 0, 0),
  (38, .aload_n 0, 39, 0, 0, 0),
  (39, .aload_n 1, 40, 0, 0, 0),
  (40, .getfield 32, 43, 3, 4, 0),
  (43, .putfield 32, 46, 3, 4, 0),
  (46, .aload_n 0, 47, 0, 0, 0),
  (47, .aload_n 1, 48, 0, 0, 0),
  (48, .getfield 35, 51, 3, 5, 0),
  (51, .putfield 35, 54, 3, 5, 0),
  (54, .return_, 55, 0, 0, 0)]
def YLa_copy : zY := (⟨"DiscLines$Law", "copy", "(LDiscLines$Law;)V"⟩, 3, prog_5_method_4_code, 2, none, rLa_copy)
theorem oLa_copy : zok YLa_copy := (by decide +kernel : YLa_copy.rows.all (zchk YLa_copy) = true)
theorem ckLa_copy : zCkV YLa_copy 1 3 := ⟨⟨zt 771 (by decide +kernel) rfl, zt 74 (by decide +kernel) rfl, by decide +kernel⟩, zt 769 (by decide +kernel) rfl, zt 770 (by decide +kernel) rfl, by decide⟩
def rLa_mixInto : List zRow := [(0, .lload_n 1, 1, 0, 0, 0),
  (1, .aload_n 0, 2, 0, 0, 0),
  (2, .getfield 22, 5, 3, 1, 0),
  (5, .i2l, 6, 0, 0, 0),
  (6, .invokestatic 39, 9, 0, 0, 0),
  (9, .aload_n 0, 10, 0, 0, 0),
  (10, .getfield 9, 13, 3, 0, 0),
  (13, .aload_n 0, 14, 0, 0, 0),
  (14, .getfield 22, 17, 3, 1, 0),
  (17, .invokestatic 43, 20, 0, 0, 0),
  (20, .lreturn, 21, 0, 0, 0)]
def YLa_mixInto : zY := (⟨"DiscLines$Law", "mixInto", "(J)J"⟩, 3, prog_5_method_5_code, 3, (some .long), rLa_mixInto)
theorem oLa_mixInto : zok YLa_mixInto := (by decide +kernel : YLa_mixInto.rows.all (zchk YLa_mixInto) = true)
theorem ckLa_mixInto : zCkV YLa_mixInto 1 3 := ⟨⟨zt 816 (by decide +kernel) rfl, zt 74 (by decide +kernel) rfl, by decide +kernel⟩, zt 814 (by decide +kernel) rfl, zt 815 (by decide +kernel) rfl, by decide⟩
def rLa_read : List zRow := [(0, .aload_n 0, 1, 0, 0, 0),
  (1, .iconst (-1), 2, 0, 0, 0),
  (2, .putfield 15, 5, 3, 2, 0),
  (5, .aload_n 0, 6, 0, 0, 0),
  (6, .iconst 0, 7, 0, 0, 0),
  (7, .putfield 32, 10, 3, 4, 0),
  (10, .aload_n 0, 11, 0, 0, 0),
  (11, .iconst 0, 12, 0, 0, 0),
  (12, .putfield 35, 15, 3, 5, 0),
  (15, .aload_n 0, 16, 0, 0, 0),
  (16, .iconst 0, 17, 0, 0, 0),
  (17, .putfield 47, 20, 3, 6, 0),
  (20, .aload_n 0, 21, 0, 0, 0),
  (21, .iconst 0, 22, 0, 0, 0),
  (22, .iconst 0, 23, 0, 0, 0),
  (23, .invokevirtual 50, 26, 0, 0, 0),
  (26, .aload_n 0, 27, 0, 0, 0),
  (27, .invokevirtual 54, 30, 0, 0, 0),
  (30, .iconst (-1), 31, 0, 0, 0),
  (31, .if_icmp .eq 12, 34, 43, 0, 0),
  (34, .aload_n 0, 35, 0, 0, 0),
  (35, .aload_n 0, 36, 0, 0, 0),
  (36, .getfield 47, 39, 3, 6, 0),
  (39, .iconst 1, 40, 0, 0, 0),
  (40, .invokevirtual 58, 43, 0, 0, 0),
  (43, .return_, 44, 0, 0, 0)]
def YLa_read : zY := (⟨"DiscLines$Law", "read", "()V"⟩, 3, prog_5_method_6_code, 1, none, rLa_read)
theorem oLa_read : zok YLa_read := (by decide +kernel : YLa_read.rows.all (zchk YLa_read) = true)
theorem ckLa_read : zCkV YLa_read 0 3 := ⟨⟨zt 405 (by decide +kernel) rfl, zt 74 (by decide +kernel) rfl, by decide +kernel⟩, zt 404 (by decide +kernel) rfl, zt 4 (by decide +kernel) rfl, by decide⟩
def rLa_noteFault : List zRow := [(0, .aload_n 0, 1, 0, 0, 0),
  (1, .getfield 15, 4, 3, 2, 0),
  (4, .iconst (-1), 5, 0, 0, 0),
  (5, .if_icmp .ne 13, 8, 18, 0, 0),
  (8, .aload_n 0, 9, 0, 0, 0),
  (9, .bipush 10, 11, 0, 0, 0),
  (11, .iload_n 1, 12, 0, 0, 0),
  (12, .imul, 13, 0, 0, 0),
  (13, .iload_n 2, 14, 0, 0, 0),
  (14, .iadd, 15, 0, 0, 0),
  (15, .putfield 15, 18, 3, 2, 0),
  (18, .return_, 19, 0, 0, 0)]
def YLa_noteFault : zY := (⟨"DiscLines$Law", "noteFault", "(II)V"⟩, 3, prog_5_method_7_code, 3, none, rLa_noteFault)
theorem oLa_noteFault : zok YLa_noteFault := (by decide +kernel : YLa_noteFault.rows.all (zchk YLa_noteFault) = true)
theorem ckLa_noteFault : zCkV YLa_noteFault 2 3 := ⟨⟨zt 442 (by decide +kernel) rfl, zt 74 (by decide +kernel) rfl, by decide +kernel⟩, zt 441 (by decide +kernel) rfl, zt 11 (by decide +kernel) rfl, by decide⟩
def rLa_addStep : List zRow := [(0, .aload_n 0, 1, 0, 0, 0),
  (1, .getfield 32, 4, 3, 4, 0),
  (4, .bipush 40, 6, 0, 0, 0),
  (6, .if_icmp .ge 23, 9, 29, 0, 0),
  (9, .aload_n 0, 10, 0, 0, 0),
  (10, .getfield 19, 13, 3, 3, 0),
  (13, .aload_n 0, 14, 0, 0, 0),
  (14, .getfield 32, 17, 3, 4, 0),
  (17, .iload_n 1, 18, 0, 0, 0),
  (18, .iastore, 19, 0, 0, 0),
  (19, .aload_n 0, 20, 0, 0, 0),
  (20, .dup, 21, 0, 0, 0),
  (21, .getfield 32, 24, 3, 4, 0),
  (24, .iconst 1, 25, 0, 0, 0),
  (25, .iadd, 26, 0, 0, 0),
  (26, .putfield 32, 29, 3, 4, 0),
  (29, .return_, 30, 0, 0, 0)]
def YLa_addStep : zY := (⟨"DiscLines$Law", "addStep", "(I)V"⟩, 3, prog_5_method_8_code, 2, none, rLa_addStep)
theorem oLa_addStep : zok YLa_addStep := (by decide +kernel : YLa_addStep.rows.all (zchk YLa_addStep) = true)
theorem ckLa_addStep : zCkV YLa_addStep 1 3 := ⟨⟨zt 431 (by decide +kernel) rfl, zt 74 (by decide +kernel) rfl, by decide +kernel⟩, zt 430 (by decide +kernel) rfl, zt 9 (by decide +kernel) rfl, by decide⟩
def rLa_nextSign : List zRow := [(0, .aload_n 0, 1, 0, 0, 0),
  (1, .getfield 47, 4, 3, 6, 0),
  (4, .aload_n 0, 5, 0, 0, 0),
  (5, .getfield 22, 8, 3, 1, 0),
  (8, .if_icmp .ge 30, 11, 38, 0, 0),
  (11, .aload_n 0, 12, 0, 0, 0),
  (12, .getfield 9, 15, 3, 0, 0),
  (15, .aload_n 0, 16, 0, 0, 0),
  (16, .getfield 47, 19, 3, 6, 0),
  (19, .iaload, 20, 0, 0, 0),
  (20, .bipush 32, 22, 0, 0, 0),
  (22, .if_icmp .ne 16, 25, 38, 0, 0),
  (25, .aload_n 0, 26, 0, 0, 0),
  (26, .dup, 27, 0, 0, 0),
  (27, .getfield 47, 30, 3, 6, 0),
  (30, .iconst 1, 31, 0, 0, 0),
  (31, .iadd, 32, 0, 0, 0),
  (32, .putfield 47, 35, 3, 6, 0),
  (35, .goto (-35), 38, 0, 0, 0),
  (38, .aload_n 0, 39, 0, 0, 0),
  (39, .getfield 47, 42, 3, 6, 0),
  (42, .aload_n 0, 43, 0, 0, 0),
  (43, .getfield 22, 46, 3, 1, 0),
  (46, .if_icmp .ge 15, 49, 61, 0, 0),
  (49, .aload_n 0, 50, 0, 0, 0),
  (50, .getfield 9, 53, 3, 0, 0),
  (53, .aload_n 0, 54, 0, 0, 0),
  (54, .getfield 47, 57, 3, 6, 0),
  (57, .iaload, 58, 0, 0, 0),
  (58, .goto 4, 61, 62, 0, 0),
  (61, .iconst (-1), 62, 0, 0, 0),
  (62, .ireturn, 63, 0, 0, 0)]
def YLa_nextSign : zY := (⟨"DiscLines$Law", "nextSign", "()I"⟩, 3, prog_5_method_9_code, 1, (some .int), rLa_nextSign)
theorem oLa_nextSign : zok YLa_nextSign := (by decide +kernel : YLa_nextSign.rows.all (zchk YLa_nextSign) = true)
theorem ckLa_nextSign : zCkV YLa_nextSign 0 3 := ⟨⟨zt 424 (by decide +kernel) rfl, zt 74 (by decide +kernel) rfl, by decide +kernel⟩, zt 423 (by decide +kernel) rfl, zt 8 (by decide +kernel) rfl, by decide⟩
def rLa_readLevel : List zRow := [(0, .iload_n 1, 1, 0, 0, 0),
  (1, .iconst 5, 2, 0, 0, 0),
  (2, .if_icmp .lt 9, 5, 11, 0, 0),
  (5, .aload_n 0, 6, 0, 0, 0),
  (6, .iload_n 2, 7, 0, 0, 0),
  (7, .invokevirtual 61, 10, 0, 0, 0),
  (10, .return_, 11, 0, 0, 0),
  (11, .aload_n 0, 12, 0, 0, 0),
  (12, .iload_n 1, 13, 0, 0, 0),
  (13, .iconst 1, 14, 0, 0, 0),
  (14, .iadd, 15, 0, 0, 0),
  (15, .iload_n 2, 16, 0, 0, 0),
  (16, .invokevirtual 50, 19, 0, 0, 0),
  (19, .iload_n 1, 20, 0, 0, 0),
  (20, .iconst 2, 21, 0, 0, 0),
  (21, .if_icmp .ne 7, 24, 28, 0, 0),
  (24, .iconst 1, 25, 0, 0, 0),
  (25, .goto 5, 28, 30, 0, 0),
  (28, .bipush 40, 30, 0, 0, 0),
  (30, .istore_n 3, 31, 0, 0, 0),
  (31, .iconst 0, 32, 0, 0, 0),
  (32, .istore 4, 34, 0, 0, 0),
  (34, .iload 4, 36, 0, 0, 0),
  (36, .iload_n 3, 37, 0, 0, 0),
  (37, .if_icmp .ge 65, 40, 102, 0, 0),
  (40, .aload_n 0, 41, 0, 0, 0),
  (41, .getfield 15, 44, 3, 2, 0),
  (44, .iconst (-1), 45, 0, 0, 0),
  (45, .if_icmp .ne 57, 48, 102, 0, 0),
  (48, .aload_n 0, 49, 0, 0, 0),
  (49, .invokevirtual 54, 52, 0, 0, 0),
  (52, .invokestatic 65, 55, 0, 0, 0),
  (55, .istore 5, 57, 0, 0, 0),
  (57, .iload 5, 59, 0, 0, 0),
  (59, .ifCond .eq 12, 62, 71, 0, 0),
  (62, .iload 5, 64, 0, 0, 0),
  (64, .invokestatic 71, 67, 0, 0, 0),
  (67, .iload_n 1, 68, 0, 0, 0),
  (68, .if_icmp .eq 4, 71, 72, 0, 0),
  (71, .return_, 72, 0, 0, 0),
  (72, .aload_n 0, 73, 0, 0, 0),
  (73, .dup, 74, 0, 0, 0),
  (74, .getfield 47, 77, 3, 6, 0),
  (77, .iconst 1, 78, 0, 0, 0),
  (78, .iadd, 79, 0, 0, 0),
  (79, .putfield 47, 82, 3, 6, 0),
  (82, .aload_n 0, 83, 0, 0, 0),
  (83, .iload_n 1, 84, 0, 0, 0),
  (84, .iconst 1, 85, 0, 0, 0),
  (85, .iadd, 86, 0, 0, 0),
  (86, .iload_n 2, 87, 0, 0, 0),
  (87, .invokevirtual 50, 90, 0, 0, 0),
  (90, .aload_n 0, 91, 0, 0, 0),
  (91, .iload 5, 93, 0, 0, 0),
  (93, .invokevirtual 74, 96, 0, 0, 0),
  (96, .iinc 4 1, 99, 0, 0, 0),
  (99, .goto (-65), 102, 34, 0, 0),
  (102, .return_, 103, 0, 0, 0)]
def YLa_readLevel : zY := (⟨"DiscLines$Law", "readLevel", "(II)V"⟩, 3, prog_5_method_10_code, 6, none, rLa_readLevel)
theorem oLa_readLevel : zok YLa_readLevel := (by decide +kernel : YLa_readLevel.rows.all (zchk YLa_readLevel) = true)
theorem ckLa_readLevel : zCkV YLa_readLevel 2 3 := ⟨⟨zt 409 (by decide +kernel) rfl, zt 74 (by decide +kernel) rfl, by decide +kernel⟩, zt 408 (by decide +kernel) rfl, zt 5 (by decide +kernel) rfl, by decide⟩
def rLa_levelOf : List zRow := [(0, .iload_n 0, 1, 0, 0, 0),
  (1, .tableswitch 59 (-19) (-11) #[57, 57, 55, 55, 59, 59, 59, 53, 51], 52, 0, 0, 0),
  (52, .iconst 0, 53, 0, 0, 0),
  (53, .ireturn, 54, 0, 0, 0),
  (54, .iconst 1, 55, 0, 0, 0),
  (55, .ireturn, 56, 0, 0, 0),
  (56, .iconst 3, 57, 0, 0, 0),
  (57, .ireturn, 58, 0, 0, 0),
  (58, .iconst 4, 59, 0, 0, 0),
  (59, .ireturn, 60, 0, 0, 0),
  (60, .iconst 2, 61, 0, 0, 0),
  (61, .ireturn, 62, 0, 0, 0)]
def YLa_levelOf : zY := (⟨"DiscLines$Law", "levelOf", "(I)I"⟩, 3, prog_5_method_11_code, 1, (some .int), rLa_levelOf)
theorem oLa_levelOf : zok YLa_levelOf := (by decide +kernel : YLa_levelOf.rows.all (zchk YLa_levelOf) = true)
theorem ckLa_levelOf : zCkS YLa_levelOf 1 := ⟨⟨zt 452 (by decide +kernel) rfl, zt 74 (by decide +kernel) rfl, by decide +kernel⟩, zt 451 (by decide +kernel) rfl⟩
def rLa_readUnit : List zRow := [(0, .aload_n 0, 1, 0, 0, 0),
  (1, .getfield 47, 4, 3, 6, 0),
  (4, .istore_n 2, 5, 0, 0, 0),
  (5, .aload_n 0, 6, 0, 0, 0),
  (6, .getfield 47, 9, 3, 6, 0),
  (9, .aload_n 0, 10, 0, 0, 0),
  (10, .getfield 22, 13, 3, 1, 0),
  (13, .if_icmp .ge 31, 16, 44, 0, 0),
  (16, .aload_n 0, 17, 0, 0, 0),
  (17, .getfield 9, 20, 3, 0, 0),
  (20, .aload_n 0, 21, 0, 0, 0),
  (21, .getfield 47, 24, 3, 6, 0),
  (24, .iaload, 25, 0, 0, 0),
  (25, .invokestatic 77, 28, 0, 0, 0),
  (28, .ifCond .eq 16, 31, 44, 0, 0),
  (31, .aload_n 0, 32, 0, 0, 0),
  (32, .dup, 33, 0, 0, 0),
  (33, .getfield 47, 36, 3, 6, 0),
  (36, .iconst 1, 37, 0, 0, 0),
  (37, .iadd, 38, 0, 0, 0),
  (38, .putfield 47, 41, 3, 6, 0),
  (41, .goto (-36), 44, 5, 0, 0),
  (44, .aload_n 0, 45, 0, 0, 0),
  (45, .getfield 47, 48, 3, 6, 0),
  (48, .istore_n 3, 49, 0, 0, 0),
  (49, .aload_n 0, 50, 0, 0, 0),
  (50, .iload_n 1, 51, 0, 0, 0),
  (51, .invokevirtual 81, 54, 0, 0, 0),
  (54, .iload_n 3, 55, 0, 0, 0),
  (55, .iconst 1, 56, 0, 0, 0),
  (56, .isub, 57, 0, 0, 0),
  (57, .istore 4, 59, 0, 0, 0),
  (59, .iload 4, 61, 0, 0, 0),
  (61, .iload_n 2, 62, 0, 0, 0),
  (62, .if_icmp .lt 48, 65, 110, 0, 0),
  (65, .aload_n 0, 66, 0, 0, 0),
  (66, .getfield 9, 69, 3, 0, 0),
  (69, .iload 4, 71, 0, 0, 0),
  (71, .iaload, 72, 0, 0, 0),
  (72, .bipush 33, 74, 0, 0, 0),
  (74, .if_icmp .ne 12, 77, 86, 0, 0),
  (77, .aload_n 0, 78, 0, 0, 0),
  (78, .bipush (-21), 80, 0, 0, 0),
  (80, .invokevirtual 74, 83, 0, 0, 0),
  (83, .goto 21, 86, 104, 0, 0),
  (86, .aload_n 0, 87, 0, 0, 0),
  (87, .getfield 9, 90, 3, 0, 0),
  (90, .iload 4, 92, 0, 0, 0),
  (92, .iaload, 93, 0, 0, 0),
  (93, .bipush 45, 95, 0, 0, 0),
  (95, .if_icmp .ne 9, 98, 104, 0, 0),
  (98, .aload_n 0, 99, 0, 0, 0),
  (99, .bipush (-22), 101, 0, 0, 0),
  (101, .invokevirtual 74, 104, 0, 0, 0),
  (104, .iinc 4 (-1), 107, 0, 0, 0),
  (107, .goto (-48), 110, 59, 0, 0),
  (110, .return_, 111, 0, 0, 0)]
def YLa_readUnit : zY := (⟨"DiscLines$Law", "readUnit", "(I)V"⟩, 3, prog_5_method_12_code, 5, none, rLa_readUnit)
theorem oLa_readUnit : zok YLa_readUnit := (by decide +kernel : YLa_readUnit.rows.all (zchk YLa_readUnit) = true)
theorem ckLa_readUnit : zCkV YLa_readUnit 1 3 := ⟨⟨zt 413 (by decide +kernel) rfl, zt 74 (by decide +kernel) rfl, by decide +kernel⟩, zt 412 (by decide +kernel) rfl, zt 6 (by decide +kernel) rfl, by decide⟩
def rLa_isPrefix : List zRow := [(0, .iload_n 0, 1, 0, 0, 0),
  (1, .bipush 33, 3, 0, 0, 0),
  (3, .if_icmp .eq 15, 6, 18, 0, 0),
  (6, .iload_n 0, 7, 0, 0, 0),
  (7, .bipush 45, 9, 0, 0, 0),
  (9, .if_icmp .eq 9, 12, 18, 0, 0),
  (12, .iload_n 0, 13, 0, 0, 0),
  (13, .bipush 32, 15, 0, 0, 0),
  (15, .if_icmp .ne 7, 18, 22, 0, 0),
  (18, .iconst 1, 19, 0, 0, 0),
  (19, .goto 4, 22, 23, 0, 0),
  (22, .iconst 0, 23, 0, 0, 0),
  (23, .ireturn, 24, 0, 0, 0)]
def YLa_isPrefix : zY := (⟨"DiscLines$Law", "isPrefix", "(I)Z"⟩, 3, prog_5_method_13_code, 1, (some .boolean), rLa_isPrefix)
theorem oLa_isPrefix : zok YLa_isPrefix := (by decide +kernel : YLa_isPrefix.rows.all (zchk YLa_isPrefix) = true)
theorem ckLa_isPrefix : zCkS YLa_isPrefix 1 := ⟨⟨zt 416 (by decide +kernel) rfl, zt 74 (by decide +kernel) rfl, by decide +kernel⟩, zt 415 (by decide +kernel) rfl⟩
def rLa_isDigit : List zRow := [(0, .iload_n 0, 1, 0, 0, 0),
  (1, .bipush 48, 3, 0, 0, 0),
  (3, .if_icmp .lt 13, 6, 16, 0, 0),
  (6, .iload_n 0, 7, 0, 0, 0),
  (7, .bipush 57, 9, 0, 0, 0),
  (9, .if_icmp .gt 7, 12, 16, 0, 0),
  (12, .iconst 1, 13, 0, 0, 0),
  (13, .goto 4, 16, 17, 0, 0),
  (16, .iconst 0, 17, 0, 0, 0),
  (17, .ireturn, 18, 0, 0, 0)]
def YLa_isDigit : zY := (⟨"DiscLines$Law", "isDigit", "(I)Z"⟩, 3, prog_5_method_14_code, 1, (some .boolean), rLa_isDigit)
theorem oLa_isDigit : zok YLa_isDigit := (by decide +kernel : YLa_isDigit.rows.all (zchk YLa_isDigit) = true)
theorem ckLa_isDigit : zCkS YLa_isDigit 1 := ⟨⟨zt 434 (by decide +kernel) rfl, zt 74 (by decide +kernel) rfl, by decide +kernel⟩, zt 433 (by decide +kernel) rfl⟩
def rLa_readPlainUnit : List zRow := [(0, .aload_n 0, 1, 0, 0, 0),
  (1, .invokevirtual 54, 4, 0, 0, 0),
  (4, .istore_n 2, 5, 0, 0, 0),
  (5, .iload_n 2, 6, 0, 0, 0),
  (6, .invokestatic 84, 9, 0, 0, 0),
  (9, .istore_n 3, 10, 0, 0, 0),
  (10, .iload_n 3, 11, 0, 0, 0),
  (11, .ifCond .eq 43, 14, 54, 0, 0),
  (14, .aload_n 0, 15, 0, 0, 0),
  (15, .dup, 16, 0, 0, 0),
  (16, .getfield 47, 19, 3, 6, 0),
  (19, .iconst 1, 20, 0, 0, 0),
  (20, .iadd, 21, 0, 0, 0),
  (21, .putfield 47, 24, 3, 6, 0),
  (24, .aload_n 0, 25, 0, 0, 0),
  (25, .aload_n 0, 26, 0, 0, 0),
  (26, .getfield 35, 29, 3, 5, 0),
  (29, .ifCond .ne 9, 32, 38, 0, 0),
  (32, .iload_n 3, 33, 0, 0, 0),
  (33, .bipush (-5), 35, 0, 0, 0),
  (35, .if_icmp .ne 7, 38, 42, 0, 0),
  (38, .iconst 1, 39, 0, 0, 0),
  (39, .goto 4, 42, 43, 0, 0),
  (42, .iconst 0, 43, 0, 0, 0),
  (43, .putfield 35, 46, 3, 5, 0),
  (46, .aload_n 0, 47, 0, 0, 0),
  (47, .iload_n 3, 48, 0, 0, 0),
  (48, .invokevirtual 74, 51, 0, 0, 0),
  (51, .goto 40, 54, 91, 0, 0),
  (54, .iload_n 2, 55, 0, 0, 0),
  (55, .invokestatic 87, 58, 0, 0, 0),
  (58, .ifCond .eq 10, 61, 68, 0, 0),
  (61, .aload_n 0, 62, 0, 0, 0),
  (62, .invokevirtual 90, 65, 0, 0, 0),
  (65, .goto 26, 68, 91, 0, 0),
  (68, .iload_n 2, 69, 0, 0, 0),
  (69, .bipush 40, 71, 0, 0, 0),
  (71, .if_icmp .ne 11, 74, 82, 0, 0),
  (74, .aload_n 0, 75, 0, 0, 0),
  (75, .iload_n 1, 76, 0, 0, 0),
  (76, .invokevirtual 93, 79, 0, 0, 0),
  (79, .goto 12, 82, 91, 0, 0),
  (82, .aload_n 0, 83, 0, 0, 0),
  (83, .aload_n 0, 84, 0, 0, 0),
  (84, .getfield 47, 87, 3, 6, 0),
  (87, .iconst 1, 88, 0, 0, 0),
  (88, .invokevirtual 58, 91, 0, 0, 0),
  (91, .return_, 92, 0, 0, 0)]
def YLa_readPlainUnit : zY := (⟨"DiscLines$Law", "readPlainUnit", "(I)V"⟩, 3, prog_5_method_15_code, 4, none, rLa_readPlainUnit)
theorem oLa_readPlainUnit : zok YLa_readPlainUnit := (by decide +kernel : YLa_readPlainUnit.rows.all (zchk YLa_readPlainUnit) = true)
theorem ckLa_readPlainUnit : zCkV YLa_readPlainUnit 1 3 := ⟨⟨zt 420 (by decide +kernel) rfl, zt 74 (by decide +kernel) rfl, by decide +kernel⟩, zt 419 (by decide +kernel) rfl, zt 7 (by decide +kernel) rfl, by decide⟩
def rLa_readDigits : List zRow := [(0, .aload_n 0, 1, 0, 0, 0),
  (1, .getfield 47, 4, 3, 6, 0),
  (4, .istore_n 1, 5, 0, 0, 0),
  (5, .iconst 0, 6, 0, 0, 0),
  (6, .istore_n 2, 7, 0, 0, 0),
  (7, .aload_n 0, 8, 0, 0, 0),
  (8, .getfield 47, 11, 3, 6, 0),
  (11, .aload_n 0, 12, 0, 0, 0),
  (12, .getfield 22, 15, 3, 1, 0),
  (15, .if_icmp .ge 60, 18, 75, 0, 0),
  (18, .aload_n 0, 19, 0, 0, 0),
  (19, .getfield 9, 22, 3, 0, 0),
  (22, .aload_n 0, 23, 0, 0, 0),
  (23, .getfield 47, 26, 3, 6, 0),
  (26, .iaload, 27, 0, 0, 0),
  (27, .invokestatic 87, 30, 0, 0, 0),
  (30, .ifCond .eq 45, 33, 75, 0, 0),
  (33, .aload_n 0, 34, 0, 0, 0),
  (34, .getfield 47, 37, 3, 6, 0),
  (37, .iload_n 1, 38, 0, 0, 0),
  (38, .isub, 39, 0, 0, 0),
  (39, .bipush 6, 41, 0, 0, 0),
  (41, .if_icmp .ge 21, 44, 62, 0, 0),
  (44, .bipush 10, 46, 0, 0, 0),
  (46, .iload_n 2, 47, 0, 0, 0),
  (47, .imul, 48, 0, 0, 0),
  (48, .aload_n 0, 49, 0, 0, 0),
  (49, .getfield 9, 52, 3, 0, 0),
  (52, .aload_n 0, 53, 0, 0, 0),
  (53, .getfield 47, 56, 3, 6, 0),
  (56, .iaload, 57, 0, 0, 0),
  (57, .iadd, 58, 0, 0, 0),
  (58, .bipush 48, 60, 0, 0, 0),
  (60, .isub, 61, 0, 0, 0),
  (61, .istore_n 2, 62, 0, 0, 0),
  (62, .aload_n 0, 63, 0, 0, 0),
  (63, .dup, 64, 0, 0, 0),
  (64, .getfield 47, 67, 3, 6, 0),
  (67, .iconst 1, 68, 0, 0, 0),
  (68, .iadd, 69, 0, 0, 0),
  (69, .putfield 47, 72, 3, 6, 0),
  (72, .goto (-65), 75, 7, 0, 0),
  (75, .aload_n 0, 76, 0, 0, 0),
  (76, .getfield 47, 79, 3, 6, 0),
  (79, .iload_n 1, 80, 0, 0, 0),
  (80, .isub, 81, 0, 0, 0),
  (81, .bipush 6, 83, 0, 0, 0),
  (83, .if_icmp .le 9, 86, 92, 0, 0),
  (86, .aload_n 0, 87, 0, 0, 0),
  (87, .iload_n 1, 88, 0, 0, 0),
  (88, .iconst 2, 89, 0, 0, 0),
  (89, .invokevirtual 58, 92, 0, 0, 0),
  (92, .aload_n 0, 93, 0, 0, 0),
  (93, .iload_n 2, 94, 0, 0, 0),
  (94, .invokevirtual 74, 97, 0, 0, 0),
  (97, .return_, 98, 0, 0, 0)]
def YLa_readDigits : zY := (⟨"DiscLines$Law", "readDigits", "()V"⟩, 3, prog_5_method_16_code, 3, none, rLa_readDigits)
theorem oLa_readDigits : zok YLa_readDigits := (by decide +kernel : YLa_readDigits.rows.all (zchk YLa_readDigits) = true)
theorem ckLa_readDigits : zCkV YLa_readDigits 0 3 := ⟨⟨zt 438 (by decide +kernel) rfl, zt 74 (by decide +kernel) rfl, by decide +kernel⟩, zt 437 (by decide +kernel) rfl, zt 10 (by decide +kernel) rfl, by decide⟩
def rLa_readInside : List zRow := [(0, .iload_n 1, 1, 0, 0, 0),
  (1, .bipush 8, 3, 0, 0, 0),
  (3, .if_icmp .lt 13, 6, 16, 0, 0),
  (6, .aload_n 0, 7, 0, 0, 0),
  (7, .aload_n 0, 8, 0, 0, 0),
  (8, .getfield 47, 11, 3, 6, 0),
  (11, .iconst 3, 12, 0, 0, 0),
  (12, .invokevirtual 58, 15, 0, 0, 0),
  (15, .return_, 16, 0, 0, 0),
  (16, .aload_n 0, 17, 0, 0, 0),
  (17, .dup, 18, 0, 0, 0),
  (18, .getfield 47, 21, 3, 6, 0),
  (21, .iconst 1, 22, 0, 0, 0),
  (22, .iadd, 23, 0, 0, 0),
  (23, .putfield 47, 26, 3, 6, 0),
  (26, .aload_n 0, 27, 0, 0, 0),
  (27, .iconst 0, 28, 0, 0, 0),
  (28, .iload_n 1, 29, 0, 0, 0),
  (29, .iconst 1, 30, 0, 0, 0),
  (30, .iadd, 31, 0, 0, 0),
  (31, .invokevirtual 50, 34, 0, 0, 0),
  (34, .aload_n 0, 35, 0, 0, 0),
  (35, .invokevirtual 54, 38, 0, 0, 0),
  (38, .bipush 41, 40, 0, 0, 0),
  (40, .if_icmp .ne 16, 43, 56, 0, 0),
  (43, .aload_n 0, 44, 0, 0, 0),
  (44, .dup, 45, 0, 0, 0),
  (45, .getfield 47, 48, 3, 6, 0),
  (48, .iconst 1, 49, 0, 0, 0),
  (49, .iadd, 50, 0, 0, 0),
  (50, .putfield 47, 53, 3, 6, 0),
  (53, .goto 12, 56, 65, 0, 0),
  (56, .aload_n 0, 57, 0, 0, 0),
  (57, .aload_n 0, 58, 0, 0, 0),
  (58, .getfield 47, 61, 3, 6, 0),
  (61, .iconst 1, 62, 0, 0, 0),
  (62, .invokevirtual 58, 65, 0, 0, 0),
  (65, .return_, 66, 0, 0, 0)]
def YLa_readInside : zY := (⟨"DiscLines$Law", "readInside", "(I)V"⟩, 3, prog_5_method_17_code, 2, none, rLa_readInside)
theorem oLa_readInside : zok YLa_readInside := (by decide +kernel : YLa_readInside.rows.all (zchk YLa_readInside) = true)
theorem ckLa_readInside : zCkV YLa_readInside 1 3 := ⟨⟨zt 446 (by decide +kernel) rfl, zt 74 (by decide +kernel) rfl, by decide +kernel⟩, zt 445 (by decide +kernel) rfl, zt 12 (by decide +kernel) rfl, by decide⟩
def rPi_init : List zRow := [(0, .aload_n 0, 1, 0, 0, 0),
  (1, .invokespecial 3, 4, 0, 0, 0),
  (4, .aload_n 0, 5, 0, 0, 0),
  (5, .bipush 81, 7, 0, 0, 0),
  (7, .newarray .int, 9, 0, 0, 0),
  (9, .putfield 9, 12, 4, 0, 0),
  (12, .aload_n 0, 13, 0, 0, 0),
  (13, .bipush 100, 15, 0, 0, 0),
  (15, .newarray .int, 17, 0, 0, 0),
  (17, .putfield 15, 20, 4, 1, 0),
  (20, .aload_n 0, 21, 0, 0, 0),
  (21, .bipush 81, 23, 0, 0, 0),
  (23, .newarray .int, 25, 0, 0, 0),
  (25, .putfield 18, 28, 4, 2, 0),
  (28, .return_, 29, 0, 0, 0)]
def YPi_init : zY := (⟨"DiscLines$Picture", "<init>", "()V"⟩, 4, prog_6_method_1_code, 1, none, rPi_init)
theorem oPi_init : zok YPi_init := (by decide +kernel : YPi_init.rows.all (zchk YPi_init) = true)
theorem ckPi_init : zCkI YPi_init 0 := ⟨⟨zt 265 (by decide +kernel) rfl, zt 78 (by decide +kernel) rfl, by decide +kernel⟩, zt 264 (by decide +kernel) rfl, rfl, rfl⟩
def rPi_takeWorld : List zRow := [(0, .iconst 0, 1, 0, 0, 0),
  (1, .istore 5, 3, 0, 0, 0),
  (3, .iload 5, 5, 0, 0, 0),
  (5, .bipush 81, 7, 0, 0, 0),
  (7, .if_icmp .ge 23, 10, 30, 0, 0),
  (10, .aload_n 0, 11, 0, 0, 0),
  (11, .getfield 9, 14, 4, 0, 0),
  (14, .iload 5, 16, 0, 0, 0),
  (16, .aload_n 1, 17, 0, 0, 0),
  (17, .iload 5, 19, 0, 0, 0),
  (19, .iload_n 2, 20, 0, 0, 0),
  (20, .invokevirtual 21, 23, 0, 0, 0),
  (23, .iastore, 24, 0, 0, 0),
  (24, .iinc 5 1, 27, 0, 0, 0),
  (27, .goto (-24), 30, 3, 0, 0),
  (30, .aload_n 0, 31, 0, 0, 0),
  (31, .iload_n 3, 32, 0, 0, 0),
  (32, .putfield 27, 35, 4, 3, 0),
  (35, .aload_n 0, 36, 0, 0, 0),
  (36, .invokevirtual 31, 39, 0, 0, 0),
  (39, .iload 4, 41, 0, 0, 0),
  (41, .iconst 5, 42, 0, 0, 0),
  (42, .invokestatic 34, 45, 0, 0, 0),
  (45, .ifCond .eq 19, 48, 64, 0, 0),
  (48, .aload_n 0, 49, 0, 0, 0),
  (49, .getstatic 38, 52, 0, 0, 0),
  (52, .iload 4, 54, 0, 0, 0),
  (54, .iaload, 55, 0, 0, 0),
  (55, .getstatic 41, 58, 0, 0, 0),
  (58, .iload 4, 60, 0, 0, 0),
  (60, .iaload, 61, 0, 0, 0),
  (61, .invokevirtual 44, 64, 0, 0, 0),
  (64, .return_, 65, 0, 0, 0)]
def YPi_takeWorld : zY := (⟨"DiscLines$Picture", "takeWorld", "(LDiscLines$World;III)V"⟩, 4, prog_6_method_2_code, 6, none, rPi_takeWorld)
theorem oPi_takeWorld : zok YPi_takeWorld := (by decide +kernel : YPi_takeWorld.rows.all (zchk YPi_takeWorld) = true)
theorem ckPi_takeWorld : zCkV YPi_takeWorld 4 4 := ⟨⟨zt 356 (by decide +kernel) rfl, zt 78 (by decide +kernel) rfl, by decide +kernel⟩, zt 354 (by decide +kernel) rfl, zt 355 (by decide +kernel) rfl, by decide⟩
def rPi_takeSpots : List zRow := [(0, .aload_n 0, 1, 0, 0, 0),
  (1, .getfield 9, 4, 4, 0, 0),
  (4, .iconst 0, 5, 0, 0, 0),
  (5, .invokestatic 48, 8, 0, 0, 0),
  (8, .iconst 0, 9, 0, 0, 0),
  (9, .istore 4, 11, 0, 0, 0),
  (11, .iload 4, 13, 0, 0, 0),
  (13, .aload_n 2, 14, 0, 0, 0),
  (14, .arraylength, 15, 0, 0, 0),
  (15, .if_icmp .ge 39, 18, 54, 0, 0),
  (18, .aload_n 2, 19, 0, 0, 0),
  (19, .iload 4, 21, 0, 0, 0),
  (21, .iaload, 22, 0, 0, 0),
  (22, .bipush 81, 24, 0, 0, 0),
  (24, .invokestatic 34, 27, 0, 0, 0),
  (27, .ifCond .eq 21, 30, 48, 0, 0),
  (30, .aload_n 0, 31, 0, 0, 0),
  (31, .getfield 9, 34, 4, 0, 0),
  (34, .aload_n 2, 35, 0, 0, 0),
  (35, .iload 4, 37, 0, 0, 0),
  (37, .iaload, 38, 0, 0, 0),
  (38, .aload_n 1, 39, 0, 0, 0),
  (39, .getfield 54, 42, 6, 0, 0),
  (42, .aload_n 2, 43, 0, 0, 0),
  (43, .iload 4, 45, 0, 0, 0),
  (45, .iaload, 46, 0, 0, 0),
  (46, .iaload, 47, 0, 0, 0),
  (47, .iastore, 48, 0, 0, 0),
  (48, .iinc 4 1, 51, 0, 0, 0),
  (51, .goto (-40), 54, 11, 0, 0),
  (54, .aload_n 0, 55, 0, 0, 0),
  (55, .iload_n 3, 56, 0, 0, 0),
  (56, .putfield 27, 59, 4, 3, 0),
  (59, .aload_n 0, 60, 0, 0, 0),
  (60, .invokevirtual 31, 63, 0, 0, 0),
  (63, .aload_n 0, 64, 0, 0, 0),
  (64, .iconst 0, 65, 0, 0, 0),
  (65, .iconst 0, 66, 0, 0, 0),
  (66, .invokevirtual 44, 69, 0, 0, 0),
  (69, .return_, 70, 0, 0, 0)]
def YPi_takeSpots : zY := (⟨"DiscLines$Picture", "takeSpots", "(LDiscLines$World;[II)V"⟩, 4, prog_6_method_3_code, 5, none, rPi_takeSpots)
theorem oPi_takeSpots : zok YPi_takeSpots := (by decide +kernel : YPi_takeSpots.rows.all (zchk YPi_takeSpots) = true)
theorem ckPi_takeSpots : zCkV YPi_takeSpots 3 4 := ⟨⟨zt 520 (by decide +kernel) rfl, zt 78 (by decide +kernel) rfl, by decide +kernel⟩, zt 518 (by decide +kernel) rfl, zt 519 (by decide +kernel) rfl, by decide⟩
def rPi_addUp : List zRow := [(0, .iconst 0, 1, 0, 0, 0),
  (1, .istore_n 1, 2, 0, 0, 0),
  (2, .iload_n 1, 3, 0, 0, 0),
  (3, .bipush 9, 5, 0, 0, 0),
  (5, .if_icmp .ge 70, 8, 75, 0, 0),
  (8, .iconst 0, 9, 0, 0, 0),
  (9, .istore_n 2, 10, 0, 0, 0),
  (10, .iconst 0, 11, 0, 0, 0),
  (11, .istore_n 3, 12, 0, 0, 0),
  (12, .iload_n 3, 13, 0, 0, 0),
  (13, .bipush 9, 15, 0, 0, 0),
  (15, .if_icmp .ge 54, 18, 69, 0, 0),
  (18, .iload_n 2, 19, 0, 0, 0),
  (19, .aload_n 0, 20, 0, 0, 0),
  (20, .getfield 9, 23, 4, 0, 0),
  (23, .bipush 9, 25, 0, 0, 0),
  (25, .iload_n 1, 26, 0, 0, 0),
  (26, .imul, 27, 0, 0, 0),
  (27, .iload_n 3, 28, 0, 0, 0),
  (28, .iadd, 29, 0, 0, 0),
  (29, .iaload, 30, 0, 0, 0),
  (30, .iadd, 31, 0, 0, 0),
  (31, .istore_n 2, 32, 0, 0, 0),
  (32, .bipush 10, 34, 0, 0, 0),
  (34, .iload_n 1, 35, 0, 0, 0),
  (35, .iconst 1, 36, 0, 0, 0),
  (36, .iadd, 37, 0, 0, 0),
  (37, .imul, 38, 0, 0, 0),
  (38, .iload_n 3, 39, 0, 0, 0),
  (39, .iadd, 40, 0, 0, 0),
  (40, .iconst 1, 41, 0, 0, 0),
  (41, .iadd, 42, 0, 0, 0),
  (42, .istore 4, 44, 0, 0, 0),
  (44, .aload_n 0, 45, 0, 0, 0),
  (45, .getfield 15, 48, 4, 1, 0),
  (48, .iload 4, 50, 0, 0, 0),
  (50, .aload_n 0, 51, 0, 0, 0),
  (51, .getfield 15, 54, 4, 1, 0),
  (54, .iload 4, 56, 0, 0, 0),
  (56, .bipush 10, 58, 0, 0, 0),
  (58, .isub, 59, 0, 0, 0),
  (59, .iaload, 60, 0, 0, 0),
  (60, .iload_n 2, 61, 0, 0, 0),
  (61, .iadd, 62, 0, 0, 0),
  (62, .iastore, 63, 0, 0, 0),
  (63, .iinc 3 1, 66, 0, 0, 0),
  (66, .goto (-54), 69, 12, 0, 0),
  (69, .iinc 1 1, 72, 0, 0, 0),
  (72, .goto (-70), 75, 2, 0, 0),
  (75, .return_, 76, 0, 0, 0)]
def YPi_addUp : zY := (⟨"DiscLines$Picture", "addUp", "()V"⟩, 4, prog_6_method_4_code, 5, none, rPi_addUp)
theorem oPi_addUp : zok YPi_addUp := (by decide +kernel : YPi_addUp.rows.all (zchk YPi_addUp) = true)
theorem ckPi_addUp : zCkV YPi_addUp 0 4 := ⟨⟨zt 370 (by decide +kernel) rfl, zt 78 (by decide +kernel) rfl, by decide +kernel⟩, zt 369 (by decide +kernel) rfl, zt 1 (by decide +kernel) rfl, by decide⟩
def rPi_blur : List zRow := [(0, .iconst 0, 1, 0, 0, 0),
  (1, .istore_n 3, 2, 0, 0, 0),
  (2, .iload_n 3, 3, 0, 0, 0),
  (3, .bipush 9, 5, 0, 0, 0),
  (5, .if_icmp .ge 88, 8, 93, 0, 0),
  (8, .iload_n 3, 9, 0, 0, 0),
  (9, .iload_n 1, 10, 0, 0, 0),
  (10, .iadd, 11, 0, 0, 0),
  (11, .bipush 9, 13, 0, 0, 0),
  (13, .invokestatic 34, 16, 0, 0, 0),
  (16, .ifCond .eq 9, 19, 25, 0, 0),
  (19, .iload_n 3, 20, 0, 0, 0),
  (20, .iload_n 1, 21, 0, 0, 0),
  (21, .iadd, 22, 0, 0, 0),
  (22, .goto 4, 25, 26, 0, 0),
  (25, .iload_n 3, 26, 0, 0, 0),
  (26, .istore 4, 28, 0, 0, 0),
  (28, .iconst 0, 29, 0, 0, 0),
  (29, .istore 5, 31, 0, 0, 0),
  (31, .iload 5, 33, 0, 0, 0),
  (33, .bipush 9, 35, 0, 0, 0),
  (35, .if_icmp .ge 52, 38, 87, 0, 0),
  (38, .iload 5, 40, 0, 0, 0),
  (40, .iload_n 2, 41, 0, 0, 0),
  (41, .iadd, 42, 0, 0, 0),
  (42, .bipush 9, 44, 0, 0, 0),
  (44, .invokestatic 34, 47, 0, 0, 0),
  (47, .ifCond .eq 10, 50, 57, 0, 0),
  (50, .iload 5, 52, 0, 0, 0),
  (52, .iload_n 2, 53, 0, 0, 0),
  (53, .iadd, 54, 0, 0, 0),
  (54, .goto 5, 57, 59, 0, 0),
  (57, .iload 5, 59, 0, 0, 0),
  (59, .istore 6, 61, 0, 0, 0),
  (61, .aload_n 0, 62, 0, 0, 0),
  (62, .getfield 18, 65, 4, 2, 0),
  (65, .bipush 9, 67, 0, 0, 0),
  (67, .iload_n 3, 68, 0, 0, 0),
  (68, .imul, 69, 0, 0, 0),
  (69, .iload 5, 71, 0, 0, 0),
  (71, .iadd, 72, 0, 0, 0),
  (72, .aload_n 0, 73, 0, 0, 0),
  (73, .iload 4, 75, 0, 0, 0),
  (75, .iload 6, 77, 0, 0, 0),
  (77, .invokevirtual 55, 80, 0, 0, 0),
  (80, .iastore, 81, 0, 0, 0),
  (81, .iinc 5 1, 84, 0, 0, 0),
  (84, .goto (-53), 87, 31, 0, 0),
  (87, .iinc 3 1, 90, 0, 0, 0),
  (90, .goto (-88), 93, 2, 0, 0),
  (93, .return_, 94, 0, 0, 0)]
def YPi_blur : zY := (⟨"DiscLines$Picture", "blur", "(II)V"⟩, 4, prog_6_method_5_code, 7, none, rPi_blur)
theorem oPi_blur : zok YPi_blur := (by decide +kernel : YPi_blur.rows.all (zchk YPi_blur) = true)
theorem ckPi_blur : zCkV YPi_blur 2 4 := ⟨⟨zt 379 (by decide +kernel) rfl, zt 78 (by decide +kernel) rfl, by decide +kernel⟩, zt 378 (by decide +kernel) rfl, zt 2 (by decide +kernel) rfl, by decide⟩
def rPi_blurredAt : List zRow := [(0, .iconst 0, 1, 0, 0, 0),
  (1, .iload_n 1, 2, 0, 0, 0),
  (2, .aload_n 0, 3, 0, 0, 0),
  (3, .getfield 27, 6, 4, 3, 0),
  (6, .isub, 7, 0, 0, 0),
  (7, .invokestatic 58, 10, 0, 0, 0),
  (10, .istore_n 3, 11, 0, 0, 0),
  (11, .bipush 9, 13, 0, 0, 0),
  (13, .iload_n 1, 14, 0, 0, 0),
  (14, .aload_n 0, 15, 0, 0, 0),
  (15, .getfield 27, 18, 4, 3, 0),
  (18, .iadd, 19, 0, 0, 0),
  (19, .iconst 1, 20, 0, 0, 0),
  (20, .iadd, 21, 0, 0, 0),
  (21, .invokestatic 63, 24, 0, 0, 0),
  (24, .istore 4, 26, 0, 0, 0),
  (26, .iconst 0, 27, 0, 0, 0),
  (27, .iload_n 2, 28, 0, 0, 0),
  (28, .aload_n 0, 29, 0, 0, 0),
  (29, .getfield 27, 32, 4, 3, 0),
  (32, .isub, 33, 0, 0, 0),
  (33, .invokestatic 58, 36, 0, 0, 0),
  (36, .istore 5, 38, 0, 0, 0),
  (38, .bipush 9, 40, 0, 0, 0),
  (40, .iload_n 2, 41, 0, 0, 0),
  (41, .aload_n 0, 42, 0, 0, 0),
  (42, .getfield 27, 45, 4, 3, 0),
  (45, .iadd, 46, 0, 0, 0),
  (46, .iconst 1, 47, 0, 0, 0),
  (47, .iadd, 48, 0, 0, 0),
  (48, .invokestatic 63, 51, 0, 0, 0),
  (51, .istore 6, 53, 0, 0, 0),
  (53, .iload 4, 55, 0, 0, 0),
  (55, .iload_n 3, 56, 0, 0, 0),
  (56, .isub, 57, 0, 0, 0),
  (57, .iload 6, 59, 0, 0, 0),
  (59, .iload 5, 61, 0, 0, 0),
  (61, .isub, 62, 0, 0, 0),
  (62, .imul, 63, 0, 0, 0),
  (63, .istore 7, 65, 0, 0, 0),
  (65, .aload_n 0, 66, 0, 0, 0),
  (66, .getfield 15, 69, 4, 1, 0),
  (69, .bipush 10, 71, 0, 0, 0),
  (71, .iload 4, 73, 0, 0, 0),
  (73, .imul, 74, 0, 0, 0),
  (74, .iload 6, 76, 0, 0, 0),
  (76, .iadd, 77, 0, 0, 0),
  (77, .iaload, 78, 0, 0, 0),
  (78, .aload_n 0, 79, 0, 0, 0),
  (79, .getfield 15, 82, 4, 1, 0),
  (82, .bipush 10, 84, 0, 0, 0),
  (84, .iload_n 3, 85, 0, 0, 0),
  (85, .imul, 86, 0, 0, 0),
  (86, .iload 6, 88, 0, 0, 0),
  (88, .iadd, 89, 0, 0, 0),
  (89, .iaload, 90, 0, 0, 0),
  (90, .isub, 91, 0, 0, 0),
  (91, .aload_n 0, 92, 0, 0, 0),
  (92, .getfield 15, 95, 4, 1, 0),
  (95, .bipush 10, 97, 0, 0, 0),
  (97, .iload 4, 99, 0, 0, 0),
  (99, .imul, 100, 0, 0, 0),
  (100, .iload 5, 102, 0, 0, 0),
  (102, .iadd, 103, 0, 0, 0),
  (103, .iaload, 104, 0, 0, 0),
  (104, .isub, 105, 0, 0, 0),
  (105, .aload_n 0, 106, 0, 0, 0),
  (106, .getfield 15, 109, 4, 1, 0),
  (109, .bipush 10, 111, 0, 0, 0),
  (111, .iload_n 3, 112, 0, 0, 0),
  (112, .imul, 113, 0, 0, 0),
  (113, .iload 5, 115, 0, 0, 0),
  (115, .iadd, 116, 0, 0, 0),
  (116, .iaload, 117, 0, 0, 0),
  (117, .iadd, 118, 0, 0, 0),
  (118, .istore 8, 120, 0, 0, 0),
  (120, .iload 7, 122, 0, 0, 0),
  (122, .ifCond .le 11, 125, 133, 0, 0),
  (125, .iload 8, 127, 0, 0, 0),
  (127, .iload 7, 129, 0, 0, 0),
  (129, .idiv, 130, 0, 0, 0),
  (130, .goto 4, 133, 134, 0, 0),
  (133, .iconst 0, 134, 0, 0, 0),
  (134, .ireturn, 135, 0, 0, 0)]
def YPi_blurredAt : zY := (⟨"DiscLines$Picture", "blurredAt", "(II)I"⟩, 4, prog_6_method_6_code, 9, (some .int), rPi_blurredAt)
theorem oPi_blurredAt : zok YPi_blurredAt := (by decide +kernel : YPi_blurredAt.rows.all (zchk YPi_blurredAt) = true)
theorem ckPi_blurredAt : zCkV YPi_blurredAt 2 4 := ⟨⟨zt 383 (by decide +kernel) rfl, zt 78 (by decide +kernel) rfl, by decide +kernel⟩, zt 382 (by decide +kernel) rfl, zt 3 (by decide +kernel) rfl, by decide⟩
def rSt_init : List zRow := [(0, .aload_n 0, 1, 0, 0, 0),
  (1, .invokespecial 3, 4, 0, 0, 0),
  (4, .aload_n 0, 5, 0, 0, 0),
  (5, .iconst 4, 6, 0, 0, 0),
  (6, .anewarray 9, 9, 0, 0, 0),
  (9, .dup, 10, 0, 0, 0),
  (10, .iconst 0, 11, 0, 0, 0),
  (11, .new 9, 14, 0, 0, 0),
  (14, .dup, 15, 0, 0, 0),
  (15, .invokespecial 11, 18, 0, 0, 0),
  (18, .aastore, 19, 0, 0, 0),
  (19, .dup, 20, 0, 0, 0),
  (20, .iconst 1, 21, 0, 0, 0),
  (21, .new 9, 24, 0, 0, 0),
  (24, .dup, 25, 0, 0, 0),
  (25, .invokespecial 11, 28, 0, 0, 0),
  (28, .aastore, 29, 0, 0, 0),
  (29, .dup, 30, 0, 0, 0),
  (30, .iconst 2, 31, 0, 0, 0),
  (31, .new 9, 34, 0, 0, 0),
  (34, .dup, 35, 0, 0, 0),
  (35, .invokespecial 11, 38, 0, 0, 0),
  (38, .aastore, 39, 0, 0, 0),
  (39, .dup, 40, 0, 0, 0),
  (40, .iconst 3, 41, 0, 0, 0),
  (41, .new 9, 44, 0, 0, 0),
  (44, .dup, 45, 0, 0, 0),
  (45, .invokespecial 11, 48, 0, 0, 0),
  (48, .aastore, 49, 0, 0, 0),
  (49, .putfield 12, 52, 5, 0, 0),
  (52, .aload_n 0, 53, 0, 0, 0),
  (53, .bipush 8, 55, 0, 0, 0),
  (55, .newarray .int, 57, 0, 0, 0),
  (57, .dup, 58, 0, 0, 0),
  (58, .iconst 0, 59, 0, 0, 0),
  (59, .iconst 0, 60, 0, 0, 0),
  (60, .iastore, 61, 0, 0, 0),
  (61, .dup, 62, 0, 0, 0),
  (62, .iconst 1, 63, 0, 0, 0),
  (63, .bipush 10, 65, 0, 0, 0),
  (65, .iastore, 66, 0, 0, 0),
  (66, .dup, 67, 0, 0, 0),
  (67, .iconst 2, 68, 0, 0, 0),
  (68, .bipush 20, 70, 0, 0, 0),
  (70, .iastore, 71, 0, 0, 0),
  (71, .dup, 72, 0, 0, 0),
  (72, .iconst 3, 73, 0, 0, 0),
  (73, .bipush 30, 75, 0, 0, 0),
  (75, .iastore, 76, 0, 0, 0),
  (76, .dup, 77, 0, 0, 0),
  (77, .iconst 4, 78, 0, 0, 0),
  (78, .bipush 40, 80, 0, 0, 0),
  (80, .iastore, 81, 0, 0, 0),
  (81, .dup, 82, 0, 0, 0),
  (82, .iconst 5, 83, 0, 0, 0),
  (83, .bipush 50, 85, 0, 0, 0),
  (85, .iastore, 86, 0, 0, 0),
  (86, .dup, 87, 0, 0, 0),
  (87, .bipush 6, 89, 0, 0, 0),
  (89, .bipush 60, 91, 0, 0, 0),
  (91, .iastore, 92, 0, 0, 0),
  (92, .dup, 93, 0, 0, 0),
  (93, .bipush 7, 95, 0, 0, 0),
  (95, .bipush 70, 97, 0, 0, 0),
  (97, .iastore, 98, 0, 0, 0),
  (98, .putfield 18, 101, 5, 1, 0),
  (101, .aload_n 0, 102, 0, 0, 0),
  (102, .iconst 4, 103, 0, 0, 0),
  (103, .anewarray 22, 106, 0, 0, 0),
  (106, .dup, 107, 0, 0, 0),
  (107, .iconst 0, 108, 0, 0, 0),
  (108, .new 22, 111, 0, 0, 0),
  (111, .dup, 112, 0, 0, 0),
  (112, .invokespecial 24, 115, 0, 0, 0),
  (115, .aastore, 116, 0, 0, 0),
  (116, .dup, 117, 0, 0, 0),
  (117, .iconst 1, 118, 0, 0, 0),
  (118, .new 22, 121, 0, 0, 0),
  (121, .dup, 122, 0, 0, 0),
  (122, .invokespecial 24, 125, 0, 0, 0),
  (125, .aastore, 126, 0, 0, 0),
  (126, .dup, 127, 0, 0, 0),
  (127, .iconst 2, 128, 0, 0, 0),
  (128, .new 22, 131, 0, 0, 0),
  (131, .dup, 132, 0, 0, 0),
  (132, .invokespecial 24, 135, 0, 0, 0),
  (135, .aastore, 136, 0, 0, 0),
  (136, .dup, 137, 0, 0, 0),
  (137, .iconst 3, 138, 0, 0, 0),
  (138, .new 22, 141, 0, 0, 0),
  (141, .dup, 142, 0, 0, 0),
  (142, .invokespecial 24, 145, 0, 0, 0),
  (145, .aastore, 146, 0, 0, 0),
  (146, .putfield 25, 149, 5, 2, 0),
  (149, .aload_n 0, 150, 0, 0, 0),
  (150, .new 29, 153, 0, 0, 0),
  (153, .dup, 154, 0, 0, 0),
  (154, .invokespecial 31, 157, 0, 0, 0),
  (157, .putfield 32, 160, 5, 3, 0),
  (160, .aload_n 0, 161, 0, 0, 0),
  (161, .new 36, 164, 0, 0, 0),
  (164, .dup, 165, 0, 0, 0),
  (165, .invokespecial 38, 168, 0, 0, 0),
  (168, .putfield 39, 171, 5, 4, 0),
  (171, .aload_n 0, 172, 0, 0, 0),
  (172, .iconst 3, 173, 0, 0, 0),
  (173, .putfield 43, 176, 5, 5, 0),
  (176, .aload_n 0, 177, 0, 0, 0),
  (177, .iconst 2, 178, 0, 0, 0),
  (178, .putfield 47, 181, 5, 6, 0),
  (181, .return_, 182, 0, 0, 0)]
def YSt_init : zY := (⟨"DiscLines$State", "<init>", "()V"⟩, 5, prog_7_method_1_code, 1, none, rSt_init)
theorem oSt_init : zok YSt_init := (by decide +kernel : YSt_init.rows.all (zchk YSt_init) = true)
theorem ckSt_init : zCkI YSt_init 0 := ⟨⟨zt 97 (by decide +kernel) rfl, zt 72 (by decide +kernel) rfl, by decide +kernel⟩, zt 96 (by decide +kernel) rfl, rfl, rfl⟩
def rSt_copy : List zRow := [(0, .iconst 0, 1, 0, 0, 0),
  (1, .istore_n 2, 2, 0, 0, 0),
  (2, .iload_n 2, 3, 0, 0, 0),
  (3, .iconst 4, 4, 0, 0, 0),
  (4, .if_icmp .ge 24, 7, 28, 0, 0),
  (7, .aload_n 0, 8, 0, 0, 0),
  (8, .getfield 12, 11, 5, 0, 0),
  (11, .iload_n 2, 12, 0, 0, 0),
  (12, .aaload, 13, 0, 0, 0),
  (13, .aload_n 1, 14, 0, 0, 0),
  (14, .getfield 12, 17, 5, 0, 0),
  (17, .iload_n 2, 18, 0, 0, 0),
  (18, .aaload, 19, 0, 0, 0),
  (19, .invokevirtual 50, 22, 0, 0, 0),
  (22, .iinc 2 1, 25, 0, 0, 0),
  (25, .goto (-23), 28, 2, 0, 0),
  (28, .aload_n 1, 29, 0, 0, 0),
  (29, .getfield 18, 32, 5, 1, 0),
  (32, .aload_n 0, 33, 0, 0, 0),
  (33, .getfield 18, 36, 5, 1, 0),
  (36, .invokestatic 54, 39, 0, 0, 0),
  (39, .iconst 0, 40, 0, 0, 0),
  (40, .istore_n 2, 41, 0, 0, 0),
  (41, .iload_n 2, 42, 0, 0, 0),
  (42, .iconst 4, 43, 0, 0, 0),
  (43, .if_icmp .ge 24, 46, 67, 0, 0),
  (46, .aload_n 0, 47, 0, 0, 0),
  (47, .getfield 25, 50, 5, 2, 0),
  (50, .iload_n 2, 51, 0, 0, 0),
  (51, .aaload, 52, 0, 0, 0),
  (52, .aload_n 1, 53, 0, 0, 0),
  (53, .getfield 25, 56, 5, 2, 0),
  (56, .iload_n 2, 57, 0, 0, 0),
  (57, .aaload, 58, 0, 0, 0),
  (58, .invokevirtual 58, 61, 0, 0, 0),
  (61, .iinc 2 1, 64, 0, 0, 0),
  (64, .goto (-23), 67, 41, 0, 0),
  (67, .aload_n 0, 68, 0, 0, 0),
  (68, .getfield 32, 71, 5, 3, 0),
  (71, .aload_n 1, 72, 0, 0, 0),
  (72, .getfield 32, 75, 5, 3, 0),
  (75, .invokevirtual 61, 78, 0, 0, 0),
  (78, .aload_n 0, 79, 0, 0, 0),
  (79, .getfield 39, 82, 5, 4, 0),
  (82, .aload_n 1, 83, 0, 0, 0),
  (83, .getfield 39, 86, 5, 4, 0),
  (86, .invokevirtual 64, 89, 0, 0, 0),
  (89, .aload_n 0, 90, 0, 0, 0),
  (90, .aload_n 1, 91, 0, 0, 0),
  (91, .getfield 43, 94, 5, 5, 0),
  (94, .putfield 43, 97, 5, 5, 0),
  (97, .aload_n 0, 98, 0, 0, 0),
  (98, .aload_n 1, 99, 0, 0, 0),
  (99, .getfield 47, 102, 5, 6, 0),
  (102, .putfield 47, 105, 5, 6, 0),
  (105, .return_, 106, 0, 0, 0)]
def YSt_copy : zY := (⟨"DiscLines$State", "copy", "(LDiscLines$State;)V"⟩, 5, prog_7_method_2_code, 3, none, rSt_copy)
theorem oSt_copy : zok YSt_copy := (by decide +kernel : YSt_copy.rows.all (zchk YSt_copy) = true)
theorem ckSt_copy : zCkV YSt_copy 1 5 := ⟨⟨zt 756 (by decide +kernel) rfl, zt 72 (by decide +kernel) rfl, by decide +kernel⟩, zt 754 (by decide +kernel) rfl, zt 755 (by decide +kernel) rfl, by decide⟩
def rSt_mixInto : List zRow := [(0, .lload_n 1, 1, 0, 0, 0),
  (1, .aload_n 0, 2, 0, 0, 0),
  (2, .getfield 32, 5, 5, 3, 0),
  (5, .getfield 67, 8, 0, 2, 0),
  (8, .i2l, 9, 0, 0, 0),
  (9, .invokestatic 70, 12, 0, 0, 0),
  (12, .aload_n 0, 13, 0, 0, 0),
  (13, .getfield 32, 16, 5, 3, 0),
  (16, .getfield 74, 19, 0, 6, 0),
  (19, .i2l, 20, 0, 0, 0),
  (20, .invokestatic 70, 23, 0, 0, 0),
  (23, .lstore_n 3, 24, 0, 0, 0),
  (24, .lload_n 3, 25, 0, 0, 0),
  (25, .aload_n 0, 26, 0, 0, 0),
  (26, .getfield 32, 29, 5, 3, 0),
  (29, .getfield 77, 32, 0, 10, 0),
  (32, .i2l, 33, 0, 0, 0),
  (33, .invokestatic 70, 36, 0, 0, 0),
  (36, .aload_n 0, 37, 0, 0, 0),
  (37, .getfield 39, 40, 5, 4, 0),
  (40, .getfield 80, 43, 2, 3, 0),
  (43, .i2l, 44, 0, 0, 0),
  (44, .invokestatic 70, 47, 0, 0, 0),
  (47, .lstore_n 3, 48, 0, 0, 0),
  (48, .iconst 0, 49, 0, 0, 0),
  (49, .istore 5, 51, 0, 0, 0),
  (51, .iload 5, 53, 0, 0, 0),
  (53, .iconst 4, 54, 0, 0, 0),
  (54, .if_icmp .ge 21, 57, 75, 0, 0),
  (57, .aload_n 0, 58, 0, 0, 0),
  (58, .getfield 12, 61, 5, 0, 0),
  (61, .iload 5, 63, 0, 0, 0),
  (63, .aaload, 64, 0, 0, 0),
  (64, .lload_n 3, 65, 0, 0, 0),
  (65, .invokevirtual 83, 68, 0, 0, 0),
  (68, .lstore_n 3, 69, 0, 0, 0),
  (69, .iinc 5 1, 72, 0, 0, 0),
  (72, .goto (-21), 75, 51, 0, 0),
  (75, .lload_n 3, 76, 0, 0, 0),
  (76, .aload_n 0, 77, 0, 0, 0),
  (77, .getfield 18, 80, 5, 1, 0),
  (80, .bipush 8, 82, 0, 0, 0),
  (82, .invokestatic 87, 85, 0, 0, 0),
  (85, .lstore_n 3, 86, 0, 0, 0),
  (86, .iconst 0, 87, 0, 0, 0),
  (87, .istore 5, 89, 0, 0, 0),
  (89, .iload 5, 91, 0, 0, 0),
  (91, .iconst 4, 92, 0, 0, 0),
  (92, .if_icmp .ge 21, 95, 113, 0, 0),
  (95, .aload_n 0, 96, 0, 0, 0),
  (96, .getfield 25, 99, 5, 2, 0),
  (99, .iload 5, 101, 0, 0, 0),
  (101, .aaload, 102, 0, 0, 0),
  (102, .lload_n 3, 103, 0, 0, 0),
  (103, .invokevirtual 91, 106, 0, 0, 0),
  (106, .lstore_n 3, 107, 0, 0, 0),
  (107, .iinc 5 1, 110, 0, 0, 0),
  (110, .goto (-21), 113, 89, 0, 0),
  (113, .aload_n 0, 114, 0, 0, 0),
  (114, .getfield 32, 117, 5, 3, 0),
  (117, .lload_n 3, 118, 0, 0, 0),
  (118, .invokevirtual 92, 121, 0, 0, 0),
  (121, .aload_n 0, 122, 0, 0, 0),
  (122, .getfield 43, 125, 5, 5, 0),
  (125, .i2l, 126, 0, 0, 0),
  (126, .invokestatic 70, 129, 0, 0, 0),
  (129, .lstore_n 3, 130, 0, 0, 0),
  (130, .aload_n 0, 131, 0, 0, 0),
  (131, .getfield 39, 134, 5, 4, 0),
  (134, .lload_n 3, 135, 0, 0, 0),
  (135, .invokevirtual 93, 138, 0, 0, 0),
  (138, .aload_n 0, 139, 0, 0, 0),
  (139, .getfield 47, 142, 5, 6, 0),
  (142, .i2l, 143, 0, 0, 0),
  (143, .invokestatic 70, 146, 0, 0, 0),
  (146, .lreturn, 147, 0, 0, 0)]
def YSt_mixInto : zY := (⟨"DiscLines$State", "mixInto", "(J)J"⟩, 5, prog_7_method_3_code, 6, (some .long), rSt_mixInto)
theorem oSt_mixInto : zok YSt_mixInto := (by decide +kernel : YSt_mixInto.rows.all (zchk YSt_mixInto) = true)
theorem ckSt_mixInto : zCkV YSt_mixInto 1 5 := ⟨⟨zt 799 (by decide +kernel) rfl, zt 72 (by decide +kernel) rfl, by decide +kernel⟩, zt 797 (by decide +kernel) rfl, zt 798 (by decide +kernel) rfl, by decide⟩
def rSp_unitOf : List zRow := [(0, .iload_n 0, 1, 0, 0, 0),
  (1, .tableswitch 84 97 109 #[67, 69, 84, 72, 84, 84, 81, 84, 84, 84, 78, 84, 75], 68, 0, 0, 0),
  (68, .iconst (-1), 69, 0, 0, 0),
  (69, .ireturn, 70, 0, 0, 0),
  (70, .bipush (-2), 72, 0, 0, 0),
  (72, .ireturn, 73, 0, 0, 0),
  (73, .bipush (-3), 75, 0, 0, 0),
  (75, .ireturn, 76, 0, 0, 0),
  (76, .bipush (-4), 78, 0, 0, 0),
  (78, .ireturn, 79, 0, 0, 0),
  (79, .bipush (-5), 81, 0, 0, 0),
  (81, .ireturn, 82, 0, 0, 0),
  (82, .bipush (-6), 84, 0, 0, 0),
  (84, .ireturn, 85, 0, 0, 0),
  (85, .iconst 0, 86, 0, 0, 0),
  (86, .ireturn, 87, 0, 0, 0)]
def YSp_unitOf : zY := (⟨"DiscLines$Step", "unitOf", "(I)I"⟩, 9, prog_8_method_2_code, 1, (some .int), rSp_unitOf)
theorem oSp_unitOf : zok YSp_unitOf := (by decide +kernel : YSp_unitOf.rows.all (zchk YSp_unitOf) = true)
theorem ckSp_unitOf : zCkS YSp_unitOf 1 := ⟨⟨zt 427 (by decide +kernel) rfl, zt 81 (by decide +kernel) rfl, by decide +kernel⟩, zt 426 (by decide +kernel) rfl⟩
def rSp_joiningOf : List zRow := [(0, .iload_n 0, 1, 0, 0, 0),
  (1, .lookupswitch 110 #[(38, 86), (42, 104), (43, 98), (45, 101), (47, 107), (60, 89), (61, 95), (62, 92), (124, 83)], 84, 0, 0, 0),
  (84, .bipush (-11), 86, 0, 0, 0),
  (86, .ireturn, 87, 0, 0, 0),
  (87, .bipush (-12), 89, 0, 0, 0),
  (89, .ireturn, 90, 0, 0, 0),
  (90, .bipush (-13), 92, 0, 0, 0),
  (92, .ireturn, 93, 0, 0, 0),
  (93, .bipush (-14), 95, 0, 0, 0),
  (95, .ireturn, 96, 0, 0, 0),
  (96, .bipush (-15), 98, 0, 0, 0),
  (98, .ireturn, 99, 0, 0, 0),
  (99, .bipush (-16), 101, 0, 0, 0),
  (101, .ireturn, 102, 0, 0, 0),
  (102, .bipush (-17), 104, 0, 0, 0),
  (104, .ireturn, 105, 0, 0, 0),
  (105, .bipush (-18), 107, 0, 0, 0),
  (107, .ireturn, 108, 0, 0, 0),
  (108, .bipush (-19), 110, 0, 0, 0),
  (110, .ireturn, 111, 0, 0, 0),
  (111, .iconst 0, 112, 0, 0, 0),
  (112, .ireturn, 113, 0, 0, 0)]
def YSp_joiningOf : zY := (⟨"DiscLines$Step", "joiningOf", "(I)I"⟩, 9, prog_8_method_3_code, 1, (some .int), rSp_joiningOf)
theorem oSp_joiningOf : zok YSp_joiningOf := (by decide +kernel : YSp_joiningOf.rows.all (zchk YSp_joiningOf) = true)
theorem ckSp_joiningOf : zCkS YSp_joiningOf 1 := ⟨⟨zt 449 (by decide +kernel) rfl, zt 81 (by decide +kernel) rfl, by decide +kernel⟩, zt 448 (by decide +kernel) rfl⟩
def rSp_joined : List zRow := [(0, .iload_n 0, 1, 0, 0, 0),
  (1, .tableswitch 131 (-18) (-11) #[127, 123, 119, 107, 95, 83, 65, 47], 48, 0, 0, 0),
  (48, .lload_n 1, 49, 0, 0, 0),
  (49, .lconst 0, 50, 0, 0, 0),
  (50, .lcmp, 51, 0, 0, 0),
  (51, .ifCond .ne 9, 54, 60, 0, 0),
  (54, .lload_n 3, 55, 0, 0, 0),
  (55, .lconst 0, 56, 0, 0, 0),
  (56, .lcmp, 57, 0, 0, 0),
  (57, .ifCond .eq 7, 60, 64, 0, 0),
  (60, .lconst 1, 61, 0, 0, 0),
  (61, .goto 4, 64, 65, 0, 0),
  (64, .lconst 0, 65, 0, 0, 0),
  (65, .lreturn, 66, 0, 0, 0),
  (66, .lload_n 1, 67, 0, 0, 0),
  (67, .lconst 0, 68, 0, 0, 0),
  (68, .lcmp, 69, 0, 0, 0),
  (69, .ifCond .eq 13, 72, 82, 0, 0),
  (72, .lload_n 3, 73, 0, 0, 0),
  (73, .lconst 0, 74, 0, 0, 0),
  (74, .lcmp, 75, 0, 0, 0),
  (75, .ifCond .eq 7, 78, 82, 0, 0),
  (78, .lconst 1, 79, 0, 0, 0),
  (79, .goto 4, 82, 83, 0, 0),
  (82, .lconst 0, 83, 0, 0, 0),
  (83, .lreturn, 84, 0, 0, 0),
  (84, .lload_n 1, 85, 0, 0, 0),
  (85, .lload_n 3, 86, 0, 0, 0),
  (86, .lcmp, 87, 0, 0, 0),
  (87, .ifCond .ge 7, 90, 94, 0, 0),
  (90, .lconst 1, 91, 0, 0, 0),
  (91, .goto 4, 94, 95, 0, 0),
  (94, .lconst 0, 95, 0, 0, 0),
  (95, .lreturn, 96, 0, 0, 0),
  (96, .lload_n 1, 97, 0, 0, 0),
  (97, .lload_n 3, 98, 0, 0, 0),
  (98, .lcmp, 99, 0, 0, 0),
  (99, .ifCond .le 7, 102, 106, 0, 0),
  (102, .lconst 1, 103, 0, 0, 0),
  (103, .goto 4, 106, 107, 0, 0),
  (106, .lconst 0, 107, 0, 0, 0),
  (107, .lreturn, 108, 0, 0, 0),
  (108, .lload_n 1, 109, 0, 0, 0),
  (109, .lload_n 3, 110, 0, 0, 0),
  (110, .lcmp, 111, 0, 0, 0),
  (111, .ifCond .ne 7, 114, 118, 0, 0),
  (114, .lconst 1, 115, 0, 0, 0),
  (115, .goto 4, 118, 119, 0, 0),
  (118, .lconst 0, 119, 0, 0, 0),
  (119, .lreturn, 120, 0, 0, 0),
  (120, .lload_n 1, 121, 0, 0, 0),
  (121, .lload_n 3, 122, 0, 0, 0),
  (122, .ladd, 123, 0, 0, 0),
  (123, .lreturn, 124, 0, 0, 0),
  (124, .lload_n 1, 125, 0, 0, 0),
  (125, .lload_n 3, 126, 0, 0, 0),
  (126, .lsub, 127, 0, 0, 0),
  (127, .lreturn, 128, 0, 0, 0),
  (128, .lload_n 1, 129, 0, 0, 0),
  (129, .lload_n 3, 130, 0, 0, 0),
  (130, .lmul, 131, 0, 0, 0),
  (131, .lreturn, 132, 0, 0, 0),
  (132, .lload_n 3, 133, 0, 0, 0),
  (133, .lconst 0, 134, 0, 0, 0),
  (134, .lcmp, 135, 0, 0, 0),
  (135, .ifCond .ne 7, 138, 142, 0, 0),
  (138, .lconst 0, 139, 0, 0, 0),
  (139, .goto 6, 142, 145, 0, 0),
  (142, .lload_n 1, 143, 0, 0, 0),
  (143, .lload_n 3, 144, 0, 0, 0),
  (144, .ldiv, 145, 0, 0, 0),
  (145, .lreturn, 146, 0, 0, 0)]
def YSp_joined : zY := (⟨"DiscLines$Step", "joined", "(IJJ)J"⟩, 9, prog_8_method_4_code, 5, (some .long), rSp_joined)
theorem oSp_joined : zok YSp_joined := (by decide +kernel : YSp_joined.rows.all (zchk YSp_joined) = true)
theorem ckSp_joined : zCkS YSp_joined 3 := ⟨⟨zt 501 (by decide +kernel) rfl, zt 81 (by decide +kernel) rfl, by decide +kernel⟩, zt 500 (by decide +kernel) rfl⟩
def rSp_turned : List zRow := [(0, .iload_n 0, 1, 0, 0, 0),
  (1, .bipush (-21), 3, 0, 0, 0),
  (3, .if_icmp .ne 15, 6, 18, 0, 0),
  (6, .lload_n 1, 7, 0, 0, 0),
  (7, .lconst 0, 8, 0, 0, 0),
  (8, .lcmp, 9, 0, 0, 0),
  (9, .ifCond .ne 7, 12, 16, 0, 0),
  (12, .lconst 1, 13, 0, 0, 0),
  (13, .goto 4, 16, 17, 0, 0),
  (16, .lconst 0, 17, 0, 0, 0),
  (17, .lreturn, 18, 0, 0, 0),
  (18, .lload_n 1, 19, 0, 0, 0),
  (19, .lneg, 20, 0, 0, 0),
  (20, .lreturn, 21, 0, 0, 0)]
def YSp_turned : zY := (⟨"DiscLines$Step", "turned", "(IJ)J"⟩, 9, prog_8_method_5_code, 3, (some .long), rSp_turned)
theorem oSp_turned : zok YSp_turned := (by decide +kernel : YSp_turned.rows.all (zchk YSp_turned) = true)
theorem ckSp_turned : zCkS YSp_turned 2 := ⟨⟨zt 504 (by decide +kernel) rfl, zt 81 (by decide +kernel) rfl, by decide +kernel⟩, zt 503 (by decide +kernel) rfl⟩
def rWo_init : List zRow := [(0, .aload_n 0, 1, 0, 0, 0),
  (1, .invokespecial 3, 4, 0, 0, 0),
  (4, .aload_n 0, 5, 0, 0, 0),
  (5, .bipush 81, 7, 0, 0, 0),
  (7, .newarray .int, 9, 0, 0, 0),
  (9, .putfield 9, 12, 6, 0, 0),
  (12, .aload_n 0, 13, 0, 0, 0),
  (13, .bipush 9, 15, 0, 0, 0),
  (15, .newarray .int, 17, 0, 0, 0),
  (17, .putfield 15, 20, 6, 1, 0),
  (20, .return_, 21, 0, 0, 0)]
def YWo_init : zY := (⟨"DiscLines$World", "<init>", "()V"⟩, 6, prog_9_method_1_code, 1, none, rWo_init)
theorem oWo_init : zok YWo_init := (by decide +kernel : YWo_init.rows.all (zchk YWo_init) = true)
theorem ckWo_init : zCkI YWo_init 0 := ⟨⟨zt 104 (by decide +kernel) rfl, zt 73 (by decide +kernel) rfl, by decide +kernel⟩, zt 103 (by decide +kernel) rfl, rfl, rfl⟩
def rWo_darkened : List zRow := [(0, .aload_n 0, 1, 0, 0, 0),
  (1, .getfield 15, 4, 6, 1, 0),
  (4, .iload_n 1, 5, 0, 0, 0),
  (5, .bipush 9, 7, 0, 0, 0),
  (7, .idiv, 8, 0, 0, 0),
  (8, .iaload, 9, 0, 0, 0),
  (9, .iload_n 1, 10, 0, 0, 0),
  (10, .bipush 9, 12, 0, 0, 0),
  (12, .irem, 13, 0, 0, 0),
  (13, .invokestatic 18, 16, 0, 0, 0),
  (16, .istore_n 3, 17, 0, 0, 0),
  (17, .iload_n 3, 18, 0, 0, 0),
  (18, .ifCond .eq 19, 21, 37, 0, 0),
  (21, .bipush 15, 23, 0, 0, 0),
  (23, .aload_n 0, 24, 0, 0, 0),
  (24, .getfield 9, 27, 6, 0, 0),
  (27, .iload_n 1, 28, 0, 0, 0),
  (28, .iaload, 29, 0, 0, 0),
  (29, .iload_n 2, 30, 0, 0, 0),
  (30, .iadd, 31, 0, 0, 0),
  (31, .invokestatic 22, 34, 0, 0, 0),
  (34, .goto 9, 37, 43, 0, 0),
  (37, .aload_n 0, 38, 0, 0, 0),
  (38, .getfield 9, 41, 6, 0, 0),
  (41, .iload_n 1, 42, 0, 0, 0),
  (42, .iaload, 43, 0, 0, 0),
  (43, .ireturn, 44, 0, 0, 0)]
def YWo_darkened : zY := (⟨"DiscLines$World", "darkened", "(II)I"⟩, 6, prog_9_method_2_code, 4, (some .int), rWo_darkened)
theorem oWo_darkened : zok YWo_darkened := (by decide +kernel : YWo_darkened.rows.all (zchk YWo_darkened) = true)
theorem ckWo_darkened : zCkV YWo_darkened 2 6 := ⟨⟨zt 360 (by decide +kernel) rfl, zt 73 (by decide +kernel) rfl, by decide +kernel⟩, zt 358 (by decide +kernel) rfl, zt 359 (by decide +kernel) rfl, by decide⟩
def rWo_copy : List zRow := [(0, .aload_n 1, 1, 0, 0, 0),
  (1, .getfield 9, 4, 6, 0, 0),
  (4, .aload_n 0, 5, 0, 0, 0),
  (5, .getfield 9, 8, 6, 0, 0),
  (8, .invokestatic 28, 11, 0, 0, 0),
  (11, .aload_n 1, 12, 0, 0, 0),
  (12, .getfield 15, 15, 6, 1, 0),
  (15, .aload_n 0, 16, 0, 0, 0),
  (16, .getfield 15, 19, 6, 1, 0),
  (19, .invokestatic 28, 22, 0, 0, 0),
  (22, .return_, 23, 0, 0, 0)]
def YWo_copy : zY := (⟨"DiscLines$World", "copy", "(LDiscLines$World;)V"⟩, 6, prog_9_method_3_code, 2, none, rWo_copy)
theorem oWo_copy : zok YWo_copy := (by decide +kernel : YWo_copy.rows.all (zchk YWo_copy) = true)
theorem ckWo_copy : zCkV YWo_copy 1 6 := ⟨⟨zt 760 (by decide +kernel) rfl, zt 73 (by decide +kernel) rfl, by decide +kernel⟩, zt 758 (by decide +kernel) rfl, zt 759 (by decide +kernel) rfl, by decide⟩
def rWo_mixInto : List zRow := [(0, .lload_n 1, 1, 0, 0, 0),
  (1, .aload_n 0, 2, 0, 0, 0),
  (2, .getfield 9, 5, 6, 0, 0),
  (5, .bipush 81, 7, 0, 0, 0),
  (7, .invokestatic 32, 10, 0, 0, 0),
  (10, .aload_n 0, 11, 0, 0, 0),
  (11, .getfield 15, 14, 6, 1, 0),
  (14, .bipush 9, 16, 0, 0, 0),
  (16, .invokestatic 32, 19, 0, 0, 0),
  (19, .lreturn, 20, 0, 0, 0)]
def YWo_mixInto : zY := (⟨"DiscLines$World", "mixInto", "(J)J"⟩, 6, prog_9_method_4_code, 3, (some .long), rWo_mixInto)
theorem oWo_mixInto : zok YWo_mixInto := (by decide +kernel : YWo_mixInto.rows.all (zchk YWo_mixInto) = true)
theorem ckWo_mixInto : zCkV YWo_mixInto 1 6 := ⟨⟨zt 807 (by decide +kernel) rfl, zt 73 (by decide +kernel) rfl, by decide +kernel⟩, zt 805 (by decide +kernel) rfl, zt 806 (by decide +kernel) rfl, by decide⟩
def rD_init : List zRow := [(0, .aload_n 0, 1, 0, 0, 0),
  (1, .invokespecial 3, 4, 0, 0, 0),
  (4, .aload_n 0, 5, 0, 0, 0),
  (5, .new 9, 8, 0, 0, 0),
  (8, .dup, 9, 0, 0, 0),
  (9, .invokespecial 11, 12, 0, 0, 0),
  (12, .putfield 12, 15, 7, 0, 0),
  (15, .aload_n 0, 16, 0, 0, 0),
  (16, .iconst 2, 17, 0, 0, 0),
  (17, .anewarray 9, 20, 0, 0, 0),
  (20, .dup, 21, 0, 0, 0),
  (21, .iconst 0, 22, 0, 0, 0),
  (22, .new 9, 25, 0, 0, 0),
  (25, .dup, 26, 0, 0, 0),
  (26, .invokespecial 11, 29, 0, 0, 0),
  (29, .aastore, 30, 0, 0, 0),
  (30, .dup, 31, 0, 0, 0),
  (31, .iconst 1, 32, 0, 0, 0),
  (32, .new 9, 35, 0, 0, 0),
  (35, .dup, 36, 0, 0, 0),
  (36, .invokespecial 11, 39, 0, 0, 0),
  (39, .aastore, 40, 0, 0, 0),
  (40, .putfield 16, 43, 7, 1, 0),
  (43, .aload_n 0, 44, 0, 0, 0),
  (44, .iconst 2, 45, 0, 0, 0),
  (45, .newarray .boolean, 47, 0, 0, 0),
  (47, .putfield 20, 50, 7, 2, 0),
  (50, .aload_n 0, 51, 0, 0, 0),
  (51, .new 24, 54, 0, 0, 0),
  (54, .dup, 55, 0, 0, 0),
  (55, .invokespecial 26, 58, 0, 0, 0),
  (58, .putfield 27, 61, 7, 3, 0),
  (61, .aload_n 0, 62, 0, 0, 0),
  (62, .bipush 16, 64, 0, 0, 0),
  (64, .newarray .int, 66, 0, 0, 0),
  (66, .putfield 31, 69, 7, 4, 0),
  (69, .aload_n 0, 70, 0, 0, 0),
  (70, .lconst 0, 71, 0, 0, 0),
  (71, .putfield 35, 74, 7, 5, 0),
  (74, .aload_n 0, 75, 0, 0, 0),
  (75, .lconst 1, 76, 0, 0, 0),
  (76, .putfield 39, 79, 7, 6, 0),
  (79, .return_, 80, 0, 0, 0)]
def YD_init : zY := (⟨"DiscLines", "<init>", "()V"⟩, 7, prog_1_method_1_code, 1, none, rD_init)
theorem oD_init : zok YD_init := (by decide +kernel : YD_init.rows.all (zchk YD_init) = true)
theorem ckD_init : zCkI YD_init 0 := ⟨⟨zt 89 (by decide +kernel) rfl, zt 71 (by decide +kernel) rfl, by decide +kernel⟩, zt 88 (by decide +kernel) rfl, rfl, rfl⟩
def rD_shade : List zRow := [(0, .iload_n 1, 1, 0, 0, 0),
  (1, .iconst 4, 2, 0, 0, 0),
  (2, .invokestatic 42, 5, 0, 0, 0),
  (5, .ifCond .eq 21, 8, 26, 0, 0),
  (8, .iload_n 2, 9, 0, 0, 0),
  (9, .bipush 81, 11, 0, 0, 0),
  (11, .invokestatic 42, 14, 0, 0, 0),
  (14, .ifCond .eq 12, 17, 26, 0, 0),
  (17, .iload_n 3, 18, 0, 0, 0),
  (18, .bipush 16, 20, 0, 0, 0),
  (20, .invokestatic 42, 23, 0, 0, 0),
  (23, .ifCond .ne 6, 26, 29, 0, 0),
  (26, .bipush (-2), 28, 0, 0, 0),
  (28, .ireturn, 29, 0, 0, 0),
  (29, .aload_n 0, 30, 0, 0, 0),
  (30, .getfield 12, 33, 7, 0, 0),
  (33, .getfield 46, 36, 5, 0, 0),
  (36, .iload_n 1, 37, 0, 0, 0),
  (37, .aaload, 38, 0, 0, 0),
  (38, .getfield 50, 41, 6, 0, 0),
  (41, .iload_n 2, 42, 0, 0, 0),
  (42, .iload_n 3, 43, 0, 0, 0),
  (43, .invokestatic 55, 46, 0, 0, 0),
  (46, .ireturn, 47, 0, 0, 0)]
def YD_shade : zY := (⟨"DiscLines", "shade", "(III)I"⟩, 7, prog_1_method_2_code, 4, (some .int), rD_shade)
theorem oD_shade : zok YD_shade := (by decide +kernel : YD_shade.rows.all (zchk YD_shade) = true)
theorem ckD_shade : zCkV YD_shade 3 7 := ⟨⟨zt 327 (by decide +kernel) rfl, zt 71 (by decide +kernel) rfl, by decide +kernel⟩, zt 325 (by decide +kernel) rfl, zt 326 (by decide +kernel) rfl, by decide⟩
def rD_green : List zRow := [(0, .iload_n 1, 1, 0, 0, 0),
  (1, .iconst 4, 2, 0, 0, 0),
  (2, .invokestatic 42, 5, 0, 0, 0),
  (5, .ifCond .eq 22, 8, 27, 0, 0),
  (8, .iload_n 2, 9, 0, 0, 0),
  (9, .bipush 9, 11, 0, 0, 0),
  (11, .invokestatic 42, 14, 0, 0, 0),
  (14, .ifCond .eq 13, 17, 27, 0, 0),
  (17, .iload_n 3, 18, 0, 0, 0),
  (18, .sipush 512, 21, 0, 0, 0),
  (21, .invokestatic 42, 24, 0, 0, 0),
  (24, .ifCond .ne 6, 27, 30, 0, 0),
  (27, .bipush (-2), 29, 0, 0, 0),
  (29, .ireturn, 30, 0, 0, 0),
  (30, .aload_n 0, 31, 0, 0, 0),
  (31, .getfield 12, 34, 7, 0, 0),
  (34, .getfield 46, 37, 5, 0, 0),
  (37, .iload_n 1, 38, 0, 0, 0),
  (38, .aaload, 39, 0, 0, 0),
  (39, .getfield 59, 42, 6, 1, 0),
  (42, .iload_n 2, 43, 0, 0, 0),
  (43, .iload_n 3, 44, 0, 0, 0),
  (44, .invokestatic 55, 47, 0, 0, 0),
  (47, .ireturn, 48, 0, 0, 0)]
def YD_green : zY := (⟨"DiscLines", "green", "(III)I"⟩, 7, prog_1_method_3_code, 4, (some .int), rD_green)
theorem oD_green : zok YD_green := (by decide +kernel : YD_green.rows.all (zchk YD_green) = true)
theorem ckD_green : zCkV YD_green 3 7 := ⟨⟨zt 337 (by decide +kernel) rfl, zt 71 (by decide +kernel) rfl, by decide +kernel⟩, zt 335 (by decide +kernel) rfl, zt 336 (by decide +kernel) rfl, by decide⟩
def rD_mark : List zRow := [(0, .iload_n 1, 1, 0, 0, 0),
  (1, .bipush 8, 3, 0, 0, 0),
  (3, .invokestatic 42, 6, 0, 0, 0),
  (6, .ifCond .eq 21, 9, 27, 0, 0),
  (9, .iload_n 2, 10, 0, 0, 0),
  (10, .bipush 81, 12, 0, 0, 0),
  (12, .invokestatic 42, 15, 0, 0, 0),
  (15, .ifCond .eq 12, 18, 27, 0, 0),
  (18, .aload_n 0, 19, 0, 0, 0),
  (19, .iload_n 1, 20, 0, 0, 0),
  (20, .iload_n 2, 21, 0, 0, 0),
  (21, .invokevirtual 62, 24, 0, 0, 0),
  (24, .ifCond .eq 6, 27, 30, 0, 0),
  (27, .bipush (-2), 29, 0, 0, 0),
  (29, .ireturn, 30, 0, 0, 0),
  (30, .aload_n 0, 31, 0, 0, 0),
  (31, .getfield 12, 34, 7, 0, 0),
  (34, .getfield 65, 37, 5, 1, 0),
  (37, .iload_n 1, 38, 0, 0, 0),
  (38, .iload_n 2, 39, 0, 0, 0),
  (39, .invokestatic 55, 42, 0, 0, 0),
  (42, .ireturn, 43, 0, 0, 0)]
def YD_mark : zY := (⟨"DiscLines", "mark", "(II)I"⟩, 7, prog_1_method_4_code, 3, (some .int), rD_mark)
theorem oD_mark : zok YD_mark := (by decide +kernel : YD_mark.rows.all (zchk YD_mark) = true)
theorem ckD_mark : zCkV YD_mark 2 7 := ⟨⟨zt 341 (by decide +kernel) rfl, zt 71 (by decide +kernel) rfl, by decide +kernel⟩, zt 339 (by decide +kernel) rfl, zt 340 (by decide +kernel) rfl, by decide⟩
def rD_seen : List zRow := [(0, .iload_n 1, 1, 0, 0, 0),
  (1, .iload_n 2, 2, 0, 0, 0),
  (2, .iload_n 3, 3, 0, 0, 0),
  (3, .iload 4, 5, 0, 0, 0),
  (5, .invokestatic 68, 8, 0, 0, 0),
  (8, .ifCond .eq 13, 11, 21, 0, 0),
  (11, .iload 5, 13, 0, 0, 0),
  (13, .bipush 81, 15, 0, 0, 0),
  (15, .invokestatic 42, 18, 0, 0, 0),
  (18, .ifCond .ne 6, 21, 24, 0, 0),
  (21, .bipush (-2), 23, 0, 0, 0),
  (23, .ireturn, 24, 0, 0, 0),
  (24, .aload_n 0, 25, 0, 0, 0),
  (25, .getfield 27, 28, 7, 3, 0),
  (28, .getfield 72, 31, 1, 0, 0),
  (31, .aload_n 0, 32, 0, 0, 0),
  (32, .getfield 12, 35, 7, 0, 0),
  (35, .getfield 46, 38, 5, 0, 0),
  (38, .iload_n 1, 39, 0, 0, 0),
  (39, .aaload, 40, 0, 0, 0),
  (40, .iload_n 2, 41, 0, 0, 0),
  (41, .iload_n 3, 42, 0, 0, 0),
  (42, .iload 4, 44, 0, 0, 0),
  (44, .invokevirtual 76, 47, 0, 0, 0),
  (47, .aload_n 0, 48, 0, 0, 0),
  (48, .getfield 27, 51, 7, 3, 0),
  (51, .getfield 72, 54, 1, 0, 0),
  (54, .getfield 82, 57, 4, 2, 0),
  (57, .iload 5, 59, 0, 0, 0),
  (59, .iaload, 60, 0, 0, 0),
  (60, .ireturn, 61, 0, 0, 0)]
def YD_seen : zY := (⟨"DiscLines", "seen", "(IIIII)I"⟩, 7, prog_1_method_5_code, 6, (some .int), rD_seen)
theorem oD_seen : zok YD_seen := (by decide +kernel : YD_seen.rows.all (zchk YD_seen) = true)
theorem ckD_seen : zCkV YD_seen 5 7 := ⟨⟨zt 349 (by decide +kernel) rfl, zt 71 (by decide +kernel) rfl, by decide +kernel⟩, zt 347 (by decide +kernel) rfl, zt 348 (by decide +kernel) rfl, by decide⟩
def rD_line : List zRow := [(0, .iload_n 1, 1, 0, 0, 0),
  (1, .bipush 8, 3, 0, 0, 0),
  (3, .invokestatic 42, 6, 0, 0, 0),
  (6, .ifCond .eq 17, 9, 23, 0, 0),
  (9, .iload_n 2, 10, 0, 0, 0),
  (10, .bipush 8, 12, 0, 0, 0),
  (12, .invokestatic 42, 15, 0, 0, 0),
  (15, .ifCond .eq 8, 18, 23, 0, 0),
  (18, .iload_n 1, 19, 0, 0, 0),
  (19, .iload_n 2, 20, 0, 0, 0),
  (20, .if_icmp .ne 6, 23, 26, 0, 0),
  (23, .bipush (-2), 25, 0, 0, 0),
  (25, .ireturn, 26, 0, 0, 0),
  (26, .iload_n 1, 27, 0, 0, 0),
  (27, .iload_n 2, 28, 0, 0, 0),
  (28, .invokestatic 85, 31, 0, 0, 0),
  (31, .istore_n 3, 32, 0, 0, 0),
  (32, .iload_n 1, 33, 0, 0, 0),
  (33, .iload_n 2, 34, 0, 0, 0),
  (34, .invokestatic 91, 37, 0, 0, 0),
  (37, .istore 4, 39, 0, 0, 0),
  (39, .iload_n 3, 40, 0, 0, 0),
  (40, .bipush 15, 42, 0, 0, 0),
  (42, .iload_n 3, 43, 0, 0, 0),
  (43, .isub, 44, 0, 0, 0),
  (44, .imul, 45, 0, 0, 0),
  (45, .iconst 2, 46, 0, 0, 0),
  (46, .idiv, 47, 0, 0, 0),
  (47, .istore 5, 49, 0, 0, 0),
  (49, .iload 5, 51, 0, 0, 0),
  (51, .iload 4, 53, 0, 0, 0),
  (53, .iadd, 54, 0, 0, 0),
  (54, .iload_n 3, 55, 0, 0, 0),
  (55, .isub, 56, 0, 0, 0),
  (56, .iconst 1, 57, 0, 0, 0),
  (57, .isub, 58, 0, 0, 0),
  (58, .ireturn, 59, 0, 0, 0)]
def YD_line : zY := (⟨"DiscLines", "line", "(II)I"⟩, 7, prog_1_method_6_code, 6, (some .int), rD_line)
theorem oD_line : zok YD_line := (by decide +kernel : YD_line.rows.all (zchk YD_line) = true)
theorem ckD_line : zCkV YD_line 2 7 := ⟨⟨zt 391 (by decide +kernel) rfl, zt 71 (by decide +kernel) rfl, by decide +kernel⟩, zt 389 (by decide +kernel) rfl, zt 390 (by decide +kernel) rfl, by decide⟩
def rD_write : List zRow := [(0, .iload_n 1, 1, 0, 0, 0),
  (1, .iconst 4, 2, 0, 0, 0),
  (2, .invokestatic 42, 5, 0, 0, 0),
  (5, .ifCond .eq 13, 8, 18, 0, 0),
  (8, .iload_n 2, 9, 0, 0, 0),
  (9, .sipush 128, 12, 0, 0, 0),
  (12, .invokestatic 42, 15, 0, 0, 0),
  (15, .ifCond .ne 6, 18, 21, 0, 0),
  (18, .bipush (-2), 20, 0, 0, 0),
  (20, .ireturn, 21, 0, 0, 0),
  (21, .aload_n 0, 22, 0, 0, 0),
  (22, .getfield 12, 25, 7, 0, 0),
  (25, .getfield 94, 28, 5, 2, 0),
  (28, .iload_n 1, 29, 0, 0, 0),
  (29, .aaload, 30, 0, 0, 0),
  (30, .iload_n 2, 31, 0, 0, 0),
  (31, .invokevirtual 98, 34, 0, 0, 0),
  (34, .ireturn, 35, 0, 0, 0)]
def YD_write : zY := (⟨"DiscLines", "write", "(II)I"⟩, 7, prog_1_method_7_code, 3, (some .int), rD_write)
theorem oD_write : zok YD_write := (by decide +kernel : YD_write.rows.all (zchk YD_write) = true)
theorem ckD_write : zCkV YD_write 2 7 := ⟨⟨zt 397 (by decide +kernel) rfl, zt 71 (by decide +kernel) rfl, by decide +kernel⟩, zt 395 (by decide +kernel) rfl, zt 396 (by decide +kernel) rfl, by decide⟩
def rD_erase : List zRow := [(0, .iload_n 1, 1, 0, 0, 0),
  (1, .iconst 4, 2, 0, 0, 0),
  (2, .invokestatic 42, 5, 0, 0, 0),
  (5, .ifCond .ne 6, 8, 11, 0, 0),
  (8, .bipush (-2), 10, 0, 0, 0),
  (10, .ireturn, 11, 0, 0, 0),
  (11, .aload_n 0, 12, 0, 0, 0),
  (12, .getfield 12, 15, 7, 0, 0),
  (15, .getfield 94, 18, 5, 2, 0),
  (18, .iload_n 1, 19, 0, 0, 0),
  (19, .aaload, 20, 0, 0, 0),
  (20, .invokevirtual 104, 23, 0, 0, 0),
  (23, .ireturn, 24, 0, 0, 0)]
def YD_erase : zY := (⟨"DiscLines", "erase", "(I)I"⟩, 7, prog_1_method_8_code, 2, (some .int), rD_erase)
theorem oD_erase : zok YD_erase := (by decide +kernel : YD_erase.rows.all (zchk YD_erase) = true)
theorem ckD_erase : zCkV YD_erase 1 7 := ⟨⟨zt 456 (by decide +kernel) rfl, zt 71 (by decide +kernel) rfl, by decide +kernel⟩, zt 454 (by decide +kernel) rfl, zt 455 (by decide +kernel) rfl, by decide⟩
def rD_fault : List zRow := [(0, .iload_n 1, 1, 0, 0, 0),
  (1, .iconst 4, 2, 0, 0, 0),
  (2, .invokestatic 42, 5, 0, 0, 0),
  (5, .ifCond .ne 6, 8, 11, 0, 0),
  (8, .bipush (-2), 10, 0, 0, 0),
  (10, .ireturn, 11, 0, 0, 0),
  (11, .aload_n 0, 12, 0, 0, 0),
  (12, .getfield 12, 15, 7, 0, 0),
  (15, .getfield 94, 18, 5, 2, 0),
  (18, .iload_n 1, 19, 0, 0, 0),
  (19, .aaload, 20, 0, 0, 0),
  (20, .getfield 108, 23, 3, 2, 0),
  (23, .ireturn, 24, 0, 0, 0)]
def YD_fault : zY := (⟨"DiscLines", "fault", "(I)I"⟩, 7, prog_1_method_9_code, 2, (some .int), rD_fault)
theorem oD_fault : zok YD_fault := (by decide +kernel : YD_fault.rows.all (zchk YD_fault) = true)
theorem ckD_fault : zCkV YD_fault 1 7 := ⟨⟨zt 464 (by decide +kernel) rfl, zt 71 (by decide +kernel) rfl, by decide +kernel⟩, zt 462 (by decide +kernel) rfl, zt 463 (by decide +kernel) rfl, by decide⟩
def rD_drawn : List zRow := [(0, .iload_n 1, 1, 0, 0, 0),
  (1, .iconst 4, 2, 0, 0, 0),
  (2, .invokestatic 42, 5, 0, 0, 0),
  (5, .ifCond .eq 25, 8, 30, 0, 0),
  (8, .iload_n 2, 9, 0, 0, 0),
  (9, .iload_n 3, 10, 0, 0, 0),
  (10, .iload 4, 12, 0, 0, 0),
  (12, .iload 5, 14, 0, 0, 0),
  (14, .invokestatic 68, 17, 0, 0, 0),
  (17, .ifCond .eq 13, 20, 30, 0, 0),
  (20, .iload 6, 22, 0, 0, 0),
  (22, .ldc 112, 24, 0, 0, 268435456),
  (24, .invokestatic 42, 27, 0, 0, 0),
  (27, .ifCond .ne 6, 30, 33, 0, 0),
  (30, .bipush (-2), 32, 0, 0, 0),
  (32, .ireturn, 33, 0, 0, 0),
  (33, .aload_n 0, 34, 0, 0, 0),
  (34, .iload_n 1, 35, 0, 0, 0),
  (35, .iload_n 2, 36, 0, 0, 0),
  (36, .iload_n 3, 37, 0, 0, 0),
  (37, .iload 4, 39, 0, 0, 0),
  (39, .iload 5, 41, 0, 0, 0),
  (41, .invokevirtual 113, 44, 0, 0, 0),
  (44, .aload_n 0, 45, 0, 0, 0),
  (45, .getfield 27, 48, 7, 3, 0),
  (48, .iload 6, 50, 0, 0, 0),
  (50, .invokevirtual 117, 53, 0, 0, 0),
  (53, .ireturn, 54, 0, 0, 0)]
def YD_drawn : zY := (⟨"DiscLines", "drawn", "(IIIIII)I"⟩, 7, prog_1_method_10_code, 7, (some .int), rD_drawn)
theorem oD_drawn : zok YD_drawn := (by decide +kernel : YD_drawn.rows.all (zchk YD_drawn) = true)
theorem ckD_drawn : zCkV YD_drawn 6 7 := ⟨⟨zt 468 (by decide +kernel) rfl, zt 71 (by decide +kernel) rfl, by decide +kernel⟩, zt 466 (by decide +kernel) rfl, zt 467 (by decide +kernel) rfl, by decide⟩
def rD_far : List zRow := [(0, .iload_n 1, 1, 0, 0, 0),
  (1, .iconst 4, 2, 0, 0, 0),
  (2, .invokestatic 42, 5, 0, 0, 0),
  (5, .ifCond .eq 19, 8, 24, 0, 0),
  (8, .iload_n 2, 9, 0, 0, 0),
  (9, .iconst 4, 10, 0, 0, 0),
  (10, .invokestatic 42, 13, 0, 0, 0),
  (13, .ifCond .eq 11, 16, 24, 0, 0),
  (16, .iload_n 3, 17, 0, 0, 0),
  (17, .iconst 4, 18, 0, 0, 0),
  (18, .invokestatic 42, 21, 0, 0, 0),
  (21, .ifCond .ne 6, 24, 27, 0, 0),
  (24, .bipush (-2), 26, 0, 0, 0),
  (26, .ireturn, 27, 0, 0, 0),
  (27, .aload_n 0, 28, 0, 0, 0),
  (28, .iload_n 1, 29, 0, 0, 0),
  (29, .iload_n 2, 30, 0, 0, 0),
  (30, .iload_n 3, 31, 0, 0, 0),
  (31, .invokevirtual 120, 34, 0, 0, 0),
  (34, .ireturn, 35, 0, 0, 0)]
def YD_far : zY := (⟨"DiscLines", "far", "(III)I"⟩, 7, prog_1_method_11_code, 4, (some .int), rD_far)
theorem oD_far : zok YD_far := (by decide +kernel : YD_far.rows.all (zchk YD_far) = true)
theorem ckD_far : zCkV YD_far 3 7 := ⟨⟨zt 512 (by decide +kernel) rfl, zt 71 (by decide +kernel) rfl, by decide +kernel⟩, zt 510 (by decide +kernel) rfl, zt 511 (by decide +kernel) rfl, by decide⟩
def rD_fairest : List zRow := [(0, .iload_n 1, 1, 0, 0, 0),
  (1, .iconst 4, 2, 0, 0, 0),
  (2, .invokestatic 42, 5, 0, 0, 0),
  (5, .ifCond .eq 28, 8, 33, 0, 0),
  (8, .iload_n 2, 9, 0, 0, 0),
  (9, .iconst 4, 10, 0, 0, 0),
  (10, .invokestatic 42, 13, 0, 0, 0),
  (13, .ifCond .eq 20, 16, 33, 0, 0),
  (16, .iload_n 3, 17, 0, 0, 0),
  (17, .iconst 4, 18, 0, 0, 0),
  (18, .invokestatic 42, 21, 0, 0, 0),
  (21, .ifCond .eq 12, 24, 33, 0, 0),
  (24, .iload 4, 26, 0, 0, 0),
  (26, .iconst 2, 27, 0, 0, 0),
  (27, .invokestatic 42, 30, 0, 0, 0),
  (30, .ifCond .ne 6, 33, 36, 0, 0),
  (33, .bipush (-2), 35, 0, 0, 0),
  (35, .ireturn, 36, 0, 0, 0),
  (36, .iconst 0, 37, 0, 0, 0),
  (37, .istore 5, 39, 0, 0, 0),
  (39, .iconst (-1), 40, 0, 0, 0),
  (40, .istore 6, 42, 0, 0, 0),
  (42, .iconst 0, 43, 0, 0, 0),
  (43, .istore 7, 45, 0, 0, 0),
  (45, .iload 7, 47, 0, 0, 0),
  (47, .iconst 4, 48, 0, 0, 0),
  (48, .if_icmp .ge 60, 51, 108, 0, 0),
  (51, .aload_n 0, 52, 0, 0, 0),
  (52, .iload_n 1, 53, 0, 0, 0),
  (53, .iload_n 3, 54, 0, 0, 0),
  (54, .iload 7, 56, 0, 0, 0),
  (56, .invokevirtual 120, 59, 0, 0, 0),
  (59, .invokestatic 124, 62, 0, 0, 0),
  (62, .istore 8, 64, 0, 0, 0),
  (64, .aload_n 0, 65, 0, 0, 0),
  (65, .iload_n 2, 66, 0, 0, 0),
  (66, .iload_n 3, 67, 0, 0, 0),
  (67, .iload 7, 69, 0, 0, 0),
  (69, .invokevirtual 120, 72, 0, 0, 0),
  (72, .invokestatic 124, 75, 0, 0, 0),
  (75, .istore 9, 77, 0, 0, 0),
  (77, .iload 8, 79, 0, 0, 0),
  (79, .iload 9, 81, 0, 0, 0),
  (81, .isub, 82, 0, 0, 0),
  (82, .invokestatic 129, 85, 0, 0, 0),
  (85, .istore 10, 87, 0, 0, 0),
  (87, .iload 10, 89, 0, 0, 0),
  (89, .iload 6, 91, 0, 0, 0),
  (91, .if_icmp .le 11, 94, 102, 0, 0),
  (94, .iload 10, 96, 0, 0, 0),
  (96, .istore 6, 98, 0, 0, 0),
  (98, .iload 7, 100, 0, 0, 0),
  (100, .istore 5, 102, 0, 0, 0),
  (102, .iinc 7 1, 105, 0, 0, 0),
  (105, .goto (-60), 108, 45, 0, 0),
  (108, .iload 4, 110, 0, 0, 0),
  (110, .ifCond .ne 8, 113, 118, 0, 0),
  (113, .iload 5, 115, 0, 0, 0),
  (115, .goto 5, 118, 120, 0, 0),
  (118, .iload 6, 120, 0, 0, 0),
  (120, .ireturn, 121, 0, 0, 0)]
def YD_fairest : zY := (⟨"DiscLines", "fairest", "(IIII)I"⟩, 7, prog_1_method_12_code, 11, (some .int), rD_fairest)
theorem oD_fairest : zok YD_fairest := (by decide +kernel : YD_fairest.rows.all (zchk YD_fairest) = true)
theorem ckD_fairest : zCkV YD_fairest 4 7 := ⟨⟨zt 528 (by decide +kernel) rfl, zt 71 (by decide +kernel) rfl, by decide +kernel⟩, zt 526 (by decide +kernel) rfl, zt 527 (by decide +kernel) rfl, by decide⟩
def rD_observer : List zRow := [(0, .iload_n 1, 1, 0, 0, 0),
  (1, .iconst 4, 2, 0, 0, 0),
  (2, .invokestatic 42, 5, 0, 0, 0),
  (5, .ifCond .eq 12, 8, 17, 0, 0),
  (8, .iload_n 2, 9, 0, 0, 0),
  (9, .bipush 10, 11, 0, 0, 0),
  (11, .invokestatic 42, 14, 0, 0, 0),
  (14, .ifCond .ne 6, 17, 20, 0, 0),
  (17, .bipush (-2), 19, 0, 0, 0),
  (19, .ireturn, 20, 0, 0, 0),
  (20, .aload_n 0, 21, 0, 0, 0),
  (21, .getfield 12, 24, 7, 0, 0),
  (24, .getfield 132, 27, 5, 3, 0),
  (27, .iload_n 1, 28, 0, 0, 0),
  (28, .iload_n 2, 29, 0, 0, 0),
  (29, .invokevirtual 136, 32, 0, 0, 0),
  (32, .ireturn, 33, 0, 0, 0)]
def YD_observer : zY := (⟨"DiscLines", "observer", "(II)I"⟩, 7, prog_1_method_13_code, 3, (some .int), rD_observer)
theorem oD_observer : zok YD_observer := (by decide +kernel : YD_observer.rows.all (zchk YD_observer) = true)
theorem ckD_observer : zCkV YD_observer 2 7 := ⟨⟨zt 539 (by decide +kernel) rfl, zt 71 (by decide +kernel) rfl, by decide +kernel⟩, zt 537 (by decide +kernel) rfl, zt 538 (by decide +kernel) rfl, by decide⟩
def rD_sheet : List zRow := [(0, .aload_n 0, 1, 0, 0, 0),
  (1, .getfield 12, 4, 7, 0, 0),
  (4, .getfield 132, 7, 5, 3, 0),
  (7, .iload_n 1, 8, 0, 0, 0),
  (8, .iload_n 2, 9, 0, 0, 0),
  (9, .invokevirtual 141, 12, 0, 0, 0),
  (12, .ifCond .eq 12, 15, 24, 0, 0),
  (15, .iload_n 3, 16, 0, 0, 0),
  (16, .ldc 112, 18, 0, 0, 268435456),
  (18, .invokestatic 42, 21, 0, 0, 0),
  (21, .ifCond .ne 6, 24, 27, 0, 0),
  (24, .bipush (-2), 26, 0, 0, 0),
  (26, .ireturn, 27, 0, 0, 0),
  (27, .aload_n 0, 28, 0, 0, 0),
  (28, .getfield 12, 31, 7, 0, 0),
  (31, .getfield 132, 34, 5, 3, 0),
  (34, .iload_n 1, 35, 0, 0, 0),
  (35, .iload_n 2, 36, 0, 0, 0),
  (36, .iload_n 3, 37, 0, 0, 0),
  (37, .invokevirtual 144, 40, 0, 0, 0),
  (40, .ireturn, 41, 0, 0, 0)]
def YD_sheet : zY := (⟨"DiscLines", "sheet", "(III)I"⟩, 7, prog_1_method_14_code, 4, (some .int), rD_sheet)
theorem oD_sheet : zok YD_sheet := (by decide +kernel : YD_sheet.rows.all (zchk YD_sheet) = true)
theorem ckD_sheet : zCkV YD_sheet 3 7 := ⟨⟨zt 548 (by decide +kernel) rfl, zt 71 (by decide +kernel) rfl, by decide +kernel⟩, zt 546 (by decide +kernel) rfl, zt 547 (by decide +kernel) rfl, by decide⟩
def rD_draw : List zRow := [(0, .aload_n 0, 1, 0, 0, 0),
  (1, .getfield 12, 4, 7, 0, 0),
  (4, .getfield 132, 7, 5, 3, 0),
  (7, .astore 7, 9, 0, 0, 0),
  (9, .aload 7, 11, 0, 0, 0),
  (11, .iload_n 1, 12, 0, 0, 0),
  (12, .iload_n 2, 13, 0, 0, 0),
  (13, .invokevirtual 141, 16, 0, 0, 0),
  (16, .ifCond .eq 16, 19, 32, 0, 0),
  (19, .iload_n 3, 20, 0, 0, 0),
  (20, .iload 4, 22, 0, 0, 0),
  (22, .iload 5, 24, 0, 0, 0),
  (24, .iload 6, 26, 0, 0, 0),
  (26, .invokestatic 68, 29, 0, 0, 0),
  (29, .ifCond .ne 6, 32, 35, 0, 0),
  (32, .bipush (-2), 34, 0, 0, 0),
  (34, .ireturn, 35, 0, 0, 0),
  (35, .aload_n 0, 36, 0, 0, 0),
  (36, .aload 7, 38, 0, 0, 0),
  (38, .getfield 147, 41, 0, 0, 0),
  (41, .iload_n 1, 42, 0, 0, 0),
  (42, .iaload, 43, 0, 0, 0),
  (43, .iload_n 3, 44, 0, 0, 0),
  (44, .iload 4, 46, 0, 0, 0),
  (46, .iload 5, 48, 0, 0, 0),
  (48, .iload 6, 50, 0, 0, 0),
  (50, .invokevirtual 113, 53, 0, 0, 0),
  (53, .aload 7, 55, 0, 0, 0),
  (55, .iload_n 1, 56, 0, 0, 0),
  (56, .iload_n 2, 57, 0, 0, 0),
  (57, .aload_n 0, 58, 0, 0, 0),
  (58, .getfield 27, 61, 7, 3, 0),
  (61, .aload 7, 63, 0, 0, 0),
  (63, .iload_n 1, 64, 0, 0, 0),
  (64, .iload_n 2, 65, 0, 0, 0),
  (65, .invokevirtual 150, 68, 0, 0, 0),
  (68, .invokevirtual 117, 71, 0, 0, 0),
  (71, .invokevirtual 144, 74, 0, 0, 0),
  (74, .ireturn, 75, 0, 0, 0)]
def YD_draw : zY := (⟨"DiscLines", "draw", "(IIIIII)I"⟩, 7, prog_1_method_15_code, 8, (some .int), rD_draw)
theorem oD_draw : zok YD_draw := (by decide +kernel : YD_draw.rows.all (zchk YD_draw) = true)
theorem ckD_draw : zCkV YD_draw 6 7 := ⟨⟨zt 560 (by decide +kernel) rfl, zt 71 (by decide +kernel) rfl, by decide +kernel⟩, zt 558 (by decide +kernel) rfl, zt 559 (by decide +kernel) rfl, by decide⟩
def rD_show : List zRow := [(0, .aload_n 0, 1, 0, 0, 0),
  (1, .getfield 12, 4, 7, 0, 0),
  (4, .getfield 132, 7, 5, 3, 0),
  (7, .astore 4, 9, 0, 0, 0),
  (9, .iload_n 1, 10, 0, 0, 0),
  (10, .aload 4, 12, 0, 0, 0),
  (12, .getfield 153, 15, 0, 6, 0),
  (15, .invokestatic 42, 18, 0, 0, 0),
  (18, .ifCond .eq 36, 21, 54, 0, 0),
  (21, .iload_n 2, 22, 0, 0, 0),
  (22, .aload 4, 24, 0, 0, 0),
  (24, .getfield 156, 27, 0, 2, 0),
  (27, .invokestatic 42, 30, 0, 0, 0),
  (30, .ifCond .eq 24, 33, 54, 0, 0),
  (33, .iload_n 3, 34, 0, 0, 0),
  (34, .sipush 1000, 37, 0, 0, 0),
  (37, .invokestatic 42, 40, 0, 0, 0),
  (40, .ifCond .eq 14, 43, 54, 0, 0),
  (43, .iload_n 3, 44, 0, 0, 0),
  (44, .aload 4, 46, 0, 0, 0),
  (46, .getfield 159, 49, 0, 4, 0),
  (49, .iload_n 1, 50, 0, 0, 0),
  (50, .iaload, 51, 0, 0, 0),
  (51, .if_icmp .ge 6, 54, 57, 0, 0),
  (54, .bipush (-2), 56, 0, 0, 0),
  (56, .ireturn, 57, 0, 0, 0),
  (57, .aload 4, 59, 0, 0, 0),
  (59, .iload_n 1, 60, 0, 0, 0),
  (60, .iload_n 2, 61, 0, 0, 0),
  (61, .iload_n 3, 62, 0, 0, 0),
  (62, .invokevirtual 162, 65, 0, 0, 0),
  (65, .ireturn, 66, 0, 0, 0)]
def YD_show : zY := (⟨"DiscLines", "show", "(III)I"⟩, 7, prog_1_method_16_code, 5, (some .int), rD_show)
theorem oD_show : zok YD_show := (by decide +kernel : YD_show.rows.all (zchk YD_show) = true)
theorem ckD_show : zCkV YD_show 3 7 := ⟨⟨zt 577 (by decide +kernel) rfl, zt 71 (by decide +kernel) rfl, by decide +kernel⟩, zt 575 (by decide +kernel) rfl, zt 576 (by decide +kernel) rfl, by decide⟩
def rD_of : List zRow := [(0, .aload_n 0, 1, 0, 0, 0),
  (1, .getfield 12, 4, 7, 0, 0),
  (4, .getfield 132, 7, 5, 3, 0),
  (7, .astore_n 3, 8, 0, 0, 0),
  (8, .iload_n 1, 9, 0, 0, 0),
  (9, .aload_n 3, 10, 0, 0, 0),
  (10, .getfield 153, 13, 0, 6, 0),
  (13, .invokestatic 42, 16, 0, 0, 0),
  (16, .ifCond .eq 11, 19, 27, 0, 0),
  (19, .iload_n 2, 20, 0, 0, 0),
  (20, .iconst 4, 21, 0, 0, 0),
  (21, .invokestatic 42, 24, 0, 0, 0),
  (24, .ifCond .ne 6, 27, 30, 0, 0),
  (27, .bipush (-2), 29, 0, 0, 0),
  (29, .ireturn, 30, 0, 0, 0),
  (30, .iload_n 2, 31, 0, 0, 0),
  (31, .tableswitch 46 0 2 #[25, 32, 39], 56, 0, 0, 0),
  (56, .aload_n 3, 57, 0, 0, 0),
  (57, .getfield 165, 60, 0, 5, 0),
  (60, .iload_n 1, 61, 0, 0, 0),
  (61, .iaload, 62, 0, 0, 0),
  (62, .ireturn, 63, 0, 0, 0),
  (63, .aload_n 3, 64, 0, 0, 0),
  (64, .getfield 168, 67, 0, 3, 0),
  (67, .iload_n 1, 68, 0, 0, 0),
  (68, .iaload, 69, 0, 0, 0),
  (69, .ireturn, 70, 0, 0, 0),
  (70, .aload_n 3, 71, 0, 0, 0),
  (71, .getfield 159, 74, 0, 4, 0),
  (74, .iload_n 1, 75, 0, 0, 0),
  (75, .iaload, 76, 0, 0, 0),
  (76, .ireturn, 77, 0, 0, 0),
  (77, .aload_n 3, 78, 0, 0, 0),
  (78, .iload_n 1, 79, 0, 0, 0),
  (79, .invokevirtual 171, 82, 0, 0, 0),
  (82, .ireturn, 83, 0, 0, 0)]
def YD_of : zY := (⟨"DiscLines", "of", "(II)I"⟩, 7, prog_1_method_17_code, 4, (some .int), rD_of)
theorem oD_of : zok YD_of := (by decide +kernel : YD_of.rows.all (zchk YD_of) = true)
theorem ckD_of : zCkV YD_of 2 7 := ⟨⟨zt 585 (by decide +kernel) rfl, zt 71 (by decide +kernel) rfl, by decide +kernel⟩, zt 583 (by decide +kernel) rfl, zt 584 (by decide +kernel) rfl, by decide⟩
def rD_agree : List zRow := [(0, .aload_n 0, 1, 0, 0, 0),
  (1, .iload_n 1, 2, 0, 0, 0),
  (2, .iload_n 2, 3, 0, 0, 0),
  (3, .invokevirtual 174, 6, 0, 0, 0),
  (6, .ifCond .eq 11, 9, 17, 0, 0),
  (9, .iload_n 3, 10, 0, 0, 0),
  (10, .iconst 2, 11, 0, 0, 0),
  (11, .invokestatic 42, 14, 0, 0, 0),
  (14, .ifCond .ne 6, 17, 20, 0, 0),
  (17, .bipush (-2), 19, 0, 0, 0),
  (19, .ireturn, 20, 0, 0, 0),
  (20, .aload_n 0, 21, 0, 0, 0),
  (21, .getfield 12, 24, 7, 0, 0),
  (24, .getfield 132, 27, 5, 3, 0),
  (27, .astore 4, 29, 0, 0, 0),
  (29, .aload 4, 31, 0, 0, 0),
  (31, .getfield 165, 34, 0, 5, 0),
  (34, .iload_n 1, 35, 0, 0, 0),
  (35, .iaload, 36, 0, 0, 0),
  (36, .aload 4, 38, 0, 0, 0),
  (38, .getfield 165, 41, 0, 5, 0),
  (41, .iload_n 2, 42, 0, 0, 0),
  (42, .iaload, 43, 0, 0, 0),
  (43, .iand, 44, 0, 0, 0),
  (44, .istore 5, 46, 0, 0, 0),
  (46, .iload_n 3, 47, 0, 0, 0),
  (47, .iconst 1, 48, 0, 0, 0),
  (48, .if_icmp .ne 21, 51, 69, 0, 0),
  (51, .iload 5, 53, 0, 0, 0),
  (53, .aload 4, 55, 0, 0, 0),
  (55, .iload_n 1, 56, 0, 0, 0),
  (56, .invokevirtual 171, 59, 0, 0, 0),
  (59, .aload 4, 61, 0, 0, 0),
  (61, .iload_n 2, 62, 0, 0, 0),
  (62, .invokevirtual 171, 65, 0, 0, 0),
  (65, .iand, 66, 0, 0, 0),
  (66, .iand, 67, 0, 0, 0),
  (67, .istore 5, 69, 0, 0, 0),
  (69, .iload 5, 71, 0, 0, 0),
  (71, .invokestatic 124, 74, 0, 0, 0),
  (74, .ireturn, 75, 0, 0, 0)]
def YD_agree : zY := (⟨"DiscLines", "agree", "(III)I"⟩, 7, prog_1_method_18_code, 6, (some .int), rD_agree)
theorem oD_agree : zok YD_agree := (by decide +kernel : YD_agree.rows.all (zchk YD_agree) = true)
theorem ckD_agree : zCkV YD_agree 3 7 := ⟨⟨zt 594 (by decide +kernel) rfl, zt 71 (by decide +kernel) rfl, by decide +kernel⟩, zt 592 (by decide +kernel) rfl, zt 593 (by decide +kernel) rfl, by decide⟩
def rD_chance : List zRow := [(0, .aload_n 0, 1, 0, 0, 0),
  (1, .iload_n 1, 2, 0, 0, 0),
  (2, .iload_n 2, 3, 0, 0, 0),
  (3, .invokevirtual 174, 6, 0, 0, 0),
  (6, .ifCond .ne 6, 9, 12, 0, 0),
  (9, .bipush (-2), 11, 0, 0, 0),
  (11, .ireturn, 12, 0, 0, 0),
  (12, .aload_n 0, 13, 0, 0, 0),
  (13, .getfield 12, 16, 7, 0, 0),
  (16, .getfield 132, 19, 5, 3, 0),
  (19, .getfield 165, 22, 0, 5, 0),
  (22, .iload_n 1, 23, 0, 0, 0),
  (23, .iaload, 24, 0, 0, 0),
  (24, .istore_n 3, 25, 0, 0, 0),
  (25, .aload_n 0, 26, 0, 0, 0),
  (26, .getfield 12, 29, 7, 0, 0),
  (29, .getfield 132, 32, 5, 3, 0),
  (32, .getfield 165, 35, 0, 5, 0),
  (35, .iload_n 2, 36, 0, 0, 0),
  (36, .iaload, 37, 0, 0, 0),
  (37, .istore 4, 39, 0, 0, 0),
  (39, .iload_n 3, 40, 0, 0, 0),
  (40, .invokestatic 124, 43, 0, 0, 0),
  (43, .istore 5, 45, 0, 0, 0),
  (45, .aload_n 0, 46, 0, 0, 0),
  (46, .iload 5, 48, 0, 0, 0),
  (48, .iload 4, 50, 0, 0, 0),
  (50, .invokestatic 124, 53, 0, 0, 0),
  (53, .iload_n 3, 54, 0, 0, 0),
  (54, .iload 4, 56, 0, 0, 0),
  (56, .iand, 57, 0, 0, 0),
  (57, .invokestatic 124, 60, 0, 0, 0),
  (60, .invokestatic 177, 63, 0, 0, 0),
  (63, .bipush 28, 65, 0, 0, 0),
  (65, .iload 5, 67, 0, 0, 0),
  (67, .invokestatic 181, 70, 0, 0, 0),
  (70, .invokevirtual 185, 73, 0, 0, 0),
  (73, .iconst 1, 74, 0, 0, 0),
  (74, .ireturn, 75, 0, 0, 0)]
def YD_chance : zY := (⟨"DiscLines", "chance", "(II)I"⟩, 7, prog_1_method_19_code, 6, (some .int), rD_chance)
theorem oD_chance : zok YD_chance := (by decide +kernel : YD_chance.rows.all (zchk YD_chance) = true)
theorem ckD_chance : zCkV YD_chance 2 7 := ⟨⟨zt 602 (by decide +kernel) rfl, zt 71 (by decide +kernel) rfl, by decide +kernel⟩, zt 600 (by decide +kernel) rfl, zt 601 (by decide +kernel) rfl, by decide⟩
def rD_part : List zRow := [(0, .iload_n 1, 1, 0, 0, 0),
  (1, .iconst 2, 2, 0, 0, 0),
  (2, .invokestatic 42, 5, 0, 0, 0),
  (5, .ifCond .ne 7, 8, 12, 0, 0),
  (8, .ldc2_w 189, 11, 0, 0, -1),
  (11, .lreturn, 12, 0, 0, 0),
  (12, .iload_n 1, 13, 0, 0, 0),
  (13, .ifCond .ne 10, 16, 23, 0, 0),
  (16, .aload_n 0, 17, 0, 0, 0),
  (17, .getfield 35, 20, 7, 5, 0),
  (20, .goto 7, 23, 27, 0, 0),
  (23, .aload_n 0, 24, 0, 0, 0),
  (24, .getfield 39, 27, 7, 6, 0),
  (27, .lreturn, 28, 0, 0, 0)]
def YD_part : zY := (⟨"DiscLines", "part", "(I)J"⟩, 7, prog_1_method_20_code, 2, (some .long), rD_part)
theorem oD_part : zok YD_part := (by decide +kernel : YD_part.rows.all (zchk YD_part) = true)
theorem ckD_part : zCkV YD_part 1 7 := ⟨⟨zt 616 (by decide +kernel) rfl, zt 71 (by decide +kernel) rfl, by decide +kernel⟩, zt 614 (by decide +kernel) rfl, zt 615 (by decide +kernel) rfl, by decide⟩
def rD_own : List zRow := [(0, .iload_n 1, 1, 0, 0, 0),
  (1, .bipush 29, 3, 0, 0, 0),
  (3, .invokestatic 42, 6, 0, 0, 0),
  (6, .ifCond .ne 6, 9, 12, 0, 0),
  (9, .bipush (-2), 11, 0, 0, 0),
  (11, .ireturn, 12, 0, 0, 0),
  (12, .aload_n 0, 13, 0, 0, 0),
  (13, .getfield 12, 16, 7, 0, 0),
  (16, .getfield 191, 19, 5, 5, 0),
  (19, .istore_n 2, 20, 0, 0, 0),
  (20, .aload_n 0, 21, 0, 0, 0),
  (21, .getfield 12, 24, 7, 0, 0),
  (24, .iload_n 1, 25, 0, 0, 0),
  (25, .putfield 191, 28, 5, 5, 0),
  (28, .iload_n 2, 29, 0, 0, 0),
  (29, .ireturn, 30, 0, 0, 0)]
def YD_own : zY := (⟨"DiscLines", "own", "(I)I"⟩, 7, prog_1_method_21_code, 3, (some .int), rD_own)
theorem oD_own : zok YD_own := (by decide +kernel : YD_own.rows.all (zchk YD_own) = true)
theorem ckD_own : zCkV YD_own 1 7 := ⟨⟨zt 621 (by decide +kernel) rfl, zt 71 (by decide +kernel) rfl, by decide +kernel⟩, zt 619 (by decide +kernel) rfl, zt 620 (by decide +kernel) rfl, by decide⟩
def rD_took : List zRow := [(0, .aload_n 0, 1, 0, 0, 0),
  (1, .getfield 12, 4, 7, 0, 0),
  (4, .getfield 132, 7, 5, 3, 0),
  (7, .astore_n 3, 8, 0, 0, 0),
  (8, .iload_n 1, 9, 0, 0, 0),
  (9, .aload_n 3, 10, 0, 0, 0),
  (10, .getfield 153, 13, 0, 6, 0),
  (13, .invokestatic 42, 16, 0, 0, 0),
  (16, .ifCond .eq 11, 19, 27, 0, 0),
  (19, .iload_n 2, 20, 0, 0, 0),
  (20, .iconst 4, 21, 0, 0, 0),
  (21, .invokestatic 42, 24, 0, 0, 0),
  (24, .ifCond .ne 6, 27, 30, 0, 0),
  (27, .bipush (-2), 29, 0, 0, 0),
  (29, .ireturn, 30, 0, 0, 0),
  (30, .iload_n 2, 31, 0, 0, 0),
  (31, .tableswitch 76 0 2 #[25, 38, 51], 56, 0, 0, 0),
  (56, .aload_n 3, 57, 0, 0, 0),
  (57, .iload_n 1, 58, 0, 0, 0),
  (58, .aload_n 0, 59, 0, 0, 0),
  (59, .getfield 12, 62, 7, 0, 0),
  (62, .getfield 191, 65, 5, 5, 0),
  (65, .invokevirtual 194, 68, 0, 0, 0),
  (68, .ireturn, 69, 0, 0, 0),
  (69, .aload_n 3, 70, 0, 0, 0),
  (70, .iload_n 1, 71, 0, 0, 0),
  (71, .aload_n 0, 72, 0, 0, 0),
  (72, .getfield 12, 75, 7, 0, 0),
  (75, .getfield 191, 78, 5, 5, 0),
  (78, .invokevirtual 197, 81, 0, 0, 0),
  (81, .ireturn, 82, 0, 0, 0),
  (82, .aload_n 3, 83, 0, 0, 0),
  (83, .iload_n 1, 84, 0, 0, 0),
  (84, .aload_n 0, 85, 0, 0, 0),
  (85, .getfield 12, 88, 7, 0, 0),
  (88, .getfield 191, 91, 5, 5, 0),
  (91, .invokevirtual 194, 94, 0, 0, 0),
  (94, .invokestatic 124, 97, 0, 0, 0),
  (97, .iconst 1, 98, 0, 0, 0),
  (98, .if_icmp .ne 7, 101, 105, 0, 0),
  (101, .iconst 1, 102, 0, 0, 0),
  (102, .goto 4, 105, 106, 0, 0),
  (105, .iconst 0, 106, 0, 0, 0),
  (106, .ireturn, 107, 0, 0, 0),
  (107, .aload_n 3, 108, 0, 0, 0),
  (108, .iload_n 1, 109, 0, 0, 0),
  (109, .aload_n 0, 110, 0, 0, 0),
  (110, .getfield 12, 113, 7, 0, 0),
  (113, .getfield 191, 116, 5, 5, 0),
  (116, .invokevirtual 200, 119, 0, 0, 0),
  (119, .ireturn, 120, 0, 0, 0)]
def YD_took : zY := (⟨"DiscLines", "took", "(II)I"⟩, 7, prog_1_method_22_code, 4, (some .int), rD_took)
theorem oD_took : zok YD_took := (by decide +kernel : YD_took.rows.all (zchk YD_took) = true)
theorem ckD_took : zCkV YD_took 2 7 := ⟨⟨zt 625 (by decide +kernel) rfl, zt 71 (by decide +kernel) rfl, by decide +kernel⟩, zt 623 (by decide +kernel) rfl, zt 624 (by decide +kernel) rfl, by decide⟩
def rD_ways : List zRow := [(0, .lconst 1, 1, 0, 0, 0),
  (1, .lstore_n 1, 2, 0, 0, 0),
  (2, .iconst 0, 3, 0, 0, 0),
  (3, .istore_n 3, 4, 0, 0, 0),
  (4, .iload_n 3, 5, 0, 0, 0),
  (5, .aload_n 0, 6, 0, 0, 0),
  (6, .getfield 12, 9, 7, 0, 0),
  (9, .getfield 132, 12, 5, 3, 0),
  (12, .getfield 153, 15, 0, 6, 0),
  (15, .if_icmp .ge 34, 18, 49, 0, 0),
  (18, .lload_n 1, 19, 0, 0, 0),
  (19, .aload_n 0, 20, 0, 0, 0),
  (20, .getfield 12, 23, 7, 0, 0),
  (23, .getfield 132, 26, 5, 3, 0),
  (26, .iload_n 3, 27, 0, 0, 0),
  (27, .aload_n 0, 28, 0, 0, 0),
  (28, .getfield 12, 31, 7, 0, 0),
  (31, .getfield 191, 34, 5, 5, 0),
  (34, .invokevirtual 194, 37, 0, 0, 0),
  (37, .invokestatic 124, 40, 0, 0, 0),
  (40, .i2l, 41, 0, 0, 0),
  (41, .lmul, 42, 0, 0, 0),
  (42, .lstore_n 1, 43, 0, 0, 0),
  (43, .iinc 3 1, 46, 0, 0, 0),
  (46, .goto (-42), 49, 4, 0, 0),
  (49, .lload_n 1, 50, 0, 0, 0),
  (50, .lreturn, 51, 0, 0, 0)]
def YD_ways : zY := (⟨"DiscLines", "ways", "()J"⟩, 7, prog_1_method_23_code, 4, (some .long), rD_ways)
theorem oD_ways : zok YD_ways := (by decide +kernel : YD_ways.rows.all (zchk YD_ways) = true)
theorem ckD_ways : zCkV YD_ways 0 7 := ⟨⟨zt 657 (by decide +kernel) rfl, zt 71 (by decide +kernel) rfl, by decide +kernel⟩, zt 655 (by decide +kernel) rfl, zt 656 (by decide +kernel) rfl, by decide⟩
def rD_guess : List zRow := [(0, .iload_n 1, 1, 0, 0, 0),
  (1, .iconst 4, 2, 0, 0, 0),
  (2, .invokestatic 42, 5, 0, 0, 0),
  (5, .ifCond .eq 19, 8, 24, 0, 0),
  (8, .iload_n 2, 9, 0, 0, 0),
  (9, .iconst 4, 10, 0, 0, 0),
  (10, .invokestatic 42, 13, 0, 0, 0),
  (13, .ifCond .eq 11, 16, 24, 0, 0),
  (16, .iload_n 3, 17, 0, 0, 0),
  (17, .iconst 4, 18, 0, 0, 0),
  (18, .invokestatic 42, 21, 0, 0, 0),
  (21, .ifCond .ne 6, 24, 27, 0, 0),
  (24, .bipush (-2), 26, 0, 0, 0),
  (26, .ireturn, 27, 0, 0, 0),
  (27, .aload_n 0, 28, 0, 0, 0),
  (28, .getfield 12, 31, 7, 0, 0),
  (31, .getfield 203, 34, 5, 4, 0),
  (34, .iload_n 1, 35, 0, 0, 0),
  (35, .iload_n 2, 36, 0, 0, 0),
  (36, .iload_n 3, 37, 0, 0, 0),
  (37, .invokevirtual 207, 40, 0, 0, 0),
  (40, .ireturn, 41, 0, 0, 0)]
def YD_guess : zY := (⟨"DiscLines", "guess", "(III)I"⟩, 7, prog_1_method_24_code, 4, (some .int), rD_guess)
theorem oD_guess : zok YD_guess := (by decide +kernel : YD_guess.rows.all (zchk YD_guess) = true)
theorem ckD_guess : zCkV YD_guess 3 7 := ⟨⟨zt 661 (by decide +kernel) rfl, zt 71 (by decide +kernel) rfl, by decide +kernel⟩, zt 659 (by decide +kernel) rfl, zt 660 (by decide +kernel) rfl, by decide⟩
def rD_error : List zRow := [(0, .iload_n 1, 1, 0, 0, 0),
  (1, .bipush 29, 3, 0, 0, 0),
  (3, .invokestatic 42, 6, 0, 0, 0),
  (6, .ifCond .ne 6, 9, 12, 0, 0),
  (9, .bipush (-2), 11, 0, 0, 0),
  (11, .ireturn, 12, 0, 0, 0),
  (12, .aload_n 0, 13, 0, 0, 0),
  (13, .getfield 12, 16, 7, 0, 0),
  (16, .getfield 212, 19, 5, 6, 0),
  (19, .istore_n 2, 20, 0, 0, 0),
  (20, .aload_n 0, 21, 0, 0, 0),
  (21, .getfield 12, 24, 7, 0, 0),
  (24, .iload_n 1, 25, 0, 0, 0),
  (25, .putfield 212, 28, 5, 6, 0),
  (28, .iload_n 2, 29, 0, 0, 0),
  (29, .ireturn, 30, 0, 0, 0)]
def YD_error : zY := (⟨"DiscLines", "error", "(I)I"⟩, 7, prog_1_method_25_code, 3, (some .int), rD_error)
theorem oD_error : zok YD_error := (by decide +kernel : YD_error.rows.all (zchk YD_error) = true)
theorem ckD_error : zCkV YD_error 1 7 := ⟨⟨zt 670 (by decide +kernel) rfl, zt 71 (by decide +kernel) rfl, by decide +kernel⟩, zt 668 (by decide +kernel) rfl, zt 669 (by decide +kernel) rfl, by decide⟩
def rD_allows : List zRow := [(0, .iload_n 1, 1, 0, 0, 0),
  (1, .aload_n 0, 2, 0, 0, 0),
  (2, .getfield 12, 5, 7, 0, 0),
  (5, .getfield 203, 8, 5, 4, 0),
  (8, .getfield 215, 11, 2, 3, 0),
  (11, .invokestatic 42, 14, 0, 0, 0),
  (14, .ifCond .eq 20, 17, 34, 0, 0),
  (17, .iload_n 2, 18, 0, 0, 0),
  (18, .aload_n 0, 19, 0, 0, 0),
  (19, .getfield 12, 22, 7, 0, 0),
  (22, .getfield 132, 25, 5, 3, 0),
  (25, .getfield 153, 28, 0, 6, 0),
  (28, .invokestatic 42, 31, 0, 0, 0),
  (31, .ifCond .ne 6, 34, 37, 0, 0),
  (34, .bipush (-2), 36, 0, 0, 0),
  (36, .ireturn, 37, 0, 0, 0),
  (37, .aload_n 0, 38, 0, 0, 0),
  (38, .iload_n 1, 39, 0, 0, 0),
  (39, .iconst 1, 40, 0, 0, 0),
  (40, .iload_n 2, 41, 0, 0, 0),
  (41, .ishl, 42, 0, 0, 0),
  (42, .invokevirtual 218, 45, 0, 0, 0),
  (45, .ifCond .eq 7, 48, 52, 0, 0),
  (48, .iconst 1, 49, 0, 0, 0),
  (49, .goto 4, 52, 53, 0, 0),
  (52, .iconst 0, 53, 0, 0, 0),
  (53, .ireturn, 54, 0, 0, 0)]
def YD_allows : zY := (⟨"DiscLines", "allows", "(II)I"⟩, 7, prog_1_method_26_code, 3, (some .int), rD_allows)
theorem oD_allows : zok YD_allows := (by decide +kernel : YD_allows.rows.all (zchk YD_allows) = true)
theorem ckD_allows : zCkV YD_allows 2 7 := ⟨⟨zt 674 (by decide +kernel) rfl, zt 71 (by decide +kernel) rfl, by decide +kernel⟩, zt 672 (by decide +kernel) rfl, zt 673 (by decide +kernel) rfl, by decide⟩
def rD_mayBe : List zRow := [(0, .aload_n 0, 1, 0, 0, 0),
  (1, .iload_n 1, 2, 0, 0, 0),
  (2, .invokevirtual 221, 5, 0, 0, 0),
  (5, .ifCond .ne 6, 8, 11, 0, 0),
  (8, .bipush (-2), 10, 0, 0, 0),
  (10, .ireturn, 11, 0, 0, 0),
  (11, .aload_n 0, 12, 0, 0, 0),
  (12, .iload_n 1, 13, 0, 0, 0),
  (13, .invokevirtual 225, 16, 0, 0, 0),
  (16, .ireturn, 17, 0, 0, 0)]
def YD_mayBe : zY := (⟨"DiscLines", "mayBe", "(I)I"⟩, 7, prog_1_method_27_code, 2, (some .int), rD_mayBe)
theorem oD_mayBe : zok YD_mayBe := (by decide +kernel : YD_mayBe.rows.all (zchk YD_mayBe) = true)
theorem ckD_mayBe : zCkV YD_mayBe 1 7 := ⟨⟨zt 683 (by decide +kernel) rfl, zt 71 (by decide +kernel) rfl, by decide +kernel⟩, zt 681 (by decide +kernel) rfl, zt 682 (by decide +kernel) rfl, by decide⟩
def rD_there : List zRow := [(0, .aload_n 0, 1, 0, 0, 0),
  (1, .iload_n 1, 2, 0, 0, 0),
  (2, .invokevirtual 221, 5, 0, 0, 0),
  (5, .ifCond .eq 11, 8, 16, 0, 0),
  (8, .iload_n 2, 9, 0, 0, 0),
  (9, .iconst 2, 10, 0, 0, 0),
  (10, .invokestatic 42, 13, 0, 0, 0),
  (13, .ifCond .ne 6, 16, 19, 0, 0),
  (16, .bipush (-2), 18, 0, 0, 0),
  (18, .ireturn, 19, 0, 0, 0),
  (19, .aload_n 0, 20, 0, 0, 0),
  (20, .getfield 12, 23, 7, 0, 0),
  (23, .getfield 203, 26, 5, 4, 0),
  (26, .aload_n 0, 27, 0, 0, 0),
  (27, .iload_n 1, 28, 0, 0, 0),
  (28, .invokevirtual 225, 31, 0, 0, 0),
  (31, .invokevirtual 228, 34, 0, 0, 0),
  (34, .istore_n 3, 35, 0, 0, 0),
  (35, .iload_n 3, 36, 0, 0, 0),
  (36, .ifCond .ne 5, 39, 41, 0, 0),
  (39, .iconst (-1), 40, 0, 0, 0),
  (40, .ireturn, 41, 0, 0, 0),
  (41, .ldc 231, 43, 0, 0, 268435455),
  (43, .istore 4, 45, 0, 0, 0),
  (45, .iconst 0, 46, 0, 0, 0),
  (46, .istore 5, 48, 0, 0, 0),
  (48, .iconst 0, 49, 0, 0, 0),
  (49, .istore 6, 51, 0, 0, 0),
  (51, .iload 6, 53, 0, 0, 0),
  (53, .iconst 4, 54, 0, 0, 0),
  (54, .if_icmp .ge 81, 57, 135, 0, 0),
  (57, .iload_n 3, 58, 0, 0, 0),
  (58, .iload 6, 60, 0, 0, 0),
  (60, .invokestatic 232, 63, 0, 0, 0),
  (63, .ifCond .eq 66, 66, 129, 0, 0),
  (66, .aload_n 0, 67, 0, 0, 0),
  (67, .getfield 27, 70, 7, 3, 0),
  (70, .getfield 72, 73, 1, 0, 0),
  (73, .aload_n 0, 74, 0, 0, 0),
  (74, .getfield 12, 77, 7, 0, 0),
  (77, .getfield 46, 80, 5, 0, 0),
  (80, .iload 6, 82, 0, 0, 0),
  (82, .aaload, 83, 0, 0, 0),
  (83, .iconst 0, 84, 0, 0, 0),
  (84, .iconst 0, 85, 0, 0, 0),
  (85, .iconst 0, 86, 0, 0, 0),
  (86, .invokevirtual 76, 89, 0, 0, 0),
  (89, .aload_n 0, 90, 0, 0, 0),
  (90, .getfield 27, 93, 7, 3, 0),
  (93, .aload_n 0, 94, 0, 0, 0),
  (94, .getfield 12, 97, 7, 0, 0),
  (97, .getfield 94, 100, 5, 2, 0),
  (100, .iconst 0, 101, 0, 0, 0),
  (101, .aaload, 102, 0, 0, 0),
  (102, .aload_n 0, 103, 0, 0, 0),
  (103, .getfield 12, 106, 7, 0, 0),
  (106, .getfield 65, 109, 5, 1, 0),
  (109, .iconst 0, 110, 0, 0, 0),
  (110, .invokevirtual 235, 113, 0, 0, 0),
  (113, .istore 7, 115, 0, 0, 0),
  (115, .iload 4, 117, 0, 0, 0),
  (117, .iload 7, 119, 0, 0, 0),
  (119, .iand, 120, 0, 0, 0),
  (120, .istore 4, 122, 0, 0, 0),
  (122, .iload 5, 124, 0, 0, 0),
  (124, .iload 7, 126, 0, 0, 0),
  (126, .ior, 127, 0, 0, 0),
  (127, .istore 5, 129, 0, 0, 0),
  (129, .iinc 6 1, 132, 0, 0, 0),
  (132, .goto (-81), 135, 51, 0, 0),
  (135, .iload_n 2, 136, 0, 0, 0),
  (136, .ifCond .ne 8, 139, 144, 0, 0),
  (139, .iload 4, 141, 0, 0, 0),
  (141, .goto 5, 144, 146, 0, 0),
  (144, .iload 5, 146, 0, 0, 0),
  (146, .ireturn, 147, 0, 0, 0)]
def YD_there : zY := (⟨"DiscLines", "there", "(II)I"⟩, 7, prog_1_method_28_code, 8, (some .int), rD_there)
theorem oD_there : zok YD_there := (by decide +kernel : YD_there.rows.all (zchk YD_there) = true)
theorem ckD_there : zCkV YD_there 2 7 := ⟨⟨zt 695 (by decide +kernel) rfl, zt 71 (by decide +kernel) rfl, by decide +kernel⟩, zt 693 (by decide +kernel) rfl, zt 694 (by decide +kernel) rfl, by decide⟩
def rD_parts : List zRow := [(0, .aload_n 0, 1, 0, 0, 0),
  (1, .iload_n 1, 2, 0, 0, 0),
  (2, .invokevirtual 221, 5, 0, 0, 0),
  (5, .ifCond .eq 11, 8, 16, 0, 0),
  (8, .iload_n 2, 9, 0, 0, 0),
  (9, .iconst 2, 10, 0, 0, 0),
  (10, .invokestatic 42, 13, 0, 0, 0),
  (13, .ifCond .ne 6, 16, 19, 0, 0),
  (16, .bipush (-2), 18, 0, 0, 0),
  (18, .ireturn, 19, 0, 0, 0),
  (19, .aload_n 0, 20, 0, 0, 0),
  (20, .getfield 12, 23, 7, 0, 0),
  (23, .getfield 203, 26, 5, 4, 0),
  (26, .aload_n 0, 27, 0, 0, 0),
  (27, .iload_n 1, 28, 0, 0, 0),
  (28, .invokevirtual 225, 31, 0, 0, 0),
  (31, .invokevirtual 228, 34, 0, 0, 0),
  (34, .istore_n 3, 35, 0, 0, 0),
  (35, .iload_n 3, 36, 0, 0, 0),
  (36, .ifCond .ne 5, 39, 41, 0, 0),
  (39, .iconst (-1), 40, 0, 0, 0),
  (40, .ireturn, 41, 0, 0, 0),
  (41, .iconst 0, 42, 0, 0, 0),
  (42, .istore 4, 44, 0, 0, 0),
  (44, .iconst 0, 45, 0, 0, 0),
  (45, .istore 5, 47, 0, 0, 0),
  (47, .iconst 0, 48, 0, 0, 0),
  (48, .istore 6, 50, 0, 0, 0),
  (50, .iload 6, 52, 0, 0, 0),
  (52, .iconst 4, 53, 0, 0, 0),
  (53, .if_icmp .ge 61, 56, 114, 0, 0),
  (56, .aload_n 0, 57, 0, 0, 0),
  (57, .iload_n 3, 58, 0, 0, 0),
  (58, .iload 6, 60, 0, 0, 0),
  (60, .invokevirtual 239, 63, 0, 0, 0),
  (63, .iconst 0, 64, 0, 0, 0),
  (64, .istore 7, 66, 0, 0, 0),
  (66, .iload 7, 68, 0, 0, 0),
  (68, .iconst 4, 69, 0, 0, 0),
  (69, .if_icmp .ge 39, 72, 108, 0, 0),
  (72, .aload_n 0, 73, 0, 0, 0),
  (73, .iload_n 3, 74, 0, 0, 0),
  (74, .iload 7, 76, 0, 0, 0),
  (76, .invokevirtual 243, 79, 0, 0, 0),
  (79, .istore 8, 81, 0, 0, 0),
  (81, .iload 8, 83, 0, 0, 0),
  (83, .iload 5, 85, 0, 0, 0),
  (85, .if_icmp .le 17, 88, 102, 0, 0),
  (88, .iload 8, 90, 0, 0, 0),
  (90, .istore 5, 92, 0, 0, 0),
  (92, .bipush 10, 94, 0, 0, 0),
  (94, .iload 6, 96, 0, 0, 0),
  (96, .imul, 97, 0, 0, 0),
  (97, .iload 7, 99, 0, 0, 0),
  (99, .iadd, 100, 0, 0, 0),
  (100, .istore 4, 102, 0, 0, 0),
  (102, .iinc 7 1, 105, 0, 0, 0),
  (105, .goto (-39), 108, 66, 0, 0),
  (108, .iinc 6 1, 111, 0, 0, 0),
  (111, .goto (-61), 114, 50, 0, 0),
  (114, .iload_n 2, 115, 0, 0, 0),
  (115, .ifCond .ne 8, 118, 123, 0, 0),
  (118, .iload 4, 120, 0, 0, 0),
  (120, .goto 5, 123, 125, 0, 0),
  (123, .iload 5, 125, 0, 0, 0),
  (125, .ireturn, 126, 0, 0, 0)]
def YD_parts : zY := (⟨"DiscLines", "parts", "(II)I"⟩, 7, prog_1_method_29_code, 9, (some .int), rD_parts)
theorem oD_parts : zok YD_parts := (by decide +kernel : YD_parts.rows.all (zchk YD_parts) = true)
theorem ckD_parts : zCkV YD_parts 2 7 := ⟨⟨zt 705 (by decide +kernel) rfl, zt 71 (by decide +kernel) rfl, by decide +kernel⟩, zt 703 (by decide +kernel) rfl, zt 704 (by decide +kernel) rfl, by decide⟩
def rD_weighed : List zRow := [(0, .iload_n 1, 1, 0, 0, 0),
  (1, .iconst 2, 2, 0, 0, 0),
  (2, .invokestatic 42, 5, 0, 0, 0),
  (5, .ifCond .eq 24, 8, 29, 0, 0),
  (8, .aload_n 0, 9, 0, 0, 0),
  (9, .getfield 12, 12, 7, 0, 0),
  (12, .getfield 132, 15, 5, 3, 0),
  (15, .iload_n 1, 16, 0, 0, 0),
  (16, .iconst 1, 17, 0, 0, 0),
  (17, .if_icmp .ne 7, 20, 24, 0, 0),
  (20, .iconst 1, 21, 0, 0, 0),
  (21, .goto 4, 24, 25, 0, 0),
  (24, .iconst 0, 25, 0, 0, 0),
  (25, .invokevirtual 246, 28, 0, 0, 0),
  (28, .ireturn, 29, 0, 0, 0),
  (29, .iload_n 1, 30, 0, 0, 0),
  (30, .bipush 10, 32, 0, 0, 0),
  (32, .if_icmp .lt 15, 35, 47, 0, 0),
  (35, .iload_n 1, 36, 0, 0, 0),
  (36, .bipush 10, 38, 0, 0, 0),
  (38, .isub, 39, 0, 0, 0),
  (39, .bipush 28, 41, 0, 0, 0),
  (41, .invokestatic 42, 44, 0, 0, 0),
  (44, .ifCond .ne 7, 47, 51, 0, 0),
  (47, .sipush (-1000), 50, 0, 0, 0),
  (50, .ireturn, 51, 0, 0, 0),
  (51, .aload_n 0, 52, 0, 0, 0),
  (52, .getfield 12, 55, 7, 0, 0),
  (55, .getfield 132, 58, 5, 3, 0),
  (58, .iload_n 1, 59, 0, 0, 0),
  (59, .bipush 10, 61, 0, 0, 0),
  (61, .isub, 62, 0, 0, 0),
  (62, .invokevirtual 250, 65, 0, 0, 0),
  (65, .ireturn, 66, 0, 0, 0)]
def YD_weighed : zY := (⟨"DiscLines", "weighed", "(I)I"⟩, 7, prog_1_method_30_code, 2, (some .int), rD_weighed)
theorem oD_weighed : zok YD_weighed := (by decide +kernel : YD_weighed.rows.all (zchk YD_weighed) = true)
theorem ckD_weighed : zCkV YD_weighed 1 7 := ⟨⟨zt 721 (by decide +kernel) rfl, zt 71 (by decide +kernel) rfl, by decide +kernel⟩, zt 719 (by decide +kernel) rfl, zt 720 (by decide +kernel) rfl, by decide⟩
def rD_season : List zRow := [(0, .aload_n 0, 1, 0, 0, 0),
  (1, .iload_n 1, 2, 0, 0, 0),
  (2, .invokevirtual 221, 5, 0, 0, 0),
  (5, .ifCond .eq 25, 8, 30, 0, 0),
  (8, .aload_n 0, 9, 0, 0, 0),
  (9, .iload_n 2, 10, 0, 0, 0),
  (10, .invokevirtual 221, 13, 0, 0, 0),
  (13, .ifCond .eq 17, 16, 30, 0, 0),
  (16, .iload_n 1, 17, 0, 0, 0),
  (17, .ifCond .eq 13, 20, 30, 0, 0),
  (20, .iload_n 2, 21, 0, 0, 0),
  (21, .ifCond .eq 9, 24, 30, 0, 0),
  (24, .iload_n 1, 25, 0, 0, 0),
  (25, .iload_n 2, 26, 0, 0, 0),
  (26, .iand, 27, 0, 0, 0),
  (27, .ifCond .eq 6, 30, 33, 0, 0),
  (30, .bipush (-2), 32, 0, 0, 0),
  (32, .ireturn, 33, 0, 0, 0),
  (33, .aload_n 0, 34, 0, 0, 0),
  (34, .getfield 12, 37, 7, 0, 0),
  (37, .getfield 132, 40, 5, 3, 0),
  (40, .iload_n 1, 41, 0, 0, 0),
  (41, .invokevirtual 253, 44, 0, 0, 0),
  (44, .aload_n 0, 45, 0, 0, 0),
  (45, .getfield 12, 48, 7, 0, 0),
  (48, .getfield 132, 51, 5, 3, 0),
  (51, .iload_n 2, 52, 0, 0, 0),
  (52, .invokevirtual 256, 55, 0, 0, 0),
  (55, .iconst (-1), 56, 0, 0, 0),
  (56, .ixor, 57, 0, 0, 0),
  (57, .iand, 58, 0, 0, 0),
  (58, .ireturn, 59, 0, 0, 0)]
def YD_season : zY := (⟨"DiscLines", "season", "(II)I"⟩, 7, prog_1_method_31_code, 3, (some .int), rD_season)
theorem oD_season : zok YD_season := (by decide +kernel : YD_season.rows.all (zchk YD_season) = true)
theorem ckD_season : zCkV YD_season 2 7 := ⟨⟨zt 742 (by decide +kernel) rfl, zt 71 (by decide +kernel) rfl, by decide +kernel⟩, zt 740 (by decide +kernel) rfl, zt 741 (by decide +kernel) rfl, by decide⟩
def rD_image : List zRow := [(0, .iload_n 1, 1, 0, 0, 0),
  (1, .iconst 2, 2, 0, 0, 0),
  (2, .invokestatic 42, 5, 0, 0, 0),
  (5, .ifCond .ne 6, 8, 11, 0, 0),
  (8, .bipush (-2), 10, 0, 0, 0),
  (10, .ireturn, 11, 0, 0, 0),
  (11, .aload_n 0, 12, 0, 0, 0),
  (12, .getfield 16, 15, 7, 1, 0),
  (15, .iload_n 1, 16, 0, 0, 0),
  (16, .aaload, 17, 0, 0, 0),
  (17, .aload_n 0, 18, 0, 0, 0),
  (18, .getfield 12, 21, 7, 0, 0),
  (21, .invokevirtual 259, 24, 0, 0, 0),
  (24, .aload_n 0, 25, 0, 0, 0),
  (25, .getfield 20, 28, 7, 2, 0),
  (28, .iload_n 1, 29, 0, 0, 0),
  (29, .iconst 1, 30, 0, 0, 0),
  (30, .bastore, 31, 0, 0, 0),
  (31, .iconst 1, 32, 0, 0, 0),
  (32, .ireturn, 33, 0, 0, 0)]
def YD_image : zY := (⟨"DiscLines", "image", "(I)I"⟩, 7, prog_1_method_32_code, 2, (some .int), rD_image)
theorem oD_image : zok YD_image := (by decide +kernel : YD_image.rows.all (zchk YD_image) = true)
theorem ckD_image : zCkV YD_image 1 7 := ⟨⟨zt 752 (by decide +kernel) rfl, zt 71 (by decide +kernel) rfl, by decide +kernel⟩, zt 750 (by decide +kernel) rfl, zt 751 (by decide +kernel) rfl, by decide⟩
def rD_from : List zRow := [(0, .iload_n 1, 1, 0, 0, 0),
  (1, .iconst 2, 2, 0, 0, 0),
  (2, .invokestatic 42, 5, 0, 0, 0),
  (5, .ifCond .ne 6, 8, 11, 0, 0),
  (8, .bipush (-2), 10, 0, 0, 0),
  (10, .ireturn, 11, 0, 0, 0),
  (11, .aload_n 0, 12, 0, 0, 0),
  (12, .getfield 20, 15, 7, 2, 0),
  (15, .iload_n 1, 16, 0, 0, 0),
  (16, .baload, 17, 0, 0, 0),
  (17, .ifCond .ne 6, 20, 23, 0, 0),
  (20, .bipush (-3), 22, 0, 0, 0),
  (22, .ireturn, 23, 0, 0, 0),
  (23, .aload_n 0, 24, 0, 0, 0),
  (24, .getfield 12, 27, 7, 0, 0),
  (27, .aload_n 0, 28, 0, 0, 0),
  (28, .getfield 16, 31, 7, 1, 0),
  (31, .iload_n 1, 32, 0, 0, 0),
  (32, .aaload, 33, 0, 0, 0),
  (33, .invokevirtual 259, 36, 0, 0, 0),
  (36, .iconst 1, 37, 0, 0, 0),
  (37, .ireturn, 38, 0, 0, 0)]
def YD_from : zY := (⟨"DiscLines", "from", "(I)I"⟩, 7, prog_1_method_33_code, 2, (some .int), rD_from)
theorem oD_from : zok YD_from := (by decide +kernel : YD_from.rows.all (zchk YD_from) = true)
theorem ckD_from : zCkV YD_from 1 7 := ⟨⟨zt 786 (by decide +kernel) rfl, zt 71 (by decide +kernel) rfl, by decide +kernel⟩, zt 784 (by decide +kernel) rfl, zt 785 (by decide +kernel) rfl, by decide⟩
def rD_count : List zRow := [(0, .iload_n 1, 1, 0, 0, 0),
  (1, .tableswitch 75 0 3 #[31, 42, 53, 64], 32, 0, 0, 0),
  (32, .aload_n 0, 33, 0, 0, 0),
  (33, .getfield 12, 36, 7, 0, 0),
  (36, .getfield 132, 39, 5, 3, 0),
  (39, .getfield 156, 42, 0, 2, 0),
  (42, .ireturn, 43, 0, 0, 0),
  (43, .aload_n 0, 44, 0, 0, 0),
  (44, .getfield 12, 47, 7, 0, 0),
  (47, .getfield 132, 50, 5, 3, 0),
  (50, .getfield 153, 53, 0, 6, 0),
  (53, .ireturn, 54, 0, 0, 0),
  (54, .aload_n 0, 55, 0, 0, 0),
  (55, .getfield 12, 58, 7, 0, 0),
  (58, .getfield 132, 61, 5, 3, 0),
  (61, .getfield 263, 64, 0, 10, 0),
  (64, .ireturn, 65, 0, 0, 0),
  (65, .aload_n 0, 66, 0, 0, 0),
  (66, .getfield 12, 69, 7, 0, 0),
  (69, .getfield 203, 72, 5, 4, 0),
  (72, .getfield 215, 75, 2, 3, 0),
  (75, .ireturn, 76, 0, 0, 0),
  (76, .bipush (-2), 78, 0, 0, 0),
  (78, .ireturn, 79, 0, 0, 0)]
def YD_count : zY := (⟨"DiscLines", "count", "(I)I"⟩, 7, prog_1_method_34_code, 2, (some .int), rD_count)
theorem oD_count : zok YD_count := (by decide +kernel : YD_count.rows.all (zchk YD_count) = true)
theorem ckD_count : zCkV YD_count 1 7 := ⟨⟨zt 790 (by decide +kernel) rfl, zt 71 (by decide +kernel) rfl, by decide +kernel⟩, zt 788 (by decide +kernel) rfl, zt 789 (by decide +kernel) rfl, by decide⟩
def rD_digest : List zRow := [(0, .aload_n 0, 1, 0, 0, 0),
  (1, .getfield 12, 4, 7, 0, 0),
  (4, .ldc2_w 266, 7, 0, 0, 431),
  (7, .invokevirtual 268, 10, 0, 0, 0),
  (10, .aload_n 0, 11, 0, 0, 0),
  (11, .getfield 35, 14, 7, 5, 0),
  (14, .invokestatic 272, 17, 0, 0, 0),
  (17, .aload_n 0, 18, 0, 0, 0),
  (18, .getfield 39, 21, 7, 6, 0),
  (21, .invokestatic 272, 24, 0, 0, 0),
  (24, .lreturn, 25, 0, 0, 0)]
def YD_digest : zY := (⟨"DiscLines", "digest", "()J"⟩, 7, prog_1_method_35_code, 1, (some .long), rD_digest)
theorem oD_digest : zok YD_digest := (by decide +kernel : YD_digest.rows.all (zchk YD_digest) = true)
theorem ckD_digest : zCkV YD_digest 0 7 := ⟨⟨zt 794 (by decide +kernel) rfl, zt 71 (by decide +kernel) rfl, by decide +kernel⟩, zt 792 (by decide +kernel) rfl, zt 793 (by decide +kernel) rfl, by decide⟩
def rD_isOneOf : List zRow := [(0, .iload_n 0, 1, 0, 0, 0),
  (1, .ifCond .lt 12, 4, 13, 0, 0),
  (4, .iload_n 0, 5, 0, 0, 0),
  (5, .iload_n 1, 6, 0, 0, 0),
  (6, .if_icmp .ge 7, 9, 13, 0, 0),
  (9, .iconst 1, 10, 0, 0, 0),
  (10, .goto 4, 13, 14, 0, 0),
  (13, .iconst 0, 14, 0, 0, 0),
  (14, .ireturn, 15, 0, 0, 0)]
def YD_isOneOf : zY := (⟨"DiscLines", "isOneOf", "(II)Z"⟩, 7, prog_1_method_36_code, 2, (some .boolean), rD_isOneOf)
theorem oD_isOneOf : zok YD_isOneOf := (by decide +kernel : YD_isOneOf.rows.all (zchk YD_isOneOf) = true)
theorem ckD_isOneOf : zCkS YD_isOneOf 2 := ⟨⟨zt 330 (by decide +kernel) rfl, zt 71 (by decide +kernel) rfl, by decide +kernel⟩, zt 329 (by decide +kernel) rfl⟩
def rD_has : List zRow := [(0, .iload_n 0, 1, 0, 0, 0),
  (1, .iload_n 1, 2, 0, 0, 0),
  (2, .ishr, 3, 0, 0, 0),
  (3, .iconst 1, 4, 0, 0, 0),
  (4, .iand, 5, 0, 0, 0),
  (5, .ifCond .eq 7, 8, 12, 0, 0),
  (8, .iconst 1, 9, 0, 0, 0),
  (9, .goto 4, 12, 13, 0, 0),
  (12, .iconst 0, 13, 0, 0, 0),
  (13, .ireturn, 14, 0, 0, 0)]
def YD_has : zY := (⟨"DiscLines", "has", "(II)Z"⟩, 7, prog_1_method_37_code, 2, (some .boolean), rD_has)
theorem oD_has : zok YD_has := (by decide +kernel : YD_has.rows.all (zchk YD_has) = true)
theorem ckD_has : zCkS YD_has 2 := ⟨⟨zt 363 (by decide +kernel) rfl, zt 71 (by decide +kernel) rfl, by decide +kernel⟩, zt 362 (by decide +kernel) rfl⟩
def rD_replace : List zRow := [(0, .iload_n 1, 1, 0, 0, 0),
  (1, .aload_n 0, 2, 0, 0, 0),
  (2, .arraylength, 3, 0, 0, 0),
  (3, .invokestatic 42, 6, 0, 0, 0),
  (6, .ifCond .ne 6, 9, 12, 0, 0),
  (9, .bipush (-2), 11, 0, 0, 0),
  (11, .ireturn, 12, 0, 0, 0),
  (12, .aload_n 0, 13, 0, 0, 0),
  (13, .iload_n 1, 14, 0, 0, 0),
  (14, .iaload, 15, 0, 0, 0),
  (15, .istore_n 3, 16, 0, 0, 0),
  (16, .aload_n 0, 17, 0, 0, 0),
  (17, .iload_n 1, 18, 0, 0, 0),
  (18, .iload_n 2, 19, 0, 0, 0),
  (19, .iastore, 20, 0, 0, 0),
  (20, .iload_n 3, 21, 0, 0, 0),
  (21, .ireturn, 22, 0, 0, 0)]
def YD_replace : zY := (⟨"DiscLines", "replace", "([III)I"⟩, 7, prog_1_method_38_code, 4, (some .int), rD_replace)
theorem oD_replace : zok YD_replace := (by decide +kernel : YD_replace.rows.all (zchk YD_replace) = true)
theorem ckD_replace : zCkS YD_replace 3 := ⟨⟨zt 333 (by decide +kernel) rfl, zt 71 (by decide +kernel) rfl, by decide +kernel⟩, zt 332 (by decide +kernel) rfl⟩
def rD_mix : List zRow := [(0, .ldc2_w 276, 3, 0, 0, 31),
  (3, .lload_n 0, 4, 0, 0, 0),
  (4, .lmul, 5, 0, 0, 0),
  (5, .lload_n 2, 6, 0, 0, 0),
  (6, .ladd, 7, 0, 0, 0),
  (7, .lreturn, 8, 0, 0, 0)]
def YD_mix : zY := (⟨"DiscLines", "mix", "(JJ)J"⟩, 7, prog_1_method_39_code, 4, (some .long), rD_mix)
theorem oD_mix : zok YD_mix := (by decide +kernel : YD_mix.rows.all (zchk YD_mix) = true)
theorem ckD_mix : zCkS YD_mix 2 := ⟨⟨zt 802 (by decide +kernel) rfl, zt 71 (by decide +kernel) rfl, by decide +kernel⟩, zt 801 (by decide +kernel) rfl⟩
def rD_mixRow : List zRow := [(0, .lload_n 0, 1, 0, 0, 0),
  (1, .lstore 4, 3, 0, 0, 0),
  (3, .iconst 0, 4, 0, 0, 0),
  (4, .istore 6, 6, 0, 0, 0),
  (6, .iload 6, 8, 0, 0, 0),
  (8, .iload_n 3, 9, 0, 0, 0),
  (9, .if_icmp .ge 28, 12, 37, 0, 0),
  (12, .iload 6, 14, 0, 0, 0),
  (14, .aload_n 2, 15, 0, 0, 0),
  (15, .arraylength, 16, 0, 0, 0),
  (16, .if_icmp .ge 21, 19, 37, 0, 0),
  (19, .lload 4, 21, 0, 0, 0),
  (21, .aload_n 2, 22, 0, 0, 0),
  (22, .iload 6, 24, 0, 0, 0),
  (24, .iaload, 25, 0, 0, 0),
  (25, .i2l, 26, 0, 0, 0),
  (26, .invokestatic 272, 29, 0, 0, 0),
  (29, .lstore 4, 31, 0, 0, 0),
  (31, .iinc 6 1, 34, 0, 0, 0),
  (34, .goto (-28), 37, 6, 0, 0),
  (37, .lload 4, 39, 0, 0, 0),
  (39, .lreturn, 40, 0, 0, 0)]
def YD_mixRow : zY := (⟨"DiscLines", "mixRow", "(J[II)J"⟩, 7, prog_1_method_40_code, 7, (some .long), rD_mixRow)
theorem oD_mixRow : zok YD_mixRow := (by decide +kernel : YD_mixRow.rows.all (zchk YD_mixRow) = true)
theorem ckD_mixRow : zCkS YD_mixRow 3 := ⟨⟨zt 810 (by decide +kernel) rfl, zt 71 (by decide +kernel) rfl, by decide +kernel⟩, zt 809 (by decide +kernel) rfl⟩
def rD_copyRow : List zRow := [(0, .aload_n 0, 1, 0, 0, 0),
  (1, .iconst 0, 2, 0, 0, 0),
  (2, .aload_n 1, 3, 0, 0, 0),
  (3, .iconst 0, 4, 0, 0, 0),
  (4, .aload_n 0, 5, 0, 0, 0),
  (5, .arraylength, 6, 0, 0, 0),
  (6, .aload_n 1, 7, 0, 0, 0),
  (7, .arraylength, 8, 0, 0, 0),
  (8, .invokestatic 85, 11, 0, 0, 0),
  (11, .invokestatic 278, 14, 0, 0, 0),
  (14, .return_, 15, 0, 0, 0)]
def YD_copyRow : zY := (⟨"DiscLines", "copyRow", "([I[I)V"⟩, 7, prog_1_method_41_code, 2, none, rD_copyRow)
theorem oD_copyRow : zok YD_copyRow := (by decide +kernel : YD_copyRow.rows.all (zchk YD_copyRow) = true)
theorem ckD_copyRow : zCkS YD_copyRow 2 := ⟨⟨zt 763 (by decide +kernel) rfl, zt 71 (by decide +kernel) rfl, by decide +kernel⟩, zt 762 (by decide +kernel) rfl⟩
def rD_isView : List zRow := [(0, .iload_n 0, 1, 0, 0, 0),
  (1, .iconst 4, 2, 0, 0, 0),
  (2, .invokestatic 42, 5, 0, 0, 0),
  (5, .ifCond .eq 32, 8, 37, 0, 0),
  (8, .iload_n 1, 9, 0, 0, 0),
  (9, .bipush 16, 11, 0, 0, 0),
  (11, .invokestatic 42, 14, 0, 0, 0),
  (14, .ifCond .eq 23, 17, 37, 0, 0),
  (17, .iload_n 2, 18, 0, 0, 0),
  (18, .iconst 4, 19, 0, 0, 0),
  (19, .invokestatic 42, 22, 0, 0, 0),
  (22, .ifCond .eq 15, 25, 37, 0, 0),
  (25, .iload_n 3, 26, 0, 0, 0),
  (26, .iconst 5, 27, 0, 0, 0),
  (27, .invokestatic 42, 30, 0, 0, 0),
  (30, .ifCond .eq 7, 33, 37, 0, 0),
  (33, .iconst 1, 34, 0, 0, 0),
  (34, .goto 4, 37, 38, 0, 0),
  (37, .iconst 0, 38, 0, 0, 0),
  (38, .ireturn, 39, 0, 0, 0)]
def YD_isView : zY := (⟨"DiscLines", "isView", "(IIII)Z"⟩, 7, prog_1_method_42_code, 4, (some .boolean), rD_isView)
theorem oD_isView : zok YD_isView := (by decide +kernel : YD_isView.rows.all (zchk YD_isView) = true)
theorem ckD_isView : zCkS YD_isView 4 := ⟨⟨zt 352 (by decide +kernel) rfl, zt 71 (by decide +kernel) rfl, by decide +kernel⟩, zt 351 (by decide +kernel) rfl⟩
def rD_anotherLiesAt : List zRow := [(0, .iconst 0, 1, 0, 0, 0),
  (1, .istore_n 3, 2, 0, 0, 0),
  (2, .iload_n 3, 3, 0, 0, 0),
  (3, .bipush 8, 5, 0, 0, 0),
  (5, .if_icmp .ge 29, 8, 34, 0, 0),
  (8, .iload_n 3, 9, 0, 0, 0),
  (9, .iload_n 1, 10, 0, 0, 0),
  (10, .if_icmp .eq 18, 13, 28, 0, 0),
  (13, .aload_n 0, 14, 0, 0, 0),
  (14, .getfield 12, 17, 7, 0, 0),
  (17, .getfield 65, 20, 5, 1, 0),
  (20, .iload_n 3, 21, 0, 0, 0),
  (21, .iaload, 22, 0, 0, 0),
  (22, .iload_n 2, 23, 0, 0, 0),
  (23, .if_icmp .ne 5, 26, 28, 0, 0),
  (26, .iconst 1, 27, 0, 0, 0),
  (27, .ireturn, 28, 0, 0, 0),
  (28, .iinc 3 1, 31, 0, 0, 0),
  (31, .goto (-29), 34, 2, 0, 0),
  (34, .iconst 0, 35, 0, 0, 0),
  (35, .ireturn, 36, 0, 0, 0)]
def YD_anotherLiesAt : zY := (⟨"DiscLines", "anotherLiesAt", "(II)Z"⟩, 7, prog_1_method_43_code, 4, (some .boolean), rD_anotherLiesAt)
theorem oD_anotherLiesAt : zok YD_anotherLiesAt := (by decide +kernel : YD_anotherLiesAt.rows.all (zchk YD_anotherLiesAt) = true)
theorem ckD_anotherLiesAt : zCkV YD_anotherLiesAt 2 7 := ⟨⟨zt 345 (by decide +kernel) rfl, zt 71 (by decide +kernel) rfl, by decide +kernel⟩, zt 344 (by decide +kernel) rfl, zt 0 (by decide +kernel) rfl, by decide⟩
def rD_areTwoSheets : List zRow := [(0, .iload_n 1, 1, 0, 0, 0),
  (1, .aload_n 0, 2, 0, 0, 0),
  (2, .getfield 12, 5, 7, 0, 0),
  (5, .getfield 132, 8, 5, 3, 0),
  (8, .getfield 153, 11, 0, 6, 0),
  (11, .invokestatic 42, 14, 0, 0, 0),
  (14, .ifCond .eq 29, 17, 43, 0, 0),
  (17, .iload_n 2, 18, 0, 0, 0),
  (18, .aload_n 0, 19, 0, 0, 0),
  (19, .getfield 12, 22, 7, 0, 0),
  (22, .getfield 132, 25, 5, 3, 0),
  (25, .getfield 153, 28, 0, 6, 0),
  (28, .invokestatic 42, 31, 0, 0, 0),
  (31, .ifCond .eq 12, 34, 43, 0, 0),
  (34, .iload_n 1, 35, 0, 0, 0),
  (35, .iload_n 2, 36, 0, 0, 0),
  (36, .if_icmp .eq 7, 39, 43, 0, 0),
  (39, .iconst 1, 40, 0, 0, 0),
  (40, .goto 4, 43, 44, 0, 0),
  (43, .iconst 0, 44, 0, 0, 0),
  (44, .ireturn, 45, 0, 0, 0)]
def YD_areTwoSheets : zY := (⟨"DiscLines", "areTwoSheets", "(II)Z"⟩, 7, prog_1_method_44_code, 3, (some .boolean), rD_areTwoSheets)
theorem oD_areTwoSheets : zok YD_areTwoSheets := (by decide +kernel : YD_areTwoSheets.rows.all (zchk YD_areTwoSheets) = true)
theorem ckD_areTwoSheets : zCkV YD_areTwoSheets 2 7 := ⟨⟨zt 598 (by decide +kernel) rfl, zt 71 (by decide +kernel) rfl, by decide +kernel⟩, zt 597 (by decide +kernel) rfl, zt 19 (by decide +kernel) rfl, by decide⟩
def rD_areSheets : List zRow := [(0, .iload_n 1, 1, 0, 0, 0),
  (1, .iconst 1, 2, 0, 0, 0),
  (2, .aload_n 0, 3, 0, 0, 0),
  (3, .getfield 12, 6, 7, 0, 0),
  (6, .getfield 132, 9, 5, 3, 0),
  (9, .getfield 153, 12, 0, 6, 0),
  (12, .ishl, 13, 0, 0, 0),
  (13, .invokestatic 42, 16, 0, 0, 0),
  (16, .ireturn, 17, 0, 0, 0)]
def YD_areSheets : zY := (⟨"DiscLines", "areSheets", "(I)Z"⟩, 7, prog_1_method_45_code, 2, (some .boolean), rD_areSheets)
theorem oD_areSheets : zok YD_areSheets := (by decide +kernel : YD_areSheets.rows.all (zchk YD_areSheets) = true)
theorem ckD_areSheets : zCkV YD_areSheets 1 7 := ⟨⟨zt 687 (by decide +kernel) rfl, zt 71 (by decide +kernel) rfl, by decide +kernel⟩, zt 686 (by decide +kernel) rfl, zt 24 (by decide +kernel) rfl, by decide⟩
def rD_look : List zRow := [(0, .aload_n 0, 1, 0, 0, 0),
  (1, .getfield 27, 4, 7, 3, 0),
  (4, .getfield 72, 7, 1, 0, 0),
  (7, .aload_n 0, 8, 0, 0, 0),
  (8, .getfield 12, 11, 7, 0, 0),
  (11, .getfield 46, 14, 5, 0, 0),
  (14, .iload_n 2, 15, 0, 0, 0),
  (15, .aaload, 16, 0, 0, 0),
  (16, .iload_n 3, 17, 0, 0, 0),
  (17, .iload 4, 19, 0, 0, 0),
  (19, .iload 5, 21, 0, 0, 0),
  (21, .invokevirtual 76, 24, 0, 0, 0),
  (24, .aload_n 0, 25, 0, 0, 0),
  (25, .getfield 27, 28, 7, 3, 0),
  (28, .aload_n 0, 29, 0, 0, 0),
  (29, .getfield 12, 32, 7, 0, 0),
  (32, .getfield 94, 35, 5, 2, 0),
  (35, .iload_n 1, 36, 0, 0, 0),
  (36, .aaload, 37, 0, 0, 0),
  (37, .aload_n 0, 38, 0, 0, 0),
  (38, .getfield 12, 41, 7, 0, 0),
  (41, .getfield 65, 44, 5, 1, 0),
  (44, .invokevirtual 284, 47, 0, 0, 0),
  (47, .return_, 48, 0, 0, 0)]
def YD_look : zY := (⟨"DiscLines", "look", "(IIIII)V"⟩, 7, prog_1_method_46_code, 6, none, rD_look)
theorem oD_look : zok YD_look := (by decide +kernel : YD_look.rows.all (zchk YD_look) = true)
theorem ckD_look : zCkV YD_look 5 7 := ⟨⟨zt 473 (by decide +kernel) rfl, zt 71 (by decide +kernel) rfl, by decide +kernel⟩, zt 472 (by decide +kernel) rfl, zt 13 (by decide +kernel) rfl, by decide⟩
def rD_linesFromFar : List zRow := [(0, .aload_n 0, 1, 0, 0, 0),
  (1, .getfield 27, 4, 7, 3, 0),
  (4, .getfield 72, 7, 1, 0, 0),
  (7, .aload_n 0, 8, 0, 0, 0),
  (8, .getfield 12, 11, 7, 0, 0),
  (11, .getfield 46, 14, 5, 0, 0),
  (14, .iload_n 2, 15, 0, 0, 0),
  (15, .aaload, 16, 0, 0, 0),
  (16, .aload_n 0, 17, 0, 0, 0),
  (17, .getfield 12, 20, 7, 0, 0),
  (20, .getfield 65, 23, 5, 1, 0),
  (23, .iload_n 3, 24, 0, 0, 0),
  (24, .invokevirtual 287, 27, 0, 0, 0),
  (27, .aload_n 0, 28, 0, 0, 0),
  (28, .getfield 27, 31, 7, 3, 0),
  (31, .aload_n 0, 32, 0, 0, 0),
  (32, .getfield 12, 35, 7, 0, 0),
  (35, .getfield 94, 38, 5, 2, 0),
  (38, .iload_n 1, 39, 0, 0, 0),
  (39, .aaload, 40, 0, 0, 0),
  (40, .aload_n 0, 41, 0, 0, 0),
  (41, .getfield 12, 44, 7, 0, 0),
  (44, .getfield 65, 47, 5, 1, 0),
  (47, .iconst 0, 48, 0, 0, 0),
  (48, .invokevirtual 235, 51, 0, 0, 0),
  (51, .ireturn, 52, 0, 0, 0)]
def YD_linesFromFar : zY := (⟨"DiscLines", "linesFromFar", "(III)I"⟩, 7, prog_1_method_47_code, 4, (some .int), rD_linesFromFar)
theorem oD_linesFromFar : zok YD_linesFromFar := (by decide +kernel : YD_linesFromFar.rows.all (zchk YD_linesFromFar) = true)
theorem ckD_linesFromFar : zCkV YD_linesFromFar 3 7 := ⟨⟨zt 516 (by decide +kernel) rfl, zt 71 (by decide +kernel) rfl, by decide +kernel⟩, zt 515 (by decide +kernel) rfl, zt 17 (by decide +kernel) rfl, by decide⟩
def rD_guessesAllowing : List zRow := [(0, .iconst 0, 1, 0, 0, 0),
  (1, .istore_n 2, 2, 0, 0, 0),
  (2, .iconst 0, 3, 0, 0, 0),
  (3, .istore_n 3, 4, 0, 0, 0),
  (4, .iload_n 3, 5, 0, 0, 0),
  (5, .aload_n 0, 6, 0, 0, 0),
  (6, .getfield 12, 9, 7, 0, 0),
  (9, .getfield 203, 12, 5, 4, 0),
  (12, .getfield 215, 15, 2, 3, 0),
  (15, .if_icmp .ge 24, 18, 39, 0, 0),
  (18, .aload_n 0, 19, 0, 0, 0),
  (19, .iload_n 3, 20, 0, 0, 0),
  (20, .iload_n 1, 21, 0, 0, 0),
  (21, .invokevirtual 218, 24, 0, 0, 0),
  (24, .ifCond .eq 9, 27, 33, 0, 0),
  (27, .iload_n 2, 28, 0, 0, 0),
  (28, .iconst 1, 29, 0, 0, 0),
  (29, .iload_n 3, 30, 0, 0, 0),
  (30, .ishl, 31, 0, 0, 0),
  (31, .ior, 32, 0, 0, 0),
  (32, .istore_n 2, 33, 0, 0, 0),
  (33, .iinc 3 1, 36, 0, 0, 0),
  (36, .goto (-32), 39, 4, 0, 0),
  (39, .iload_n 2, 40, 0, 0, 0),
  (40, .ireturn, 41, 0, 0, 0)]
def YD_guessesAllowing : zY := (⟨"DiscLines", "guessesAllowing", "(I)I"⟩, 7, prog_1_method_48_code, 4, (some .int), rD_guessesAllowing)
theorem oD_guessesAllowing : zok YD_guessesAllowing := (by decide +kernel : YD_guessesAllowing.rows.all (zchk YD_guessesAllowing) = true)
theorem ckD_guessesAllowing : zCkV YD_guessesAllowing 1 7 := ⟨⟨zt 691 (by decide +kernel) rfl, zt 71 (by decide +kernel) rfl, by decide +kernel⟩, zt 690 (by decide +kernel) rfl, zt 25 (by decide +kernel) rfl, by decide⟩
def rD_allowsAll : List zRow := [(0, .aload_n 0, 1, 0, 0, 0),
  (1, .getfield 12, 4, 7, 0, 0),
  (4, .getfield 203, 7, 5, 4, 0),
  (7, .astore_n 3, 8, 0, 0, 0),
  (8, .aload_n 0, 9, 0, 0, 0),
  (9, .getfield 12, 12, 7, 0, 0),
  (12, .getfield 132, 15, 5, 3, 0),
  (15, .astore 4, 17, 0, 0, 0),
  (17, .aload_n 0, 18, 0, 0, 0),
  (18, .aload_n 3, 19, 0, 0, 0),
  (19, .getfield 291, 22, 2, 1, 0),
  (22, .iload_n 1, 23, 0, 0, 0),
  (23, .iaload, 24, 0, 0, 0),
  (24, .aload_n 3, 25, 0, 0, 0),
  (25, .getfield 293, 28, 2, 0, 0),
  (28, .iload_n 1, 29, 0, 0, 0),
  (29, .iaload, 30, 0, 0, 0),
  (30, .iconst 0, 31, 0, 0, 0),
  (31, .aload_n 3, 32, 0, 0, 0),
  (32, .getfield 295, 35, 2, 2, 0),
  (35, .iload_n 1, 36, 0, 0, 0),
  (36, .iaload, 37, 0, 0, 0),
  (37, .iconst 0, 38, 0, 0, 0),
  (38, .invokevirtual 113, 41, 0, 0, 0),
  (41, .iconst 0, 42, 0, 0, 0),
  (42, .istore 5, 44, 0, 0, 0),
  (44, .iload 5, 46, 0, 0, 0),
  (46, .aload 4, 48, 0, 0, 0),
  (48, .getfield 153, 51, 0, 6, 0),
  (51, .if_icmp .ge 60, 54, 111, 0, 0),
  (54, .iload_n 2, 55, 0, 0, 0),
  (55, .iload 5, 57, 0, 0, 0),
  (57, .invokestatic 232, 60, 0, 0, 0),
  (60, .ifCond .eq 45, 63, 105, 0, 0),
  (63, .aload_n 0, 64, 0, 0, 0),
  (64, .getfield 27, 67, 7, 3, 0),
  (67, .aload 4, 69, 0, 0, 0),
  (69, .iload 5, 71, 0, 0, 0),
  (71, .invokevirtual 171, 74, 0, 0, 0),
  (74, .invokevirtual 117, 77, 0, 0, 0),
  (77, .aload 4, 79, 0, 0, 0),
  (79, .getfield 165, 82, 0, 5, 0),
  (82, .iload 5, 84, 0, 0, 0),
  (84, .iaload, 85, 0, 0, 0),
  (85, .ixor, 86, 0, 0, 0),
  (86, .istore 6, 88, 0, 0, 0),
  (88, .iload 6, 90, 0, 0, 0),
  (90, .invokestatic 124, 93, 0, 0, 0),
  (93, .aload_n 0, 94, 0, 0, 0),
  (94, .getfield 12, 97, 7, 0, 0),
  (97, .getfield 212, 100, 5, 6, 0),
  (100, .if_icmp .le 5, 103, 105, 0, 0),
  (103, .iconst 0, 104, 0, 0, 0),
  (104, .ireturn, 105, 0, 0, 0),
  (105, .iinc 5 1, 108, 0, 0, 0),
  (108, .goto (-64), 111, 44, 0, 0),
  (111, .iconst 1, 112, 0, 0, 0),
  (112, .ireturn, 113, 0, 0, 0)]
def YD_allowsAll : zY := (⟨"DiscLines", "allowsAll", "(II)Z"⟩, 7, prog_1_method_49_code, 7, (some .boolean), rD_allowsAll)
theorem oD_allowsAll : zok YD_allowsAll := (by decide +kernel : YD_allowsAll.rows.all (zchk YD_allowsAll) = true)
theorem ckD_allowsAll : zCkV YD_allowsAll 2 7 := ⟨⟨zt 678 (by decide +kernel) rfl, zt 71 (by decide +kernel) rfl, by decide +kernel⟩, zt 677 (by decide +kernel) rfl, zt 23 (by decide +kernel) rfl, by decide⟩
def rD_drawByAllLaws : List zRow := [(0, .iconst 0, 1, 0, 0, 0),
  (1, .istore_n 3, 2, 0, 0, 0),
  (2, .iload_n 3, 3, 0, 0, 0),
  (3, .iconst 4, 4, 0, 0, 0),
  (4, .if_icmp .ge 90, 7, 94, 0, 0),
  (7, .iload_n 1, 8, 0, 0, 0),
  (8, .iload_n 3, 9, 0, 0, 0),
  (9, .invokestatic 232, 12, 0, 0, 0),
  (12, .ifCond .eq 76, 15, 88, 0, 0),
  (15, .aload_n 0, 16, 0, 0, 0),
  (16, .getfield 27, 19, 7, 3, 0),
  (19, .getfield 72, 22, 1, 0, 0),
  (22, .aload_n 0, 23, 0, 0, 0),
  (23, .getfield 12, 26, 7, 0, 0),
  (26, .getfield 46, 29, 5, 0, 0),
  (29, .iload_n 3, 30, 0, 0, 0),
  (30, .aaload, 31, 0, 0, 0),
  (31, .iconst 0, 32, 0, 0, 0),
  (32, .iload_n 2, 33, 0, 0, 0),
  (33, .iconst 0, 34, 0, 0, 0),
  (34, .invokevirtual 76, 37, 0, 0, 0),
  (37, .iconst 0, 38, 0, 0, 0),
  (38, .istore 4, 40, 0, 0, 0),
  (40, .iload 4, 42, 0, 0, 0),
  (42, .iconst 4, 43, 0, 0, 0),
  (43, .if_icmp .ge 45, 46, 88, 0, 0),
  (46, .aload_n 0, 47, 0, 0, 0),
  (47, .getfield 31, 50, 7, 4, 0),
  (50, .iconst 4, 51, 0, 0, 0),
  (51, .iload 4, 53, 0, 0, 0),
  (53, .imul, 54, 0, 0, 0),
  (54, .iload_n 3, 55, 0, 0, 0),
  (55, .iadd, 56, 0, 0, 0),
  (56, .aload_n 0, 57, 0, 0, 0),
  (57, .getfield 27, 60, 7, 3, 0),
  (60, .aload_n 0, 61, 0, 0, 0),
  (61, .getfield 12, 64, 7, 0, 0),
  (64, .getfield 94, 67, 5, 2, 0),
  (67, .iload 4, 69, 0, 0, 0),
  (69, .aaload, 70, 0, 0, 0),
  (70, .aload_n 0, 71, 0, 0, 0),
  (71, .getfield 12, 74, 7, 0, 0),
  (74, .getfield 65, 77, 5, 1, 0),
  (77, .iconst 0, 78, 0, 0, 0),
  (78, .invokevirtual 235, 81, 0, 0, 0),
  (81, .iastore, 82, 0, 0, 0),
  (82, .iinc 4 1, 85, 0, 0, 0),
  (85, .goto (-45), 88, 40, 0, 0),
  (88, .iinc 3 1, 91, 0, 0, 0),
  (91, .goto (-89), 94, 2, 0, 0),
  (94, .return_, 95, 0, 0, 0)]
def YD_drawByAllLaws : zY := (⟨"DiscLines", "drawByAllLaws", "(II)V"⟩, 7, prog_1_method_50_code, 5, none, rD_drawByAllLaws)
theorem oD_drawByAllLaws : zok YD_drawByAllLaws := (by decide +kernel : YD_drawByAllLaws.rows.all (zchk YD_drawByAllLaws) = true)
theorem ckD_drawByAllLaws : zCkV YD_drawByAllLaws 2 7 := ⟨⟨zt 709 (by decide +kernel) rfl, zt 71 (by decide +kernel) rfl, by decide +kernel⟩, zt 708 (by decide +kernel) rfl, zt 26 (by decide +kernel) rfl, by decide⟩
def rD_countUnlike : List zRow := [(0, .iconst 0, 1, 0, 0, 0),
  (1, .istore_n 3, 2, 0, 0, 0),
  (2, .iconst 0, 3, 0, 0, 0),
  (3, .istore 4, 5, 0, 0, 0),
  (5, .iload 4, 7, 0, 0, 0),
  (7, .iconst 4, 8, 0, 0, 0),
  (8, .if_icmp .ge 32, 11, 40, 0, 0),
  (11, .iload_n 1, 12, 0, 0, 0),
  (12, .iload 4, 14, 0, 0, 0),
  (14, .invokestatic 232, 17, 0, 0, 0),
  (17, .ifCond .eq 17, 20, 34, 0, 0),
  (20, .aload_n 0, 21, 0, 0, 0),
  (21, .iload_n 1, 22, 0, 0, 0),
  (22, .iload_n 2, 23, 0, 0, 0),
  (23, .iload 4, 25, 0, 0, 0),
  (25, .invokevirtual 298, 28, 0, 0, 0),
  (28, .ifCond .ne 6, 31, 34, 0, 0),
  (31, .iinc 3 1, 34, 0, 0, 0),
  (34, .iinc 4 1, 37, 0, 0, 0),
  (37, .goto (-32), 40, 5, 0, 0),
  (40, .iload_n 3, 41, 0, 0, 0),
  (41, .ireturn, 42, 0, 0, 0)]
def YD_countUnlike : zY := (⟨"DiscLines", "countUnlike", "(II)I"⟩, 7, prog_1_method_51_code, 5, (some .int), rD_countUnlike)
theorem oD_countUnlike : zok YD_countUnlike := (by decide +kernel : YD_countUnlike.rows.all (zchk YD_countUnlike) = true)
theorem ckD_countUnlike : zCkV YD_countUnlike 2 7 := ⟨⟨zt 713 (by decide +kernel) rfl, zt 71 (by decide +kernel) rfl, by decide +kernel⟩, zt 712 (by decide +kernel) rfl, zt 27 (by decide +kernel) rfl, by decide⟩
def rD_isDrawnAhead : List zRow := [(0, .iconst 0, 1, 0, 0, 0),
  (1, .istore 4, 3, 0, 0, 0),
  (3, .iload 4, 5, 0, 0, 0),
  (5, .iload_n 3, 6, 0, 0, 0),
  (6, .if_icmp .ge 44, 9, 50, 0, 0),
  (9, .iload_n 1, 10, 0, 0, 0),
  (10, .iload 4, 12, 0, 0, 0),
  (12, .invokestatic 232, 15, 0, 0, 0),
  (15, .ifCond .eq 29, 18, 44, 0, 0),
  (18, .aload_n 0, 19, 0, 0, 0),
  (19, .getfield 31, 22, 7, 4, 0),
  (22, .iconst 4, 23, 0, 0, 0),
  (23, .iload_n 2, 24, 0, 0, 0),
  (24, .imul, 25, 0, 0, 0),
  (25, .iload 4, 27, 0, 0, 0),
  (27, .iadd, 28, 0, 0, 0),
  (28, .iaload, 29, 0, 0, 0),
  (29, .aload_n 0, 30, 0, 0, 0),
  (30, .getfield 31, 33, 7, 4, 0),
  (33, .iconst 4, 34, 0, 0, 0),
  (34, .iload_n 2, 35, 0, 0, 0),
  (35, .imul, 36, 0, 0, 0),
  (36, .iload_n 3, 37, 0, 0, 0),
  (37, .iadd, 38, 0, 0, 0),
  (38, .iaload, 39, 0, 0, 0),
  (39, .if_icmp .ne 5, 42, 44, 0, 0),
  (42, .iconst 1, 43, 0, 0, 0),
  (43, .ireturn, 44, 0, 0, 0),
  (44, .iinc 4 1, 47, 0, 0, 0),
  (47, .goto (-44), 50, 3, 0, 0),
  (50, .iconst 0, 51, 0, 0, 0),
  (51, .ireturn, 52, 0, 0, 0)]
def YD_isDrawnAhead : zY := (⟨"DiscLines", "isDrawnAhead", "(III)Z"⟩, 7, prog_1_method_52_code, 5, (some .boolean), rD_isDrawnAhead)
theorem oD_isDrawnAhead : zok YD_isDrawnAhead := (by decide +kernel : YD_isDrawnAhead.rows.all (zchk YD_isDrawnAhead) = true)
theorem ckD_isDrawnAhead : zCkV YD_isDrawnAhead 3 7 := ⟨⟨zt 717 (by decide +kernel) rfl, zt 71 (by decide +kernel) rfl, by decide +kernel⟩, zt 716 (by decide +kernel) rfl, zt 28 (by decide +kernel) rfl, by decide⟩
def rD_waysToShare : List zRow := [(0, .lconst 0, 1, 0, 0, 0),
  (1, .lstore_n 3, 2, 0, 0, 0),
  (2, .iload_n 2, 3, 0, 0, 0),
  (3, .istore 5, 5, 0, 0, 0),
  (5, .iload 5, 7, 0, 0, 0),
  (7, .iload_n 0, 8, 0, 0, 0),
  (8, .if_icmp .gt 36, 11, 44, 0, 0),
  (11, .iload 5, 13, 0, 0, 0),
  (13, .iload_n 1, 14, 0, 0, 0),
  (14, .if_icmp .gt 30, 17, 44, 0, 0),
  (17, .lload_n 3, 18, 0, 0, 0),
  (18, .iload_n 1, 19, 0, 0, 0),
  (19, .iload 5, 21, 0, 0, 0),
  (21, .invokestatic 181, 24, 0, 0, 0),
  (24, .bipush 28, 26, 0, 0, 0),
  (26, .iload_n 1, 27, 0, 0, 0),
  (27, .isub, 28, 0, 0, 0),
  (28, .iload_n 0, 29, 0, 0, 0),
  (29, .iload 5, 31, 0, 0, 0),
  (31, .isub, 32, 0, 0, 0),
  (32, .invokestatic 181, 35, 0, 0, 0),
  (35, .lmul, 36, 0, 0, 0),
  (36, .ladd, 37, 0, 0, 0),
  (37, .lstore_n 3, 38, 0, 0, 0),
  (38, .iinc 5 1, 41, 0, 0, 0),
  (41, .goto (-36), 44, 5, 0, 0),
  (44, .lload_n 3, 45, 0, 0, 0),
  (45, .lreturn, 46, 0, 0, 0)]
def YD_waysToShare : zY := (⟨"DiscLines", "waysToShare", "(III)J"⟩, 7, prog_1_method_53_code, 6, (some .long), rD_waysToShare)
theorem oD_waysToShare : zok YD_waysToShare := (by decide +kernel : YD_waysToShare.rows.all (zchk YD_waysToShare) = true)
theorem ckD_waysToShare : zCkS YD_waysToShare 3 := ⟨⟨zt 605 (by decide +kernel) rfl, zt 71 (by decide +kernel) rfl, by decide +kernel⟩, zt 604 (by decide +kernel) rfl⟩
def rD_choices : List zRow := [(0, .iload_n 1, 1, 0, 0, 0),
  (1, .ifCond .lt 8, 4, 9, 0, 0),
  (4, .iload_n 1, 5, 0, 0, 0),
  (5, .iload_n 0, 6, 0, 0, 0),
  (6, .if_icmp .le 5, 9, 11, 0, 0),
  (9, .lconst 0, 10, 0, 0, 0),
  (10, .lreturn, 11, 0, 0, 0),
  (11, .lconst 1, 12, 0, 0, 0),
  (12, .lstore_n 2, 13, 0, 0, 0),
  (13, .iconst 1, 14, 0, 0, 0),
  (14, .istore 4, 16, 0, 0, 0),
  (16, .iload 4, 18, 0, 0, 0),
  (18, .iload_n 1, 19, 0, 0, 0),
  (19, .if_icmp .gt 23, 22, 42, 0, 0),
  (22, .lload_n 2, 23, 0, 0, 0),
  (23, .iload_n 0, 24, 0, 0, 0),
  (24, .iload_n 1, 25, 0, 0, 0),
  (25, .isub, 26, 0, 0, 0),
  (26, .iload 4, 28, 0, 0, 0),
  (28, .iadd, 29, 0, 0, 0),
  (29, .i2l, 30, 0, 0, 0),
  (30, .lmul, 31, 0, 0, 0),
  (31, .iload 4, 33, 0, 0, 0),
  (33, .i2l, 34, 0, 0, 0),
  (34, .ldiv, 35, 0, 0, 0),
  (35, .lstore_n 2, 36, 0, 0, 0),
  (36, .iinc 4 1, 39, 0, 0, 0),
  (39, .goto (-23), 42, 16, 0, 0),
  (42, .lload_n 2, 43, 0, 0, 0),
  (43, .lreturn, 44, 0, 0, 0)]
def YD_choices : zY := (⟨"DiscLines", "choices", "(II)J"⟩, 7, prog_1_method_54_code, 5, (some .long), rD_choices)
theorem oD_choices : zok YD_choices := (by decide +kernel : YD_choices.rows.all (zchk YD_choices) = true)
theorem ckD_choices : zCkS YD_choices 2 := ⟨⟨zt 608 (by decide +kernel) rfl, zt 71 (by decide +kernel) rfl, by decide +kernel⟩, zt 607 (by decide +kernel) rfl⟩
def rD_setFraction : List zRow := [(0, .lload_n 1, 1, 0, 0, 0),
  (1, .lstore 5, 3, 0, 0, 0),
  (3, .lload_n 3, 4, 0, 0, 0),
  (4, .lstore 7, 6, 0, 0, 0),
  (6, .iconst 0, 7, 0, 0, 0),
  (7, .istore 9, 9, 0, 0, 0),
  (9, .iload 9, 11, 0, 0, 0),
  (11, .bipush 100, 13, 0, 0, 0),
  (13, .if_icmp .ge 31, 16, 44, 0, 0),
  (16, .lload 7, 18, 0, 0, 0),
  (18, .lconst 0, 19, 0, 0, 0),
  (19, .lcmp, 20, 0, 0, 0),
  (20, .ifCond .eq 24, 23, 44, 0, 0),
  (23, .lload 5, 25, 0, 0, 0),
  (25, .lload 7, 27, 0, 0, 0),
  (27, .lrem, 28, 0, 0, 0),
  (28, .lstore 10, 30, 0, 0, 0),
  (30, .lload 7, 32, 0, 0, 0),
  (32, .lstore 5, 34, 0, 0, 0),
  (34, .lload 10, 36, 0, 0, 0),
  (36, .lstore 7, 38, 0, 0, 0),
  (38, .iinc 9 1, 41, 0, 0, 0),
  (41, .goto (-32), 44, 9, 0, 0),
  (44, .lload 5, 46, 0, 0, 0),
  (46, .lconst 0, 47, 0, 0, 0),
  (47, .lcmp, 48, 0, 0, 0),
  (48, .ifCond .eq 19, 51, 67, 0, 0),
  (51, .aload_n 0, 52, 0, 0, 0),
  (52, .lload_n 1, 53, 0, 0, 0),
  (53, .lload 5, 55, 0, 0, 0),
  (55, .ldiv, 56, 0, 0, 0),
  (56, .putfield 35, 59, 7, 5, 0),
  (59, .aload_n 0, 60, 0, 0, 0),
  (60, .lload_n 3, 61, 0, 0, 0),
  (61, .lload 5, 63, 0, 0, 0),
  (63, .ldiv, 64, 0, 0, 0),
  (64, .putfield 39, 67, 7, 6, 0),
  (67, .return_, 68, 0, 0, 0)]
def YD_setFraction : zY := (⟨"DiscLines", "setFraction", "(JJ)V"⟩, 7, prog_1_method_55_code, 12, none, rD_setFraction)
theorem oD_setFraction : zok YD_setFraction := (by decide +kernel : YD_setFraction.rows.all (zchk YD_setFraction) = true)
theorem ckD_setFraction : zCkV YD_setFraction 2 7 := ⟨⟨zt 612 (by decide +kernel) rfl, zt 71 (by decide +kernel) rfl, by decide +kernel⟩, zt 611 (by decide +kernel) rfl, zt 20 (by decide +kernel) rfl, by decide⟩
def rM_init : List zRow := [(0, .aload_n 0, 1, 0, 0, 0),
  (1, .invokespecial 1, 4, 0, 0, 0),
  (4, .aload_n 0, 5, 0, 0, 0),
  (5, .sipush 818, 8, 0, 0, 0),
  (8, .newarray .int, 10, 0, 0, 0),
  (10, .putfield 7, 13, 8, 0, 0),
  (13, .aload_n 0, 14, 0, 0, 0),
  (14, .sipush 1636, 17, 0, 0, 0),
  (17, .newarray .int, 19, 0, 0, 0),
  (19, .putfield 13, 22, 8, 1, 0),
  (22, .aload_n 0, 23, 0, 0, 0),
  (23, .iconst 2, 24, 0, 0, 0),
  (24, .newarray .boolean, 26, 0, 0, 0),
  (26, .putfield 16, 29, 8, 2, 0),
  (29, .aload_n 0, 30, 0, 0, 0),
  (30, .bipush 81, 32, 0, 0, 0),
  (32, .newarray .int, 34, 0, 0, 0),
  (34, .putfield 20, 37, 8, 5, 0),
  (37, .aload_n 0, 38, 0, 0, 0),
  (38, .bipush 40, 40, 0, 0, 0),
  (40, .newarray .int, 42, 0, 0, 0),
  (42, .putfield 23, 45, 8, 6, 0),
  (45, .aload_n 0, 46, 0, 0, 0),
  (46, .bipush 40, 48, 0, 0, 0),
  (48, .newarray .long, 50, 0, 0, 0),
  (50, .putfield 26, 53, 8, 7, 0),
  (53, .aload_n 0, 54, 0, 0, 0),
  (54, .bipush 41, 56, 0, 0, 0),
  (56, .newarray .int, 58, 0, 0, 0),
  (58, .putfield 30, 61, 8, 9, 0),
  (61, .aload_n 0, 62, 0, 0, 0),
  (62, .bipush 10, 64, 0, 0, 0),
  (64, .newarray .boolean, 66, 0, 0, 0),
  (66, .putfield 33, 69, 8, 12, 0),
  (69, .aload_n 0, 70, 0, 0, 0),
  (70, .bipush 6, 72, 0, 0, 0),
  (72, .newarray .long, 74, 0, 0, 0),
  (74, .putfield 36, 77, 8, 16, 0),
  (77, .aload_n 0, 78, 0, 0, 0),
  (78, .bipush 41, 80, 0, 0, 0),
  (80, .newarray .long, 82, 0, 0, 0),
  (82, .putfield 39, 85, 8, 17, 0),
  (85, .aload_n 0, 86, 0, 0, 0),
  (86, .iconst 4, 87, 0, 0, 0),
  (87, .newarray .int, 89, 0, 0, 0),
  (89, .putfield 42, 92, 8, 19, 0),
  (92, .iconst 0, 93, 0, 0, 0),
  (93, .istore_n 1, 94, 0, 0, 0),
  (94, .iload_n 1, 95, 0, 0, 0),
  (95, .bipush 8, 97, 0, 0, 0),
  (97, .if_icmp .ge 23, 100, 120, 0, 0),
  (100, .aload_n 0, 101, 0, 0, 0),
  (101, .getfield 7, 104, 8, 0, 0),
  (104, .sipush 360, 107, 0, 0, 0),
  (107, .iload_n 1, 108, 0, 0, 0),
  (108, .iadd, 109, 0, 0, 0),
  (109, .bipush 10, 111, 0, 0, 0),
  (111, .iload_n 1, 112, 0, 0, 0),
  (112, .imul, 113, 0, 0, 0),
  (113, .iastore, 114, 0, 0, 0),
  (114, .iinc 1 1, 117, 0, 0, 0),
  (117, .goto (-23), 120, 94, 0, 0),
  (120, .aload_n 0, 121, 0, 0, 0),
  (121, .getfield 7, 124, 8, 0, 0),
  (124, .sipush 779, 127, 0, 0, 0),
  (127, .iconst 3, 128, 0, 0, 0),
  (128, .iastore, 129, 0, 0, 0),
  (129, .aload_n 0, 130, 0, 0, 0),
  (130, .getfield 7, 133, 8, 0, 0),
  (133, .sipush 817, 136, 0, 0, 0),
  (136, .iconst 2, 137, 0, 0, 0),
  (137, .iastore, 138, 0, 0, 0),
  (138, .aload_n 0, 139, 0, 0, 0),
  (139, .lconst 1, 140, 0, 0, 0),
  (140, .putfield 45, 143, 8, 4, 0),
  (143, .return_, 144, 0, 0, 0)]
def YM_init : zY := (⟨"DiscLinesModel", "<init>", "()V"⟩, 8, prog_11_method_1_code, 2, none, rM_init)
theorem oM_init : zok YM_init := (by decide +kernel : YM_init.rows.all (zchk YM_init) = true)
theorem ckM_init : zCkI YM_init 0 := ⟨⟨zt 833 (by decide +kernel) rfl, zt 79 (by decide +kernel) rfl, by decide +kernel⟩, zt 832 (by decide +kernel) rfl, rfl, rfl⟩
def rM_in : List zRow := [(0, .lload_n 0, 1, 0, 0, 0),
  (1, .lload_n 2, 2, 0, 0, 0),
  (2, .lcmp, 3, 0, 0, 0),
  (3, .ifCond .lt 14, 6, 17, 0, 0),
  (6, .lload_n 0, 7, 0, 0, 0),
  (7, .lload 4, 9, 0, 0, 0),
  (9, .lcmp, 10, 0, 0, 0),
  (10, .ifCond .gt 7, 13, 17, 0, 0),
  (13, .iconst 1, 14, 0, 0, 0),
  (14, .goto 4, 17, 18, 0, 0),
  (17, .iconst 0, 18, 0, 0, 0),
  (18, .ireturn, 19, 0, 0, 0)]
def YM_in : zY := (⟨"DiscLinesModel", "in", "(JJJ)Z"⟩, 8, prog_11_method_2_code, 6, (some .boolean), rM_in)
theorem oM_in : zok YM_in := (by decide +kernel : YM_in.rows.all (zchk YM_in) = true)
theorem ckM_in : zCkS YM_in 3 := ⟨⟨zt 909 (by decide +kernel) rfl, zt 79 (by decide +kernel) rfl, by decide +kernel⟩, zt 908 (by decide +kernel) rfl⟩
def rM_bitsOf : List zRow := [(0, .iconst 0, 1, 0, 0, 0),
  (1, .istore_n 1, 2, 0, 0, 0),
  (2, .iconst 0, 3, 0, 0, 0),
  (3, .istore_n 2, 4, 0, 0, 0),
  (4, .iload_n 2, 5, 0, 0, 0),
  (5, .bipush 28, 7, 0, 0, 0),
  (7, .if_icmp .ge 17, 10, 24, 0, 0),
  (10, .iload_n 1, 11, 0, 0, 0),
  (11, .iload_n 0, 12, 0, 0, 0),
  (12, .iload_n 2, 13, 0, 0, 0),
  (13, .ishr, 14, 0, 0, 0),
  (14, .iconst 1, 15, 0, 0, 0),
  (15, .iand, 16, 0, 0, 0),
  (16, .iadd, 17, 0, 0, 0),
  (17, .istore_n 1, 18, 0, 0, 0),
  (18, .iinc 2 1, 21, 0, 0, 0),
  (21, .goto (-17), 24, 4, 0, 0),
  (24, .iload_n 1, 25, 0, 0, 0),
  (25, .ireturn, 26, 0, 0, 0)]
def YM_bitsOf : zY := (⟨"DiscLinesModel", "bitsOf", "(I)I"⟩, 8, prog_11_method_3_code, 3, (some .int), rM_bitsOf)
theorem oM_bitsOf : zok YM_bitsOf := (by decide +kernel : YM_bitsOf.rows.all (zchk YM_bitsOf) = true)
theorem ckM_bitsOf : zCkS YM_bitsOf 1 := ⟨⟨zt 1050 (by decide +kernel) rfl, zt 79 (by decide +kernel) rfl, by decide +kernel⟩, zt 1049 (by decide +kernel) rfl⟩
def rM_isFour : List zRow := [(0, .iload_n 0, 1, 0, 0, 0),
  (1, .i2l, 2, 0, 0, 0),
  (2, .lconst 0, 3, 0, 0, 0),
  (3, .ldc2_w 49, 6, 0, 0, 3),
  (6, .invokestatic 51, 9, 0, 0, 0),
  (9, .ireturn, 10, 0, 0, 0)]
def YM_isFour : zY := (⟨"DiscLinesModel", "isFour", "(I)Z"⟩, 8, prog_11_method_4_code, 1, (some .boolean), rM_isFour)
theorem oM_isFour : zok YM_isFour := (by decide +kernel : YM_isFour.rows.all (zchk YM_isFour) = true)
theorem ckM_isFour : zCkS YM_isFour 1 := ⟨⟨zt 905 (by decide +kernel) rfl, zt 79 (by decide +kernel) rfl, by decide +kernel⟩, zt 904 (by decide +kernel) rfl⟩
def rM_isCell : List zRow := [(0, .iload_n 0, 1, 0, 0, 0),
  (1, .i2l, 2, 0, 0, 0),
  (2, .lconst 0, 3, 0, 0, 0),
  (3, .ldc2_w 55, 6, 0, 0, 80),
  (6, .invokestatic 51, 9, 0, 0, 0),
  (9, .ireturn, 10, 0, 0, 0)]
def YM_isCell : zY := (⟨"DiscLinesModel", "isCell", "(I)Z"⟩, 8, prog_11_method_5_code, 1, (some .boolean), rM_isCell)
theorem oM_isCell : zok YM_isCell := (by decide +kernel : YM_isCell.rows.all (zchk YM_isCell) = true)
theorem ckM_isCell : zCkS YM_isCell 1 := ⟨⟨zt 912 (by decide +kernel) rfl, zt 79 (by decide +kernel) rfl, by decide +kernel⟩, zt 911 (by decide +kernel) rfl⟩
def rM_change : List zRow := [(0, .aload_n 0, 1, 0, 0, 0),
  (1, .getfield 7, 4, 8, 0, 0),
  (4, .iload_n 1, 5, 0, 0, 0),
  (5, .iaload, 6, 0, 0, 0),
  (6, .istore_n 3, 7, 0, 0, 0),
  (7, .aload_n 0, 8, 0, 0, 0),
  (8, .getfield 7, 11, 8, 0, 0),
  (11, .iload_n 1, 12, 0, 0, 0),
  (12, .iload_n 2, 13, 0, 0, 0),
  (13, .iastore, 14, 0, 0, 0),
  (14, .iload_n 3, 15, 0, 0, 0),
  (15, .ireturn, 16, 0, 0, 0)]
def YM_change : zY := (⟨"DiscLinesModel", "change", "(II)I"⟩, 8, prog_11_method_6_code, 4, (some .int), rM_change)
theorem oM_change : zok YM_change := (by decide +kernel : YM_change.rows.all (zchk YM_change) = true)
theorem ckM_change : zCkV YM_change 2 8 := ⟨⟨zt 918 (by decide +kernel) rfl, zt 79 (by decide +kernel) rfl, by decide +kernel⟩, zt 917 (by decide +kernel) rfl, zt 31 (by decide +kernel) rfl, by decide⟩
def rM_shade : List zRow := [(0, .iload_n 1, 1, 0, 0, 0),
  (1, .invokestatic 57, 4, 0, 0, 0),
  (4, .ifCond .eq 36, 7, 40, 0, 0),
  (7, .iload_n 2, 8, 0, 0, 0),
  (8, .invokestatic 61, 11, 0, 0, 0),
  (11, .ifCond .eq 29, 14, 40, 0, 0),
  (14, .iload_n 3, 15, 0, 0, 0),
  (15, .i2l, 16, 0, 0, 0),
  (16, .lconst 0, 17, 0, 0, 0),
  (17, .ldc2_w 64, 20, 0, 0, 15),
  (20, .invokestatic 51, 23, 0, 0, 0),
  (23, .ifCond .eq 17, 26, 40, 0, 0),
  (26, .aload_n 0, 27, 0, 0, 0),
  (27, .bipush 81, 29, 0, 0, 0),
  (29, .iload_n 1, 30, 0, 0, 0),
  (30, .imul, 31, 0, 0, 0),
  (31, .iload_n 2, 32, 0, 0, 0),
  (32, .iadd, 33, 0, 0, 0),
  (33, .iload_n 3, 34, 0, 0, 0),
  (34, .invokevirtual 66, 37, 0, 0, 0),
  (37, .goto 5, 40, 42, 0, 0),
  (40, .bipush (-2), 42, 0, 0, 0),
  (42, .ireturn, 43, 0, 0, 0)]
def YM_shade : zY := (⟨"DiscLinesModel", "shade", "(III)I"⟩, 8, prog_11_method_7_code, 4, (some .int), rM_shade)
theorem oM_shade : zok YM_shade := (by decide +kernel : YM_shade.rows.all (zchk YM_shade) = true)
theorem ckM_shade : zCkV YM_shade 3 8 := ⟨⟨zt 902 (by decide +kernel) rfl, zt 79 (by decide +kernel) rfl, by decide +kernel⟩, zt 900 (by decide +kernel) rfl, zt 901 (by decide +kernel) rfl, by decide⟩
def rM_green : List zRow := [(0, .iload_n 1, 1, 0, 0, 0),
  (1, .invokestatic 57, 4, 0, 0, 0),
  (4, .ifCond .eq 45, 7, 49, 0, 0),
  (7, .iload_n 2, 8, 0, 0, 0),
  (8, .i2l, 9, 0, 0, 0),
  (9, .lconst 0, 10, 0, 0, 0),
  (10, .ldc2_w 70, 13, 0, 0, 8),
  (13, .invokestatic 51, 16, 0, 0, 0),
  (16, .ifCond .eq 33, 19, 49, 0, 0),
  (19, .iload_n 3, 20, 0, 0, 0),
  (20, .i2l, 21, 0, 0, 0),
  (21, .lconst 0, 22, 0, 0, 0),
  (22, .ldc2_w 72, 25, 0, 0, 511),
  (25, .invokestatic 51, 28, 0, 0, 0),
  (28, .ifCond .eq 21, 31, 49, 0, 0),
  (31, .aload_n 0, 32, 0, 0, 0),
  (32, .sipush 324, 35, 0, 0, 0),
  (35, .bipush 9, 37, 0, 0, 0),
  (37, .iload_n 1, 38, 0, 0, 0),
  (38, .imul, 39, 0, 0, 0),
  (39, .iadd, 40, 0, 0, 0),
  (40, .iload_n 2, 41, 0, 0, 0),
  (41, .iadd, 42, 0, 0, 0),
  (42, .iload_n 3, 43, 0, 0, 0),
  (43, .invokevirtual 66, 46, 0, 0, 0),
  (46, .goto 5, 49, 51, 0, 0),
  (49, .bipush (-2), 51, 0, 0, 0),
  (51, .ireturn, 52, 0, 0, 0)]
def YM_green : zY := (⟨"DiscLinesModel", "green", "(III)I"⟩, 8, prog_11_method_8_code, 4, (some .int), rM_green)
theorem oM_green : zok YM_green := (by decide +kernel : YM_green.rows.all (zchk YM_green) = true)
theorem ckM_green : zCkV YM_green 3 8 := ⟨⟨zt 922 (by decide +kernel) rfl, zt 79 (by decide +kernel) rfl, by decide +kernel⟩, zt 920 (by decide +kernel) rfl, zt 921 (by decide +kernel) rfl, by decide⟩
def rM_mark : List zRow := [(0, .iload_n 1, 1, 0, 0, 0),
  (1, .i2l, 2, 0, 0, 0),
  (2, .lconst 0, 3, 0, 0, 0),
  (3, .ldc2_w 74, 6, 0, 0, 7),
  (6, .invokestatic 51, 9, 0, 0, 0),
  (9, .ifCond .eq 14, 12, 23, 0, 0),
  (12, .iload_n 2, 13, 0, 0, 0),
  (13, .invokestatic 61, 16, 0, 0, 0),
  (16, .ifCond .eq 7, 19, 23, 0, 0),
  (19, .iconst 1, 20, 0, 0, 0),
  (20, .goto 4, 23, 24, 0, 0),
  (23, .iconst 0, 24, 0, 0, 0),
  (24, .istore_n 3, 25, 0, 0, 0),
  (25, .iconst 0, 26, 0, 0, 0),
  (26, .istore 4, 28, 0, 0, 0),
  (28, .iload 4, 30, 0, 0, 0),
  (30, .bipush 8, 32, 0, 0, 0),
  (32, .if_icmp .ge 40, 35, 72, 0, 0),
  (35, .iload_n 3, 36, 0, 0, 0),
  (36, .ifCond .eq 28, 39, 64, 0, 0),
  (39, .iload 4, 41, 0, 0, 0),
  (41, .iload_n 1, 42, 0, 0, 0),
  (42, .if_icmp .eq 18, 45, 60, 0, 0),
  (45, .aload_n 0, 46, 0, 0, 0),
  (46, .getfield 7, 49, 8, 0, 0),
  (49, .sipush 360, 52, 0, 0, 0),
  (52, .iload 4, 54, 0, 0, 0),
  (54, .iadd, 55, 0, 0, 0),
  (55, .iaload, 56, 0, 0, 0),
  (56, .iload_n 2, 57, 0, 0, 0),
  (57, .if_icmp .eq 7, 60, 64, 0, 0),
  (60, .iconst 1, 61, 0, 0, 0),
  (61, .goto 4, 64, 65, 0, 0),
  (64, .iconst 0, 65, 0, 0, 0),
  (65, .istore_n 3, 66, 0, 0, 0),
  (66, .iinc 4 1, 69, 0, 0, 0),
  (69, .goto (-41), 72, 28, 0, 0),
  (72, .iload_n 3, 73, 0, 0, 0),
  (73, .ifCond .eq 16, 76, 89, 0, 0),
  (76, .aload_n 0, 77, 0, 0, 0),
  (77, .sipush 360, 80, 0, 0, 0),
  (80, .iload_n 1, 81, 0, 0, 0),
  (81, .iadd, 82, 0, 0, 0),
  (82, .iload_n 2, 83, 0, 0, 0),
  (83, .invokevirtual 66, 86, 0, 0, 0),
  (86, .goto 5, 89, 91, 0, 0),
  (89, .bipush (-2), 91, 0, 0, 0),
  (91, .ireturn, 92, 0, 0, 0)]
def YM_mark : zY := (⟨"DiscLinesModel", "mark", "(II)I"⟩, 8, prog_11_method_9_code, 5, (some .int), rM_mark)
theorem oM_mark : zok YM_mark := (by decide +kernel : YM_mark.rows.all (zchk YM_mark) = true)
theorem ckM_mark : zCkV YM_mark 2 8 := ⟨⟨zt 928 (by decide +kernel) rfl, zt 79 (by decide +kernel) rfl, by decide +kernel⟩, zt 926 (by decide +kernel) rfl, zt 927 (by decide +kernel) rfl, by decide⟩
def rM_layWorld : List zRow := [(0, .iconst 0, 1, 0, 0, 0),
  (1, .istore_n 3, 2, 0, 0, 0),
  (2, .iload_n 3, 3, 0, 0, 0),
  (3, .bipush 81, 5, 0, 0, 0),
  (5, .if_icmp .ge 89, 8, 94, 0, 0),
  (8, .aload_n 0, 9, 0, 0, 0),
  (9, .getfield 7, 12, 8, 0, 0),
  (12, .sipush 324, 15, 0, 0, 0),
  (15, .bipush 9, 17, 0, 0, 0),
  (17, .iload_n 1, 18, 0, 0, 0),
  (18, .imul, 19, 0, 0, 0),
  (19, .iadd, 20, 0, 0, 0),
  (20, .iload_n 3, 21, 0, 0, 0),
  (21, .bipush 9, 23, 0, 0, 0),
  (23, .idiv, 24, 0, 0, 0),
  (24, .iadd, 25, 0, 0, 0),
  (25, .iaload, 26, 0, 0, 0),
  (26, .iload_n 3, 27, 0, 0, 0),
  (27, .bipush 9, 29, 0, 0, 0),
  (29, .irem, 30, 0, 0, 0),
  (30, .ishr, 31, 0, 0, 0),
  (31, .iconst 1, 32, 0, 0, 0),
  (32, .iand, 33, 0, 0, 0),
  (33, .iconst 1, 34, 0, 0, 0),
  (34, .if_icmp .ne 7, 37, 41, 0, 0),
  (37, .iconst 1, 38, 0, 0, 0),
  (38, .goto 4, 41, 42, 0, 0),
  (41, .iconst 0, 42, 0, 0, 0),
  (42, .istore 4, 44, 0, 0, 0),
  (44, .aload_n 0, 45, 0, 0, 0),
  (45, .getfield 7, 48, 8, 0, 0),
  (48, .bipush 81, 50, 0, 0, 0),
  (50, .iload_n 1, 51, 0, 0, 0),
  (51, .imul, 52, 0, 0, 0),
  (52, .iload_n 3, 53, 0, 0, 0),
  (53, .iadd, 54, 0, 0, 0),
  (54, .iaload, 55, 0, 0, 0),
  (55, .iload 4, 57, 0, 0, 0),
  (57, .ifCond .eq 7, 60, 64, 0, 0),
  (60, .iload_n 2, 61, 0, 0, 0),
  (61, .goto 4, 64, 65, 0, 0),
  (64, .iconst 0, 65, 0, 0, 0),
  (65, .iadd, 66, 0, 0, 0),
  (66, .istore 5, 68, 0, 0, 0),
  (68, .aload_n 0, 69, 0, 0, 0),
  (69, .getfield 20, 72, 8, 5, 0),
  (72, .iload_n 3, 73, 0, 0, 0),
  (73, .iload 5, 75, 0, 0, 0),
  (75, .bipush 15, 77, 0, 0, 0),
  (77, .if_icmp .le 8, 80, 85, 0, 0),
  (80, .bipush 15, 82, 0, 0, 0),
  (82, .goto 5, 85, 87, 0, 0),
  (85, .iload 5, 87, 0, 0, 0),
  (87, .iastore, 88, 0, 0, 0),
  (88, .iinc 3 1, 91, 0, 0, 0),
  (91, .goto (-89), 94, 2, 0, 0),
  (94, .return_, 95, 0, 0, 0)]
def YM_layWorld : zY := (⟨"DiscLinesModel", "layWorld", "(II)V"⟩, 8, prog_11_method_10_code, 6, none, rM_layWorld)
theorem oM_layWorld : zok YM_layWorld := (by decide +kernel : YM_layWorld.rows.all (zchk YM_layWorld) = true)
theorem ckM_layWorld : zCkV YM_layWorld 2 8 := ⟨⟨zt 941 (by decide +kernel) rfl, zt 79 (by decide +kernel) rfl, by decide +kernel⟩, zt 940 (by decide +kernel) rfl, zt 32 (by decide +kernel) rfl, by decide⟩
def rM_blurred : List zRow := [(0, .iconst 0, 1, 0, 0, 0),
  (1, .istore 4, 3, 0, 0, 0),
  (3, .iconst 0, 4, 0, 0, 0),
  (4, .istore 5, 6, 0, 0, 0),
  (6, .iload_n 2, 7, 0, 0, 0),
  (7, .iload_n 1, 8, 0, 0, 0),
  (8, .isub, 9, 0, 0, 0),
  (9, .istore 6, 11, 0, 0, 0),
  (11, .iload 6, 13, 0, 0, 0),
  (13, .iload_n 2, 14, 0, 0, 0),
  (14, .iload_n 1, 15, 0, 0, 0),
  (15, .iadd, 16, 0, 0, 0),
  (16, .if_icmp .gt 75, 19, 91, 0, 0),
  (19, .iload_n 3, 20, 0, 0, 0),
  (20, .iload_n 1, 21, 0, 0, 0),
  (21, .isub, 22, 0, 0, 0),
  (22, .istore 7, 24, 0, 0, 0),
  (24, .iload 7, 26, 0, 0, 0),
  (26, .iload_n 3, 27, 0, 0, 0),
  (27, .iload_n 1, 28, 0, 0, 0),
  (28, .iadd, 29, 0, 0, 0),
  (29, .if_icmp .gt 56, 32, 85, 0, 0),
  (32, .iload 6, 34, 0, 0, 0),
  (34, .i2l, 35, 0, 0, 0),
  (35, .lconst 0, 36, 0, 0, 0),
  (36, .ldc2_w 70, 39, 0, 0, 8),
  (39, .invokestatic 51, 42, 0, 0, 0),
  (42, .ifCond .eq 37, 45, 79, 0, 0),
  (45, .iload 7, 47, 0, 0, 0),
  (47, .i2l, 48, 0, 0, 0),
  (48, .lconst 0, 49, 0, 0, 0),
  (49, .ldc2_w 70, 52, 0, 0, 8),
  (52, .invokestatic 51, 55, 0, 0, 0),
  (55, .ifCond .eq 24, 58, 79, 0, 0),
  (58, .iload 4, 60, 0, 0, 0),
  (60, .aload_n 0, 61, 0, 0, 0),
  (61, .getfield 20, 64, 8, 5, 0),
  (64, .bipush 9, 66, 0, 0, 0),
  (66, .iload 6, 68, 0, 0, 0),
  (68, .imul, 69, 0, 0, 0),
  (69, .iload 7, 71, 0, 0, 0),
  (71, .iadd, 72, 0, 0, 0),
  (72, .iaload, 73, 0, 0, 0),
  (73, .iadd, 74, 0, 0, 0),
  (74, .istore 4, 76, 0, 0, 0),
  (76, .iinc 5 1, 79, 0, 0, 0),
  (79, .iinc 7 1, 82, 0, 0, 0),
  (82, .goto (-58), 85, 24, 0, 0),
  (85, .iinc 6 1, 88, 0, 0, 0),
  (88, .goto (-77), 91, 11, 0, 0),
  (91, .iload 4, 93, 0, 0, 0),
  (93, .iload 5, 95, 0, 0, 0),
  (95, .idiv, 96, 0, 0, 0),
  (96, .ireturn, 97, 0, 0, 0)]
def YM_blurred : zY := (⟨"DiscLinesModel", "blurred", "(III)I"⟩, 8, prog_11_method_11_code, 8, (some .int), rM_blurred)
theorem oM_blurred : zok YM_blurred := (by decide +kernel : YM_blurred.rows.all (zchk YM_blurred) = true)
theorem ckM_blurred : zCkV YM_blurred 3 8 := ⟨⟨zt 949 (by decide +kernel) rfl, zt 79 (by decide +kernel) rfl, by decide +kernel⟩, zt 948 (by decide +kernel) rfl, zt 34 (by decide +kernel) rfl, by decide⟩
def rM_seenAt : List zRow := [(0, .iload_n 3, 1, 0, 0, 0),
  (1, .bipush 9, 3, 0, 0, 0),
  (3, .idiv, 4, 0, 0, 0),
  (4, .iload_n 2, 5, 0, 0, 0),
  (5, .iconst 1, 6, 0, 0, 0),
  (6, .if_icmp .ne 7, 9, 13, 0, 0),
  (9, .iconst (-1), 10, 0, 0, 0),
  (10, .goto 13, 13, 23, 0, 0),
  (13, .iload_n 2, 14, 0, 0, 0),
  (14, .iconst 2, 15, 0, 0, 0),
  (15, .if_icmp .ne 7, 18, 22, 0, 0),
  (18, .iconst 1, 19, 0, 0, 0),
  (19, .goto 4, 22, 23, 0, 0),
  (22, .iconst 0, 23, 0, 0, 0),
  (23, .iadd, 24, 0, 0, 0),
  (24, .istore 4, 26, 0, 0, 0),
  (26, .iload_n 3, 27, 0, 0, 0),
  (27, .bipush 9, 29, 0, 0, 0),
  (29, .irem, 30, 0, 0, 0),
  (30, .iload_n 2, 31, 0, 0, 0),
  (31, .iconst 3, 32, 0, 0, 0),
  (32, .if_icmp .ne 7, 35, 39, 0, 0),
  (35, .iconst (-1), 36, 0, 0, 0),
  (36, .goto 13, 39, 49, 0, 0),
  (39, .iload_n 2, 40, 0, 0, 0),
  (40, .iconst 4, 41, 0, 0, 0),
  (41, .if_icmp .ne 7, 44, 48, 0, 0),
  (44, .iconst 1, 45, 0, 0, 0),
  (45, .goto 4, 48, 49, 0, 0),
  (48, .iconst 0, 49, 0, 0, 0),
  (49, .iadd, 50, 0, 0, 0),
  (50, .istore 5, 52, 0, 0, 0),
  (52, .iload 4, 54, 0, 0, 0),
  (54, .i2l, 55, 0, 0, 0),
  (55, .lconst 0, 56, 0, 0, 0),
  (56, .ldc2_w 70, 59, 0, 0, 8),
  (59, .invokestatic 51, 62, 0, 0, 0),
  (62, .ifCond .eq 20, 65, 82, 0, 0),
  (65, .iload 5, 67, 0, 0, 0),
  (67, .i2l, 68, 0, 0, 0),
  (68, .lconst 0, 69, 0, 0, 0),
  (69, .ldc2_w 70, 72, 0, 0, 8),
  (72, .invokestatic 51, 75, 0, 0, 0),
  (75, .ifCond .eq 7, 78, 82, 0, 0),
  (78, .iconst 1, 79, 0, 0, 0),
  (79, .goto 4, 82, 83, 0, 0),
  (82, .iconst 0, 83, 0, 0, 0),
  (83, .istore 6, 85, 0, 0, 0),
  (85, .aload_n 0, 86, 0, 0, 0),
  (86, .iload_n 1, 87, 0, 0, 0),
  (87, .iload 6, 89, 0, 0, 0),
  (89, .ifCond .eq 8, 92, 97, 0, 0),
  (92, .iload 4, 94, 0, 0, 0),
  (94, .goto 7, 97, 101, 0, 0),
  (97, .iload_n 3, 98, 0, 0, 0),
  (98, .bipush 9, 100, 0, 0, 0),
  (100, .idiv, 101, 0, 0, 0),
  (101, .iload 6, 103, 0, 0, 0),
  (103, .ifCond .eq 8, 106, 111, 0, 0),
  (106, .iload 5, 108, 0, 0, 0),
  (108, .goto 7, 111, 115, 0, 0),
  (111, .iload_n 3, 112, 0, 0, 0),
  (112, .bipush 9, 114, 0, 0, 0),
  (114, .irem, 115, 0, 0, 0),
  (115, .invokevirtual 76, 118, 0, 0, 0),
  (118, .ireturn, 119, 0, 0, 0)]
def YM_seenAt : zY := (⟨"DiscLinesModel", "seenAt", "(III)I"⟩, 8, prog_11_method_12_code, 7, (some .int), rM_seenAt)
theorem oM_seenAt : zok YM_seenAt := (by decide +kernel : YM_seenAt.rows.all (zchk YM_seenAt) = true)
theorem ckM_seenAt : zCkV YM_seenAt 3 8 := ⟨⟨zt 945 (by decide +kernel) rfl, zt 79 (by decide +kernel) rfl, by decide +kernel⟩, zt 944 (by decide +kernel) rfl, zt 33 (by decide +kernel) rfl, by decide⟩
def rM_isLook : List zRow := [(0, .iload_n 0, 1, 0, 0, 0),
  (1, .invokestatic 57, 4, 0, 0, 0),
  (4, .ifCond .eq 38, 7, 42, 0, 0),
  (7, .iload_n 1, 8, 0, 0, 0),
  (8, .i2l, 9, 0, 0, 0),
  (9, .lconst 0, 10, 0, 0, 0),
  (10, .ldc2_w 64, 13, 0, 0, 15),
  (13, .invokestatic 51, 16, 0, 0, 0),
  (16, .ifCond .eq 26, 19, 42, 0, 0),
  (19, .iload_n 2, 20, 0, 0, 0),
  (20, .invokestatic 57, 23, 0, 0, 0),
  (23, .ifCond .eq 19, 26, 42, 0, 0),
  (26, .iload_n 3, 27, 0, 0, 0),
  (27, .i2l, 28, 0, 0, 0),
  (28, .lconst 0, 29, 0, 0, 0),
  (29, .ldc2_w 80, 32, 0, 0, 4),
  (32, .invokestatic 51, 35, 0, 0, 0),
  (35, .ifCond .eq 7, 38, 42, 0, 0),
  (38, .iconst 1, 39, 0, 0, 0),
  (39, .goto 4, 42, 43, 0, 0),
  (42, .iconst 0, 43, 0, 0, 0),
  (43, .ireturn, 44, 0, 0, 0)]
def YM_isLook : zY := (⟨"DiscLinesModel", "isLook", "(IIII)Z"⟩, 8, prog_11_method_13_code, 4, (some .boolean), rM_isLook)
theorem oM_isLook : zok YM_isLook := (by decide +kernel : YM_isLook.rows.all (zchk YM_isLook) = true)
theorem ckM_isLook : zCkS YM_isLook 4 := ⟨⟨zt 936 (by decide +kernel) rfl, zt 79 (by decide +kernel) rfl, by decide +kernel⟩, zt 935 (by decide +kernel) rfl⟩
def rM_seen : List zRow := [(0, .iload_n 1, 1, 0, 0, 0),
  (1, .iload_n 2, 2, 0, 0, 0),
  (2, .iload_n 3, 3, 0, 0, 0),
  (3, .iload 4, 5, 0, 0, 0),
  (5, .invokestatic 82, 8, 0, 0, 0),
  (8, .ifCond .eq 11, 11, 19, 0, 0),
  (11, .iload 5, 13, 0, 0, 0),
  (13, .invokestatic 61, 16, 0, 0, 0),
  (16, .ifCond .ne 6, 19, 22, 0, 0),
  (19, .bipush (-2), 21, 0, 0, 0),
  (21, .ireturn, 22, 0, 0, 0),
  (22, .aload_n 0, 23, 0, 0, 0),
  (23, .iload_n 1, 24, 0, 0, 0),
  (24, .iload_n 2, 25, 0, 0, 0),
  (25, .invokevirtual 86, 28, 0, 0, 0),
  (28, .aload_n 0, 29, 0, 0, 0),
  (29, .iload_n 3, 30, 0, 0, 0),
  (30, .iload 4, 32, 0, 0, 0),
  (32, .iload 5, 34, 0, 0, 0),
  (34, .invokevirtual 90, 37, 0, 0, 0),
  (37, .ireturn, 38, 0, 0, 0)]
def YM_seen : zY := (⟨"DiscLinesModel", "seen", "(IIIII)I"⟩, 8, prog_11_method_14_code, 6, (some .int), rM_seen)
theorem oM_seen : zok YM_seen := (by decide +kernel : YM_seen.rows.all (zchk YM_seen) = true)
theorem ckM_seen : zCkV YM_seen 5 8 := ⟨⟨zt 933 (by decide +kernel) rfl, zt 79 (by decide +kernel) rfl, by decide +kernel⟩, zt 931 (by decide +kernel) rfl, zt 932 (by decide +kernel) rfl, by decide⟩
def rM_linesAhead : List zRow := [(0, .bipush 7, 2, 0, 0, 0),
  (2, .iload_n 0, 3, 0, 0, 0),
  (3, .imul, 4, 0, 0, 0),
  (4, .iload_n 0, 5, 0, 0, 0),
  (5, .iload_n 0, 6, 0, 0, 0),
  (6, .iconst 1, 7, 0, 0, 0),
  (7, .isub, 8, 0, 0, 0),
  (8, .imul, 9, 0, 0, 0),
  (9, .iconst 2, 10, 0, 0, 0),
  (10, .idiv, 11, 0, 0, 0),
  (11, .isub, 12, 0, 0, 0),
  (12, .ireturn, 13, 0, 0, 0)]
def YM_linesAhead : zY := (⟨"DiscLinesModel", "linesAhead", "(I)I"⟩, 8, prog_11_method_15_code, 1, (some .int), rM_linesAhead)
theorem oM_linesAhead : zok YM_linesAhead := (by decide +kernel : YM_linesAhead.rows.all (zchk YM_linesAhead) = true)
theorem ckM_linesAhead : zCkS YM_linesAhead 1 := ⟨⟨zt 956 (by decide +kernel) rfl, zt 79 (by decide +kernel) rfl, by decide +kernel⟩, zt 955 (by decide +kernel) rfl⟩
def rM_line : List zRow := [(0, .iload_n 1, 1, 0, 0, 0),
  (1, .i2l, 2, 0, 0, 0),
  (2, .lconst 0, 3, 0, 0, 0),
  (3, .ldc2_w 74, 6, 0, 0, 7),
  (6, .invokestatic 51, 9, 0, 0, 0),
  (9, .ifCond .eq 20, 12, 29, 0, 0),
  (12, .iload_n 2, 13, 0, 0, 0),
  (13, .i2l, 14, 0, 0, 0),
  (14, .lconst 0, 15, 0, 0, 0),
  (15, .ldc2_w 74, 18, 0, 0, 7),
  (18, .invokestatic 51, 21, 0, 0, 0),
  (21, .ifCond .eq 8, 24, 29, 0, 0),
  (24, .iload_n 1, 25, 0, 0, 0),
  (25, .iload_n 2, 26, 0, 0, 0),
  (26, .if_icmp .ne 6, 29, 32, 0, 0),
  (29, .bipush (-2), 31, 0, 0, 0),
  (31, .ireturn, 32, 0, 0, 0),
  (32, .iload_n 1, 33, 0, 0, 0),
  (33, .iload_n 2, 34, 0, 0, 0),
  (34, .if_icmp .ge 7, 37, 41, 0, 0),
  (37, .iload_n 1, 38, 0, 0, 0),
  (38, .goto 4, 41, 42, 0, 0),
  (41, .iload_n 2, 42, 0, 0, 0),
  (42, .istore_n 3, 43, 0, 0, 0),
  (43, .iload_n 1, 44, 0, 0, 0),
  (44, .iload_n 2, 45, 0, 0, 0),
  (45, .if_icmp .ge 7, 48, 52, 0, 0),
  (48, .iload_n 2, 49, 0, 0, 0),
  (49, .goto 4, 52, 53, 0, 0),
  (52, .iload_n 1, 53, 0, 0, 0),
  (53, .istore 4, 55, 0, 0, 0),
  (55, .iload_n 3, 56, 0, 0, 0),
  (56, .invokestatic 93, 59, 0, 0, 0),
  (59, .iload 4, 61, 0, 0, 0),
  (61, .iadd, 62, 0, 0, 0),
  (62, .iload_n 3, 63, 0, 0, 0),
  (63, .isub, 64, 0, 0, 0),
  (64, .iconst 1, 65, 0, 0, 0),
  (65, .isub, 66, 0, 0, 0),
  (66, .ireturn, 67, 0, 0, 0)]
def YM_line : zY := (⟨"DiscLinesModel", "line", "(II)I"⟩, 8, prog_11_method_16_code, 5, (some .int), rM_line)
theorem oM_line : zok YM_line := (by decide +kernel : YM_line.rows.all (zchk YM_line) = true)
theorem ckM_line : zCkV YM_line 2 8 := ⟨⟨zt 953 (by decide +kernel) rfl, zt 79 (by decide +kernel) rfl, by decide +kernel⟩, zt 951 (by decide +kernel) rfl, zt 952 (by decide +kernel) rfl, by decide⟩
def rM_write : List zRow := [(0, .iload_n 1, 1, 0, 0, 0),
  (1, .invokestatic 57, 4, 0, 0, 0),
  (4, .ifCond .eq 15, 7, 19, 0, 0),
  (7, .iload_n 2, 8, 0, 0, 0),
  (8, .i2l, 9, 0, 0, 0),
  (9, .lconst 0, 10, 0, 0, 0),
  (10, .ldc2_w 97, 13, 0, 0, 127),
  (13, .invokestatic 51, 16, 0, 0, 0),
  (16, .ifCond .ne 6, 19, 22, 0, 0),
  (19, .bipush (-2), 21, 0, 0, 0),
  (21, .ireturn, 22, 0, 0, 0),
  (22, .aload_n 0, 23, 0, 0, 0),
  (23, .getfield 7, 26, 8, 0, 0),
  (26, .sipush 368, 29, 0, 0, 0),
  (29, .iload_n 1, 30, 0, 0, 0),
  (30, .iadd, 31, 0, 0, 0),
  (31, .iaload, 32, 0, 0, 0),
  (32, .istore_n 3, 33, 0, 0, 0),
  (33, .iload_n 3, 34, 0, 0, 0),
  (34, .bipush 40, 36, 0, 0, 0),
  (36, .if_icmp .ne 6, 39, 42, 0, 0),
  (39, .bipush (-4), 41, 0, 0, 0),
  (41, .ireturn, 42, 0, 0, 0),
  (42, .aload_n 0, 43, 0, 0, 0),
  (43, .getfield 7, 46, 8, 0, 0),
  (46, .sipush 372, 49, 0, 0, 0),
  (49, .bipush 40, 51, 0, 0, 0),
  (51, .iload_n 1, 52, 0, 0, 0),
  (52, .imul, 53, 0, 0, 0),
  (53, .iadd, 54, 0, 0, 0),
  (54, .iload_n 3, 55, 0, 0, 0),
  (55, .iadd, 56, 0, 0, 0),
  (56, .iload_n 2, 57, 0, 0, 0),
  (57, .iastore, 58, 0, 0, 0),
  (58, .aload_n 0, 59, 0, 0, 0),
  (59, .getfield 7, 62, 8, 0, 0),
  (62, .sipush 368, 65, 0, 0, 0),
  (65, .iload_n 1, 66, 0, 0, 0),
  (66, .iadd, 67, 0, 0, 0),
  (67, .dup2, 68, 0, 0, 0),
  (68, .iaload, 69, 0, 0, 0),
  (69, .iconst 1, 70, 0, 0, 0),
  (70, .iadd, 71, 0, 0, 0),
  (71, .iastore, 72, 0, 0, 0),
  (72, .iload_n 3, 73, 0, 0, 0),
  (73, .iconst 1, 74, 0, 0, 0),
  (74, .iadd, 75, 0, 0, 0),
  (75, .ireturn, 76, 0, 0, 0)]
def YM_write : zY := (⟨"DiscLinesModel", "write", "(II)I"⟩, 8, prog_11_method_17_code, 4, (some .int), rM_write)
theorem oM_write : zok YM_write := (by decide +kernel : YM_write.rows.all (zchk YM_write) = true)
theorem ckM_write : zCkV YM_write 2 8 := ⟨⟨zt 960 (by decide +kernel) rfl, zt 79 (by decide +kernel) rfl, by decide +kernel⟩, zt 958 (by decide +kernel) rfl, zt 959 (by decide +kernel) rfl, by decide⟩
def rM_erase : List zRow := [(0, .iload_n 1, 1, 0, 0, 0),
  (1, .invokestatic 57, 4, 0, 0, 0),
  (4, .ifCond .eq 16, 7, 20, 0, 0),
  (7, .aload_n 0, 8, 0, 0, 0),
  (8, .sipush 368, 11, 0, 0, 0),
  (11, .iload_n 1, 12, 0, 0, 0),
  (12, .iadd, 13, 0, 0, 0),
  (13, .iconst 0, 14, 0, 0, 0),
  (14, .invokevirtual 66, 17, 0, 0, 0),
  (17, .goto 5, 20, 22, 0, 0),
  (20, .bipush (-2), 22, 0, 0, 0),
  (22, .ireturn, 23, 0, 0, 0)]
def YM_erase : zY := (⟨"DiscLinesModel", "erase", "(I)I"⟩, 8, prog_11_method_18_code, 2, (some .int), rM_erase)
theorem oM_erase : zok YM_erase := (by decide +kernel : YM_erase.rows.all (zchk YM_erase) = true)
theorem ckM_erase : zCkV YM_erase 1 8 := ⟨⟨zt 965 (by decide +kernel) rfl, zt 79 (by decide +kernel) rfl, by decide +kernel⟩, zt 963 (by decide +kernel) rfl, zt 964 (by decide +kernel) rfl, by decide⟩
def rM_lay : List zRow := [(0, .aload_n 0, 1, 0, 0, 0),
  (1, .getfield 23, 4, 8, 6, 0),
  (4, .aload_n 0, 5, 0, 0, 0),
  (5, .getfield 99, 8, 8, 8, 0),
  (8, .iload_n 1, 9, 0, 0, 0),
  (9, .iastore, 10, 0, 0, 0),
  (10, .aload_n 0, 11, 0, 0, 0),
  (11, .getfield 26, 14, 8, 7, 0),
  (14, .aload_n 0, 15, 0, 0, 0),
  (15, .getfield 99, 18, 8, 8, 0),
  (18, .lload_n 2, 19, 0, 0, 0),
  (19, .lastore, 20, 0, 0, 0),
  (20, .aload_n 0, 21, 0, 0, 0),
  (21, .dup, 22, 0, 0, 0),
  (22, .getfield 99, 25, 8, 8, 0),
  (25, .iconst 1, 26, 0, 0, 0),
  (26, .iadd, 27, 0, 0, 0),
  (27, .putfield 99, 30, 8, 8, 0),
  (30, .return_, 31, 0, 0, 0)]
def YM_lay : zY := (⟨"DiscLinesModel", "lay", "(IJ)V"⟩, 8, prog_11_method_19_code, 4, none, rM_lay)
theorem oM_lay : zok YM_lay := (by decide +kernel : YM_lay.rows.all (zchk YM_lay) = true)
theorem ckM_lay : zCkV YM_lay 2 8 := ⟨⟨zt 995 (by decide +kernel) rfl, zt 79 (by decide +kernel) rfl, by decide +kernel⟩, zt 994 (by decide +kernel) rfl, zt 39 (by decide +kernel) rfl, by decide⟩
def rM_firm : List zRow := [(0, .iload_n 0, 1, 0, 0, 0),
  (1, .bipush 11, 3, 0, 0, 0),
  (3, .if_icmp .ne 7, 6, 10, 0, 0),
  (6, .iconst 1, 7, 0, 0, 0),
  (7, .goto 55, 10, 62, 0, 0),
  (10, .iload_n 0, 11, 0, 0, 0),
  (11, .bipush 12, 13, 0, 0, 0),
  (13, .if_icmp .ne 7, 16, 20, 0, 0),
  (16, .iconst 2, 17, 0, 0, 0),
  (17, .goto 45, 20, 62, 0, 0),
  (20, .iload_n 0, 21, 0, 0, 0),
  (21, .bipush 16, 23, 0, 0, 0),
  (23, .if_icmp .ge 7, 26, 30, 0, 0),
  (26, .iconst 3, 27, 0, 0, 0),
  (27, .goto 35, 30, 62, 0, 0),
  (30, .iload_n 0, 31, 0, 0, 0),
  (31, .bipush 18, 33, 0, 0, 0),
  (33, .if_icmp .ge 7, 36, 40, 0, 0),
  (36, .iconst 4, 37, 0, 0, 0),
  (37, .goto 25, 40, 62, 0, 0),
  (40, .iload_n 0, 41, 0, 0, 0),
  (41, .bipush 20, 43, 0, 0, 0),
  (43, .if_icmp .ge 7, 46, 50, 0, 0),
  (46, .iconst 5, 47, 0, 0, 0),
  (47, .goto 15, 50, 62, 0, 0),
  (50, .iload_n 0, 51, 0, 0, 0),
  (51, .bipush 30, 53, 0, 0, 0),
  (53, .if_icmp .ge 8, 56, 61, 0, 0),
  (56, .bipush 6, 58, 0, 0, 0),
  (58, .goto 4, 61, 62, 0, 0),
  (61, .iconst 0, 62, 0, 0, 0),
  (62, .ireturn, 63, 0, 0, 0)]
def YM_firm : zY := (⟨"DiscLinesModel", "firm", "(I)I"⟩, 8, prog_11_method_20_code, 1, (some .int), rM_firm)
theorem oM_firm : zok YM_firm := (by decide +kernel : YM_firm.rows.all (zchk YM_firm) = true)
theorem ckM_firm : zCkS YM_firm 1 := ⟨⟨zt 991 (by decide +kernel) rfl, zt 79 (by decide +kernel) rfl, by decide +kernel⟩, zt 990 (by decide +kernel) rfl⟩
def rM_layDown : List zRow := [(0, .aload_n 0, 1, 0, 0, 0),
  (1, .getfield 103, 4, 8, 10, 0),
  (4, .ifCond .le 48, 7, 52, 0, 0),
  (7, .aload_n 0, 8, 0, 0, 0),
  (8, .getfield 30, 11, 8, 9, 0),
  (11, .aload_n 0, 12, 0, 0, 0),
  (12, .getfield 103, 15, 8, 10, 0),
  (15, .iconst 1, 16, 0, 0, 0),
  (16, .isub, 17, 0, 0, 0),
  (17, .iaload, 18, 0, 0, 0),
  (18, .invokestatic 106, 21, 0, 0, 0),
  (21, .iload_n 1, 22, 0, 0, 0),
  (22, .if_icmp .lt 30, 25, 52, 0, 0),
  (25, .aload_n 0, 26, 0, 0, 0),
  (26, .dup, 27, 0, 0, 0),
  (27, .getfield 103, 30, 8, 10, 0),
  (30, .iconst 1, 31, 0, 0, 0),
  (31, .isub, 32, 0, 0, 0),
  (32, .putfield 103, 35, 8, 10, 0),
  (35, .aload_n 0, 36, 0, 0, 0),
  (36, .aload_n 0, 37, 0, 0, 0),
  (37, .getfield 30, 40, 8, 9, 0),
  (40, .aload_n 0, 41, 0, 0, 0),
  (41, .getfield 103, 44, 8, 10, 0),
  (44, .iaload, 45, 0, 0, 0),
  (45, .lconst 0, 46, 0, 0, 0),
  (46, .invokevirtual 109, 49, 0, 0, 0),
  (49, .goto (-49), 52, 0, 0, 0),
  (52, .return_, 53, 0, 0, 0)]
def YM_layDown : zY := (⟨"DiscLinesModel", "layDown", "(I)V"⟩, 8, prog_11_method_21_code, 2, none, rM_layDown)
theorem oM_layDown : zok YM_layDown := (by decide +kernel : YM_layDown.rows.all (zchk YM_layDown) = true)
theorem ckM_layDown : zCkV YM_layDown 1 8 := ⟨⟨zt 988 (by decide +kernel) rfl, zt 79 (by decide +kernel) rfl, by decide +kernel⟩, zt 987 (by decide +kernel) rfl, zt 38 (by decide +kernel) rfl, by decide⟩
def rM_join : List zRow := [(0, .aload_n 0, 1, 0, 0, 0),
  (1, .iload_n 1, 2, 0, 0, 0),
  (2, .invokestatic 106, 5, 0, 0, 0),
  (5, .invokevirtual 113, 8, 0, 0, 0),
  (8, .aload_n 0, 9, 0, 0, 0),
  (9, .getfield 30, 12, 8, 9, 0),
  (12, .aload_n 0, 13, 0, 0, 0),
  (13, .getfield 103, 16, 8, 10, 0),
  (16, .iload_n 1, 17, 0, 0, 0),
  (17, .iastore, 18, 0, 0, 0),
  (18, .aload_n 0, 19, 0, 0, 0),
  (19, .dup, 20, 0, 0, 0),
  (20, .getfield 103, 23, 8, 10, 0),
  (23, .iconst 1, 24, 0, 0, 0),
  (24, .iadd, 25, 0, 0, 0),
  (25, .putfield 103, 28, 8, 10, 0),
  (28, .aload_n 0, 29, 0, 0, 0),
  (29, .iconst 0, 30, 0, 0, 0),
  (30, .putfield 117, 33, 8, 13, 0),
  (33, .return_, 34, 0, 0, 0)]
def YM_join : zY := (⟨"DiscLinesModel", "join", "(I)V"⟩, 8, prog_11_method_22_code, 2, none, rM_join)
theorem oM_join : zok YM_join := (by decide +kernel : YM_join.rows.all (zchk YM_join) = true)
theorem ckM_join : zCkV YM_join 1 8 := ⟨⟨zt 1002 (by decide +kernel) rfl, zt 79 (by decide +kernel) rfl, by decide +kernel⟩, zt 1001 (by decide +kernel) rfl, zt 40 (by decide +kernel) rfl, by decide⟩
def rM_letterOf : List zRow := [(0, .iload_n 0, 1, 0, 0, 0),
  (1, .bipush 97, 3, 0, 0, 0),
  (3, .if_icmp .ne 7, 6, 10, 0, 0),
  (6, .iconst 0, 7, 0, 0, 0),
  (7, .goto 54, 10, 61, 0, 0),
  (10, .iload_n 0, 11, 0, 0, 0),
  (11, .bipush 98, 13, 0, 0, 0),
  (13, .if_icmp .ne 7, 16, 20, 0, 0),
  (16, .iconst 1, 17, 0, 0, 0),
  (17, .goto 44, 20, 61, 0, 0),
  (20, .iload_n 0, 21, 0, 0, 0),
  (21, .bipush 100, 23, 0, 0, 0),
  (23, .if_icmp .ne 7, 26, 30, 0, 0),
  (26, .iconst 2, 27, 0, 0, 0),
  (27, .goto 34, 30, 61, 0, 0),
  (30, .iload_n 0, 31, 0, 0, 0),
  (31, .bipush 109, 33, 0, 0, 0),
  (33, .if_icmp .ne 7, 36, 40, 0, 0),
  (36, .iconst 3, 37, 0, 0, 0),
  (37, .goto 24, 40, 61, 0, 0),
  (40, .iload_n 0, 41, 0, 0, 0),
  (41, .bipush 107, 43, 0, 0, 0),
  (43, .if_icmp .ne 7, 46, 50, 0, 0),
  (46, .iconst 4, 47, 0, 0, 0),
  (47, .goto 14, 50, 61, 0, 0),
  (50, .iload_n 0, 51, 0, 0, 0),
  (51, .bipush 103, 53, 0, 0, 0),
  (53, .if_icmp .ne 7, 56, 60, 0, 0),
  (56, .iconst 5, 57, 0, 0, 0),
  (57, .goto 4, 60, 61, 0, 0),
  (60, .iconst (-1), 61, 0, 0, 0),
  (61, .ireturn, 62, 0, 0, 0)]
def YM_letterOf : zY := (⟨"DiscLinesModel", "letterOf", "(I)I"⟩, 8, prog_11_method_23_code, 1, (some .int), rM_letterOf)
theorem oM_letterOf : zok YM_letterOf := (by decide +kernel : YM_letterOf.rows.all (zchk YM_letterOf) = true)
theorem ckM_letterOf : zCkS YM_letterOf 1 := ⟨⟨zt 1009 (by decide +kernel) rfl, zt 79 (by decide +kernel) rfl, by decide +kernel⟩, zt 1008 (by decide +kernel) rfl⟩
def rM_goUnit : List zRow := [(0, .iload_n 1, 1, 0, 0, 0),
  (1, .i2l, 2, 0, 0, 0),
  (2, .ldc2_w 121, 5, 0, 0, 48),
  (5, .ldc2_w 123, 8, 0, 0, 57),
  (8, .invokestatic 51, 11, 0, 0, 0),
  (11, .ifCond .eq 31, 14, 42, 0, 0),
  (14, .aload_n 0, 15, 0, 0, 0),
  (15, .bipush 6, 17, 0, 0, 0),
  (17, .iload_n 1, 18, 0, 0, 0),
  (18, .bipush 48, 20, 0, 0, 0),
  (20, .isub, 21, 0, 0, 0),
  (21, .i2l, 22, 0, 0, 0),
  (22, .invokevirtual 109, 25, 0, 0, 0),
  (25, .aload_n 0, 26, 0, 0, 0),
  (26, .iconst 1, 27, 0, 0, 0),
  (27, .putfield 117, 30, 8, 13, 0),
  (30, .aload_n 0, 31, 0, 0, 0),
  (31, .iconst 1, 32, 0, 0, 0),
  (32, .putfield 125, 35, 8, 14, 0),
  (35, .aload_n 0, 36, 0, 0, 0),
  (36, .iload_n 2, 37, 0, 0, 0),
  (37, .putfield 128, 40, 8, 15, 0),
  (40, .iconst 0, 41, 0, 0, 0),
  (41, .ireturn, 42, 0, 0, 0),
  (42, .iload_n 1, 43, 0, 0, 0),
  (43, .invokestatic 131, 46, 0, 0, 0),
  (46, .iconst (-1), 47, 0, 0, 0),
  (47, .if_icmp .eq 19, 50, 66, 0, 0),
  (50, .aload_n 0, 51, 0, 0, 0),
  (51, .iload_n 1, 52, 0, 0, 0),
  (52, .invokestatic 131, 55, 0, 0, 0),
  (55, .lconst 0, 56, 0, 0, 0),
  (56, .invokevirtual 109, 59, 0, 0, 0),
  (59, .aload_n 0, 60, 0, 0, 0),
  (60, .iconst 1, 61, 0, 0, 0),
  (61, .putfield 117, 64, 8, 13, 0),
  (64, .iconst 0, 65, 0, 0, 0),
  (65, .ireturn, 66, 0, 0, 0),
  (66, .iload_n 1, 67, 0, 0, 0),
  (67, .bipush 33, 69, 0, 0, 0),
  (69, .if_icmp .eq 9, 72, 78, 0, 0),
  (72, .iload_n 1, 73, 0, 0, 0),
  (73, .bipush 45, 75, 0, 0, 0),
  (75, .if_icmp .ne 37, 78, 112, 0, 0),
  (78, .aload_n 0, 79, 0, 0, 0),
  (79, .getfield 30, 82, 8, 9, 0),
  (82, .aload_n 0, 83, 0, 0, 0),
  (83, .getfield 103, 86, 8, 10, 0),
  (86, .iload_n 1, 87, 0, 0, 0),
  (87, .bipush 33, 89, 0, 0, 0),
  (89, .if_icmp .ne 8, 92, 97, 0, 0),
  (92, .bipush 20, 94, 0, 0, 0),
  (94, .goto 5, 97, 99, 0, 0),
  (97, .bipush 21, 99, 0, 0, 0),
  (99, .iastore, 100, 0, 0, 0),
  (100, .aload_n 0, 101, 0, 0, 0),
  (101, .dup, 102, 0, 0, 0),
  (102, .getfield 103, 105, 8, 10, 0),
  (105, .iconst 1, 106, 0, 0, 0),
  (106, .iadd, 107, 0, 0, 0),
  (107, .putfield 103, 110, 8, 10, 0),
  (110, .iconst 0, 111, 0, 0, 0),
  (111, .ireturn, 112, 0, 0, 0),
  (112, .iload_n 1, 113, 0, 0, 0),
  (113, .bipush 40, 115, 0, 0, 0),
  (115, .if_icmp .eq 10, 118, 125, 0, 0),
  (118, .bipush 10, 120, 0, 0, 0),
  (120, .iload_n 2, 121, 0, 0, 0),
  (121, .imul, 122, 0, 0, 0),
  (122, .iconst 1, 123, 0, 0, 0),
  (123, .iadd, 124, 0, 0, 0),
  (124, .ireturn, 125, 0, 0, 0),
  (125, .aload_n 0, 126, 0, 0, 0),
  (126, .getfield 134, 129, 8, 11, 0),
  (129, .bipush 8, 131, 0, 0, 0),
  (131, .if_icmp .ne 10, 134, 141, 0, 0),
  (134, .bipush 10, 136, 0, 0, 0),
  (136, .iload_n 2, 137, 0, 0, 0),
  (137, .imul, 138, 0, 0, 0),
  (138, .iconst 3, 139, 0, 0, 0),
  (139, .iadd, 140, 0, 0, 0),
  (140, .ireturn, 141, 0, 0, 0),
  (141, .aload_n 0, 142, 0, 0, 0),
  (142, .getfield 30, 145, 8, 9, 0),
  (145, .aload_n 0, 146, 0, 0, 0),
  (146, .getfield 103, 149, 8, 10, 0),
  (149, .bipush 30, 151, 0, 0, 0),
  (151, .iastore, 152, 0, 0, 0),
  (152, .aload_n 0, 153, 0, 0, 0),
  (153, .dup, 154, 0, 0, 0),
  (154, .getfield 103, 157, 8, 10, 0),
  (157, .iconst 1, 158, 0, 0, 0),
  (158, .iadd, 159, 0, 0, 0),
  (159, .putfield 103, 162, 8, 10, 0),
  (162, .aload_n 0, 163, 0, 0, 0),
  (163, .dup, 164, 0, 0, 0),
  (164, .getfield 134, 167, 8, 11, 0),
  (167, .iconst 1, 168, 0, 0, 0),
  (168, .iadd, 169, 0, 0, 0),
  (169, .putfield 134, 172, 8, 11, 0),
  (172, .aload_n 0, 173, 0, 0, 0),
  (173, .getfield 33, 176, 8, 12, 0),
  (176, .aload_n 0, 177, 0, 0, 0),
  (177, .getfield 134, 180, 8, 11, 0),
  (180, .iconst 0, 181, 0, 0, 0),
  (181, .bastore, 182, 0, 0, 0),
  (182, .iconst 0, 183, 0, 0, 0),
  (183, .ireturn, 184, 0, 0, 0)]
def YM_goUnit : zY := (⟨"DiscLinesModel", "goUnit", "(II)I"⟩, 8, prog_11_method_24_code, 3, (some .int), rM_goUnit)
theorem oM_goUnit : zok YM_goUnit := (by decide +kernel : YM_goUnit.rows.all (zchk YM_goUnit) = true)
theorem ckM_goUnit : zCkV YM_goUnit 2 8 := ⟨⟨zt 1006 (by decide +kernel) rfl, zt 79 (by decide +kernel) rfl, by decide +kernel⟩, zt 1005 (by decide +kernel) rfl, zt 41 (by decide +kernel) rfl, by decide⟩
def rM_joint : List zRow := [(0, .iload_n 0, 1, 0, 0, 0),
  (1, .bipush 124, 3, 0, 0, 0),
  (3, .if_icmp .ne 8, 6, 11, 0, 0),
  (6, .bipush 11, 8, 0, 0, 0),
  (8, .goto 92, 11, 100, 0, 0),
  (11, .iload_n 0, 12, 0, 0, 0),
  (12, .bipush 38, 14, 0, 0, 0),
  (14, .if_icmp .ne 8, 17, 22, 0, 0),
  (17, .bipush 12, 19, 0, 0, 0),
  (19, .goto 81, 22, 100, 0, 0),
  (22, .iload_n 0, 23, 0, 0, 0),
  (23, .bipush 60, 25, 0, 0, 0),
  (25, .if_icmp .ne 8, 28, 33, 0, 0),
  (28, .bipush 13, 30, 0, 0, 0),
  (30, .goto 70, 33, 100, 0, 0),
  (33, .iload_n 0, 34, 0, 0, 0),
  (34, .bipush 62, 36, 0, 0, 0),
  (36, .if_icmp .ne 8, 39, 44, 0, 0),
  (39, .bipush 14, 41, 0, 0, 0),
  (41, .goto 59, 44, 100, 0, 0),
  (44, .iload_n 0, 45, 0, 0, 0),
  (45, .bipush 61, 47, 0, 0, 0),
  (47, .if_icmp .ne 8, 50, 55, 0, 0),
  (50, .bipush 15, 52, 0, 0, 0),
  (52, .goto 48, 55, 100, 0, 0),
  (55, .iload_n 0, 56, 0, 0, 0),
  (56, .bipush 43, 58, 0, 0, 0),
  (58, .if_icmp .ne 8, 61, 66, 0, 0),
  (61, .bipush 16, 63, 0, 0, 0),
  (63, .goto 37, 66, 100, 0, 0),
  (66, .iload_n 0, 67, 0, 0, 0),
  (67, .bipush 45, 69, 0, 0, 0),
  (69, .if_icmp .ne 8, 72, 77, 0, 0),
  (72, .bipush 17, 74, 0, 0, 0),
  (74, .goto 26, 77, 100, 0, 0),
  (77, .iload_n 0, 78, 0, 0, 0),
  (78, .bipush 42, 80, 0, 0, 0),
  (80, .if_icmp .ne 8, 83, 88, 0, 0),
  (83, .bipush 18, 85, 0, 0, 0),
  (85, .goto 15, 88, 100, 0, 0),
  (88, .iload_n 0, 89, 0, 0, 0),
  (89, .bipush 47, 91, 0, 0, 0),
  (91, .if_icmp .ne 8, 94, 99, 0, 0),
  (94, .bipush 19, 96, 0, 0, 0),
  (96, .goto 4, 99, 100, 0, 0),
  (99, .iconst (-1), 100, 0, 0, 0),
  (100, .ireturn, 101, 0, 0, 0)]
def YM_joint : zY := (⟨"DiscLinesModel", "joint", "(I)I"⟩, 8, prog_11_method_25_code, 1, (some .int), rM_joint)
theorem oM_joint : zok YM_joint := (by decide +kernel : YM_joint.rows.all (zchk YM_joint) = true)
theorem ckM_joint : zCkS YM_joint 1 := ⟨⟨zt 998 (by decide +kernel) rfl, zt 79 (by decide +kernel) rfl, by decide +kernel⟩, zt 997 (by decide +kernel) rfl⟩
def rM_goBehind : List zRow := [(0, .iload_n 1, 1, 0, 0, 0),
  (1, .bipush 41, 3, 0, 0, 0),
  (3, .if_icmp .ne 37, 6, 40, 0, 0),
  (6, .aload_n 0, 7, 0, 0, 0),
  (7, .getfield 134, 10, 8, 11, 0),
  (10, .ifCond .le 30, 13, 40, 0, 0),
  (13, .aload_n 0, 14, 0, 0, 0),
  (14, .iconst 1, 15, 0, 0, 0),
  (15, .invokevirtual 113, 18, 0, 0, 0),
  (18, .aload_n 0, 19, 0, 0, 0),
  (19, .dup, 20, 0, 0, 0),
  (20, .getfield 103, 23, 8, 10, 0),
  (23, .iconst 1, 24, 0, 0, 0),
  (24, .isub, 25, 0, 0, 0),
  (25, .putfield 103, 28, 8, 10, 0),
  (28, .aload_n 0, 29, 0, 0, 0),
  (29, .dup, 30, 0, 0, 0),
  (30, .getfield 134, 33, 8, 11, 0),
  (33, .iconst 1, 34, 0, 0, 0),
  (34, .isub, 35, 0, 0, 0),
  (35, .putfield 134, 38, 8, 11, 0),
  (38, .iconst 0, 39, 0, 0, 0),
  (39, .ireturn, 40, 0, 0, 0),
  (40, .iload_n 1, 41, 0, 0, 0),
  (41, .invokestatic 137, 44, 0, 0, 0),
  (44, .istore_n 3, 45, 0, 0, 0),
  (45, .iload_n 3, 46, 0, 0, 0),
  (46, .iconst (-1), 47, 0, 0, 0),
  (47, .if_icmp .eq 15, 50, 62, 0, 0),
  (50, .iload_n 3, 51, 0, 0, 0),
  (51, .invokestatic 106, 54, 0, 0, 0),
  (54, .iconst 3, 55, 0, 0, 0),
  (55, .if_icmp .ne 7, 58, 62, 0, 0),
  (58, .iconst 1, 59, 0, 0, 0),
  (59, .goto 4, 62, 63, 0, 0),
  (62, .iconst 0, 63, 0, 0, 0),
  (63, .istore 4, 65, 0, 0, 0),
  (65, .iload_n 3, 66, 0, 0, 0),
  (66, .iconst (-1), 67, 0, 0, 0),
  (67, .if_icmp .eq 20, 70, 87, 0, 0),
  (70, .iload 4, 72, 0, 0, 0),
  (72, .ifCond .eq 22, 75, 94, 0, 0),
  (75, .aload_n 0, 76, 0, 0, 0),
  (76, .getfield 33, 79, 8, 12, 0),
  (79, .aload_n 0, 80, 0, 0, 0),
  (80, .getfield 134, 83, 8, 11, 0),
  (83, .baload, 84, 0, 0, 0),
  (84, .ifCond .eq 10, 87, 94, 0, 0),
  (87, .bipush 10, 89, 0, 0, 0),
  (89, .iload_n 2, 90, 0, 0, 0),
  (90, .imul, 91, 0, 0, 0),
  (91, .iconst 1, 92, 0, 0, 0),
  (92, .iadd, 93, 0, 0, 0),
  (93, .ireturn, 94, 0, 0, 0),
  (94, .aload_n 0, 95, 0, 0, 0),
  (95, .getfield 33, 98, 8, 12, 0),
  (98, .aload_n 0, 99, 0, 0, 0),
  (99, .getfield 134, 102, 8, 11, 0),
  (102, .iload 4, 104, 0, 0, 0),
  (104, .ifCond .ne 23, 107, 127, 0, 0),
  (107, .aload_n 0, 108, 0, 0, 0),
  (108, .getfield 33, 111, 8, 12, 0),
  (111, .aload_n 0, 112, 0, 0, 0),
  (112, .getfield 134, 115, 8, 11, 0),
  (115, .baload, 116, 0, 0, 0),
  (116, .ifCond .eq 15, 119, 131, 0, 0),
  (119, .iload_n 3, 120, 0, 0, 0),
  (120, .invokestatic 106, 123, 0, 0, 0),
  (123, .iconst 3, 124, 0, 0, 0),
  (124, .if_icmp .le 7, 127, 131, 0, 0),
  (127, .iconst 1, 128, 0, 0, 0),
  (128, .goto 4, 131, 132, 0, 0),
  (131, .iconst 0, 132, 0, 0, 0),
  (132, .bastore, 133, 0, 0, 0),
  (133, .aload_n 0, 134, 0, 0, 0),
  (134, .iload_n 3, 135, 0, 0, 0),
  (135, .invokevirtual 140, 138, 0, 0, 0),
  (138, .iconst 0, 139, 0, 0, 0),
  (139, .ireturn, 140, 0, 0, 0)]
def YM_goBehind : zY := (⟨"DiscLinesModel", "goBehind", "(II)I"⟩, 8, prog_11_method_26_code, 5, (some .int), rM_goBehind)
theorem oM_goBehind : zok YM_goBehind := (by decide +kernel : YM_goBehind.rows.all (zchk YM_goBehind) = true)
theorem ckM_goBehind : zCkV YM_goBehind 2 8 := ⟨⟨zt 984 (by decide +kernel) rfl, zt 79 (by decide +kernel) rfl, by decide +kernel⟩, zt 983 (by decide +kernel) rfl, zt 37 (by decide +kernel) rfl, by decide⟩
def rM_goSign : List zRow := [(0, .aload_n 0, 1, 0, 0, 0),
  (1, .getfield 125, 4, 8, 14, 0),
  (4, .ifCond .le 81, 7, 85, 0, 0),
  (7, .iload_n 1, 8, 0, 0, 0),
  (8, .i2l, 9, 0, 0, 0),
  (9, .ldc2_w 121, 12, 0, 0, 48),
  (12, .ldc2_w 123, 15, 0, 0, 57),
  (15, .invokestatic 51, 18, 0, 0, 0),
  (18, .ifCond .eq 67, 21, 85, 0, 0),
  (21, .aload_n 0, 22, 0, 0, 0),
  (22, .getfield 125, 25, 8, 14, 0),
  (25, .bipush 6, 27, 0, 0, 0),
  (27, .if_icmp .ne 13, 30, 40, 0, 0),
  (30, .bipush 10, 32, 0, 0, 0),
  (32, .aload_n 0, 33, 0, 0, 0),
  (33, .getfield 128, 36, 8, 15, 0),
  (36, .imul, 37, 0, 0, 0),
  (37, .iconst 2, 38, 0, 0, 0),
  (38, .iadd, 39, 0, 0, 0),
  (39, .ireturn, 40, 0, 0, 0),
  (40, .aload_n 0, 41, 0, 0, 0),
  (41, .getfield 26, 44, 8, 7, 0),
  (44, .aload_n 0, 45, 0, 0, 0),
  (45, .getfield 99, 48, 8, 8, 0),
  (48, .iconst 1, 49, 0, 0, 0),
  (49, .isub, 50, 0, 0, 0),
  (50, .ldc2_w 143, 53, 0, 0, 10),
  (53, .aload_n 0, 54, 0, 0, 0),
  (54, .getfield 26, 57, 8, 7, 0),
  (57, .aload_n 0, 58, 0, 0, 0),
  (58, .getfield 99, 61, 8, 8, 0),
  (61, .iconst 1, 62, 0, 0, 0),
  (62, .isub, 63, 0, 0, 0),
  (63, .laload, 64, 0, 0, 0),
  (64, .lmul, 65, 0, 0, 0),
  (65, .iload_n 1, 66, 0, 0, 0),
  (66, .i2l, 67, 0, 0, 0),
  (67, .ladd, 68, 0, 0, 0),
  (68, .ldc2_w 121, 71, 0, 0, 48),
  (71, .lsub, 72, 0, 0, 0),
  (72, .lastore, 73, 0, 0, 0),
  (73, .aload_n 0, 74, 0, 0, 0),
  (74, .dup, 75, 0, 0, 0),
  (75, .getfield 125, 78, 8, 14, 0),
  (78, .iconst 1, 79, 0, 0, 0),
  (79, .iadd, 80, 0, 0, 0),
  (80, .putfield 125, 83, 8, 14, 0),
  (83, .iconst 0, 84, 0, 0, 0),
  (84, .ireturn, 85, 0, 0, 0),
  (85, .aload_n 0, 86, 0, 0, 0),
  (86, .iconst 0, 87, 0, 0, 0),
  (87, .putfield 125, 90, 8, 14, 0),
  (90, .iload_n 1, 91, 0, 0, 0),
  (91, .bipush 32, 93, 0, 0, 0),
  (93, .if_icmp .ne 5, 96, 98, 0, 0),
  (96, .iconst 0, 97, 0, 0, 0),
  (97, .ireturn, 98, 0, 0, 0),
  (98, .aload_n 0, 99, 0, 0, 0),
  (99, .getfield 117, 102, 8, 13, 0),
  (102, .ifCond .eq 12, 105, 114, 0, 0),
  (105, .aload_n 0, 106, 0, 0, 0),
  (106, .iload_n 1, 107, 0, 0, 0),
  (107, .iload_n 2, 108, 0, 0, 0),
  (108, .invokevirtual 145, 111, 0, 0, 0),
  (111, .goto 9, 114, 120, 0, 0),
  (114, .aload_n 0, 115, 0, 0, 0),
  (115, .iload_n 1, 116, 0, 0, 0),
  (116, .iload_n 2, 117, 0, 0, 0),
  (117, .invokevirtual 148, 120, 0, 0, 0),
  (120, .ireturn, 121, 0, 0, 0)]
def YM_goSign : zY := (⟨"DiscLinesModel", "goSign", "(II)I"⟩, 8, prog_11_method_27_code, 3, (some .int), rM_goSign)
theorem oM_goSign : zok YM_goSign := (by decide +kernel : YM_goSign.rows.all (zchk YM_goSign) = true)
theorem ckM_goSign : zCkV YM_goSign 2 8 := ⟨⟨zt 977 (by decide +kernel) rfl, zt 79 (by decide +kernel) rfl, by decide +kernel⟩, zt 976 (by decide +kernel) rfl, zt 36 (by decide +kernel) rfl, by decide⟩
def rM_read : List zRow := [(0, .aload_n 0, 1, 0, 0, 0),
  (1, .iconst 0, 2, 0, 0, 0),
  (2, .putfield 99, 5, 8, 8, 0),
  (5, .aload_n 0, 6, 0, 0, 0),
  (6, .iconst 0, 7, 0, 0, 0),
  (7, .putfield 103, 10, 8, 10, 0),
  (10, .aload_n 0, 11, 0, 0, 0),
  (11, .iconst 0, 12, 0, 0, 0),
  (12, .putfield 134, 15, 8, 11, 0),
  (15, .aload_n 0, 16, 0, 0, 0),
  (16, .getfield 33, 19, 8, 12, 0),
  (19, .iconst 0, 20, 0, 0, 0),
  (20, .iconst 0, 21, 0, 0, 0),
  (21, .bastore, 22, 0, 0, 0),
  (22, .aload_n 0, 23, 0, 0, 0),
  (23, .iconst 0, 24, 0, 0, 0),
  (24, .putfield 117, 27, 8, 13, 0),
  (27, .aload_n 0, 28, 0, 0, 0),
  (28, .iconst 0, 29, 0, 0, 0),
  (29, .putfield 125, 32, 8, 14, 0),
  (32, .aload_n 0, 33, 0, 0, 0),
  (33, .getfield 7, 36, 8, 0, 0),
  (36, .sipush 368, 39, 0, 0, 0),
  (39, .iload_n 1, 40, 0, 0, 0),
  (40, .iadd, 41, 0, 0, 0),
  (41, .iaload, 42, 0, 0, 0),
  (42, .istore_n 2, 43, 0, 0, 0),
  (43, .iconst 0, 44, 0, 0, 0),
  (44, .istore_n 3, 45, 0, 0, 0),
  (45, .iload_n 3, 46, 0, 0, 0),
  (46, .iload_n 2, 47, 0, 0, 0),
  (47, .if_icmp .ge 39, 50, 86, 0, 0),
  (50, .aload_n 0, 51, 0, 0, 0),
  (51, .aload_n 0, 52, 0, 0, 0),
  (52, .getfield 7, 55, 8, 0, 0),
  (55, .sipush 372, 58, 0, 0, 0),
  (58, .bipush 40, 60, 0, 0, 0),
  (60, .iload_n 1, 61, 0, 0, 0),
  (61, .imul, 62, 0, 0, 0),
  (62, .iadd, 63, 0, 0, 0),
  (63, .iload_n 3, 64, 0, 0, 0),
  (64, .iadd, 65, 0, 0, 0),
  (65, .iaload, 66, 0, 0, 0),
  (66, .iload_n 3, 67, 0, 0, 0),
  (67, .invokevirtual 151, 70, 0, 0, 0),
  (70, .istore 4, 72, 0, 0, 0),
  (72, .iload 4, 74, 0, 0, 0),
  (74, .ifCond .eq 6, 77, 80, 0, 0),
  (77, .iload 4, 79, 0, 0, 0),
  (79, .ireturn, 80, 0, 0, 0),
  (80, .iinc 3 1, 83, 0, 0, 0),
  (83, .goto (-38), 86, 45, 0, 0),
  (86, .aload_n 0, 87, 0, 0, 0),
  (87, .getfield 117, 90, 8, 13, 0),
  (90, .ifCond .eq 10, 93, 100, 0, 0),
  (93, .aload_n 0, 94, 0, 0, 0),
  (94, .getfield 134, 97, 8, 11, 0),
  (97, .ifCond .le 10, 100, 107, 0, 0),
  (100, .bipush 10, 102, 0, 0, 0),
  (102, .iload_n 2, 103, 0, 0, 0),
  (103, .imul, 104, 0, 0, 0),
  (104, .iconst 1, 105, 0, 0, 0),
  (105, .iadd, 106, 0, 0, 0),
  (106, .ireturn, 107, 0, 0, 0),
  (107, .aload_n 0, 108, 0, 0, 0),
  (108, .iconst 1, 109, 0, 0, 0),
  (109, .invokevirtual 113, 112, 0, 0, 0),
  (112, .iconst (-1), 113, 0, 0, 0),
  (113, .ireturn, 114, 0, 0, 0)]
def YM_read : zY := (⟨"DiscLinesModel", "read", "(I)I"⟩, 8, prog_11_method_28_code, 5, (some .int), rM_read)
theorem oM_read : zok YM_read := (by decide +kernel : YM_read.rows.all (zchk YM_read) = true)
theorem ckM_read : zCkV YM_read 1 8 := ⟨⟨zt 973 (by decide +kernel) rfl, zt 79 (by decide +kernel) rfl, by decide +kernel⟩, zt 972 (by decide +kernel) rfl, zt 35 (by decide +kernel) rfl, by decide⟩
def rM_fault : List zRow := [(0, .iload_n 1, 1, 0, 0, 0),
  (1, .invokestatic 57, 4, 0, 0, 0),
  (4, .ifCond .eq 11, 7, 15, 0, 0),
  (7, .aload_n 0, 8, 0, 0, 0),
  (8, .iload_n 1, 9, 0, 0, 0),
  (9, .invokevirtual 154, 12, 0, 0, 0),
  (12, .goto 5, 15, 17, 0, 0),
  (15, .bipush (-2), 17, 0, 0, 0),
  (17, .ireturn, 18, 0, 0, 0)]
def YM_fault : zY := (⟨"DiscLinesModel", "fault", "(I)I"⟩, 8, prog_11_method_29_code, 2, (some .int), rM_fault)
theorem oM_fault : zok YM_fault := (by decide +kernel : YM_fault.rows.all (zchk YM_fault) = true)
theorem ckM_fault : zCkV YM_fault 1 8 := ⟨⟨zt 969 (by decide +kernel) rfl, zt 79 (by decide +kernel) rfl, by decide +kernel⟩, zt 967 (by decide +kernel) rfl, zt 968 (by decide +kernel) rfl, by decide⟩
def rM_worked : List zRow := [(0, .iload_n 0, 1, 0, 0, 0),
  (1, .tableswitch 131 11 18 #[47, 65, 83, 95, 107, 119, 123, 127], 48, 0, 0, 0),
  (48, .lload_n 1, 49, 0, 0, 0),
  (49, .lconst 0, 50, 0, 0, 0),
  (50, .lcmp, 51, 0, 0, 0),
  (51, .ifCond .ne 9, 54, 60, 0, 0),
  (54, .lload_n 3, 55, 0, 0, 0),
  (55, .lconst 0, 56, 0, 0, 0),
  (56, .lcmp, 57, 0, 0, 0),
  (57, .ifCond .eq 7, 60, 64, 0, 0),
  (60, .lconst 1, 61, 0, 0, 0),
  (61, .goto 4, 64, 65, 0, 0),
  (64, .lconst 0, 65, 0, 0, 0),
  (65, .lreturn, 66, 0, 0, 0),
  (66, .lload_n 1, 67, 0, 0, 0),
  (67, .lconst 0, 68, 0, 0, 0),
  (68, .lcmp, 69, 0, 0, 0),
  (69, .ifCond .eq 13, 72, 82, 0, 0),
  (72, .lload_n 3, 73, 0, 0, 0),
  (73, .lconst 0, 74, 0, 0, 0),
  (74, .lcmp, 75, 0, 0, 0),
  (75, .ifCond .eq 7, 78, 82, 0, 0),
  (78, .lconst 1, 79, 0, 0, 0),
  (79, .goto 4, 82, 83, 0, 0),
  (82, .lconst 0, 83, 0, 0, 0),
  (83, .lreturn, 84, 0, 0, 0),
  (84, .lload_n 1, 85, 0, 0, 0),
  (85, .lload_n 3, 86, 0, 0, 0),
  (86, .lcmp, 87, 0, 0, 0),
  (87, .ifCond .ge 7, 90, 94, 0, 0),
  (90, .lconst 1, 91, 0, 0, 0),
  (91, .goto 4, 94, 95, 0, 0),
  (94, .lconst 0, 95, 0, 0, 0),
  (95, .lreturn, 96, 0, 0, 0),
  (96, .lload_n 1, 97, 0, 0, 0),
  (97, .lload_n 3, 98, 0, 0, 0),
  (98, .lcmp, 99, 0, 0, 0),
  (99, .ifCond .le 7, 102, 106, 0, 0),
  (102, .lconst 1, 103, 0, 0, 0),
  (103, .goto 4, 106, 107, 0, 0),
  (106, .lconst 0, 107, 0, 0, 0),
  (107, .lreturn, 108, 0, 0, 0),
  (108, .lload_n 1, 109, 0, 0, 0),
  (109, .lload_n 3, 110, 0, 0, 0),
  (110, .lcmp, 111, 0, 0, 0),
  (111, .ifCond .ne 7, 114, 118, 0, 0),
  (114, .lconst 1, 115, 0, 0, 0),
  (115, .goto 4, 118, 119, 0, 0),
  (118, .lconst 0, 119, 0, 0, 0),
  (119, .lreturn, 120, 0, 0, 0),
  (120, .lload_n 1, 121, 0, 0, 0),
  (121, .lload_n 3, 122, 0, 0, 0),
  (122, .ladd, 123, 0, 0, 0),
  (123, .lreturn, 124, 0, 0, 0),
  (124, .lload_n 1, 125, 0, 0, 0),
  (125, .lload_n 3, 126, 0, 0, 0),
  (126, .lsub, 127, 0, 0, 0),
  (127, .lreturn, 128, 0, 0, 0),
  (128, .lload_n 1, 129, 0, 0, 0),
  (129, .lload_n 3, 130, 0, 0, 0),
  (130, .lmul, 131, 0, 0, 0),
  (131, .lreturn, 132, 0, 0, 0),
  (132, .lload_n 3, 133, 0, 0, 0),
  (133, .lconst 0, 134, 0, 0, 0),
  (134, .lcmp, 135, 0, 0, 0),
  (135, .ifCond .ne 7, 138, 142, 0, 0),
  (138, .lconst 0, 139, 0, 0, 0),
  (139, .goto 6, 142, 145, 0, 0),
  (142, .lload_n 1, 143, 0, 0, 0),
  (143, .lload_n 3, 144, 0, 0, 0),
  (144, .ldiv, 145, 0, 0, 0),
  (145, .lreturn, 146, 0, 0, 0)]
def YM_worked : zY := (⟨"DiscLinesModel", "worked", "(IJJ)J"⟩, 8, prog_11_method_30_code, 5, (some .long), rM_worked)
theorem oM_worked : zok YM_worked := (by decide +kernel : YM_worked.rows.all (zchk YM_worked) = true)
theorem ckM_worked : zCkS YM_worked 3 := ⟨⟨zt 1035 (by decide +kernel) rfl, zt 79 (by decide +kernel) rfl, by decide +kernel⟩, zt 1034 (by decide +kernel) rfl⟩
def rM_tells : List zRow := [(0, .iconst 0, 1, 0, 0, 0),
  (1, .istore_n 1, 2, 0, 0, 0),
  (2, .iconst 0, 3, 0, 0, 0),
  (3, .istore_n 2, 4, 0, 0, 0),
  (4, .iload_n 2, 5, 0, 0, 0),
  (5, .aload_n 0, 6, 0, 0, 0),
  (6, .getfield 99, 9, 8, 8, 0),
  (9, .if_icmp .ge 137, 12, 146, 0, 0),
  (12, .aload_n 0, 13, 0, 0, 0),
  (13, .getfield 23, 16, 8, 6, 0),
  (16, .iload_n 2, 17, 0, 0, 0),
  (17, .iaload, 18, 0, 0, 0),
  (18, .istore_n 3, 19, 0, 0, 0),
  (19, .iload_n 3, 20, 0, 0, 0),
  (20, .bipush 7, 22, 0, 0, 0),
  (22, .if_icmp .ge 36, 25, 58, 0, 0),
  (25, .aload_n 0, 26, 0, 0, 0),
  (26, .getfield 39, 29, 8, 17, 0),
  (29, .iload_n 1, 30, 0, 0, 0),
  (30, .iload_n 3, 31, 0, 0, 0),
  (31, .bipush 6, 33, 0, 0, 0),
  (33, .if_icmp .ge 12, 36, 45, 0, 0),
  (36, .aload_n 0, 37, 0, 0, 0),
  (37, .getfield 36, 40, 8, 16, 0),
  (40, .iload_n 3, 41, 0, 0, 0),
  (41, .laload, 42, 0, 0, 0),
  (42, .goto 9, 45, 51, 0, 0),
  (45, .aload_n 0, 46, 0, 0, 0),
  (46, .getfield 26, 49, 8, 7, 0),
  (49, .iload_n 2, 50, 0, 0, 0),
  (50, .laload, 51, 0, 0, 0),
  (51, .lastore, 52, 0, 0, 0),
  (52, .iinc 1 1, 55, 0, 0, 0),
  (55, .goto 85, 58, 140, 0, 0),
  (58, .iload_n 3, 59, 0, 0, 0),
  (59, .bipush 20, 61, 0, 0, 0),
  (61, .if_icmp .lt 50, 64, 111, 0, 0),
  (64, .aload_n 0, 65, 0, 0, 0),
  (65, .getfield 39, 68, 8, 17, 0),
  (68, .iload_n 1, 69, 0, 0, 0),
  (69, .iconst 1, 70, 0, 0, 0),
  (70, .isub, 71, 0, 0, 0),
  (71, .iload_n 3, 72, 0, 0, 0),
  (72, .bipush 21, 74, 0, 0, 0),
  (74, .if_icmp .ne 15, 77, 89, 0, 0),
  (77, .aload_n 0, 78, 0, 0, 0),
  (78, .getfield 39, 81, 8, 17, 0),
  (81, .iload_n 1, 82, 0, 0, 0),
  (82, .iconst 1, 83, 0, 0, 0),
  (83, .isub, 84, 0, 0, 0),
  (84, .laload, 85, 0, 0, 0),
  (85, .lneg, 86, 0, 0, 0),
  (86, .goto 21, 89, 107, 0, 0),
  (89, .aload_n 0, 90, 0, 0, 0),
  (90, .getfield 39, 93, 8, 17, 0),
  (93, .iload_n 1, 94, 0, 0, 0),
  (94, .iconst 1, 95, 0, 0, 0),
  (95, .isub, 96, 0, 0, 0),
  (96, .laload, 97, 0, 0, 0),
  (97, .lconst 0, 98, 0, 0, 0),
  (98, .lcmp, 99, 0, 0, 0),
  (99, .ifCond .ne 7, 102, 106, 0, 0),
  (102, .lconst 1, 103, 0, 0, 0),
  (103, .goto 4, 106, 107, 0, 0),
  (106, .lconst 0, 107, 0, 0, 0),
  (107, .lastore, 108, 0, 0, 0),
  (108, .goto 32, 111, 140, 0, 0),
  (111, .iinc 1 (-1), 114, 0, 0, 0),
  (114, .aload_n 0, 115, 0, 0, 0),
  (115, .getfield 39, 118, 8, 17, 0),
  (118, .iload_n 1, 119, 0, 0, 0),
  (119, .iconst 1, 120, 0, 0, 0),
  (120, .isub, 121, 0, 0, 0),
  (121, .iload_n 3, 122, 0, 0, 0),
  (122, .aload_n 0, 123, 0, 0, 0),
  (123, .getfield 39, 126, 8, 17, 0),
  (126, .iload_n 1, 127, 0, 0, 0),
  (127, .iconst 1, 128, 0, 0, 0),
  (128, .isub, 129, 0, 0, 0),
  (129, .laload, 130, 0, 0, 0),
  (130, .aload_n 0, 131, 0, 0, 0),
  (131, .getfield 39, 134, 8, 17, 0),
  (134, .iload_n 1, 135, 0, 0, 0),
  (135, .laload, 136, 0, 0, 0),
  (136, .invokestatic 157, 139, 0, 0, 0),
  (139, .lastore, 140, 0, 0, 0),
  (140, .iinc 2 1, 143, 0, 0, 0),
  (143, .goto (-139), 146, 4, 0, 0),
  (146, .aload_n 0, 147, 0, 0, 0),
  (147, .getfield 39, 150, 8, 17, 0),
  (150, .iconst 0, 151, 0, 0, 0),
  (151, .laload, 152, 0, 0, 0),
  (152, .lconst 0, 153, 0, 0, 0),
  (153, .lcmp, 154, 0, 0, 0),
  (154, .ifCond .eq 7, 157, 161, 0, 0),
  (157, .iconst 1, 158, 0, 0, 0),
  (158, .goto 4, 161, 162, 0, 0),
  (161, .iconst 0, 162, 0, 0, 0),
  (162, .ireturn, 163, 0, 0, 0)]
def YM_tells : zY := (⟨"DiscLinesModel", "tells", "()Z"⟩, 8, prog_11_method_31_code, 4, (some .boolean), rM_tells)
theorem oM_tells : zok YM_tells := (by decide +kernel : YM_tells.rows.all (zchk YM_tells) = true)
theorem ckM_tells : zCkV YM_tells 0 8 := ⟨⟨zt 1032 (by decide +kernel) rfl, zt 79 (by decide +kernel) rfl, by decide +kernel⟩, zt 1031 (by decide +kernel) rfl, zt 44 (by decide +kernel) rfl, by decide⟩
def rM_apart : List zRow := [(0, .iload_n 0, 1, 0, 0, 0),
  (1, .iload_n 1, 2, 0, 0, 0),
  (2, .if_icmp .ge 9, 5, 11, 0, 0),
  (5, .iload_n 1, 6, 0, 0, 0),
  (6, .iload_n 0, 7, 0, 0, 0),
  (7, .isub, 8, 0, 0, 0),
  (8, .goto 6, 11, 14, 0, 0),
  (11, .iload_n 0, 12, 0, 0, 0),
  (12, .iload_n 1, 13, 0, 0, 0),
  (13, .isub, 14, 0, 0, 0),
  (14, .ireturn, 15, 0, 0, 0)]
def YM_apart : zY := (⟨"DiscLinesModel", "apart", "(II)I"⟩, 8, prog_11_method_32_code, 2, (some .int), rM_apart)
theorem oM_apart : zok YM_apart := (by decide +kernel : YM_apart.rows.all (zchk YM_apart) = true)
theorem ckM_apart : zCkS YM_apart 2 := ⟨⟨zt 1028 (by decide +kernel) rfl, zt 79 (by decide +kernel) rfl, by decide +kernel⟩, zt 1027 (by decide +kernel) rfl⟩
def rM_drawnOf : List zRow := [(0, .aload_n 0, 1, 0, 0, 0),
  (1, .iload_n 1, 2, 0, 0, 0),
  (2, .invokevirtual 154, 5, 0, 0, 0),
  (5, .iconst (-1), 6, 0, 0, 0),
  (6, .if_icmp .eq 5, 9, 11, 0, 0),
  (9, .iconst 0, 10, 0, 0, 0),
  (10, .ireturn, 11, 0, 0, 0),
  (11, .iconst 0, 12, 0, 0, 0),
  (12, .istore 5, 14, 0, 0, 0),
  (14, .iconst 0, 15, 0, 0, 0),
  (15, .istore 6, 17, 0, 0, 0),
  (17, .iconst 0, 18, 0, 0, 0),
  (18, .istore 7, 20, 0, 0, 0),
  (20, .iload 7, 22, 0, 0, 0),
  (22, .bipush 8, 24, 0, 0, 0),
  (24, .if_icmp .ge 224, 27, 248, 0, 0),
  (27, .iload 7, 29, 0, 0, 0),
  (29, .iconst 1, 30, 0, 0, 0),
  (30, .iadd, 31, 0, 0, 0),
  (31, .istore 8, 33, 0, 0, 0),
  (33, .iload 8, 35, 0, 0, 0),
  (35, .bipush 8, 37, 0, 0, 0),
  (37, .if_icmp .ge 205, 40, 242, 0, 0),
  (40, .aload_n 0, 41, 0, 0, 0),
  (41, .getfield 7, 44, 8, 0, 0),
  (44, .sipush 360, 47, 0, 0, 0),
  (47, .iload 7, 49, 0, 0, 0),
  (49, .iadd, 50, 0, 0, 0),
  (50, .iaload, 51, 0, 0, 0),
  (51, .istore 9, 53, 0, 0, 0),
  (53, .aload_n 0, 54, 0, 0, 0),
  (54, .getfield 7, 57, 8, 0, 0),
  (57, .sipush 360, 60, 0, 0, 0),
  (60, .iload 8, 62, 0, 0, 0),
  (62, .iadd, 63, 0, 0, 0),
  (63, .iaload, 64, 0, 0, 0),
  (64, .istore 10, 66, 0, 0, 0),
  (66, .iload 9, 68, 0, 0, 0),
  (68, .bipush 9, 70, 0, 0, 0),
  (70, .idiv, 71, 0, 0, 0),
  (71, .iload 10, 73, 0, 0, 0),
  (73, .bipush 9, 75, 0, 0, 0),
  (75, .idiv, 76, 0, 0, 0),
  (76, .invokestatic 161, 79, 0, 0, 0),
  (79, .istore 11, 81, 0, 0, 0),
  (81, .iload 9, 83, 0, 0, 0),
  (83, .bipush 9, 85, 0, 0, 0),
  (85, .irem, 86, 0, 0, 0),
  (86, .iload 10, 88, 0, 0, 0),
  (88, .bipush 9, 90, 0, 0, 0),
  (90, .irem, 91, 0, 0, 0),
  (91, .invokestatic 161, 94, 0, 0, 0),
  (94, .istore 12, 96, 0, 0, 0),
  (96, .aload_n 0, 97, 0, 0, 0),
  (97, .getfield 36, 100, 8, 16, 0),
  (100, .iconst 0, 101, 0, 0, 0),
  (101, .aload_n 0, 102, 0, 0, 0),
  (102, .iload_n 2, 103, 0, 0, 0),
  (103, .iload_n 3, 104, 0, 0, 0),
  (104, .iload 9, 106, 0, 0, 0),
  (106, .invokevirtual 90, 109, 0, 0, 0),
  (109, .i2l, 110, 0, 0, 0),
  (110, .lastore, 111, 0, 0, 0),
  (111, .aload_n 0, 112, 0, 0, 0),
  (112, .getfield 36, 115, 8, 16, 0),
  (115, .iconst 1, 116, 0, 0, 0),
  (116, .aload_n 0, 117, 0, 0, 0),
  (117, .iload_n 2, 118, 0, 0, 0),
  (118, .iload_n 3, 119, 0, 0, 0),
  (119, .iload 10, 121, 0, 0, 0),
  (121, .invokevirtual 90, 124, 0, 0, 0),
  (124, .i2l, 125, 0, 0, 0),
  (125, .lastore, 126, 0, 0, 0),
  (126, .aload_n 0, 127, 0, 0, 0),
  (127, .getfield 36, 130, 8, 16, 0),
  (130, .iconst 2, 131, 0, 0, 0),
  (131, .iload 11, 133, 0, 0, 0),
  (133, .iload 12, 135, 0, 0, 0),
  (135, .if_icmp .le 9, 138, 144, 0, 0),
  (138, .iload 11, 140, 0, 0, 0),
  (140, .i2l, 141, 0, 0, 0),
  (141, .goto 6, 144, 147, 0, 0),
  (144, .iload 12, 146, 0, 0, 0),
  (146, .i2l, 147, 0, 0, 0),
  (147, .lastore, 148, 0, 0, 0),
  (148, .aload_n 0, 149, 0, 0, 0),
  (149, .getfield 36, 152, 8, 16, 0),
  (152, .iconst 3, 153, 0, 0, 0),
  (153, .aload_n 0, 154, 0, 0, 0),
  (154, .iload_n 2, 155, 0, 0, 0),
  (155, .iload_n 3, 156, 0, 0, 0),
  (156, .bipush 9, 158, 0, 0, 0),
  (158, .iload 9, 160, 0, 0, 0),
  (160, .bipush 9, 162, 0, 0, 0),
  (162, .idiv, 163, 0, 0, 0),
  (163, .iload 10, 165, 0, 0, 0),
  (165, .bipush 9, 167, 0, 0, 0),
  (167, .idiv, 168, 0, 0, 0),
  (168, .iadd, 169, 0, 0, 0),
  (169, .iconst 2, 170, 0, 0, 0),
  (170, .idiv, 171, 0, 0, 0),
  (171, .imul, 172, 0, 0, 0),
  (172, .iload 9, 174, 0, 0, 0),
  (174, .bipush 9, 176, 0, 0, 0),
  (176, .irem, 177, 0, 0, 0),
  (177, .iload 10, 179, 0, 0, 0),
  (179, .bipush 9, 181, 0, 0, 0),
  (181, .irem, 182, 0, 0, 0),
  (182, .iadd, 183, 0, 0, 0),
  (183, .iconst 2, 184, 0, 0, 0),
  (184, .idiv, 185, 0, 0, 0),
  (185, .iadd, 186, 0, 0, 0),
  (186, .invokevirtual 90, 189, 0, 0, 0),
  (189, .i2l, 190, 0, 0, 0),
  (190, .lastore, 191, 0, 0, 0),
  (191, .aload_n 0, 192, 0, 0, 0),
  (192, .getfield 36, 195, 8, 16, 0),
  (195, .iconst 4, 196, 0, 0, 0),
  (196, .iload 4, 198, 0, 0, 0),
  (198, .iload 6, 200, 0, 0, 0),
  (200, .ishr, 201, 0, 0, 0),
  (201, .iconst 1, 202, 0, 0, 0),
  (202, .iand, 203, 0, 0, 0),
  (203, .i2l, 204, 0, 0, 0),
  (204, .lastore, 205, 0, 0, 0),
  (205, .aload_n 0, 206, 0, 0, 0),
  (206, .getfield 36, 209, 8, 16, 0),
  (209, .iconst 5, 210, 0, 0, 0),
  (210, .iload_n 2, 211, 0, 0, 0),
  (211, .i2l, 212, 0, 0, 0),
  (212, .lastore, 213, 0, 0, 0),
  (213, .iload 5, 215, 0, 0, 0),
  (215, .aload_n 0, 216, 0, 0, 0),
  (216, .invokevirtual 164, 219, 0, 0, 0),
  (219, .ifCond .eq 10, 222, 229, 0, 0),
  (222, .iconst 1, 223, 0, 0, 0),
  (223, .iload 6, 225, 0, 0, 0),
  (225, .ishl, 226, 0, 0, 0),
  (226, .goto 4, 229, 230, 0, 0),
  (229, .iconst 0, 230, 0, 0, 0),
  (230, .ior, 231, 0, 0, 0),
  (231, .istore 5, 233, 0, 0, 0),
  (233, .iinc 6 1, 236, 0, 0, 0),
  (236, .iinc 8 1, 239, 0, 0, 0),
  (239, .goto (-206), 242, 33, 0, 0),
  (242, .iinc 7 1, 245, 0, 0, 0),
  (245, .goto (-225), 248, 20, 0, 0),
  (248, .iload 5, 250, 0, 0, 0),
  (250, .ireturn, 251, 0, 0, 0)]
def YM_drawnOf : zY := (⟨"DiscLinesModel", "drawnOf", "(IIII)I"⟩, 8, prog_11_method_33_code, 13, (some .int), rM_drawnOf)
theorem oM_drawnOf : zok YM_drawnOf := (by decide +kernel : YM_drawnOf.rows.all (zchk YM_drawnOf) = true)
theorem ckM_drawnOf : zCkV YM_drawnOf 4 8 := ⟨⟨zt 1025 (by decide +kernel) rfl, zt 79 (by decide +kernel) rfl, by decide +kernel⟩, zt 1024 (by decide +kernel) rfl, zt 43 (by decide +kernel) rfl, by decide⟩
def rM_drawnOn : List zRow := [(0, .aload_n 0, 1, 0, 0, 0),
  (1, .iload_n 2, 2, 0, 0, 0),
  (2, .iload_n 3, 3, 0, 0, 0),
  (3, .invokevirtual 86, 6, 0, 0, 0),
  (6, .aload_n 0, 7, 0, 0, 0),
  (7, .iload_n 1, 8, 0, 0, 0),
  (8, .iload 4, 10, 0, 0, 0),
  (10, .iload 5, 12, 0, 0, 0),
  (12, .iload 6, 14, 0, 0, 0),
  (14, .invokevirtual 168, 17, 0, 0, 0),
  (17, .ireturn, 18, 0, 0, 0)]
def YM_drawnOn : zY := (⟨"DiscLinesModel", "drawnOn", "(IIIIII)I"⟩, 8, prog_11_method_34_code, 7, (some .int), rM_drawnOn)
theorem oM_drawnOn : zok YM_drawnOn := (by decide +kernel : YM_drawnOn.rows.all (zchk YM_drawnOn) = true)
theorem ckM_drawnOn : zCkV YM_drawnOn 6 8 := ⟨⟨zt 1021 (by decide +kernel) rfl, zt 79 (by decide +kernel) rfl, by decide +kernel⟩, zt 1020 (by decide +kernel) rfl, zt 42 (by decide +kernel) rfl, by decide⟩
def rM_isLines : List zRow := [(0, .iload_n 0, 1, 0, 0, 0),
  (1, .i2l, 2, 0, 0, 0),
  (2, .lconst 0, 3, 0, 0, 0),
  (3, .ldc2_w 172, 6, 0, 0, 268435455),
  (6, .invokestatic 51, 9, 0, 0, 0),
  (9, .ireturn, 10, 0, 0, 0)]
def YM_isLines : zY := (⟨"DiscLinesModel", "isLines", "(I)Z"⟩, 8, prog_11_method_35_code, 1, (some .boolean), rM_isLines)
theorem oM_isLines : zok YM_isLines := (by decide +kernel : YM_isLines.rows.all (zchk YM_isLines) = true)
theorem ckM_isLines : zCkS YM_isLines 1 := ⟨⟨zt 1016 (by decide +kernel) rfl, zt 79 (by decide +kernel) rfl, by decide +kernel⟩, zt 1015 (by decide +kernel) rfl⟩
def rM_drawn : List zRow := [(0, .iload_n 1, 1, 0, 0, 0),
  (1, .invokestatic 57, 4, 0, 0, 0),
  (4, .ifCond .eq 23, 7, 27, 0, 0),
  (7, .iload_n 2, 8, 0, 0, 0),
  (8, .iload_n 3, 9, 0, 0, 0),
  (9, .iload 4, 11, 0, 0, 0),
  (11, .iload 5, 13, 0, 0, 0),
  (13, .invokestatic 82, 16, 0, 0, 0),
  (16, .ifCond .eq 11, 19, 27, 0, 0),
  (19, .iload 6, 21, 0, 0, 0),
  (21, .invokestatic 174, 24, 0, 0, 0),
  (24, .ifCond .ne 6, 27, 30, 0, 0),
  (27, .bipush (-2), 29, 0, 0, 0),
  (29, .ireturn, 30, 0, 0, 0),
  (30, .aload_n 0, 31, 0, 0, 0),
  (31, .iload_n 1, 32, 0, 0, 0),
  (32, .iload_n 2, 33, 0, 0, 0),
  (33, .iload_n 3, 34, 0, 0, 0),
  (34, .iload 4, 36, 0, 0, 0),
  (36, .iload 5, 38, 0, 0, 0),
  (38, .iload 6, 40, 0, 0, 0),
  (40, .invokevirtual 177, 43, 0, 0, 0),
  (43, .ireturn, 44, 0, 0, 0)]
def YM_drawn : zY := (⟨"DiscLinesModel", "drawn", "(IIIIII)I"⟩, 8, prog_11_method_36_code, 7, (some .int), rM_drawn)
theorem oM_drawn : zok YM_drawn := (by decide +kernel : YM_drawn.rows.all (zchk YM_drawn) = true)
theorem ckM_drawn : zCkV YM_drawn 6 8 := ⟨⟨zt 1013 (by decide +kernel) rfl, zt 79 (by decide +kernel) rfl, by decide +kernel⟩, zt 1011 (by decide +kernel) rfl, zt 1012 (by decide +kernel) rfl, by decide⟩
def rM_drawnFar : List zRow := [(0, .iconst 0, 1, 0, 0, 0),
  (1, .istore 4, 3, 0, 0, 0),
  (3, .iload 4, 5, 0, 0, 0),
  (5, .bipush 81, 7, 0, 0, 0),
  (7, .if_icmp .ge 17, 10, 24, 0, 0),
  (10, .aload_n 0, 11, 0, 0, 0),
  (11, .getfield 20, 14, 8, 5, 0),
  (14, .iload 4, 16, 0, 0, 0),
  (16, .iconst 0, 17, 0, 0, 0),
  (17, .iastore, 18, 0, 0, 0),
  (18, .iinc 4 1, 21, 0, 0, 0),
  (21, .goto (-18), 24, 3, 0, 0),
  (24, .iconst 0, 25, 0, 0, 0),
  (25, .istore 4, 27, 0, 0, 0),
  (27, .iload 4, 29, 0, 0, 0),
  (29, .bipush 8, 31, 0, 0, 0),
  (31, .if_icmp .ge 46, 34, 77, 0, 0),
  (34, .aload_n 0, 35, 0, 0, 0),
  (35, .getfield 20, 38, 8, 5, 0),
  (38, .aload_n 0, 39, 0, 0, 0),
  (39, .getfield 7, 42, 8, 0, 0),
  (42, .sipush 360, 45, 0, 0, 0),
  (45, .iload 4, 47, 0, 0, 0),
  (47, .iadd, 48, 0, 0, 0),
  (48, .iaload, 49, 0, 0, 0),
  (49, .aload_n 0, 50, 0, 0, 0),
  (50, .getfield 7, 53, 8, 0, 0),
  (53, .bipush 81, 55, 0, 0, 0),
  (55, .iload_n 2, 56, 0, 0, 0),
  (56, .imul, 57, 0, 0, 0),
  (57, .aload_n 0, 58, 0, 0, 0),
  (58, .getfield 7, 61, 8, 0, 0),
  (61, .sipush 360, 64, 0, 0, 0),
  (64, .iload 4, 66, 0, 0, 0),
  (66, .iadd, 67, 0, 0, 0),
  (67, .iaload, 68, 0, 0, 0),
  (68, .iadd, 69, 0, 0, 0),
  (69, .iaload, 70, 0, 0, 0),
  (70, .iastore, 71, 0, 0, 0),
  (71, .iinc 4 1, 74, 0, 0, 0),
  (74, .goto (-47), 77, 27, 0, 0),
  (77, .aload_n 0, 78, 0, 0, 0),
  (78, .iload_n 1, 79, 0, 0, 0),
  (79, .iload_n 3, 80, 0, 0, 0),
  (80, .iconst 0, 81, 0, 0, 0),
  (81, .iconst 0, 82, 0, 0, 0),
  (82, .invokevirtual 168, 85, 0, 0, 0),
  (85, .ireturn, 86, 0, 0, 0)]
def YM_drawnFar : zY := (⟨"DiscLinesModel", "drawnFar", "(III)I"⟩, 8, prog_11_method_37_code, 5, (some .int), rM_drawnFar)
theorem oM_drawnFar : zok YM_drawnFar := (by decide +kernel : YM_drawnFar.rows.all (zchk YM_drawnFar) = true)
theorem ckM_drawnFar : zCkV YM_drawnFar 3 8 := ⟨⟨zt 1043 (by decide +kernel) rfl, zt 79 (by decide +kernel) rfl, by decide +kernel⟩, zt 1042 (by decide +kernel) rfl, zt 45 (by decide +kernel) rfl, by decide⟩
def rM_far : List zRow := [(0, .iload_n 1, 1, 0, 0, 0),
  (1, .invokestatic 57, 4, 0, 0, 0),
  (4, .ifCond .eq 27, 7, 31, 0, 0),
  (7, .iload_n 2, 8, 0, 0, 0),
  (8, .invokestatic 57, 11, 0, 0, 0),
  (11, .ifCond .eq 20, 14, 31, 0, 0),
  (14, .iload_n 3, 15, 0, 0, 0),
  (15, .invokestatic 57, 18, 0, 0, 0),
  (18, .ifCond .eq 13, 21, 31, 0, 0),
  (21, .aload_n 0, 22, 0, 0, 0),
  (22, .iload_n 1, 23, 0, 0, 0),
  (23, .iload_n 2, 24, 0, 0, 0),
  (24, .iload_n 3, 25, 0, 0, 0),
  (25, .invokevirtual 181, 28, 0, 0, 0),
  (28, .goto 5, 31, 33, 0, 0),
  (31, .bipush (-2), 33, 0, 0, 0),
  (33, .ireturn, 34, 0, 0, 0)]
def YM_far : zY := (⟨"DiscLinesModel", "far", "(III)I"⟩, 8, prog_11_method_38_code, 4, (some .int), rM_far)
theorem oM_far : zok YM_far := (by decide +kernel : YM_far.rows.all (zchk YM_far) = true)
theorem ckM_far : zCkV YM_far 3 8 := ⟨⟨zt 1039 (by decide +kernel) rfl, zt 79 (by decide +kernel) rfl, by decide +kernel⟩, zt 1037 (by decide +kernel) rfl, zt 1038 (by decide +kernel) rfl, by decide⟩
def rM_fairest : List zRow := [(0, .iload_n 1, 1, 0, 0, 0),
  (1, .invokestatic 57, 4, 0, 0, 0),
  (4, .ifCond .eq 28, 7, 32, 0, 0),
  (7, .iload_n 2, 8, 0, 0, 0),
  (8, .invokestatic 57, 11, 0, 0, 0),
  (11, .ifCond .eq 21, 14, 32, 0, 0),
  (14, .iload_n 3, 15, 0, 0, 0),
  (15, .invokestatic 57, 18, 0, 0, 0),
  (18, .ifCond .eq 14, 21, 32, 0, 0),
  (21, .iload 4, 23, 0, 0, 0),
  (23, .i2l, 24, 0, 0, 0),
  (24, .lconst 0, 25, 0, 0, 0),
  (25, .lconst 1, 26, 0, 0, 0),
  (26, .invokestatic 51, 29, 0, 0, 0),
  (29, .ifCond .ne 6, 32, 35, 0, 0),
  (32, .bipush (-2), 34, 0, 0, 0),
  (34, .ireturn, 35, 0, 0, 0),
  (35, .iconst 0, 36, 0, 0, 0),
  (36, .istore 5, 38, 0, 0, 0),
  (38, .iconst (-1), 39, 0, 0, 0),
  (39, .istore 6, 41, 0, 0, 0),
  (41, .iconst 0, 42, 0, 0, 0),
  (42, .istore 7, 44, 0, 0, 0),
  (44, .iload 7, 46, 0, 0, 0),
  (46, .iconst 4, 47, 0, 0, 0),
  (47, .if_icmp .ge 81, 50, 128, 0, 0),
  (50, .aload_n 0, 51, 0, 0, 0),
  (51, .iload_n 1, 52, 0, 0, 0),
  (52, .iload_n 3, 53, 0, 0, 0),
  (53, .iload 7, 55, 0, 0, 0),
  (55, .invokevirtual 181, 58, 0, 0, 0),
  (58, .invokestatic 184, 61, 0, 0, 0),
  (61, .aload_n 0, 62, 0, 0, 0),
  (62, .iload_n 2, 63, 0, 0, 0),
  (63, .iload_n 3, 64, 0, 0, 0),
  (64, .iload 7, 66, 0, 0, 0),
  (66, .invokevirtual 181, 69, 0, 0, 0),
  (69, .invokestatic 184, 72, 0, 0, 0),
  (72, .isub, 73, 0, 0, 0),
  (73, .istore 8, 75, 0, 0, 0),
  (75, .iload 8, 77, 0, 0, 0),
  (77, .ifCond .ge 9, 80, 86, 0, 0),
  (80, .iload 8, 82, 0, 0, 0),
  (82, .ineg, 83, 0, 0, 0),
  (83, .goto 5, 86, 88, 0, 0),
  (86, .iload 8, 88, 0, 0, 0),
  (88, .istore 8, 90, 0, 0, 0),
  (90, .iload 8, 92, 0, 0, 0),
  (92, .iload 6, 94, 0, 0, 0),
  (94, .if_icmp .le 8, 97, 102, 0, 0),
  (97, .iload 7, 99, 0, 0, 0),
  (99, .goto 5, 102, 104, 0, 0),
  (102, .iload 5, 104, 0, 0, 0),
  (104, .istore 5, 106, 0, 0, 0),
  (106, .iload 8, 108, 0, 0, 0),
  (108, .iload 6, 110, 0, 0, 0),
  (110, .if_icmp .le 8, 113, 118, 0, 0),
  (113, .iload 8, 115, 0, 0, 0),
  (115, .goto 5, 118, 120, 0, 0),
  (118, .iload 6, 120, 0, 0, 0),
  (120, .istore 6, 122, 0, 0, 0),
  (122, .iinc 7 1, 125, 0, 0, 0),
  (125, .goto (-81), 128, 44, 0, 0),
  (128, .iload 4, 130, 0, 0, 0),
  (130, .ifCond .ne 8, 133, 138, 0, 0),
  (133, .iload 5, 135, 0, 0, 0),
  (135, .goto 5, 138, 140, 0, 0),
  (138, .iload 6, 140, 0, 0, 0),
  (140, .ireturn, 141, 0, 0, 0)]
def YM_fairest : zY := (⟨"DiscLinesModel", "fairest", "(IIII)I"⟩, 8, prog_11_method_39_code, 9, (some .int), rM_fairest)
theorem oM_fairest : zok YM_fairest := (by decide +kernel : YM_fairest.rows.all (zchk YM_fairest) = true)
theorem ckM_fairest : zCkV YM_fairest 4 8 := ⟨⟨zt 1047 (by decide +kernel) rfl, zt 79 (by decide +kernel) rfl, by decide +kernel⟩, zt 1045 (by decide +kernel) rfl, zt 1046 (by decide +kernel) rfl, by decide⟩
def rM_observer : List zRow := [(0, .iload_n 1, 1, 0, 0, 0),
  (1, .invokestatic 57, 4, 0, 0, 0),
  (4, .ifCond .eq 15, 7, 19, 0, 0),
  (7, .iload_n 2, 8, 0, 0, 0),
  (8, .i2l, 9, 0, 0, 0),
  (9, .lconst 0, 10, 0, 0, 0),
  (10, .ldc2_w 187, 13, 0, 0, 9),
  (13, .invokestatic 51, 16, 0, 0, 0),
  (16, .ifCond .ne 6, 19, 22, 0, 0),
  (19, .bipush (-2), 21, 0, 0, 0),
  (21, .ireturn, 22, 0, 0, 0),
  (22, .aload_n 0, 23, 0, 0, 0),
  (23, .getfield 7, 26, 8, 0, 0),
  (26, .sipush 532, 29, 0, 0, 0),
  (29, .iaload, 30, 0, 0, 0),
  (30, .istore_n 3, 31, 0, 0, 0),
  (31, .iload_n 3, 32, 0, 0, 0),
  (32, .bipush 8, 34, 0, 0, 0),
  (34, .if_icmp .ne 6, 37, 40, 0, 0),
  (37, .bipush (-4), 39, 0, 0, 0),
  (39, .ireturn, 40, 0, 0, 0),
  (40, .aload_n 0, 41, 0, 0, 0),
  (41, .getfield 7, 44, 8, 0, 0),
  (44, .sipush 533, 47, 0, 0, 0),
  (47, .iconst 2, 48, 0, 0, 0),
  (48, .iload_n 3, 49, 0, 0, 0),
  (49, .imul, 50, 0, 0, 0),
  (50, .iadd, 51, 0, 0, 0),
  (51, .iload_n 1, 52, 0, 0, 0),
  (52, .iastore, 53, 0, 0, 0),
  (53, .aload_n 0, 54, 0, 0, 0),
  (54, .getfield 7, 57, 8, 0, 0),
  (57, .sipush 534, 60, 0, 0, 0),
  (60, .iconst 2, 61, 0, 0, 0),
  (61, .iload_n 3, 62, 0, 0, 0),
  (62, .imul, 63, 0, 0, 0),
  (63, .iadd, 64, 0, 0, 0),
  (64, .iload_n 2, 65, 0, 0, 0),
  (65, .iastore, 66, 0, 0, 0),
  (66, .aload_n 0, 67, 0, 0, 0),
  (67, .getfield 7, 70, 8, 0, 0),
  (70, .sipush 532, 73, 0, 0, 0),
  (73, .dup2, 74, 0, 0, 0),
  (74, .iaload, 75, 0, 0, 0),
  (75, .iconst 1, 76, 0, 0, 0),
  (76, .iadd, 77, 0, 0, 0),
  (77, .iastore, 78, 0, 0, 0),
  (78, .iload_n 3, 79, 0, 0, 0),
  (79, .ireturn, 80, 0, 0, 0)]
def YM_observer : zY := (⟨"DiscLinesModel", "observer", "(II)I"⟩, 8, prog_11_method_40_code, 4, (some .int), rM_observer)
theorem oM_observer : zok YM_observer := (by decide +kernel : YM_observer.rows.all (zchk YM_observer) = true)
theorem ckM_observer : zCkV YM_observer 2 8 := ⟨⟨zt 1054 (by decide +kernel) rfl, zt 79 (by decide +kernel) rfl, by decide +kernel⟩, zt 1052 (by decide +kernel) rfl, zt 1053 (by decide +kernel) rfl, by decide⟩
def rM_isObserver : List zRow := [(0, .iload_n 1, 1, 0, 0, 0),
  (1, .i2l, 2, 0, 0, 0),
  (2, .lconst 0, 3, 0, 0, 0),
  (3, .aload_n 0, 4, 0, 0, 0),
  (4, .getfield 7, 7, 8, 0, 0),
  (7, .sipush 532, 10, 0, 0, 0),
  (10, .iaload, 11, 0, 0, 0),
  (11, .iconst 1, 12, 0, 0, 0),
  (12, .isub, 13, 0, 0, 0),
  (13, .i2l, 14, 0, 0, 0),
  (14, .invokestatic 51, 17, 0, 0, 0),
  (17, .ireturn, 18, 0, 0, 0)]
def YM_isObserver : zY := (⟨"DiscLinesModel", "isObserver", "(I)Z"⟩, 8, prog_11_method_41_code, 2, (some .boolean), rM_isObserver)
theorem oM_isObserver : zok YM_isObserver := (by decide +kernel : YM_isObserver.rows.all (zchk YM_isObserver) = true)
theorem ckM_isObserver : zCkV YM_isObserver 1 8 := ⟨⟨zt 1067 (by decide +kernel) rfl, zt 79 (by decide +kernel) rfl, by decide +kernel⟩, zt 1066 (by decide +kernel) rfl, zt 47 (by decide +kernel) rfl, by decide⟩
def rM_isSheet : List zRow := [(0, .iload_n 1, 1, 0, 0, 0),
  (1, .i2l, 2, 0, 0, 0),
  (2, .lconst 0, 3, 0, 0, 0),
  (3, .aload_n 0, 4, 0, 0, 0),
  (4, .getfield 7, 7, 8, 0, 0),
  (7, .sipush 549, 10, 0, 0, 0),
  (10, .iaload, 11, 0, 0, 0),
  (11, .iconst 1, 12, 0, 0, 0),
  (12, .isub, 13, 0, 0, 0),
  (13, .i2l, 14, 0, 0, 0),
  (14, .invokestatic 51, 17, 0, 0, 0),
  (17, .ireturn, 18, 0, 0, 0)]
def YM_isSheet : zY := (⟨"DiscLinesModel", "isSheet", "(I)Z"⟩, 8, prog_11_method_42_code, 2, (some .boolean), rM_isSheet)
theorem oM_isSheet : zok YM_isSheet := (by decide +kernel : YM_isSheet.rows.all (zchk YM_isSheet) = true)
theorem ckM_isSheet : zCkV YM_isSheet 1 8 := ⟨⟨zt 1100 (by decide +kernel) rfl, zt 79 (by decide +kernel) rfl, by decide +kernel⟩, zt 1099 (by decide +kernel) rfl, zt 53 (by decide +kernel) rfl, by decide⟩
def rM_linesOf : List zRow := [(0, .aload_n 0, 1, 0, 0, 0),
  (1, .getfield 7, 4, 8, 0, 0),
  (4, .sipush 550, 7, 0, 0, 0),
  (7, .iconst 3, 8, 0, 0, 0),
  (8, .iload_n 1, 9, 0, 0, 0),
  (9, .imul, 10, 0, 0, 0),
  (10, .iadd, 11, 0, 0, 0),
  (11, .iaload, 12, 0, 0, 0),
  (12, .ireturn, 13, 0, 0, 0)]
def YM_linesOf : zY := (⟨"DiscLinesModel", "linesOf", "(I)I"⟩, 8, prog_11_method_43_code, 2, (some .int), rM_linesOf)
theorem oM_linesOf : zok YM_linesOf := (by decide +kernel : YM_linesOf.rows.all (zchk YM_linesOf) = true)
theorem ckM_linesOf : zCkV YM_linesOf 1 8 := ⟨⟨zt 1092 (by decide +kernel) rfl, zt 79 (by decide +kernel) rfl, by decide +kernel⟩, zt 1091 (by decide +kernel) rfl, zt 52 (by decide +kernel) rfl, by decide⟩
def rM_observerOf : List zRow := [(0, .aload_n 0, 1, 0, 0, 0),
  (1, .getfield 7, 4, 8, 0, 0),
  (4, .sipush 551, 7, 0, 0, 0),
  (7, .iconst 3, 8, 0, 0, 0),
  (8, .iload_n 1, 9, 0, 0, 0),
  (9, .imul, 10, 0, 0, 0),
  (10, .iadd, 11, 0, 0, 0),
  (11, .iaload, 12, 0, 0, 0),
  (12, .ireturn, 13, 0, 0, 0)]
def YM_observerOf : zY := (⟨"DiscLinesModel", "observerOf", "(I)I"⟩, 8, prog_11_method_44_code, 2, (some .int), rM_observerOf)
theorem oM_observerOf : zok YM_observerOf := (by decide +kernel : YM_observerOf.rows.all (zchk YM_observerOf) = true)
theorem ckM_observerOf : zCkV YM_observerOf 1 8 := ⟨⟨zt 1112 (by decide +kernel) rfl, zt 79 (by decide +kernel) rfl, by decide +kernel⟩, zt 1111 (by decide +kernel) rfl, zt 55 (by decide +kernel) rfl, by decide⟩
def rM_nightOf : List zRow := [(0, .aload_n 0, 1, 0, 0, 0),
  (1, .getfield 7, 4, 8, 0, 0),
  (4, .sipush 552, 7, 0, 0, 0),
  (7, .iconst 3, 8, 0, 0, 0),
  (8, .iload_n 1, 9, 0, 0, 0),
  (9, .imul, 10, 0, 0, 0),
  (10, .iadd, 11, 0, 0, 0),
  (11, .iaload, 12, 0, 0, 0),
  (12, .ireturn, 13, 0, 0, 0)]
def YM_nightOf : zY := (⟨"DiscLinesModel", "nightOf", "(I)I"⟩, 8, prog_11_method_45_code, 2, (some .int), rM_nightOf)
theorem oM_nightOf : zok YM_nightOf := (by decide +kernel : YM_nightOf.rows.all (zchk YM_nightOf) = true)
theorem ckM_nightOf : zCkV YM_nightOf 1 8 := ⟨⟨zt 1071 (by decide +kernel) rfl, zt 79 (by decide +kernel) rfl, by decide +kernel⟩, zt 1070 (by decide +kernel) rfl, zt 48 (by decide +kernel) rfl, by decide⟩
def rM_isNext : List zRow := [(0, .aload_n 0, 1, 0, 0, 0),
  (1, .getfield 7, 4, 8, 0, 0),
  (4, .sipush 549, 7, 0, 0, 0),
  (7, .iaload, 8, 0, 0, 0),
  (8, .istore_n 3, 9, 0, 0, 0),
  (9, .aload_n 0, 10, 0, 0, 0),
  (10, .iload_n 1, 11, 0, 0, 0),
  (11, .invokevirtual 189, 14, 0, 0, 0),
  (14, .ifCond .eq 34, 17, 48, 0, 0),
  (17, .iload_n 2, 18, 0, 0, 0),
  (18, .i2l, 19, 0, 0, 0),
  (19, .iload_n 3, 20, 0, 0, 0),
  (20, .ifCond .le 14, 23, 34, 0, 0),
  (23, .aload_n 0, 24, 0, 0, 0),
  (24, .iload_n 3, 25, 0, 0, 0),
  (25, .iconst 1, 26, 0, 0, 0),
  (26, .isub, 27, 0, 0, 0),
  (27, .invokevirtual 192, 30, 0, 0, 0),
  (30, .i2l, 31, 0, 0, 0),
  (31, .goto 4, 34, 35, 0, 0),
  (34, .lconst 0, 35, 0, 0, 0),
  (35, .ldc2_w 195, 38, 0, 0, 999),
  (38, .invokestatic 51, 41, 0, 0, 0),
  (41, .ifCond .eq 7, 44, 48, 0, 0),
  (44, .iconst 1, 45, 0, 0, 0),
  (45, .goto 4, 48, 49, 0, 0),
  (48, .iconst 0, 49, 0, 0, 0),
  (49, .ireturn, 50, 0, 0, 0)]
def YM_isNext : zY := (⟨"DiscLinesModel", "isNext", "(II)Z"⟩, 8, prog_11_method_46_code, 4, (some .boolean), rM_isNext)
theorem oM_isNext : zok YM_isNext := (by decide +kernel : YM_isNext.rows.all (zchk YM_isNext) = true)
theorem ckM_isNext : zCkV YM_isNext 2 8 := ⟨⟨zt 1063 (by decide +kernel) rfl, zt 79 (by decide +kernel) rfl, by decide +kernel⟩, zt 1062 (by decide +kernel) rfl, zt 46 (by decide +kernel) rfl, by decide⟩
def rM_addSheet : List zRow := [(0, .aload_n 0, 1, 0, 0, 0),
  (1, .getfield 7, 4, 8, 0, 0),
  (4, .sipush 549, 7, 0, 0, 0),
  (7, .iaload, 8, 0, 0, 0),
  (8, .istore 4, 10, 0, 0, 0),
  (10, .aload_n 0, 11, 0, 0, 0),
  (11, .getfield 7, 14, 8, 0, 0),
  (14, .sipush 550, 17, 0, 0, 0),
  (17, .iconst 3, 18, 0, 0, 0),
  (18, .iload 4, 20, 0, 0, 0),
  (20, .imul, 21, 0, 0, 0),
  (21, .iadd, 22, 0, 0, 0),
  (22, .iload_n 3, 23, 0, 0, 0),
  (23, .iastore, 24, 0, 0, 0),
  (24, .aload_n 0, 25, 0, 0, 0),
  (25, .getfield 7, 28, 8, 0, 0),
  (28, .sipush 551, 31, 0, 0, 0),
  (31, .iconst 3, 32, 0, 0, 0),
  (32, .iload 4, 34, 0, 0, 0),
  (34, .imul, 35, 0, 0, 0),
  (35, .iadd, 36, 0, 0, 0),
  (36, .iload_n 1, 37, 0, 0, 0),
  (37, .iastore, 38, 0, 0, 0),
  (38, .aload_n 0, 39, 0, 0, 0),
  (39, .getfield 7, 42, 8, 0, 0),
  (42, .sipush 552, 45, 0, 0, 0),
  (45, .iconst 3, 46, 0, 0, 0),
  (46, .iload 4, 48, 0, 0, 0),
  (48, .imul, 49, 0, 0, 0),
  (49, .iadd, 50, 0, 0, 0),
  (50, .iload_n 2, 51, 0, 0, 0),
  (51, .iastore, 52, 0, 0, 0),
  (52, .aload_n 0, 53, 0, 0, 0),
  (53, .getfield 7, 56, 8, 0, 0),
  (56, .sipush 549, 59, 0, 0, 0),
  (59, .dup2, 60, 0, 0, 0),
  (60, .iaload, 61, 0, 0, 0),
  (61, .iconst 1, 62, 0, 0, 0),
  (62, .iadd, 63, 0, 0, 0),
  (63, .iastore, 64, 0, 0, 0),
  (64, .iload 4, 66, 0, 0, 0),
  (66, .ireturn, 67, 0, 0, 0)]
def YM_addSheet : zY := (⟨"DiscLinesModel", "addSheet", "(III)I"⟩, 8, prog_11_method_47_code, 5, (some .int), rM_addSheet)
theorem oM_addSheet : zok YM_addSheet := (by decide +kernel : YM_addSheet.rows.all (zchk YM_addSheet) = true)
theorem ckM_addSheet : zCkV YM_addSheet 3 8 := ⟨⟨zt 1076 (by decide +kernel) rfl, zt 79 (by decide +kernel) rfl, by decide +kernel⟩, zt 1075 (by decide +kernel) rfl, zt 49 (by decide +kernel) rfl, by decide⟩
def rM_sheet : List zRow := [(0, .aload_n 0, 1, 0, 0, 0),
  (1, .iload_n 1, 2, 0, 0, 0),
  (2, .iload_n 2, 3, 0, 0, 0),
  (3, .invokevirtual 197, 6, 0, 0, 0),
  (6, .ifCond .eq 10, 9, 16, 0, 0),
  (9, .iload_n 3, 10, 0, 0, 0),
  (10, .invokestatic 174, 13, 0, 0, 0),
  (13, .ifCond .ne 6, 16, 19, 0, 0),
  (16, .bipush (-2), 18, 0, 0, 0),
  (18, .ireturn, 19, 0, 0, 0),
  (19, .aload_n 0, 20, 0, 0, 0),
  (20, .getfield 7, 23, 8, 0, 0),
  (23, .sipush 549, 26, 0, 0, 0),
  (26, .iaload, 27, 0, 0, 0),
  (27, .bipush 16, 29, 0, 0, 0),
  (29, .if_icmp .ne 8, 32, 37, 0, 0),
  (32, .bipush (-4), 34, 0, 0, 0),
  (34, .goto 10, 37, 44, 0, 0),
  (37, .aload_n 0, 38, 0, 0, 0),
  (38, .iload_n 1, 39, 0, 0, 0),
  (39, .iload_n 2, 40, 0, 0, 0),
  (40, .iload_n 3, 41, 0, 0, 0),
  (41, .invokevirtual 201, 44, 0, 0, 0),
  (44, .ireturn, 45, 0, 0, 0)]
def YM_sheet : zY := (⟨"DiscLinesModel", "sheet", "(III)I"⟩, 8, prog_11_method_48_code, 4, (some .int), rM_sheet)
theorem oM_sheet : zok YM_sheet := (by decide +kernel : YM_sheet.rows.all (zchk YM_sheet) = true)
theorem ckM_sheet : zCkV YM_sheet 3 8 := ⟨⟨zt 1059 (by decide +kernel) rfl, zt 79 (by decide +kernel) rfl, by decide +kernel⟩, zt 1057 (by decide +kernel) rfl, zt 1058 (by decide +kernel) rfl, by decide⟩
def rM_sheetsBy : List zRow := [(0, .iconst 0, 1, 0, 0, 0),
  (1, .istore_n 3, 2, 0, 0, 0),
  (2, .iconst 0, 3, 0, 0, 0),
  (3, .istore 4, 5, 0, 0, 0),
  (5, .iload 4, 7, 0, 0, 0),
  (7, .aload_n 0, 8, 0, 0, 0),
  (8, .getfield 7, 11, 8, 0, 0),
  (11, .sipush 598, 14, 0, 0, 0),
  (14, .iaload, 15, 0, 0, 0),
  (15, .if_icmp .ge 61, 18, 76, 0, 0),
  (18, .sipush 599, 21, 0, 0, 0),
  (21, .iconst 3, 22, 0, 0, 0),
  (22, .iload 4, 24, 0, 0, 0),
  (24, .imul, 25, 0, 0, 0),
  (25, .iadd, 26, 0, 0, 0),
  (26, .istore 5, 28, 0, 0, 0),
  (28, .iload_n 3, 29, 0, 0, 0),
  (29, .aload_n 0, 30, 0, 0, 0),
  (30, .getfield 7, 33, 8, 0, 0),
  (33, .iload 5, 35, 0, 0, 0),
  (35, .iconst 1, 36, 0, 0, 0),
  (36, .iadd, 37, 0, 0, 0),
  (37, .iaload, 38, 0, 0, 0),
  (38, .iload_n 1, 39, 0, 0, 0),
  (39, .if_icmp .ne 28, 42, 67, 0, 0),
  (42, .aload_n 0, 43, 0, 0, 0),
  (43, .getfield 7, 46, 8, 0, 0),
  (46, .iload 5, 48, 0, 0, 0),
  (48, .iconst 2, 49, 0, 0, 0),
  (49, .iadd, 50, 0, 0, 0),
  (50, .iaload, 51, 0, 0, 0),
  (51, .iload_n 2, 52, 0, 0, 0),
  (52, .if_icmp .gt 15, 55, 67, 0, 0),
  (55, .iconst 1, 56, 0, 0, 0),
  (56, .aload_n 0, 57, 0, 0, 0),
  (57, .getfield 7, 60, 8, 0, 0),
  (60, .iload 5, 62, 0, 0, 0),
  (62, .iaload, 63, 0, 0, 0),
  (63, .ishl, 64, 0, 0, 0),
  (64, .goto 4, 67, 68, 0, 0),
  (67, .iconst 0, 68, 0, 0, 0),
  (68, .ior, 69, 0, 0, 0),
  (69, .istore_n 3, 70, 0, 0, 0),
  (70, .iinc 4 1, 73, 0, 0, 0),
  (73, .goto (-68), 76, 5, 0, 0),
  (76, .iload_n 3, 77, 0, 0, 0),
  (77, .ireturn, 78, 0, 0, 0)]
def YM_sheetsBy : zY := (⟨"DiscLinesModel", "sheetsBy", "(II)I"⟩, 8, prog_11_method_49_code, 6, (some .int), rM_sheetsBy)
theorem oM_sheetsBy : zok YM_sheetsBy := (by decide +kernel : YM_sheetsBy.rows.all (zchk YM_sheetsBy) = true)
theorem ckM_sheetsBy : zCkV YM_sheetsBy 2 8 := ⟨⟨zt 1088 (by decide +kernel) rfl, zt 79 (by decide +kernel) rfl, by decide +kernel⟩, zt 1087 (by decide +kernel) rfl, zt 51 (by decide +kernel) rfl, by decide⟩
def rM_shownBy : List zRow := [(0, .aload_n 0, 1, 0, 0, 0),
  (1, .iload_n 1, 2, 0, 0, 0),
  (2, .iload_n 2, 3, 0, 0, 0),
  (3, .invokevirtual 204, 6, 0, 0, 0),
  (6, .istore_n 3, 7, 0, 0, 0),
  (7, .iconst 0, 8, 0, 0, 0),
  (8, .istore 4, 10, 0, 0, 0),
  (10, .iconst 0, 11, 0, 0, 0),
  (11, .istore 5, 13, 0, 0, 0),
  (13, .iload 5, 15, 0, 0, 0),
  (15, .aload_n 0, 16, 0, 0, 0),
  (16, .getfield 7, 19, 8, 0, 0),
  (19, .sipush 549, 22, 0, 0, 0),
  (22, .iaload, 23, 0, 0, 0),
  (23, .if_icmp .ge 34, 26, 57, 0, 0),
  (26, .iload 4, 28, 0, 0, 0),
  (28, .iload_n 3, 29, 0, 0, 0),
  (29, .iload 5, 31, 0, 0, 0),
  (31, .ishr, 32, 0, 0, 0),
  (32, .iconst 1, 33, 0, 0, 0),
  (33, .iand, 34, 0, 0, 0),
  (34, .iconst 1, 35, 0, 0, 0),
  (35, .if_icmp .ne 12, 38, 47, 0, 0),
  (38, .aload_n 0, 39, 0, 0, 0),
  (39, .iload 5, 41, 0, 0, 0),
  (41, .invokevirtual 207, 44, 0, 0, 0),
  (44, .goto 4, 47, 48, 0, 0),
  (47, .iconst 0, 48, 0, 0, 0),
  (48, .ior, 49, 0, 0, 0),
  (49, .istore 4, 51, 0, 0, 0),
  (51, .iinc 5 1, 54, 0, 0, 0),
  (54, .goto (-41), 57, 13, 0, 0),
  (57, .iload 4, 59, 0, 0, 0),
  (59, .ireturn, 60, 0, 0, 0)]
def YM_shownBy : zY := (⟨"DiscLinesModel", "shownBy", "(II)I"⟩, 8, prog_11_method_50_code, 6, (some .int), rM_shownBy)
theorem oM_shownBy : zok YM_shownBy := (by decide +kernel : YM_shownBy.rows.all (zchk YM_shownBy) = true)
theorem ckM_shownBy : zCkV YM_shownBy 2 8 := ⟨⟨zt 1084 (by decide +kernel) rfl, zt 79 (by decide +kernel) rfl, by decide +kernel⟩, zt 1083 (by decide +kernel) rfl, zt 50 (by decide +kernel) rfl, by decide⟩
def rM_draw : List zRow := [(0, .aload_n 0, 1, 0, 0, 0),
  (1, .iload_n 1, 2, 0, 0, 0),
  (2, .iload_n 2, 3, 0, 0, 0),
  (3, .invokevirtual 197, 6, 0, 0, 0),
  (6, .ifCond .eq 16, 9, 22, 0, 0),
  (9, .iload_n 3, 10, 0, 0, 0),
  (10, .iload 4, 12, 0, 0, 0),
  (12, .iload 5, 14, 0, 0, 0),
  (14, .iload 6, 16, 0, 0, 0),
  (16, .invokestatic 82, 19, 0, 0, 0),
  (19, .ifCond .ne 6, 22, 25, 0, 0),
  (22, .bipush (-2), 24, 0, 0, 0),
  (24, .ireturn, 25, 0, 0, 0),
  (25, .aload_n 0, 26, 0, 0, 0),
  (26, .getfield 7, 29, 8, 0, 0),
  (29, .sipush 549, 32, 0, 0, 0),
  (32, .iaload, 33, 0, 0, 0),
  (33, .bipush 16, 35, 0, 0, 0),
  (35, .if_icmp .ne 6, 38, 41, 0, 0),
  (38, .bipush (-4), 40, 0, 0, 0),
  (40, .ireturn, 41, 0, 0, 0),
  (41, .aload_n 0, 42, 0, 0, 0),
  (42, .iload_n 1, 43, 0, 0, 0),
  (43, .iload_n 2, 44, 0, 0, 0),
  (44, .aload_n 0, 45, 0, 0, 0),
  (45, .aload_n 0, 46, 0, 0, 0),
  (46, .getfield 7, 49, 8, 0, 0),
  (49, .sipush 533, 52, 0, 0, 0),
  (52, .iconst 2, 53, 0, 0, 0),
  (53, .iload_n 1, 54, 0, 0, 0),
  (54, .imul, 55, 0, 0, 0),
  (55, .iadd, 56, 0, 0, 0),
  (56, .iaload, 57, 0, 0, 0),
  (57, .iload_n 3, 58, 0, 0, 0),
  (58, .iload 4, 60, 0, 0, 0),
  (60, .iload 5, 62, 0, 0, 0),
  (62, .iload 6, 64, 0, 0, 0),
  (64, .aload_n 0, 65, 0, 0, 0),
  (65, .iload_n 1, 66, 0, 0, 0),
  (66, .iload_n 2, 67, 0, 0, 0),
  (67, .invokevirtual 210, 70, 0, 0, 0),
  (70, .invokevirtual 177, 73, 0, 0, 0),
  (73, .invokevirtual 201, 76, 0, 0, 0),
  (76, .ireturn, 77, 0, 0, 0)]
def YM_draw : zY := (⟨"DiscLinesModel", "draw", "(IIIIII)I"⟩, 8, prog_11_method_51_code, 7, (some .int), rM_draw)
theorem oM_draw : zok YM_draw := (by decide +kernel : YM_draw.rows.all (zchk YM_draw) = true)
theorem ckM_draw : zCkV YM_draw 6 8 := ⟨⟨zt 1080 (by decide +kernel) rfl, zt 79 (by decide +kernel) rfl, by decide +kernel⟩, zt 1078 (by decide +kernel) rfl, zt 1079 (by decide +kernel) rfl, by decide⟩
def rM_show : List zRow := [(0, .aload_n 0, 1, 0, 0, 0),
  (1, .iload_n 1, 2, 0, 0, 0),
  (2, .invokevirtual 213, 5, 0, 0, 0),
  (5, .ifCond .eq 28, 8, 33, 0, 0),
  (8, .aload_n 0, 9, 0, 0, 0),
  (9, .iload_n 2, 10, 0, 0, 0),
  (10, .invokevirtual 189, 13, 0, 0, 0),
  (13, .ifCond .eq 20, 16, 33, 0, 0),
  (16, .iload_n 3, 17, 0, 0, 0),
  (17, .i2l, 18, 0, 0, 0),
  (18, .aload_n 0, 19, 0, 0, 0),
  (19, .iload_n 1, 20, 0, 0, 0),
  (20, .invokevirtual 192, 23, 0, 0, 0),
  (23, .i2l, 24, 0, 0, 0),
  (24, .ldc2_w 195, 27, 0, 0, 999),
  (27, .invokestatic 51, 30, 0, 0, 0),
  (30, .ifCond .ne 6, 33, 36, 0, 0),
  (33, .bipush (-2), 35, 0, 0, 0),
  (35, .ireturn, 36, 0, 0, 0),
  (36, .aload_n 0, 37, 0, 0, 0),
  (37, .getfield 7, 40, 8, 0, 0),
  (40, .sipush 598, 43, 0, 0, 0),
  (43, .iaload, 44, 0, 0, 0),
  (44, .istore 4, 46, 0, 0, 0),
  (46, .iload 4, 48, 0, 0, 0),
  (48, .bipush 60, 50, 0, 0, 0),
  (50, .if_icmp .ne 6, 53, 56, 0, 0),
  (53, .bipush (-4), 55, 0, 0, 0),
  (55, .ireturn, 56, 0, 0, 0),
  (56, .aload_n 0, 57, 0, 0, 0),
  (57, .getfield 7, 60, 8, 0, 0),
  (60, .sipush 599, 63, 0, 0, 0),
  (63, .iconst 3, 64, 0, 0, 0),
  (64, .iload 4, 66, 0, 0, 0),
  (66, .imul, 67, 0, 0, 0),
  (67, .iadd, 68, 0, 0, 0),
  (68, .iload_n 1, 69, 0, 0, 0),
  (69, .iastore, 70, 0, 0, 0),
  (70, .aload_n 0, 71, 0, 0, 0),
  (71, .getfield 7, 74, 8, 0, 0),
  (74, .sipush 600, 77, 0, 0, 0),
  (77, .iconst 3, 78, 0, 0, 0),
  (78, .iload 4, 80, 0, 0, 0),
  (80, .imul, 81, 0, 0, 0),
  (81, .iadd, 82, 0, 0, 0),
  (82, .iload_n 2, 83, 0, 0, 0),
  (83, .iastore, 84, 0, 0, 0),
  (84, .aload_n 0, 85, 0, 0, 0),
  (85, .getfield 7, 88, 8, 0, 0),
  (88, .sipush 601, 91, 0, 0, 0),
  (91, .iconst 3, 92, 0, 0, 0),
  (92, .iload 4, 94, 0, 0, 0),
  (94, .imul, 95, 0, 0, 0),
  (95, .iadd, 96, 0, 0, 0),
  (96, .iload_n 3, 97, 0, 0, 0),
  (97, .iastore, 98, 0, 0, 0),
  (98, .aload_n 0, 99, 0, 0, 0),
  (99, .getfield 7, 102, 8, 0, 0),
  (102, .sipush 598, 105, 0, 0, 0),
  (105, .dup2, 106, 0, 0, 0),
  (106, .iaload, 107, 0, 0, 0),
  (107, .iconst 1, 108, 0, 0, 0),
  (108, .iadd, 109, 0, 0, 0),
  (109, .iastore, 110, 0, 0, 0),
  (110, .iload 4, 112, 0, 0, 0),
  (112, .iconst 1, 113, 0, 0, 0),
  (113, .iadd, 114, 0, 0, 0),
  (114, .ireturn, 115, 0, 0, 0)]
def YM_show : zY := (⟨"DiscLinesModel", "show", "(III)I"⟩, 8, prog_11_method_52_code, 5, (some .int), rM_show)
theorem oM_show : zok YM_show := (by decide +kernel : YM_show.rows.all (zchk YM_show) = true)
theorem ckM_show : zCkV YM_show 3 8 := ⟨⟨zt 1096 (by decide +kernel) rfl, zt 79 (by decide +kernel) rfl, by decide +kernel⟩, zt 1094 (by decide +kernel) rfl, zt 1095 (by decide +kernel) rfl, by decide⟩
def rM_shownFor : List zRow := [(0, .aload_n 0, 1, 0, 0, 0),
  (1, .aload_n 0, 2, 0, 0, 0),
  (2, .iload_n 1, 3, 0, 0, 0),
  (3, .invokevirtual 216, 6, 0, 0, 0),
  (6, .aload_n 0, 7, 0, 0, 0),
  (7, .iload_n 1, 8, 0, 0, 0),
  (8, .invokevirtual 192, 11, 0, 0, 0),
  (11, .invokevirtual 210, 14, 0, 0, 0),
  (14, .ireturn, 15, 0, 0, 0)]
def YM_shownFor : zY := (⟨"DiscLinesModel", "shownFor", "(I)I"⟩, 8, prog_11_method_53_code, 2, (some .int), rM_shownFor)
theorem oM_shownFor : zok YM_shownFor := (by decide +kernel : YM_shownFor.rows.all (zchk YM_shownFor) = true)
theorem ckM_shownFor : zCkV YM_shownFor 1 8 := ⟨⟨zt 1116 (by decide +kernel) rfl, zt 79 (by decide +kernel) rfl, by decide +kernel⟩, zt 1115 (by decide +kernel) rfl, zt 56 (by decide +kernel) rfl, by decide⟩
def rM_sheetTold : List zRow := [(0, .iload_n 2, 1, 0, 0, 0),
  (1, .ifCond .ne 11, 4, 12, 0, 0),
  (4, .aload_n 0, 5, 0, 0, 0),
  (5, .iload_n 1, 6, 0, 0, 0),
  (6, .invokevirtual 207, 9, 0, 0, 0),
  (9, .goto 34, 12, 43, 0, 0),
  (12, .iload_n 2, 13, 0, 0, 0),
  (13, .iconst 1, 14, 0, 0, 0),
  (14, .if_icmp .ne 11, 17, 25, 0, 0),
  (17, .aload_n 0, 18, 0, 0, 0),
  (18, .iload_n 1, 19, 0, 0, 0),
  (19, .invokevirtual 216, 22, 0, 0, 0),
  (22, .goto 21, 25, 43, 0, 0),
  (25, .iload_n 2, 26, 0, 0, 0),
  (26, .iconst 2, 27, 0, 0, 0),
  (27, .if_icmp .ne 11, 30, 38, 0, 0),
  (30, .aload_n 0, 31, 0, 0, 0),
  (31, .iload_n 1, 32, 0, 0, 0),
  (32, .invokevirtual 192, 35, 0, 0, 0),
  (35, .goto 8, 38, 43, 0, 0),
  (38, .aload_n 0, 39, 0, 0, 0),
  (39, .iload_n 1, 40, 0, 0, 0),
  (40, .invokevirtual 219, 43, 0, 0, 0),
  (43, .ireturn, 44, 0, 0, 0)]
def YM_sheetTold : zY := (⟨"DiscLinesModel", "sheetTold", "(II)I"⟩, 8, prog_11_method_54_code, 3, (some .int), rM_sheetTold)
theorem oM_sheetTold : zok YM_sheetTold := (by decide +kernel : YM_sheetTold.rows.all (zchk YM_sheetTold) = true)
theorem ckM_sheetTold : zCkV YM_sheetTold 2 8 := ⟨⟨zt 1108 (by decide +kernel) rfl, zt 79 (by decide +kernel) rfl, by decide +kernel⟩, zt 1107 (by decide +kernel) rfl, zt 54 (by decide +kernel) rfl, by decide⟩
def rM_of : List zRow := [(0, .aload_n 0, 1, 0, 0, 0),
  (1, .iload_n 1, 2, 0, 0, 0),
  (2, .invokevirtual 213, 5, 0, 0, 0),
  (5, .ifCond .eq 24, 8, 29, 0, 0),
  (8, .iload_n 2, 9, 0, 0, 0),
  (9, .i2l, 10, 0, 0, 0),
  (10, .lconst 0, 11, 0, 0, 0),
  (11, .ldc2_w 49, 14, 0, 0, 3),
  (14, .invokestatic 51, 17, 0, 0, 0),
  (17, .ifCond .eq 12, 20, 29, 0, 0),
  (20, .aload_n 0, 21, 0, 0, 0),
  (21, .iload_n 1, 22, 0, 0, 0),
  (22, .iload_n 2, 23, 0, 0, 0),
  (23, .invokevirtual 222, 26, 0, 0, 0),
  (26, .goto 5, 29, 31, 0, 0),
  (29, .bipush (-2), 31, 0, 0, 0),
  (31, .ireturn, 32, 0, 0, 0)]
def YM_of : zY := (⟨"DiscLinesModel", "of", "(II)I"⟩, 8, prog_11_method_55_code, 3, (some .int), rM_of)
theorem oM_of : zok YM_of := (by decide +kernel : YM_of.rows.all (zchk YM_of) = true)
theorem ckM_of : zCkV YM_of 2 8 := ⟨⟨zt 1104 (by decide +kernel) rfl, zt 79 (by decide +kernel) rfl, by decide +kernel⟩, zt 1102 (by decide +kernel) rfl, zt 1103 (by decide +kernel) rfl, by decide⟩
def rM_isPair : List zRow := [(0, .aload_n 0, 1, 0, 0, 0),
  (1, .iload_n 1, 2, 0, 0, 0),
  (2, .invokevirtual 213, 5, 0, 0, 0),
  (5, .ifCond .eq 20, 8, 25, 0, 0),
  (8, .aload_n 0, 9, 0, 0, 0),
  (9, .iload_n 2, 10, 0, 0, 0),
  (10, .invokevirtual 213, 13, 0, 0, 0),
  (13, .ifCond .eq 12, 16, 25, 0, 0),
  (16, .iload_n 1, 17, 0, 0, 0),
  (17, .iload_n 2, 18, 0, 0, 0),
  (18, .if_icmp .eq 7, 21, 25, 0, 0),
  (21, .iconst 1, 22, 0, 0, 0),
  (22, .goto 4, 25, 26, 0, 0),
  (25, .iconst 0, 26, 0, 0, 0),
  (26, .ireturn, 27, 0, 0, 0)]
def YM_isPair : zY := (⟨"DiscLinesModel", "isPair", "(II)Z"⟩, 8, prog_11_method_56_code, 3, (some .boolean), rM_isPair)
theorem oM_isPair : zok YM_isPair := (by decide +kernel : YM_isPair.rows.all (zchk YM_isPair) = true)
theorem ckM_isPair : zCkV YM_isPair 2 8 := ⟨⟨zt 1124 (by decide +kernel) rfl, zt 79 (by decide +kernel) rfl, by decide +kernel⟩, zt 1123 (by decide +kernel) rfl, zt 57 (by decide +kernel) rfl, by decide⟩
def rM_agree : List zRow := [(0, .aload_n 0, 1, 0, 0, 0),
  (1, .iload_n 1, 2, 0, 0, 0),
  (2, .iload_n 2, 3, 0, 0, 0),
  (3, .invokevirtual 225, 6, 0, 0, 0),
  (6, .ifCond .eq 13, 9, 19, 0, 0),
  (9, .iload_n 3, 10, 0, 0, 0),
  (10, .i2l, 11, 0, 0, 0),
  (11, .lconst 0, 12, 0, 0, 0),
  (12, .lconst 1, 13, 0, 0, 0),
  (13, .invokestatic 51, 16, 0, 0, 0),
  (16, .ifCond .ne 6, 19, 22, 0, 0),
  (19, .bipush (-2), 21, 0, 0, 0),
  (21, .ireturn, 22, 0, 0, 0),
  (22, .aload_n 0, 23, 0, 0, 0),
  (23, .iload_n 1, 24, 0, 0, 0),
  (24, .invokevirtual 207, 27, 0, 0, 0),
  (27, .aload_n 0, 28, 0, 0, 0),
  (28, .iload_n 2, 29, 0, 0, 0),
  (29, .invokevirtual 207, 32, 0, 0, 0),
  (32, .iand, 33, 0, 0, 0),
  (33, .istore 4, 35, 0, 0, 0),
  (35, .iload_n 3, 36, 0, 0, 0),
  (36, .ifCond .ne 8, 39, 44, 0, 0),
  (39, .iload 4, 41, 0, 0, 0),
  (41, .goto 17, 44, 58, 0, 0),
  (44, .iload 4, 46, 0, 0, 0),
  (46, .aload_n 0, 47, 0, 0, 0),
  (47, .iload_n 1, 48, 0, 0, 0),
  (48, .invokevirtual 219, 51, 0, 0, 0),
  (51, .iand, 52, 0, 0, 0),
  (52, .aload_n 0, 53, 0, 0, 0),
  (53, .iload_n 2, 54, 0, 0, 0),
  (54, .invokevirtual 219, 57, 0, 0, 0),
  (57, .iand, 58, 0, 0, 0),
  (58, .invokestatic 184, 61, 0, 0, 0),
  (61, .ireturn, 62, 0, 0, 0)]
def YM_agree : zY := (⟨"DiscLinesModel", "agree", "(III)I"⟩, 8, prog_11_method_57_code, 5, (some .int), rM_agree)
theorem oM_agree : zok YM_agree := (by decide +kernel : YM_agree.rows.all (zchk YM_agree) = true)
theorem ckM_agree : zCkV YM_agree 3 8 := ⟨⟨zt 1120 (by decide +kernel) rfl, zt 79 (by decide +kernel) rfl, by decide +kernel⟩, zt 1118 (by decide +kernel) rfl, zt 1119 (by decide +kernel) rfl, by decide⟩
def rM_choose : List zRow := [(0, .iload_n 1, 1, 0, 0, 0),
  (1, .ifCond .lt 8, 4, 9, 0, 0),
  (4, .iload_n 1, 5, 0, 0, 0),
  (5, .iload_n 0, 6, 0, 0, 0),
  (6, .if_icmp .le 7, 9, 13, 0, 0),
  (9, .lconst 0, 10, 0, 0, 0),
  (10, .goto 4, 13, 14, 0, 0),
  (13, .lconst 1, 14, 0, 0, 0),
  (14, .lstore_n 2, 15, 0, 0, 0),
  (15, .iconst 0, 16, 0, 0, 0),
  (16, .istore 4, 18, 0, 0, 0),
  (18, .iload 4, 20, 0, 0, 0),
  (20, .iload_n 1, 21, 0, 0, 0),
  (21, .if_icmp .ge 29, 24, 50, 0, 0),
  (24, .lload_n 2, 25, 0, 0, 0),
  (25, .lconst 0, 26, 0, 0, 0),
  (26, .lcmp, 27, 0, 0, 0),
  (27, .ifCond .le 23, 30, 50, 0, 0),
  (30, .lload_n 2, 31, 0, 0, 0),
  (31, .iload_n 0, 32, 0, 0, 0),
  (32, .iload 4, 34, 0, 0, 0),
  (34, .isub, 35, 0, 0, 0),
  (35, .i2l, 36, 0, 0, 0),
  (36, .lmul, 37, 0, 0, 0),
  (37, .iload 4, 39, 0, 0, 0),
  (39, .iconst 1, 40, 0, 0, 0),
  (40, .iadd, 41, 0, 0, 0),
  (41, .i2l, 42, 0, 0, 0),
  (42, .ldiv, 43, 0, 0, 0),
  (43, .lstore_n 2, 44, 0, 0, 0),
  (44, .iinc 4 1, 47, 0, 0, 0),
  (47, .goto (-29), 50, 18, 0, 0),
  (50, .lload_n 2, 51, 0, 0, 0),
  (51, .lreturn, 52, 0, 0, 0)]
def YM_choose : zY := (⟨"DiscLinesModel", "choose", "(II)J"⟩, 8, prog_11_method_58_code, 5, (some .long), rM_choose)
theorem oM_choose : zok YM_choose := (by decide +kernel : YM_choose.rows.all (zchk YM_choose) = true)
theorem ckM_choose : zCkS YM_choose 2 := ⟨⟨zt 1131 (by decide +kernel) rfl, zt 79 (by decide +kernel) rfl, by decide +kernel⟩, zt 1130 (by decide +kernel) rfl⟩
def rM_common : List zRow := [(0, .lload_n 0, 1, 0, 0, 0),
  (1, .lstore 4, 3, 0, 0, 0),
  (3, .lload_n 2, 4, 0, 0, 0),
  (4, .lstore 6, 6, 0, 0, 0),
  (6, .lload 4, 8, 0, 0, 0),
  (8, .lconst 0, 9, 0, 0, 0),
  (9, .lcmp, 10, 0, 0, 0),
  (10, .ifCond .eq 21, 13, 31, 0, 0),
  (13, .lload 6, 15, 0, 0, 0),
  (15, .lload 4, 17, 0, 0, 0),
  (17, .lrem, 18, 0, 0, 0),
  (18, .lstore 8, 20, 0, 0, 0),
  (20, .lload 4, 22, 0, 0, 0),
  (22, .lstore 6, 24, 0, 0, 0),
  (24, .lload 8, 26, 0, 0, 0),
  (26, .lstore 4, 28, 0, 0, 0),
  (28, .goto (-22), 31, 6, 0, 0),
  (31, .lload 6, 33, 0, 0, 0),
  (33, .lreturn, 34, 0, 0, 0)]
def YM_common : zY := (⟨"DiscLinesModel", "common", "(JJ)J"⟩, 8, prog_11_method_59_code, 10, (some .long), rM_common)
theorem oM_common : zok YM_common := (by decide +kernel : YM_common.rows.all (zchk YM_common) = true)
theorem ckM_common : zCkS YM_common 2 := ⟨⟨zt 1134 (by decide +kernel) rfl, zt 79 (by decide +kernel) rfl, by decide +kernel⟩, zt 1133 (by decide +kernel) rfl⟩
def rM_chance : List zRow := [(0, .aload_n 0, 1, 0, 0, 0),
  (1, .iload_n 1, 2, 0, 0, 0),
  (2, .iload_n 2, 3, 0, 0, 0),
  (3, .invokevirtual 225, 6, 0, 0, 0),
  (6, .ifCond .ne 6, 9, 12, 0, 0),
  (9, .bipush (-2), 11, 0, 0, 0),
  (11, .ireturn, 12, 0, 0, 0),
  (12, .aload_n 0, 13, 0, 0, 0),
  (13, .iload_n 1, 14, 0, 0, 0),
  (14, .invokevirtual 207, 17, 0, 0, 0),
  (17, .invokestatic 184, 20, 0, 0, 0),
  (20, .istore_n 3, 21, 0, 0, 0),
  (21, .aload_n 0, 22, 0, 0, 0),
  (22, .iload_n 2, 23, 0, 0, 0),
  (23, .invokevirtual 207, 26, 0, 0, 0),
  (26, .invokestatic 184, 29, 0, 0, 0),
  (29, .istore 4, 31, 0, 0, 0),
  (31, .lconst 0, 32, 0, 0, 0),
  (32, .lstore 5, 34, 0, 0, 0),
  (34, .aload_n 0, 35, 0, 0, 0),
  (35, .iload_n 1, 36, 0, 0, 0),
  (36, .invokevirtual 207, 39, 0, 0, 0),
  (39, .aload_n 0, 40, 0, 0, 0),
  (40, .iload_n 2, 41, 0, 0, 0),
  (41, .invokevirtual 207, 44, 0, 0, 0),
  (44, .iand, 45, 0, 0, 0),
  (45, .invokestatic 184, 48, 0, 0, 0),
  (48, .istore 7, 50, 0, 0, 0),
  (50, .iload 7, 52, 0, 0, 0),
  (52, .iload_n 3, 53, 0, 0, 0),
  (53, .if_icmp .gt 34, 56, 87, 0, 0),
  (56, .lload 5, 58, 0, 0, 0),
  (58, .iload 4, 60, 0, 0, 0),
  (60, .iload 7, 62, 0, 0, 0),
  (62, .invokestatic 228, 65, 0, 0, 0),
  (65, .bipush 28, 67, 0, 0, 0),
  (67, .iload 4, 69, 0, 0, 0),
  (69, .isub, 70, 0, 0, 0),
  (70, .iload_n 3, 71, 0, 0, 0),
  (71, .iload 7, 73, 0, 0, 0),
  (73, .isub, 74, 0, 0, 0),
  (74, .invokestatic 228, 77, 0, 0, 0),
  (77, .lmul, 78, 0, 0, 0),
  (78, .ladd, 79, 0, 0, 0),
  (79, .lstore 5, 81, 0, 0, 0),
  (81, .iinc 7 1, 84, 0, 0, 0),
  (84, .goto (-34), 87, 50, 0, 0),
  (87, .bipush 28, 89, 0, 0, 0),
  (89, .iload_n 3, 90, 0, 0, 0),
  (90, .invokestatic 228, 93, 0, 0, 0),
  (93, .lstore 7, 95, 0, 0, 0),
  (95, .lload 5, 97, 0, 0, 0),
  (97, .lload 7, 99, 0, 0, 0),
  (99, .invokestatic 232, 102, 0, 0, 0),
  (102, .lstore 9, 104, 0, 0, 0),
  (104, .aload_n 0, 105, 0, 0, 0),
  (105, .lload 5, 107, 0, 0, 0),
  (107, .lload 9, 109, 0, 0, 0),
  (109, .ldiv, 110, 0, 0, 0),
  (110, .putfield 236, 113, 8, 3, 0),
  (113, .aload_n 0, 114, 0, 0, 0),
  (114, .lload 7, 116, 0, 0, 0),
  (116, .lload 9, 118, 0, 0, 0),
  (118, .ldiv, 119, 0, 0, 0),
  (119, .putfield 45, 122, 8, 4, 0),
  (122, .iconst 1, 123, 0, 0, 0),
  (123, .ireturn, 124, 0, 0, 0)]
def YM_chance : zY := (⟨"DiscLinesModel", "chance", "(II)I"⟩, 8, prog_11_method_60_code, 11, (some .int), rM_chance)
theorem oM_chance : zok YM_chance := (by decide +kernel : YM_chance.rows.all (zchk YM_chance) = true)
theorem ckM_chance : zCkV YM_chance 2 8 := ⟨⟨zt 1128 (by decide +kernel) rfl, zt 79 (by decide +kernel) rfl, by decide +kernel⟩, zt 1126 (by decide +kernel) rfl, zt 1127 (by decide +kernel) rfl, by decide⟩
def rM_part : List zRow := [(0, .iload_n 1, 1, 0, 0, 0),
  (1, .ifCond .ne 10, 4, 11, 0, 0),
  (4, .aload_n 0, 5, 0, 0, 0),
  (5, .getfield 236, 8, 8, 3, 0),
  (8, .goto 18, 11, 26, 0, 0),
  (11, .iload_n 1, 12, 0, 0, 0),
  (12, .iconst 1, 13, 0, 0, 0),
  (13, .if_icmp .ne 10, 16, 23, 0, 0),
  (16, .aload_n 0, 17, 0, 0, 0),
  (17, .getfield 45, 20, 8, 4, 0),
  (20, .goto 6, 23, 26, 0, 0),
  (23, .ldc2_w 239, 26, 0, 0, -1),
  (26, .lreturn, 27, 0, 0, 0)]
def YM_part : zY := (⟨"DiscLinesModel", "part", "(I)J"⟩, 8, prog_11_method_61_code, 2, (some .long), rM_part)
theorem oM_part : zok YM_part := (by decide +kernel : YM_part.rows.all (zchk YM_part) = true)
theorem ckM_part : zCkV YM_part 1 8 := ⟨⟨zt 1138 (by decide +kernel) rfl, zt 79 (by decide +kernel) rfl, by decide +kernel⟩, zt 1136 (by decide +kernel) rfl, zt 1137 (by decide +kernel) rfl, by decide⟩
def rM_own : List zRow := [(0, .iload_n 1, 1, 0, 0, 0),
  (1, .i2l, 2, 0, 0, 0),
  (2, .lconst 0, 3, 0, 0, 0),
  (3, .ldc2_w 241, 6, 0, 0, 28),
  (6, .invokestatic 51, 9, 0, 0, 0),
  (9, .ifCond .eq 14, 12, 23, 0, 0),
  (12, .aload_n 0, 13, 0, 0, 0),
  (13, .sipush 779, 16, 0, 0, 0),
  (16, .iload_n 1, 17, 0, 0, 0),
  (17, .invokevirtual 66, 20, 0, 0, 0),
  (20, .goto 5, 23, 25, 0, 0),
  (23, .bipush (-2), 25, 0, 0, 0),
  (25, .ireturn, 26, 0, 0, 0)]
def YM_own : zY := (⟨"DiscLinesModel", "own", "(I)I"⟩, 8, prog_11_method_62_code, 2, (some .int), rM_own)
theorem oM_own : zok YM_own := (by decide +kernel : YM_own.rows.all (zchk YM_own) = true)
theorem ckM_own : zCkV YM_own 1 8 := ⟨⟨zt 1143 (by decide +kernel) rfl, zt 79 (by decide +kernel) rfl, by decide +kernel⟩, zt 1141 (by decide +kernel) rfl, zt 1142 (by decide +kernel) rfl, by decide⟩
def rM_mayHave : List zRow := [(0, .aload_n 0, 1, 0, 0, 0),
  (1, .aload_n 0, 2, 0, 0, 0),
  (2, .iload_n 1, 3, 0, 0, 0),
  (3, .invokevirtual 216, 6, 0, 0, 0),
  (6, .aload_n 0, 7, 0, 0, 0),
  (7, .iload_n 1, 8, 0, 0, 0),
  (8, .invokevirtual 192, 11, 0, 0, 0),
  (11, .invokevirtual 204, 14, 0, 0, 0),
  (14, .istore_n 2, 15, 0, 0, 0),
  (15, .aload_n 0, 16, 0, 0, 0),
  (16, .aload_n 0, 17, 0, 0, 0),
  (17, .iload_n 1, 18, 0, 0, 0),
  (18, .invokevirtual 207, 21, 0, 0, 0),
  (21, .invokestatic 184, 24, 0, 0, 0),
  (24, .aload_n 0, 25, 0, 0, 0),
  (25, .getfield 7, 28, 8, 0, 0),
  (28, .sipush 779, 31, 0, 0, 0),
  (31, .iaload, 32, 0, 0, 0),
  (32, .iadd, 33, 0, 0, 0),
  (33, .putfield 243, 36, 8, 18, 0),
  (36, .ldc 246, 38, 0, 0, 65536),
  (38, .istore_n 3, 39, 0, 0, 0),
  (39, .iconst 0, 40, 0, 0, 0),
  (40, .istore 4, 42, 0, 0, 0),
  (42, .iload 4, 44, 0, 0, 0),
  (44, .iload_n 1, 45, 0, 0, 0),
  (45, .if_icmp .ge 94, 48, 139, 0, 0),
  (48, .iload_n 2, 49, 0, 0, 0),
  (49, .iload 4, 51, 0, 0, 0),
  (51, .ishr, 52, 0, 0, 0),
  (52, .iconst 1, 53, 0, 0, 0),
  (53, .iand, 54, 0, 0, 0),
  (54, .iconst 1, 55, 0, 0, 0),
  (55, .if_icmp .ne 78, 58, 133, 0, 0),
  (58, .aload_n 0, 59, 0, 0, 0),
  (59, .iload_n 1, 60, 0, 0, 0),
  (60, .invokevirtual 207, 63, 0, 0, 0),
  (63, .aload_n 0, 64, 0, 0, 0),
  (64, .iload 4, 66, 0, 0, 0),
  (66, .invokevirtual 207, 69, 0, 0, 0),
  (69, .ixor, 70, 0, 0, 0),
  (70, .invokestatic 184, 73, 0, 0, 0),
  (73, .istore 5, 75, 0, 0, 0),
  (75, .iload 5, 77, 0, 0, 0),
  (77, .aload_n 0, 78, 0, 0, 0),
  (78, .getfield 243, 81, 8, 18, 0),
  (81, .if_icmp .ge 10, 84, 91, 0, 0),
  (84, .iconst 1, 85, 0, 0, 0),
  (85, .iload 4, 87, 0, 0, 0),
  (87, .ishl, 88, 0, 0, 0),
  (88, .goto 22, 91, 110, 0, 0),
  (91, .iload 5, 93, 0, 0, 0),
  (93, .aload_n 0, 94, 0, 0, 0),
  (94, .getfield 243, 97, 8, 18, 0),
  (97, .if_icmp .ne 12, 100, 109, 0, 0),
  (100, .iload_n 3, 101, 0, 0, 0),
  (101, .iconst 1, 102, 0, 0, 0),
  (102, .iload 4, 104, 0, 0, 0),
  (104, .ishl, 105, 0, 0, 0),
  (105, .ior, 106, 0, 0, 0),
  (106, .goto 4, 109, 110, 0, 0),
  (109, .iload_n 3, 110, 0, 0, 0),
  (110, .istore_n 3, 111, 0, 0, 0),
  (111, .aload_n 0, 112, 0, 0, 0),
  (112, .iload 5, 114, 0, 0, 0),
  (114, .aload_n 0, 115, 0, 0, 0),
  (115, .getfield 243, 118, 8, 18, 0),
  (118, .if_icmp .ge 8, 121, 126, 0, 0),
  (121, .iload 5, 123, 0, 0, 0),
  (123, .goto 7, 126, 130, 0, 0),
  (126, .aload_n 0, 127, 0, 0, 0),
  (127, .getfield 243, 130, 8, 18, 0),
  (130, .putfield 243, 133, 8, 18, 0),
  (133, .iinc 4 1, 136, 0, 0, 0),
  (136, .goto (-94), 139, 42, 0, 0),
  (139, .iload_n 3, 140, 0, 0, 0),
  (140, .ireturn, 141, 0, 0, 0)]
def YM_mayHave : zY := (⟨"DiscLinesModel", "mayHave", "(I)I"⟩, 8, prog_11_method_63_code, 6, (some .int), rM_mayHave)
theorem oM_mayHave : zok YM_mayHave := (by decide +kernel : YM_mayHave.rows.all (zchk YM_mayHave) = true)
theorem ckM_mayHave : zCkV YM_mayHave 1 8 := ⟨⟨zt 1152 (by decide +kernel) rfl, zt 79 (by decide +kernel) rfl, by decide +kernel⟩, zt 1151 (by decide +kernel) rfl, zt 58 (by decide +kernel) rfl, by decide⟩
def rM_oldest : List zRow := [(0, .iload_n 1, 1, 0, 0, 0),
  (1, .istore_n 2, 2, 0, 0, 0),
  (2, .aload_n 0, 3, 0, 0, 0),
  (3, .iload_n 2, 4, 0, 0, 0),
  (4, .invokevirtual 247, 7, 0, 0, 0),
  (7, .istore_n 3, 8, 0, 0, 0),
  (8, .iload_n 3, 9, 0, 0, 0),
  (9, .bipush 16, 11, 0, 0, 0),
  (11, .ishr, 12, 0, 0, 0),
  (12, .ifCond .ne 28, 15, 40, 0, 0),
  (15, .iconst 0, 16, 0, 0, 0),
  (16, .istore_n 2, 17, 0, 0, 0),
  (17, .iload_n 3, 18, 0, 0, 0),
  (18, .iload_n 2, 19, 0, 0, 0),
  (19, .ishr, 20, 0, 0, 0),
  (20, .iconst 1, 21, 0, 0, 0),
  (21, .iand, 22, 0, 0, 0),
  (22, .ifCond .ne 9, 25, 31, 0, 0),
  (25, .iinc 2 1, 28, 0, 0, 0),
  (28, .goto (-11), 31, 17, 0, 0),
  (31, .aload_n 0, 32, 0, 0, 0),
  (32, .iload_n 2, 33, 0, 0, 0),
  (33, .invokevirtual 247, 36, 0, 0, 0),
  (36, .istore_n 3, 37, 0, 0, 0),
  (37, .goto (-29), 40, 8, 0, 0),
  (40, .iload_n 2, 41, 0, 0, 0),
  (41, .ireturn, 42, 0, 0, 0)]
def YM_oldest : zY := (⟨"DiscLinesModel", "oldest", "(I)I"⟩, 8, prog_11_method_64_code, 4, (some .int), rM_oldest)
theorem oM_oldest : zok YM_oldest := (by decide +kernel : YM_oldest.rows.all (zchk YM_oldest) = true)
theorem ckM_oldest : zCkV YM_oldest 1 8 := ⟨⟨zt 1157 (by decide +kernel) rfl, zt 79 (by decide +kernel) rfl, by decide +kernel⟩, zt 1156 (by decide +kernel) rfl, zt 59 (by decide +kernel) rfl, by decide⟩
def rM_took : List zRow := [(0, .aload_n 0, 1, 0, 0, 0),
  (1, .iload_n 1, 2, 0, 0, 0),
  (2, .invokevirtual 213, 5, 0, 0, 0),
  (5, .ifCond .eq 15, 8, 20, 0, 0),
  (8, .iload_n 2, 9, 0, 0, 0),
  (9, .i2l, 10, 0, 0, 0),
  (10, .lconst 0, 11, 0, 0, 0),
  (11, .ldc2_w 49, 14, 0, 0, 3),
  (14, .invokestatic 51, 17, 0, 0, 0),
  (17, .ifCond .ne 6, 20, 23, 0, 0),
  (20, .bipush (-2), 22, 0, 0, 0),
  (22, .ireturn, 23, 0, 0, 0),
  (23, .aload_n 0, 24, 0, 0, 0),
  (24, .iload_n 1, 25, 0, 0, 0),
  (25, .invokevirtual 247, 28, 0, 0, 0),
  (28, .istore_n 3, 29, 0, 0, 0),
  (29, .iload_n 2, 30, 0, 0, 0),
  (30, .ifCond .ne 7, 33, 37, 0, 0),
  (33, .iload_n 3, 34, 0, 0, 0),
  (34, .goto 41, 37, 75, 0, 0),
  (37, .iload_n 2, 38, 0, 0, 0),
  (38, .iconst 1, 39, 0, 0, 0),
  (39, .if_icmp .ne 10, 42, 49, 0, 0),
  (42, .aload_n 0, 43, 0, 0, 0),
  (43, .getfield 243, 46, 8, 18, 0),
  (46, .goto 29, 49, 75, 0, 0),
  (49, .iload_n 2, 50, 0, 0, 0),
  (50, .iconst 2, 51, 0, 0, 0),
  (51, .if_icmp .ne 19, 54, 70, 0, 0),
  (54, .iload_n 3, 55, 0, 0, 0),
  (55, .invokestatic 184, 58, 0, 0, 0),
  (58, .iconst 1, 59, 0, 0, 0),
  (59, .if_icmp .ne 7, 62, 66, 0, 0),
  (62, .iconst 1, 63, 0, 0, 0),
  (63, .goto 12, 66, 75, 0, 0),
  (66, .iconst 0, 67, 0, 0, 0),
  (67, .goto 8, 70, 75, 0, 0),
  (70, .aload_n 0, 71, 0, 0, 0),
  (71, .iload_n 1, 72, 0, 0, 0),
  (72, .invokevirtual 250, 75, 0, 0, 0),
  (75, .ireturn, 76, 0, 0, 0)]
def YM_took : zY := (⟨"DiscLinesModel", "took", "(II)I"⟩, 8, prog_11_method_65_code, 4, (some .int), rM_took)
theorem oM_took : zok YM_took := (by decide +kernel : YM_took.rows.all (zchk YM_took) = true)
theorem ckM_took : zCkV YM_took 2 8 := ⟨⟨zt 1148 (by decide +kernel) rfl, zt 79 (by decide +kernel) rfl, by decide +kernel⟩, zt 1146 (by decide +kernel) rfl, zt 1147 (by decide +kernel) rfl, by decide⟩
def rM_ways : List zRow := [(0, .lconst 1, 1, 0, 0, 0),
  (1, .lstore_n 1, 2, 0, 0, 0),
  (2, .iconst 0, 3, 0, 0, 0),
  (3, .istore_n 3, 4, 0, 0, 0),
  (4, .iload_n 3, 5, 0, 0, 0),
  (5, .aload_n 0, 6, 0, 0, 0),
  (6, .getfield 7, 9, 8, 0, 0),
  (9, .sipush 549, 12, 0, 0, 0),
  (12, .iaload, 13, 0, 0, 0),
  (13, .if_icmp .ge 21, 16, 34, 0, 0),
  (16, .lload_n 1, 17, 0, 0, 0),
  (17, .aload_n 0, 18, 0, 0, 0),
  (18, .iload_n 3, 19, 0, 0, 0),
  (19, .invokevirtual 247, 22, 0, 0, 0),
  (22, .invokestatic 184, 25, 0, 0, 0),
  (25, .i2l, 26, 0, 0, 0),
  (26, .lmul, 27, 0, 0, 0),
  (27, .lstore_n 1, 28, 0, 0, 0),
  (28, .iinc 3 1, 31, 0, 0, 0),
  (31, .goto (-27), 34, 4, 0, 0),
  (34, .lload_n 1, 35, 0, 0, 0),
  (35, .lreturn, 36, 0, 0, 0)]
def YM_ways : zY := (⟨"DiscLinesModel", "ways", "()J"⟩, 8, prog_11_method_66_code, 4, (some .long), rM_ways)
theorem oM_ways : zok YM_ways := (by decide +kernel : YM_ways.rows.all (zchk YM_ways) = true)
theorem ckM_ways : zCkV YM_ways 0 8 := ⟨⟨zt 1161 (by decide +kernel) rfl, zt 79 (by decide +kernel) rfl, by decide +kernel⟩, zt 1159 (by decide +kernel) rfl, zt 1160 (by decide +kernel) rfl, by decide⟩
def rM_guess : List zRow := [(0, .iload_n 1, 1, 0, 0, 0),
  (1, .invokestatic 57, 4, 0, 0, 0),
  (4, .ifCond .eq 17, 7, 21, 0, 0),
  (7, .iload_n 2, 8, 0, 0, 0),
  (8, .invokestatic 57, 11, 0, 0, 0),
  (11, .ifCond .eq 10, 14, 21, 0, 0),
  (14, .iload_n 3, 15, 0, 0, 0),
  (15, .invokestatic 57, 18, 0, 0, 0),
  (18, .ifCond .ne 6, 21, 24, 0, 0),
  (21, .bipush (-2), 23, 0, 0, 0),
  (23, .ireturn, 24, 0, 0, 0),
  (24, .aload_n 0, 25, 0, 0, 0),
  (25, .getfield 7, 28, 8, 0, 0),
  (28, .sipush 780, 31, 0, 0, 0),
  (31, .iaload, 32, 0, 0, 0),
  (32, .istore 4, 34, 0, 0, 0),
  (34, .iload 4, 36, 0, 0, 0),
  (36, .bipush 12, 38, 0, 0, 0),
  (38, .if_icmp .ne 6, 41, 44, 0, 0),
  (41, .bipush (-4), 43, 0, 0, 0),
  (43, .ireturn, 44, 0, 0, 0),
  (44, .aload_n 0, 45, 0, 0, 0),
  (45, .getfield 7, 48, 8, 0, 0),
  (48, .sipush 781, 51, 0, 0, 0),
  (51, .iconst 3, 52, 0, 0, 0),
  (52, .iload 4, 54, 0, 0, 0),
  (54, .imul, 55, 0, 0, 0),
  (55, .iadd, 56, 0, 0, 0),
  (56, .iload_n 1, 57, 0, 0, 0),
  (57, .iastore, 58, 0, 0, 0),
  (58, .aload_n 0, 59, 0, 0, 0),
  (59, .getfield 7, 62, 8, 0, 0),
  (62, .sipush 782, 65, 0, 0, 0),
  (65, .iconst 3, 66, 0, 0, 0),
  (66, .iload 4, 68, 0, 0, 0),
  (68, .imul, 69, 0, 0, 0),
  (69, .iadd, 70, 0, 0, 0),
  (70, .iload_n 2, 71, 0, 0, 0),
  (71, .iastore, 72, 0, 0, 0),
  (72, .aload_n 0, 73, 0, 0, 0),
  (73, .getfield 7, 76, 8, 0, 0),
  (76, .sipush 783, 79, 0, 0, 0),
  (79, .iconst 3, 80, 0, 0, 0),
  (80, .iload 4, 82, 0, 0, 0),
  (82, .imul, 83, 0, 0, 0),
  (83, .iadd, 84, 0, 0, 0),
  (84, .iload_n 3, 85, 0, 0, 0),
  (85, .iastore, 86, 0, 0, 0),
  (86, .aload_n 0, 87, 0, 0, 0),
  (87, .getfield 7, 90, 8, 0, 0),
  (90, .sipush 780, 93, 0, 0, 0),
  (93, .dup2, 94, 0, 0, 0),
  (94, .iaload, 95, 0, 0, 0),
  (95, .iconst 1, 96, 0, 0, 0),
  (96, .iadd, 97, 0, 0, 0),
  (97, .iastore, 98, 0, 0, 0),
  (98, .iload 4, 100, 0, 0, 0),
  (100, .ireturn, 101, 0, 0, 0)]
def YM_guess : zY := (⟨"DiscLinesModel", "guess", "(III)I"⟩, 8, prog_11_method_67_code, 5, (some .int), rM_guess)
theorem oM_guess : zok YM_guess := (by decide +kernel : YM_guess.rows.all (zchk YM_guess) = true)
theorem ckM_guess : zCkV YM_guess 3 8 := ⟨⟨zt 1165 (by decide +kernel) rfl, zt 79 (by decide +kernel) rfl, by decide +kernel⟩, zt 1163 (by decide +kernel) rfl, zt 1164 (by decide +kernel) rfl, by decide⟩
def rM_error : List zRow := [(0, .iload_n 1, 1, 0, 0, 0),
  (1, .i2l, 2, 0, 0, 0),
  (2, .lconst 0, 3, 0, 0, 0),
  (3, .ldc2_w 241, 6, 0, 0, 28),
  (6, .invokestatic 51, 9, 0, 0, 0),
  (9, .ifCond .eq 14, 12, 23, 0, 0),
  (12, .aload_n 0, 13, 0, 0, 0),
  (13, .sipush 817, 16, 0, 0, 0),
  (16, .iload_n 1, 17, 0, 0, 0),
  (17, .invokevirtual 66, 20, 0, 0, 0),
  (20, .goto 5, 23, 25, 0, 0),
  (23, .bipush (-2), 25, 0, 0, 0),
  (25, .ireturn, 26, 0, 0, 0)]
def YM_error : zY := (⟨"DiscLinesModel", "error", "(I)I"⟩, 8, prog_11_method_68_code, 2, (some .int), rM_error)
theorem oM_error : zok YM_error := (by decide +kernel : YM_error.rows.all (zchk YM_error) = true)
theorem ckM_error : zCkV YM_error 1 8 := ⟨⟨zt 1169 (by decide +kernel) rfl, zt 79 (by decide +kernel) rfl, by decide +kernel⟩, zt 1167 (by decide +kernel) rfl, zt 1168 (by decide +kernel) rfl, by decide⟩
def rM_allowsOf : List zRow := [(0, .sipush 781, 3, 0, 0, 0),
  (3, .iconst 3, 4, 0, 0, 0),
  (4, .iload_n 1, 5, 0, 0, 0),
  (5, .imul, 6, 0, 0, 0),
  (6, .iadd, 7, 0, 0, 0),
  (7, .istore_n 3, 8, 0, 0, 0),
  (8, .aload_n 0, 9, 0, 0, 0),
  (9, .aload_n 0, 10, 0, 0, 0),
  (10, .getfield 7, 13, 8, 0, 0),
  (13, .iload_n 3, 14, 0, 0, 0),
  (14, .iconst 1, 15, 0, 0, 0),
  (15, .iadd, 16, 0, 0, 0),
  (16, .iaload, 17, 0, 0, 0),
  (17, .aload_n 0, 18, 0, 0, 0),
  (18, .getfield 7, 21, 8, 0, 0),
  (21, .iload_n 3, 22, 0, 0, 0),
  (22, .iaload, 23, 0, 0, 0),
  (23, .iconst 0, 24, 0, 0, 0),
  (24, .aload_n 0, 25, 0, 0, 0),
  (25, .getfield 7, 28, 8, 0, 0),
  (28, .iload_n 3, 29, 0, 0, 0),
  (29, .iconst 2, 30, 0, 0, 0),
  (30, .iadd, 31, 0, 0, 0),
  (31, .iaload, 32, 0, 0, 0),
  (32, .iconst 0, 33, 0, 0, 0),
  (33, .aload_n 0, 34, 0, 0, 0),
  (34, .iload_n 2, 35, 0, 0, 0),
  (35, .invokevirtual 219, 38, 0, 0, 0),
  (38, .invokevirtual 177, 41, 0, 0, 0),
  (41, .istore 4, 43, 0, 0, 0),
  (43, .iload 4, 45, 0, 0, 0),
  (45, .aload_n 0, 46, 0, 0, 0),
  (46, .iload_n 2, 47, 0, 0, 0),
  (47, .invokevirtual 207, 50, 0, 0, 0),
  (50, .ixor, 51, 0, 0, 0),
  (51, .invokestatic 184, 54, 0, 0, 0),
  (54, .aload_n 0, 55, 0, 0, 0),
  (55, .getfield 7, 58, 8, 0, 0),
  (58, .sipush 817, 61, 0, 0, 0),
  (61, .iaload, 62, 0, 0, 0),
  (62, .if_icmp .gt 7, 65, 69, 0, 0),
  (65, .iconst 1, 66, 0, 0, 0),
  (66, .goto 4, 69, 70, 0, 0),
  (69, .iconst 0, 70, 0, 0, 0),
  (70, .ireturn, 71, 0, 0, 0)]
def YM_allowsOf : zY := (⟨"DiscLinesModel", "allowsOf", "(II)Z"⟩, 8, prog_11_method_69_code, 5, (some .boolean), rM_allowsOf)
theorem oM_allowsOf : zok YM_allowsOf := (by decide +kernel : YM_allowsOf.rows.all (zchk YM_allowsOf) = true)
theorem ckM_allowsOf : zCkV YM_allowsOf 2 8 := ⟨⟨zt 1177 (by decide +kernel) rfl, zt 79 (by decide +kernel) rfl, by decide +kernel⟩, zt 1176 (by decide +kernel) rfl, zt 60 (by decide +kernel) rfl, by decide⟩
def rM_allows : List zRow := [(0, .iload_n 1, 1, 0, 0, 0),
  (1, .i2l, 2, 0, 0, 0),
  (2, .lconst 0, 3, 0, 0, 0),
  (3, .aload_n 0, 4, 0, 0, 0),
  (4, .getfield 7, 7, 8, 0, 0),
  (7, .sipush 780, 10, 0, 0, 0),
  (10, .iaload, 11, 0, 0, 0),
  (11, .iconst 1, 12, 0, 0, 0),
  (12, .isub, 13, 0, 0, 0),
  (13, .i2l, 14, 0, 0, 0),
  (14, .invokestatic 51, 17, 0, 0, 0),
  (17, .ifCond .eq 11, 20, 28, 0, 0),
  (20, .aload_n 0, 21, 0, 0, 0),
  (21, .iload_n 2, 22, 0, 0, 0),
  (22, .invokevirtual 213, 25, 0, 0, 0),
  (25, .ifCond .ne 6, 28, 31, 0, 0),
  (28, .bipush (-2), 30, 0, 0, 0),
  (30, .ireturn, 31, 0, 0, 0),
  (31, .aload_n 0, 32, 0, 0, 0),
  (32, .iload_n 1, 33, 0, 0, 0),
  (33, .iload_n 2, 34, 0, 0, 0),
  (34, .invokevirtual 253, 37, 0, 0, 0),
  (37, .ifCond .eq 7, 40, 44, 0, 0),
  (40, .iconst 1, 41, 0, 0, 0),
  (41, .goto 4, 44, 45, 0, 0),
  (44, .iconst 0, 45, 0, 0, 0),
  (45, .ireturn, 46, 0, 0, 0)]
def YM_allows : zY := (⟨"DiscLinesModel", "allows", "(II)I"⟩, 8, prog_11_method_70_code, 3, (some .int), rM_allows)
theorem oM_allows : zok YM_allows := (by decide +kernel : YM_allows.rows.all (zchk YM_allows) = true)
theorem ckM_allows : zCkV YM_allows 2 8 := ⟨⟨zt 1173 (by decide +kernel) rfl, zt 79 (by decide +kernel) rfl, by decide +kernel⟩, zt 1171 (by decide +kernel) rfl, zt 1172 (by decide +kernel) rfl, by decide⟩
def rM_isSheets : List zRow := [(0, .iload_n 1, 1, 0, 0, 0),
  (1, .i2l, 2, 0, 0, 0),
  (2, .lconst 0, 3, 0, 0, 0),
  (3, .iconst 1, 4, 0, 0, 0),
  (4, .aload_n 0, 5, 0, 0, 0),
  (5, .getfield 7, 8, 8, 0, 0),
  (8, .sipush 549, 11, 0, 0, 0),
  (11, .iaload, 12, 0, 0, 0),
  (12, .ishl, 13, 0, 0, 0),
  (13, .iconst 1, 14, 0, 0, 0),
  (14, .isub, 15, 0, 0, 0),
  (15, .i2l, 16, 0, 0, 0),
  (16, .invokestatic 51, 19, 0, 0, 0),
  (19, .ireturn, 20, 0, 0, 0)]
def YM_isSheets : zY := (⟨"DiscLinesModel", "isSheets", "(I)Z"⟩, 8, prog_11_method_71_code, 2, (some .boolean), rM_isSheets)
theorem oM_isSheets : zok YM_isSheets := (by decide +kernel : YM_isSheets.rows.all (zchk YM_isSheets) = true)
theorem ckM_isSheets : zCkV YM_isSheets 1 8 := ⟨⟨zt 1185 (by decide +kernel) rfl, zt 79 (by decide +kernel) rfl, by decide +kernel⟩, zt 1184 (by decide +kernel) rfl, zt 61 (by decide +kernel) rfl, by decide⟩
def rM_mayBeOf : List zRow := [(0, .iconst 0, 1, 0, 0, 0),
  (1, .istore_n 2, 2, 0, 0, 0),
  (2, .iconst 0, 3, 0, 0, 0),
  (3, .istore_n 3, 4, 0, 0, 0),
  (4, .iload_n 3, 5, 0, 0, 0),
  (5, .aload_n 0, 6, 0, 0, 0),
  (6, .getfield 7, 9, 8, 0, 0),
  (9, .sipush 780, 12, 0, 0, 0),
  (12, .iaload, 13, 0, 0, 0),
  (13, .if_icmp .ge 80, 16, 93, 0, 0),
  (16, .iconst 1, 17, 0, 0, 0),
  (17, .istore 4, 19, 0, 0, 0),
  (19, .iconst 0, 20, 0, 0, 0),
  (20, .istore 5, 22, 0, 0, 0),
  (22, .iload 5, 24, 0, 0, 0),
  (24, .aload_n 0, 25, 0, 0, 0),
  (25, .getfield 7, 28, 8, 0, 0),
  (28, .sipush 549, 31, 0, 0, 0),
  (31, .iaload, 32, 0, 0, 0),
  (32, .if_icmp .ge 40, 35, 72, 0, 0),
  (35, .iload 4, 37, 0, 0, 0),
  (37, .ifCond .eq 35, 40, 72, 0, 0),
  (40, .iload_n 1, 41, 0, 0, 0),
  (41, .iload 5, 43, 0, 0, 0),
  (43, .ishr, 44, 0, 0, 0),
  (44, .iconst 1, 45, 0, 0, 0),
  (45, .iand, 46, 0, 0, 0),
  (46, .ifCond .eq 13, 49, 59, 0, 0),
  (49, .aload_n 0, 50, 0, 0, 0),
  (50, .iload_n 3, 51, 0, 0, 0),
  (51, .iload 5, 53, 0, 0, 0),
  (53, .invokevirtual 253, 56, 0, 0, 0),
  (56, .ifCond .eq 7, 59, 63, 0, 0),
  (59, .iconst 1, 60, 0, 0, 0),
  (60, .goto 4, 63, 64, 0, 0),
  (63, .iconst 0, 64, 0, 0, 0),
  (64, .istore 4, 66, 0, 0, 0),
  (66, .iinc 5 1, 69, 0, 0, 0),
  (69, .goto (-47), 72, 22, 0, 0),
  (72, .iload_n 2, 73, 0, 0, 0),
  (73, .iload 4, 75, 0, 0, 0),
  (75, .ifCond .eq 9, 78, 84, 0, 0),
  (78, .iconst 1, 79, 0, 0, 0),
  (79, .iload_n 3, 80, 0, 0, 0),
  (80, .ishl, 81, 0, 0, 0),
  (81, .goto 4, 84, 85, 0, 0),
  (84, .iconst 0, 85, 0, 0, 0),
  (85, .ior, 86, 0, 0, 0),
  (86, .istore_n 2, 87, 0, 0, 0),
  (87, .iinc 3 1, 90, 0, 0, 0),
  (90, .goto (-86), 93, 4, 0, 0),
  (93, .iload_n 2, 94, 0, 0, 0),
  (94, .ireturn, 95, 0, 0, 0)]
def YM_mayBeOf : zY := (⟨"DiscLinesModel", "mayBeOf", "(I)I"⟩, 8, prog_11_method_72_code, 6, (some .int), rM_mayBeOf)
theorem oM_mayBeOf : zok YM_mayBeOf := (by decide +kernel : YM_mayBeOf.rows.all (zchk YM_mayBeOf) = true)
theorem ckM_mayBeOf : zCkV YM_mayBeOf 1 8 := ⟨⟨zt 1189 (by decide +kernel) rfl, zt 79 (by decide +kernel) rfl, by decide +kernel⟩, zt 1188 (by decide +kernel) rfl, zt 62 (by decide +kernel) rfl, by decide⟩
def rM_mayBe : List zRow := [(0, .aload_n 0, 1, 0, 0, 0),
  (1, .iload_n 1, 2, 0, 0, 0),
  (2, .invokevirtual 256, 5, 0, 0, 0),
  (5, .ifCond .eq 11, 8, 16, 0, 0),
  (8, .aload_n 0, 9, 0, 0, 0),
  (9, .iload_n 1, 10, 0, 0, 0),
  (10, .invokevirtual 259, 13, 0, 0, 0),
  (13, .goto 5, 16, 18, 0, 0),
  (16, .bipush (-2), 18, 0, 0, 0),
  (18, .ireturn, 19, 0, 0, 0)]
def YM_mayBe : zY := (⟨"DiscLinesModel", "mayBe", "(I)I"⟩, 8, prog_11_method_73_code, 2, (some .int), rM_mayBe)
theorem oM_mayBe : zok YM_mayBe := (by decide +kernel : YM_mayBe.rows.all (zchk YM_mayBe) = true)
theorem ckM_mayBe : zCkV YM_mayBe 1 8 := ⟨⟨zt 1181 (by decide +kernel) rfl, zt 79 (by decide +kernel) rfl, by decide +kernel⟩, zt 1179 (by decide +kernel) rfl, zt 1180 (by decide +kernel) rfl, by decide⟩
def rM_worldsBy : List zRow := [(0, .aload_n 0, 1, 0, 0, 0),
  (1, .iload_n 1, 2, 0, 0, 0),
  (2, .invokevirtual 259, 5, 0, 0, 0),
  (5, .istore_n 2, 6, 0, 0, 0),
  (6, .iconst 0, 7, 0, 0, 0),
  (7, .istore_n 3, 8, 0, 0, 0),
  (8, .iconst 0, 9, 0, 0, 0),
  (9, .istore 4, 11, 0, 0, 0),
  (11, .iload 4, 13, 0, 0, 0),
  (13, .aload_n 0, 14, 0, 0, 0),
  (14, .getfield 7, 17, 8, 0, 0),
  (17, .sipush 780, 20, 0, 0, 0),
  (20, .iaload, 21, 0, 0, 0),
  (21, .if_icmp .ge 41, 24, 62, 0, 0),
  (24, .iload_n 3, 25, 0, 0, 0),
  (25, .iload_n 2, 26, 0, 0, 0),
  (26, .iload 4, 28, 0, 0, 0),
  (28, .ishr, 29, 0, 0, 0),
  (29, .iconst 1, 30, 0, 0, 0),
  (30, .iand, 31, 0, 0, 0),
  (31, .iconst 1, 32, 0, 0, 0),
  (32, .if_icmp .ne 21, 35, 53, 0, 0),
  (35, .iconst 1, 36, 0, 0, 0),
  (36, .aload_n 0, 37, 0, 0, 0),
  (37, .getfield 7, 40, 8, 0, 0),
  (40, .sipush 781, 43, 0, 0, 0),
  (43, .iconst 3, 44, 0, 0, 0),
  (44, .iload 4, 46, 0, 0, 0),
  (46, .imul, 47, 0, 0, 0),
  (47, .iadd, 48, 0, 0, 0),
  (48, .iaload, 49, 0, 0, 0),
  (49, .ishl, 50, 0, 0, 0),
  (50, .goto 4, 53, 54, 0, 0),
  (53, .iconst 0, 54, 0, 0, 0),
  (54, .ior, 55, 0, 0, 0),
  (55, .istore_n 3, 56, 0, 0, 0),
  (56, .iinc 4 1, 59, 0, 0, 0),
  (59, .goto (-48), 62, 11, 0, 0),
  (62, .iload_n 3, 63, 0, 0, 0),
  (63, .ireturn, 64, 0, 0, 0)]
def YM_worldsBy : zY := (⟨"DiscLinesModel", "worldsBy", "(I)I"⟩, 8, prog_11_method_74_code, 5, (some .int), rM_worldsBy)
theorem oM_worldsBy : zok YM_worldsBy := (by decide +kernel : YM_worldsBy.rows.all (zchk YM_worldsBy) = true)
theorem ckM_worldsBy : zCkV YM_worldsBy 1 8 := ⟨⟨zt 1197 (by decide +kernel) rfl, zt 79 (by decide +kernel) rfl, by decide +kernel⟩, zt 1196 (by decide +kernel) rfl, zt 63 (by decide +kernel) rfl, by decide⟩
def rM_there : List zRow := [(0, .aload_n 0, 1, 0, 0, 0),
  (1, .iload_n 1, 2, 0, 0, 0),
  (2, .invokevirtual 256, 5, 0, 0, 0),
  (5, .ifCond .eq 13, 8, 18, 0, 0),
  (8, .iload_n 2, 9, 0, 0, 0),
  (9, .i2l, 10, 0, 0, 0),
  (10, .lconst 0, 11, 0, 0, 0),
  (11, .lconst 1, 12, 0, 0, 0),
  (12, .invokestatic 51, 15, 0, 0, 0),
  (15, .ifCond .ne 6, 18, 21, 0, 0),
  (18, .bipush (-2), 20, 0, 0, 0),
  (20, .ireturn, 21, 0, 0, 0),
  (21, .aload_n 0, 22, 0, 0, 0),
  (22, .iload_n 1, 23, 0, 0, 0),
  (23, .invokevirtual 262, 26, 0, 0, 0),
  (26, .istore_n 3, 27, 0, 0, 0),
  (27, .ldc_w 265, 30, 0, 0, 268435455),
  (30, .istore 4, 32, 0, 0, 0),
  (32, .iconst 0, 33, 0, 0, 0),
  (33, .istore 5, 35, 0, 0, 0),
  (35, .iconst 0, 36, 0, 0, 0),
  (36, .istore 6, 38, 0, 0, 0),
  (38, .iload 6, 40, 0, 0, 0),
  (40, .iconst 4, 41, 0, 0, 0),
  (41, .if_icmp .ge 46, 44, 87, 0, 0),
  (44, .iload_n 3, 45, 0, 0, 0),
  (45, .iload 6, 47, 0, 0, 0),
  (47, .ishr, 48, 0, 0, 0),
  (48, .iconst 1, 49, 0, 0, 0),
  (49, .iand, 50, 0, 0, 0),
  (50, .iconst 1, 51, 0, 0, 0),
  (51, .if_icmp .ne 30, 54, 81, 0, 0),
  (54, .aload_n 0, 55, 0, 0, 0),
  (55, .iconst 0, 56, 0, 0, 0),
  (56, .iload 6, 58, 0, 0, 0),
  (58, .iconst 0, 59, 0, 0, 0),
  (59, .iconst 0, 60, 0, 0, 0),
  (60, .iconst 0, 61, 0, 0, 0),
  (61, .iconst 0, 62, 0, 0, 0),
  (62, .invokevirtual 177, 65, 0, 0, 0),
  (65, .istore 7, 67, 0, 0, 0),
  (67, .iload 4, 69, 0, 0, 0),
  (69, .iload 7, 71, 0, 0, 0),
  (71, .iand, 72, 0, 0, 0),
  (72, .istore 4, 74, 0, 0, 0),
  (74, .iload 5, 76, 0, 0, 0),
  (76, .iload 7, 78, 0, 0, 0),
  (78, .ior, 79, 0, 0, 0),
  (79, .istore 5, 81, 0, 0, 0),
  (81, .iinc 6 1, 84, 0, 0, 0),
  (84, .goto (-46), 87, 38, 0, 0),
  (87, .iload_n 3, 88, 0, 0, 0),
  (88, .ifCond .ne 7, 91, 95, 0, 0),
  (91, .iconst (-1), 92, 0, 0, 0),
  (92, .goto 14, 95, 106, 0, 0),
  (95, .iload_n 2, 96, 0, 0, 0),
  (96, .ifCond .ne 8, 99, 104, 0, 0),
  (99, .iload 4, 101, 0, 0, 0),
  (101, .goto 5, 104, 106, 0, 0),
  (104, .iload 5, 106, 0, 0, 0),
  (106, .ireturn, 107, 0, 0, 0)]
def YM_there : zY := (⟨"DiscLinesModel", "there", "(II)I"⟩, 8, prog_11_method_75_code, 8, (some .int), rM_there)
theorem oM_there : zok YM_there := (by decide +kernel : YM_there.rows.all (zchk YM_there) = true)
theorem ckM_there : zCkV YM_there 2 8 := ⟨⟨zt 1193 (by decide +kernel) rfl, zt 79 (by decide +kernel) rfl, by decide +kernel⟩, zt 1191 (by decide +kernel) rfl, zt 1192 (by decide +kernel) rfl, by decide⟩
def rM_unlikeWays : List zRow := [(0, .iconst 0, 1, 0, 0, 0),
  (1, .istore 4, 3, 0, 0, 0),
  (3, .iconst 0, 4, 0, 0, 0),
  (4, .istore 5, 6, 0, 0, 0),
  (6, .iload 5, 8, 0, 0, 0),
  (8, .iconst 4, 9, 0, 0, 0),
  (9, .if_icmp .ge 87, 12, 96, 0, 0),
  (12, .iload_n 1, 13, 0, 0, 0),
  (13, .iload 5, 15, 0, 0, 0),
  (15, .ishr, 16, 0, 0, 0),
  (16, .iconst 1, 17, 0, 0, 0),
  (17, .iand, 18, 0, 0, 0),
  (18, .iconst 1, 19, 0, 0, 0),
  (19, .if_icmp .ne 71, 22, 90, 0, 0),
  (22, .aload_n 0, 23, 0, 0, 0),
  (23, .iload_n 3, 24, 0, 0, 0),
  (24, .iload 5, 26, 0, 0, 0),
  (26, .iconst 0, 27, 0, 0, 0),
  (27, .iload_n 2, 28, 0, 0, 0),
  (28, .iconst 0, 29, 0, 0, 0),
  (29, .iconst 0, 30, 0, 0, 0),
  (30, .invokevirtual 177, 33, 0, 0, 0),
  (33, .istore 6, 35, 0, 0, 0),
  (35, .iconst 0, 36, 0, 0, 0),
  (36, .istore 7, 38, 0, 0, 0),
  (38, .iload 7, 40, 0, 0, 0),
  (40, .iload 4, 42, 0, 0, 0),
  (42, .if_icmp .ge 21, 45, 63, 0, 0),
  (45, .aload_n 0, 46, 0, 0, 0),
  (46, .getfield 42, 49, 8, 19, 0),
  (49, .iload 7, 51, 0, 0, 0),
  (51, .iaload, 52, 0, 0, 0),
  (52, .iload 6, 54, 0, 0, 0),
  (54, .if_icmp .eq 9, 57, 63, 0, 0),
  (57, .iinc 7 1, 60, 0, 0, 0),
  (60, .goto (-22), 63, 38, 0, 0),
  (63, .aload_n 0, 64, 0, 0, 0),
  (64, .getfield 42, 67, 8, 19, 0),
  (67, .iload 7, 69, 0, 0, 0),
  (69, .iload 6, 71, 0, 0, 0),
  (71, .iastore, 72, 0, 0, 0),
  (72, .iload 7, 74, 0, 0, 0),
  (74, .iload 4, 76, 0, 0, 0),
  (76, .if_icmp .ne 10, 79, 86, 0, 0),
  (79, .iload 4, 81, 0, 0, 0),
  (81, .iconst 1, 82, 0, 0, 0),
  (82, .iadd, 83, 0, 0, 0),
  (83, .goto 5, 86, 88, 0, 0),
  (86, .iload 4, 88, 0, 0, 0),
  (88, .istore 4, 90, 0, 0, 0),
  (90, .iinc 5 1, 93, 0, 0, 0),
  (93, .goto (-87), 96, 6, 0, 0),
  (96, .iload 4, 98, 0, 0, 0),
  (98, .ireturn, 99, 0, 0, 0)]
def YM_unlikeWays : zY := (⟨"DiscLinesModel", "unlikeWays", "(III)I"⟩, 8, prog_11_method_76_code, 8, (some .int), rM_unlikeWays)
theorem oM_unlikeWays : zok YM_unlikeWays := (by decide +kernel : YM_unlikeWays.rows.all (zchk YM_unlikeWays) = true)
theorem ckM_unlikeWays : zCkV YM_unlikeWays 3 8 := ⟨⟨zt 1206 (by decide +kernel) rfl, zt 79 (by decide +kernel) rfl, by decide +kernel⟩, zt 1205 (by decide +kernel) rfl, zt 64 (by decide +kernel) rfl, by decide⟩
def rM_parts : List zRow := [(0, .aload_n 0, 1, 0, 0, 0),
  (1, .iload_n 1, 2, 0, 0, 0),
  (2, .invokevirtual 256, 5, 0, 0, 0),
  (5, .ifCond .eq 13, 8, 18, 0, 0),
  (8, .iload_n 2, 9, 0, 0, 0),
  (9, .i2l, 10, 0, 0, 0),
  (10, .lconst 0, 11, 0, 0, 0),
  (11, .lconst 1, 12, 0, 0, 0),
  (12, .invokestatic 51, 15, 0, 0, 0),
  (15, .ifCond .ne 6, 18, 21, 0, 0),
  (18, .bipush (-2), 20, 0, 0, 0),
  (20, .ireturn, 21, 0, 0, 0),
  (21, .aload_n 0, 22, 0, 0, 0),
  (22, .iload_n 1, 23, 0, 0, 0),
  (23, .invokevirtual 262, 26, 0, 0, 0),
  (26, .istore_n 3, 27, 0, 0, 0),
  (27, .iconst (-1), 28, 0, 0, 0),
  (28, .istore 4, 30, 0, 0, 0),
  (30, .iconst 0, 31, 0, 0, 0),
  (31, .istore 5, 33, 0, 0, 0),
  (33, .iconst 0, 34, 0, 0, 0),
  (34, .istore 6, 36, 0, 0, 0),
  (36, .iload 6, 38, 0, 0, 0),
  (38, .iconst 4, 39, 0, 0, 0),
  (39, .if_icmp .ge 77, 42, 116, 0, 0),
  (42, .iload_n 3, 43, 0, 0, 0),
  (43, .ifCond .eq 73, 46, 116, 0, 0),
  (46, .iconst 0, 47, 0, 0, 0),
  (47, .istore 7, 49, 0, 0, 0),
  (49, .iload 7, 51, 0, 0, 0),
  (51, .iconst 4, 52, 0, 0, 0),
  (52, .if_icmp .ge 58, 55, 110, 0, 0),
  (55, .aload_n 0, 56, 0, 0, 0),
  (56, .iload_n 3, 57, 0, 0, 0),
  (57, .iload 6, 59, 0, 0, 0),
  (59, .iload 7, 61, 0, 0, 0),
  (61, .invokevirtual 266, 64, 0, 0, 0),
  (64, .istore 8, 66, 0, 0, 0),
  (66, .iload 8, 68, 0, 0, 0),
  (68, .iload 5, 70, 0, 0, 0),
  (70, .if_icmp .le 14, 73, 84, 0, 0),
  (73, .bipush 10, 75, 0, 0, 0),
  (75, .iload 6, 77, 0, 0, 0),
  (77, .imul, 78, 0, 0, 0),
  (78, .iload 7, 80, 0, 0, 0),
  (80, .iadd, 81, 0, 0, 0),
  (81, .goto 5, 84, 86, 0, 0),
  (84, .iload 4, 86, 0, 0, 0),
  (86, .istore 4, 88, 0, 0, 0),
  (88, .iload 8, 90, 0, 0, 0),
  (90, .iload 5, 92, 0, 0, 0),
  (92, .if_icmp .le 8, 95, 100, 0, 0),
  (95, .iload 8, 97, 0, 0, 0),
  (97, .goto 5, 100, 102, 0, 0),
  (100, .iload 5, 102, 0, 0, 0),
  (102, .istore 5, 104, 0, 0, 0),
  (104, .iinc 7 1, 107, 0, 0, 0),
  (107, .goto (-58), 110, 49, 0, 0),
  (110, .iinc 6 1, 113, 0, 0, 0),
  (113, .goto (-77), 116, 36, 0, 0),
  (116, .iload_n 3, 117, 0, 0, 0),
  (117, .ifCond .ne 7, 120, 124, 0, 0),
  (120, .iconst (-1), 121, 0, 0, 0),
  (121, .goto 14, 124, 135, 0, 0),
  (124, .iload_n 2, 125, 0, 0, 0),
  (125, .ifCond .ne 8, 128, 133, 0, 0),
  (128, .iload 4, 130, 0, 0, 0),
  (130, .goto 5, 133, 135, 0, 0),
  (133, .iload 5, 135, 0, 0, 0),
  (135, .ireturn, 136, 0, 0, 0)]
def YM_parts : zY := (⟨"DiscLinesModel", "parts", "(II)I"⟩, 8, prog_11_method_77_code, 9, (some .int), rM_parts)
theorem oM_parts : zok YM_parts := (by decide +kernel : YM_parts.rows.all (zchk YM_parts) = true)
theorem ckM_parts : zCkV YM_parts 2 8 := ⟨⟨zt 1202 (by decide +kernel) rfl, zt 79 (by decide +kernel) rfl, by decide +kernel⟩, zt 1200 (by decide +kernel) rfl, zt 1201 (by decide +kernel) rfl, by decide⟩
def rM_weightOf : List zRow := [(0, .aload_n 0, 1, 0, 0, 0),
  (1, .getfield 7, 4, 8, 0, 0),
  (4, .sipush 534, 7, 0, 0, 0),
  (7, .iconst 2, 8, 0, 0, 0),
  (8, .aload_n 0, 9, 0, 0, 0),
  (9, .iload_n 1, 10, 0, 0, 0),
  (10, .invokevirtual 216, 13, 0, 0, 0),
  (13, .imul, 14, 0, 0, 0),
  (14, .iadd, 15, 0, 0, 0),
  (15, .iaload, 16, 0, 0, 0),
  (16, .ireturn, 17, 0, 0, 0)]
def YM_weightOf : zY := (⟨"DiscLinesModel", "weightOf", "(I)I"⟩, 8, prog_11_method_78_code, 2, (some .int), rM_weightOf)
theorem oM_weightOf : zok YM_weightOf := (by decide +kernel : YM_weightOf.rows.all (zchk YM_weightOf) = true)
theorem ckM_weightOf : zCkV YM_weightOf 1 8 := ⟨⟨zt 1219 (by decide +kernel) rfl, zt 79 (by decide +kernel) rfl, by decide +kernel⟩, zt 1218 (by decide +kernel) rfl, zt 66 (by decide +kernel) rfl, by decide⟩
def rM_weight : List zRow := [(0, .iconst 0, 1, 0, 0, 0),
  (1, .istore_n 2, 2, 0, 0, 0),
  (2, .iconst 0, 3, 0, 0, 0),
  (3, .istore_n 3, 4, 0, 0, 0),
  (4, .iload_n 3, 5, 0, 0, 0),
  (5, .aload_n 0, 6, 0, 0, 0),
  (6, .getfield 7, 9, 8, 0, 0),
  (9, .sipush 549, 12, 0, 0, 0),
  (12, .iaload, 13, 0, 0, 0),
  (13, .if_icmp .ge 39, 16, 52, 0, 0),
  (16, .iload_n 2, 17, 0, 0, 0),
  (17, .aload_n 0, 18, 0, 0, 0),
  (18, .iload_n 3, 19, 0, 0, 0),
  (19, .invokevirtual 207, 22, 0, 0, 0),
  (22, .iload_n 1, 23, 0, 0, 0),
  (23, .ishr, 24, 0, 0, 0),
  (24, .iconst 1, 25, 0, 0, 0),
  (25, .iand, 26, 0, 0, 0),
  (26, .iconst 1, 27, 0, 0, 0),
  (27, .if_icmp .ne 11, 30, 38, 0, 0),
  (30, .aload_n 0, 31, 0, 0, 0),
  (31, .iload_n 3, 32, 0, 0, 0),
  (32, .invokevirtual 269, 35, 0, 0, 0),
  (35, .goto 9, 38, 44, 0, 0),
  (38, .aload_n 0, 39, 0, 0, 0),
  (39, .iload_n 3, 40, 0, 0, 0),
  (40, .invokevirtual 269, 43, 0, 0, 0),
  (43, .ineg, 44, 0, 0, 0),
  (44, .iadd, 45, 0, 0, 0),
  (45, .istore_n 2, 46, 0, 0, 0),
  (46, .iinc 3 1, 49, 0, 0, 0),
  (49, .goto (-45), 52, 4, 0, 0),
  (52, .iload_n 2, 53, 0, 0, 0),
  (53, .ireturn, 54, 0, 0, 0)]
def YM_weight : zY := (⟨"DiscLinesModel", "weight", "(I)I"⟩, 8, prog_11_method_79_code, 4, (some .int), rM_weight)
theorem oM_weight : zok YM_weight := (by decide +kernel : YM_weight.rows.all (zchk YM_weight) = true)
theorem ckM_weight : zCkV YM_weight 1 8 := ⟨⟨zt 1215 (by decide +kernel) rfl, zt 79 (by decide +kernel) rfl, by decide +kernel⟩, zt 1214 (by decide +kernel) rfl, zt 65 (by decide +kernel) rfl, by decide⟩
def rM_weighed : List zRow := [(0, .iload_n 1, 1, 0, 0, 0),
  (1, .i2l, 2, 0, 0, 0),
  (2, .ldc2_w 143, 5, 0, 0, 10),
  (5, .ldc2_w 272, 8, 0, 0, 37),
  (8, .invokestatic 51, 11, 0, 0, 0),
  (11, .ifCond .eq 12, 14, 23, 0, 0),
  (14, .aload_n 0, 15, 0, 0, 0),
  (15, .iload_n 1, 16, 0, 0, 0),
  (16, .bipush 10, 18, 0, 0, 0),
  (18, .isub, 19, 0, 0, 0),
  (19, .invokevirtual 274, 22, 0, 0, 0),
  (22, .ireturn, 23, 0, 0, 0),
  (23, .iload_n 1, 24, 0, 0, 0),
  (24, .i2l, 25, 0, 0, 0),
  (25, .lconst 0, 26, 0, 0, 0),
  (26, .lconst 1, 27, 0, 0, 0),
  (27, .invokestatic 51, 30, 0, 0, 0),
  (30, .ifCond .ne 7, 33, 37, 0, 0),
  (33, .sipush (-1000), 36, 0, 0, 0),
  (36, .ireturn, 37, 0, 0, 0),
  (37, .iconst 0, 38, 0, 0, 0),
  (38, .istore_n 2, 39, 0, 0, 0),
  (39, .iconst 0, 40, 0, 0, 0),
  (40, .istore_n 3, 41, 0, 0, 0),
  (41, .iload_n 3, 42, 0, 0, 0),
  (42, .aload_n 0, 43, 0, 0, 0),
  (43, .getfield 7, 46, 8, 0, 0),
  (46, .sipush 549, 49, 0, 0, 0),
  (49, .iaload, 50, 0, 0, 0),
  (50, .if_icmp .ge 17, 53, 67, 0, 0),
  (53, .iload_n 2, 54, 0, 0, 0),
  (54, .aload_n 0, 55, 0, 0, 0),
  (55, .iload_n 3, 56, 0, 0, 0),
  (56, .invokevirtual 269, 59, 0, 0, 0),
  (59, .iadd, 60, 0, 0, 0),
  (60, .istore_n 2, 61, 0, 0, 0),
  (61, .iinc 3 1, 64, 0, 0, 0),
  (64, .goto (-23), 67, 41, 0, 0),
  (67, .iconst 0, 68, 0, 0, 0),
  (68, .istore_n 3, 69, 0, 0, 0),
  (69, .iconst 0, 70, 0, 0, 0),
  (70, .istore 4, 72, 0, 0, 0),
  (72, .iload 4, 74, 0, 0, 0),
  (74, .bipush 28, 76, 0, 0, 0),
  (76, .if_icmp .ge 45, 79, 121, 0, 0),
  (79, .iload_n 3, 80, 0, 0, 0),
  (80, .aload_n 0, 81, 0, 0, 0),
  (81, .iload 4, 83, 0, 0, 0),
  (83, .invokevirtual 274, 86, 0, 0, 0),
  (86, .ifCond .le 26, 89, 112, 0, 0),
  (89, .iload_n 1, 90, 0, 0, 0),
  (90, .ifCond .eq 15, 93, 105, 0, 0),
  (93, .iconst 2, 94, 0, 0, 0),
  (94, .aload_n 0, 95, 0, 0, 0),
  (95, .iload 4, 97, 0, 0, 0),
  (97, .invokevirtual 274, 100, 0, 0, 0),
  (100, .imul, 101, 0, 0, 0),
  (101, .iload_n 2, 102, 0, 0, 0),
  (102, .if_icmp .lt 10, 105, 112, 0, 0),
  (105, .iconst 1, 106, 0, 0, 0),
  (106, .iload 4, 108, 0, 0, 0),
  (108, .ishl, 109, 0, 0, 0),
  (109, .goto 4, 112, 113, 0, 0),
  (112, .iconst 0, 113, 0, 0, 0),
  (113, .ior, 114, 0, 0, 0),
  (114, .istore_n 3, 115, 0, 0, 0),
  (115, .iinc 4 1, 118, 0, 0, 0),
  (118, .goto (-46), 121, 72, 0, 0),
  (121, .iload_n 3, 122, 0, 0, 0),
  (122, .ireturn, 123, 0, 0, 0)]
def YM_weighed : zY := (⟨"DiscLinesModel", "weighed", "(I)I"⟩, 8, prog_11_method_80_code, 5, (some .int), rM_weighed)
theorem oM_weighed : zok YM_weighed := (by decide +kernel : YM_weighed.rows.all (zchk YM_weighed) = true)
theorem ckM_weighed : zCkV YM_weighed 1 8 := ⟨⟨zt 1210 (by decide +kernel) rfl, zt 79 (by decide +kernel) rfl, by decide +kernel⟩, zt 1208 (by decide +kernel) rfl, zt 1209 (by decide +kernel) rfl, by decide⟩
def rM_season : List zRow := [(0, .aload_n 0, 1, 0, 0, 0),
  (1, .iload_n 1, 2, 0, 0, 0),
  (2, .invokevirtual 256, 5, 0, 0, 0),
  (5, .ifCond .eq 25, 8, 30, 0, 0),
  (8, .aload_n 0, 9, 0, 0, 0),
  (9, .iload_n 2, 10, 0, 0, 0),
  (10, .invokevirtual 256, 13, 0, 0, 0),
  (13, .ifCond .eq 17, 16, 30, 0, 0),
  (16, .iload_n 1, 17, 0, 0, 0),
  (17, .ifCond .eq 13, 20, 30, 0, 0),
  (20, .iload_n 2, 21, 0, 0, 0),
  (21, .ifCond .eq 9, 24, 30, 0, 0),
  (24, .iload_n 1, 25, 0, 0, 0),
  (25, .iload_n 2, 26, 0, 0, 0),
  (26, .iand, 27, 0, 0, 0),
  (27, .ifCond .eq 6, 30, 33, 0, 0),
  (30, .bipush (-2), 32, 0, 0, 0),
  (32, .ireturn, 33, 0, 0, 0),
  (33, .ldc_w 265, 36, 0, 0, 268435455),
  (36, .istore_n 3, 37, 0, 0, 0),
  (37, .iconst 0, 38, 0, 0, 0),
  (38, .istore 4, 40, 0, 0, 0),
  (40, .iload 4, 42, 0, 0, 0),
  (42, .aload_n 0, 43, 0, 0, 0),
  (43, .getfield 7, 46, 8, 0, 0),
  (46, .sipush 549, 49, 0, 0, 0),
  (49, .iaload, 50, 0, 0, 0),
  (50, .if_icmp .ge 57, 53, 107, 0, 0),
  (53, .iload_n 3, 54, 0, 0, 0),
  (54, .iload_n 1, 55, 0, 0, 0),
  (55, .iload 4, 57, 0, 0, 0),
  (57, .ishr, 58, 0, 0, 0),
  (58, .iconst 1, 59, 0, 0, 0),
  (59, .iand, 60, 0, 0, 0),
  (60, .iconst 1, 61, 0, 0, 0),
  (61, .if_icmp .ne 12, 64, 73, 0, 0),
  (64, .aload_n 0, 65, 0, 0, 0),
  (65, .iload 4, 67, 0, 0, 0),
  (67, .invokevirtual 207, 70, 0, 0, 0),
  (70, .goto 4, 73, 74, 0, 0),
  (73, .iconst (-1), 74, 0, 0, 0),
  (74, .iand, 75, 0, 0, 0),
  (75, .istore_n 3, 76, 0, 0, 0),
  (76, .iload_n 3, 77, 0, 0, 0),
  (77, .iload_n 2, 78, 0, 0, 0),
  (78, .iload 4, 80, 0, 0, 0),
  (80, .ishr, 81, 0, 0, 0),
  (81, .iconst 1, 82, 0, 0, 0),
  (82, .iand, 83, 0, 0, 0),
  (83, .iconst 1, 84, 0, 0, 0),
  (84, .if_icmp .ne 14, 87, 98, 0, 0),
  (87, .aload_n 0, 88, 0, 0, 0),
  (88, .iload 4, 90, 0, 0, 0),
  (90, .invokevirtual 207, 93, 0, 0, 0),
  (93, .iconst (-1), 94, 0, 0, 0),
  (94, .ixor, 95, 0, 0, 0),
  (95, .goto 4, 98, 99, 0, 0),
  (98, .iconst (-1), 99, 0, 0, 0),
  (99, .iand, 100, 0, 0, 0),
  (100, .istore_n 3, 101, 0, 0, 0),
  (101, .iinc 4 1, 104, 0, 0, 0),
  (104, .goto (-64), 107, 40, 0, 0),
  (107, .iload_n 3, 108, 0, 0, 0),
  (108, .ireturn, 109, 0, 0, 0)]
def YM_season : zY := (⟨"DiscLinesModel", "season", "(II)I"⟩, 8, prog_11_method_81_code, 5, (some .int), rM_season)
theorem oM_season : zok YM_season := (by decide +kernel : YM_season.rows.all (zchk YM_season) = true)
theorem ckM_season : zCkV YM_season 2 8 := ⟨⟨zt 1223 (by decide +kernel) rfl, zt 79 (by decide +kernel) rfl, by decide +kernel⟩, zt 1221 (by decide +kernel) rfl, zt 1222 (by decide +kernel) rfl, by decide⟩
def rM_image : List zRow := [(0, .iload_n 1, 1, 0, 0, 0),
  (1, .i2l, 2, 0, 0, 0),
  (2, .lconst 0, 3, 0, 0, 0),
  (3, .lconst 1, 4, 0, 0, 0),
  (4, .invokestatic 51, 7, 0, 0, 0),
  (7, .ifCond .ne 6, 10, 13, 0, 0),
  (10, .bipush (-2), 12, 0, 0, 0),
  (12, .ireturn, 13, 0, 0, 0),
  (13, .iconst 0, 14, 0, 0, 0),
  (14, .istore_n 2, 15, 0, 0, 0),
  (15, .iload_n 2, 16, 0, 0, 0),
  (16, .sipush 818, 19, 0, 0, 0),
  (19, .if_icmp .ge 27, 22, 46, 0, 0),
  (22, .aload_n 0, 23, 0, 0, 0),
  (23, .getfield 13, 26, 8, 1, 0),
  (26, .sipush 818, 29, 0, 0, 0),
  (29, .iload_n 1, 30, 0, 0, 0),
  (30, .imul, 31, 0, 0, 0),
  (31, .iload_n 2, 32, 0, 0, 0),
  (32, .iadd, 33, 0, 0, 0),
  (33, .aload_n 0, 34, 0, 0, 0),
  (34, .getfield 7, 37, 8, 0, 0),
  (37, .iload_n 2, 38, 0, 0, 0),
  (38, .iaload, 39, 0, 0, 0),
  (39, .iastore, 40, 0, 0, 0),
  (40, .iinc 2 1, 43, 0, 0, 0),
  (43, .goto (-28), 46, 15, 0, 0),
  (46, .aload_n 0, 47, 0, 0, 0),
  (47, .getfield 16, 50, 8, 2, 0),
  (50, .iload_n 1, 51, 0, 0, 0),
  (51, .iconst 1, 52, 0, 0, 0),
  (52, .bastore, 53, 0, 0, 0),
  (53, .iconst 1, 54, 0, 0, 0),
  (54, .ireturn, 55, 0, 0, 0)]
def YM_image : zY := (⟨"DiscLinesModel", "image", "(I)I"⟩, 8, prog_11_method_82_code, 3, (some .int), rM_image)
theorem oM_image : zok YM_image := (by decide +kernel : YM_image.rows.all (zchk YM_image) = true)
theorem ckM_image : zCkV YM_image 1 8 := ⟨⟨zt 1227 (by decide +kernel) rfl, zt 79 (by decide +kernel) rfl, by decide +kernel⟩, zt 1225 (by decide +kernel) rfl, zt 1226 (by decide +kernel) rfl, by decide⟩
def rM_from : List zRow := [(0, .iload_n 1, 1, 0, 0, 0),
  (1, .i2l, 2, 0, 0, 0),
  (2, .lconst 0, 3, 0, 0, 0),
  (3, .lconst 1, 4, 0, 0, 0),
  (4, .invokestatic 51, 7, 0, 0, 0),
  (7, .ifCond .ne 6, 10, 13, 0, 0),
  (10, .bipush (-2), 12, 0, 0, 0),
  (12, .ireturn, 13, 0, 0, 0),
  (13, .aload_n 0, 14, 0, 0, 0),
  (14, .getfield 16, 17, 8, 2, 0),
  (17, .iload_n 1, 18, 0, 0, 0),
  (18, .baload, 19, 0, 0, 0),
  (19, .ifCond .ne 6, 22, 25, 0, 0),
  (22, .bipush (-3), 24, 0, 0, 0),
  (24, .ireturn, 25, 0, 0, 0),
  (25, .iconst 0, 26, 0, 0, 0),
  (26, .istore_n 2, 27, 0, 0, 0),
  (27, .iload_n 2, 28, 0, 0, 0),
  (28, .sipush 818, 31, 0, 0, 0),
  (31, .if_icmp .ge 27, 34, 58, 0, 0),
  (34, .aload_n 0, 35, 0, 0, 0),
  (35, .getfield 7, 38, 8, 0, 0),
  (38, .iload_n 2, 39, 0, 0, 0),
  (39, .aload_n 0, 40, 0, 0, 0),
  (40, .getfield 13, 43, 8, 1, 0),
  (43, .sipush 818, 46, 0, 0, 0),
  (46, .iload_n 1, 47, 0, 0, 0),
  (47, .imul, 48, 0, 0, 0),
  (48, .iload_n 2, 49, 0, 0, 0),
  (49, .iadd, 50, 0, 0, 0),
  (50, .iaload, 51, 0, 0, 0),
  (51, .iastore, 52, 0, 0, 0),
  (52, .iinc 2 1, 55, 0, 0, 0),
  (55, .goto (-28), 58, 27, 0, 0),
  (58, .iconst 1, 59, 0, 0, 0),
  (59, .ireturn, 60, 0, 0, 0)]
def YM_from : zY := (⟨"DiscLinesModel", "from", "(I)I"⟩, 8, prog_11_method_83_code, 3, (some .int), rM_from)
theorem oM_from : zok YM_from := (by decide +kernel : YM_from.rows.all (zchk YM_from) = true)
theorem ckM_from : zCkV YM_from 1 8 := ⟨⟨zt 1231 (by decide +kernel) rfl, zt 79 (by decide +kernel) rfl, by decide +kernel⟩, zt 1229 (by decide +kernel) rfl, zt 1230 (by decide +kernel) rfl, by decide⟩
def rM_countOf : List zRow := [(0, .iload_n 1, 1, 0, 0, 0),
  (1, .ifCond .ne 14, 4, 15, 0, 0),
  (4, .aload_n 0, 5, 0, 0, 0),
  (5, .getfield 7, 8, 8, 0, 0),
  (8, .sipush 532, 11, 0, 0, 0),
  (11, .iaload, 12, 0, 0, 0),
  (12, .goto 43, 15, 55, 0, 0),
  (15, .iload_n 1, 16, 0, 0, 0),
  (16, .iconst 1, 17, 0, 0, 0),
  (17, .if_icmp .ne 14, 20, 31, 0, 0),
  (20, .aload_n 0, 21, 0, 0, 0),
  (21, .getfield 7, 24, 8, 0, 0),
  (24, .sipush 549, 27, 0, 0, 0),
  (27, .iaload, 28, 0, 0, 0),
  (28, .goto 27, 31, 55, 0, 0),
  (31, .iload_n 1, 32, 0, 0, 0),
  (32, .iconst 2, 33, 0, 0, 0),
  (33, .if_icmp .ne 14, 36, 47, 0, 0),
  (36, .aload_n 0, 37, 0, 0, 0),
  (37, .getfield 7, 40, 8, 0, 0),
  (40, .sipush 598, 43, 0, 0, 0),
  (43, .iaload, 44, 0, 0, 0),
  (44, .goto 11, 47, 55, 0, 0),
  (47, .aload_n 0, 48, 0, 0, 0),
  (48, .getfield 7, 51, 8, 0, 0),
  (51, .sipush 780, 54, 0, 0, 0),
  (54, .iaload, 55, 0, 0, 0),
  (55, .ireturn, 56, 0, 0, 0)]
def YM_countOf : zY := (⟨"DiscLinesModel", "countOf", "(I)I"⟩, 8, prog_11_method_84_code, 2, (some .int), rM_countOf)
theorem oM_countOf : zok YM_countOf := (by decide +kernel : YM_countOf.rows.all (zchk YM_countOf) = true)
theorem ckM_countOf : zCkV YM_countOf 1 8 := ⟨⟨zt 1239 (by decide +kernel) rfl, zt 79 (by decide +kernel) rfl, by decide +kernel⟩, zt 1238 (by decide +kernel) rfl, zt 67 (by decide +kernel) rfl, by decide⟩
def rM_count : List zRow := [(0, .iload_n 1, 1, 0, 0, 0),
  (1, .i2l, 2, 0, 0, 0),
  (2, .lconst 0, 3, 0, 0, 0),
  (3, .ldc2_w 49, 6, 0, 0, 3),
  (6, .invokestatic 51, 9, 0, 0, 0),
  (9, .ifCond .eq 11, 12, 20, 0, 0),
  (12, .aload_n 0, 13, 0, 0, 0),
  (13, .iload_n 1, 14, 0, 0, 0),
  (14, .invokevirtual 277, 17, 0, 0, 0),
  (17, .goto 5, 20, 22, 0, 0),
  (20, .bipush (-2), 22, 0, 0, 0),
  (22, .ireturn, 23, 0, 0, 0)]
def YM_count : zY := (⟨"DiscLinesModel", "count", "(I)I"⟩, 8, prog_11_method_85_code, 2, (some .int), rM_count)
theorem oM_count : zok YM_count := (by decide +kernel : YM_count.rows.all (zchk YM_count) = true)
theorem ckM_count : zCkV YM_count 1 8 := ⟨⟨zt 1235 (by decide +kernel) rfl, zt 79 (by decide +kernel) rfl, by decide +kernel⟩, zt 1233 (by decide +kernel) rfl, zt 1234 (by decide +kernel) rfl, by decide⟩
def rM_tell : List zRow := [(0, .aload_n 0, 1, 0, 0, 0),
  (1, .ldc2_w 280, 4, 0, 0, 31),
  (4, .aload_n 0, 5, 0, 0, 0),
  (5, .getfield 282, 8, 8, 20, 0),
  (8, .lmul, 9, 0, 0, 0),
  (9, .lload_n 1, 10, 0, 0, 0),
  (10, .ladd, 11, 0, 0, 0),
  (11, .putfield 282, 14, 8, 20, 0),
  (14, .return_, 15, 0, 0, 0)]
def YM_tell : zY := (⟨"DiscLinesModel", "tell", "(J)V"⟩, 8, prog_11_method_86_code, 3, none, rM_tell)
theorem oM_tell : zok YM_tell := (by decide +kernel : YM_tell.rows.all (zchk YM_tell) = true)
theorem ckM_tell : zCkV YM_tell 1 8 := ⟨⟨zt 1248 (by decide +kernel) rfl, zt 79 (by decide +kernel) rfl, by decide +kernel⟩, zt 1247 (by decide +kernel) rfl, zt 68 (by decide +kernel) rfl, by decide⟩
def rM_tellRow : List zRow := [(0, .iconst 0, 1, 0, 0, 0),
  (1, .istore_n 3, 2, 0, 0, 0),
  (2, .iload_n 3, 3, 0, 0, 0),
  (3, .iload_n 2, 4, 0, 0, 0),
  (4, .if_icmp .ge 22, 7, 26, 0, 0),
  (7, .aload_n 0, 8, 0, 0, 0),
  (8, .aload_n 0, 9, 0, 0, 0),
  (9, .getfield 7, 12, 8, 0, 0),
  (12, .iload_n 1, 13, 0, 0, 0),
  (13, .iload_n 3, 14, 0, 0, 0),
  (14, .iadd, 15, 0, 0, 0),
  (15, .iaload, 16, 0, 0, 0),
  (16, .i2l, 17, 0, 0, 0),
  (17, .invokevirtual 285, 20, 0, 0, 0),
  (20, .iinc 3 1, 23, 0, 0, 0),
  (23, .goto (-21), 26, 2, 0, 0),
  (26, .return_, 27, 0, 0, 0)]
def YM_tellRow : zY := (⟨"DiscLinesModel", "tellRow", "(II)V"⟩, 8, prog_11_method_87_code, 4, none, rM_tellRow)
theorem oM_tellRow : zok YM_tellRow := (by decide +kernel : YM_tellRow.rows.all (zchk YM_tellRow) = true)
theorem ckM_tellRow : zCkV YM_tellRow 2 8 := ⟨⟨zt 1253 (by decide +kernel) rfl, zt 79 (by decide +kernel) rfl, by decide +kernel⟩, zt 1252 (by decide +kernel) rfl, zt 69 (by decide +kernel) rfl, by decide⟩
def rM_digest : List zRow := [(0, .aload_n 0, 1, 0, 0, 0),
  (1, .ldc2_w 289, 4, 0, 0, 431),
  (4, .putfield 282, 7, 8, 20, 0),
  (7, .iconst 0, 8, 0, 0, 0),
  (8, .istore_n 1, 9, 0, 0, 0),
  (9, .iload_n 1, 10, 0, 0, 0),
  (10, .iconst 4, 11, 0, 0, 0),
  (11, .if_icmp .ge 19, 14, 30, 0, 0),
  (14, .aload_n 0, 15, 0, 0, 0),
  (15, .aload_n 0, 16, 0, 0, 0),
  (16, .iload_n 1, 17, 0, 0, 0),
  (17, .invokevirtual 277, 20, 0, 0, 0),
  (20, .i2l, 21, 0, 0, 0),
  (21, .invokevirtual 285, 24, 0, 0, 0),
  (24, .iinc 1 1, 27, 0, 0, 0),
  (27, .goto (-18), 30, 9, 0, 0),
  (30, .iconst 0, 31, 0, 0, 0),
  (31, .istore_n 1, 32, 0, 0, 0),
  (32, .iload_n 1, 33, 0, 0, 0),
  (33, .iconst 4, 34, 0, 0, 0),
  (34, .if_icmp .ge 33, 37, 67, 0, 0),
  (37, .aload_n 0, 38, 0, 0, 0),
  (38, .bipush 81, 40, 0, 0, 0),
  (40, .iload_n 1, 41, 0, 0, 0),
  (41, .imul, 42, 0, 0, 0),
  (42, .bipush 81, 44, 0, 0, 0),
  (44, .invokevirtual 291, 47, 0, 0, 0),
  (47, .aload_n 0, 48, 0, 0, 0),
  (48, .sipush 324, 51, 0, 0, 0),
  (51, .bipush 9, 53, 0, 0, 0),
  (53, .iload_n 1, 54, 0, 0, 0),
  (54, .imul, 55, 0, 0, 0),
  (55, .iadd, 56, 0, 0, 0),
  (56, .bipush 9, 58, 0, 0, 0),
  (58, .invokevirtual 291, 61, 0, 0, 0),
  (61, .iinc 1 1, 64, 0, 0, 0),
  (64, .goto (-32), 67, 32, 0, 0),
  (67, .aload_n 0, 68, 0, 0, 0),
  (68, .sipush 360, 71, 0, 0, 0),
  (71, .bipush 8, 73, 0, 0, 0),
  (73, .invokevirtual 291, 76, 0, 0, 0),
  (76, .iconst 0, 77, 0, 0, 0),
  (77, .istore_n 1, 78, 0, 0, 0),
  (78, .iload_n 1, 79, 0, 0, 0),
  (79, .iconst 4, 80, 0, 0, 0),
  (80, .if_icmp .ge 46, 83, 126, 0, 0),
  (83, .aload_n 0, 84, 0, 0, 0),
  (84, .aload_n 0, 85, 0, 0, 0),
  (85, .getfield 7, 88, 8, 0, 0),
  (88, .sipush 368, 91, 0, 0, 0),
  (91, .iload_n 1, 92, 0, 0, 0),
  (92, .iadd, 93, 0, 0, 0),
  (93, .iaload, 94, 0, 0, 0),
  (94, .i2l, 95, 0, 0, 0),
  (95, .invokevirtual 285, 98, 0, 0, 0),
  (98, .aload_n 0, 99, 0, 0, 0),
  (99, .sipush 372, 102, 0, 0, 0),
  (102, .bipush 40, 104, 0, 0, 0),
  (104, .iload_n 1, 105, 0, 0, 0),
  (105, .imul, 106, 0, 0, 0),
  (106, .iadd, 107, 0, 0, 0),
  (107, .aload_n 0, 108, 0, 0, 0),
  (108, .getfield 7, 111, 8, 0, 0),
  (111, .sipush 368, 114, 0, 0, 0),
  (114, .iload_n 1, 115, 0, 0, 0),
  (115, .iadd, 116, 0, 0, 0),
  (116, .iaload, 117, 0, 0, 0),
  (117, .invokevirtual 291, 120, 0, 0, 0),
  (120, .iinc 1 1, 123, 0, 0, 0),
  (123, .goto (-45), 126, 78, 0, 0),
  (126, .aload_n 0, 127, 0, 0, 0),
  (127, .sipush 533, 130, 0, 0, 0),
  (130, .iconst 2, 131, 0, 0, 0),
  (131, .aload_n 0, 132, 0, 0, 0),
  (132, .getfield 7, 135, 8, 0, 0),
  (135, .sipush 532, 138, 0, 0, 0),
  (138, .iaload, 139, 0, 0, 0),
  (139, .imul, 140, 0, 0, 0),
  (140, .invokevirtual 291, 143, 0, 0, 0),
  (143, .aload_n 0, 144, 0, 0, 0),
  (144, .sipush 550, 147, 0, 0, 0),
  (147, .iconst 3, 148, 0, 0, 0),
  (148, .aload_n 0, 149, 0, 0, 0),
  (149, .getfield 7, 152, 8, 0, 0),
  (152, .sipush 549, 155, 0, 0, 0),
  (155, .iaload, 156, 0, 0, 0),
  (156, .imul, 157, 0, 0, 0),
  (157, .invokevirtual 291, 160, 0, 0, 0),
  (160, .aload_n 0, 161, 0, 0, 0),
  (161, .sipush 599, 164, 0, 0, 0),
  (164, .iconst 3, 165, 0, 0, 0),
  (165, .aload_n 0, 166, 0, 0, 0),
  (166, .getfield 7, 169, 8, 0, 0),
  (169, .sipush 598, 172, 0, 0, 0),
  (172, .iaload, 173, 0, 0, 0),
  (173, .imul, 174, 0, 0, 0),
  (174, .invokevirtual 291, 177, 0, 0, 0),
  (177, .aload_n 0, 178, 0, 0, 0),
  (178, .aload_n 0, 179, 0, 0, 0),
  (179, .getfield 7, 182, 8, 0, 0),
  (182, .sipush 779, 185, 0, 0, 0),
  (185, .iaload, 186, 0, 0, 0),
  (186, .i2l, 187, 0, 0, 0),
  (187, .invokevirtual 285, 190, 0, 0, 0),
  (190, .aload_n 0, 191, 0, 0, 0),
  (191, .sipush 781, 194, 0, 0, 0),
  (194, .iconst 3, 195, 0, 0, 0),
  (195, .aload_n 0, 196, 0, 0, 0),
  (196, .getfield 7, 199, 8, 0, 0),
  (199, .sipush 780, 202, 0, 0, 0),
  (202, .iaload, 203, 0, 0, 0),
  (203, .imul, 204, 0, 0, 0),
  (204, .invokevirtual 291, 207, 0, 0, 0),
  (207, .aload_n 0, 208, 0, 0, 0),
  (208, .aload_n 0, 209, 0, 0, 0),
  (209, .getfield 7, 212, 8, 0, 0),
  (212, .sipush 817, 215, 0, 0, 0),
  (215, .iaload, 216, 0, 0, 0),
  (216, .i2l, 217, 0, 0, 0),
  (217, .invokevirtual 285, 220, 0, 0, 0),
  (220, .aload_n 0, 221, 0, 0, 0),
  (221, .aload_n 0, 222, 0, 0, 0),
  (222, .getfield 236, 225, 8, 3, 0),
  (225, .invokevirtual 285, 228, 0, 0, 0),
  (228, .aload_n 0, 229, 0, 0, 0),
  (229, .aload_n 0, 230, 0, 0, 0),
  (230, .getfield 45, 233, 8, 4, 0),
  (233, .invokevirtual 285, 236, 0, 0, 0),
  (236, .aload_n 0, 237, 0, 0, 0),
  (237, .getfield 282, 240, 8, 20, 0),
  (240, .lreturn, 241, 0, 0, 0)]
def YM_digest : zY := (⟨"DiscLinesModel", "digest", "()J"⟩, 8, prog_11_method_88_code, 2, (some .long), rM_digest)
theorem oM_digest : zok YM_digest := (by decide +kernel : YM_digest.rows.all (zchk YM_digest) = true)
theorem ckM_digest : zCkV YM_digest 0 8 := ⟨⟨zt 1243 (by decide +kernel) rfl, zt 79 (by decide +kernel) rfl, by decide +kernel⟩, zt 1241 (by decide +kernel) rfl, zt 1242 (by decide +kernel) rfl, by decide⟩
def rJ_bitCount : List zRow := [(0, .iload_n 0, 1, 0, 0, 0),
  (1, .iload_n 0, 2, 0, 0, 0),
  (2, .iconst 1, 3, 0, 0, 0),
  (3, .iushr, 4, 0, 0, 0),
  (4, .ldc_w 265, 7, 0, 0, 1431655765),
  (7, .iand, 8, 0, 0, 0),
  (8, .isub, 9, 0, 0, 0),
  (9, .istore_n 0, 10, 0, 0, 0),
  (10, .iload_n 0, 11, 0, 0, 0),
  (11, .ldc_w 266, 14, 0, 0, 858993459),
  (14, .iand, 15, 0, 0, 0),
  (15, .iload_n 0, 16, 0, 0, 0),
  (16, .iconst 2, 17, 0, 0, 0),
  (17, .iushr, 18, 0, 0, 0),
  (18, .ldc_w 266, 21, 0, 0, 858993459),
  (21, .iand, 22, 0, 0, 0),
  (22, .iadd, 23, 0, 0, 0),
  (23, .istore_n 0, 24, 0, 0, 0),
  (24, .iload_n 0, 25, 0, 0, 0),
  (25, .iload_n 0, 26, 0, 0, 0),
  (26, .iconst 4, 27, 0, 0, 0),
  (27, .iushr, 28, 0, 0, 0),
  (28, .iadd, 29, 0, 0, 0),
  (29, .ldc_w 267, 32, 0, 0, 252645135),
  (32, .iand, 33, 0, 0, 0),
  (33, .istore_n 0, 34, 0, 0, 0),
  (34, .iload_n 0, 35, 0, 0, 0),
  (35, .iload_n 0, 36, 0, 0, 0),
  (36, .bipush 8, 38, 0, 0, 0),
  (38, .iushr, 39, 0, 0, 0),
  (39, .iadd, 40, 0, 0, 0),
  (40, .istore_n 0, 41, 0, 0, 0),
  (41, .iload_n 0, 42, 0, 0, 0),
  (42, .iload_n 0, 43, 0, 0, 0),
  (43, .bipush 16, 45, 0, 0, 0),
  (45, .iushr, 46, 0, 0, 0),
  (46, .iadd, 47, 0, 0, 0),
  (47, .istore_n 0, 48, 0, 0, 0),
  (48, .iload_n 0, 49, 0, 0, 0),
  (49, .bipush 63, 51, 0, 0, 0),
  (51, .iand, 52, 0, 0, 0),
  (52, .ireturn, 53, 0, 0, 0)]
def YJ_bitCount : zY := (⟨"java/lang/Integer", "bitCount", "(I)I"⟩, 11, prog_12_method_49_code, 1, (some .int), rJ_bitCount)
theorem oJ_bitCount : zok YJ_bitCount := (by decide +kernel : YJ_bitCount.rows.all (zchk YJ_bitCount) = true)
theorem ckJ_bitCount : zCkS YJ_bitCount 1 := ⟨⟨zt 531 (by decide +kernel) rfl, zt 83 (by decide +kernel) rfl, by decide +kernel⟩, zt 530 (by decide +kernel) rfl⟩
def rJ_abs : List zRow := [(0, .iload_n 0, 1, 0, 0, 0),
  (1, .ifCond .ge 8, 4, 9, 0, 0),
  (4, .iload_n 0, 5, 0, 0, 0),
  (5, .ineg, 6, 0, 0, 0),
  (6, .goto 4, 9, 10, 0, 0),
  (9, .iload_n 0, 10, 0, 0, 0),
  (10, .ireturn, 11, 0, 0, 0)]
def YJ_abs : zY := (⟨"java/lang/Math", "abs", "(I)I"⟩, 12, prog_13_method_59_code, 1, (some .int), rJ_abs)
theorem oJ_abs : zok YJ_abs := (by decide +kernel : YJ_abs.rows.all (zchk YJ_abs) = true)
theorem ckJ_abs : zCkS YJ_abs 1 := ⟨⟨zt 488 (by decide +kernel) rfl, zt 80 (by decide +kernel) rfl, by decide +kernel⟩, zt 487 (by decide +kernel) rfl⟩
def rJ_max : List zRow := [(0, .iload_n 0, 1, 0, 0, 0),
  (1, .iload_n 1, 2, 0, 0, 0),
  (2, .if_icmp .lt 7, 5, 9, 0, 0),
  (5, .iload_n 0, 6, 0, 0, 0),
  (6, .goto 4, 9, 10, 0, 0),
  (9, .iload_n 1, 10, 0, 0, 0),
  (10, .ireturn, 11, 0, 0, 0)]
def YJ_max : zY := (⟨"java/lang/Math", "max", "(II)I"⟩, 12, prog_13_method_65_code, 2, (some .int), rJ_max)
theorem oJ_max : zok YJ_max := (by decide +kernel : YJ_max.rows.all (zchk YJ_max) = true)
theorem ckJ_max : zCkS YJ_max 2 := ⟨⟨zt 386 (by decide +kernel) rfl, zt 80 (by decide +kernel) rfl, by decide +kernel⟩, zt 385 (by decide +kernel) rfl⟩
def rJ_min : List zRow := [(0, .iload_n 0, 1, 0, 0, 0),
  (1, .iload_n 1, 2, 0, 0, 0),
  (2, .if_icmp .gt 7, 5, 9, 0, 0),
  (5, .iload_n 0, 6, 0, 0, 0),
  (6, .goto 4, 9, 10, 0, 0),
  (9, .iload_n 1, 10, 0, 0, 0),
  (10, .ireturn, 11, 0, 0, 0)]
def YJ_min : zY := (⟨"java/lang/Math", "min", "(II)I"⟩, 12, prog_13_method_69_code, 2, (some .int), rJ_min)
theorem oJ_min : zok YJ_min := (by decide +kernel : YJ_min.rows.all (zchk YJ_min) = true)
theorem ckJ_min : zCkS YJ_min 2 := ⟨⟨zt 366 (by decide +kernel) rfl, zt 80 (by decide +kernel) rfl, by decide +kernel⟩, zt 365 (by decide +kernel) rfl⟩
def rJ_fill : List zRow := [(0, .iconst 0, 1, 0, 0, 0),
  (1, .istore_n 2, 2, 0, 0, 0),
  (2, .aload_n 0, 3, 0, 0, 0),
  (3, .arraylength, 4, 0, 0, 0),
  (4, .istore_n 3, 5, 0, 0, 0),
  (5, .iload_n 2, 6, 0, 0, 0),
  (6, .iload_n 3, 7, 0, 0, 0),
  (7, .if_icmp .ge 13, 10, 20, 0, 0),
  (10, .aload_n 0, 11, 0, 0, 0),
  (11, .iload_n 2, 12, 0, 0, 0),
  (12, .iload_n 1, 13, 0, 0, 0),
  (13, .iastore, 14, 0, 0, 0),
  (14, .iinc 2 1, 17, 0, 0, 0),
  (17, .goto (-12), 20, 5, 0, 0),
  (20, .return_, 21, 0, 0, 0)]
def YJ_fill : zY := (⟨"java/util/Arrays", "fill", "([II)V"⟩, 13, prog_15_method_103_code, 4, none, rJ_fill)
theorem oJ_fill : zok YJ_fill := (by decide +kernel : YJ_fill.rows.all (zchk YJ_fill) = true)
theorem ckJ_fill : zCkS YJ_fill 2 := ⟨⟨zt 523 (by decide +kernel) rfl, zt 82 (by decide +kernel) rfl, by decide +kernel⟩, zt 522 (by decide +kernel) rfl⟩
end
section
theorem lk_10_9 : zLk 10 9 YD_init.nm := Or.inl (zt 87 (by decide +kernel) rfl)
theorem lk_10_13 : zLk 10 13 YD_shade.nm := Or.inl (zt 324 (by decide +kernel) rfl)
theorem lk_7_42 : zLk 7 42 YD_isOneOf.nm := Or.inl (zt 328 (by decide +kernel) rfl)
theorem lk_7_55 : zLk 7 55 YD_replace.nm := Or.inl (zt 331 (by decide +kernel) rfl)
theorem lk_10_18 : zLk 10 18 YD_green.nm := Or.inl (zt 334 (by decide +kernel) rfl)
theorem lk_10_22 : zLk 10 22 YD_mark.nm := Or.inl (zt 338 (by decide +kernel) rfl)
theorem lk_7_62 : zLk 7 62 YD_anotherLiesAt.nm := Or.inl (zt 342 (by decide +kernel) rfl)
theorem lk_10_27 : zLk 10 27 YD_seen.nm := Or.inl (zt 346 (by decide +kernel) rfl)
theorem lk_7_68 : zLk 7 68 YD_isView.nm := Or.inl (zt 350 (by decide +kernel) rfl)
theorem lk_7_76 : zLk 7 76 YPi_takeWorld.nm := Or.inl (zt 353 (by decide +kernel) rfl)
theorem lk_4_21 : zLk 4 21 YWo_darkened.nm := Or.inl (zt 357 (by decide +kernel) rfl)
theorem lk_6_22 : zLk 6 22 YJ_min.nm := Or.inl (zt 364 (by decide +kernel) rfl)
theorem lk_4_31 : zLk 4 31 YPi_addUp.nm := Or.inl (zt 367 (by decide +kernel) rfl)
theorem lk_4_44 : zLk 4 44 YPi_blur.nm := Or.inl (zt 376 (by decide +kernel) rfl)
theorem lk_4_55 : zLk 4 55 YPi_blurredAt.nm := Or.inl (zt 380 (by decide +kernel) rfl)
theorem lk_4_58 : zLk 4 58 YJ_max.nm := Or.inl (zt 384 (by decide +kernel) rfl)
theorem lk_4_63 : zLk 4 63 YJ_min.nm := Or.inl (zt 387 (by decide +kernel) rfl)
theorem lk_10_32 : zLk 10 32 YD_line.nm := Or.inl (zt 388 (by decide +kernel) rfl)
theorem lk_7_85 : zLk 7 85 YJ_min.nm := Or.inl (zt 392 (by decide +kernel) rfl)
theorem lk_7_91 : zLk 7 91 YJ_max.nm := Or.inl (zt 393 (by decide +kernel) rfl)
theorem lk_10_36 : zLk 10 36 YD_write.nm := Or.inl (zt 394 (by decide +kernel) rfl)
theorem lk_7_98 : zLk 7 98 YLa_append.nm := Or.inl (zt 398 (by decide +kernel) rfl)
theorem lk_3_25 : zLk 3 25 YLa_read.nm := Or.inl (zt 402 (by decide +kernel) rfl)
theorem lk_3_50 : zLk 3 50 YLa_readLevel.nm := Or.inl (zt 406 (by decide +kernel) rfl)
theorem lk_3_61 : zLk 3 61 YLa_readUnit.nm := Or.inl (zt 410 (by decide +kernel) rfl)
theorem lk_3_77 : zLk 3 77 YLa_isPrefix.nm := Or.inl (zt 414 (by decide +kernel) rfl)
theorem lk_3_81 : zLk 3 81 YLa_readPlainUnit.nm := Or.inl (zt 417 (by decide +kernel) rfl)
theorem lk_3_54 : zLk 3 54 YLa_nextSign.nm := Or.inl (zt 421 (by decide +kernel) rfl)
theorem lk_3_84 : zLk 3 84 YSp_unitOf.nm := Or.inl (zt 425 (by decide +kernel) rfl)
theorem lk_3_74 : zLk 3 74 YLa_addStep.nm := Or.inl (zt 428 (by decide +kernel) rfl)
theorem lk_3_87 : zLk 3 87 YLa_isDigit.nm := Or.inl (zt 432 (by decide +kernel) rfl)
theorem lk_3_90 : zLk 3 90 YLa_readDigits.nm := Or.inl (zt 435 (by decide +kernel) rfl)
theorem lk_3_58 : zLk 3 58 YLa_noteFault.nm := Or.inl (zt 439 (by decide +kernel) rfl)
theorem lk_3_93 : zLk 3 93 YLa_readInside.nm := Or.inl (zt 443 (by decide +kernel) rfl)
theorem lk_3_65 : zLk 3 65 YSp_joiningOf.nm := Or.inl (zt 447 (by decide +kernel) rfl)
theorem lk_3_71 : zLk 3 71 YLa_levelOf.nm := Or.inl (zt 450 (by decide +kernel) rfl)
theorem lk_10_40 : zLk 10 40 YD_erase.nm := Or.inl (zt 453 (by decide +kernel) rfl)
theorem lk_7_104 : zLk 7 104 YLa_empty.nm := Or.inl (zt 457 (by decide +kernel) rfl)
theorem lk_10_45 : zLk 10 45 YD_fault.nm := Or.inl (zt 461 (by decide +kernel) rfl)
theorem lk_10_49 : zLk 10 49 YD_drawn.nm := Or.inl (zt 465 (by decide +kernel) rfl)
theorem lk_7_113 : zLk 7 113 YD_look.nm := Or.inl (zt 470 (by decide +kernel) rfl)
theorem lk_7_284 : zLk 7 284 YEy_look.nm := Or.inl (zt 474 (by decide +kernel) rfl)
theorem lk_1_25 : zLk 1 25 YEy_linesOf.nm := Or.inl (zt 478 (by decide +kernel) rfl)
theorem lk_1_50 : zLk 1 50 YEy_aimAt.nm := Or.inl (zt 482 (by decide +kernel) rfl)
theorem lk_1_58 : zLk 1 58 YJ_abs.nm := Or.inl (zt 486 (by decide +kernel) rfl)
theorem lk_1_72 : zLk 1 72 YJ_max.nm := Or.inl (zt 490 (by decide +kernel) rfl)
theorem lk_1_54 : zLk 1 54 YEy_work.nm := Or.inl (zt 491 (by decide +kernel) rfl)
theorem lk_1_82 : zLk 1 82 YEy_unitAt.nm := Or.inl (zt 495 (by decide +kernel) rfl)
theorem lk_1_86 : zLk 1 86 YSp_joined.nm := Or.inl (zt 499 (by decide +kernel) rfl)
theorem lk_1_90 : zLk 1 90 YSp_turned.nm := Or.inl (zt 502 (by decide +kernel) rfl)
theorem lk_7_117 : zLk 7 117 YEy_linesIfShown.nm := Or.inl (zt 505 (by decide +kernel) rfl)
theorem lk_10_54 : zLk 10 54 YD_far.nm := Or.inl (zt 509 (by decide +kernel) rfl)
theorem lk_7_120 : zLk 7 120 YD_linesFromFar.nm := Or.inl (zt 513 (by decide +kernel) rfl)
theorem lk_7_287 : zLk 7 287 YPi_takeSpots.nm := Or.inl (zt 517 (by decide +kernel) rfl)
theorem lk_4_48 : zLk 4 48 YJ_fill.nm := Or.inl (zt 521 (by decide +kernel) rfl)
theorem lk_7_235 : zLk 7 235 YEy_linesOf.nm := Or.inl (zt 524 (by decide +kernel) rfl)
theorem lk_10_58 : zLk 10 58 YD_fairest.nm := Or.inl (zt 525 (by decide +kernel) rfl)
theorem lk_7_124 : zLk 7 124 YJ_bitCount.nm := Or.inl (zt 529 (by decide +kernel) rfl)
theorem lk_7_129 : zLk 7 129 YJ_abs.nm := Or.inl (zt 535 (by decide +kernel) rfl)
theorem lk_10_63 : zLk 10 63 YD_observer.nm := Or.inl (zt 536 (by decide +kernel) rfl)
theorem lk_7_136 : zLk 7 136 YBk_addObserver.nm := Or.inl (zt 540 (by decide +kernel) rfl)
theorem lk_10_67 : zLk 10 67 YD_sheet.nm := Or.inl (zt 545 (by decide +kernel) rfl)
theorem lk_7_141 : zLk 7 141 YBk_takesSheet.nm := Or.inl (zt 549 (by decide +kernel) rfl)
theorem lk_7_144 : zLk 7 144 YBk_addSheet.nm := Or.inl (zt 553 (by decide +kernel) rfl)
theorem lk_10_71 : zLk 10 71 YD_draw.nm := Or.inl (zt 557 (by decide +kernel) rfl)
theorem lk_7_150 : zLk 7 150 YBk_linesShown.nm := Or.inl (zt 561 (by decide +kernel) rfl)
theorem lk_0_50 : zLk 0 50 YBk_sheetsShown.nm := Or.inl (zt 565 (by decide +kernel) rfl)
theorem lk_0_54 : zLk 0 54 YBk_linesInSome.nm := Or.inl (zt 569 (by decide +kernel) rfl)
theorem lk_10_75 : zLk 10 75 YD_show.nm := Or.inl (zt 574 (by decide +kernel) rfl)
theorem lk_7_162 : zLk 7 162 YBk_addShow.nm := Or.inl (zt 578 (by decide +kernel) rfl)
theorem lk_10_79 : zLk 10 79 YD_of.nm := Or.inl (zt 582 (by decide +kernel) rfl)
theorem lk_7_171 : zLk 7 171 YBk_linesShownBefore.nm := Or.inl (zt 586 (by decide +kernel) rfl)
theorem lk_0_58 : zLk 0 58 YBk_linesShown.nm := Or.inl (zt 590 (by decide +kernel) rfl)
theorem lk_10_83 : zLk 10 83 YD_agree.nm := Or.inl (zt 591 (by decide +kernel) rfl)
theorem lk_7_174 : zLk 7 174 YD_areTwoSheets.nm := Or.inl (zt 595 (by decide +kernel) rfl)
theorem lk_10_87 : zLk 10 87 YD_chance.nm := Or.inl (zt 599 (by decide +kernel) rfl)
theorem lk_7_177 : zLk 7 177 YD_waysToShare.nm := Or.inl (zt 603 (by decide +kernel) rfl)
theorem lk_7_181 : zLk 7 181 YD_choices.nm := Or.inl (zt 606 (by decide +kernel) rfl)
theorem lk_7_185 : zLk 7 185 YD_setFraction.nm := Or.inl (zt 609 (by decide +kernel) rfl)
theorem lk_10_91 : zLk 10 91 YD_part.nm := Or.inl (zt 613 (by decide +kernel) rfl)
theorem lk_10_96 : zLk 10 96 YD_own.nm := Or.inl (zt 618 (by decide +kernel) rfl)
theorem lk_10_100 : zLk 10 100 YD_took.nm := Or.inl (zt 622 (by decide +kernel) rfl)
theorem lk_7_194 : zLk 7 194 YBk_mayHaveTaken.nm := Or.inl (zt 626 (by decide +kernel) rfl)
theorem lk_0_81 : zLk 0 81 YBk_leastCost.nm := Or.inl (zt 630 (by decide +kernel) rfl)
theorem lk_0_70 : zLk 0 70 YBk_costOfOwn.nm := Or.inl (zt 634 (by decide +kernel) rfl)
theorem lk_0_65 : zLk 0 65 YJ_bitCount.nm := Or.inl (zt 638 (by decide +kernel) rfl)
theorem lk_0_73 : zLk 0 73 YBk_costOfTaking.nm := Or.inl (zt 639 (by decide +kernel) rfl)
theorem lk_0_76 : zLk 0 76 YJ_min.nm := Or.inl (zt 643 (by decide +kernel) rfl)
theorem lk_7_197 : zLk 7 197 YBk_leastCost.nm := Or.inl (zt 645 (by decide +kernel) rfl)
theorem lk_7_200 : zLk 7 200 YBk_oldest.nm := Or.inl (zt 646 (by decide +kernel) rfl)
theorem lk_0_85 : zLk 0 85 YBk_mayHaveTaken.nm := Or.inl (zt 650 (by decide +kernel) rfl)
theorem lk_0_88 : zLk 0 88 YBk_leastOf.nm := Or.inl (zt 651 (by decide +kernel) rfl)
theorem lk_10_104 : zLk 10 104 YD_ways.nm := Or.inl (zt 654 (by decide +kernel) rfl)
theorem lk_10_109 : zLk 10 109 YD_guess.nm := Or.inl (zt 658 (by decide +kernel) rfl)
theorem lk_7_207 : zLk 7 207 YGu_add.nm := Or.inl (zt 662 (by decide +kernel) rfl)
theorem lk_10_113 : zLk 10 113 YD_error.nm := Or.inl (zt 667 (by decide +kernel) rfl)
theorem lk_10_117 : zLk 10 117 YD_allows.nm := Or.inl (zt 671 (by decide +kernel) rfl)
theorem lk_7_218 : zLk 7 218 YD_allowsAll.nm := Or.inl (zt 675 (by decide +kernel) rfl)
theorem lk_7_232 : zLk 7 232 YD_has.nm := Or.inl (zt 679 (by decide +kernel) rfl)
theorem lk_10_121 : zLk 10 121 YD_mayBe.nm := Or.inl (zt 680 (by decide +kernel) rfl)
theorem lk_7_221 : zLk 7 221 YD_areSheets.nm := Or.inl (zt 684 (by decide +kernel) rfl)
theorem lk_7_225 : zLk 7 225 YD_guessesAllowing.nm := Or.inl (zt 688 (by decide +kernel) rfl)
theorem lk_10_125 : zLk 10 125 YD_there.nm := Or.inl (zt 692 (by decide +kernel) rfl)
theorem lk_7_228 : zLk 7 228 YGu_worldsIn.nm := Or.inl (zt 696 (by decide +kernel) rfl)
theorem lk_10_129 : zLk 10 129 YD_parts.nm := Or.inl (zt 702 (by decide +kernel) rfl)
theorem lk_7_239 : zLk 7 239 YD_drawByAllLaws.nm := Or.inl (zt 706 (by decide +kernel) rfl)
theorem lk_7_243 : zLk 7 243 YD_countUnlike.nm := Or.inl (zt 710 (by decide +kernel) rfl)
theorem lk_7_298 : zLk 7 298 YD_isDrawnAhead.nm := Or.inl (zt 714 (by decide +kernel) rfl)
theorem lk_10_133 : zLk 10 133 YD_weighed.nm := Or.inl (zt 718 (by decide +kernel) rfl)
theorem lk_7_246 : zLk 7 246 YBk_linesWeighedAbove.nm := Or.inl (zt 722 (by decide +kernel) rfl)
theorem lk_0_94 : zLk 0 94 YBk_weightOfAllSheets.nm := Or.inl (zt 726 (by decide +kernel) rfl)
theorem lk_0_91 : zLk 0 91 YBk_weightOfSheet.nm := Or.inl (zt 730 (by decide +kernel) rfl)
theorem lk_0_98 : zLk 0 98 YBk_weightOfLine.nm := Or.inl (zt 734 (by decide +kernel) rfl)
theorem lk_7_250 : zLk 7 250 YBk_weightOfLine.nm := Or.inl (zt 738 (by decide +kernel) rfl)
theorem lk_10_137 : zLk 10 137 YD_season.nm := Or.inl (zt 739 (by decide +kernel) rfl)
theorem lk_7_253 : zLk 7 253 YBk_linesInAll.nm := Or.inl (zt 743 (by decide +kernel) rfl)
theorem lk_7_256 : zLk 7 256 YBk_linesInSome.nm := Or.inl (zt 748 (by decide +kernel) rfl)
theorem lk_10_141 : zLk 10 141 YD_image.nm := Or.inl (zt 749 (by decide +kernel) rfl)
theorem lk_7_259 : zLk 7 259 YSt_copy.nm := Or.inl (zt 753 (by decide +kernel) rfl)
theorem lk_5_50 : zLk 5 50 YWo_copy.nm := Or.inl (zt 757 (by decide +kernel) rfl)
theorem lk_5_58 : zLk 5 58 YLa_copy.nm := Or.inl (zt 768 (by decide +kernel) rfl)
theorem lk_5_61 : zLk 5 61 YBk_copy.nm := Or.inl (zt 773 (by decide +kernel) rfl)
theorem lk_5_64 : zLk 5 64 YGu_copy.nm := Or.inl (zt 778 (by decide +kernel) rfl)
theorem lk_10_145 : zLk 10 145 YD_from.nm := Or.inl (zt 783 (by decide +kernel) rfl)
theorem lk_10_149 : zLk 10 149 YD_count.nm := Or.inl (zt 787 (by decide +kernel) rfl)
theorem lk_10_153 : zLk 10 153 YD_digest.nm := Or.inl (zt 791 (by decide +kernel) rfl)
theorem lk_7_268 : zLk 7 268 YSt_mixInto.nm := Or.inl (zt 796 (by decide +kernel) rfl)
theorem lk_5_83 : zLk 5 83 YWo_mixInto.nm := Or.inl (zt 804 (by decide +kernel) rfl)
theorem lk_7_272 : zLk 7 272 YD_mix.nm := Or.inl (zt 811 (by decide +kernel) rfl)
theorem lk_5_91 : zLk 5 91 YLa_mixInto.nm := Or.inl (zt 813 (by decide +kernel) rfl)
theorem lk_5_92 : zLk 5 92 YBk_mixInto.nm := Or.inl (zt 819 (by decide +kernel) rfl)
theorem lk_5_93 : zLk 5 93 YGu_mixInto.nm := Or.inl (zt 824 (by decide +kernel) rfl)
theorem lk_10_12 : zLk 10 12 YM_init.nm := Or.inl (zt 831 (by decide +kernel) rfl)
theorem lk_10_17 : zLk 10 17 YM_shade.nm := Or.inl (zt 899 (by decide +kernel) rfl)
theorem lk_8_57 : zLk 8 57 YM_isFour.nm := Or.inl (zt 903 (by decide +kernel) rfl)
theorem lk_8_51 : zLk 8 51 YM_in.nm := Or.inl (zt 907 (by decide +kernel) rfl)
theorem lk_8_61 : zLk 8 61 YM_isCell.nm := Or.inl (zt 910 (by decide +kernel) rfl)
theorem lk_8_66 : zLk 8 66 YM_change.nm := Or.inl (zt 915 (by decide +kernel) rfl)
theorem lk_10_21 : zLk 10 21 YM_green.nm := Or.inl (zt 919 (by decide +kernel) rfl)
theorem lk_10_26 : zLk 10 26 YM_mark.nm := Or.inl (zt 925 (by decide +kernel) rfl)
theorem lk_10_31 : zLk 10 31 YM_seen.nm := Or.inl (zt 930 (by decide +kernel) rfl)
theorem lk_8_82 : zLk 8 82 YM_isLook.nm := Or.inl (zt 934 (by decide +kernel) rfl)
theorem lk_8_86 : zLk 8 86 YM_layWorld.nm := Or.inl (zt 938 (by decide +kernel) rfl)
theorem lk_8_90 : zLk 8 90 YM_seenAt.nm := Or.inl (zt 942 (by decide +kernel) rfl)
theorem lk_8_76 : zLk 8 76 YM_blurred.nm := Or.inl (zt 946 (by decide +kernel) rfl)
theorem lk_10_35 : zLk 10 35 YM_line.nm := Or.inl (zt 950 (by decide +kernel) rfl)
theorem lk_8_93 : zLk 8 93 YM_linesAhead.nm := Or.inl (zt 954 (by decide +kernel) rfl)
theorem lk_10_39 : zLk 10 39 YM_write.nm := Or.inl (zt 957 (by decide +kernel) rfl)
theorem lk_10_44 : zLk 10 44 YM_erase.nm := Or.inl (zt 962 (by decide +kernel) rfl)
theorem lk_10_48 : zLk 10 48 YM_fault.nm := Or.inl (zt 966 (by decide +kernel) rfl)
theorem lk_8_154 : zLk 8 154 YM_read.nm := Or.inl (zt 970 (by decide +kernel) rfl)
theorem lk_8_151 : zLk 8 151 YM_goSign.nm := Or.inl (zt 974 (by decide +kernel) rfl)
theorem lk_8_145 : zLk 8 145 YM_goBehind.nm := Or.inl (zt 981 (by decide +kernel) rfl)
theorem lk_8_113 : zLk 8 113 YM_layDown.nm := Or.inl (zt 985 (by decide +kernel) rfl)
theorem lk_8_106 : zLk 8 106 YM_firm.nm := Or.inl (zt 989 (by decide +kernel) rfl)
theorem lk_8_109 : zLk 8 109 YM_lay.nm := Or.inl (zt 992 (by decide +kernel) rfl)
theorem lk_8_137 : zLk 8 137 YM_joint.nm := Or.inl (zt 996 (by decide +kernel) rfl)
theorem lk_8_140 : zLk 8 140 YM_join.nm := Or.inl (zt 999 (by decide +kernel) rfl)
theorem lk_8_148 : zLk 8 148 YM_goUnit.nm := Or.inl (zt 1003 (by decide +kernel) rfl)
theorem lk_8_131 : zLk 8 131 YM_letterOf.nm := Or.inl (zt 1007 (by decide +kernel) rfl)
theorem lk_10_53 : zLk 10 53 YM_drawn.nm := Or.inl (zt 1010 (by decide +kernel) rfl)
theorem lk_8_174 : zLk 8 174 YM_isLines.nm := Or.inl (zt 1014 (by decide +kernel) rfl)
theorem lk_8_177 : zLk 8 177 YM_drawnOn.nm := Or.inl (zt 1018 (by decide +kernel) rfl)
theorem lk_8_168 : zLk 8 168 YM_drawnOf.nm := Or.inl (zt 1022 (by decide +kernel) rfl)
theorem lk_8_161 : zLk 8 161 YM_apart.nm := Or.inl (zt 1026 (by decide +kernel) rfl)
theorem lk_8_164 : zLk 8 164 YM_tells.nm := Or.inl (zt 1029 (by decide +kernel) rfl)
theorem lk_8_157 : zLk 8 157 YM_worked.nm := Or.inl (zt 1033 (by decide +kernel) rfl)
theorem lk_10_57 : zLk 10 57 YM_far.nm := Or.inl (zt 1036 (by decide +kernel) rfl)
theorem lk_8_181 : zLk 8 181 YM_drawnFar.nm := Or.inl (zt 1040 (by decide +kernel) rfl)
theorem lk_10_62 : zLk 10 62 YM_fairest.nm := Or.inl (zt 1044 (by decide +kernel) rfl)
theorem lk_8_184 : zLk 8 184 YM_bitsOf.nm := Or.inl (zt 1048 (by decide +kernel) rfl)
theorem lk_10_66 : zLk 10 66 YM_observer.nm := Or.inl (zt 1051 (by decide +kernel) rfl)
theorem lk_10_70 : zLk 10 70 YM_sheet.nm := Or.inl (zt 1056 (by decide +kernel) rfl)
theorem lk_8_197 : zLk 8 197 YM_isNext.nm := Or.inl (zt 1060 (by decide +kernel) rfl)
theorem lk_8_189 : zLk 8 189 YM_isObserver.nm := Or.inl (zt 1064 (by decide +kernel) rfl)
theorem lk_8_192 : zLk 8 192 YM_nightOf.nm := Or.inl (zt 1068 (by decide +kernel) rfl)
theorem lk_8_201 : zLk 8 201 YM_addSheet.nm := Or.inl (zt 1073 (by decide +kernel) rfl)
theorem lk_10_74 : zLk 10 74 YM_draw.nm := Or.inl (zt 1077 (by decide +kernel) rfl)
theorem lk_8_210 : zLk 8 210 YM_shownBy.nm := Or.inl (zt 1081 (by decide +kernel) rfl)
theorem lk_8_204 : zLk 8 204 YM_sheetsBy.nm := Or.inl (zt 1085 (by decide +kernel) rfl)
theorem lk_8_207 : zLk 8 207 YM_linesOf.nm := Or.inl (zt 1089 (by decide +kernel) rfl)
theorem lk_10_78 : zLk 10 78 YM_show.nm := Or.inl (zt 1093 (by decide +kernel) rfl)
theorem lk_8_213 : zLk 8 213 YM_isSheet.nm := Or.inl (zt 1097 (by decide +kernel) rfl)
theorem lk_10_82 : zLk 10 82 YM_of.nm := Or.inl (zt 1101 (by decide +kernel) rfl)
theorem lk_8_222 : zLk 8 222 YM_sheetTold.nm := Or.inl (zt 1105 (by decide +kernel) rfl)
theorem lk_8_216 : zLk 8 216 YM_observerOf.nm := Or.inl (zt 1109 (by decide +kernel) rfl)
theorem lk_8_219 : zLk 8 219 YM_shownFor.nm := Or.inl (zt 1113 (by decide +kernel) rfl)
theorem lk_10_86 : zLk 10 86 YM_agree.nm := Or.inl (zt 1117 (by decide +kernel) rfl)
theorem lk_8_225 : zLk 8 225 YM_isPair.nm := Or.inl (zt 1121 (by decide +kernel) rfl)
theorem lk_10_90 : zLk 10 90 YM_chance.nm := Or.inl (zt 1125 (by decide +kernel) rfl)
theorem lk_8_228 : zLk 8 228 YM_choose.nm := Or.inl (zt 1129 (by decide +kernel) rfl)
theorem lk_8_232 : zLk 8 232 YM_common.nm := Or.inl (zt 1132 (by decide +kernel) rfl)
theorem lk_10_95 : zLk 10 95 YM_part.nm := Or.inl (zt 1135 (by decide +kernel) rfl)
theorem lk_10_99 : zLk 10 99 YM_own.nm := Or.inl (zt 1140 (by decide +kernel) rfl)
theorem lk_10_103 : zLk 10 103 YM_took.nm := Or.inl (zt 1145 (by decide +kernel) rfl)
theorem lk_8_247 : zLk 8 247 YM_mayHave.nm := Or.inl (zt 1149 (by decide +kernel) rfl)
theorem lk_8_250 : zLk 8 250 YM_oldest.nm := Or.inl (zt 1154 (by decide +kernel) rfl)
theorem lk_10_108 : zLk 10 108 YM_ways.nm := Or.inl (zt 1158 (by decide +kernel) rfl)
theorem lk_10_112 : zLk 10 112 YM_guess.nm := Or.inl (zt 1162 (by decide +kernel) rfl)
theorem lk_10_116 : zLk 10 116 YM_error.nm := Or.inl (zt 1166 (by decide +kernel) rfl)
theorem lk_10_120 : zLk 10 120 YM_allows.nm := Or.inl (zt 1170 (by decide +kernel) rfl)
theorem lk_8_253 : zLk 8 253 YM_allowsOf.nm := Or.inl (zt 1174 (by decide +kernel) rfl)
theorem lk_10_124 : zLk 10 124 YM_mayBe.nm := Or.inl (zt 1178 (by decide +kernel) rfl)
theorem lk_8_256 : zLk 8 256 YM_isSheets.nm := Or.inl (zt 1182 (by decide +kernel) rfl)
theorem lk_8_259 : zLk 8 259 YM_mayBeOf.nm := Or.inl (zt 1186 (by decide +kernel) rfl)
theorem lk_10_128 : zLk 10 128 YM_there.nm := Or.inl (zt 1190 (by decide +kernel) rfl)
theorem lk_8_262 : zLk 8 262 YM_worldsBy.nm := Or.inl (zt 1194 (by decide +kernel) rfl)
theorem lk_10_132 : zLk 10 132 YM_parts.nm := Or.inl (zt 1199 (by decide +kernel) rfl)
theorem lk_8_266 : zLk 8 266 YM_unlikeWays.nm := Or.inl (zt 1203 (by decide +kernel) rfl)
theorem lk_10_136 : zLk 10 136 YM_weighed.nm := Or.inl (zt 1207 (by decide +kernel) rfl)
theorem lk_8_274 : zLk 8 274 YM_weight.nm := Or.inl (zt 1212 (by decide +kernel) rfl)
theorem lk_8_269 : zLk 8 269 YM_weightOf.nm := Or.inl (zt 1216 (by decide +kernel) rfl)
theorem lk_10_140 : zLk 10 140 YM_season.nm := Or.inl (zt 1220 (by decide +kernel) rfl)
theorem lk_10_144 : zLk 10 144 YM_image.nm := Or.inl (zt 1224 (by decide +kernel) rfl)
theorem lk_10_148 : zLk 10 148 YM_from.nm := Or.inl (zt 1228 (by decide +kernel) rfl)
theorem lk_10_152 : zLk 10 152 YM_count.nm := Or.inl (zt 1232 (by decide +kernel) rfl)
theorem lk_8_277 : zLk 8 277 YM_countOf.nm := Or.inl (zt 1236 (by decide +kernel) rfl)
theorem lk_10_156 : zLk 10 156 YM_digest.nm := Or.inl (zt 1240 (by decide +kernel) rfl)
theorem lk_8_285 : zLk 8 285 YM_tell.nm := Or.inl (zt 1245 (by decide +kernel) rfl)
theorem lk_8_291 : zLk 8 291 YM_tellRow.nm := Or.inl (zt 1250 (by decide +kernel) rfl)
theorem lk_7_11 : zLk 7 11 YSt_init.nm := Or.inr (by decide +kernel)
theorem lk_5_11 : zLk 5 11 YWo_init.nm := Or.inr (by decide +kernel)
theorem lk_5_24 : zLk 5 24 YLa_init.nm := Or.inr (by decide +kernel)
theorem lk_5_31 : zLk 5 31 YBk_init.nm := Or.inr (by decide +kernel)
theorem lk_5_38 : zLk 5 38 YGu_init.nm := Or.inr (by decide +kernel)
theorem lk_7_26 : zLk 7 26 YEy_init.nm := Or.inr (by decide +kernel)
theorem lk_1_11 : zLk 1 11 YPi_init.nm := Or.inr (by decide +kernel)
theorem lk_6_18 : zLk 6 18 YD_has.nm := Or.inr (by decide +kernel)
theorem lk_4_34 : zLk 4 34 YD_isOneOf.nm := Or.inr (by decide +kernel)
theorem lk_1_64 : zLk 1 64 YD_isOneOf.nm := Or.inr (by decide +kernel)
theorem lk_0_40 : zLk 0 40 YD_isOneOf.nm := Or.inr (by decide +kernel)
theorem lk_0_61 : zLk 0 61 YD_has.nm := Or.inr (by decide +kernel)
theorem lk_2_25 : zLk 2 25 YD_isOneOf.nm := Or.inr (by decide +kernel)
theorem lk_2_29 : zLk 2 29 YD_has.nm := Or.inr (by decide +kernel)
theorem lk_6_28 : zLk 6 28 YD_copyRow.nm := Or.inr (by decide +kernel)
theorem lk_5_54 : zLk 5 54 YD_copyRow.nm := Or.inr (by decide +kernel)
theorem lk_3_28 : zLk 3 28 YD_copyRow.nm := Or.inr (by decide +kernel)
theorem lk_0_101 : zLk 0 101 YD_copyRow.nm := Or.inr (by decide +kernel)
theorem lk_2_32 : zLk 2 32 YD_copyRow.nm := Or.inr (by decide +kernel)
theorem lk_5_70 : zLk 5 70 YD_mix.nm := Or.inr (by decide +kernel)
theorem lk_6_32 : zLk 6 32 YD_mixRow.nm := Or.inr (by decide +kernel)
theorem lk_5_87 : zLk 5 87 YD_mixRow.nm := Or.inr (by decide +kernel)
theorem lk_3_39 : zLk 3 39 YD_mix.nm := Or.inr (by decide +kernel)
theorem lk_3_43 : zLk 3 43 YD_mixRow.nm := Or.inr (by decide +kernel)
theorem lk_0_105 : zLk 0 105 YD_mix.nm := Or.inr (by decide +kernel)
theorem lk_2_36 : zLk 2 36 YD_mix.nm := Or.inr (by decide +kernel)
end
section
/-! the same rows over small numbers: an int that is known as nI of a Nat -/
section
variable {E : zE} {Y : zY} {R : Room} {fin : zF} {n cells slots : Nat} {σ σ' : zH} {pc q u v : Nat} {w : Int} {L : List (Option Value)} {rest : List Value}
theorem zn_iadd (k a b : Nat) {x y : Int32} (h : Y.rows[k]? = some (pc, .iadd, q, u, v, w)) (hq : pc + 1 = q) (hx : x = nI a) (hy : y = nI b) (kk : zJ E Y R fin n cells slots σ q L (.int (nI (a + b)) :: rest)) : zJ E Y R fin n cells slots σ pc L (.int y :: .int x :: rest) := by
  subst hx; subst hy
  exact zj_iadd k h hq (by rw [nI_add]; exact kk)
theorem zn_imul (k a b : Nat) {x y : Int32} (h : Y.rows[k]? = some (pc, .imul, q, u, v, w)) (hq : pc + 1 = q) (hx : x = nI a) (hy : y = nI b) (kk : zJ E Y R fin n cells slots σ q L (.int (nI (a * b)) :: rest)) : zJ E Y R fin n cells slots σ pc L (.int y :: .int x :: rest) := by
  subst hx; subst hy
  exact zj_imul k h hq (by rw [pk_mul]; exact kk)
theorem zn_isub (k a b : Nat) {x y : Int32} (h : Y.rows[k]? = some (pc, .isub, q, u, v, w)) (hq : pc + 1 = q) (hx : x = nI a) (hy : y = nI b) (hab : b ≤ a) (kk : zJ E Y R fin n cells slots σ q L (.int (nI (a - b)) :: rest)) : zJ E Y R fin n cells slots σ pc L (.int y :: .int x :: rest) := by
  subst hx; subst hy
  exact zj_isub k h hq (by rw [pk_sub hab]; exact kk)
theorem zn_idiv (k a b : Nat) {x y : Int32} (h : Y.rows[k]? = some (pc, .idiv, q, u, v, w)) (hq : pc + 1 = q) (hx : x = nI a) (hy : y = nI b) (ha : a < 2 ^ 31) (h0 : 0 < b) (hb : b < 2 ^ 31) (kk : zJ E Y R fin n cells slots σ q L (.int (nI (a / b)) :: rest)) : zJ E Y R fin n cells slots σ pc L (.int y :: .int x :: rest) := by
  subst hx; subst hy
  exact zj_idiv k h hq (nI_ne0 h0 hb) (by rw [pk_div ha h0 hb]; exact kk)
theorem zn_irem (k a b : Nat) {x y : Int32} (h : Y.rows[k]? = some (pc, .irem, q, u, v, w)) (hq : pc + 1 = q) (hx : x = nI a) (hy : y = nI b) (ha : a < 2 ^ 31) (h0 : 0 < b) (hb : b < 2 ^ 31) (kk : zJ E Y R fin n cells slots σ q L (.int (nI (a % b)) :: rest)) : zJ E Y R fin n cells slots σ pc L (.int y :: .int x :: rest) := by
  subst hx; subst hy
  exact zj_irem k h hq (nI_ne0 h0 hb) (by rw [pk_rem ha h0 hb]; exact kk)
theorem zn_iinc (k a : Nat) {i : Nat} {x : Int32} (h : Y.rows[k]? = some (pc, .iinc i 1, q, u, v, w)) (hq : pc + 3 = q) (hl : L[i]? = some (some (.int x))) (hx : x = nI a) (kk : zJ E Y R fin n cells slots σ q (zs1 L i (.int (nI (a + 1)))) rest) : zJ E Y R fin n cells slots σ pc L rest := by
  subst hx
  exact zj_iinc k 1 h hq hl (by decide) (by rw [nI_1]; exact kk)
theorem zn_iald (k j : Nat) {a N : Nat} {f : Nat → Int32} {x : Int32} (h : Y.rows[k]? = some (pc, .iaload, q, u, v, w)) (hq : pc + 1 = q) (hs : σ a = some (.inl (0, N, .inl f))) (hx : x = nI j) (hj : j < N) (hN : N < 2 ^ 31) (kk : zJ E Y R fin n cells slots σ q L (.int (f j) :: rest)) : zJ E Y R fin n cells slots σ pc L (.int x :: .ref a :: rest) := by
  subst hx
  refine zj_iald k h hq hs (vp_in_nI hj hN) ?_
  rw [nI_clamp (by omega)]; exact kk
theorem zn_lald (k j : Nat) {a N : Nat} {f : Nat → Int64} {x : Int32} (h : Y.rows[k]? = some (pc, .laload, q, u, v, w)) (hq : pc + 1 = q) (hs : σ a = some (.inl (1, N, .inr (.inl f)))) (hx : x = nI j) (hj : j < N) (hN : N < 2 ^ 31) (kk : zJ E Y R fin n cells slots σ q L (.long (f j) :: rest)) : zJ E Y R fin n cells slots σ pc L (.int x :: .ref a :: rest) := by
  subst hx
  refine zj_lald k h hq hs (vp_in_nI hj hN) ?_
  rw [nI_clamp (by omega)]; exact kk
theorem zn_zald (k j : Nat) {a N : Nat} {f : Nat → Int32} {x : Int32} (h : Y.rows[k]? = some (pc, .baload, q, u, v, w)) (hq : pc + 1 = q) (hs : σ a = some (.inl (2, N, .inl f))) (hx : x = nI j) (hj : j < N) (hN : N < 2 ^ 31) (kk : zJ E Y R fin n cells slots σ q L (.int (f j) :: rest)) : zJ E Y R fin n cells slots σ pc L (.int x :: .ref a :: rest) := by
  subst hx
  refine zj_zald k h hq hs (vp_in_nI hj hN) ?_
  rw [nI_clamp (by omega)]; exact kk
theorem zn_aald (k j : Nat) {a N t b : Nat} {f : Nat → Option Nat} {x : Int32} (h : Y.rows[k]? = some (pc, .aaload, q, u, v, w)) (hq : pc + 1 = q) (hs : σ a = some (.inl (t, N, .inr (.inr (.inr (.inr f)))))) (ht : 3 ≤ t ∧ t < 6) (hx : x = nI j) (hj : j < N) (hN : N < 2 ^ 31) (hb : f j = some b) (kk : zJ E Y R fin n cells slots σ q L (.ref b :: rest)) : zJ E Y R fin n cells slots σ pc L (.int x :: .ref a :: rest) := by
  subst hx
  exact zj_aald k h hq hs ht (vp_in_nI hj hN) (by rw [nI_clamp (by omega)]; exact hb) kk
theorem zn_iast (k j : Nat) {a N : Nat} {f : Nat → Int32} {x y : Int32} (h : Y.rows[k]? = some (pc, .iastore, q, u, v, w)) (hq : pc + 1 = q) (hs : σ a = some (.inl (0, N, .inl f))) (hx : x = nI j) (hj : j < N) (hN : N < 2 ^ 31) (hw : zup σ a (.inl (0, N, .inl (va_up f j y))) = σ') (kk : zJ E Y R fin n cells slots σ' q L rest) : zJ E Y R fin n cells slots σ pc L (.int y :: .int x :: .ref a :: rest) := by
  subst hx; subst hw
  refine zj_iast k h hq hs (vp_in_nI hj hN) ?_
  rw [nI_clamp (by omega)]; exact kk
theorem zn_last (k j : Nat) {a N : Nat} {f : Nat → Int64} {x : Int32} {y : Int64} (h : Y.rows[k]? = some (pc, .lastore, q, u, v, w)) (hq : pc + 1 = q) (hs : σ a = some (.inl (1, N, .inr (.inl f)))) (hx : x = nI j) (hj : j < N) (hN : N < 2 ^ 31) (hw : zup σ a (.inl (1, N, .inr (.inl (va_up f j y)))) = σ') (kk : zJ E Y R fin n cells slots σ' q L rest) : zJ E Y R fin n cells slots σ pc L (.long y :: .int x :: .ref a :: rest) := by
  subst hx; subst hw
  refine zj_last k h hq hs (vp_in_nI hj hN) ?_
  rw [nI_clamp (by omega)]; exact kk
theorem zn_zast (k j : Nat) {a N : Nat} {f : Nat → Int32} {x y : Int32} (h : Y.rows[k]? = some (pc, .bastore, q, u, v, w)) (hq : pc + 1 = q) (hs : σ a = some (.inl (2, N, .inl f))) (hx : x = nI j) (hj : j < N) (hN : N < 2 ^ 31) (hn : narrow .boolean (.int y) = .int y) (hw : zup σ a (.inl (2, N, .inl (va_up f j y))) = σ') (kk : zJ E Y R fin n cells slots σ' q L rest) : zJ E Y R fin n cells slots σ pc L (.int y :: .int x :: .ref a :: rest) := by
  subst hx; subst hw
  refine zj_zast k h hq hs (vp_in_nI hj hN) hn ?_
  rw [nI_clamp (by omega)]; exact kk
theorem zn_put (k : Nat) {idx a : Nat} {fs : List Value} {x : Value} (h : Y.rows[k]? = some (pc, .putfield idx, q, u, v, w)) (hq : pc + 3 = q) (hs : σ a = some (.inr (u, fs))) (hfin : (zTT u v).2.2.2 = false) (hn : narrow (zYY u v) x = x) (hfit : fits (zYY u v) x = true) (hl0 : v.blt fs.length = true) (hw : zup σ a (.inr (u, fs.set v x)) = σ') (kk : zJ E Y R fin n cells slots σ' q L rest) : zJ E Y R fin n cells slots σ pc L (x :: .ref a :: rest) := by
  subst hw
  exact zj_put k h hq hs hfin hn hfit (Nat.lt_of_lt_of_le (Nat.lt_succ_self v) (Nat.le_of_ble_eq_true hl0)) kk
/-! compares of small numbers -/
theorem zn_icmp_lt (k a b : Nat) {x y : Int32} {off : Int} (h : Y.rows[k]? = some (pc, .if_icmp .lt off, q, u, v, w)) (hq : pc + 3 = q) (hx : x = nI a) (hy : y = nI b) (ha : a < 2 ^ 31) (hb : b < 2 ^ 31) (kt : a < b → zJ E Y R fin n cells slots σ u L rest) (kf : b ≤ a → zJ E Y R fin n cells slots σ q L rest) : zJ E Y R fin n cells slots σ pc L (.int y :: .int x :: rest) := by
  subst hx; subst hy
  exact zj_icmp_lt k h hq (fun g => kt ((nI_ltI ha hb).mp g)) (fun g => kf (by have := mt (nI_ltI ha hb).mpr g; omega))
theorem zn_icmp_ge (k a b : Nat) {x y : Int32} {off : Int} (h : Y.rows[k]? = some (pc, .if_icmp .ge off, q, u, v, w)) (hq : pc + 3 = q) (hx : x = nI a) (hy : y = nI b) (ha : a < 2 ^ 31) (hb : b < 2 ^ 31) (kt : b ≤ a → zJ E Y R fin n cells slots σ u L rest) (kf : a < b → zJ E Y R fin n cells slots σ q L rest) : zJ E Y R fin n cells slots σ pc L (.int y :: .int x :: rest) := by
  subst hx; subst hy
  exact zj_icmp_ge k h hq (fun g => kt ((nI_leI hb ha).mp g)) (fun g => kf (by have := mt (nI_leI hb ha).mpr g; omega))
theorem zn_icmp_gt (k a b : Nat) {x y : Int32} {off : Int} (h : Y.rows[k]? = some (pc, .if_icmp .gt off, q, u, v, w)) (hq : pc + 3 = q) (hx : x = nI a) (hy : y = nI b) (ha : a < 2 ^ 31) (hb : b < 2 ^ 31) (kt : b < a → zJ E Y R fin n cells slots σ u L rest) (kf : a ≤ b → zJ E Y R fin n cells slots σ q L rest) : zJ E Y R fin n cells slots σ pc L (.int y :: .int x :: rest) := by
  subst hx; subst hy
  exact zj_icmp_gt k h hq (fun g => kt ((nI_ltI hb ha).mp g)) (fun g => kf (by have := mt (nI_ltI hb ha).mpr g; omega))
theorem zn_icmp_le (k a b : Nat) {x y : Int32} {off : Int} (h : Y.rows[k]? = some (pc, .if_icmp .le off, q, u, v, w)) (hq : pc + 3 = q) (hx : x = nI a) (hy : y = nI b) (ha : a < 2 ^ 31) (hb : b < 2 ^ 31) (kt : a ≤ b → zJ E Y R fin n cells slots σ u L rest) (kf : b < a → zJ E Y R fin n cells slots σ q L rest) : zJ E Y R fin n cells slots σ pc L (.int y :: .int x :: rest) := by
  subst hx; subst hy
  exact zj_icmp_le k h hq (fun g => kt ((nI_leI ha hb).mp g)) (fun g => kf (by have := mt (nI_leI ha hb).mpr g; omega))
theorem zn_icmp_eq (k a b : Nat) {x y : Int32} {off : Int} (h : Y.rows[k]? = some (pc, .if_icmp .eq off, q, u, v, w)) (hq : pc + 3 = q) (hx : x = nI a) (hy : y = nI b) (ha : a < 2 ^ 31) (hb : b < 2 ^ 31) (kt : a = b → zJ E Y R fin n cells slots σ u L rest) (kf : a ≠ b → zJ E Y R fin n cells slots σ q L rest) : zJ E Y R fin n cells slots σ pc L (.int y :: .int x :: rest) := by
  subst hx; subst hy
  exact zj_icmp_eq k h hq (fun g => kt ((nI_eq ha hb).mp g)) (fun g => kf (fun e => g ((nI_eq ha hb).mpr e)))
theorem zn_icmp_ne (k a b : Nat) {x y : Int32} {off : Int} (h : Y.rows[k]? = some (pc, .if_icmp .ne off, q, u, v, w)) (hq : pc + 3 = q) (hx : x = nI a) (hy : y = nI b) (ha : a < 2 ^ 31) (hb : b < 2 ^ 31) (kt : a ≠ b → zJ E Y R fin n cells slots σ u L rest) (kf : a = b → zJ E Y R fin n cells slots σ q L rest) : zJ E Y R fin n cells slots σ pc L (.int y :: .int x :: rest) := by
  subst hx; subst hy
  refine zj_icmp_ne k h hq (fun g => kt (fun e => ?_)) (fun g => kf ?_)
  · exact absurd ((nI_eq ha hb).mpr e) (by simpa using g)
  · exact (nI_eq ha hb).mp (Decidable.of_not_not (by simpa using g))
/-! switches -/
def ztsw (pc : Nat) (d lo hi : Int) (offs : Array Int) (x : Int) : Option Nat := if x < lo ∨ hi < x then some (((pc : Int) + d).toNat) else (offs[(x - lo).toNat]?).map fun o => ((pc : Int) + o).toNat
theorem zj_tsw (k : Nat) {x : Int32} {d lo hi : Int} {offs : Array Int} {t : Nat} (h : Y.rows[k]? = some (pc, .tableswitch d lo hi offs, q, u, v, w)) (hlt : pc.blt q = true) (ht : ztsw pc d lo hi offs x.toInt = some t) (hnn : (decide (0 ≤ (pc : Int) + d) && offs.all (fun o => decide (0 ≤ (pc : Int) + o))) = true) (kk : zJ E Y R fin n cells slots σ t L rest) : zJ E Y R fin n cells slots σ pc L (.int x :: rest) := by
  intro p e s m args below meth c H locs ls C hR hf hl
  have hlt' : pc < q := Nat.lt_of_lt_of_le (Nat.lt_succ_self pc) (Nat.le_of_ble_eq_true hlt)
  have h1 := (zdec (len := q - pc) C.2.2.2.2.2.2.2.2.2 h (by omega)).1
  simp only [Bool.and_eq_true, decide_eq_true_eq] at hnn
  unfold ztsw at ht
  split at ht
  · rename_i hc
    simp only [Option.some.injEq] at ht
    exact lv_tableOut C.1 C.2.1 h1 hc (by omega) (kk p e s m args below meth c H locs ls C hR hf hl)
  · rename_i hc
    simp only [Option.map_eq_some_iff] at ht
    obtain ⟨o, ho, ht⟩ := ht
    have h0 : 0 ≤ (pc : Int) + o := by
      have := Array.all_eq_true_iff_forall_mem.mp hnn.2 o (Array.mem_of_getElem? ho)
      simpa using this
    exact lv_tableIn C.1 C.2.1 h1 (fun g => hc (Or.inl g)) (fun g => hc (Or.inr g)) ho (by omega) (kk p e s m args below meth c H locs ls C hR hf hl)
end
end
section
/-! small static helpers -/
def zo (p : Prop) [Decidable p] : Int32 := if p then 1 else 0
theorem zo_t {p : Prop} [Decidable p] (h : p) : (1 : Int32) = zo p := by simp [zo, h]
theorem zo_f {p : Prop} [Decidable p] (h : ¬ p) : (0 : Int32) = zo p := by simp [zo, h]
theorem zo_nar (p : Prop) [Decidable p] : narrow .boolean (.int (zo p)) = .int (zo p) := by
  unfold zo; split <;> rfl
theorem zo_0 {p : Prop} [Decidable p] : zo p = 0 ↔ ¬ p := by
  unfold zo; split <;> simp_all
theorem zo_n0 {p : Prop} [Decidable p] : ¬ zo p = 0 ↔ p := by
  unfold zo; split <;> simp_all
theorem zo_c {p q : Prop} [Decidable p] [Decidable q] (h : p ↔ q) : zo p = zo q := by
  unfold zo; by_cases hp : p
  · rw [if_pos hp, if_pos (h.mp hp)]
  · rw [if_neg hp, if_neg (fun x => hp (h.mpr x))]
theorem zrt {x y : Int32} (h : x = y) : (some (Value.int x) : Option Value) = some (Value.int y) := by rw [h]
theorem zrl {x y : Int64} (h : x = y) : (some (Value.long x) : Option Value) = some (Value.long y) := by rw [h]
/-- a number is one of 0 .. n - 1 -/
abbrev zr (v : Int32) (n : Int) : Prop := 0 ≤ v.toInt ∧ v.toInt < n
theorem zr_dec (v : Int32) (n : Int) : zr v n ↔ (0 ≤ v.toInt ∧ v.toInt < n) := Iff.rfl
theorem zr_nI {v : Int32} {n : Nat} (h : zr v n) : ∃ j : Nat, j < n ∧ v = nI j := by
  obtain ⟨h1, h2⟩ := h
  refine ⟨v.toInt.toNat, by omega, ?_⟩
  apply Int32.toInt_inj.mp
  have h3 := Int32.toInt_lt v
  rw [nI_toInt (by omega)]
  omega
theorem zr_of {j n : Nat} (h : j < n) (hn : n ≤ 2 ^ 31) : zr (nI j) n := by
  unfold zr; rw [nI_toInt (by omega)]; omega
theorem zl0 (x : Int32) : x.toInt64.toInt = x.toInt := Int32.toInt_toInt64 x
/-! Math.min, max, abs -/
section
variable {E : zE} {Y : zY} {R : Room} {fin : zF} {n cells slots : Nat} {σ : zH} {pc q u v idx : Nat} {w : Int} {L : List (Option Value)} {rest : List Value}
theorem znest_math : ∀ q ∈ zNest, q.2.2.cls ≠ "java/lang/Math" := by decide +kernel
theorem zlk_math {oc idx : Nat} {y : MethodName} (h : zLk oc idx y) (hy : y.cls = "java/lang/Math") : Cond.methodLink (zcn oc) idx y ∈ zTbl := h.elim id (fun g => absurd hy (znest_math _ g))
theorem zj_mmax (k : Nat) {x y : Int32} (h : Y.rows[k]? = some (pc, .invokestatic idx, q, u, v, w)) (hq : pc + 3 = q) (lk : zLk Y.oc idx YJ_max.nm) (hrest : ((rest.map Value.category).sum + 13).ble R.locals = true) (hR : (1).ble R.frames = true) (hc : cells.ble R.cells = true) (hs : slots.ble R.slots = true) (kk : zJ E Y R fin n cells slots σ q L (.int (if x < y then y else x) :: rest)) : zJ E Y R fin n cells slots σ pc L (.int y :: .int x :: rest) := by
  intro p e s m args below meth c H locs ls C hR' hf hl
  subst hq
  have hts := C.2.2.2.2.2.2.1
  exact va_mmax C.1 C.2.1 (C.2.2.1.trans hl.1.symm) C.2.2.2.2.2.1 (hts _ (zlk_math lk rfl)) (hts _ (zt 385 (by decide +kernel) rfl)) (hts _ (zt 80 (by decide +kernel) rfl)) (hts _ (zt 386 (by decide +kernel) rfl)) (Nat.le_of_ble_eq_true hR) (Nat.le_of_ble_eq_true hrest) (Nat.le_of_ble_eq_true hc) (Nat.le_of_ble_eq_true hs) (zdec C.2.2.2.2.2.2.2.2.2 h rfl).1 (kk p e s m args below meth c H locs ls C hR' hf hl)
theorem zj_mmin (k : Nat) {x y : Int32} (h : Y.rows[k]? = some (pc, .invokestatic idx, q, u, v, w)) (hq : pc + 3 = q) (lk : zLk Y.oc idx YJ_min.nm) (hrest : ((rest.map Value.category).sum + 13).ble R.locals = true) (hR : (1).ble R.frames = true) (hc : cells.ble R.cells = true) (hs : slots.ble R.slots = true) (kk : zJ E Y R fin n cells slots σ q L (.int (if y < x then y else x) :: rest)) : zJ E Y R fin n cells slots σ pc L (.int y :: .int x :: rest) := by
  intro p e s m args below meth c H locs ls C hR' hf hl
  subst hq
  have hts := C.2.2.2.2.2.2.1
  exact va_mmin C.1 C.2.1 (C.2.2.1.trans hl.1.symm) C.2.2.2.2.2.1 (hts _ (zlk_math lk rfl)) (hts _ (zt 365 (by decide +kernel) rfl)) (hts _ (zt 80 (by decide +kernel) rfl)) (hts _ (zt 366 (by decide +kernel) rfl)) (Nat.le_of_ble_eq_true hR) (Nat.le_of_ble_eq_true hrest) (Nat.le_of_ble_eq_true hc) (Nat.le_of_ble_eq_true hs) (zdec C.2.2.2.2.2.2.2.2.2 h rfl).1 (kk p e s m args below meth c H locs ls C hR' hf hl)
theorem zj_mabs (k : Nat) {x : Int32} (h : Y.rows[k]? = some (pc, .invokestatic idx, q, u, v, w)) (hq : pc + 3 = q) (lk : zLk Y.oc idx YJ_abs.nm) (hrest : ((rest.map Value.category).sum + 13).ble R.locals = true) (hR : (1).ble R.frames = true) (hc : cells.ble R.cells = true) (hs : slots.ble R.slots = true) (kk : zJ E Y R fin n cells slots σ q L (.int (if 0 ≤ x then x else 0 - x) :: rest)) : zJ E Y R fin n cells slots σ pc L (.int x :: rest) := by
  intro p e s m args below meth c H locs ls C hR' hf hl
  subst hq
  have hts := C.2.2.2.2.2.2.1
  exact va_mabs C.1 C.2.1 (C.2.2.1.trans hl.1.symm) C.2.2.2.2.2.1 (hts _ (zlk_math lk rfl)) (hts _ (zt 487 (by decide +kernel) rfl)) (hts _ (zt 80 (by decide +kernel) rfl)) (hts _ (zt 488 (by decide +kernel) rfl)) (Nat.le_of_ble_eq_true hR) (Nat.le_of_ble_eq_true hrest) (Nat.le_of_ble_eq_true hc) (Nat.le_of_ble_eq_true hs) (zdec C.2.2.2.2.2.2.2.2.2 h rfl).1 (kk p e s m args below meth c H locs ls C hR' hf hl)
end
section
variable {E : zE} {σ : zH}
theorem k_isOneOf (v m : Int32) : zM E YD_isOneOf 1 [.int v, .int m] σ (some (.int (zo (zr v m.toInt)))) σ := by
  refine zM.of oD_isOneOf (by decide +kernel) rfl rfl (fun n => ?_)
  refine zj_iload_n 0 rfl rfl rfl ?_
  refine zj_if_lt 1 rfl rfl (fun c1 => ?_) (fun c1 => ?_)
  · refine zj_iconst 7 (0) rfl rfl (by decide) ?_
    refine zj_zreturn 8 rfl rfl rfl rfl ?_
    first | exact ⟨zrt (zo_t (by simp only [zr, Int32.lt_iff_toInt_lt, Int32.le_iff_toInt_le, Int32.toInt_zero] at *; omega)), rfl, rfl⟩ | exact ⟨zrt (zo_f (by simp only [zr, Int32.lt_iff_toInt_lt, Int32.le_iff_toInt_le, Int32.toInt_zero] at *; omega)), rfl, rfl⟩
  · refine zj_iload_n 2 rfl rfl rfl ?_
    refine zj_iload_n 3 rfl rfl rfl ?_
    refine zj_icmp_ge 4 rfl rfl (fun c6 => ?_) (fun c6 => ?_)
    · refine zj_iconst 7 (0) rfl rfl (by decide) ?_
      refine zj_zreturn 8 rfl rfl rfl rfl ?_
      first | exact ⟨zrt (zo_t (by simp only [zr, Int32.lt_iff_toInt_lt, Int32.le_iff_toInt_le, Int32.toInt_zero] at *; omega)), rfl, rfl⟩ | exact ⟨zrt (zo_f (by simp only [zr, Int32.lt_iff_toInt_lt, Int32.le_iff_toInt_le, Int32.toInt_zero] at *; omega)), rfl, rfl⟩
    · refine zj_iconst 5 (1) rfl rfl (by decide) ?_
      refine zj_goto 6 rfl rfl ?_
      refine zj_zreturn 8 rfl rfl rfl rfl ?_
      first | exact ⟨zrt (zo_t (by simp only [zr, Int32.lt_iff_toInt_lt, Int32.le_iff_toInt_le, Int32.toInt_zero] at *; omega)), rfl, rfl⟩ | exact ⟨zrt (zo_f (by simp only [zr, Int32.lt_iff_toInt_lt, Int32.le_iff_toInt_le, Int32.toInt_zero] at *; omega)), rfl, rfl⟩
theorem k_in (v a b : Int64) : zM E YM_in 1 [.long v, .long a, .long b] σ (some (.int (zo (a.toInt ≤ v.toInt ∧ v.toInt ≤ b.toInt)))) σ := by
  refine zM.of oM_in (by decide +kernel) rfl rfl (fun n => ?_)
  refine zj_lload_n 0 rfl rfl rfl ?_
  refine zj_lload_n 1 rfl rfl rfl ?_
  refine zj_lcmp 2 rfl rfl ?_
  refine zj_if_lt 3 rfl rfl (fun c3 => ?_) (fun c3 => ?_)
  · refine zj_iconst 10 (0) rfl rfl (by decide) ?_
    refine zj_zreturn 11 rfl rfl rfl rfl ?_
    first | exact ⟨zrt (zo_t (by simp only [lg_cmp_lt, lg_cmp_gt, lg_cmp_le, lg_cmp_ge, Int64.lt_iff_toInt_lt, Int64.le_iff_toInt_le] at *; omega)), rfl, rfl⟩ | exact ⟨zrt (zo_f (by simp only [lg_cmp_lt, lg_cmp_gt, lg_cmp_le, lg_cmp_ge, Int64.lt_iff_toInt_lt, Int64.le_iff_toInt_le] at *; omega)), rfl, rfl⟩
  · refine zj_lload_n 4 rfl rfl rfl ?_
    refine zj_lload 5 rfl rfl rfl ?_
    refine zj_lcmp 6 rfl rfl ?_
    refine zj_if_gt 7 rfl rfl (fun c10 => ?_) (fun c10 => ?_)
    · refine zj_iconst 10 (0) rfl rfl (by decide) ?_
      refine zj_zreturn 11 rfl rfl rfl rfl ?_
      first | exact ⟨zrt (zo_t (by simp only [lg_cmp_lt, lg_cmp_gt, lg_cmp_le, lg_cmp_ge, Int64.lt_iff_toInt_lt, Int64.le_iff_toInt_le] at *; omega)), rfl, rfl⟩ | exact ⟨zrt (zo_f (by simp only [lg_cmp_lt, lg_cmp_gt, lg_cmp_le, lg_cmp_ge, Int64.lt_iff_toInt_lt, Int64.le_iff_toInt_le] at *; omega)), rfl, rfl⟩
    · refine zj_iconst 8 (1) rfl rfl (by decide) ?_
      refine zj_goto 9 rfl rfl ?_
      refine zj_zreturn 11 rfl rfl rfl rfl ?_
      first | exact ⟨zrt (zo_t (by simp only [lg_cmp_lt, lg_cmp_gt, lg_cmp_le, lg_cmp_ge, Int64.lt_iff_toInt_lt, Int64.le_iff_toInt_le] at *; omega)), rfl, rfl⟩ | exact ⟨zrt (zo_f (by simp only [lg_cmp_lt, lg_cmp_gt, lg_cmp_le, lg_cmp_ge, Int64.lt_iff_toInt_lt, Int64.le_iff_toInt_le] at *; omega)), rfl, rfl⟩
theorem k_mix (h v : Int64) : zM E YD_mix 1 [.long h, .long v] σ (some (.long (31 * h + v))) σ := by
  refine zM.of oD_mix (by decide +kernel) rfl rfl (fun n => ?_)
  refine zj_ldc2 0 (31) rfl rfl (by decide) ?_
  refine zj_lload_n 1 rfl rfl rfl ?_
  refine zj_lmul 2 rfl rfl ?_
  refine zj_lload_n 3 rfl rfl rfl ?_
  refine zj_ladd 4 rfl rfl ?_
  refine zj_lreturn 5 rfl rfl rfl ?_
  exact ⟨rfl, rfl, rfl⟩
abbrev zhas (x y : Int32) : Prop := ¬ (x >>> (y &&& 31)) &&& 1 = 0

theorem k_has (x y : Int32) : zM E YD_has 1 [.int x, .int y] σ (some (.int (zo (zhas x y)))) σ := by
  refine zM.of oD_has (by decide +kernel) rfl rfl (fun n => ?_)
  refine zj_iload_n 0 rfl rfl rfl ?_
  refine zj_iload_n 1 rfl rfl rfl ?_
  refine zj_ishr 2 rfl rfl ?_
  refine zj_iconst 3 (1) rfl rfl (by decide) ?_
  refine zj_iand 4 rfl rfl ?_
  refine zj_if_eq 5 rfl rfl (fun c5 => ?_) (fun c5 => ?_)
  · refine zj_iconst 8 (0) rfl rfl (by decide) ?_
    refine zj_zreturn 9 rfl rfl rfl rfl ?_
    first | exact ⟨zrt (zo_t (by assumption)), rfl, rfl⟩ | exact ⟨zrt (zo_f (fun h => h (by assumption))), rfl, rfl⟩
  · refine zj_iconst 6 (1) rfl rfl (by decide) ?_
    refine zj_goto 7 rfl rfl ?_
    refine zj_zreturn 9 rfl rfl rfl rfl ?_
    first | exact ⟨zrt (zo_t (by assumption)), rfl, rfl⟩ | exact ⟨zrt (zo_f (fun h => h (by assumption))), rfl, rfl⟩
theorem k_isFour (v : Int32) : zM E YM_isFour 2 [.int v] σ (some (.int (zo (zr v 4)))) σ := by
  refine zM.of oM_isFour (by decide +kernel) rfl rfl (fun n => ?_)
  refine zj_iload_n 0 rfl rfl rfl ?_
  refine zj_i2l 1 rfl rfl ?_
  refine zj_lconst 2 (0) rfl rfl (by decide) ?_
  refine zj_ldc2 3 (3) rfl rfl (by decide) ?_
  refine zj_csx 4 rfl rfl lk_8_51 ckM_in (k_in _ _ _) rfl rfl rfl rfl ?_
  refine zj_zreturn 5 rfl rfl rfl (zo_nar _) ?_
  exact ⟨zrt (zo_c (by simp only [zr, zl0]; constructor <;> intro h <;> simp at h ⊢ <;> omega)), rfl, rfl⟩
theorem k_isCell (v : Int32) : zM E YM_isCell 2 [.int v] σ (some (.int (zo (zr v 81)))) σ := by
  refine zM.of oM_isCell (by decide +kernel) rfl rfl (fun n => ?_)
  refine zj_iload_n 0 rfl rfl rfl ?_
  refine zj_i2l 1 rfl rfl ?_
  refine zj_lconst 2 (0) rfl rfl (by decide) ?_
  refine zj_ldc2 3 (80) rfl rfl (by decide) ?_
  refine zj_csx 4 rfl rfl lk_8_51 ckM_in (k_in _ _ _) rfl rfl rfl rfl ?_
  refine zj_zreturn 5 rfl rfl rfl (zo_nar _) ?_
  exact ⟨zrt (zo_c (by simp only [zr, zl0]; constructor <;> intro h <;> simp at h ⊢ <;> omega)), rfl, rfl⟩
theorem k_isLines (v : Int32) : zM E YM_isLines 2 [.int v] σ (some (.int (zo (zr v 268435456)))) σ := by
  refine zM.of oM_isLines (by decide +kernel) rfl rfl (fun n => ?_)
  refine zj_iload_n 0 rfl rfl rfl ?_
  refine zj_i2l 1 rfl rfl ?_
  refine zj_lconst 2 (0) rfl rfl (by decide) ?_
  refine zj_ldc2 3 (268435455) rfl rfl (by decide) ?_
  refine zj_csx 4 rfl rfl lk_8_51 ckM_in (k_in _ _ _) rfl rfl rfl rfl ?_
  refine zj_zreturn 5 rfl rfl rfl (zo_nar _) ?_
  exact ⟨zrt (zo_c (by simp only [zr, zl0]; constructor <;> intro h <;> simp at h ⊢ <;> omega)), rfl, rfl⟩
end
end
section
/-! the reference's world: its object at a, its rows behind it -/
abbrev zMo : Type := (Nat → Nat → Int32) × (Nat → Nat → Int64) × (Nat → Int32) × (Nat → Int64)
abbrev zMo.row (M : zMo) : Nat → Int32 := M.1 0
abbrev zMo.kept (M : zMo) : Nat → Int32 := M.1 1
abbrev zMo.isKept (M : zMo) : Nat → Int32 := M.1 2
abbrev zMo.picture (M : zMo) : Nat → Int32 := M.1 3
abbrev zMo.codes (M : zMo) : Nat → Int32 := M.1 4
abbrev zMo.waits (M : zMo) : Nat → Int32 := M.1 5
abbrev zMo.isCompared (M : zMo) : Nat → Int32 := M.1 6
abbrev zMo.drawings (M : zMo) : Nat → Int32 := M.1 7
abbrev zMo.numbers (M : zMo) : Nat → Int64 := M.2.1 0
abbrev zMo.letters (M : zMo) : Nat → Int64 := M.2.1 1
abbrev zMo.stack (M : zMo) : Nat → Int64 := M.2.1 2
abbrev zMo.codeMany (M : zMo) : Int32 := M.2.2.1 0
abbrev zMo.waiting (M : zMo) : Int32 := M.2.2.1 1
abbrev zMo.depth (M : zMo) : Int32 := M.2.2.1 2
abbrev zMo.isBehind (M : zMo) : Int32 := M.2.2.1 3
abbrev zMo.digits (M : zMo) : Int32 := M.2.2.1 4
abbrev zMo.numberAt (M : zMo) : Int32 := M.2.2.1 5
abbrev zMo.leastCost (M : zMo) : Int32 := M.2.2.1 6
abbrev zMo.up (M : zMo) : Int64 := M.2.2.2 0
abbrev zMo.low (M : zMo) : Int64 := M.2.2.2 1
abbrev zMo.hash (M : zMo) : Int64 := M.2.2.2 2
abbrev zMo.sA (M : zMo) (j : Nat) (f : Nat → Int32) : zMo := (va_up M.1 j f, M.2)
abbrev zMo.sB (M : zMo) (j : Nat) (f : Nat → Int64) : zMo := (M.1, va_up M.2.1 j f, M.2.2)
abbrev zMo.sI (M : zMo) (j : Nat) (x : Int32) : zMo := (M.1, M.2.1, va_up M.2.2.1 j x, M.2.2.2)
abbrev zMo.sL (M : zMo) (j : Nat) (x : Int64) : zMo := (M.1, M.2.1, M.2.2.1, va_up M.2.2.2 j x)
abbrev mfs (a : Nat) (M : zMo) : List Value := [.ref (a + 1), .ref (a + 2), .ref (a + 3), .long (M.2.2.2 0), .long (M.2.2.2 1), .ref (a + 4), .ref (a + 5), .ref (a + 6), .int (M.2.2.1 0), .ref (a + 7), .int (M.2.2.1 1), .int (M.2.2.1 2), .ref (a + 8), .int (M.2.2.1 3), .int (M.2.2.1 4), .int (M.2.2.1 5), .ref (a + 9), .ref (a + 10), .int (M.2.2.1 6), .ref (a + 11), .long (M.2.2.2 2)]
def mw (σ : zH) (a : Nat) (M : zMo) : zH := fun q =>
  if q = a then some (.inr (8, mfs a M))
  else if q = a + 1 then some (.inl (0, 818, .inl (M.1 0)))
  else if q = a + 2 then some (.inl (0, 1636, .inl (M.1 1)))
  else if q = a + 3 then some (.inl (2, 2, .inl (M.1 2)))
  else if q = a + 4 then some (.inl (0, 81, .inl (M.1 3)))
  else if q = a + 5 then some (.inl (0, 40, .inl (M.1 4)))
  else if q = a + 6 then some (.inl (1, 40, .inr (.inl (M.2.1 0))))
  else if q = a + 7 then some (.inl (0, 41, .inl (M.1 5)))
  else if q = a + 8 then some (.inl (2, 10, .inl (M.1 6)))
  else if q = a + 9 then some (.inl (1, 6, .inr (.inl (M.2.1 1))))
  else if q = a + 10 then some (.inl (1, 41, .inr (.inl (M.2.1 2))))
  else if q = a + 11 then some (.inl (0, 4, .inl (M.1 7)))
  else σ q
section
variable {σ : zH} {a : Nat} {M : zMo}
theorem mw_0 : mw σ a M a = some (.inr (8, mfs a M)) := by simp [mw]
theorem mw_1 : mw σ a M (a + 1) = some (.inl (0, 818, .inl (M.1 0))) := by simp [mw]
theorem mw_2 : mw σ a M (a + 2) = some (.inl (0, 1636, .inl (M.1 1))) := by simp [mw]
theorem mw_3 : mw σ a M (a + 3) = some (.inl (2, 2, .inl (M.1 2))) := by simp [mw]
theorem mw_4 : mw σ a M (a + 4) = some (.inl (0, 81, .inl (M.1 3))) := by simp [mw]
theorem mw_5 : mw σ a M (a + 5) = some (.inl (0, 40, .inl (M.1 4))) := by simp [mw]
theorem mw_6 : mw σ a M (a + 6) = some (.inl (1, 40, .inr (.inl (M.2.1 0)))) := by simp [mw]
theorem mw_7 : mw σ a M (a + 7) = some (.inl (0, 41, .inl (M.1 5))) := by simp [mw]
theorem mw_8 : mw σ a M (a + 8) = some (.inl (2, 10, .inl (M.1 6))) := by simp [mw]
theorem mw_9 : mw σ a M (a + 9) = some (.inl (1, 6, .inr (.inl (M.2.1 1)))) := by simp [mw]
theorem mw_10 : mw σ a M (a + 10) = some (.inl (1, 41, .inr (.inl (M.2.1 2)))) := by simp [mw]
theorem mw_11 : mw σ a M (a + 11) = some (.inl (0, 4, .inl (M.1 7))) := by simp [mw]
theorem mw_ne {q : Nat} (h : q < a ∨ a + 12 ≤ q) : mw σ a M q = σ q := by
  unfold mw
  rw [if_neg (by omega)]
  rw [if_neg (by omega)]
  rw [if_neg (by omega)]
  rw [if_neg (by omega)]
  rw [if_neg (by omega)]
  rw [if_neg (by omega)]
  rw [if_neg (by omega)]
  rw [if_neg (by omega)]
  rw [if_neg (by omega)]
  rw [if_neg (by omega)]
  rw [if_neg (by omega)]
  rw [if_neg (by omega)]
theorem mw_u1 {f : Nat → Int32} : zup (mw σ a M) (a + 1) (.inl (0, 818, .inl f)) = mw σ a (M.sA 0 f) := by
  funext q
  by_cases h : q = a + 1
  · subst h; simp [zup, mw, va_up]
  · simp [zup, mw, va_up, h]
theorem mw_u2 {f : Nat → Int32} : zup (mw σ a M) (a + 2) (.inl (0, 1636, .inl f)) = mw σ a (M.sA 1 f) := by
  funext q
  by_cases h : q = a + 2
  · subst h; simp [zup, mw, va_up]
  · simp [zup, mw, va_up, h]
theorem mw_u3 {f : Nat → Int32} : zup (mw σ a M) (a + 3) (.inl (2, 2, .inl f)) = mw σ a (M.sA 2 f) := by
  funext q
  by_cases h : q = a + 3
  · subst h; simp [zup, mw, va_up]
  · simp [zup, mw, va_up, h]
theorem mw_u4 {f : Nat → Int32} : zup (mw σ a M) (a + 4) (.inl (0, 81, .inl f)) = mw σ a (M.sA 3 f) := by
  funext q
  by_cases h : q = a + 4
  · subst h; simp [zup, mw, va_up]
  · simp [zup, mw, va_up, h]
theorem mw_u5 {f : Nat → Int32} : zup (mw σ a M) (a + 5) (.inl (0, 40, .inl f)) = mw σ a (M.sA 4 f) := by
  funext q
  by_cases h : q = a + 5
  · subst h; simp [zup, mw, va_up]
  · simp [zup, mw, va_up, h]
theorem mw_u6 {f : Nat → Int64} : zup (mw σ a M) (a + 6) (.inl (1, 40, .inr (.inl f))) = mw σ a (M.sB 0 f) := by
  funext q
  by_cases h : q = a + 6
  · subst h; simp [zup, mw, va_up]
  · simp [zup, mw, va_up, h]
theorem mw_u7 {f : Nat → Int32} : zup (mw σ a M) (a + 7) (.inl (0, 41, .inl f)) = mw σ a (M.sA 5 f) := by
  funext q
  by_cases h : q = a + 7
  · subst h; simp [zup, mw, va_up]
  · simp [zup, mw, va_up, h]
theorem mw_u8 {f : Nat → Int32} : zup (mw σ a M) (a + 8) (.inl (2, 10, .inl f)) = mw σ a (M.sA 6 f) := by
  funext q
  by_cases h : q = a + 8
  · subst h; simp [zup, mw, va_up]
  · simp [zup, mw, va_up, h]
theorem mw_u9 {f : Nat → Int64} : zup (mw σ a M) (a + 9) (.inl (1, 6, .inr (.inl f))) = mw σ a (M.sB 1 f) := by
  funext q
  by_cases h : q = a + 9
  · subst h; simp [zup, mw, va_up]
  · simp [zup, mw, va_up, h]
theorem mw_u10 {f : Nat → Int64} : zup (mw σ a M) (a + 10) (.inl (1, 41, .inr (.inl f))) = mw σ a (M.sB 2 f) := by
  funext q
  by_cases h : q = a + 10
  · subst h; simp [zup, mw, va_up]
  · simp [zup, mw, va_up, h]
theorem mw_u11 {f : Nat → Int32} : zup (mw σ a M) (a + 11) (.inl (0, 4, .inl f)) = mw σ a (M.sA 7 f) := by
  funext q
  by_cases h : q = a + 11
  · subst h; simp [zup, mw, va_up]
  · simp [zup, mw, va_up, h]
theorem mw_p_up {x : Int64} : zup (mw σ a M) a (.inr (8, (mfs a M).set 3 (.long x))) = mw σ a (M.sL 0 x) := by
  funext q
  by_cases h : q = a
  · subst h; simp [zup, mw, va_up]
  · simp [zup, mw, h]
theorem mw_p_low {x : Int64} : zup (mw σ a M) a (.inr (8, (mfs a M).set 4 (.long x))) = mw σ a (M.sL 1 x) := by
  funext q
  by_cases h : q = a
  · subst h; simp [zup, mw, va_up]
  · simp [zup, mw, h]
theorem mw_p_codeMany {x : Int32} : zup (mw σ a M) a (.inr (8, (mfs a M).set 8 (.int x))) = mw σ a (M.sI 0 x) := by
  funext q
  by_cases h : q = a
  · subst h; simp [zup, mw, va_up]
  · simp [zup, mw, h]
theorem mw_p_waiting {x : Int32} : zup (mw σ a M) a (.inr (8, (mfs a M).set 10 (.int x))) = mw σ a (M.sI 1 x) := by
  funext q
  by_cases h : q = a
  · subst h; simp [zup, mw, va_up]
  · simp [zup, mw, h]
theorem mw_p_depth {x : Int32} : zup (mw σ a M) a (.inr (8, (mfs a M).set 11 (.int x))) = mw σ a (M.sI 2 x) := by
  funext q
  by_cases h : q = a
  · subst h; simp [zup, mw, va_up]
  · simp [zup, mw, h]
theorem mw_p_isBehind {x : Int32} : zup (mw σ a M) a (.inr (8, (mfs a M).set 13 (.int x))) = mw σ a (M.sI 3 x) := by
  funext q
  by_cases h : q = a
  · subst h; simp [zup, mw, va_up]
  · simp [zup, mw, h]
theorem mw_p_digits {x : Int32} : zup (mw σ a M) a (.inr (8, (mfs a M).set 14 (.int x))) = mw σ a (M.sI 4 x) := by
  funext q
  by_cases h : q = a
  · subst h; simp [zup, mw, va_up]
  · simp [zup, mw, h]
theorem mw_p_numberAt {x : Int32} : zup (mw σ a M) a (.inr (8, (mfs a M).set 15 (.int x))) = mw σ a (M.sI 5 x) := by
  funext q
  by_cases h : q = a
  · subst h; simp [zup, mw, va_up]
  · simp [zup, mw, h]
theorem mw_p_leastCost {x : Int32} : zup (mw σ a M) a (.inr (8, (mfs a M).set 18 (.int x))) = mw σ a (M.sI 6 x) := by
  funext q
  by_cases h : q = a
  · subst h; simp [zup, mw, va_up]
  · simp [zup, mw, h]
theorem mw_p_hash {x : Int64} : zup (mw σ a M) a (.inr (8, (mfs a M).set 20 (.long x))) = mw σ a (M.sL 2 x) := by
  funext q
  by_cases h : q = a
  · subst h; simp [zup, mw, va_up]
  · simp [zup, mw, h]
end
end
section
/-! the reference: small methods -/
def zb28 (x : Int32) : Nat → Int32
  | 0 => 0
  | k + 1 => zb28 x k + ((x >>> (nI k &&& 31)) &&& 1)
section
variable {E : zE} {σ : zH} {a : Nat} {M : zMo}
theorem l_bitsOf (x : Int32) : ∀ (m : Nat) (k : Nat), (k + m = 28) → ∀ n, zB E YM_bitsOf 1 n (some (.int (zb28 x 28))) (σ) (σ) 4 [some (.int x), some (.int (zb28 x k)), some (.int (nI k))] [] := by
  intro m
  induction m using Nat.strongRecOn with
  | ind m ih =>
  intro k hm n
  refine zj_iload_n 4 rfl rfl rfl ?_
  refine zj_bipush 5 (28) rfl rfl (by decide) ?_
  refine zn_icmp_ge 6 (k) (28) rfl rfl rfl rfl (by omega) (by omega) (fun c7 => ?_) (fun c7 => ?_)
  · refine zj_iload_n 17 rfl rfl rfl ?_
    refine zj_ireturn 18 rfl rfl rfl ?_
    obtain rfl : k = 28 := by omega
    exact ⟨rfl, rfl, rfl⟩
  · refine zj_iload_n 7 rfl rfl rfl ?_
    refine zj_iload_n 8 rfl rfl rfl ?_
    refine zj_iload_n 9 rfl rfl rfl ?_
    refine zj_ishr 10 rfl rfl ?_
    refine zj_iconst 11 (1) rfl rfl (by decide) ?_
    refine zj_iand 12 rfl rfl ?_
    refine zj_iadd 13 rfl rfl ?_
    refine zj_istore_n 14 rfl rfl ?_
    refine zn_iinc 15 (k) rfl rfl rfl rfl ?_
    refine zj_goto 16 rfl rfl ?_
    exact ih (m - 1) (by omega) (k + 1) (by omega) n
theorem k_bitsOf (x : Int32) : zM E YM_bitsOf 1 [.int x] (σ) (some (.int (zb28 x 28))) (σ) := by
  refine zM.of oM_bitsOf (by decide +kernel) rfl rfl (fun n => ?_)
  refine zj_iconst 0 (0) rfl rfl (by decide) ?_
  refine zj_istore_n 1 rfl rfl ?_
  refine zj_iconst 2 (0) rfl rfl (by decide) ?_
  refine zj_istore_n 3 rfl rfl ?_
  exact l_bitsOf x 28 0 (by omega) n
theorem k_change (j : Nat) (v : Int32) (hj : j < 818) : zM E YM_change 1 [.ref a, .int (nI j), .int v] (mw σ a M) (some (.int (M.row j))) (mw σ a (M.sA 0 (va_up M.row j v))) := by
  refine zM.of oM_change (by decide +kernel) rfl rfl (fun n => ?_)
  refine zj_aload_n 0 rfl rfl rfl ?_
  refine zj_get 1 rfl rfl mw_0 rfl ?_
  refine zj_iload_n 2 rfl rfl rfl ?_
  refine zn_iald 3 (j) rfl rfl mw_1 rfl (by omega) (by decide) ?_
  refine zj_istore_n 4 rfl rfl ?_
  refine zj_aload_n 5 rfl rfl rfl ?_
  refine zj_get 6 rfl rfl mw_0 rfl ?_
  refine zj_iload_n 7 rfl rfl rfl ?_
  refine zj_iload_n 8 rfl rfl rfl ?_
  refine zn_iast 9 (j) rfl rfl mw_1 rfl (by omega) (by decide) mw_u1 ?_
  refine zj_iload_n 10 rfl rfl rfl ?_
  refine zj_ireturn 11 rfl rfl rfl ?_
  exact ⟨rfl, rfl, rfl⟩
end
end
section
/-! the reference: worlds, marks, what is seen -/
def zfl {α : Type} (g f : Nat → α) (k : Nat) : Nat → α := fun j => if j < k then g j else f j
theorem zfl_up {α : Type} (g f : Nat → α) (k : Nat) : va_up (zfl g f k) k (g k) = zfl g f (k + 1) := by
  funext j
  unfold va_up zfl
  by_cases h : j = k
  · subst h; simp
  · by_cases h2 : j < k
    · simp [h, h2, Nat.lt_succ_of_lt h2]
    · simp [h, h2]; omega
theorem zfl_0 {α : Type} (g f : Nat → α) : zfl g f 0 = f := by funext j; simp [zfl]
theorem va_up_up {α : Type} (f : Nat → α) (k : Nat) (x y : α) : va_up (va_up f k x) k y = va_up f k y := by
  funext j; unfold va_up; by_cases h : j = k <;> simp [h]
theorem zva_id {α : Type} (f : Nat → α) (k : Nat) : va_up f k (f k) = f := by
  funext j; unfold va_up; by_cases h : j = k <;> simp [h]
theorem zMo.sA_sA (M : zMo) (j : Nat) (f g : Nat → Int32) : (M.sA j f).sA j g = M.sA j g := by
  unfold zMo.sA; rw [va_up_up]
theorem zMo.sA_self (M : zMo) (j : Nat) : M.sA j (M.1 j) = M := by
  unfold zMo.sA; rw [zva_id]
def mPic (row : Nat → Int32) (w : Nat) (dk : Int32) (c : Nat) : Int32 :=
  let v := row (81 * w + c) + (if (row (324 + 9 * w + c / 9) >>> (nI (c % 9) &&& 31)) &&& 1 = 1 then dk else 0)
  if v ≤ 15 then v else 15
section
variable {E : zE} {σ : zH} {a : Nat} {M : zMo}
theorem k_in0 (v : Int32) (b : Int64) (n : Int) (hb : b.toInt + 1 = n) : zM E YM_in 1 [.long v.toInt64, .long 0, .long b] σ (some (.int (zo (zr v n)))) σ := by
  have h := k_in (E := E) (σ := σ) v.toInt64 0 b
  have e : zo ((0 : Int64).toInt ≤ v.toInt64.toInt ∧ v.toInt64.toInt ≤ b.toInt) = zo (zr v n) := zo_c (by
    unfold zr; rw [zl0, Int64.toInt_zero]; omega)
  rw [e] at h
  exact h
theorem k_Mshade (w c v : Nat) (hw : w < 4) (hc : c < 81) (hv : v < 16) : zM E YM_shade 3 [.ref a, .int (nI w), .int (nI c), .int (nI v)] (mw σ a M) (some (.int (M.row (81 * w + c)))) (mw σ a (M.sA 0 (va_up M.row (81 * w + c) (nI v)))) := by
  refine zM.of oM_shade (by decide +kernel) rfl rfl (fun n => ?_)
  refine zj_iload_n 0 rfl rfl rfl ?_
  refine zj_csx 1 rfl rfl lk_8_57 ckM_isFour (k_isFour _) rfl rfl rfl rfl ?_
  refine zj_if_eq 2 rfl rfl (fun c4 => ?_) (fun c4 => ?_)
  · exact absurd (zr_of (by omega) (by decide)) (zo_0.mp c4)
  · refine zj_iload_n 3 rfl rfl rfl ?_
    refine zj_csx 4 rfl rfl lk_8_61 ckM_isCell (k_isCell _) rfl rfl rfl rfl ?_
    refine zj_if_eq 5 rfl rfl (fun c11 => ?_) (fun c11 => ?_)
    · exact absurd (zr_of (by omega) (by decide)) (zo_0.mp c11)
    · refine zj_iload_n 6 rfl rfl rfl ?_
      refine zj_i2l 7 rfl rfl ?_
      refine zj_lconst 8 (0) rfl rfl (by decide) ?_
      refine zj_ldc2 9 (15) rfl rfl (by decide) ?_
      refine zj_csx 10 rfl rfl lk_8_51 ckM_in (k_in0 _ _ 16 (by decide)) rfl rfl rfl rfl ?_
      refine zj_if_eq 11 rfl rfl (fun c23 => ?_) (fun c23 => ?_)
      · exact absurd (zr_of (by omega) (by decide)) (zo_0.mp c23)
      · refine zj_aload_n 12 rfl rfl rfl ?_
        refine zj_bipush 13 (81) rfl rfl (by decide) ?_
        refine zj_iload_n 14 rfl rfl rfl ?_
        refine zn_imul 15 (81) (w) rfl rfl rfl rfl ?_
        refine zj_iload_n 16 rfl rfl rfl ?_
        refine zn_iadd 17 (81 * w) (c) rfl rfl rfl rfl ?_
        refine zj_iload_n 18 rfl rfl rfl ?_
        refine zj_cvx 19 rfl rfl lk_8_66 ckM_change (k_change _ _ (by omega)) rfl mw_0 rfl rfl rfl ?_
        refine zj_goto 20 rfl rfl ?_
        refine zj_ireturn 22 rfl rfl rfl ?_
        exact ⟨rfl, rfl, rfl⟩
theorem k_Mshade_bad (w c v : Int32) (hb : ¬ (zr w 4 ∧ zr c 81 ∧ zr v 16)) : zM E YM_shade 3 [.ref a, .int w, .int c, .int v] (mw σ a M) (some (.int (-2))) (mw σ a M) := by
  refine zM.of oM_shade (by decide +kernel) rfl rfl (fun n => ?_)
  refine zj_iload_n 0 rfl rfl rfl ?_
  refine zj_csx 1 rfl rfl lk_8_57 ckM_isFour (k_isFour _) rfl rfl rfl rfl ?_
  refine zj_if_eq 2 rfl rfl (fun c4 => ?_) (fun c4 => ?_)
  · refine zj_bipush 21 (-2) rfl rfl (by decide) ?_
    refine zj_ireturn 22 rfl rfl rfl ?_
    exact ⟨rfl, rfl, rfl⟩
  · refine zj_iload_n 3 rfl rfl rfl ?_
    refine zj_csx 4 rfl rfl lk_8_61 ckM_isCell (k_isCell _) rfl rfl rfl rfl ?_
    refine zj_if_eq 5 rfl rfl (fun c11 => ?_) (fun c11 => ?_)
    · refine zj_bipush 21 (-2) rfl rfl (by decide) ?_
      refine zj_ireturn 22 rfl rfl rfl ?_
      exact ⟨rfl, rfl, rfl⟩
    · refine zj_iload_n 6 rfl rfl rfl ?_
      refine zj_i2l 7 rfl rfl ?_
      refine zj_lconst 8 (0) rfl rfl (by decide) ?_
      refine zj_ldc2 9 (15) rfl rfl (by decide) ?_
      refine zj_csx 10 rfl rfl lk_8_51 ckM_in (k_in0 _ _ 16 (by decide)) rfl rfl rfl rfl ?_
      refine zj_if_eq 11 rfl rfl (fun c23 => ?_) (fun c23 => ?_)
      · refine zj_bipush 21 (-2) rfl rfl (by decide) ?_
        refine zj_ireturn 22 rfl rfl rfl ?_
        exact ⟨rfl, rfl, rfl⟩
      · exact absurd ⟨zo_n0.mp c4, zo_n0.mp c11, zo_n0.mp c23⟩ hb
theorem k_Mgreen (w c v : Nat) (hw : w < 4) (hc : c < 9) (hv : v < 512) : zM E YM_green 3 [.ref a, .int (nI w), .int (nI c), .int (nI v)] (mw σ a M) (some (.int (M.row (324 + 9 * w + c)))) (mw σ a (M.sA 0 (va_up M.row (324 + 9 * w + c) (nI v)))) := by
  refine zM.of oM_green (by decide +kernel) rfl rfl (fun n => ?_)
  refine zj_iload_n 0 rfl rfl rfl ?_
  refine zj_csx 1 rfl rfl lk_8_57 ckM_isFour (k_isFour _) rfl rfl rfl rfl ?_
  refine zj_if_eq 2 rfl rfl (fun c4 => ?_) (fun c4 => ?_)
  · exact absurd (zr_of (by omega) (by decide)) (zo_0.mp c4)
  · refine zj_iload_n 3 rfl rfl rfl ?_
    refine zj_i2l 4 rfl rfl ?_
    refine zj_lconst 5 (0) rfl rfl (by decide) ?_
    refine zj_ldc2 6 (8) rfl rfl (by decide) ?_
    refine zj_csx 7 rfl rfl lk_8_51 ckM_in (k_in0 _ _ 9 (by decide)) rfl rfl rfl rfl ?_
    refine zj_if_eq 8 rfl rfl (fun c16 => ?_) (fun c16 => ?_)
    · exact absurd (zr_of (by omega) (by decide)) (zo_0.mp c16)
    · refine zj_iload_n 9 rfl rfl rfl ?_
      refine zj_i2l 10 rfl rfl ?_
      refine zj_lconst 11 (0) rfl rfl (by decide) ?_
      refine zj_ldc2 12 (511) rfl rfl (by decide) ?_
      refine zj_csx 13 rfl rfl lk_8_51 ckM_in (k_in0 _ _ 512 (by decide)) rfl rfl rfl rfl ?_
      refine zj_if_eq 14 rfl rfl (fun c28 => ?_) (fun c28 => ?_)
      · exact absurd (zr_of (by omega) (by decide)) (zo_0.mp c28)
      · refine zj_aload_n 15 rfl rfl rfl ?_
        refine zj_sipush 16 (324) rfl rfl (by decide) ?_
        refine zj_bipush 17 (9) rfl rfl (by decide) ?_
        refine zj_iload_n 18 rfl rfl rfl ?_
        refine zn_imul 19 (9) (w) rfl rfl rfl rfl ?_
        refine zn_iadd 20 (324) (9 * w) rfl rfl rfl rfl ?_
        refine zj_iload_n 21 rfl rfl rfl ?_
        refine zn_iadd 22 ((324) + (9 * w)) (c) rfl rfl rfl rfl ?_
        refine zj_iload_n 23 rfl rfl rfl ?_
        refine zj_cvx 24 rfl rfl lk_8_66 ckM_change (k_change _ _ (by omega)) rfl mw_0 rfl rfl rfl ?_
        refine zj_goto 25 rfl rfl ?_
        refine zj_ireturn 27 rfl rfl rfl ?_
        exact ⟨rfl, rfl, rfl⟩
theorem k_Mgreen_bad (w c v : Int32) (hb : ¬ (zr w 4 ∧ zr c 9 ∧ zr v 512)) : zM E YM_green 3 [.ref a, .int w, .int c, .int v] (mw σ a M) (some (.int (-2))) (mw σ a M) := by
  refine zM.of oM_green (by decide +kernel) rfl rfl (fun n => ?_)
  refine zj_iload_n 0 rfl rfl rfl ?_
  refine zj_csx 1 rfl rfl lk_8_57 ckM_isFour (k_isFour _) rfl rfl rfl rfl ?_
  refine zj_if_eq 2 rfl rfl (fun c4 => ?_) (fun c4 => ?_)
  · refine zj_bipush 26 (-2) rfl rfl (by decide) ?_
    refine zj_ireturn 27 rfl rfl rfl ?_
    exact ⟨rfl, rfl, rfl⟩
  · refine zj_iload_n 3 rfl rfl rfl ?_
    refine zj_i2l 4 rfl rfl ?_
    refine zj_lconst 5 (0) rfl rfl (by decide) ?_
    refine zj_ldc2 6 (8) rfl rfl (by decide) ?_
    refine zj_csx 7 rfl rfl lk_8_51 ckM_in (k_in0 _ _ 9 (by decide)) rfl rfl rfl rfl ?_
    refine zj_if_eq 8 rfl rfl (fun c16 => ?_) (fun c16 => ?_)
    · refine zj_bipush 26 (-2) rfl rfl (by decide) ?_
      refine zj_ireturn 27 rfl rfl rfl ?_
      exact ⟨rfl, rfl, rfl⟩
    · refine zj_iload_n 9 rfl rfl rfl ?_
      refine zj_i2l 10 rfl rfl ?_
      refine zj_lconst 11 (0) rfl rfl (by decide) ?_
      refine zj_ldc2 12 (511) rfl rfl (by decide) ?_
      refine zj_csx 13 rfl rfl lk_8_51 ckM_in (k_in0 _ _ 512 (by decide)) rfl rfl rfl rfl ?_
      refine zj_if_eq 14 rfl rfl (fun c28 => ?_) (fun c28 => ?_)
      · refine zj_bipush 26 (-2) rfl rfl (by decide) ?_
        refine zj_ireturn 27 rfl rfl rfl ?_
        exact ⟨rfl, rfl, rfl⟩
      · exact absurd ⟨zo_n0.mp c4, zo_n0.mp c16, zo_n0.mp c28⟩ hb
theorem l_Mmark (m0 c : Nat) (hm0 : m0 < 8) (hc : c < 81) (hv : ∀ k, k < 8 → k ≠ m0 → M.row (360 + k) ≠ nI c) : ∀ (m : Nat) (k : Nat), (k + m = 8) → ∀ n, zB E YM_mark 3 n (some (.int (M.row (360 + m0)))) (mw σ a (M.sA 0 (va_up M.row (360 + m0) (nI c)))) (mw σ a M) 28 [some (.ref a), some (.int (nI m0)), some (.int (nI c)), some (.int 1), some (.int (nI k))] [] := by
  intro m
  induction m using Nat.strongRecOn with
  | ind m ih =>
  intro k hk n
  refine zj_iload 15 rfl rfl rfl ?_
  refine zj_bipush 16 (8) rfl rfl (by decide) ?_
  refine zn_icmp_ge 17 (k) (8) rfl rfl rfl rfl (by omega) (by omega) (fun c32 => ?_) (fun c32 => ?_)
  · refine zj_iload_n 37 rfl rfl rfl ?_
    refine zj_if_eq 38 rfl rfl (fun c73 => ?_) (fun c73 => ?_)
    · exact absurd c73 (by decide)
    · refine zj_aload_n 39 rfl rfl rfl ?_
      refine zj_sipush 40 (360) rfl rfl (by decide) ?_
      refine zj_iload_n 41 rfl rfl rfl ?_
      refine zn_iadd 42 (360) (m0) rfl rfl rfl rfl ?_
      refine zj_iload_n 43 rfl rfl rfl ?_
      refine zj_cvx 44 rfl rfl lk_8_66 ckM_change (k_change _ _ (by omega)) rfl mw_0 rfl rfl rfl ?_
      refine zj_goto 45 rfl rfl ?_
      refine zj_ireturn 47 rfl rfl rfl ?_
      exact ⟨rfl, rfl, rfl⟩
  · refine zj_iload_n 18 rfl rfl rfl ?_
    refine zj_if_eq 19 rfl rfl (fun c36 => ?_) (fun c36 => ?_)
    · exact absurd c36 (by decide)
    · refine zj_iload 20 rfl rfl rfl ?_
      refine zj_iload_n 21 rfl rfl rfl ?_
      refine zn_icmp_eq 22 (k) (m0) rfl rfl rfl rfl (by omega) (by omega) (fun c42 => ?_) (fun c42 => ?_)
      · refine zj_iconst 31 (1) rfl rfl (by decide) ?_
        refine zj_goto 32 rfl rfl ?_
        refine zj_istore_n 34 rfl rfl ?_
        refine zn_iinc 35 (k) rfl rfl rfl rfl ?_
        refine zj_goto 36 rfl rfl ?_
        exact ih (m - 1) (by omega) (k + 1) (by omega) n
      · refine zj_aload_n 23 rfl rfl rfl ?_
        refine zj_get 24 rfl rfl mw_0 rfl ?_
        refine zj_sipush 25 (360) rfl rfl (by decide) ?_
        refine zj_iload 26 rfl rfl rfl ?_
        refine zn_iadd 27 (360) (k) rfl rfl rfl rfl ?_
        refine zn_iald 28 (360 + k) rfl rfl mw_1 rfl (by omega) (by decide) ?_
        refine zj_iload_n 29 rfl rfl rfl ?_
        refine zj_icmp_eq 30 rfl rfl (fun c57 => ?_) (fun c57 => ?_)
        · exact absurd c57 (hv k (by omega) (by omega))
        · refine zj_iconst 31 (1) rfl rfl (by decide) ?_
          refine zj_goto 32 rfl rfl ?_
          refine zj_istore_n 34 rfl rfl ?_
          refine zn_iinc 35 (k) rfl rfl rfl rfl ?_
          refine zj_goto 36 rfl rfl ?_
          exact ih (m - 1) (by omega) (k + 1) (by omega) n
theorem k_Mmark (m0 c : Nat) (hm0 : m0 < 8) (hc : c < 81) (hv : ∀ k, k < 8 → k ≠ m0 → M.row (360 + k) ≠ nI c) : zM E YM_mark 3 [.ref a, .int (nI m0), .int (nI c)] (mw σ a M) (some (.int (M.row (360 + m0)))) (mw σ a (M.sA 0 (va_up M.row (360 + m0) (nI c)))) := by
  refine zM.of oM_mark (by decide +kernel) rfl rfl (fun n => ?_)
  refine zj_iload_n 0 rfl rfl rfl ?_
  refine zj_i2l 1 rfl rfl ?_
  refine zj_lconst 2 (0) rfl rfl (by decide) ?_
  refine zj_ldc2 3 (7) rfl rfl (by decide) ?_
  refine zj_csx 4 rfl rfl lk_8_51 ckM_in (k_in0 _ _ 8 (by decide)) rfl rfl rfl rfl ?_
  refine zj_if_eq 5 rfl rfl (fun c9 => ?_) (fun c9 => ?_)
  · exact absurd (zr_of (by omega) (by decide)) (zo_0.mp c9)
  · refine zj_iload_n 6 rfl rfl rfl ?_
    refine zj_csx 7 rfl rfl lk_8_61 ckM_isCell (k_isCell _) rfl rfl rfl rfl ?_
    refine zj_if_eq 8 rfl rfl (fun c16 => ?_) (fun c16 => ?_)
    · exact absurd (zr_of (by omega) (by decide)) (zo_0.mp c16)
    · refine zj_iconst 9 (1) rfl rfl (by decide) ?_
      refine zj_goto 10 rfl rfl ?_
      refine zj_istore_n 12 rfl rfl ?_
      refine zj_iconst 13 (0) rfl rfl (by decide) ?_
      refine zj_istore 14 rfl rfl ?_
      exact l_Mmark m0 c hm0 hc hv 8 0 (by omega) n
theorem l_Mmark_bad (m0 c : Int32) (p : Prop) (hp : Decidable p) (hv : ¬ (p ∧ ∀ k, k < 8 → nI k ≠ m0 → M.row (360 + k) ≠ c)) : ∀ (m : Nat) (k : Nat) (g : Int32), (k + m = 8) → (g = zo (p ∧ ∀ i, i < k → nI i ≠ m0 → M.row (360 + i) ≠ c)) → ∀ n, zB E YM_mark 3 n (some (.int (-2))) (mw σ a M) (mw σ a M) 28 [some (.ref a), some (.int m0), some (.int c), some (.int g), some (.int (nI k))] [] := by
  intro m
  induction m using Nat.strongRecOn with
  | ind m ih =>
  intro k g hk hg n
  refine zj_iload 15 rfl rfl rfl ?_
  refine zj_bipush 16 (8) rfl rfl (by decide) ?_
  refine zn_icmp_ge 17 (k) (8) rfl rfl rfl rfl (by omega) (by omega) (fun c32 => ?_) (fun c32 => ?_)
  · refine zj_iload_n 37 rfl rfl rfl ?_
    refine zj_if_eq 38 rfl rfl (fun c73 => ?_) (fun c73 => ?_)
    · refine zj_bipush 46 (-2) rfl rfl (by decide) ?_
      refine zj_ireturn 47 rfl rfl rfl ?_
      exact ⟨rfl, rfl, rfl⟩
    · obtain rfl : k = 8 := by omega
      exact absurd (zo_n0.mp (hg ▸ c73)) hv
  · refine zj_iload_n 18 rfl rfl rfl ?_
    refine zj_if_eq 19 rfl rfl (fun c36 => ?_) (fun c36 => ?_)
    · refine zj_iconst 33 (0) rfl rfl (by decide) ?_
      refine zj_istore_n 34 rfl rfl ?_
      refine zn_iinc 35 (k) rfl rfl rfl rfl ?_
      refine zj_goto 36 rfl rfl ?_
      refine ih (m - 1) (by omega) (k + 1) _ (by omega) ?_ n
      first
        | (refine zo_t ?_
           have hg' := zo_n0.mp (hg ▸ c36)
           refine ⟨hg'.1, fun i hi hn => ?_⟩
           by_cases e : i = k
           · subst e
             first | exact absurd c42 hn | exact c57
           · exact hg'.2 i (by omega) hn)
        | (refine zo_f (fun h => ?_)
           first
             | exact zo_0.mp (hg ▸ c36) ⟨h.1, fun i hi => h.2 i (by omega)⟩
             | exact h.2 k (by omega) c42 c57)
    · refine zj_iload 20 rfl rfl rfl ?_
      refine zj_iload_n 21 rfl rfl rfl ?_
      refine zj_icmp_eq 22 rfl rfl (fun c42 => ?_) (fun c42 => ?_)
      · refine zj_iconst 31 (1) rfl rfl (by decide) ?_
        refine zj_goto 32 rfl rfl ?_
        refine zj_istore_n 34 rfl rfl ?_
        refine zn_iinc 35 (k) rfl rfl rfl rfl ?_
        refine zj_goto 36 rfl rfl ?_
        refine ih (m - 1) (by omega) (k + 1) _ (by omega) ?_ n
        first
          | (refine zo_t ?_
             have hg' := zo_n0.mp (hg ▸ c36)
             refine ⟨hg'.1, fun i hi hn => ?_⟩
             by_cases e : i = k
             · subst e
               first | exact absurd c42 hn | exact c57
             · exact hg'.2 i (by omega) hn)
          | (refine zo_f (fun h => ?_)
             first
               | exact zo_0.mp (hg ▸ c36) ⟨h.1, fun i hi => h.2 i (by omega)⟩
               | exact h.2 k (by omega) c42 c57)
      · refine zj_aload_n 23 rfl rfl rfl ?_
        refine zj_get 24 rfl rfl mw_0 rfl ?_
        refine zj_sipush 25 (360) rfl rfl (by decide) ?_
        refine zj_iload 26 rfl rfl rfl ?_
        refine zn_iadd 27 (360) (k) rfl rfl rfl rfl ?_
        refine zn_iald 28 (360 + k) rfl rfl mw_1 rfl (by omega) (by decide) ?_
        refine zj_iload_n 29 rfl rfl rfl ?_
        refine zj_icmp_eq 30 rfl rfl (fun c57 => ?_) (fun c57 => ?_)
        · refine zj_iconst 33 (0) rfl rfl (by decide) ?_
          refine zj_istore_n 34 rfl rfl ?_
          refine zn_iinc 35 (k) rfl rfl rfl rfl ?_
          refine zj_goto 36 rfl rfl ?_
          refine ih (m - 1) (by omega) (k + 1) _ (by omega) ?_ n
          first
            | (refine zo_t ?_
               have hg' := zo_n0.mp (hg ▸ c36)
               refine ⟨hg'.1, fun i hi hn => ?_⟩
               by_cases e : i = k
               · subst e
                 first | exact absurd c42 hn | exact c57
               · exact hg'.2 i (by omega) hn)
            | (refine zo_f (fun h => ?_)
               first
                 | exact zo_0.mp (hg ▸ c36) ⟨h.1, fun i hi => h.2 i (by omega)⟩
                 | exact h.2 k (by omega) c42 c57)
        · refine zj_iconst 31 (1) rfl rfl (by decide) ?_
          refine zj_goto 32 rfl rfl ?_
          refine zj_istore_n 34 rfl rfl ?_
          refine zn_iinc 35 (k) rfl rfl rfl rfl ?_
          refine zj_goto 36 rfl rfl ?_
          refine ih (m - 1) (by omega) (k + 1) _ (by omega) ?_ n
          first
            | (refine zo_t ?_
               have hg' := zo_n0.mp (hg ▸ c36)
               refine ⟨hg'.1, fun i hi hn => ?_⟩
               by_cases e : i = k
               · subst e
                 first | exact absurd c42 hn | exact c57
               · exact hg'.2 i (by omega) hn)
            | (refine zo_f (fun h => ?_)
               first
                 | exact zo_0.mp (hg ▸ c36) ⟨h.1, fun i hi => h.2 i (by omega)⟩
                 | exact h.2 k (by omega) c42 c57)
theorem k_Mmark_bad (m0 c : Int32) (hb : ¬ (zr m0 8 ∧ zr c 81 ∧ ∀ k, k < 8 → nI k ≠ m0 → M.row (360 + k) ≠ c)) : zM E YM_mark 3 [.ref a, .int m0, .int c] (mw σ a M) (some (.int (-2))) (mw σ a M) := by
  refine zM.of oM_mark (by decide +kernel) rfl rfl (fun n => ?_)
  refine zj_iload_n 0 rfl rfl rfl ?_
  refine zj_i2l 1 rfl rfl ?_
  refine zj_lconst 2 (0) rfl rfl (by decide) ?_
  refine zj_ldc2 3 (7) rfl rfl (by decide) ?_
  refine zj_csx 4 rfl rfl lk_8_51 ckM_in (k_in0 _ _ 8 (by decide)) rfl rfl rfl rfl ?_
  refine zj_if_eq 5 rfl rfl (fun c9 => ?_) (fun c9 => ?_)
  · refine zj_iconst 11 (0) rfl rfl (by decide) ?_
    refine zj_istore_n 12 rfl rfl ?_
    refine zj_iconst 13 (0) rfl rfl (by decide) ?_
    refine zj_istore 14 rfl rfl ?_
    first
      | exact l_Mmark_bad m0 c (zr m0 8 ∧ zr c 81) inferInstance (fun h => hb ⟨h.1.1, h.1.2, h.2⟩) 8 0 _ (by omega) (zo_t ⟨⟨zo_n0.mp c9, zo_n0.mp c16⟩, fun i hi => by omega⟩) n
      | exact l_Mmark_bad m0 c (zr m0 8 ∧ zr c 81) inferInstance (fun h => hb ⟨h.1.1, h.1.2, h.2⟩) 8 0 _ (by omega) (zo_f (fun h => zo_0.mp c9 h.1.1)) n
      | exact l_Mmark_bad m0 c (zr m0 8 ∧ zr c 81) inferInstance (fun h => hb ⟨h.1.1, h.1.2, h.2⟩) 8 0 _ (by omega) (zo_f (fun h => zo_0.mp c16 h.1.2)) n
  · refine zj_iload_n 6 rfl rfl rfl ?_
    refine zj_csx 7 rfl rfl lk_8_61 ckM_isCell (k_isCell _) rfl rfl rfl rfl ?_
    refine zj_if_eq 8 rfl rfl (fun c16 => ?_) (fun c16 => ?_)
    · refine zj_iconst 11 (0) rfl rfl (by decide) ?_
      refine zj_istore_n 12 rfl rfl ?_
      refine zj_iconst 13 (0) rfl rfl (by decide) ?_
      refine zj_istore 14 rfl rfl ?_
      first
        | exact l_Mmark_bad m0 c (zr m0 8 ∧ zr c 81) inferInstance (fun h => hb ⟨h.1.1, h.1.2, h.2⟩) 8 0 _ (by omega) (zo_t ⟨⟨zo_n0.mp c9, zo_n0.mp c16⟩, fun i hi => by omega⟩) n
        | exact l_Mmark_bad m0 c (zr m0 8 ∧ zr c 81) inferInstance (fun h => hb ⟨h.1.1, h.1.2, h.2⟩) 8 0 _ (by omega) (zo_f (fun h => zo_0.mp c9 h.1.1)) n
        | exact l_Mmark_bad m0 c (zr m0 8 ∧ zr c 81) inferInstance (fun h => hb ⟨h.1.1, h.1.2, h.2⟩) 8 0 _ (by omega) (zo_f (fun h => zo_0.mp c16 h.1.2)) n
    · refine zj_iconst 9 (1) rfl rfl (by decide) ?_
      refine zj_goto 10 rfl rfl ?_
      refine zj_istore_n 12 rfl rfl ?_
      refine zj_iconst 13 (0) rfl rfl (by decide) ?_
      refine zj_istore 14 rfl rfl ?_
      first
        | exact l_Mmark_bad m0 c (zr m0 8 ∧ zr c 81) inferInstance (fun h => hb ⟨h.1.1, h.1.2, h.2⟩) 8 0 _ (by omega) (zo_t ⟨⟨zo_n0.mp c9, zo_n0.mp c16⟩, fun i hi => by omega⟩) n
        | exact l_Mmark_bad m0 c (zr m0 8 ∧ zr c 81) inferInstance (fun h => hb ⟨h.1.1, h.1.2, h.2⟩) 8 0 _ (by omega) (zo_f (fun h => zo_0.mp c9 h.1.1)) n
        | exact l_Mmark_bad m0 c (zr m0 8 ∧ zr c 81) inferInstance (fun h => hb ⟨h.1.1, h.1.2, h.2⟩) 8 0 _ (by omega) (zo_f (fun h => zo_0.mp c16 h.1.2)) n
end
end
section
/-! the reference: pictures -/
theorem zfl_up' {α : Type} {g f : Nat → α} {k : Nat} {x : α} (h : x = g k) : va_up (zfl g f k) k x = zfl g f (k + 1) := by rw [h, zfl_up]
theorem mw_fl {σ : zH} {a : Nat} {M : zMo} (j : Nat) {g f : Nat → Int32} {k : Nat} {x : Int32} (h : x = g k) : mw σ a ((M.sA j (zfl g f k)).sA j (va_up ((M.sA j (zfl g f k)).1 j) k x)) = mw σ a (M.sA j (zfl g f (k + 1))) := by
  have e : (M.sA j (zfl g f k)).1 j = zfl g f k := by simp [va_up]
  rw [e, zMo.sA_sA, zfl_up' h]
theorem mw_fl0 {σ : zH} {a : Nat} (M : zMo) (j : Nat) (g : Nat → Int32) : mw σ a M = mw σ a (M.sA j (zfl g (M.1 j) 0)) := by rw [zfl_0, zMo.sA_self]
/-- one row of the sum -/
def mBl1 (pic : Nat → Int32) (g r c i : Nat) (s : Int32 × Nat) : Nat → Int32 × Nat
  | 0 => s
  | j + 1 => let t := mBl1 pic g r c i s j
    if (g ≤ r + i ∧ r + i - g ≤ 8) ∧ (g ≤ c + j ∧ c + j - g ≤ 8) then (t.1 + pic (9 * (r + i - g) + (c + j - g)), t.2 + 1) else t
def mBl (pic : Nat → Int32) (g r c : Nat) : Nat → Int32 × Nat
  | 0 => (0, 0)
  | i + 1 => mBl1 pic g r c i (mBl pic g r c i) (2 * g + 1)
def mBlur (pic : Nat → Int32) (g r c : Nat) : Int32 := (mBl pic g r c (2 * g + 1)).1 / nI (mBl pic g r c (2 * g + 1)).2
theorem mBl1_n (pic : Nat → Int32) (g r c i : Nat) (s : Int32 × Nat) (j : Nat) : (mBl1 pic g r c i s j).2 ≤ s.2 + j ∧ s.2 ≤ (mBl1 pic g r c i s j).2 := by
  induction j with
  | zero => simp [mBl1]
  | succ j ih => simp only [mBl1]; split <;> (try simp only) <;> omega
theorem mBl_n (pic : Nat → Int32) (g r c i : Nat) : (mBl pic g r c i).2 ≤ i * (2 * g + 1) := by
  induction i with
  | zero => simp [mBl]
  | succ i ih =>
    have h := mBl1_n pic g r c i (mBl pic g r c i) (2 * g + 1)
    simp only [mBl]; rw [Nat.add_mul, Nat.one_mul]; omega
theorem zy_lt {p g : Nat} (h : p < g) (hg : g < 2 ^ 20) : (nI p - nI g) < 0 := pk_sneg (by omega) h
section
variable {E : zE} {σ : zH} {a : Nat} {M : zMo}
theorem l_layWorld (w : Nat) (dk : Int32) (hw : w < 4) : ∀ (m : Nat) (k : Nat) (o4 o5 : Option Value), (k + m = 81) → ∀ n, zB E YM_layWorld 1 n (none) (mw σ a (M.sA 3 (zfl (mPic M.row w dk) M.picture 81))) (mw σ a (M.sA 3 (zfl (mPic M.row w dk) M.picture k))) 2 [some (.ref a), some (.int (nI w)), some (.int dk), some (.int (nI k)), o4, o5] [] := by
  intro m
  induction m using Nat.strongRecOn with
  | ind m ih =>
  intro k o4 o5 hk n
  refine zj_iload_n 2 rfl rfl rfl ?_
  refine zj_bipush 3 (81) rfl rfl (by decide) ?_
  refine zn_icmp_ge 4 (k) (81) rfl rfl rfl rfl (by omega) (by omega) (fun c5 => ?_) (fun c5 => ?_)
  · refine zj_return 56 rfl rfl rfl ?_
    obtain rfl : k = 81 := by omega
    exact ⟨rfl, rfl, rfl⟩
  · refine zj_aload_n 5 rfl rfl rfl ?_
    refine zj_get 6 rfl rfl mw_0 rfl ?_
    refine zj_sipush 7 (324) rfl rfl (by decide) ?_
    refine zj_bipush 8 (9) rfl rfl (by decide) ?_
    refine zj_iload_n 9 rfl rfl rfl ?_
    refine zn_imul 10 (9) (w) rfl rfl rfl rfl ?_
    refine zn_iadd 11 (324) (9 * w) rfl rfl rfl rfl ?_
    refine zj_iload_n 12 rfl rfl rfl ?_
    refine zj_bipush 13 (9) rfl rfl (by decide) ?_
    refine zn_idiv 14 (k) (9) rfl rfl rfl rfl (by omega) (by omega) (by omega) ?_
    refine zn_iadd 15 ((324) + (9 * w)) (k / 9) rfl rfl rfl rfl ?_
    refine zn_iald 16 (((324) + (9 * w)) + (k / 9)) rfl rfl (show mw σ a (M.sA 3 _) (a + 1) = some (.inl (0, 818, .inl M.row)) from mw_1) rfl (by omega) (by decide) ?_
    refine zj_iload_n 17 rfl rfl rfl ?_
    refine zj_bipush 18 (9) rfl rfl (by decide) ?_
    refine zn_irem 19 (k) (9) rfl rfl rfl rfl (by omega) (by omega) (by omega) ?_
    refine zj_ishr 20 rfl rfl ?_
    refine zj_iconst 21 (1) rfl rfl (by decide) ?_
    refine zj_iand 22 rfl rfl ?_
    refine zj_iconst 23 (1) rfl rfl (by decide) ?_
    refine zj_icmp_ne 24 rfl rfl (fun c34 => ?_) (fun c34 => ?_)
    · refine zj_iconst 27 (0) rfl rfl (by decide) ?_
      refine zj_istore 28 rfl rfl ?_
      refine zj_aload_n 29 rfl rfl rfl ?_
      refine zj_get 30 rfl rfl mw_0 rfl ?_
      refine zj_bipush 31 (81) rfl rfl (by decide) ?_
      refine zj_iload_n 32 rfl rfl rfl ?_
      refine zn_imul 33 (81) (w) rfl rfl rfl rfl ?_
      refine zj_iload_n 34 rfl rfl rfl ?_
      refine zn_iadd 35 (81 * w) (k) rfl rfl rfl rfl ?_
      refine zn_iald 36 ((81 * w) + (k)) rfl rfl (show mw σ a (M.sA 3 _) (a + 1) = some (.inl (0, 818, .inl M.row)) from mw_1) rfl (by omega) (by decide) ?_
      refine zj_iload 37 rfl rfl rfl ?_
      refine zj_if_eq 38 rfl rfl (fun c57 => ?_) (fun c57 => ?_)
      · refine zj_iconst 41 (0) rfl rfl (by decide) ?_
        refine zj_iadd 42 rfl rfl ?_
        refine zj_istore 43 rfl rfl ?_
        refine zj_aload_n 44 rfl rfl rfl ?_
        refine zj_get 45 rfl rfl mw_0 rfl ?_
        refine zj_iload_n 46 rfl rfl rfl ?_
        refine zj_iload 47 rfl rfl rfl ?_
        refine zj_bipush 48 (15) rfl rfl (by decide) ?_
        refine zj_icmp_le 49 rfl rfl (fun c77 => ?_) (fun c77 => ?_)
        · refine zj_iload 52 rfl rfl rfl ?_
          refine zn_iast 53 (k) rfl rfl mw_4 rfl (by omega) (by decide) mw_u4 ?_
          refine zn_iinc 54 (k) rfl rfl rfl rfl ?_
          refine zj_goto 55 rfl rfl ?_
          rw [mw_fl 3 (by unfold mPic; (try simp only [Int32.add_zero] at c77); simp [c34, c77])]
          exact ih (m - 1) (by omega) (k + 1) _ _ (by omega) n
        · refine zj_bipush 50 (15) rfl rfl (by decide) ?_
          refine zj_goto 51 rfl rfl ?_
          refine zn_iast 53 (k) rfl rfl mw_4 rfl (by omega) (by decide) mw_u4 ?_
          refine zn_iinc 54 (k) rfl rfl rfl rfl ?_
          refine zj_goto 55 rfl rfl ?_
          rw [mw_fl 3 (by unfold mPic; (try simp only [Int32.add_zero] at c77); simp [c34, c77])]
          exact ih (m - 1) (by omega) (k + 1) _ _ (by omega) n
      · exact absurd c57 (by decide)
    · refine zj_iconst 25 (1) rfl rfl (by decide) ?_
      refine zj_goto 26 rfl rfl ?_
      refine zj_istore 28 rfl rfl ?_
      refine zj_aload_n 29 rfl rfl rfl ?_
      refine zj_get 30 rfl rfl mw_0 rfl ?_
      refine zj_bipush 31 (81) rfl rfl (by decide) ?_
      refine zj_iload_n 32 rfl rfl rfl ?_
      refine zn_imul 33 (81) (w) rfl rfl rfl rfl ?_
      refine zj_iload_n 34 rfl rfl rfl ?_
      refine zn_iadd 35 (81 * w) (k) rfl rfl rfl rfl ?_
      refine zn_iald 36 ((81 * w) + (k)) rfl rfl (show mw σ a (M.sA 3 _) (a + 1) = some (.inl (0, 818, .inl M.row)) from mw_1) rfl (by omega) (by decide) ?_
      refine zj_iload 37 rfl rfl rfl ?_
      refine zj_if_eq 38 rfl rfl (fun c57 => ?_) (fun c57 => ?_)
      · exact absurd c57 (by decide)
      · refine zj_iload_n 39 rfl rfl rfl ?_
        refine zj_goto 40 rfl rfl ?_
        refine zj_iadd 42 rfl rfl ?_
        refine zj_istore 43 rfl rfl ?_
        refine zj_aload_n 44 rfl rfl rfl ?_
        refine zj_get 45 rfl rfl mw_0 rfl ?_
        refine zj_iload_n 46 rfl rfl rfl ?_
        refine zj_iload 47 rfl rfl rfl ?_
        refine zj_bipush 48 (15) rfl rfl (by decide) ?_
        refine zj_icmp_le 49 rfl rfl (fun c77 => ?_) (fun c77 => ?_)
        · refine zj_iload 52 rfl rfl rfl ?_
          refine zn_iast 53 (k) rfl rfl mw_4 rfl (by omega) (by decide) mw_u4 ?_
          refine zn_iinc 54 (k) rfl rfl rfl rfl ?_
          refine zj_goto 55 rfl rfl ?_
          rw [mw_fl 3 (by unfold mPic; (try simp only [Int32.add_zero] at c77); simp [c34, c77])]
          exact ih (m - 1) (by omega) (k + 1) _ _ (by omega) n
        · refine zj_bipush 50 (15) rfl rfl (by decide) ?_
          refine zj_goto 51 rfl rfl ?_
          refine zn_iast 53 (k) rfl rfl mw_4 rfl (by omega) (by decide) mw_u4 ?_
          refine zn_iinc 54 (k) rfl rfl rfl rfl ?_
          refine zj_goto 55 rfl rfl ?_
          rw [mw_fl 3 (by unfold mPic; (try simp only [Int32.add_zero] at c77); simp [c34, c77])]
          exact ih (m - 1) (by omega) (k + 1) _ _ (by omega) n
theorem k_layWorld (w : Nat) (dk : Int32) (hw : w < 4) : zM E YM_layWorld 1 [.ref a, .int (nI w), .int dk] (mw σ a M) (none) (mw σ a (M.sA 3 (zfl (mPic M.row w dk) M.picture 81))) := by
  refine zM.of oM_layWorld (by decide +kernel) rfl rfl (fun n => ?_)
  refine zj_iconst 0 (0) rfl rfl (by decide) ?_
  refine zj_istore_n 1 rfl rfl ?_
  rw [mw_fl0 M 3 (mPic M.row w dk)]
  exact l_layWorld w dk hw 81 0 _ _ (by omega) n
theorem k_isLook (x1 x2 x3 x4 : Int32) : zM E YM_isLook 3 [.int x1, .int x2, .int x3, .int x4] (σ) (some (.int (zo (zr x1 4 ∧ zr x2 16 ∧ zr x3 4 ∧ zr x4 5)))) (σ) := by
  refine zM.of oM_isLook (by decide +kernel) rfl rfl (fun n => ?_)
  refine zj_iload_n 0 rfl rfl rfl ?_
  refine zj_csx 1 rfl rfl lk_8_57 ckM_isFour (k_isFour _) rfl rfl rfl rfl ?_
  refine zj_if_eq 2 rfl rfl (fun c4 => ?_) (fun c4 => ?_)
  · refine zj_iconst 20 (0) rfl rfl (by decide) ?_
    refine zj_zreturn 21 rfl rfl rfl rfl ?_
    first | exact ⟨zrt (zo_t ⟨zo_n0.mp c4, zo_n0.mp c16, zo_n0.mp c23, zo_n0.mp c35⟩), rfl, rfl⟩ | exact ⟨zrt (zo_f (fun h => zo_0.mp c4 h.1)), rfl, rfl⟩ | exact ⟨zrt (zo_f (fun h => zo_0.mp c16 h.2.1)), rfl, rfl⟩ | exact ⟨zrt (zo_f (fun h => zo_0.mp c23 h.2.2.1)), rfl, rfl⟩ | exact ⟨zrt (zo_f (fun h => zo_0.mp c35 h.2.2.2)), rfl, rfl⟩
  · refine zj_iload_n 3 rfl rfl rfl ?_
    refine zj_i2l 4 rfl rfl ?_
    refine zj_lconst 5 (0) rfl rfl (by decide) ?_
    refine zj_ldc2 6 (15) rfl rfl (by decide) ?_
    refine zj_csx 7 rfl rfl lk_8_51 ckM_in (k_in0 _ _ 16 (by decide)) rfl rfl rfl rfl ?_
    refine zj_if_eq 8 rfl rfl (fun c16 => ?_) (fun c16 => ?_)
    · refine zj_iconst 20 (0) rfl rfl (by decide) ?_
      refine zj_zreturn 21 rfl rfl rfl rfl ?_
      first | exact ⟨zrt (zo_t ⟨zo_n0.mp c4, zo_n0.mp c16, zo_n0.mp c23, zo_n0.mp c35⟩), rfl, rfl⟩ | exact ⟨zrt (zo_f (fun h => zo_0.mp c4 h.1)), rfl, rfl⟩ | exact ⟨zrt (zo_f (fun h => zo_0.mp c16 h.2.1)), rfl, rfl⟩ | exact ⟨zrt (zo_f (fun h => zo_0.mp c23 h.2.2.1)), rfl, rfl⟩ | exact ⟨zrt (zo_f (fun h => zo_0.mp c35 h.2.2.2)), rfl, rfl⟩
    · refine zj_iload_n 9 rfl rfl rfl ?_
      refine zj_csx 10 rfl rfl lk_8_57 ckM_isFour (k_isFour _) rfl rfl rfl rfl ?_
      refine zj_if_eq 11 rfl rfl (fun c23 => ?_) (fun c23 => ?_)
      · refine zj_iconst 20 (0) rfl rfl (by decide) ?_
        refine zj_zreturn 21 rfl rfl rfl rfl ?_
        first | exact ⟨zrt (zo_t ⟨zo_n0.mp c4, zo_n0.mp c16, zo_n0.mp c23, zo_n0.mp c35⟩), rfl, rfl⟩ | exact ⟨zrt (zo_f (fun h => zo_0.mp c4 h.1)), rfl, rfl⟩ | exact ⟨zrt (zo_f (fun h => zo_0.mp c16 h.2.1)), rfl, rfl⟩ | exact ⟨zrt (zo_f (fun h => zo_0.mp c23 h.2.2.1)), rfl, rfl⟩ | exact ⟨zrt (zo_f (fun h => zo_0.mp c35 h.2.2.2)), rfl, rfl⟩
      · refine zj_iload_n 12 rfl rfl rfl ?_
        refine zj_i2l 13 rfl rfl ?_
        refine zj_lconst 14 (0) rfl rfl (by decide) ?_
        refine zj_ldc2 15 (4) rfl rfl (by decide) ?_
        refine zj_csx 16 rfl rfl lk_8_51 ckM_in (k_in0 _ _ 5 (by decide)) rfl rfl rfl rfl ?_
        refine zj_if_eq 17 rfl rfl (fun c35 => ?_) (fun c35 => ?_)
        · refine zj_iconst 20 (0) rfl rfl (by decide) ?_
          refine zj_zreturn 21 rfl rfl rfl rfl ?_
          first | exact ⟨zrt (zo_t ⟨zo_n0.mp c4, zo_n0.mp c16, zo_n0.mp c23, zo_n0.mp c35⟩), rfl, rfl⟩ | exact ⟨zrt (zo_f (fun h => zo_0.mp c4 h.1)), rfl, rfl⟩ | exact ⟨zrt (zo_f (fun h => zo_0.mp c16 h.2.1)), rfl, rfl⟩ | exact ⟨zrt (zo_f (fun h => zo_0.mp c23 h.2.2.1)), rfl, rfl⟩ | exact ⟨zrt (zo_f (fun h => zo_0.mp c35 h.2.2.2)), rfl, rfl⟩
        · refine zj_iconst 18 (1) rfl rfl (by decide) ?_
          refine zj_goto 19 rfl rfl ?_
          refine zj_zreturn 21 rfl rfl rfl rfl ?_
          first | exact ⟨zrt (zo_t ⟨zo_n0.mp c4, zo_n0.mp c16, zo_n0.mp c23, zo_n0.mp c35⟩), rfl, rfl⟩ | exact ⟨zrt (zo_f (fun h => zo_0.mp c4 h.1)), rfl, rfl⟩ | exact ⟨zrt (zo_f (fun h => zo_0.mp c16 h.2.1)), rfl, rfl⟩ | exact ⟨zrt (zo_f (fun h => zo_0.mp c23 h.2.2.1)), rfl, rfl⟩ | exact ⟨zrt (zo_f (fun h => zo_0.mp c35 h.2.2.2)), rfl, rfl⟩
theorem zsubI {p g : Nat} (h : g ≤ p) : nI p - nI g = nI (p - g) := pk_sub h
theorem zin_y {p g : Nat} (hp : p < 2 ^ 20) (hg : g < 2 ^ 20) : zr (nI p - nI g) 9 ↔ (g ≤ p ∧ p - g ≤ 8) := by
  unfold zr
  rw [pk_sub_toInt (by omega) (by omega)]
  omega
theorem zsub1 (p g : Nat) : nI p - nI g + 1 = nI (p + 1) - nI g := by
  rw [nI_succ]
  apply Int32.toBitVec_inj.mp
  simp only [Int32.toBitVec_add, Int32.toBitVec_sub]
  rw [BitVec.sub_eq_add_neg, BitVec.sub_eq_add_neg, BitVec.add_assoc, BitVec.add_comm (-_), ← BitVec.add_assoc]
theorem zsub_gt {p q g : Nat} (hp : p < 2 ^ 20) (hq : q < 2 ^ 20) (hg : g < 2 ^ 20) : nI q < nI p - nI g ↔ q + g < p := by
  rw [Int32.lt_iff_toInt_lt, pk_sub_toInt (by omega) (by omega), nI_toInt (by omega)]; omega
theorem l_blur_in (g r c i : Nat) (hg : g < 4) (hr : r < 9) (hc : c < 9) (hi : i ≤ 2 * g) (S : Int32 × Nat) (hS : S.2 ≤ 100) (rr : Option Value) (ss : zH) (kk : ∀ n o7, zB E YM_blurred 2 n rr ss (mw σ a M) 85 [some (.ref a), some (.int (nI g)), some (.int (nI r)), some (.int (nI c)), some (.int (mBl1 M.picture g r c i S (2 * g + 1)).1), some (.int (nI (mBl1 M.picture g r c i S (2 * g + 1)).2)), some (.int (nI (r + i) - nI g)), o7] []) : ∀ (m : Nat) (j : Nat), (j + m = 2 * g + 1) → ∀ n, zB E YM_blurred 2 n (rr) (ss) (mw σ a M) 24 [some (.ref a), some (.int (nI g)), some (.int (nI r)), some (.int (nI c)), some (.int (mBl1 M.picture g r c i S j).1), some (.int (nI (mBl1 M.picture g r c i S j).2)), some (.int (nI (r + i) - nI g)), some (.int (nI (c + j) - nI g))] [] := by
  intro m
  induction m using Nat.strongRecOn with
  | ind m ih =>
  intro j hj n
  refine zj_iload 17 rfl rfl rfl ?_
  refine zj_iload_n 18 rfl rfl rfl ?_
  refine zj_iload_n 19 rfl rfl rfl ?_
  refine zn_iadd 20 (c) (g) rfl rfl rfl rfl ?_
  refine zj_icmp_gt 21 rfl rfl (fun c29 => ?_) (fun c29 => ?_)
  · have e : j = 2 * g + 1 := by have := (zsub_gt (by omega) (by omega) (by omega)).mp c29; omega
    subst e
    exact kk n _
  · have hj2 : j ≤ 2 * g := by have := mt (zsub_gt (p := c + j) (q := c + g) (g := g) (by omega) (by omega) (by omega)).mpr c29; omega
    have hn2 := (mBl1_n M.picture g r c i S j).1
    refine zj_iload 22 rfl rfl rfl ?_
    refine zj_i2l 23 rfl rfl ?_
    refine zj_lconst 24 (0) rfl rfl (by decide) ?_
    refine zj_ldc2 25 (8) rfl rfl (by decide) ?_
    refine zj_csx 26 rfl rfl lk_8_51 ckM_in (k_in0 _ _ 9 (by decide)) rfl rfl rfl rfl ?_
    refine zj_if_eq 27 rfl rfl (fun c42 => ?_) (fun c42 => ?_)
    · refine zj_iinc 46 (1) rfl rfl rfl (by decide) ?_
      refine zj_goto 47 rfl rfl ?_
      first
        | (rw [show c + j - g + 1 = c + (j + 1) - g by omega, ← zsubI (show g ≤ c + (j + 1) by omega), ← zsubI y1]
           have e : mBl1 M.picture g r c i S (j + 1) = ((mBl1 M.picture g r c i S j).1 + M.picture (9 * (r + i - g) + (c + j - g)), (mBl1 M.picture g r c i S j).2 + 1) := by simp only [mBl1]; rw [if_pos ⟨⟨y1, y2⟩, ⟨x1, x2⟩⟩]
           have h := ih (m - 1) (by omega) (j + 1) (by omega) n
           rw [e] at h
           exact h)
        | (rw [zsub1]
           have e : mBl1 M.picture g r c i S (j + 1) = mBl1 M.picture g r c i S j := by
             simp only [mBl1]
             refine if_neg (fun hh => ?_)
             first
               | exact zo_0.mp c55 ((zin_y (by omega) (by omega)).mpr hh.2)
               | exact zo_0.mp c42 ((zin_y (by omega) (by omega)).mpr hh.1)
           have h := ih (m - 1) (by omega) (j + 1) (by omega) n
           rw [e] at h
           exact h)
    · refine zj_iload 28 rfl rfl rfl ?_
      refine zj_i2l 29 rfl rfl ?_
      refine zj_lconst 30 (0) rfl rfl (by decide) ?_
      refine zj_ldc2 31 (8) rfl rfl (by decide) ?_
      refine zj_csx 32 rfl rfl lk_8_51 ckM_in (k_in0 _ _ 9 (by decide)) rfl rfl rfl rfl ?_
      refine zj_if_eq 33 rfl rfl (fun c55 => ?_) (fun c55 => ?_)
      · refine zj_iinc 46 (1) rfl rfl rfl (by decide) ?_
        refine zj_goto 47 rfl rfl ?_
        first
          | (rw [show c + j - g + 1 = c + (j + 1) - g by omega, ← zsubI (show g ≤ c + (j + 1) by omega), ← zsubI y1]
             have e : mBl1 M.picture g r c i S (j + 1) = ((mBl1 M.picture g r c i S j).1 + M.picture (9 * (r + i - g) + (c + j - g)), (mBl1 M.picture g r c i S j).2 + 1) := by simp only [mBl1]; rw [if_pos ⟨⟨y1, y2⟩, ⟨x1, x2⟩⟩]
             have h := ih (m - 1) (by omega) (j + 1) (by omega) n
             rw [e] at h
             exact h)
          | (rw [zsub1]
             have e : mBl1 M.picture g r c i S (j + 1) = mBl1 M.picture g r c i S j := by
               simp only [mBl1]
               refine if_neg (fun hh => ?_)
               first
                 | exact zo_0.mp c55 ((zin_y (by omega) (by omega)).mpr hh.2)
                 | exact zo_0.mp c42 ((zin_y (by omega) (by omega)).mpr hh.1)
             have h := ih (m - 1) (by omega) (j + 1) (by omega) n
             rw [e] at h
             exact h)
      · obtain ⟨y1, y2⟩ := (zin_y (by omega) (by omega)).mp (zo_n0.mp c42)
        obtain ⟨x1, x2⟩ := (zin_y (by omega) (by omega)).mp (zo_n0.mp c55)
        rw [zsubI y1, zsubI x1]
        refine zj_iload 34 rfl rfl rfl ?_
        refine zj_aload_n 35 rfl rfl rfl ?_
        refine zj_get 36 rfl rfl mw_0 rfl ?_
        refine zj_bipush 37 (9) rfl rfl (by decide) ?_
        refine zj_iload 38 rfl rfl rfl ?_
        refine zn_imul 39 (9) (r + i - g) rfl rfl rfl rfl ?_
        refine zj_iload 40 rfl rfl rfl ?_
        refine zn_iadd 41 ((9) * (r + i - g)) (c + j - g) rfl rfl rfl rfl ?_
        refine zn_iald 42 (((9) * (r + i - g)) + (c + j - g)) rfl rfl mw_4 rfl (by omega) (by decide) ?_
        refine zj_iadd 43 rfl rfl ?_
        refine zj_istore 44 rfl rfl ?_
        refine zn_iinc 45 ((mBl1 M.picture g r c i S j).2) rfl rfl rfl rfl ?_
        refine zn_iinc 46 (c + j - g) rfl rfl rfl rfl ?_
        refine zj_goto 47 rfl rfl ?_
        first
          | (rw [show c + j - g + 1 = c + (j + 1) - g by omega, ← zsubI (show g ≤ c + (j + 1) by omega), ← zsubI y1]
             have e : mBl1 M.picture g r c i S (j + 1) = ((mBl1 M.picture g r c i S j).1 + M.picture (9 * (r + i - g) + (c + j - g)), (mBl1 M.picture g r c i S j).2 + 1) := by simp only [mBl1]; rw [if_pos ⟨⟨y1, y2⟩, ⟨x1, x2⟩⟩]
             have h := ih (m - 1) (by omega) (j + 1) (by omega) n
             rw [e] at h
             exact h)
          | (rw [zsub1]
             have e : mBl1 M.picture g r c i S (j + 1) = mBl1 M.picture g r c i S j := by
               simp only [mBl1]
               refine if_neg (fun hh => ?_)
               first
                 | exact zo_0.mp c55 ((zin_y (by omega) (by omega)).mpr hh.2)
                 | exact zo_0.mp c42 ((zin_y (by omega) (by omega)).mpr hh.1)
             have h := ih (m - 1) (by omega) (j + 1) (by omega) n
             rw [e] at h
             exact h)
theorem mBl1_hit (pic : Nat → Int32) {g r c i : Nat} (s : Int32 × Nat) {j k : Nat} (h : (g ≤ r + i ∧ r + i - g ≤ 8) ∧ (g ≤ c + j ∧ c + j - g ≤ 8)) (hk : j < k) : s.2 + 1 ≤ (mBl1 pic g r c i s k).2 := by
  induction k with
  | zero => omega
  | succ k ih =>
    by_cases e : j = k
    · subst e
      simp only [mBl1]; rw [if_pos h]
      have := (mBl1_n pic g r c i s j).2
      simp only; omega
    · have := ih (by omega)
      simp only [mBl1]; split <;> (try simp only) <;> omega
theorem mBl_mono (pic : Nat → Int32) (g r c : Nat) {i k : Nat} (h : i ≤ k) : (mBl pic g r c i).2 ≤ (mBl pic g r c k).2 := by
  induction k with
  | zero =>
    obtain rfl : i = 0 := by omega
    exact Nat.le_refl _
  | succ k ih =>
    by_cases e : i = k + 1
    · subst e; exact Nat.le_refl _
    · have := ih (by omega)
      simp only [mBl]
      have := (mBl1_n pic g r c k (mBl pic g r c k) (2 * g + 1)).2
      omega
theorem mBl_pos (pic : Nat → Int32) (g r c : Nat) (hr : r < 9) (hc : c < 9) : 0 < (mBl pic g r c (2 * g + 1)).2 := by
  have h1 : (mBl pic g r c g).2 + 1 ≤ (mBl pic g r c (g + 1)).2 := by
    simp only [mBl]
    exact mBl1_hit pic _ (j := g) ⟨⟨by omega, by omega⟩, by omega, by omega⟩ (by omega)
  have h2 := mBl_mono pic g r c (i := g + 1) (k := 2 * g + 1) (by omega)
  omega
theorem l_blur_out (g r c : Nat) (hg : g < 4) (hr : r < 9) (hc : c < 9) : ∀ (m : Nat) (i : Nat) (o7 : Option Value), (i + m = 2 * g + 1) → ∀ n, zB E YM_blurred 2 n (some (.int (mBlur M.picture g r c))) (mw σ a M) (mw σ a M) 11 [some (.ref a), some (.int (nI g)), some (.int (nI r)), some (.int (nI c)), some (.int (mBl M.picture g r c i).1), some (.int (nI (mBl M.picture g r c i).2)), some (.int (nI (r + i) - nI g)), o7] [] := by
  intro m
  induction m using Nat.strongRecOn with
  | ind m ih =>
  intro i o7 hi n
  refine zj_iload 8 rfl rfl rfl ?_
  refine zj_iload_n 9 rfl rfl rfl ?_
  refine zj_iload_n 10 rfl rfl rfl ?_
  refine zn_iadd 11 (r) (g) rfl rfl rfl rfl ?_
  refine zj_icmp_gt 12 rfl rfl (fun c16 => ?_) (fun c16 => ?_)
  · have e : i = 2 * g + 1 := by have := (zsub_gt (by omega) (by omega) (by omega)).mp c16; omega
    subst e
    have hn1 := mBl_pos M.picture g r c hr hc
    have hn2 := mBl_n M.picture g r c (2 * g + 1)
    have hn3 : (2 * g + 1) * (2 * g + 1) ≤ 7 * 7 := Nat.mul_le_mul (by omega) (by omega)
    refine zj_iload 50 rfl rfl rfl ?_
    refine zj_iload 51 rfl rfl rfl ?_
    refine zj_idiv 52 rfl rfl (nI_ne0 hn1 (by omega)) ?_
    exact zj_ireturn 53 rfl rfl rfl ⟨rfl, rfl, rfl⟩
  · have hi2 : i ≤ 2 * g := by have := mt (zsub_gt (p := r + i) (q := r + g) (g := g) (by omega) (by omega) (by omega)).mpr c16; omega
    have hn2 := mBl_n M.picture g r c i
    have hn3 : i * (2 * g + 1) ≤ 6 * 7 := Nat.mul_le_mul (by omega) (by omega)
    refine zj_iload_n 13 rfl rfl rfl ?_
    refine zj_iload_n 14 rfl rfl rfl ?_
    refine zj_isub 15 rfl rfl ?_
    refine zj_istore 16 rfl rfl ?_
    refine l_blur_in g r c i hg hr hc hi2 (mBl M.picture g r c i) (by omega) _ _ (fun n o7 => ?_) (2 * g + 1) 0 (by omega) n
    refine zj_iinc 48 (1) rfl rfl rfl (by decide) ?_
    refine zj_goto 49 rfl rfl ?_
    rw [zsub1]
    exact ih (m - 1) (by omega) (i + 1) _ (by omega) n
theorem k_blurred (g r c : Nat) (hg : g < 4) (hr : r < 9) (hc : c < 9) : zM E YM_blurred 2 [.ref a, .int (nI g), .int (nI r), .int (nI c)] (mw σ a M) (some (.int (mBlur M.picture g r c))) (mw σ a M) := by
  refine zM.of oM_blurred (by decide +kernel) rfl rfl (fun n => ?_)
  refine zj_iconst 0 (0) rfl rfl (by decide) ?_
  refine zj_istore 1 rfl rfl ?_
  refine zj_iconst 2 (0) rfl rfl (by decide) ?_
  refine zj_istore 3 rfl rfl ?_
  refine zj_iload_n 4 rfl rfl rfl ?_
  refine zj_iload_n 5 rfl rfl rfl ?_
  refine zj_isub 6 rfl rfl ?_
  refine zj_istore 7 rfl rfl ?_
  exact l_blur_out g r c hg hr hc (2 * g + 1) 0 _ (by omega) n
end
end
section
/-! the reference: what is seen, lines, texts -/
def mR (air r : Nat) : Nat := if air = 1 then (if 1 ≤ r then r - 1 else r) else if air = 2 then (if r + 1 < 9 then r + 1 else r) else r
def mX (air x : Nat) : Nat := if air = 3 then (if 1 ≤ x then x - 1 else x) else if air = 4 then (if x + 1 < 9 then x + 1 else x) else x
def mSeen (pic : Nat → Int32) (g air c : Nat) : Int32 := mBlur pic g (mR air (c / 9)) (mX air (c % 9))
theorem zr_m1 {p : Nat} (hp : p < 9) : zr (nI p + (-1)) 9 ↔ 1 ≤ p := by
  match p, hp with
  | 0, _ => simp [zr]; decide
  | p + 1, h =>
    rw [pk_m1]
    refine ⟨fun _ => by omega, fun _ => ?_⟩
    exact zr_of (n := 9) (by omega) (by decide)
theorem zr_lt {p : Nat} (h : p < 2 ^ 31) : zr (nI p) 9 ↔ p < 9 := by
  unfold zr; rw [nI_toInt h]; omega
theorem zlines {p : Nat} (hp : p < 8) : nI (7 * p) - nI p * (nI p - 1) / 2 = nI (7 * p - p * (p - 1) / 2) := by
  match p, hp with
  | 0, _ => decide
  | 1, _ => decide
  | 2, _ => decide
  | 3, _ => decide
  | 4, _ => decide
  | 5, _ => decide
  | 6, _ => decide
  | 7, _ => decide
section
variable {E : zE} {σ : zH} {a : Nat} {M : zMo}
theorem k_seenAt0 (g c : Nat) (hg : g < 4) (hc : c < 81) : zM E YM_seenAt 3 [.ref a, .int (nI g), .int (nI 0), .int (nI c)] (mw σ a M) (some (.int (mSeen M.picture g 0 c))) (mw σ a M) := by
  refine zM.of oM_seenAt (by decide +kernel) rfl rfl (fun n => ?_)
  refine zj_iload_n 0 rfl rfl rfl ?_
  refine zj_bipush 1 (9) rfl rfl (by decide) ?_
  refine zn_idiv 2 (c) (9) rfl rfl rfl rfl (by omega) (by omega) (by omega) ?_
  refine zj_iload_n 3 rfl rfl rfl ?_
  refine zj_iconst 4 (1) rfl rfl (by decide) ?_
  refine zn_icmp_ne 5 (0) (1) rfl rfl rfl rfl (by omega) (by omega) (fun c6 => ?_) (fun c6 => ?_)
  · refine zj_iload_n 8 rfl rfl rfl ?_
    refine zj_iconst 9 (2) rfl rfl (by decide) ?_
    refine zn_icmp_ne 10 (0) (2) rfl rfl rfl rfl (by omega) (by omega) (fun c15 => ?_) (fun c15 => ?_)
    · refine zj_iconst 13 (0) rfl rfl (by decide) ?_
      refine zn_iadd 14 (c / 9) (0) rfl rfl rfl rfl ?_
      refine zj_istore 15 rfl rfl ?_
      refine zj_iload_n 16 rfl rfl rfl ?_
      refine zj_bipush 17 (9) rfl rfl (by decide) ?_
      refine zn_irem 18 (c) (9) rfl rfl rfl rfl (by omega) (by omega) (by omega) ?_
      refine zj_iload_n 19 rfl rfl rfl ?_
      refine zj_iconst 20 (3) rfl rfl (by decide) ?_
      refine zn_icmp_ne 21 (0) (3) rfl rfl rfl rfl (by omega) (by omega) (fun c32 => ?_) (fun c32 => ?_)
      · refine zj_iload_n 24 rfl rfl rfl ?_
        refine zj_iconst 25 (4) rfl rfl (by decide) ?_
        refine zn_icmp_ne 26 (0) (4) rfl rfl rfl rfl (by omega) (by omega) (fun c41 => ?_) (fun c41 => ?_)
        · refine zj_iconst 29 (0) rfl rfl (by decide) ?_
          refine zn_iadd 30 (c % 9) (0) rfl rfl rfl rfl ?_
          refine zj_istore 31 rfl rfl ?_
          refine zj_iload 32 rfl rfl rfl ?_
          refine zj_i2l 33 rfl rfl ?_
          refine zj_lconst 34 (0) rfl rfl (by decide) ?_
          refine zj_ldc2 35 (8) rfl rfl (by decide) ?_
          refine zj_csx 36 rfl rfl lk_8_51 ckM_in (k_in0 _ _ 9 (by decide)) rfl rfl rfl rfl ?_
          refine zj_if_eq 37 rfl rfl (fun c62 => ?_) (fun c62 => ?_)
          · exact absurd (zr_of (n := 9) (by omega) (by decide)) (zo_0.mp c62)
          · refine zj_iload 38 rfl rfl rfl ?_
            refine zj_i2l 39 rfl rfl ?_
            refine zj_lconst 40 (0) rfl rfl (by decide) ?_
            refine zj_ldc2 41 (8) rfl rfl (by decide) ?_
            refine zj_csx 42 rfl rfl lk_8_51 ckM_in (k_in0 _ _ 9 (by decide)) rfl rfl rfl rfl ?_
            refine zj_if_eq 43 rfl rfl (fun c75 => ?_) (fun c75 => ?_)
            · exact absurd (zr_of (n := 9) (by omega) (by decide)) (zo_0.mp c75)
            · refine zj_iconst 44 (1) rfl rfl (by decide) ?_
              refine zj_goto 45 rfl rfl ?_
              refine zj_istore 47 rfl rfl ?_
              refine zj_aload_n 48 rfl rfl rfl ?_
              refine zj_iload_n 49 rfl rfl rfl ?_
              refine zj_iload 50 rfl rfl rfl ?_
              refine zj_if_eq 51 rfl rfl (fun c89 => ?_) (fun c89 => ?_)
              · exact absurd c89 (by decide)
              · refine zj_iload 52 rfl rfl rfl ?_
                refine zj_goto 53 rfl rfl ?_
                refine zj_iload 57 rfl rfl rfl ?_
                refine zj_if_eq 58 rfl rfl (fun c103 => ?_) (fun c103 => ?_)
                · exact absurd c103 (by decide)
                · refine zj_iload 59 rfl rfl rfl ?_
                  refine zj_goto 60 rfl rfl ?_
                  refine zj_cvx 64 rfl rfl lk_8_76 ckM_blurred (k_blurred _ _ _ (by omega) (by omega) (by omega)) rfl mw_0 rfl rfl rfl ?_
                  refine zj_ireturn 65 rfl rfl rfl ?_
                  exact ⟨zrt (by simp [mSeen, mR, mX]), rfl, rfl⟩
        · exact absurd c41 (by decide)
      · exact absurd c32 (by decide)
    · exact absurd c15 (by decide)
  · exact absurd c6 (by decide)
theorem k_seenAt1 (g c : Nat) (hg : g < 4) (hc : c < 81) : zM E YM_seenAt 3 [.ref a, .int (nI g), .int (nI 1), .int (nI c)] (mw σ a M) (some (.int (mSeen M.picture g 1 c))) (mw σ a M) := by
  refine zM.of oM_seenAt (by decide +kernel) rfl rfl (fun n => ?_)
  refine zj_iload_n 0 rfl rfl rfl ?_
  refine zj_bipush 1 (9) rfl rfl (by decide) ?_
  refine zn_idiv 2 (c) (9) rfl rfl rfl rfl (by omega) (by omega) (by omega) ?_
  refine zj_iload_n 3 rfl rfl rfl ?_
  refine zj_iconst 4 (1) rfl rfl (by decide) ?_
  refine zn_icmp_ne 5 (1) (1) rfl rfl rfl rfl (by omega) (by omega) (fun c6 => ?_) (fun c6 => ?_)
  · exact absurd c6 (by decide)
  · refine zj_iconst 6 (-1) rfl rfl (by decide) ?_
    refine zj_goto 7 rfl rfl ?_
    refine zj_iadd 14 rfl rfl ?_
    refine zj_istore 15 rfl rfl ?_
    refine zj_iload_n 16 rfl rfl rfl ?_
    refine zj_bipush 17 (9) rfl rfl (by decide) ?_
    refine zn_irem 18 (c) (9) rfl rfl rfl rfl (by omega) (by omega) (by omega) ?_
    refine zj_iload_n 19 rfl rfl rfl ?_
    refine zj_iconst 20 (3) rfl rfl (by decide) ?_
    refine zn_icmp_ne 21 (1) (3) rfl rfl rfl rfl (by omega) (by omega) (fun c32 => ?_) (fun c32 => ?_)
    · refine zj_iload_n 24 rfl rfl rfl ?_
      refine zj_iconst 25 (4) rfl rfl (by decide) ?_
      refine zn_icmp_ne 26 (1) (4) rfl rfl rfl rfl (by omega) (by omega) (fun c41 => ?_) (fun c41 => ?_)
      · refine zj_iconst 29 (0) rfl rfl (by decide) ?_
        refine zn_iadd 30 (c % 9) (0) rfl rfl rfl rfl ?_
        refine zj_istore 31 rfl rfl ?_
        refine zj_iload 32 rfl rfl rfl ?_
        refine zj_i2l 33 rfl rfl ?_
        refine zj_lconst 34 (0) rfl rfl (by decide) ?_
        refine zj_ldc2 35 (8) rfl rfl (by decide) ?_
        refine zj_csx 36 rfl rfl lk_8_51 ckM_in (k_in0 _ _ 9 (by decide)) rfl rfl rfl rfl ?_
        refine zj_if_eq 37 rfl rfl (fun c62 => ?_) (fun c62 => ?_)
        · have hp := mt (zr_m1 (by omega)).mpr (zo_0.mp c62)
          refine zj_iconst 46 (0) rfl rfl (by decide) ?_
          refine zj_istore 47 rfl rfl ?_
          refine zj_aload_n 48 rfl rfl rfl ?_
          refine zj_iload_n 49 rfl rfl rfl ?_
          refine zj_iload 50 rfl rfl rfl ?_
          refine zj_if_eq 51 rfl rfl (fun c89 => ?_) (fun c89 => ?_)
          · refine zj_iload_n 54 rfl rfl rfl ?_
            refine zj_bipush 55 (9) rfl rfl (by decide) ?_
            refine zn_idiv 56 (c) (9) rfl rfl rfl rfl (by omega) (by omega) (by omega) ?_
            refine zj_iload 57 rfl rfl rfl ?_
            refine zj_if_eq 58 rfl rfl (fun c103 => ?_) (fun c103 => ?_)
            · refine zj_iload_n 61 rfl rfl rfl ?_
              refine zj_bipush 62 (9) rfl rfl (by decide) ?_
              refine zn_irem 63 (c) (9) rfl rfl rfl rfl (by omega) (by omega) (by omega) ?_
              refine zj_cvx 64 rfl rfl lk_8_76 ckM_blurred (k_blurred _ _ _ (by omega) (by omega) (by omega)) rfl mw_0 rfl rfl rfl ?_
              refine zj_ireturn 65 rfl rfl rfl ?_
              exact ⟨zrt (by simp [mSeen, mR, mX, hp]), rfl, rfl⟩
            · exact absurd c103 (by decide)
          · exact absurd c89 (by decide)
        · have hp := (zr_m1 (by omega)).mp (zo_n0.mp c62)
          rw [sb_m1 hp]
          refine zj_iload 38 rfl rfl rfl ?_
          refine zj_i2l 39 rfl rfl ?_
          refine zj_lconst 40 (0) rfl rfl (by decide) ?_
          refine zj_ldc2 41 (8) rfl rfl (by decide) ?_
          refine zj_csx 42 rfl rfl lk_8_51 ckM_in (k_in0 _ _ 9 (by decide)) rfl rfl rfl rfl ?_
          refine zj_if_eq 43 rfl rfl (fun c75 => ?_) (fun c75 => ?_)
          · exact absurd (zr_of (n := 9) (by omega) (by decide)) (zo_0.mp c75)
          · refine zj_iconst 44 (1) rfl rfl (by decide) ?_
            refine zj_goto 45 rfl rfl ?_
            refine zj_istore 47 rfl rfl ?_
            refine zj_aload_n 48 rfl rfl rfl ?_
            refine zj_iload_n 49 rfl rfl rfl ?_
            refine zj_iload 50 rfl rfl rfl ?_
            refine zj_if_eq 51 rfl rfl (fun c89 => ?_) (fun c89 => ?_)
            · exact absurd c89 (by decide)
            · refine zj_iload 52 rfl rfl rfl ?_
              refine zj_goto 53 rfl rfl ?_
              refine zj_iload 57 rfl rfl rfl ?_
              refine zj_if_eq 58 rfl rfl (fun c103 => ?_) (fun c103 => ?_)
              · exact absurd c103 (by decide)
              · refine zj_iload 59 rfl rfl rfl ?_
                refine zj_goto 60 rfl rfl ?_
                refine zj_cvx 64 rfl rfl lk_8_76 ckM_blurred (k_blurred _ _ _ (by omega) (by omega) (by omega)) rfl mw_0 rfl rfl rfl ?_
                refine zj_ireturn 65 rfl rfl rfl ?_
                exact ⟨zrt (by simp [mSeen, mR, mX, hp]), rfl, rfl⟩
      · exact absurd c41 (by decide)
    · exact absurd c32 (by decide)
theorem k_seenAt2 (g c : Nat) (hg : g < 4) (hc : c < 81) : zM E YM_seenAt 3 [.ref a, .int (nI g), .int (nI 2), .int (nI c)] (mw σ a M) (some (.int (mSeen M.picture g 2 c))) (mw σ a M) := by
  refine zM.of oM_seenAt (by decide +kernel) rfl rfl (fun n => ?_)
  refine zj_iload_n 0 rfl rfl rfl ?_
  refine zj_bipush 1 (9) rfl rfl (by decide) ?_
  refine zn_idiv 2 (c) (9) rfl rfl rfl rfl (by omega) (by omega) (by omega) ?_
  refine zj_iload_n 3 rfl rfl rfl ?_
  refine zj_iconst 4 (1) rfl rfl (by decide) ?_
  refine zn_icmp_ne 5 (2) (1) rfl rfl rfl rfl (by omega) (by omega) (fun c6 => ?_) (fun c6 => ?_)
  · refine zj_iload_n 8 rfl rfl rfl ?_
    refine zj_iconst 9 (2) rfl rfl (by decide) ?_
    refine zn_icmp_ne 10 (2) (2) rfl rfl rfl rfl (by omega) (by omega) (fun c15 => ?_) (fun c15 => ?_)
    · exact absurd c15 (by decide)
    · refine zj_iconst 11 (1) rfl rfl (by decide) ?_
      refine zj_goto 12 rfl rfl ?_
      refine zn_iadd 14 (c / 9) (1) rfl rfl rfl rfl ?_
      refine zj_istore 15 rfl rfl ?_
      refine zj_iload_n 16 rfl rfl rfl ?_
      refine zj_bipush 17 (9) rfl rfl (by decide) ?_
      refine zn_irem 18 (c) (9) rfl rfl rfl rfl (by omega) (by omega) (by omega) ?_
      refine zj_iload_n 19 rfl rfl rfl ?_
      refine zj_iconst 20 (3) rfl rfl (by decide) ?_
      refine zn_icmp_ne 21 (2) (3) rfl rfl rfl rfl (by omega) (by omega) (fun c32 => ?_) (fun c32 => ?_)
      · refine zj_iload_n 24 rfl rfl rfl ?_
        refine zj_iconst 25 (4) rfl rfl (by decide) ?_
        refine zn_icmp_ne 26 (2) (4) rfl rfl rfl rfl (by omega) (by omega) (fun c41 => ?_) (fun c41 => ?_)
        · refine zj_iconst 29 (0) rfl rfl (by decide) ?_
          refine zn_iadd 30 (c % 9) (0) rfl rfl rfl rfl ?_
          refine zj_istore 31 rfl rfl ?_
          refine zj_iload 32 rfl rfl rfl ?_
          refine zj_i2l 33 rfl rfl ?_
          refine zj_lconst 34 (0) rfl rfl (by decide) ?_
          refine zj_ldc2 35 (8) rfl rfl (by decide) ?_
          refine zj_csx 36 rfl rfl lk_8_51 ckM_in (k_in0 _ _ 9 (by decide)) rfl rfl rfl rfl ?_
          refine zj_if_eq 37 rfl rfl (fun c62 => ?_) (fun c62 => ?_)
          · have hp := mt (zr_lt (by omega)).mpr (zo_0.mp c62)
            refine zj_iconst 46 (0) rfl rfl (by decide) ?_
            refine zj_istore 47 rfl rfl ?_
            refine zj_aload_n 48 rfl rfl rfl ?_
            refine zj_iload_n 49 rfl rfl rfl ?_
            refine zj_iload 50 rfl rfl rfl ?_
            refine zj_if_eq 51 rfl rfl (fun c89 => ?_) (fun c89 => ?_)
            · refine zj_iload_n 54 rfl rfl rfl ?_
              refine zj_bipush 55 (9) rfl rfl (by decide) ?_
              refine zn_idiv 56 (c) (9) rfl rfl rfl rfl (by omega) (by omega) (by omega) ?_
              refine zj_iload 57 rfl rfl rfl ?_
              refine zj_if_eq 58 rfl rfl (fun c103 => ?_) (fun c103 => ?_)
              · refine zj_iload_n 61 rfl rfl rfl ?_
                refine zj_bipush 62 (9) rfl rfl (by decide) ?_
                refine zn_irem 63 (c) (9) rfl rfl rfl rfl (by omega) (by omega) (by omega) ?_
                refine zj_cvx 64 rfl rfl lk_8_76 ckM_blurred (k_blurred _ _ _ (by omega) (by omega) (by omega)) rfl mw_0 rfl rfl rfl ?_
                refine zj_ireturn 65 rfl rfl rfl ?_
                exact ⟨zrt (by simp [mSeen, mR, mX, hp]), rfl, rfl⟩
              · exact absurd c103 (by decide)
            · exact absurd c89 (by decide)
          · have hp := (zr_lt (by omega)).mp (zo_n0.mp c62)
            refine zj_iload 38 rfl rfl rfl ?_
            refine zj_i2l 39 rfl rfl ?_
            refine zj_lconst 40 (0) rfl rfl (by decide) ?_
            refine zj_ldc2 41 (8) rfl rfl (by decide) ?_
            refine zj_csx 42 rfl rfl lk_8_51 ckM_in (k_in0 _ _ 9 (by decide)) rfl rfl rfl rfl ?_
            refine zj_if_eq 43 rfl rfl (fun c75 => ?_) (fun c75 => ?_)
            · exact absurd (zr_of (n := 9) (by omega) (by decide)) (zo_0.mp c75)
            · refine zj_iconst 44 (1) rfl rfl (by decide) ?_
              refine zj_goto 45 rfl rfl ?_
              refine zj_istore 47 rfl rfl ?_
              refine zj_aload_n 48 rfl rfl rfl ?_
              refine zj_iload_n 49 rfl rfl rfl ?_
              refine zj_iload 50 rfl rfl rfl ?_
              refine zj_if_eq 51 rfl rfl (fun c89 => ?_) (fun c89 => ?_)
              · exact absurd c89 (by decide)
              · refine zj_iload 52 rfl rfl rfl ?_
                refine zj_goto 53 rfl rfl ?_
                refine zj_iload 57 rfl rfl rfl ?_
                refine zj_if_eq 58 rfl rfl (fun c103 => ?_) (fun c103 => ?_)
                · exact absurd c103 (by decide)
                · refine zj_iload 59 rfl rfl rfl ?_
                  refine zj_goto 60 rfl rfl ?_
                  refine zj_cvx 64 rfl rfl lk_8_76 ckM_blurred (k_blurred _ _ _ (by omega) (by omega) (by omega)) rfl mw_0 rfl rfl rfl ?_
                  refine zj_ireturn 65 rfl rfl rfl ?_
                  exact ⟨zrt (by simp [mSeen, mR, mX, hp]), rfl, rfl⟩
        · exact absurd c41 (by decide)
      · exact absurd c32 (by decide)
  · exact absurd c6 (by decide)
theorem k_seenAt3 (g c : Nat) (hg : g < 4) (hc : c < 81) : zM E YM_seenAt 3 [.ref a, .int (nI g), .int (nI 3), .int (nI c)] (mw σ a M) (some (.int (mSeen M.picture g 3 c))) (mw σ a M) := by
  refine zM.of oM_seenAt (by decide +kernel) rfl rfl (fun n => ?_)
  refine zj_iload_n 0 rfl rfl rfl ?_
  refine zj_bipush 1 (9) rfl rfl (by decide) ?_
  refine zn_idiv 2 (c) (9) rfl rfl rfl rfl (by omega) (by omega) (by omega) ?_
  refine zj_iload_n 3 rfl rfl rfl ?_
  refine zj_iconst 4 (1) rfl rfl (by decide) ?_
  refine zn_icmp_ne 5 (3) (1) rfl rfl rfl rfl (by omega) (by omega) (fun c6 => ?_) (fun c6 => ?_)
  · refine zj_iload_n 8 rfl rfl rfl ?_
    refine zj_iconst 9 (2) rfl rfl (by decide) ?_
    refine zn_icmp_ne 10 (3) (2) rfl rfl rfl rfl (by omega) (by omega) (fun c15 => ?_) (fun c15 => ?_)
    · refine zj_iconst 13 (0) rfl rfl (by decide) ?_
      refine zn_iadd 14 (c / 9) (0) rfl rfl rfl rfl ?_
      refine zj_istore 15 rfl rfl ?_
      refine zj_iload_n 16 rfl rfl rfl ?_
      refine zj_bipush 17 (9) rfl rfl (by decide) ?_
      refine zn_irem 18 (c) (9) rfl rfl rfl rfl (by omega) (by omega) (by omega) ?_
      refine zj_iload_n 19 rfl rfl rfl ?_
      refine zj_iconst 20 (3) rfl rfl (by decide) ?_
      refine zn_icmp_ne 21 (3) (3) rfl rfl rfl rfl (by omega) (by omega) (fun c32 => ?_) (fun c32 => ?_)
      · exact absurd c32 (by decide)
      · refine zj_iconst 22 (-1) rfl rfl (by decide) ?_
        refine zj_goto 23 rfl rfl ?_
        refine zj_iadd 30 rfl rfl ?_
        refine zj_istore 31 rfl rfl ?_
        refine zj_iload 32 rfl rfl rfl ?_
        refine zj_i2l 33 rfl rfl ?_
        refine zj_lconst 34 (0) rfl rfl (by decide) ?_
        refine zj_ldc2 35 (8) rfl rfl (by decide) ?_
        refine zj_csx 36 rfl rfl lk_8_51 ckM_in (k_in0 _ _ 9 (by decide)) rfl rfl rfl rfl ?_
        refine zj_if_eq 37 rfl rfl (fun c62 => ?_) (fun c62 => ?_)
        · exact absurd (zr_of (n := 9) (by omega) (by decide)) (zo_0.mp c62)
        · refine zj_iload 38 rfl rfl rfl ?_
          refine zj_i2l 39 rfl rfl ?_
          refine zj_lconst 40 (0) rfl rfl (by decide) ?_
          refine zj_ldc2 41 (8) rfl rfl (by decide) ?_
          refine zj_csx 42 rfl rfl lk_8_51 ckM_in (k_in0 _ _ 9 (by decide)) rfl rfl rfl rfl ?_
          refine zj_if_eq 43 rfl rfl (fun c75 => ?_) (fun c75 => ?_)
          · have hp := mt (zr_m1 (by omega)).mpr (zo_0.mp c75)
            refine zj_iconst 46 (0) rfl rfl (by decide) ?_
            refine zj_istore 47 rfl rfl ?_
            refine zj_aload_n 48 rfl rfl rfl ?_
            refine zj_iload_n 49 rfl rfl rfl ?_
            refine zj_iload 50 rfl rfl rfl ?_
            refine zj_if_eq 51 rfl rfl (fun c89 => ?_) (fun c89 => ?_)
            · refine zj_iload_n 54 rfl rfl rfl ?_
              refine zj_bipush 55 (9) rfl rfl (by decide) ?_
              refine zn_idiv 56 (c) (9) rfl rfl rfl rfl (by omega) (by omega) (by omega) ?_
              refine zj_iload 57 rfl rfl rfl ?_
              refine zj_if_eq 58 rfl rfl (fun c103 => ?_) (fun c103 => ?_)
              · refine zj_iload_n 61 rfl rfl rfl ?_
                refine zj_bipush 62 (9) rfl rfl (by decide) ?_
                refine zn_irem 63 (c) (9) rfl rfl rfl rfl (by omega) (by omega) (by omega) ?_
                refine zj_cvx 64 rfl rfl lk_8_76 ckM_blurred (k_blurred _ _ _ (by omega) (by omega) (by omega)) rfl mw_0 rfl rfl rfl ?_
                refine zj_ireturn 65 rfl rfl rfl ?_
                exact ⟨zrt (by simp [mSeen, mR, mX, hp]), rfl, rfl⟩
              · exact absurd c103 (by decide)
            · exact absurd c89 (by decide)
          · have hp := (zr_m1 (by omega)).mp (zo_n0.mp c75)
            rw [sb_m1 hp]
            refine zj_iconst 44 (1) rfl rfl (by decide) ?_
            refine zj_goto 45 rfl rfl ?_
            refine zj_istore 47 rfl rfl ?_
            refine zj_aload_n 48 rfl rfl rfl ?_
            refine zj_iload_n 49 rfl rfl rfl ?_
            refine zj_iload 50 rfl rfl rfl ?_
            refine zj_if_eq 51 rfl rfl (fun c89 => ?_) (fun c89 => ?_)
            · exact absurd c89 (by decide)
            · refine zj_iload 52 rfl rfl rfl ?_
              refine zj_goto 53 rfl rfl ?_
              refine zj_iload 57 rfl rfl rfl ?_
              refine zj_if_eq 58 rfl rfl (fun c103 => ?_) (fun c103 => ?_)
              · exact absurd c103 (by decide)
              · refine zj_iload 59 rfl rfl rfl ?_
                refine zj_goto 60 rfl rfl ?_
                refine zj_cvx 64 rfl rfl lk_8_76 ckM_blurred (k_blurred _ _ _ (by omega) (by omega) (by omega)) rfl mw_0 rfl rfl rfl ?_
                refine zj_ireturn 65 rfl rfl rfl ?_
                exact ⟨zrt (by simp [mSeen, mR, mX, hp]), rfl, rfl⟩
    · exact absurd c15 (by decide)
  · exact absurd c6 (by decide)
theorem k_seenAt4 (g c : Nat) (hg : g < 4) (hc : c < 81) : zM E YM_seenAt 3 [.ref a, .int (nI g), .int (nI 4), .int (nI c)] (mw σ a M) (some (.int (mSeen M.picture g 4 c))) (mw σ a M) := by
  refine zM.of oM_seenAt (by decide +kernel) rfl rfl (fun n => ?_)
  refine zj_iload_n 0 rfl rfl rfl ?_
  refine zj_bipush 1 (9) rfl rfl (by decide) ?_
  refine zn_idiv 2 (c) (9) rfl rfl rfl rfl (by omega) (by omega) (by omega) ?_
  refine zj_iload_n 3 rfl rfl rfl ?_
  refine zj_iconst 4 (1) rfl rfl (by decide) ?_
  refine zn_icmp_ne 5 (4) (1) rfl rfl rfl rfl (by omega) (by omega) (fun c6 => ?_) (fun c6 => ?_)
  · refine zj_iload_n 8 rfl rfl rfl ?_
    refine zj_iconst 9 (2) rfl rfl (by decide) ?_
    refine zn_icmp_ne 10 (4) (2) rfl rfl rfl rfl (by omega) (by omega) (fun c15 => ?_) (fun c15 => ?_)
    · refine zj_iconst 13 (0) rfl rfl (by decide) ?_
      refine zn_iadd 14 (c / 9) (0) rfl rfl rfl rfl ?_
      refine zj_istore 15 rfl rfl ?_
      refine zj_iload_n 16 rfl rfl rfl ?_
      refine zj_bipush 17 (9) rfl rfl (by decide) ?_
      refine zn_irem 18 (c) (9) rfl rfl rfl rfl (by omega) (by omega) (by omega) ?_
      refine zj_iload_n 19 rfl rfl rfl ?_
      refine zj_iconst 20 (3) rfl rfl (by decide) ?_
      refine zn_icmp_ne 21 (4) (3) rfl rfl rfl rfl (by omega) (by omega) (fun c32 => ?_) (fun c32 => ?_)
      · refine zj_iload_n 24 rfl rfl rfl ?_
        refine zj_iconst 25 (4) rfl rfl (by decide) ?_
        refine zn_icmp_ne 26 (4) (4) rfl rfl rfl rfl (by omega) (by omega) (fun c41 => ?_) (fun c41 => ?_)
        · exact absurd c41 (by decide)
        · refine zj_iconst 27 (1) rfl rfl (by decide) ?_
          refine zj_goto 28 rfl rfl ?_
          refine zn_iadd 30 (c % 9) (1) rfl rfl rfl rfl ?_
          refine zj_istore 31 rfl rfl ?_
          refine zj_iload 32 rfl rfl rfl ?_
          refine zj_i2l 33 rfl rfl ?_
          refine zj_lconst 34 (0) rfl rfl (by decide) ?_
          refine zj_ldc2 35 (8) rfl rfl (by decide) ?_
          refine zj_csx 36 rfl rfl lk_8_51 ckM_in (k_in0 _ _ 9 (by decide)) rfl rfl rfl rfl ?_
          refine zj_if_eq 37 rfl rfl (fun c62 => ?_) (fun c62 => ?_)
          · exact absurd (zr_of (n := 9) (by omega) (by decide)) (zo_0.mp c62)
          · refine zj_iload 38 rfl rfl rfl ?_
            refine zj_i2l 39 rfl rfl ?_
            refine zj_lconst 40 (0) rfl rfl (by decide) ?_
            refine zj_ldc2 41 (8) rfl rfl (by decide) ?_
            refine zj_csx 42 rfl rfl lk_8_51 ckM_in (k_in0 _ _ 9 (by decide)) rfl rfl rfl rfl ?_
            refine zj_if_eq 43 rfl rfl (fun c75 => ?_) (fun c75 => ?_)
            · have hp := mt (zr_lt (by omega)).mpr (zo_0.mp c75)
              refine zj_iconst 46 (0) rfl rfl (by decide) ?_
              refine zj_istore 47 rfl rfl ?_
              refine zj_aload_n 48 rfl rfl rfl ?_
              refine zj_iload_n 49 rfl rfl rfl ?_
              refine zj_iload 50 rfl rfl rfl ?_
              refine zj_if_eq 51 rfl rfl (fun c89 => ?_) (fun c89 => ?_)
              · refine zj_iload_n 54 rfl rfl rfl ?_
                refine zj_bipush 55 (9) rfl rfl (by decide) ?_
                refine zn_idiv 56 (c) (9) rfl rfl rfl rfl (by omega) (by omega) (by omega) ?_
                refine zj_iload 57 rfl rfl rfl ?_
                refine zj_if_eq 58 rfl rfl (fun c103 => ?_) (fun c103 => ?_)
                · refine zj_iload_n 61 rfl rfl rfl ?_
                  refine zj_bipush 62 (9) rfl rfl (by decide) ?_
                  refine zn_irem 63 (c) (9) rfl rfl rfl rfl (by omega) (by omega) (by omega) ?_
                  refine zj_cvx 64 rfl rfl lk_8_76 ckM_blurred (k_blurred _ _ _ (by omega) (by omega) (by omega)) rfl mw_0 rfl rfl rfl ?_
                  refine zj_ireturn 65 rfl rfl rfl ?_
                  exact ⟨zrt (by simp [mSeen, mR, mX, hp]), rfl, rfl⟩
                · exact absurd c103 (by decide)
              · exact absurd c89 (by decide)
            · have hp := (zr_lt (by omega)).mp (zo_n0.mp c75)
              refine zj_iconst 44 (1) rfl rfl (by decide) ?_
              refine zj_goto 45 rfl rfl ?_
              refine zj_istore 47 rfl rfl ?_
              refine zj_aload_n 48 rfl rfl rfl ?_
              refine zj_iload_n 49 rfl rfl rfl ?_
              refine zj_iload 50 rfl rfl rfl ?_
              refine zj_if_eq 51 rfl rfl (fun c89 => ?_) (fun c89 => ?_)
              · exact absurd c89 (by decide)
              · refine zj_iload 52 rfl rfl rfl ?_
                refine zj_goto 53 rfl rfl ?_
                refine zj_iload 57 rfl rfl rfl ?_
                refine zj_if_eq 58 rfl rfl (fun c103 => ?_) (fun c103 => ?_)
                · exact absurd c103 (by decide)
                · refine zj_iload 59 rfl rfl rfl ?_
                  refine zj_goto 60 rfl rfl ?_
                  refine zj_cvx 64 rfl rfl lk_8_76 ckM_blurred (k_blurred _ _ _ (by omega) (by omega) (by omega)) rfl mw_0 rfl rfl rfl ?_
                  refine zj_ireturn 65 rfl rfl rfl ?_
                  exact ⟨zrt (by simp [mSeen, mR, mX, hp]), rfl, rfl⟩
      · exact absurd c32 (by decide)
    · exact absurd c15 (by decide)
  · exact absurd c6 (by decide)
theorem k_seenAt (g air c : Nat) (hg : g < 4) (ha : air < 5) (hc : c < 81) : zM E YM_seenAt 3 [.ref a, .int (nI g), .int (nI air), .int (nI c)] (mw σ a M) (some (.int (mSeen M.picture g air c))) (mw σ a M) := by
  match air, ha with
  | 0, _ => exact k_seenAt0 g c hg hc
  | 1, _ => exact k_seenAt1 g c hg hc
  | 2, _ => exact k_seenAt2 g c hg hc
  | 3, _ => exact k_seenAt3 g c hg hc
  | 4, _ => exact k_seenAt4 g c hg hc
theorem k_Mseen (w dk g air c : Nat) (hw : w < 4) (hd : dk < 16) (hg : g < 4) (ha : air < 5) (hc : c < 81) : zM E YM_seen 4 [.ref a, .int (nI w), .int (nI dk), .int (nI g), .int (nI air), .int (nI c)] (mw σ a M) (some (.int (mSeen (zfl (mPic M.row w (nI dk)) M.picture 81) g air c))) (mw σ a (M.sA 3 (zfl (mPic M.row w (nI dk)) M.picture 81))) := by
  refine zM.of oM_seen (by decide +kernel) rfl rfl (fun n => ?_)
  refine zj_iload_n 0 rfl rfl rfl ?_
  refine zj_iload_n 1 rfl rfl rfl ?_
  refine zj_iload_n 2 rfl rfl rfl ?_
  refine zj_iload 3 rfl rfl rfl ?_
  refine zj_csx 4 rfl rfl lk_8_82 ckM_isLook (k_isLook _ _ _ _) rfl rfl rfl rfl ?_
  refine zj_if_eq 5 rfl rfl (fun c8 => ?_) (fun c8 => ?_)
  · exact absurd ⟨zr_of (by omega) (by decide), zr_of (by omega) (by decide), zr_of (by omega) (by decide), zr_of (by omega) (by decide)⟩ (zo_0.mp c8)
  · refine zj_iload 6 rfl rfl rfl ?_
    refine zj_csx 7 rfl rfl lk_8_61 ckM_isCell (k_isCell _) rfl rfl rfl rfl ?_
    refine zj_if_ne 8 rfl rfl (fun c16 => ?_) (fun c16 => ?_)
    · refine zj_aload_n 11 rfl rfl rfl ?_
      refine zj_iload_n 12 rfl rfl rfl ?_
      refine zj_iload_n 13 rfl rfl rfl ?_
      refine zj_cvv 14 rfl rfl lk_8_86 ckM_layWorld (k_layWorld _ _ (by omega)) rfl mw_0 rfl rfl rfl ?_
      refine zj_aload_n 15 rfl rfl rfl ?_
      refine zj_iload_n 16 rfl rfl rfl ?_
      refine zj_iload 17 rfl rfl rfl ?_
      refine zj_iload 18 rfl rfl rfl ?_
      refine zj_cvx 19 rfl rfl lk_8_90 ckM_seenAt (k_seenAt _ _ _ (by omega) (by omega) (by omega)) rfl mw_0 rfl rfl rfl ?_
      refine zj_ireturn 20 rfl rfl rfl ?_
      exact ⟨rfl, rfl, rfl⟩
    · exact absurd (zr_of (by omega) (by decide)) (zo_0.mp c16)
theorem k_Mseen_bad (w dk g air c : Int32) (hb : ¬ ((zr w 4 ∧ zr dk 16 ∧ zr g 4 ∧ zr air 5) ∧ zr c 81)) : zM E YM_seen 4 [.ref a, .int w, .int dk, .int g, .int air, .int c] (mw σ a M) (some (.int (-2))) (mw σ a M) := by
  refine zM.of oM_seen (by decide +kernel) rfl rfl (fun n => ?_)
  refine zj_iload_n 0 rfl rfl rfl ?_
  refine zj_iload_n 1 rfl rfl rfl ?_
  refine zj_iload_n 2 rfl rfl rfl ?_
  refine zj_iload 3 rfl rfl rfl ?_
  refine zj_csx 4 rfl rfl lk_8_82 ckM_isLook (k_isLook _ _ _ _) rfl rfl rfl rfl ?_
  refine zj_if_eq 5 rfl rfl (fun c8 => ?_) (fun c8 => ?_)
  · refine zj_bipush 9 (-2) rfl rfl (by decide) ?_
    refine zj_ireturn 10 rfl rfl rfl ?_
    exact ⟨rfl, rfl, rfl⟩
  · refine zj_iload 6 rfl rfl rfl ?_
    refine zj_csx 7 rfl rfl lk_8_61 ckM_isCell (k_isCell _) rfl rfl rfl rfl ?_
    refine zj_if_ne 8 rfl rfl (fun c16 => ?_) (fun c16 => ?_)
    · exact absurd ⟨zo_n0.mp c8, zo_n0.mp c16⟩ hb
    · refine zj_bipush 9 (-2) rfl rfl (by decide) ?_
      refine zj_ireturn 10 rfl rfl rfl ?_
      exact ⟨rfl, rfl, rfl⟩
theorem k_linesAhead (p : Nat) (hp : p < 8) : zM E YM_linesAhead 1 [.int (nI p)] (σ) (some (.int (nI (7 * p - p * (p - 1) / 2)))) (σ) := by
  refine zM.of oM_linesAhead (by decide +kernel) rfl rfl (fun n => ?_)
  refine zj_bipush 0 (7) rfl rfl (by decide) ?_
  refine zj_iload_n 1 rfl rfl rfl ?_
  refine zn_imul 2 (7) (p) rfl rfl rfl rfl ?_
  refine zj_iload_n 3 rfl rfl rfl ?_
  refine zj_iload_n 4 rfl rfl rfl ?_
  refine zj_iconst 5 (1) rfl rfl (by decide) ?_
  refine zj_isub 6 rfl rfl ?_
  refine zj_imul 7 rfl rfl ?_
  refine zj_iconst 8 (2) rfl rfl (by decide) ?_
  refine zj_idiv 9 rfl rfl (by decide) ?_
  refine zj_isub 10 rfl rfl ?_
  refine zj_ireturn 11 rfl rfl rfl ?_
  exact ⟨zrt (zlines hp), rfl, rfl⟩
theorem k_Mline (p r : Nat) (hp : p < 8) (hr : r < 8) (hne : p ≠ r) : zM E YM_line 2 [.ref a, .int (nI p), .int (nI r)] (mw σ a M) (some (.int (nI (7 * min p r - min p r * (min p r - 1) / 2) + nI (max p r) - nI (min p r) - 1))) (mw σ a M) := by
  refine zM.of oM_line (by decide +kernel) rfl rfl (fun n => ?_)
  refine zj_iload_n 0 rfl rfl rfl ?_
  refine zj_i2l 1 rfl rfl ?_
  refine zj_lconst 2 (0) rfl rfl (by decide) ?_
  refine zj_ldc2 3 (7) rfl rfl (by decide) ?_
  refine zj_csx 4 rfl rfl lk_8_51 ckM_in (k_in0 _ _ 8 (by decide)) rfl rfl rfl rfl ?_
  refine zj_if_eq 5 rfl rfl (fun c9 => ?_) (fun c9 => ?_)
  · exact absurd (zr_of (by omega) (by decide)) (zo_0.mp c9)
  · refine zj_iload_n 6 rfl rfl rfl ?_
    refine zj_i2l 7 rfl rfl ?_
    refine zj_lconst 8 (0) rfl rfl (by decide) ?_
    refine zj_ldc2 9 (7) rfl rfl (by decide) ?_
    refine zj_csx 10 rfl rfl lk_8_51 ckM_in (k_in0 _ _ 8 (by decide)) rfl rfl rfl rfl ?_
    refine zj_if_eq 11 rfl rfl (fun c21 => ?_) (fun c21 => ?_)
    · exact absurd (zr_of (by omega) (by decide)) (zo_0.mp c21)
    · refine zj_iload_n 12 rfl rfl rfl ?_
      refine zj_iload_n 13 rfl rfl rfl ?_
      refine zn_icmp_ne 14 (p) (r) rfl rfl rfl rfl (by omega) (by omega) (fun c26 => ?_) (fun c26 => ?_)
      · refine zj_iload_n 17 rfl rfl rfl ?_
        refine zj_iload_n 18 rfl rfl rfl ?_
        refine zn_icmp_ge 19 (p) (r) rfl rfl rfl rfl (by omega) (by omega) (fun c34 => ?_) (fun c34 => ?_)
        · refine zj_iload_n 22 rfl rfl rfl ?_
          refine zj_istore_n 23 rfl rfl ?_
          refine zj_iload_n 24 rfl rfl rfl ?_
          refine zj_iload_n 25 rfl rfl rfl ?_
          refine zn_icmp_ge 26 (p) (r) rfl rfl rfl rfl (by omega) (by omega) (fun c45 => ?_) (fun c45 => ?_)
          · refine zj_iload_n 29 rfl rfl rfl ?_
            refine zj_istore 30 rfl rfl ?_
            refine zj_iload_n 31 rfl rfl rfl ?_
            refine zj_csx 32 rfl rfl lk_8_93 ckM_linesAhead (k_linesAhead _ (by omega)) rfl rfl rfl rfl ?_
            refine zj_iload 33 rfl rfl rfl ?_
            refine zj_iadd 34 rfl rfl ?_
            refine zj_iload_n 35 rfl rfl rfl ?_
            refine zj_isub 36 rfl rfl ?_
            refine zj_iconst 37 (1) rfl rfl (by decide) ?_
            refine zj_isub 38 rfl rfl ?_
            refine zj_ireturn 39 rfl rfl rfl ?_
            first
              | (exfalso; omega)
              | (refine ⟨zrt ?_, rfl, rfl⟩; rw [Nat.min_eq_left (show p ≤ r by omega), Nat.max_eq_right (show p ≤ r by omega)])
              | (refine ⟨zrt ?_, rfl, rfl⟩; rw [Nat.min_eq_right (show r ≤ p by omega), Nat.max_eq_left (show r ≤ p by omega)])
          · refine zj_iload_n 27 rfl rfl rfl ?_
            refine zj_goto 28 rfl rfl ?_
            refine zj_istore 30 rfl rfl ?_
            refine zj_iload_n 31 rfl rfl rfl ?_
            refine zj_csx 32 rfl rfl lk_8_93 ckM_linesAhead (k_linesAhead _ (by omega)) rfl rfl rfl rfl ?_
            refine zj_iload 33 rfl rfl rfl ?_
            refine zj_iadd 34 rfl rfl ?_
            refine zj_iload_n 35 rfl rfl rfl ?_
            refine zj_isub 36 rfl rfl ?_
            refine zj_iconst 37 (1) rfl rfl (by decide) ?_
            refine zj_isub 38 rfl rfl ?_
            refine zj_ireturn 39 rfl rfl rfl ?_
            first
              | (exfalso; omega)
              | (refine ⟨zrt ?_, rfl, rfl⟩; rw [Nat.min_eq_left (show p ≤ r by omega), Nat.max_eq_right (show p ≤ r by omega)])
              | (refine ⟨zrt ?_, rfl, rfl⟩; rw [Nat.min_eq_right (show r ≤ p by omega), Nat.max_eq_left (show r ≤ p by omega)])
        · refine zj_iload_n 20 rfl rfl rfl ?_
          refine zj_goto 21 rfl rfl ?_
          refine zj_istore_n 23 rfl rfl ?_
          refine zj_iload_n 24 rfl rfl rfl ?_
          refine zj_iload_n 25 rfl rfl rfl ?_
          refine zn_icmp_ge 26 (p) (r) rfl rfl rfl rfl (by omega) (by omega) (fun c45 => ?_) (fun c45 => ?_)
          · refine zj_iload_n 29 rfl rfl rfl ?_
            refine zj_istore 30 rfl rfl ?_
            refine zj_iload_n 31 rfl rfl rfl ?_
            refine zj_csx 32 rfl rfl lk_8_93 ckM_linesAhead (k_linesAhead _ (by omega)) rfl rfl rfl rfl ?_
            refine zj_iload 33 rfl rfl rfl ?_
            refine zj_iadd 34 rfl rfl ?_
            refine zj_iload_n 35 rfl rfl rfl ?_
            refine zj_isub 36 rfl rfl ?_
            refine zj_iconst 37 (1) rfl rfl (by decide) ?_
            refine zj_isub 38 rfl rfl ?_
            refine zj_ireturn 39 rfl rfl rfl ?_
            first
              | (exfalso; omega)
              | (refine ⟨zrt ?_, rfl, rfl⟩; rw [Nat.min_eq_left (show p ≤ r by omega), Nat.max_eq_right (show p ≤ r by omega)])
              | (refine ⟨zrt ?_, rfl, rfl⟩; rw [Nat.min_eq_right (show r ≤ p by omega), Nat.max_eq_left (show r ≤ p by omega)])
          · refine zj_iload_n 27 rfl rfl rfl ?_
            refine zj_goto 28 rfl rfl ?_
            refine zj_istore 30 rfl rfl ?_
            refine zj_iload_n 31 rfl rfl rfl ?_
            refine zj_csx 32 rfl rfl lk_8_93 ckM_linesAhead (k_linesAhead _ (by omega)) rfl rfl rfl rfl ?_
            refine zj_iload 33 rfl rfl rfl ?_
            refine zj_iadd 34 rfl rfl ?_
            refine zj_iload_n 35 rfl rfl rfl ?_
            refine zj_isub 36 rfl rfl ?_
            refine zj_iconst 37 (1) rfl rfl (by decide) ?_
            refine zj_isub 38 rfl rfl ?_
            refine zj_ireturn 39 rfl rfl rfl ?_
            first
              | (exfalso; omega)
              | (refine ⟨zrt ?_, rfl, rfl⟩; rw [Nat.min_eq_left (show p ≤ r by omega), Nat.max_eq_right (show p ≤ r by omega)])
              | (refine ⟨zrt ?_, rfl, rfl⟩; rw [Nat.min_eq_right (show r ≤ p by omega), Nat.max_eq_left (show r ≤ p by omega)])
      · exact absurd c26 hne
theorem k_Mline_bad (p r : Int32) (hb : ¬ (zr p 8 ∧ zr r 8 ∧ p ≠ r)) : zM E YM_line 2 [.ref a, .int p, .int r] (mw σ a M) (some (.int (-2))) (mw σ a M) := by
  refine zM.of oM_line (by decide +kernel) rfl rfl (fun n => ?_)
  refine zj_iload_n 0 rfl rfl rfl ?_
  refine zj_i2l 1 rfl rfl ?_
  refine zj_lconst 2 (0) rfl rfl (by decide) ?_
  refine zj_ldc2 3 (7) rfl rfl (by decide) ?_
  refine zj_csx 4 rfl rfl lk_8_51 ckM_in (k_in0 _ _ 8 (by decide)) rfl rfl rfl rfl ?_
  refine zj_if_eq 5 rfl rfl (fun c9 => ?_) (fun c9 => ?_)
  · refine zj_bipush 15 (-2) rfl rfl (by decide) ?_
    refine zj_ireturn 16 rfl rfl rfl ?_
    exact ⟨rfl, rfl, rfl⟩
  · refine zj_iload_n 6 rfl rfl rfl ?_
    refine zj_i2l 7 rfl rfl ?_
    refine zj_lconst 8 (0) rfl rfl (by decide) ?_
    refine zj_ldc2 9 (7) rfl rfl (by decide) ?_
    refine zj_csx 10 rfl rfl lk_8_51 ckM_in (k_in0 _ _ 8 (by decide)) rfl rfl rfl rfl ?_
    refine zj_if_eq 11 rfl rfl (fun c21 => ?_) (fun c21 => ?_)
    · refine zj_bipush 15 (-2) rfl rfl (by decide) ?_
      refine zj_ireturn 16 rfl rfl rfl ?_
      exact ⟨rfl, rfl, rfl⟩
    · refine zj_iload_n 12 rfl rfl rfl ?_
      refine zj_iload_n 13 rfl rfl rfl ?_
      refine zj_icmp_ne 14 rfl rfl (fun c26 => ?_) (fun c26 => ?_)
      · exact absurd ⟨zo_n0.mp c9, zo_n0.mp c21, c26⟩ hb
      · refine zj_bipush 15 (-2) rfl rfl (by decide) ?_
        refine zj_ireturn 16 rfl rfl rfl ?_
        exact ⟨rfl, rfl, rfl⟩
theorem k_Mwrite (l c k : Nat) (hl : l < 4) (hc : c < 128) (hk : M.row (368 + l) = nI k) (hk40 : k < 40) : zM E YM_write 3 [.ref a, .int (nI l), .int (nI c)] (mw σ a M) (some (.int (nI (k + 1)))) (mw σ a (M.sA 0 (va_up (va_up M.row (372 + 40 * l + k) (nI c)) (368 + l) (nI (k + 1))))) := by
  refine zM.of oM_write (by decide +kernel) rfl rfl (fun n => ?_)
  refine zj_iload_n 0 rfl rfl rfl ?_
  refine zj_csx 1 rfl rfl lk_8_57 ckM_isFour (k_isFour _) rfl rfl rfl rfl ?_
  refine zj_if_eq 2 rfl rfl (fun c4 => ?_) (fun c4 => ?_)
  · exact absurd (zr_of (by omega) (by decide)) (zo_0.mp c4)
  · refine zj_iload_n 3 rfl rfl rfl ?_
    refine zj_i2l 4 rfl rfl ?_
    refine zj_lconst 5 (0) rfl rfl (by decide) ?_
    refine zj_ldc2 6 (127) rfl rfl (by decide) ?_
    refine zj_csx 7 rfl rfl lk_8_51 ckM_in (k_in0 _ _ 128 (by decide)) rfl rfl rfl rfl ?_
    refine zj_if_ne 8 rfl rfl (fun c16 => ?_) (fun c16 => ?_)
    · refine zj_aload_n 11 rfl rfl rfl ?_
      refine zj_get 12 rfl rfl mw_0 rfl ?_
      refine zj_sipush 13 (368) rfl rfl (by decide) ?_
      refine zj_iload_n 14 rfl rfl rfl ?_
      refine zn_iadd 15 (368) (l) rfl rfl rfl rfl ?_
      refine zn_iald 16 (368 + l) rfl rfl mw_1 rfl (by omega) (by decide) ?_
      refine zj_istore_n 17 rfl rfl ?_
      refine zj_iload_n 18 rfl rfl rfl ?_
      refine zj_bipush 19 (40) rfl rfl (by decide) ?_
      refine zn_icmp_ne 20 (k) (40) rfl rfl hk rfl (by omega) (by omega) (fun c36 => ?_) (fun c36 => ?_)
      · refine zj_aload_n 23 rfl rfl rfl ?_
        refine zj_get 24 rfl rfl mw_0 rfl ?_
        refine zj_sipush 25 (372) rfl rfl (by decide) ?_
        refine zj_bipush 26 (40) rfl rfl (by decide) ?_
        refine zj_iload_n 27 rfl rfl rfl ?_
        refine zn_imul 28 (40) (l) rfl rfl rfl rfl ?_
        refine zn_iadd 29 (372) (40 * l) rfl rfl rfl rfl ?_
        refine zj_iload_n 30 rfl rfl rfl ?_
        refine zn_iadd 31 ((372) + (40 * l)) (k) rfl rfl rfl hk ?_
        refine zj_iload_n 32 rfl rfl rfl ?_
        refine zn_iast 33 (((372) + (40 * l)) + (k)) rfl rfl mw_1 rfl (by omega) (by decide) mw_u1 ?_
        refine zj_aload_n 34 rfl rfl rfl ?_
        refine zj_get 35 rfl rfl mw_0 rfl ?_
        refine zj_sipush 36 (368) rfl rfl (by decide) ?_
        refine zj_iload_n 37 rfl rfl rfl ?_
        refine zn_iadd 38 (368) (l) rfl rfl rfl rfl ?_
        refine zj_dup2 39 rfl rfl rfl rfl ?_
        refine zn_iald 40 (368 + l) rfl rfl mw_1 rfl (by omega) (by decide) ?_
        refine zj_iconst 41 (1) rfl rfl (by decide) ?_
        refine zn_iadd 42 (k) (1) rfl rfl (by rw [← hk]; simp [va_up]; omega) rfl ?_
        refine zn_iast 43 (368 + l) rfl rfl mw_1 rfl (by omega) (by decide) mw_u1 ?_
        refine zj_iload_n 44 rfl rfl rfl ?_
        refine zj_iconst 45 (1) rfl rfl (by decide) ?_
        refine zn_iadd 46 (k) (1) rfl rfl hk rfl ?_
        refine zj_ireturn 47 rfl rfl rfl ?_
        exact ⟨rfl, rfl, by rw [zMo.sA_sA]; rfl⟩
      · exact absurd c36 (by omega)
    · exact absurd (zr_of (by omega) (by decide)) (zo_0.mp c16)
theorem k_Mwrite_full (l c : Nat) (hl : l < 4) (hc : c < 128) (hk : M.row (368 + l) = nI 40) : zM E YM_write 3 [.ref a, .int (nI l), .int (nI c)] (mw σ a M) (some (.int (-4))) (mw σ a M) := by
  refine zM.of oM_write (by decide +kernel) rfl rfl (fun n => ?_)
  refine zj_iload_n 0 rfl rfl rfl ?_
  refine zj_csx 1 rfl rfl lk_8_57 ckM_isFour (k_isFour _) rfl rfl rfl rfl ?_
  refine zj_if_eq 2 rfl rfl (fun c4 => ?_) (fun c4 => ?_)
  · exact absurd (zr_of (by omega) (by decide)) (zo_0.mp c4)
  · refine zj_iload_n 3 rfl rfl rfl ?_
    refine zj_i2l 4 rfl rfl ?_
    refine zj_lconst 5 (0) rfl rfl (by decide) ?_
    refine zj_ldc2 6 (127) rfl rfl (by decide) ?_
    refine zj_csx 7 rfl rfl lk_8_51 ckM_in (k_in0 _ _ 128 (by decide)) rfl rfl rfl rfl ?_
    refine zj_if_ne 8 rfl rfl (fun c16 => ?_) (fun c16 => ?_)
    · refine zj_aload_n 11 rfl rfl rfl ?_
      refine zj_get 12 rfl rfl mw_0 rfl ?_
      refine zj_sipush 13 (368) rfl rfl (by decide) ?_
      refine zj_iload_n 14 rfl rfl rfl ?_
      refine zn_iadd 15 (368) (l) rfl rfl rfl rfl ?_
      refine zn_iald 16 (368 + l) rfl rfl mw_1 rfl (by omega) (by decide) ?_
      refine zj_istore_n 17 rfl rfl ?_
      refine zj_iload_n 18 rfl rfl rfl ?_
      refine zj_bipush 19 (40) rfl rfl (by decide) ?_
      refine zn_icmp_ne 20 (40) (40) rfl rfl hk rfl (by omega) (by omega) (fun c36 => ?_) (fun c36 => ?_)
      · exact absurd c36 (by decide)
      · refine zj_bipush 21 (-4) rfl rfl (by decide) ?_
        refine zj_ireturn 22 rfl rfl rfl ?_
        exact ⟨rfl, rfl, rfl⟩
    · exact absurd (zr_of (by omega) (by decide)) (zo_0.mp c16)
theorem k_Mwrite_bad (l c : Int32) (hb : ¬ (zr l 4 ∧ zr c 128)) : zM E YM_write 3 [.ref a, .int l, .int c] (mw σ a M) (some (.int (-2))) (mw σ a M) := by
  refine zM.of oM_write (by decide +kernel) rfl rfl (fun n => ?_)
  refine zj_iload_n 0 rfl rfl rfl ?_
  refine zj_csx 1 rfl rfl lk_8_57 ckM_isFour (k_isFour _) rfl rfl rfl rfl ?_
  refine zj_if_eq 2 rfl rfl (fun c4 => ?_) (fun c4 => ?_)
  · refine zj_bipush 9 (-2) rfl rfl (by decide) ?_
    refine zj_ireturn 10 rfl rfl rfl ?_
    exact ⟨rfl, rfl, rfl⟩
  · refine zj_iload_n 3 rfl rfl rfl ?_
    refine zj_i2l 4 rfl rfl ?_
    refine zj_lconst 5 (0) rfl rfl (by decide) ?_
    refine zj_ldc2 6 (127) rfl rfl (by decide) ?_
    refine zj_csx 7 rfl rfl lk_8_51 ckM_in (k_in0 _ _ 128 (by decide)) rfl rfl rfl rfl ?_
    refine zj_if_ne 8 rfl rfl (fun c16 => ?_) (fun c16 => ?_)
    · exact absurd ⟨zo_n0.mp c4, zo_n0.mp c16⟩ hb
    · refine zj_bipush 9 (-2) rfl rfl (by decide) ?_
      refine zj_ireturn 10 rfl rfl rfl ?_
      exact ⟨rfl, rfl, rfl⟩
theorem k_Merase (l : Nat) (hl : l < 4) : zM E YM_erase 3 [.ref a, .int (nI l)] (mw σ a M) (some (.int (M.row (368 + l)))) (mw σ a (M.sA 0 (va_up M.row (368 + l) 0))) := by
  refine zM.of oM_erase (by decide +kernel) rfl rfl (fun n => ?_)
  refine zj_iload_n 0 rfl rfl rfl ?_
  refine zj_csx 1 rfl rfl lk_8_57 ckM_isFour (k_isFour _) rfl rfl rfl rfl ?_
  refine zj_if_eq 2 rfl rfl (fun c4 => ?_) (fun c4 => ?_)
  · exact absurd (zr_of (by omega) (by decide)) (zo_0.mp c4)
  · refine zj_aload_n 3 rfl rfl rfl ?_
    refine zj_sipush 4 (368) rfl rfl (by decide) ?_
    refine zj_iload_n 5 rfl rfl rfl ?_
    refine zn_iadd 6 (368) (l) rfl rfl rfl rfl ?_
    refine zj_iconst 7 (0) rfl rfl (by decide) ?_
    refine zj_cvx 8 rfl rfl lk_8_66 ckM_change (k_change _ _ (by omega)) rfl mw_0 rfl rfl rfl ?_
    refine zj_goto 9 rfl rfl ?_
    refine zj_ireturn 11 rfl rfl rfl ?_
    exact ⟨rfl, rfl, rfl⟩
theorem k_Merase_bad (l : Int32) (hb : ¬ zr l 4) : zM E YM_erase 3 [.ref a, .int l] (mw σ a M) (some (.int (-2))) (mw σ a M) := by
  refine zM.of oM_erase (by decide +kernel) rfl rfl (fun n => ?_)
  refine zj_iload_n 0 rfl rfl rfl ?_
  refine zj_csx 1 rfl rfl lk_8_57 ckM_isFour (k_isFour _) rfl rfl rfl rfl ?_
  refine zj_if_eq 2 rfl rfl (fun c4 => ?_) (fun c4 => ?_)
  · refine zj_bipush 10 (-2) rfl rfl (by decide) ?_
    refine zj_ireturn 11 rfl rfl rfl ?_
    exact ⟨rfl, rfl, rfl⟩
  · exact absurd (zo_n0.mp c4) hb
end
end
section
/-! the reference: observers, sheets, what was shown -/
def pSB (hs ho hn : Nat → Int32) (o night : Int32) : Nat → Int32
  | 0 => 0
  | k + 1 => pSB hs ho hn o night k ||| (if ho k = o ∧ hn k ≤ night then 1 <<< (hs k &&& 31) else 0)
theorem zhas1_iff (x y : Int32) : (x >>> (y &&& 31)) &&& 1 = 1 ↔ zhas x y := by
  unfold zhas
  generalize x >>> (y &&& 31) = z
  have h : z &&& 1 = 0 ∨ z &&& 1 = 1 := by
    obtain ⟨j, hj, e⟩ := pk_andE z (m := 1) 1 (by decide)
    rw [e]
    match j, hj with
    | 0, _ => exact Or.inl rfl
    | 1, _ => exact Or.inr rfl
  rcases h with h | h <;> rw [h] <;> simp
def pLS (sl : Nat → Int32) (sheets : Int32) : Nat → Int32
  | 0 => 0
  | s + 1 => pLS sl sheets s ||| (if zhas sheets (nI s) then sl s else 0)
/-- the places of the reference's row -/
abbrev rOl (r : Nat → Int32) (k : Nat) : Int32 := r (533 + 2 * k)
abbrev rOw (r : Nat → Int32) (k : Nat) : Int32 := r (534 + 2 * k)
abbrev rSl (r : Nat → Int32) (k : Nat) : Int32 := r (550 + 3 * k)
abbrev rSo (r : Nat → Int32) (k : Nat) : Int32 := r (551 + 3 * k)
abbrev rSn (r : Nat → Int32) (k : Nat) : Int32 := r (552 + 3 * k)
abbrev rHs (r : Nat → Int32) (k : Nat) : Int32 := r (599 + 3 * k)
abbrev rHo (r : Nat → Int32) (k : Nat) : Int32 := r (599 + 3 * k + 1)
abbrev rHn (r : Nat → Int32) (k : Nat) : Int32 := r (599 + 3 * k + 2)
abbrev rGw (r : Nat → Int32) (k : Nat) : Int32 := r (781 + 3 * k)
abbrev rGl (r : Nat → Int32) (k : Nat) : Int32 := r (781 + 3 * k + 1)
abbrev rGg (r : Nat → Int32) (k : Nat) : Int32 := r (781 + 3 * k + 2)
abbrev pSBm (r : Nat → Int32) (nh : Nat) (o night : Int32) : Int32 := pSB (rHs r) (rHo r) (rHn r) o night nh
abbrev pSHm (r : Nat → Int32) (nh ns : Nat) (o night : Int32) : Int32 := pLS (rSl r) (pSBm r nh o night) ns
theorem zm1_toInt {k : Nat} (h : k < 2 ^ 20) : (nI k - 1).toInt64.toInt = (k : Int) - 1 := by
  rw [zl0]
  have := pk_sub_toInt (a := k) (b := 1) (by omega) (by decide)
  exact this
def pLast (sn : Nat → Int32) (ns : Nat) : Int := if ns = 0 then 0 else (sn (ns - 1)).toInt
section
variable {E : zE} {σ : zH} {a : Nat} {M : zMo}
theorem k_linesOf (s : Nat) (hs : s < 80) : zM E YM_linesOf 1 [.ref a, .int (nI s)] (mw σ a M) (some (.int ((M.1 0) (550 + 3 * s)))) (mw σ a M) := by
  refine zM.of oM_linesOf (by decide +kernel) rfl rfl (fun n => ?_)
  refine zj_aload_n 0 rfl rfl rfl ?_
  refine zj_get 1 rfl rfl mw_0 rfl ?_
  refine zj_sipush 2 (550) rfl rfl (by decide) ?_
  refine zj_iconst 3 (3) rfl rfl (by decide) ?_
  refine zj_iload_n 4 rfl rfl rfl ?_
  refine zn_imul 5 (3) (s) rfl rfl rfl rfl ?_
  refine zn_iadd 6 (550) (3 * s) rfl rfl rfl rfl ?_
  refine zn_iald 7 ((550) + (3 * s)) rfl rfl mw_1 rfl (by omega) (by decide) ?_
  refine zj_ireturn 8 rfl rfl rfl ?_
  exact ⟨rfl, rfl, rfl⟩
theorem k_observerOf (s : Nat) (hs : s < 80) : zM E YM_observerOf 1 [.ref a, .int (nI s)] (mw σ a M) (some (.int ((M.1 0) (551 + 3 * s)))) (mw σ a M) := by
  refine zM.of oM_observerOf (by decide +kernel) rfl rfl (fun n => ?_)
  refine zj_aload_n 0 rfl rfl rfl ?_
  refine zj_get 1 rfl rfl mw_0 rfl ?_
  refine zj_sipush 2 (551) rfl rfl (by decide) ?_
  refine zj_iconst 3 (3) rfl rfl (by decide) ?_
  refine zj_iload_n 4 rfl rfl rfl ?_
  refine zn_imul 5 (3) (s) rfl rfl rfl rfl ?_
  refine zn_iadd 6 (551) (3 * s) rfl rfl rfl rfl ?_
  refine zn_iald 7 ((551) + (3 * s)) rfl rfl mw_1 rfl (by omega) (by decide) ?_
  refine zj_ireturn 8 rfl rfl rfl ?_
  exact ⟨rfl, rfl, rfl⟩
theorem k_nightOf (s : Nat) (hs : s < 80) : zM E YM_nightOf 1 [.ref a, .int (nI s)] (mw σ a M) (some (.int ((M.1 0) (552 + 3 * s)))) (mw σ a M) := by
  refine zM.of oM_nightOf (by decide +kernel) rfl rfl (fun n => ?_)
  refine zj_aload_n 0 rfl rfl rfl ?_
  refine zj_get 1 rfl rfl mw_0 rfl ?_
  refine zj_sipush 2 (552) rfl rfl (by decide) ?_
  refine zj_iconst 3 (3) rfl rfl (by decide) ?_
  refine zj_iload_n 4 rfl rfl rfl ?_
  refine zn_imul 5 (3) (s) rfl rfl rfl rfl ?_
  refine zn_iadd 6 (552) (3 * s) rfl rfl rfl rfl ?_
  refine zn_iald 7 ((552) + (3 * s)) rfl rfl mw_1 rfl (by omega) (by decide) ?_
  refine zj_ireturn 8 rfl rfl rfl ?_
  exact ⟨rfl, rfl, rfl⟩
theorem k_isObserver (x : Int32) (no : Nat) (h : (M.1 0) 532 = nI no) (hb : no < 100) : zM E YM_isObserver 2 [.ref a, .int x] (mw σ a M) (some (.int (zo (zr x no)))) (mw σ a M) := by
  refine zM.of oM_isObserver (by decide +kernel) rfl rfl (fun n => ?_)
  refine zj_iload_n 0 rfl rfl rfl ?_
  refine zj_i2l 1 rfl rfl ?_
  refine zj_lconst 2 (0) rfl rfl (by decide) ?_
  refine zj_aload_n 3 rfl rfl rfl ?_
  refine zj_get 4 rfl rfl mw_0 rfl ?_
  refine zj_sipush 5 (532) rfl rfl (by decide) ?_
  refine zn_iald 6 (532) rfl rfl mw_1 rfl (by omega) (by decide) ?_
  rw [h]
  refine zj_iconst 7 (1) rfl rfl (by decide) ?_
  refine zj_isub 8 rfl rfl ?_
  refine zj_i2l 9 rfl rfl ?_
  refine zj_csx 10 rfl rfl lk_8_51 ckM_in (k_in _ _ _) rfl rfl rfl rfl ?_
  refine zj_zreturn 11 rfl rfl rfl (zo_nar _) ?_
  exact ⟨zrt (zo_c (by rw [zl0, zm1_toInt (by omega), Int64.toInt_zero]; unfold zr; omega)), rfl, rfl⟩
theorem k_isSheet (x : Int32) (ns : Nat) (h : (M.1 0) 549 = nI ns) (hb : ns < 100) : zM E YM_isSheet 2 [.ref a, .int x] (mw σ a M) (some (.int (zo (zr x ns)))) (mw σ a M) := by
  refine zM.of oM_isSheet (by decide +kernel) rfl rfl (fun n => ?_)
  refine zj_iload_n 0 rfl rfl rfl ?_
  refine zj_i2l 1 rfl rfl ?_
  refine zj_lconst 2 (0) rfl rfl (by decide) ?_
  refine zj_aload_n 3 rfl rfl rfl ?_
  refine zj_get 4 rfl rfl mw_0 rfl ?_
  refine zj_sipush 5 (549) rfl rfl (by decide) ?_
  refine zn_iald 6 (549) rfl rfl mw_1 rfl (by omega) (by decide) ?_
  rw [h]
  refine zj_iconst 7 (1) rfl rfl (by decide) ?_
  refine zj_isub 8 rfl rfl ?_
  refine zj_i2l 9 rfl rfl ?_
  refine zj_csx 10 rfl rfl lk_8_51 ckM_in (k_in _ _ _) rfl rfl rfl rfl ?_
  refine zj_zreturn 11 rfl rfl rfl (zo_nar _) ?_
  exact ⟨zrt (zo_c (by rw [zl0, zm1_toInt (by omega), Int64.toInt_zero]; unfold zr; omega)), rfl, rfl⟩
theorem l_sheetsBy (o night : Int32) (nh : Nat) (h : (M.1 0) 598 = nI nh) (hb : nh ≤ 60) : ∀ (m : Nat) (k : Nat) (o5 : Option Value), (k + m = nh) → ∀ n, zB E YM_sheetsBy 1 n (some (.int (pSBm (M.1 0) nh o night))) (mw σ a M) (mw σ a M) 5 [some (.ref a), some (.int o), some (.int night), some (.int (pSBm (M.1 0) k o night)), some (.int (nI k)), o5] [] := by
  intro m
  induction m using Nat.strongRecOn with
  | ind m ih =>
  intro k o5 hk n
  refine zj_iload 4 rfl rfl rfl ?_
  refine zj_aload_n 5 rfl rfl rfl ?_
  refine zj_get 6 rfl rfl mw_0 rfl ?_
  refine zj_sipush 7 (598) rfl rfl (by decide) ?_
  refine zn_iald 8 (598) rfl rfl mw_1 rfl (by omega) (by decide) ?_
  refine zn_icmp_ge 9 (k) (nh) rfl rfl rfl h (by omega) (by omega) (fun c15 => ?_) (fun c15 => ?_)
  · refine zj_iload_n 45 rfl rfl rfl ?_
    refine zj_ireturn 46 rfl rfl rfl ?_
    obtain rfl : k = nh := by omega
    exact ⟨rfl, rfl, rfl⟩
  · refine zj_sipush 10 (599) rfl rfl (by decide) ?_
    refine zj_iconst 11 (3) rfl rfl (by decide) ?_
    refine zj_iload 12 rfl rfl rfl ?_
    refine zn_imul 13 (3) (k) rfl rfl rfl rfl ?_
    refine zn_iadd 14 (599) (3 * k) rfl rfl rfl rfl ?_
    refine zj_istore 15 rfl rfl ?_
    refine zj_iload_n 16 rfl rfl rfl ?_
    refine zj_aload_n 17 rfl rfl rfl ?_
    refine zj_get 18 rfl rfl mw_0 rfl ?_
    refine zj_iload 19 rfl rfl rfl ?_
    refine zj_iconst 20 (1) rfl rfl (by decide) ?_
    refine zn_iadd 21 ((599) + (3 * k)) (1) rfl rfl rfl rfl ?_
    refine zn_iald 22 (((599) + (3 * k)) + (1)) rfl rfl mw_1 rfl (by omega) (by decide) ?_
    refine zj_iload_n 23 rfl rfl rfl ?_
    refine zj_icmp_ne 24 rfl rfl (fun c39 => ?_) (fun c39 => ?_)
    · refine zj_iconst 40 (0) rfl rfl (by decide) ?_
      refine zj_ior 41 rfl rfl ?_
      refine zj_istore_n 42 rfl rfl ?_
      refine zn_iinc 43 (k) rfl rfl rfl rfl ?_
      refine zj_goto 44 rfl rfl ?_
      have e : pSBm (M.1 0) (k + 1) o night = pSBm (M.1 0) k o night ||| (if rHo (M.1 0) k = o ∧ rHn (M.1 0) k ≤ night then 1 <<< (rHs (M.1 0) k &&& 31) else 0) := rfl
      have hh := ih (m - 1) (by omega) (k + 1) (some (.int (nI (599 + 3 * k)))) (by omega) n
      rw [e] at hh
      first
        | (rw [if_pos ⟨c39, Int32.not_lt.mp c52⟩] at hh; exact hh)
        | (rw [if_neg (fun g => c39 g.1)] at hh; exact hh)
        | (rw [if_neg (fun g => absurd g.2 (Int32.not_le.mpr c52))] at hh; exact hh)
        | (rw [if_neg (fun g => absurd g.2 (by simpa using c52))] at hh; exact hh)
    · refine zj_aload_n 25 rfl rfl rfl ?_
      refine zj_get 26 rfl rfl mw_0 rfl ?_
      refine zj_iload 27 rfl rfl rfl ?_
      refine zj_iconst 28 (2) rfl rfl (by decide) ?_
      refine zn_iadd 29 ((599) + (3 * k)) (2) rfl rfl rfl rfl ?_
      refine zn_iald 30 (((599) + (3 * k)) + (2)) rfl rfl mw_1 rfl (by omega) (by decide) ?_
      refine zj_iload_n 31 rfl rfl rfl ?_
      refine zj_icmp_gt 32 rfl rfl (fun c52 => ?_) (fun c52 => ?_)
      · refine zj_iconst 40 (0) rfl rfl (by decide) ?_
        refine zj_ior 41 rfl rfl ?_
        refine zj_istore_n 42 rfl rfl ?_
        refine zn_iinc 43 (k) rfl rfl rfl rfl ?_
        refine zj_goto 44 rfl rfl ?_
        have e : pSBm (M.1 0) (k + 1) o night = pSBm (M.1 0) k o night ||| (if rHo (M.1 0) k = o ∧ rHn (M.1 0) k ≤ night then 1 <<< (rHs (M.1 0) k &&& 31) else 0) := rfl
        have hh := ih (m - 1) (by omega) (k + 1) (some (.int (nI (599 + 3 * k)))) (by omega) n
        rw [e] at hh
        first
          | (rw [if_pos ⟨c39, Int32.not_lt.mp c52⟩] at hh; exact hh)
          | (rw [if_neg (fun g => c39 g.1)] at hh; exact hh)
          | (rw [if_neg (fun g => absurd g.2 (Int32.not_le.mpr c52))] at hh; exact hh)
          | (rw [if_neg (fun g => absurd g.2 (by simpa using c52))] at hh; exact hh)
      · refine zj_iconst 33 (1) rfl rfl (by decide) ?_
        refine zj_aload_n 34 rfl rfl rfl ?_
        refine zj_get 35 rfl rfl mw_0 rfl ?_
        refine zj_iload 36 rfl rfl rfl ?_
        refine zn_iald 37 ((599) + (3 * k)) rfl rfl mw_1 rfl (by omega) (by decide) ?_
        refine zj_ishl 38 rfl rfl ?_
        refine zj_goto 39 rfl rfl ?_
        refine zj_ior 41 rfl rfl ?_
        refine zj_istore_n 42 rfl rfl ?_
        refine zn_iinc 43 (k) rfl rfl rfl rfl ?_
        refine zj_goto 44 rfl rfl ?_
        have e : pSBm (M.1 0) (k + 1) o night = pSBm (M.1 0) k o night ||| (if rHo (M.1 0) k = o ∧ rHn (M.1 0) k ≤ night then 1 <<< (rHs (M.1 0) k &&& 31) else 0) := rfl
        have hh := ih (m - 1) (by omega) (k + 1) (some (.int (nI (599 + 3 * k)))) (by omega) n
        rw [e] at hh
        first
          | (rw [if_pos ⟨c39, Int32.not_lt.mp c52⟩] at hh; exact hh)
          | (rw [if_neg (fun g => c39 g.1)] at hh; exact hh)
          | (rw [if_neg (fun g => absurd g.2 (Int32.not_le.mpr c52))] at hh; exact hh)
          | (rw [if_neg (fun g => absurd g.2 (by simpa using c52))] at hh; exact hh)
theorem k_sheetsBy (o night : Int32) (nh : Nat) (h : (M.1 0) 598 = nI nh) (hb : nh ≤ 60) : zM E YM_sheetsBy 1 [.ref a, .int o, .int night] (mw σ a M) (some (.int (pSBm (M.1 0) nh o night))) (mw σ a M) := by
  refine zM.of oM_sheetsBy (by decide +kernel) rfl rfl (fun n => ?_)
  refine zj_iconst 0 (0) rfl rfl (by decide) ?_
  refine zj_istore_n 1 rfl rfl ?_
  refine zj_iconst 2 (0) rfl rfl (by decide) ?_
  refine zj_istore 3 rfl rfl ?_
  exact l_sheetsBy o night nh h hb nh 0 _ (by omega) n
theorem l_shownBy (o night : Int32) (x : Int32) (ns : Nat) (h : (M.1 0) 549 = nI ns) (hb : ns ≤ 16) : ∀ (m : Nat) (k : Nat), (k + m = ns) → ∀ n, zB E YM_shownBy 2 n (some (.int (pLS (rSl (M.1 0)) x ns))) (mw σ a M) (mw σ a M) 13 [some (.ref a), some (.int o), some (.int night), some (.int x), some (.int (pLS (rSl (M.1 0)) x k)), some (.int (nI k))] [] := by
  intro m
  induction m using Nat.strongRecOn with
  | ind m ih =>
  intro k hk n
  refine zj_iload 9 rfl rfl rfl ?_
  refine zj_aload_n 10 rfl rfl rfl ?_
  refine zj_get 11 rfl rfl mw_0 rfl ?_
  refine zj_sipush 12 (549) rfl rfl (by decide) ?_
  refine zn_iald 13 (549) rfl rfl mw_1 rfl (by omega) (by decide) ?_
  refine zn_icmp_ge 14 (k) (ns) rfl rfl rfl h (by omega) (by omega) (fun c23 => ?_) (fun c23 => ?_)
  · refine zj_iload 32 rfl rfl rfl ?_
    refine zj_ireturn 33 rfl rfl rfl ?_
    obtain rfl : k = ns := by omega
    exact ⟨rfl, rfl, rfl⟩
  · refine zj_iload 15 rfl rfl rfl ?_
    refine zj_iload_n 16 rfl rfl rfl ?_
    refine zj_iload 17 rfl rfl rfl ?_
    refine zj_ishr 18 rfl rfl ?_
    refine zj_iconst 19 (1) rfl rfl (by decide) ?_
    refine zj_iand 20 rfl rfl ?_
    refine zj_iconst 21 (1) rfl rfl (by decide) ?_
    refine zj_icmp_ne 22 rfl rfl (fun c35 => ?_) (fun c35 => ?_)
    · refine zj_iconst 27 (0) rfl rfl (by decide) ?_
      refine zj_ior 28 rfl rfl ?_
      refine zj_istore 29 rfl rfl ?_
      refine zn_iinc 30 (k) rfl rfl rfl rfl ?_
      refine zj_goto 31 rfl rfl ?_
      have e : pLS (rSl (M.1 0)) x (k + 1) = pLS (rSl (M.1 0)) x k ||| (if zhas x (nI k) then rSl (M.1 0) k else 0) := rfl
      have hh := ih (m - 1) (by omega) (k + 1) (by omega) n
      rw [e] at hh
      first
        | (rw [if_pos ((zhas1_iff _ _).mp c35)] at hh; exact hh)
        | (rw [if_neg (fun g => c35 ((zhas1_iff _ _).mpr g))] at hh; exact hh)
    · refine zj_aload_n 23 rfl rfl rfl ?_
      refine zj_iload 24 rfl rfl rfl ?_
      refine zj_cvx 25 rfl rfl lk_8_207 ckM_linesOf (k_linesOf _ (by omega)) rfl mw_0 rfl rfl rfl ?_
      refine zj_goto 26 rfl rfl ?_
      refine zj_ior 28 rfl rfl ?_
      refine zj_istore 29 rfl rfl ?_
      refine zn_iinc 30 (k) rfl rfl rfl rfl ?_
      refine zj_goto 31 rfl rfl ?_
      have e : pLS (rSl (M.1 0)) x (k + 1) = pLS (rSl (M.1 0)) x k ||| (if zhas x (nI k) then rSl (M.1 0) k else 0) := rfl
      have hh := ih (m - 1) (by omega) (k + 1) (by omega) n
      rw [e] at hh
      first
        | (rw [if_pos ((zhas1_iff _ _).mp c35)] at hh; exact hh)
        | (rw [if_neg (fun g => c35 ((zhas1_iff _ _).mpr g))] at hh; exact hh)
theorem k_shownBy (o night : Int32) (nh ns : Nat) (h : (M.1 0) 598 = nI nh) (hb : nh ≤ 60) (h2 : (M.1 0) 549 = nI ns) (hb2 : ns ≤ 16) : zM E YM_shownBy 2 [.ref a, .int o, .int night] (mw σ a M) (some (.int (pSHm (M.1 0) nh ns o night))) (mw σ a M) := by
  refine zM.of oM_shownBy (by decide +kernel) rfl rfl (fun n => ?_)
  refine zj_aload_n 0 rfl rfl rfl ?_
  refine zj_iload_n 1 rfl rfl rfl ?_
  refine zj_iload_n 2 rfl rfl rfl ?_
  refine zj_cvx 3 rfl rfl lk_8_204 ckM_sheetsBy (k_sheetsBy _ _ nh h hb) rfl mw_0 rfl rfl rfl ?_
  refine zj_istore_n 4 rfl rfl ?_
  refine zj_iconst 5 (0) rfl rfl (by decide) ?_
  refine zj_istore 6 rfl rfl ?_
  refine zj_iconst 7 (0) rfl rfl (by decide) ?_
  refine zj_istore 8 rfl rfl ?_
  exact l_shownBy o night _ ns h2 hb2 ns 0 (by omega) n
theorem k_shownFor (s : Nat) (hs : s < 80) (nh ns : Nat) (h : (M.1 0) 598 = nI nh) (hb : nh ≤ 60) (h2 : (M.1 0) 549 = nI ns) (hb2 : ns ≤ 16) : zM E YM_shownFor 3 [.ref a, .int (nI s)] (mw σ a M) (some (.int (pSHm (M.1 0) nh ns (rSo (M.1 0) s) (rSn (M.1 0) s)))) (mw σ a M) := by
  refine zM.of oM_shownFor (by decide +kernel) rfl rfl (fun n => ?_)
  refine zj_aload_n 0 rfl rfl rfl ?_
  refine zj_aload_n 1 rfl rfl rfl ?_
  refine zj_iload_n 2 rfl rfl rfl ?_
  refine zj_cvx 3 rfl rfl lk_8_216 ckM_observerOf (k_observerOf _ (by omega)) rfl mw_0 rfl rfl rfl ?_
  refine zj_aload_n 4 rfl rfl rfl ?_
  refine zj_iload_n 5 rfl rfl rfl ?_
  refine zj_cvx 6 rfl rfl lk_8_192 ckM_nightOf (k_nightOf _ (by omega)) rfl mw_0 rfl rfl rfl ?_
  refine zj_cvx 7 rfl rfl lk_8_210 ckM_shownBy (k_shownBy _ _ nh ns h hb h2 hb2) rfl mw_0 rfl rfl rfl ?_
  refine zj_ireturn 8 rfl rfl rfl ?_
  exact ⟨rfl, rfl, rfl⟩
theorem k_isNext (o night : Int32) (no ns : Nat) (h : (M.1 0) 532 = nI no) (hb : no ≤ 8) (h2 : (M.1 0) 549 = nI ns) (hb2 : ns ≤ 16) : zM E YM_isNext 3 [.ref a, .int o, .int night] (mw σ a M) (some (.int (zo (zr o no ∧ pLast (rSn (M.1 0)) ns ≤ night.toInt ∧ night.toInt ≤ 999)))) (mw σ a M) := by
  refine zM.of oM_isNext (by decide +kernel) rfl rfl (fun n => ?_)
  refine zj_aload_n 0 rfl rfl rfl ?_
  refine zj_get 1 rfl rfl mw_0 rfl ?_
  refine zj_sipush 2 (549) rfl rfl (by decide) ?_
  refine zn_iald 3 (549) rfl rfl mw_1 rfl (by omega) (by decide) ?_
  refine zj_istore_n 4 rfl rfl ?_
  refine zj_aload_n 5 rfl rfl rfl ?_
  refine zj_iload_n 6 rfl rfl rfl ?_
  refine zj_cvx 7 rfl rfl lk_8_189 ckM_isObserver (k_isObserver _ no h (by omega)) rfl mw_0 rfl rfl rfl ?_
  refine zj_if_eq 8 rfl rfl (fun c14 => ?_) (fun c14 => ?_)
  · refine zj_iconst 26 (0) rfl rfl (by decide) ?_
    refine zj_zreturn 27 rfl rfl rfl rfl ?_
    first
      | exact ⟨zrt (zo_f (fun g => zo_0.mp c14 g.1)), rfl, rfl⟩
      | (refine ⟨zrt ?_, rfl, rfl⟩
         first
           | (refine zo_t ⟨zo_n0.mp c14, ?_⟩
              have g := zo_n0.mp c41
              rw [zl0] at g
              simp only [pLast]
              first
                | (rw [if_neg (by omega)]; rw [zl0] at g; exact g)
                | (rw [if_pos hz]; exact g))
           | (refine zo_f (fun g0 => zo_0.mp c41 ?_)
              have g := g0.2
              rw [zl0]
              simp only [pLast] at g
              first
                | (rw [if_neg (by omega)] at g; rw [zl0]; exact g)
                | (rw [if_pos hz] at g; exact g)))
  · refine zj_iload_n 9 rfl rfl rfl ?_
    refine zj_i2l 10 rfl rfl ?_
    refine zj_iload_n 11 rfl rfl rfl ?_
    rw [h2]
    refine zj_if_le 12 rfl rfl (fun c20 => ?_) (fun c20 => ?_)
    · have hz : ns = 0 := by
        rcases Nat.eq_zero_or_pos ns with e | e
        · exact e
        · exact absurd c20 (nI_nle e (by omega))
      refine zj_lconst 20 (0) rfl rfl (by decide) ?_
      refine zj_ldc2 21 (999) rfl rfl (by decide) ?_
      refine zj_csx 22 rfl rfl lk_8_51 ckM_in (k_in _ _ _) rfl rfl rfl rfl ?_
      refine zj_if_eq 23 rfl rfl (fun c41 => ?_) (fun c41 => ?_)
      · refine zj_iconst 26 (0) rfl rfl (by decide) ?_
        refine zj_zreturn 27 rfl rfl rfl rfl ?_
        first
          | exact ⟨zrt (zo_f (fun g => zo_0.mp c14 g.1)), rfl, rfl⟩
          | (refine ⟨zrt ?_, rfl, rfl⟩
             first
               | (refine zo_t ⟨zo_n0.mp c14, ?_⟩
                  have g := zo_n0.mp c41
                  rw [zl0] at g
                  simp only [pLast]
                  first
                    | (rw [if_neg (by omega)]; rw [zl0] at g; exact g)
                    | (rw [if_pos hz]; exact g))
               | (refine zo_f (fun g0 => zo_0.mp c41 ?_)
                  have g := g0.2
                  rw [zl0]
                  simp only [pLast] at g
                  first
                    | (rw [if_neg (by omega)] at g; rw [zl0]; exact g)
                    | (rw [if_pos hz] at g; exact g)))
      · refine zj_iconst 24 (1) rfl rfl (by decide) ?_
        refine zj_goto 25 rfl rfl ?_
        refine zj_zreturn 27 rfl rfl rfl rfl ?_
        first
          | exact ⟨zrt (zo_f (fun g => zo_0.mp c14 g.1)), rfl, rfl⟩
          | (refine ⟨zrt ?_, rfl, rfl⟩
             first
               | (refine zo_t ⟨zo_n0.mp c14, ?_⟩
                  have g := zo_n0.mp c41
                  rw [zl0] at g
                  simp only [pLast]
                  first
                    | (rw [if_neg (by omega)]; rw [zl0] at g; exact g)
                    | (rw [if_pos hz]; exact g))
               | (refine zo_f (fun g0 => zo_0.mp c41 ?_)
                  have g := g0.2
                  rw [zl0]
                  simp only [pLast] at g
                  first
                    | (rw [if_neg (by omega)] at g; rw [zl0]; exact g)
                    | (rw [if_pos hz] at g; exact g)))
    · refine zj_aload_n 13 rfl rfl rfl ?_
      have hpos : 0 < ns := by
        rcases Nat.eq_zero_or_pos ns with e | e
        · subst e; exact absurd (show (nI 0 : Int32) ≤ 0 by decide) c20
        · exact e
      refine zj_iload_n 14 rfl rfl rfl ?_
      refine zj_iconst 15 (1) rfl rfl (by decide) ?_
      refine zn_isub 16 (ns) (1) rfl rfl rfl rfl (by omega) ?_
      refine zj_cvx 17 rfl rfl lk_8_192 ckM_nightOf (k_nightOf (ns - 1) (by omega)) rfl mw_0 rfl rfl rfl ?_
      refine zj_i2l 18 rfl rfl ?_
      refine zj_goto 19 rfl rfl ?_
      refine zj_ldc2 21 (999) rfl rfl (by decide) ?_
      refine zj_csx 22 rfl rfl lk_8_51 ckM_in (k_in _ _ _) rfl rfl rfl rfl ?_
      refine zj_if_eq 23 rfl rfl (fun c41 => ?_) (fun c41 => ?_)
      · refine zj_iconst 26 (0) rfl rfl (by decide) ?_
        refine zj_zreturn 27 rfl rfl rfl rfl ?_
        first
          | exact ⟨zrt (zo_f (fun g => zo_0.mp c14 g.1)), rfl, rfl⟩
          | (refine ⟨zrt ?_, rfl, rfl⟩
             first
               | (refine zo_t ⟨zo_n0.mp c14, ?_⟩
                  have g := zo_n0.mp c41
                  rw [zl0] at g
                  simp only [pLast]
                  first
                    | (rw [if_neg (by omega)]; rw [zl0] at g; exact g)
                    | (rw [if_pos hz]; exact g))
               | (refine zo_f (fun g0 => zo_0.mp c41 ?_)
                  have g := g0.2
                  rw [zl0]
                  simp only [pLast] at g
                  first
                    | (rw [if_neg (by omega)] at g; rw [zl0]; exact g)
                    | (rw [if_pos hz] at g; exact g)))
      · refine zj_iconst 24 (1) rfl rfl (by decide) ?_
        refine zj_goto 25 rfl rfl ?_
        refine zj_zreturn 27 rfl rfl rfl rfl ?_
        first
          | exact ⟨zrt (zo_f (fun g => zo_0.mp c14 g.1)), rfl, rfl⟩
          | (refine ⟨zrt ?_, rfl, rfl⟩
             first
               | (refine zo_t ⟨zo_n0.mp c14, ?_⟩
                  have g := zo_n0.mp c41
                  rw [zl0] at g
                  simp only [pLast]
                  first
                    | (rw [if_neg (by omega)]; rw [zl0] at g; exact g)
                    | (rw [if_pos hz]; exact g))
               | (refine zo_f (fun g0 => zo_0.mp c41 ?_)
                  have g := g0.2
                  rw [zl0]
                  simp only [pLast] at g
                  first
                    | (rw [if_neg (by omega)] at g; rw [zl0]; exact g)
                    | (rw [if_pos hz] at g; exact g)))
end
end
section
/-! the reference: sheets made and told, observers, guesses, counts -/
theorem va_up_ne' {α : Type} {f : Nat → α} {k j : Nat} {x : α} (h : j ≠ k) : va_up f k x j = f j := by simp [va_up, h]
section
variable {E : zE} {σ : zH} {a : Nat} {M : zMo}
theorem k_addSheet (o night lines : Int32) (ns : Nat) (h2 : M.1 0 549 = nI ns) (hb2 : ns < 16) : zM E YM_addSheet 1 [.ref a, .int o, .int night, .int lines] (mw σ a M) (some (.int (nI ns))) (mw σ a (M.sA 0 (va_up (va_up (va_up (va_up (M.1 0) (550 + 3 * ns) lines) (551 + 3 * ns) o) (552 + 3 * ns) night) 549 (nI (ns + 1))))) := by
  refine zM.of oM_addSheet (by decide +kernel) rfl rfl (fun n => ?_)
  refine zj_aload_n 0 rfl rfl rfl ?_
  refine zj_get 1 rfl rfl mw_0 rfl ?_
  refine zj_sipush 2 (549) rfl rfl (by decide) ?_
  refine zn_iald 3 (549) rfl rfl mw_1 rfl (by omega) (by decide) ?_
  refine zj_istore 4 rfl rfl ?_
  refine zj_aload_n 5 rfl rfl rfl ?_
  refine zj_get 6 rfl rfl mw_0 rfl ?_
  refine zj_sipush 7 (550) rfl rfl (by decide) ?_
  refine zj_iconst 8 (3) rfl rfl (by decide) ?_
  refine zj_iload 9 rfl rfl rfl ?_
  refine zn_imul 10 (3) (ns) rfl rfl rfl h2 ?_
  refine zn_iadd 11 (550) (3 * ns) rfl rfl rfl rfl ?_
  refine zj_iload_n 12 rfl rfl rfl ?_
  refine zn_iast 13 ((550) + (3 * ns)) rfl rfl mw_1 rfl (by omega) (by decide) mw_u1 ?_
  refine zj_aload_n 14 rfl rfl rfl ?_
  refine zj_get 15 rfl rfl mw_0 rfl ?_
  refine zj_sipush 16 (551) rfl rfl (by decide) ?_
  refine zj_iconst 17 (3) rfl rfl (by decide) ?_
  refine zj_iload 18 rfl rfl rfl ?_
  refine zn_imul 19 (3) (ns) rfl rfl rfl h2 ?_
  refine zn_iadd 20 (551) (3 * ns) rfl rfl rfl rfl ?_
  refine zj_iload_n 21 rfl rfl rfl ?_
  refine zn_iast 22 ((551) + (3 * ns)) rfl rfl mw_1 rfl (by omega) (by decide) mw_u1 ?_
  refine zj_aload_n 23 rfl rfl rfl ?_
  refine zj_get 24 rfl rfl mw_0 rfl ?_
  refine zj_sipush 25 (552) rfl rfl (by decide) ?_
  refine zj_iconst 26 (3) rfl rfl (by decide) ?_
  refine zj_iload 27 rfl rfl rfl ?_
  refine zn_imul 28 (3) (ns) rfl rfl rfl h2 ?_
  refine zn_iadd 29 (552) (3 * ns) rfl rfl rfl rfl ?_
  refine zj_iload_n 30 rfl rfl rfl ?_
  refine zn_iast 31 ((552) + (3 * ns)) rfl rfl mw_1 rfl (by omega) (by decide) mw_u1 ?_
  refine zj_aload_n 32 rfl rfl rfl ?_
  refine zj_get 33 rfl rfl mw_0 rfl ?_
  refine zj_sipush 34 (549) rfl rfl (by decide) ?_
  refine zj_dup2 35 rfl rfl rfl rfl ?_
  refine zn_iald 36 (549) rfl rfl mw_1 rfl (by omega) (by decide) ?_
  refine zj_iconst 37 (1) rfl rfl (by decide) ?_
  refine zn_iadd 38 (ns) (1) rfl rfl (by simp [va_up, show ¬ (549 = 550 + 3 * ns) by omega, show ¬ (549 = 551 + 3 * ns) by omega, show ¬ (549 = 552 + 3 * ns) by omega, h2]) rfl ?_
  refine zn_iast 39 (549) rfl rfl mw_1 rfl (by omega) (by decide) mw_u1 ?_
  refine zj_iload 40 rfl rfl rfl ?_
  refine zj_ireturn 41 rfl rfl rfl ?_
  rw [h2]
  exact ⟨rfl, rfl, by simp only [zMo.sA_sA]; rfl⟩
theorem k_Mobserver (l w no : Nat) (hl : l < 4) (hw : w < 10) (h : M.1 0 532 = nI no) (hb : no < 8) : zM E YM_observer 3 [.ref a, .int (nI l), .int (nI w)] (mw σ a M) (some (.int (nI no))) (mw σ a (M.sA 0 (va_up (va_up (va_up (M.1 0) (533 + 2 * no) (nI l)) (534 + 2 * no) (nI w)) 532 (nI (no + 1))))) := by
  refine zM.of oM_observer (by decide +kernel) rfl rfl (fun n => ?_)
  refine zj_iload_n 0 rfl rfl rfl ?_
  refine zj_csx 1 rfl rfl lk_8_57 ckM_isFour (k_isFour _) rfl rfl rfl rfl ?_
  refine zj_if_eq 2 rfl rfl (fun c4 => ?_) (fun c4 => ?_)
  · exact absurd (zr_of (n := 4) (by omega) (by decide)) (zo_0.mp c4)
  · refine zj_iload_n 3 rfl rfl rfl ?_
    refine zj_i2l 4 rfl rfl ?_
    refine zj_lconst 5 (0) rfl rfl (by decide) ?_
    refine zj_ldc2 6 (9) rfl rfl (by decide) ?_
    refine zj_csx 7 rfl rfl lk_8_51 ckM_in (k_in0 _ _ 10 (by decide)) rfl rfl rfl rfl ?_
    refine zj_if_ne 8 rfl rfl (fun c16 => ?_) (fun c16 => ?_)
    · refine zj_aload_n 11 rfl rfl rfl ?_
      refine zj_get 12 rfl rfl mw_0 rfl ?_
      refine zj_sipush 13 (532) rfl rfl (by decide) ?_
      refine zn_iald 14 (532) rfl rfl mw_1 rfl (by omega) (by decide) ?_
      refine zj_istore_n 15 rfl rfl ?_
      refine zj_iload_n 16 rfl rfl rfl ?_
      refine zj_bipush 17 (8) rfl rfl (by decide) ?_
      refine zn_icmp_ne 18 (no) (8) rfl rfl h rfl (by omega) (by omega) (fun c34 => ?_) (fun c34 => ?_)
      · refine zj_aload_n 21 rfl rfl rfl ?_
        refine zj_get 22 rfl rfl mw_0 rfl ?_
        refine zj_sipush 23 (533) rfl rfl (by decide) ?_
        refine zj_iconst 24 (2) rfl rfl (by decide) ?_
        refine zj_iload_n 25 rfl rfl rfl ?_
        refine zn_imul 26 (2) (no) rfl rfl rfl h ?_
        refine zn_iadd 27 (533) (2 * no) rfl rfl rfl rfl ?_
        refine zj_iload_n 28 rfl rfl rfl ?_
        refine zn_iast 29 ((533) + (2 * no)) rfl rfl mw_1 rfl (by omega) (by decide) mw_u1 ?_
        refine zj_aload_n 30 rfl rfl rfl ?_
        refine zj_get 31 rfl rfl mw_0 rfl ?_
        refine zj_sipush 32 (534) rfl rfl (by decide) ?_
        refine zj_iconst 33 (2) rfl rfl (by decide) ?_
        refine zj_iload_n 34 rfl rfl rfl ?_
        refine zn_imul 35 (2) (no) rfl rfl rfl h ?_
        refine zn_iadd 36 (534) (2 * no) rfl rfl rfl rfl ?_
        refine zj_iload_n 37 rfl rfl rfl ?_
        refine zn_iast 38 ((534) + (2 * no)) rfl rfl mw_1 rfl (by omega) (by decide) mw_u1 ?_
        refine zj_aload_n 39 rfl rfl rfl ?_
        refine zj_get 40 rfl rfl mw_0 rfl ?_
        refine zj_sipush 41 (532) rfl rfl (by decide) ?_
        refine zj_dup2 42 rfl rfl rfl rfl ?_
        refine zn_iald 43 (532) rfl rfl mw_1 rfl (by omega) (by decide) ?_
        refine zj_iconst 44 (1) rfl rfl (by decide) ?_
        refine zn_iadd 45 (no) (1) rfl rfl (by simp [va_up, show ¬ (532 = 533 + 2 * no) by omega, show ¬ (532 = 534 + 2 * no) by omega, h]) rfl ?_
        refine zn_iast 46 (532) rfl rfl mw_1 rfl (by omega) (by decide) mw_u1 ?_
        refine zj_iload_n 47 rfl rfl rfl ?_
        refine zj_ireturn 48 rfl rfl rfl ?_
        rw [h]
        exact ⟨rfl, rfl, by simp only [zMo.sA_sA]; rfl⟩
      · exact absurd c34 (by omega)
    · exact absurd (zr_of (n := 10) (by omega) (by decide)) (zo_0.mp c16)
theorem k_Mobserver_full (l w : Nat) (hl : l < 4) (hw : w < 10) (h : M.1 0 532 = nI 8) : zM E YM_observer 3 [.ref a, .int (nI l), .int (nI w)] (mw σ a M) (some (.int (-4))) (mw σ a M) := by
  refine zM.of oM_observer (by decide +kernel) rfl rfl (fun n => ?_)
  refine zj_iload_n 0 rfl rfl rfl ?_
  refine zj_csx 1 rfl rfl lk_8_57 ckM_isFour (k_isFour _) rfl rfl rfl rfl ?_
  refine zj_if_eq 2 rfl rfl (fun c4 => ?_) (fun c4 => ?_)
  · exact absurd (zr_of (n := 4) (by omega) (by decide)) (zo_0.mp c4)
  · refine zj_iload_n 3 rfl rfl rfl ?_
    refine zj_i2l 4 rfl rfl ?_
    refine zj_lconst 5 (0) rfl rfl (by decide) ?_
    refine zj_ldc2 6 (9) rfl rfl (by decide) ?_
    refine zj_csx 7 rfl rfl lk_8_51 ckM_in (k_in0 _ _ 10 (by decide)) rfl rfl rfl rfl ?_
    refine zj_if_ne 8 rfl rfl (fun c16 => ?_) (fun c16 => ?_)
    · refine zj_aload_n 11 rfl rfl rfl ?_
      refine zj_get 12 rfl rfl mw_0 rfl ?_
      refine zj_sipush 13 (532) rfl rfl (by decide) ?_
      refine zn_iald 14 (532) rfl rfl mw_1 rfl (by omega) (by decide) ?_
      refine zj_istore_n 15 rfl rfl ?_
      refine zj_iload_n 16 rfl rfl rfl ?_
      refine zj_bipush 17 (8) rfl rfl (by decide) ?_
      refine zn_icmp_ne 18 (8) (8) rfl rfl h rfl (by omega) (by omega) (fun c34 => ?_) (fun c34 => ?_)
      · exact absurd c34 (by decide)
      · refine zj_bipush 19 (-4) rfl rfl (by decide) ?_
        refine zj_ireturn 20 rfl rfl rfl ?_
        exact ⟨rfl, rfl, rfl⟩
    · exact absurd (zr_of (n := 10) (by omega) (by decide)) (zo_0.mp c16)
theorem k_Mobserver_bad (l w : Int32) (hb : ¬ (zr l 4 ∧ zr w 10)) : zM E YM_observer 3 [.ref a, .int l, .int w] (mw σ a M) (some (.int (-2))) (mw σ a M) := by
  refine zM.of oM_observer (by decide +kernel) rfl rfl (fun n => ?_)
  refine zj_iload_n 0 rfl rfl rfl ?_
  refine zj_csx 1 rfl rfl lk_8_57 ckM_isFour (k_isFour _) rfl rfl rfl rfl ?_
  refine zj_if_eq 2 rfl rfl (fun c4 => ?_) (fun c4 => ?_)
  · refine zj_bipush 9 (-2) rfl rfl (by decide) ?_
    refine zj_ireturn 10 rfl rfl rfl ?_
    exact ⟨rfl, rfl, rfl⟩
  · refine zj_iload_n 3 rfl rfl rfl ?_
    refine zj_i2l 4 rfl rfl ?_
    refine zj_lconst 5 (0) rfl rfl (by decide) ?_
    refine zj_ldc2 6 (9) rfl rfl (by decide) ?_
    refine zj_csx 7 rfl rfl lk_8_51 ckM_in (k_in0 _ _ 10 (by decide)) rfl rfl rfl rfl ?_
    refine zj_if_ne 8 rfl rfl (fun c16 => ?_) (fun c16 => ?_)
    · exact absurd ⟨zo_n0.mp c4, zo_n0.mp c16⟩ hb
    · refine zj_bipush 9 (-2) rfl rfl (by decide) ?_
      refine zj_ireturn 10 rfl rfl rfl ?_
      exact ⟨rfl, rfl, rfl⟩
theorem k_Mguess (w l g ng : Nat) (hw : w < 4) (hl : l < 4) (hg : g < 4) (h : M.1 0 780 = nI ng) (hb : ng < 12) : zM E YM_guess 3 [.ref a, .int (nI w), .int (nI l), .int (nI g)] (mw σ a M) (some (.int (nI ng))) (mw σ a (M.sA 0 (va_up (va_up (va_up (va_up (M.1 0) (781 + 3 * ng) (nI w)) (782 + 3 * ng) (nI l)) (783 + 3 * ng) (nI g)) 780 (nI (ng + 1))))) := by
  refine zM.of oM_guess (by decide +kernel) rfl rfl (fun n => ?_)
  refine zj_iload_n 0 rfl rfl rfl ?_
  refine zj_csx 1 rfl rfl lk_8_57 ckM_isFour (k_isFour _) rfl rfl rfl rfl ?_
  refine zj_if_eq 2 rfl rfl (fun c4 => ?_) (fun c4 => ?_)
  · exact absurd (zr_of (n := 4) (by omega) (by decide)) (zo_0.mp c4)
  · refine zj_iload_n 3 rfl rfl rfl ?_
    refine zj_csx 4 rfl rfl lk_8_57 ckM_isFour (k_isFour _) rfl rfl rfl rfl ?_
    refine zj_if_eq 5 rfl rfl (fun c11 => ?_) (fun c11 => ?_)
    · exact absurd (zr_of (n := 4) (by omega) (by decide)) (zo_0.mp c11)
    · refine zj_iload_n 6 rfl rfl rfl ?_
      refine zj_csx 7 rfl rfl lk_8_57 ckM_isFour (k_isFour _) rfl rfl rfl rfl ?_
      refine zj_if_ne 8 rfl rfl (fun c18 => ?_) (fun c18 => ?_)
      · refine zj_aload_n 11 rfl rfl rfl ?_
        refine zj_get 12 rfl rfl mw_0 rfl ?_
        refine zj_sipush 13 (780) rfl rfl (by decide) ?_
        refine zn_iald 14 (780) rfl rfl mw_1 rfl (by omega) (by decide) ?_
        refine zj_istore 15 rfl rfl ?_
        refine zj_iload 16 rfl rfl rfl ?_
        refine zj_bipush 17 (12) rfl rfl (by decide) ?_
        refine zn_icmp_ne 18 (ng) (12) rfl rfl h rfl (by omega) (by omega) (fun c38 => ?_) (fun c38 => ?_)
        · refine zj_aload_n 21 rfl rfl rfl ?_
          refine zj_get 22 rfl rfl mw_0 rfl ?_
          refine zj_sipush 23 (781) rfl rfl (by decide) ?_
          refine zj_iconst 24 (3) rfl rfl (by decide) ?_
          refine zj_iload 25 rfl rfl rfl ?_
          refine zn_imul 26 (3) (ng) rfl rfl rfl h ?_
          refine zn_iadd 27 (781) (3 * ng) rfl rfl rfl rfl ?_
          refine zj_iload_n 28 rfl rfl rfl ?_
          refine zn_iast 29 ((781) + (3 * ng)) rfl rfl mw_1 rfl (by omega) (by decide) mw_u1 ?_
          refine zj_aload_n 30 rfl rfl rfl ?_
          refine zj_get 31 rfl rfl mw_0 rfl ?_
          refine zj_sipush 32 (782) rfl rfl (by decide) ?_
          refine zj_iconst 33 (3) rfl rfl (by decide) ?_
          refine zj_iload 34 rfl rfl rfl ?_
          refine zn_imul 35 (3) (ng) rfl rfl rfl h ?_
          refine zn_iadd 36 (782) (3 * ng) rfl rfl rfl rfl ?_
          refine zj_iload_n 37 rfl rfl rfl ?_
          refine zn_iast 38 ((782) + (3 * ng)) rfl rfl mw_1 rfl (by omega) (by decide) mw_u1 ?_
          refine zj_aload_n 39 rfl rfl rfl ?_
          refine zj_get 40 rfl rfl mw_0 rfl ?_
          refine zj_sipush 41 (783) rfl rfl (by decide) ?_
          refine zj_iconst 42 (3) rfl rfl (by decide) ?_
          refine zj_iload 43 rfl rfl rfl ?_
          refine zn_imul 44 (3) (ng) rfl rfl rfl h ?_
          refine zn_iadd 45 (783) (3 * ng) rfl rfl rfl rfl ?_
          refine zj_iload_n 46 rfl rfl rfl ?_
          refine zn_iast 47 ((783) + (3 * ng)) rfl rfl mw_1 rfl (by omega) (by decide) mw_u1 ?_
          refine zj_aload_n 48 rfl rfl rfl ?_
          refine zj_get 49 rfl rfl mw_0 rfl ?_
          refine zj_sipush 50 (780) rfl rfl (by decide) ?_
          refine zj_dup2 51 rfl rfl rfl rfl ?_
          refine zn_iald 52 (780) rfl rfl mw_1 rfl (by omega) (by decide) ?_
          refine zj_iconst 53 (1) rfl rfl (by decide) ?_
          refine zn_iadd 54 (ng) (1) rfl rfl (by simp [va_up, show ¬ (780 = 781 + 3 * ng) by omega, show ¬ (780 = 782 + 3 * ng) by omega, show ¬ (780 = 783 + 3 * ng) by omega, h]) rfl ?_
          refine zn_iast 55 (780) rfl rfl mw_1 rfl (by omega) (by decide) mw_u1 ?_
          refine zj_iload 56 rfl rfl rfl ?_
          refine zj_ireturn 57 rfl rfl rfl ?_
          rw [h]
          exact ⟨rfl, rfl, by simp only [zMo.sA_sA]; rfl⟩
        · exact absurd c38 (by omega)
      · exact absurd (zr_of (n := 4) (by omega) (by decide)) (zo_0.mp c18)
theorem k_Mguess_full (w l g : Nat) (hw : w < 4) (hl : l < 4) (hg : g < 4) (h : M.1 0 780 = nI 12) : zM E YM_guess 3 [.ref a, .int (nI w), .int (nI l), .int (nI g)] (mw σ a M) (some (.int (-4))) (mw σ a M) := by
  refine zM.of oM_guess (by decide +kernel) rfl rfl (fun n => ?_)
  refine zj_iload_n 0 rfl rfl rfl ?_
  refine zj_csx 1 rfl rfl lk_8_57 ckM_isFour (k_isFour _) rfl rfl rfl rfl ?_
  refine zj_if_eq 2 rfl rfl (fun c4 => ?_) (fun c4 => ?_)
  · exact absurd (zr_of (n := 4) (by omega) (by decide)) (zo_0.mp c4)
  · refine zj_iload_n 3 rfl rfl rfl ?_
    refine zj_csx 4 rfl rfl lk_8_57 ckM_isFour (k_isFour _) rfl rfl rfl rfl ?_
    refine zj_if_eq 5 rfl rfl (fun c11 => ?_) (fun c11 => ?_)
    · exact absurd (zr_of (n := 4) (by omega) (by decide)) (zo_0.mp c11)
    · refine zj_iload_n 6 rfl rfl rfl ?_
      refine zj_csx 7 rfl rfl lk_8_57 ckM_isFour (k_isFour _) rfl rfl rfl rfl ?_
      refine zj_if_ne 8 rfl rfl (fun c18 => ?_) (fun c18 => ?_)
      · refine zj_aload_n 11 rfl rfl rfl ?_
        refine zj_get 12 rfl rfl mw_0 rfl ?_
        refine zj_sipush 13 (780) rfl rfl (by decide) ?_
        refine zn_iald 14 (780) rfl rfl mw_1 rfl (by omega) (by decide) ?_
        refine zj_istore 15 rfl rfl ?_
        refine zj_iload 16 rfl rfl rfl ?_
        refine zj_bipush 17 (12) rfl rfl (by decide) ?_
        refine zn_icmp_ne 18 (12) (12) rfl rfl h rfl (by omega) (by omega) (fun c38 => ?_) (fun c38 => ?_)
        · exact absurd c38 (by decide)
        · refine zj_bipush 19 (-4) rfl rfl (by decide) ?_
          refine zj_ireturn 20 rfl rfl rfl ?_
          exact ⟨rfl, rfl, rfl⟩
      · exact absurd (zr_of (n := 4) (by omega) (by decide)) (zo_0.mp c18)
theorem k_Mguess_bad (w l g : Int32) (hb : ¬ (zr w 4 ∧ zr l 4 ∧ zr g 4)) : zM E YM_guess 3 [.ref a, .int w, .int l, .int g] (mw σ a M) (some (.int (-2))) (mw σ a M) := by
  refine zM.of oM_guess (by decide +kernel) rfl rfl (fun n => ?_)
  refine zj_iload_n 0 rfl rfl rfl ?_
  refine zj_csx 1 rfl rfl lk_8_57 ckM_isFour (k_isFour _) rfl rfl rfl rfl ?_
  refine zj_if_eq 2 rfl rfl (fun c4 => ?_) (fun c4 => ?_)
  · refine zj_bipush 9 (-2) rfl rfl (by decide) ?_
    refine zj_ireturn 10 rfl rfl rfl ?_
    exact ⟨rfl, rfl, rfl⟩
  · refine zj_iload_n 3 rfl rfl rfl ?_
    refine zj_csx 4 rfl rfl lk_8_57 ckM_isFour (k_isFour _) rfl rfl rfl rfl ?_
    refine zj_if_eq 5 rfl rfl (fun c11 => ?_) (fun c11 => ?_)
    · refine zj_bipush 9 (-2) rfl rfl (by decide) ?_
      refine zj_ireturn 10 rfl rfl rfl ?_
      exact ⟨rfl, rfl, rfl⟩
    · refine zj_iload_n 6 rfl rfl rfl ?_
      refine zj_csx 7 rfl rfl lk_8_57 ckM_isFour (k_isFour _) rfl rfl rfl rfl ?_
      refine zj_if_ne 8 rfl rfl (fun c18 => ?_) (fun c18 => ?_)
      · exact absurd ⟨zo_n0.mp c4, zo_n0.mp c11, zo_n0.mp c18⟩ hb
      · refine zj_bipush 9 (-2) rfl rfl (by decide) ?_
        refine zj_ireturn 10 rfl rfl rfl ?_
        exact ⟨rfl, rfl, rfl⟩
theorem k_Msheet (o night lines : Int32) (no ns : Nat) (h : M.1 0 532 = nI no) (hb : no ≤ 8) (h2 : M.1 0 549 = nI ns) (hb2 : ns ≤ 16) (hv : zr o no ∧ pLast (rSn (M.1 0)) ns ≤ night.toInt ∧ night.toInt ≤ 999) (hli : zr lines 268435456) (hns : ns < 16) : zM E YM_sheet 4 [.ref a, .int o, .int night, .int lines] (mw σ a M) (some (.int (nI ns))) (mw σ a (M.sA 0 (va_up (va_up (va_up (va_up (M.1 0) (550 + 3 * ns) lines) (551 + 3 * ns) o) (552 + 3 * ns) night) 549 (nI (ns + 1))))) := by
  refine zM.of oM_sheet (by decide +kernel) rfl rfl (fun n => ?_)
  refine zj_aload_n 0 rfl rfl rfl ?_
  refine zj_iload_n 1 rfl rfl rfl ?_
  refine zj_iload_n 2 rfl rfl rfl ?_
  refine zj_cvx 3 rfl rfl lk_8_197 ckM_isNext (k_isNext _ _ no ns h hb h2 hb2) rfl mw_0 rfl rfl rfl ?_
  refine zj_if_eq 4 rfl rfl (fun c6 => ?_) (fun c6 => ?_)
  · exact absurd hv (zo_0.mp c6)
  · refine zj_iload_n 5 rfl rfl rfl ?_
    refine zj_csx 6 rfl rfl lk_8_174 ckM_isLines (k_isLines _) rfl rfl rfl rfl ?_
    refine zj_if_ne 7 rfl rfl (fun c13 => ?_) (fun c13 => ?_)
    · refine zj_aload_n 10 rfl rfl rfl ?_
      refine zj_get 11 rfl rfl mw_0 rfl ?_
      refine zj_sipush 12 (549) rfl rfl (by decide) ?_
      refine zn_iald 13 (549) rfl rfl mw_1 rfl (by omega) (by decide) ?_
      refine zj_bipush 14 (16) rfl rfl (by decide) ?_
      refine zn_icmp_ne 15 (ns) (16) rfl rfl h2 rfl (by omega) (by omega) (fun c29 => ?_) (fun c29 => ?_)
      · refine zj_aload_n 18 rfl rfl rfl ?_
        refine zj_iload_n 19 rfl rfl rfl ?_
        refine zj_iload_n 20 rfl rfl rfl ?_
        refine zj_iload_n 21 rfl rfl rfl ?_
        refine zj_cvx 22 rfl rfl lk_8_201 ckM_addSheet (k_addSheet _ _ _ ns h2 hns) rfl mw_0 rfl rfl rfl ?_
        refine zj_ireturn 23 rfl rfl rfl ?_
        exact ⟨rfl, rfl, rfl⟩
      · exact absurd c29 (by omega)
    · exact absurd hli (zo_0.mp c13)
theorem k_Msheet_full (o night lines : Int32) (no : Nat) (h : M.1 0 532 = nI no) (hb : no ≤ 8) (h2 : M.1 0 549 = nI 16) (hv : zr o no ∧ pLast (rSn (M.1 0)) 16 ≤ night.toInt ∧ night.toInt ≤ 999) (hli : zr lines 268435456) : zM E YM_sheet 4 [.ref a, .int o, .int night, .int lines] (mw σ a M) (some (.int (-4))) (mw σ a M) := by
  refine zM.of oM_sheet (by decide +kernel) rfl rfl (fun n => ?_)
  refine zj_aload_n 0 rfl rfl rfl ?_
  refine zj_iload_n 1 rfl rfl rfl ?_
  refine zj_iload_n 2 rfl rfl rfl ?_
  refine zj_cvx 3 rfl rfl lk_8_197 ckM_isNext (k_isNext _ _ no 16 h hb h2 (by decide)) rfl mw_0 rfl rfl rfl ?_
  refine zj_if_eq 4 rfl rfl (fun c6 => ?_) (fun c6 => ?_)
  · exact absurd hv (zo_0.mp c6)
  · refine zj_iload_n 5 rfl rfl rfl ?_
    refine zj_csx 6 rfl rfl lk_8_174 ckM_isLines (k_isLines _) rfl rfl rfl rfl ?_
    refine zj_if_ne 7 rfl rfl (fun c13 => ?_) (fun c13 => ?_)
    · refine zj_aload_n 10 rfl rfl rfl ?_
      refine zj_get 11 rfl rfl mw_0 rfl ?_
      refine zj_sipush 12 (549) rfl rfl (by decide) ?_
      refine zn_iald 13 (549) rfl rfl mw_1 rfl (by omega) (by decide) ?_
      refine zj_bipush 14 (16) rfl rfl (by decide) ?_
      refine zn_icmp_ne 15 (16) (16) rfl rfl h2 rfl (by omega) (by omega) (fun c29 => ?_) (fun c29 => ?_)
      · exact absurd c29 (by decide)
      · refine zj_bipush 16 (-4) rfl rfl (by decide) ?_
        refine zj_goto 17 rfl rfl ?_
        refine zj_ireturn 23 rfl rfl rfl ?_
        exact ⟨rfl, rfl, rfl⟩
    · exact absurd hli (zo_0.mp c13)
theorem k_Msheet_bad (o night lines : Int32) (no ns : Nat) (h : M.1 0 532 = nI no) (hb : no ≤ 8) (h2 : M.1 0 549 = nI ns) (hb2 : ns ≤ 16) (hv : ¬ ((zr o no ∧ pLast (rSn (M.1 0)) ns ≤ night.toInt ∧ night.toInt ≤ 999) ∧ zr lines 268435456)) : zM E YM_sheet 4 [.ref a, .int o, .int night, .int lines] (mw σ a M) (some (.int (-2))) (mw σ a M) := by
  refine zM.of oM_sheet (by decide +kernel) rfl rfl (fun n => ?_)
  refine zj_aload_n 0 rfl rfl rfl ?_
  refine zj_iload_n 1 rfl rfl rfl ?_
  refine zj_iload_n 2 rfl rfl rfl ?_
  refine zj_cvx 3 rfl rfl lk_8_197 ckM_isNext (k_isNext _ _ no ns h hb h2 hb2) rfl mw_0 rfl rfl rfl ?_
  refine zj_if_eq 4 rfl rfl (fun c6 => ?_) (fun c6 => ?_)
  · refine zj_bipush 8 (-2) rfl rfl (by decide) ?_
    refine zj_ireturn 9 rfl rfl rfl ?_
    exact ⟨rfl, rfl, rfl⟩
  · refine zj_iload_n 5 rfl rfl rfl ?_
    refine zj_csx 6 rfl rfl lk_8_174 ckM_isLines (k_isLines _) rfl rfl rfl rfl ?_
    refine zj_if_ne 7 rfl rfl (fun c13 => ?_) (fun c13 => ?_)
    · exact absurd ⟨zo_n0.mp c6, zo_n0.mp c13⟩ hv
    · refine zj_bipush 8 (-2) rfl rfl (by decide) ?_
      refine zj_ireturn 9 rfl rfl rfl ?_
      exact ⟨rfl, rfl, rfl⟩
theorem k_Mshow (s o : Nat) (night : Int32) (no ns nh : Nat) (h : M.1 0 532 = nI no) (hb : no ≤ 8) (h2 : M.1 0 549 = nI ns) (hb2 : ns ≤ 16) (h3 : M.1 0 598 = nI nh) (hs : s < ns) (ho : o < no) (hv : (rSn (M.1 0) s).toInt ≤ night.toInt ∧ night.toInt ≤ 999) (hnh : nh < 60) : zM E YM_show 3 [.ref a, .int (nI s), .int (nI o), .int night] (mw σ a M) (some (.int (nI (nh + 1)))) (mw σ a (M.sA 0 (va_up (va_up (va_up (va_up (M.1 0) (599 + 3 * nh) (nI s)) (600 + 3 * nh) (nI o)) (601 + 3 * nh) night) 598 (nI (nh + 1))))) := by
  refine zM.of oM_show (by decide +kernel) rfl rfl (fun n => ?_)
  refine zj_aload_n 0 rfl rfl rfl ?_
  refine zj_iload_n 1 rfl rfl rfl ?_
  refine zj_cvx 2 rfl rfl lk_8_213 ckM_isSheet (k_isSheet _ ns h2 (by omega)) rfl mw_0 rfl rfl rfl ?_
  refine zj_if_eq 3 rfl rfl (fun c5 => ?_) (fun c5 => ?_)
  · exact absurd (zr_of (n := ns) (by omega) (by omega)) (zo_0.mp c5)
  · refine zj_aload_n 4 rfl rfl rfl ?_
    refine zj_iload_n 5 rfl rfl rfl ?_
    refine zj_cvx 6 rfl rfl lk_8_189 ckM_isObserver (k_isObserver _ no h (by omega)) rfl mw_0 rfl rfl rfl ?_
    refine zj_if_eq 7 rfl rfl (fun c13 => ?_) (fun c13 => ?_)
    · exact absurd (zr_of (n := no) (by omega) (by omega)) (zo_0.mp c13)
    · refine zj_iload_n 8 rfl rfl rfl ?_
      refine zj_i2l 9 rfl rfl ?_
      refine zj_aload_n 10 rfl rfl rfl ?_
      refine zj_iload_n 11 rfl rfl rfl ?_
      refine zj_cvx 12 rfl rfl lk_8_192 ckM_nightOf (k_nightOf _ (by omega)) rfl mw_0 rfl rfl rfl ?_
      refine zj_i2l 13 rfl rfl ?_
      refine zj_ldc2 14 (999) rfl rfl (by decide) ?_
      refine zj_csx 15 rfl rfl lk_8_51 ckM_in (k_in _ _ _) rfl rfl rfl rfl ?_
      refine zj_if_ne 16 rfl rfl (fun c30 => ?_) (fun c30 => ?_)
      · refine zj_aload_n 19 rfl rfl rfl ?_
        refine zj_get 20 rfl rfl mw_0 rfl ?_
        refine zj_sipush 21 (598) rfl rfl (by decide) ?_
        refine zn_iald 22 (598) rfl rfl mw_1 rfl (by omega) (by decide) ?_
        refine zj_istore 23 rfl rfl ?_
        refine zj_iload 24 rfl rfl rfl ?_
        refine zj_bipush 25 (60) rfl rfl (by decide) ?_
        refine zn_icmp_ne 26 (nh) (60) rfl rfl h3 rfl (by omega) (by omega) (fun c50 => ?_) (fun c50 => ?_)
        · refine zj_aload_n 29 rfl rfl rfl ?_
          refine zj_get 30 rfl rfl mw_0 rfl ?_
          refine zj_sipush 31 (599) rfl rfl (by decide) ?_
          refine zj_iconst 32 (3) rfl rfl (by decide) ?_
          refine zj_iload 33 rfl rfl rfl ?_
          refine zn_imul 34 (3) (nh) rfl rfl rfl h3 ?_
          refine zn_iadd 35 (599) (3 * nh) rfl rfl rfl rfl ?_
          refine zj_iload_n 36 rfl rfl rfl ?_
          refine zn_iast 37 ((599) + (3 * nh)) rfl rfl mw_1 rfl (by omega) (by decide) mw_u1 ?_
          refine zj_aload_n 38 rfl rfl rfl ?_
          refine zj_get 39 rfl rfl mw_0 rfl ?_
          refine zj_sipush 40 (600) rfl rfl (by decide) ?_
          refine zj_iconst 41 (3) rfl rfl (by decide) ?_
          refine zj_iload 42 rfl rfl rfl ?_
          refine zn_imul 43 (3) (nh) rfl rfl rfl h3 ?_
          refine zn_iadd 44 (600) (3 * nh) rfl rfl rfl rfl ?_
          refine zj_iload_n 45 rfl rfl rfl ?_
          refine zn_iast 46 ((600) + (3 * nh)) rfl rfl mw_1 rfl (by omega) (by decide) mw_u1 ?_
          refine zj_aload_n 47 rfl rfl rfl ?_
          refine zj_get 48 rfl rfl mw_0 rfl ?_
          refine zj_sipush 49 (601) rfl rfl (by decide) ?_
          refine zj_iconst 50 (3) rfl rfl (by decide) ?_
          refine zj_iload 51 rfl rfl rfl ?_
          refine zn_imul 52 (3) (nh) rfl rfl rfl h3 ?_
          refine zn_iadd 53 (601) (3 * nh) rfl rfl rfl rfl ?_
          refine zj_iload_n 54 rfl rfl rfl ?_
          refine zn_iast 55 ((601) + (3 * nh)) rfl rfl mw_1 rfl (by omega) (by decide) mw_u1 ?_
          refine zj_aload_n 56 rfl rfl rfl ?_
          refine zj_get 57 rfl rfl mw_0 rfl ?_
          refine zj_sipush 58 (598) rfl rfl (by decide) ?_
          refine zj_dup2 59 rfl rfl rfl rfl ?_
          refine zn_iald 60 (598) rfl rfl mw_1 rfl (by omega) (by decide) ?_
          refine zj_iconst 61 (1) rfl rfl (by decide) ?_
          refine zn_iadd 62 (nh) (1) rfl rfl (by simp [va_up, show ¬ (598 = 599 + 3 * nh) by omega, show ¬ (598 = 600 + 3 * nh) by omega, show ¬ (598 = 601 + 3 * nh) by omega, h3]) rfl ?_
          refine zn_iast 63 (598) rfl rfl mw_1 rfl (by omega) (by decide) mw_u1 ?_
          refine zj_iload 64 rfl rfl rfl ?_
          refine zj_iconst 65 (1) rfl rfl (by decide) ?_
          refine zn_iadd 66 (nh) (1) rfl rfl h3 rfl ?_
          refine zj_ireturn 67 rfl rfl rfl ?_
          exact ⟨rfl, rfl, by simp only [zMo.sA_sA]; rfl⟩
        · exact absurd c50 (by omega)
      · exact absurd (by rw [zl0, zl0]; exact hv) (zo_0.mp c30)
theorem k_Mshow_full (s o : Nat) (night : Int32) (no ns : Nat) (h : M.1 0 532 = nI no) (hb : no ≤ 8) (h2 : M.1 0 549 = nI ns) (hb2 : ns ≤ 16) (h3 : M.1 0 598 = nI 60) (hs : s < ns) (ho : o < no) (hv : (rSn (M.1 0) s).toInt ≤ night.toInt ∧ night.toInt ≤ 999) : zM E YM_show 3 [.ref a, .int (nI s), .int (nI o), .int night] (mw σ a M) (some (.int (-4))) (mw σ a M) := by
  refine zM.of oM_show (by decide +kernel) rfl rfl (fun n => ?_)
  refine zj_aload_n 0 rfl rfl rfl ?_
  refine zj_iload_n 1 rfl rfl rfl ?_
  refine zj_cvx 2 rfl rfl lk_8_213 ckM_isSheet (k_isSheet _ ns h2 (by omega)) rfl mw_0 rfl rfl rfl ?_
  refine zj_if_eq 3 rfl rfl (fun c5 => ?_) (fun c5 => ?_)
  · exact absurd (zr_of (n := ns) (by omega) (by omega)) (zo_0.mp c5)
  · refine zj_aload_n 4 rfl rfl rfl ?_
    refine zj_iload_n 5 rfl rfl rfl ?_
    refine zj_cvx 6 rfl rfl lk_8_189 ckM_isObserver (k_isObserver _ no h (by omega)) rfl mw_0 rfl rfl rfl ?_
    refine zj_if_eq 7 rfl rfl (fun c13 => ?_) (fun c13 => ?_)
    · exact absurd (zr_of (n := no) (by omega) (by omega)) (zo_0.mp c13)
    · refine zj_iload_n 8 rfl rfl rfl ?_
      refine zj_i2l 9 rfl rfl ?_
      refine zj_aload_n 10 rfl rfl rfl ?_
      refine zj_iload_n 11 rfl rfl rfl ?_
      refine zj_cvx 12 rfl rfl lk_8_192 ckM_nightOf (k_nightOf _ (by omega)) rfl mw_0 rfl rfl rfl ?_
      refine zj_i2l 13 rfl rfl ?_
      refine zj_ldc2 14 (999) rfl rfl (by decide) ?_
      refine zj_csx 15 rfl rfl lk_8_51 ckM_in (k_in _ _ _) rfl rfl rfl rfl ?_
      refine zj_if_ne 16 rfl rfl (fun c30 => ?_) (fun c30 => ?_)
      · refine zj_aload_n 19 rfl rfl rfl ?_
        refine zj_get 20 rfl rfl mw_0 rfl ?_
        refine zj_sipush 21 (598) rfl rfl (by decide) ?_
        refine zn_iald 22 (598) rfl rfl mw_1 rfl (by omega) (by decide) ?_
        refine zj_istore 23 rfl rfl ?_
        refine zj_iload 24 rfl rfl rfl ?_
        refine zj_bipush 25 (60) rfl rfl (by decide) ?_
        refine zn_icmp_ne 26 (60) (60) rfl rfl h3 rfl (by omega) (by omega) (fun c50 => ?_) (fun c50 => ?_)
        · exact absurd c50 (by decide)
        · refine zj_bipush 27 (-4) rfl rfl (by decide) ?_
          refine zj_ireturn 28 rfl rfl rfl ?_
          exact ⟨rfl, rfl, rfl⟩
      · exact absurd (by rw [zl0, zl0]; exact hv) (zo_0.mp c30)
theorem k_Mshow_bad (s o night : Int32) (no ns : Nat) (h : M.1 0 532 = nI no) (hb : no ≤ 8) (h2 : M.1 0 549 = nI ns) (hb2 : ns ≤ 16) (hv : ¬ (zr s ns ∧ zr o no ∧ (rSn (M.1 0) s.toNatClampNeg).toInt ≤ night.toInt ∧ night.toInt ≤ 999)) : zM E YM_show 3 [.ref a, .int s, .int o, .int night] (mw σ a M) (some (.int (-2))) (mw σ a M) := by
  refine zM.of oM_show (by decide +kernel) rfl rfl (fun n => ?_)
  refine zj_aload_n 0 rfl rfl rfl ?_
  refine zj_iload_n 1 rfl rfl rfl ?_
  refine zj_cvx 2 rfl rfl lk_8_213 ckM_isSheet (k_isSheet _ ns h2 (by omega)) rfl mw_0 rfl rfl rfl ?_
  refine zj_if_eq 3 rfl rfl (fun c5 => ?_) (fun c5 => ?_)
  · refine zj_bipush 17 (-2) rfl rfl (by decide) ?_
    refine zj_ireturn 18 rfl rfl rfl ?_
    exact ⟨rfl, rfl, rfl⟩
  · obtain ⟨j, hj, rfl⟩ := zr_nI (zo_n0.mp c5)
    refine zj_aload_n 4 rfl rfl rfl ?_
    refine zj_iload_n 5 rfl rfl rfl ?_
    refine zj_cvx 6 rfl rfl lk_8_189 ckM_isObserver (k_isObserver _ no h (by omega)) rfl mw_0 rfl rfl rfl ?_
    refine zj_if_eq 7 rfl rfl (fun c13 => ?_) (fun c13 => ?_)
    · refine zj_bipush 17 (-2) rfl rfl (by decide) ?_
      refine zj_ireturn 18 rfl rfl rfl ?_
      exact ⟨rfl, rfl, rfl⟩
    · refine zj_iload_n 8 rfl rfl rfl ?_
      refine zj_i2l 9 rfl rfl ?_
      refine zj_aload_n 10 rfl rfl rfl ?_
      refine zj_iload_n 11 rfl rfl rfl ?_
      refine zj_cvx 12 rfl rfl lk_8_192 ckM_nightOf (k_nightOf _ (by omega)) rfl mw_0 rfl rfl rfl ?_
      refine zj_i2l 13 rfl rfl ?_
      refine zj_ldc2 14 (999) rfl rfl (by decide) ?_
      refine zj_csx 15 rfl rfl lk_8_51 ckM_in (k_in _ _ _) rfl rfl rfl rfl ?_
      refine zj_if_ne 16 rfl rfl (fun c30 => ?_) (fun c30 => ?_)
      · rw [nI_clamp (by omega)] at hv
        exact absurd ⟨zo_n0.mp c5, zo_n0.mp c13, by have := zo_n0.mp c30; rw [zl0, zl0] at this; exact this⟩ hv
      · refine zj_bipush 17 (-2) rfl rfl (by decide) ?_
        refine zj_ireturn 18 rfl rfl rfl ?_
        exact ⟨rfl, rfl, rfl⟩
theorem k_sheetTold0 (s : Nat) (hs : s < 80) (nh ns : Nat) (h : M.1 0 598 = nI nh) (hb : nh ≤ 60) (h2 : M.1 0 549 = nI ns) (hb2 : ns ≤ 16) : zM E YM_sheetTold 4 [.ref a, .int (nI s), .int (nI 0)] (mw σ a M) (some (.int (M.1 0 (550 + 3 * s)))) (mw σ a M) := by
  refine zM.of oM_sheetTold (by decide +kernel) rfl rfl (fun n => ?_)
  refine zj_iload_n 0 rfl rfl rfl ?_
  refine zj_if_ne 1 rfl rfl (fun c1 => ?_) (fun c1 => ?_)
  · exact absurd c1 (by decide)
  · refine zj_aload_n 2 rfl rfl rfl ?_
    refine zj_iload_n 3 rfl rfl rfl ?_
    refine zj_cvx 4 rfl rfl lk_8_207 ckM_linesOf (k_linesOf _ (by omega)) rfl mw_0 rfl rfl rfl ?_
    refine zj_goto 5 rfl rfl ?_
    refine zj_ireturn 23 rfl rfl rfl ?_
    exact ⟨rfl, rfl, rfl⟩
theorem k_Mof0 (s : Nat) (nh ns : Nat) (h : M.1 0 598 = nI nh) (hb : nh ≤ 60) (h2 : M.1 0 549 = nI ns) (hb2 : ns ≤ 16) (hs : s < ns) : zM E YM_of 5 [.ref a, .int (nI s), .int (nI 0)] (mw σ a M) (some (.int (M.1 0 (550 + 3 * s)))) (mw σ a M) := by
  refine zM.of oM_of (by decide +kernel) rfl rfl (fun n => ?_)
  refine zj_aload_n 0 rfl rfl rfl ?_
  refine zj_iload_n 1 rfl rfl rfl ?_
  refine zj_cvx 2 rfl rfl lk_8_213 ckM_isSheet (k_isSheet _ ns h2 (by omega)) rfl mw_0 rfl rfl rfl ?_
  refine zj_if_eq 3 rfl rfl (fun c5 => ?_) (fun c5 => ?_)
  · exact absurd (zr_of (n := ns) (by omega) (by omega)) (zo_0.mp c5)
  · refine zj_iload_n 4 rfl rfl rfl ?_
    refine zj_i2l 5 rfl rfl ?_
    refine zj_lconst 6 (0) rfl rfl (by decide) ?_
    refine zj_ldc2 7 (3) rfl rfl (by decide) ?_
    refine zj_csx 8 rfl rfl lk_8_51 ckM_in (k_in0 _ _ 4 (by decide)) rfl rfl rfl rfl ?_
    refine zj_if_eq 9 rfl rfl (fun c17 => ?_) (fun c17 => ?_)
    · exact absurd (zr_of (n := 4) (by omega) (by decide)) (zo_0.mp c17)
    · refine zj_aload_n 10 rfl rfl rfl ?_
      refine zj_iload_n 11 rfl rfl rfl ?_
      refine zj_iload_n 12 rfl rfl rfl ?_
      refine zj_cvx 13 rfl rfl lk_8_222 ckM_sheetTold (k_sheetTold0 _ (by omega) nh ns h hb h2 hb2) rfl mw_0 rfl rfl rfl ?_
      refine zj_goto 14 rfl rfl ?_
      refine zj_ireturn 16 rfl rfl rfl ?_
      exact ⟨rfl, rfl, rfl⟩
theorem k_sheetTold1 (s : Nat) (hs : s < 80) (nh ns : Nat) (h : M.1 0 598 = nI nh) (hb : nh ≤ 60) (h2 : M.1 0 549 = nI ns) (hb2 : ns ≤ 16) : zM E YM_sheetTold 4 [.ref a, .int (nI s), .int (nI 1)] (mw σ a M) (some (.int (M.1 0 (551 + 3 * s)))) (mw σ a M) := by
  refine zM.of oM_sheetTold (by decide +kernel) rfl rfl (fun n => ?_)
  refine zj_iload_n 0 rfl rfl rfl ?_
  refine zj_if_ne 1 rfl rfl (fun c1 => ?_) (fun c1 => ?_)
  · refine zj_iload_n 6 rfl rfl rfl ?_
    refine zj_iconst 7 (1) rfl rfl (by decide) ?_
    refine zn_icmp_ne 8 (1) (1) rfl rfl rfl rfl (by omega) (by omega) (fun c14 => ?_) (fun c14 => ?_)
    · exact absurd c14 (by decide)
    · refine zj_aload_n 9 rfl rfl rfl ?_
      refine zj_iload_n 10 rfl rfl rfl ?_
      refine zj_cvx 11 rfl rfl lk_8_216 ckM_observerOf (k_observerOf _ (by omega)) rfl mw_0 rfl rfl rfl ?_
      refine zj_goto 12 rfl rfl ?_
      refine zj_ireturn 23 rfl rfl rfl ?_
      exact ⟨rfl, rfl, rfl⟩
  · exact absurd c1 (by decide)
theorem k_Mof1 (s : Nat) (nh ns : Nat) (h : M.1 0 598 = nI nh) (hb : nh ≤ 60) (h2 : M.1 0 549 = nI ns) (hb2 : ns ≤ 16) (hs : s < ns) : zM E YM_of 5 [.ref a, .int (nI s), .int (nI 1)] (mw σ a M) (some (.int (M.1 0 (551 + 3 * s)))) (mw σ a M) := by
  refine zM.of oM_of (by decide +kernel) rfl rfl (fun n => ?_)
  refine zj_aload_n 0 rfl rfl rfl ?_
  refine zj_iload_n 1 rfl rfl rfl ?_
  refine zj_cvx 2 rfl rfl lk_8_213 ckM_isSheet (k_isSheet _ ns h2 (by omega)) rfl mw_0 rfl rfl rfl ?_
  refine zj_if_eq 3 rfl rfl (fun c5 => ?_) (fun c5 => ?_)
  · exact absurd (zr_of (n := ns) (by omega) (by omega)) (zo_0.mp c5)
  · refine zj_iload_n 4 rfl rfl rfl ?_
    refine zj_i2l 5 rfl rfl ?_
    refine zj_lconst 6 (0) rfl rfl (by decide) ?_
    refine zj_ldc2 7 (3) rfl rfl (by decide) ?_
    refine zj_csx 8 rfl rfl lk_8_51 ckM_in (k_in0 _ _ 4 (by decide)) rfl rfl rfl rfl ?_
    refine zj_if_eq 9 rfl rfl (fun c17 => ?_) (fun c17 => ?_)
    · exact absurd (zr_of (n := 4) (by omega) (by decide)) (zo_0.mp c17)
    · refine zj_aload_n 10 rfl rfl rfl ?_
      refine zj_iload_n 11 rfl rfl rfl ?_
      refine zj_iload_n 12 rfl rfl rfl ?_
      refine zj_cvx 13 rfl rfl lk_8_222 ckM_sheetTold (k_sheetTold1 _ (by omega) nh ns h hb h2 hb2) rfl mw_0 rfl rfl rfl ?_
      refine zj_goto 14 rfl rfl ?_
      refine zj_ireturn 16 rfl rfl rfl ?_
      exact ⟨rfl, rfl, rfl⟩
theorem k_sheetTold2 (s : Nat) (hs : s < 80) (nh ns : Nat) (h : M.1 0 598 = nI nh) (hb : nh ≤ 60) (h2 : M.1 0 549 = nI ns) (hb2 : ns ≤ 16) : zM E YM_sheetTold 4 [.ref a, .int (nI s), .int (nI 2)] (mw σ a M) (some (.int (M.1 0 (552 + 3 * s)))) (mw σ a M) := by
  refine zM.of oM_sheetTold (by decide +kernel) rfl rfl (fun n => ?_)
  refine zj_iload_n 0 rfl rfl rfl ?_
  refine zj_if_ne 1 rfl rfl (fun c1 => ?_) (fun c1 => ?_)
  · refine zj_iload_n 6 rfl rfl rfl ?_
    refine zj_iconst 7 (1) rfl rfl (by decide) ?_
    refine zn_icmp_ne 8 (2) (1) rfl rfl rfl rfl (by omega) (by omega) (fun c14 => ?_) (fun c14 => ?_)
    · refine zj_iload_n 13 rfl rfl rfl ?_
      refine zj_iconst 14 (2) rfl rfl (by decide) ?_
      refine zn_icmp_ne 15 (2) (2) rfl rfl rfl rfl (by omega) (by omega) (fun c27 => ?_) (fun c27 => ?_)
      · exact absurd c27 (by decide)
      · refine zj_aload_n 16 rfl rfl rfl ?_
        refine zj_iload_n 17 rfl rfl rfl ?_
        refine zj_cvx 18 rfl rfl lk_8_192 ckM_nightOf (k_nightOf _ (by omega)) rfl mw_0 rfl rfl rfl ?_
        refine zj_goto 19 rfl rfl ?_
        refine zj_ireturn 23 rfl rfl rfl ?_
        exact ⟨rfl, rfl, rfl⟩
    · exact absurd c14 (by decide)
  · exact absurd c1 (by decide)
theorem k_Mof2 (s : Nat) (nh ns : Nat) (h : M.1 0 598 = nI nh) (hb : nh ≤ 60) (h2 : M.1 0 549 = nI ns) (hb2 : ns ≤ 16) (hs : s < ns) : zM E YM_of 5 [.ref a, .int (nI s), .int (nI 2)] (mw σ a M) (some (.int (M.1 0 (552 + 3 * s)))) (mw σ a M) := by
  refine zM.of oM_of (by decide +kernel) rfl rfl (fun n => ?_)
  refine zj_aload_n 0 rfl rfl rfl ?_
  refine zj_iload_n 1 rfl rfl rfl ?_
  refine zj_cvx 2 rfl rfl lk_8_213 ckM_isSheet (k_isSheet _ ns h2 (by omega)) rfl mw_0 rfl rfl rfl ?_
  refine zj_if_eq 3 rfl rfl (fun c5 => ?_) (fun c5 => ?_)
  · exact absurd (zr_of (n := ns) (by omega) (by omega)) (zo_0.mp c5)
  · refine zj_iload_n 4 rfl rfl rfl ?_
    refine zj_i2l 5 rfl rfl ?_
    refine zj_lconst 6 (0) rfl rfl (by decide) ?_
    refine zj_ldc2 7 (3) rfl rfl (by decide) ?_
    refine zj_csx 8 rfl rfl lk_8_51 ckM_in (k_in0 _ _ 4 (by decide)) rfl rfl rfl rfl ?_
    refine zj_if_eq 9 rfl rfl (fun c17 => ?_) (fun c17 => ?_)
    · exact absurd (zr_of (n := 4) (by omega) (by decide)) (zo_0.mp c17)
    · refine zj_aload_n 10 rfl rfl rfl ?_
      refine zj_iload_n 11 rfl rfl rfl ?_
      refine zj_iload_n 12 rfl rfl rfl ?_
      refine zj_cvx 13 rfl rfl lk_8_222 ckM_sheetTold (k_sheetTold2 _ (by omega) nh ns h hb h2 hb2) rfl mw_0 rfl rfl rfl ?_
      refine zj_goto 14 rfl rfl ?_
      refine zj_ireturn 16 rfl rfl rfl ?_
      exact ⟨rfl, rfl, rfl⟩
theorem k_sheetTold3 (s : Nat) (hs : s < 80) (nh ns : Nat) (h : M.1 0 598 = nI nh) (hb : nh ≤ 60) (h2 : M.1 0 549 = nI ns) (hb2 : ns ≤ 16) : zM E YM_sheetTold 4 [.ref a, .int (nI s), .int (nI 3)] (mw σ a M) (some (.int (pSHm (M.1 0) nh ns (rSo (M.1 0) s) (rSn (M.1 0) s)))) (mw σ a M) := by
  refine zM.of oM_sheetTold (by decide +kernel) rfl rfl (fun n => ?_)
  refine zj_iload_n 0 rfl rfl rfl ?_
  refine zj_if_ne 1 rfl rfl (fun c1 => ?_) (fun c1 => ?_)
  · refine zj_iload_n 6 rfl rfl rfl ?_
    refine zj_iconst 7 (1) rfl rfl (by decide) ?_
    refine zn_icmp_ne 8 (3) (1) rfl rfl rfl rfl (by omega) (by omega) (fun c14 => ?_) (fun c14 => ?_)
    · refine zj_iload_n 13 rfl rfl rfl ?_
      refine zj_iconst 14 (2) rfl rfl (by decide) ?_
      refine zn_icmp_ne 15 (3) (2) rfl rfl rfl rfl (by omega) (by omega) (fun c27 => ?_) (fun c27 => ?_)
      · refine zj_aload_n 20 rfl rfl rfl ?_
        refine zj_iload_n 21 rfl rfl rfl ?_
        refine zj_cvx 22 rfl rfl lk_8_219 ckM_shownFor (k_shownFor _ (by omega) nh ns h hb h2 hb2) rfl mw_0 rfl rfl rfl ?_
        refine zj_ireturn 23 rfl rfl rfl ?_
        exact ⟨rfl, rfl, rfl⟩
      · exact absurd c27 (by decide)
    · exact absurd c14 (by decide)
  · exact absurd c1 (by decide)
theorem k_Mof3 (s : Nat) (nh ns : Nat) (h : M.1 0 598 = nI nh) (hb : nh ≤ 60) (h2 : M.1 0 549 = nI ns) (hb2 : ns ≤ 16) (hs : s < ns) : zM E YM_of 5 [.ref a, .int (nI s), .int (nI 3)] (mw σ a M) (some (.int (pSHm (M.1 0) nh ns (rSo (M.1 0) s) (rSn (M.1 0) s)))) (mw σ a M) := by
  refine zM.of oM_of (by decide +kernel) rfl rfl (fun n => ?_)
  refine zj_aload_n 0 rfl rfl rfl ?_
  refine zj_iload_n 1 rfl rfl rfl ?_
  refine zj_cvx 2 rfl rfl lk_8_213 ckM_isSheet (k_isSheet _ ns h2 (by omega)) rfl mw_0 rfl rfl rfl ?_
  refine zj_if_eq 3 rfl rfl (fun c5 => ?_) (fun c5 => ?_)
  · exact absurd (zr_of (n := ns) (by omega) (by omega)) (zo_0.mp c5)
  · refine zj_iload_n 4 rfl rfl rfl ?_
    refine zj_i2l 5 rfl rfl ?_
    refine zj_lconst 6 (0) rfl rfl (by decide) ?_
    refine zj_ldc2 7 (3) rfl rfl (by decide) ?_
    refine zj_csx 8 rfl rfl lk_8_51 ckM_in (k_in0 _ _ 4 (by decide)) rfl rfl rfl rfl ?_
    refine zj_if_eq 9 rfl rfl (fun c17 => ?_) (fun c17 => ?_)
    · exact absurd (zr_of (n := 4) (by omega) (by decide)) (zo_0.mp c17)
    · refine zj_aload_n 10 rfl rfl rfl ?_
      refine zj_iload_n 11 rfl rfl rfl ?_
      refine zj_iload_n 12 rfl rfl rfl ?_
      refine zj_cvx 13 rfl rfl lk_8_222 ckM_sheetTold (k_sheetTold3 _ (by omega) nh ns h hb h2 hb2) rfl mw_0 rfl rfl rfl ?_
      refine zj_goto 14 rfl rfl ?_
      refine zj_ireturn 16 rfl rfl rfl ?_
      exact ⟨rfl, rfl, rfl⟩
theorem k_Mof_bad (s w : Int32) (ns : Nat) (h2 : M.1 0 549 = nI ns) (hb2 : ns ≤ 16) (hv : ¬ (zr s ns ∧ zr w 4)) : zM E YM_of 5 [.ref a, .int s, .int w] (mw σ a M) (some (.int (-2))) (mw σ a M) := by
  refine zM.of oM_of (by decide +kernel) rfl rfl (fun n => ?_)
  refine zj_aload_n 0 rfl rfl rfl ?_
  refine zj_iload_n 1 rfl rfl rfl ?_
  refine zj_cvx 2 rfl rfl lk_8_213 ckM_isSheet (k_isSheet _ ns h2 (by omega)) rfl mw_0 rfl rfl rfl ?_
  refine zj_if_eq 3 rfl rfl (fun c5 => ?_) (fun c5 => ?_)
  · refine zj_bipush 15 (-2) rfl rfl (by decide) ?_
    refine zj_ireturn 16 rfl rfl rfl ?_
    exact ⟨rfl, rfl, rfl⟩
  · refine zj_iload_n 4 rfl rfl rfl ?_
    refine zj_i2l 5 rfl rfl ?_
    refine zj_lconst 6 (0) rfl rfl (by decide) ?_
    refine zj_ldc2 7 (3) rfl rfl (by decide) ?_
    refine zj_csx 8 rfl rfl lk_8_51 ckM_in (k_in0 _ _ 4 (by decide)) rfl rfl rfl rfl ?_
    refine zj_if_eq 9 rfl rfl (fun c17 => ?_) (fun c17 => ?_)
    · refine zj_bipush 15 (-2) rfl rfl (by decide) ?_
      refine zj_ireturn 16 rfl rfl rfl ?_
      exact ⟨rfl, rfl, rfl⟩
    · exact absurd ⟨zo_n0.mp c5, zo_n0.mp c17⟩ hv
theorem k_isPair (x y : Int32) (ns : Nat) (h2 : M.1 0 549 = nI ns) (hb2 : ns ≤ 16) : zM E YM_isPair 3 [.ref a, .int x, .int y] (mw σ a M) (some (.int (zo (zr x ns ∧ zr y ns ∧ x ≠ y)))) (mw σ a M) := by
  refine zM.of oM_isPair (by decide +kernel) rfl rfl (fun n => ?_)
  refine zj_aload_n 0 rfl rfl rfl ?_
  refine zj_iload_n 1 rfl rfl rfl ?_
  refine zj_cvx 2 rfl rfl lk_8_213 ckM_isSheet (k_isSheet _ ns h2 (by omega)) rfl mw_0 rfl rfl rfl ?_
  refine zj_if_eq 3 rfl rfl (fun c5 => ?_) (fun c5 => ?_)
  · refine zj_iconst 13 (0) rfl rfl (by decide) ?_
    refine zj_zreturn 14 rfl rfl rfl rfl ?_
    first
      | exact ⟨zrt (zo_t ⟨zo_n0.mp c5, zo_n0.mp c13, c18⟩), rfl, rfl⟩
      | exact ⟨zrt (zo_f (fun g => zo_0.mp c5 g.1)), rfl, rfl⟩
      | exact ⟨zrt (zo_f (fun g => zo_0.mp c13 g.2.1)), rfl, rfl⟩
      | exact ⟨zrt (zo_f (fun g => g.2.2 c18)), rfl, rfl⟩
  · refine zj_aload_n 4 rfl rfl rfl ?_
    refine zj_iload_n 5 rfl rfl rfl ?_
    refine zj_cvx 6 rfl rfl lk_8_213 ckM_isSheet (k_isSheet _ ns h2 (by omega)) rfl mw_0 rfl rfl rfl ?_
    refine zj_if_eq 7 rfl rfl (fun c13 => ?_) (fun c13 => ?_)
    · refine zj_iconst 13 (0) rfl rfl (by decide) ?_
      refine zj_zreturn 14 rfl rfl rfl rfl ?_
      first
        | exact ⟨zrt (zo_t ⟨zo_n0.mp c5, zo_n0.mp c13, c18⟩), rfl, rfl⟩
        | exact ⟨zrt (zo_f (fun g => zo_0.mp c5 g.1)), rfl, rfl⟩
        | exact ⟨zrt (zo_f (fun g => zo_0.mp c13 g.2.1)), rfl, rfl⟩
        | exact ⟨zrt (zo_f (fun g => g.2.2 c18)), rfl, rfl⟩
    · refine zj_iload_n 8 rfl rfl rfl ?_
      refine zj_iload_n 9 rfl rfl rfl ?_
      refine zj_icmp_eq 10 rfl rfl (fun c18 => ?_) (fun c18 => ?_)
      · refine zj_iconst 13 (0) rfl rfl (by decide) ?_
        refine zj_zreturn 14 rfl rfl rfl rfl ?_
        first
          | exact ⟨zrt (zo_t ⟨zo_n0.mp c5, zo_n0.mp c13, c18⟩), rfl, rfl⟩
          | exact ⟨zrt (zo_f (fun g => zo_0.mp c5 g.1)), rfl, rfl⟩
          | exact ⟨zrt (zo_f (fun g => zo_0.mp c13 g.2.1)), rfl, rfl⟩
          | exact ⟨zrt (zo_f (fun g => g.2.2 c18)), rfl, rfl⟩
      · refine zj_iconst 11 (1) rfl rfl (by decide) ?_
        refine zj_goto 12 rfl rfl ?_
        refine zj_zreturn 14 rfl rfl rfl rfl ?_
        first
          | exact ⟨zrt (zo_t ⟨zo_n0.mp c5, zo_n0.mp c13, c18⟩), rfl, rfl⟩
          | exact ⟨zrt (zo_f (fun g => zo_0.mp c5 g.1)), rfl, rfl⟩
          | exact ⟨zrt (zo_f (fun g => zo_0.mp c13 g.2.1)), rfl, rfl⟩
          | exact ⟨zrt (zo_f (fun g => g.2.2 c18)), rfl, rfl⟩
theorem k_Magree0 (x y : Nat) (nh ns : Nat) (h : M.1 0 598 = nI nh) (hb : nh ≤ 60) (h2 : M.1 0 549 = nI ns) (hb2 : ns ≤ 16) (hx : x < ns) (hy : y < ns) (hne : x ≠ y) : zM E YM_agree 4 [.ref a, .int (nI x), .int (nI y), .int (nI 0)] (mw σ a M) (some (.int (zb28 (rSl (M.1 0) x &&& rSl (M.1 0) y) 28))) (mw σ a M) := by
  refine zM.of oM_agree (by decide +kernel) rfl rfl (fun n => ?_)
  refine zj_aload_n 0 rfl rfl rfl ?_
  refine zj_iload_n 1 rfl rfl rfl ?_
  refine zj_iload_n 2 rfl rfl rfl ?_
  refine zj_cvx 3 rfl rfl lk_8_225 ckM_isPair (k_isPair _ _ ns h2 hb2) rfl mw_0 rfl rfl rfl ?_
  refine zj_if_eq 4 rfl rfl (fun c6 => ?_) (fun c6 => ?_)
  · exact absurd ⟨zr_of (n := ns) (by omega) (by omega), zr_of (n := ns) (by omega) (by omega), fun e => hne ((nI_eq (by omega) (by omega)).mp e)⟩ (zo_0.mp c6)
  · refine zj_iload_n 5 rfl rfl rfl ?_
    refine zj_i2l 6 rfl rfl ?_
    refine zj_lconst 7 (0) rfl rfl (by decide) ?_
    refine zj_lconst 8 (1) rfl rfl (by decide) ?_
    refine zj_csx 9 rfl rfl lk_8_51 ckM_in (k_in0 _ _ 2 (by decide)) rfl rfl rfl rfl ?_
    refine zj_if_ne 10 rfl rfl (fun c16 => ?_) (fun c16 => ?_)
    · refine zj_aload_n 13 rfl rfl rfl ?_
      refine zj_iload_n 14 rfl rfl rfl ?_
      refine zj_cvx 15 rfl rfl lk_8_207 ckM_linesOf (k_linesOf _ (by omega)) rfl mw_0 rfl rfl rfl ?_
      refine zj_aload_n 16 rfl rfl rfl ?_
      refine zj_iload_n 17 rfl rfl rfl ?_
      refine zj_cvx 18 rfl rfl lk_8_207 ckM_linesOf (k_linesOf _ (by omega)) rfl mw_0 rfl rfl rfl ?_
      refine zj_iand 19 rfl rfl ?_
      refine zj_istore 20 rfl rfl ?_
      refine zj_iload_n 21 rfl rfl rfl ?_
      refine zj_if_ne 22 rfl rfl (fun c36 => ?_) (fun c36 => ?_)
      · exact absurd c36 (by decide)
      · refine zj_iload 23 rfl rfl rfl ?_
        refine zj_goto 24 rfl rfl ?_
        refine zj_csx 34 rfl rfl lk_8_184 ckM_bitsOf (k_bitsOf _) rfl rfl rfl rfl ?_
        refine zj_ireturn 35 rfl rfl rfl ?_
        exact ⟨rfl, rfl, rfl⟩
    · exact absurd (zr_of (n := 2) (by omega) (by decide)) (zo_0.mp c16)
theorem k_Magree1 (x y : Nat) (nh ns : Nat) (h : M.1 0 598 = nI nh) (hb : nh ≤ 60) (h2 : M.1 0 549 = nI ns) (hb2 : ns ≤ 16) (hx : x < ns) (hy : y < ns) (hne : x ≠ y) : zM E YM_agree 4 [.ref a, .int (nI x), .int (nI y), .int (nI 1)] (mw σ a M) (some (.int (zb28 (rSl (M.1 0) x &&& rSl (M.1 0) y &&& pSHm (M.1 0) nh ns (rSo (M.1 0) x) (rSn (M.1 0) x) &&& pSHm (M.1 0) nh ns (rSo (M.1 0) y) (rSn (M.1 0) y)) 28))) (mw σ a M) := by
  refine zM.of oM_agree (by decide +kernel) rfl rfl (fun n => ?_)
  refine zj_aload_n 0 rfl rfl rfl ?_
  refine zj_iload_n 1 rfl rfl rfl ?_
  refine zj_iload_n 2 rfl rfl rfl ?_
  refine zj_cvx 3 rfl rfl lk_8_225 ckM_isPair (k_isPair _ _ ns h2 hb2) rfl mw_0 rfl rfl rfl ?_
  refine zj_if_eq 4 rfl rfl (fun c6 => ?_) (fun c6 => ?_)
  · exact absurd ⟨zr_of (n := ns) (by omega) (by omega), zr_of (n := ns) (by omega) (by omega), fun e => hne ((nI_eq (by omega) (by omega)).mp e)⟩ (zo_0.mp c6)
  · refine zj_iload_n 5 rfl rfl rfl ?_
    refine zj_i2l 6 rfl rfl ?_
    refine zj_lconst 7 (0) rfl rfl (by decide) ?_
    refine zj_lconst 8 (1) rfl rfl (by decide) ?_
    refine zj_csx 9 rfl rfl lk_8_51 ckM_in (k_in0 _ _ 2 (by decide)) rfl rfl rfl rfl ?_
    refine zj_if_ne 10 rfl rfl (fun c16 => ?_) (fun c16 => ?_)
    · refine zj_aload_n 13 rfl rfl rfl ?_
      refine zj_iload_n 14 rfl rfl rfl ?_
      refine zj_cvx 15 rfl rfl lk_8_207 ckM_linesOf (k_linesOf _ (by omega)) rfl mw_0 rfl rfl rfl ?_
      refine zj_aload_n 16 rfl rfl rfl ?_
      refine zj_iload_n 17 rfl rfl rfl ?_
      refine zj_cvx 18 rfl rfl lk_8_207 ckM_linesOf (k_linesOf _ (by omega)) rfl mw_0 rfl rfl rfl ?_
      refine zj_iand 19 rfl rfl ?_
      refine zj_istore 20 rfl rfl ?_
      refine zj_iload_n 21 rfl rfl rfl ?_
      refine zj_if_ne 22 rfl rfl (fun c36 => ?_) (fun c36 => ?_)
      · refine zj_iload 25 rfl rfl rfl ?_
        refine zj_aload_n 26 rfl rfl rfl ?_
        refine zj_iload_n 27 rfl rfl rfl ?_
        refine zj_cvx 28 rfl rfl lk_8_219 ckM_shownFor (k_shownFor _ (by omega) nh ns h hb h2 hb2) rfl mw_0 rfl rfl rfl ?_
        refine zj_iand 29 rfl rfl ?_
        refine zj_aload_n 30 rfl rfl rfl ?_
        refine zj_iload_n 31 rfl rfl rfl ?_
        refine zj_cvx 32 rfl rfl lk_8_219 ckM_shownFor (k_shownFor _ (by omega) nh ns h hb h2 hb2) rfl mw_0 rfl rfl rfl ?_
        refine zj_iand 33 rfl rfl ?_
        refine zj_csx 34 rfl rfl lk_8_184 ckM_bitsOf (k_bitsOf _) rfl rfl rfl rfl ?_
        refine zj_ireturn 35 rfl rfl rfl ?_
        exact ⟨rfl, rfl, rfl⟩
      · exact absurd c36 (by decide)
    · exact absurd (zr_of (n := 2) (by omega) (by decide)) (zo_0.mp c16)
theorem k_Magree_bad (x y w : Int32) (ns : Nat) (h2 : M.1 0 549 = nI ns) (hb2 : ns ≤ 16) (hv : ¬ ((zr x ns ∧ zr y ns ∧ x ≠ y) ∧ zr w 2)) : zM E YM_agree 4 [.ref a, .int x, .int y, .int w] (mw σ a M) (some (.int (-2))) (mw σ a M) := by
  refine zM.of oM_agree (by decide +kernel) rfl rfl (fun n => ?_)
  refine zj_aload_n 0 rfl rfl rfl ?_
  refine zj_iload_n 1 rfl rfl rfl ?_
  refine zj_iload_n 2 rfl rfl rfl ?_
  refine zj_cvx 3 rfl rfl lk_8_225 ckM_isPair (k_isPair _ _ ns h2 hb2) rfl mw_0 rfl rfl rfl ?_
  refine zj_if_eq 4 rfl rfl (fun c6 => ?_) (fun c6 => ?_)
  · refine zj_bipush 11 (-2) rfl rfl (by decide) ?_
    refine zj_ireturn 12 rfl rfl rfl ?_
    exact ⟨rfl, rfl, rfl⟩
  · refine zj_iload_n 5 rfl rfl rfl ?_
    refine zj_i2l 6 rfl rfl ?_
    refine zj_lconst 7 (0) rfl rfl (by decide) ?_
    refine zj_lconst 8 (1) rfl rfl (by decide) ?_
    refine zj_csx 9 rfl rfl lk_8_51 ckM_in (k_in0 _ _ 2 (by decide)) rfl rfl rfl rfl ?_
    refine zj_if_ne 10 rfl rfl (fun c16 => ?_) (fun c16 => ?_)
    · exact absurd ⟨zo_n0.mp c6, zo_n0.mp c16⟩ hv
    · refine zj_bipush 11 (-2) rfl rfl (by decide) ?_
      refine zj_ireturn 12 rfl rfl rfl ?_
      exact ⟨rfl, rfl, rfl⟩
end
end
section
/-! the reference: who took, weights, seasons, images, the digest -/
def pMH (sl : Nat → Int32) (s : Nat) (fr l0 : Int32) : Nat → Int32 × Int32
  | 0 => (65536, l0)
  | t + 1 =>
    if zhas fr (nI t) then
      (if zb28 (sl s ^^^ sl t) 28 < (pMH sl s fr l0 t).2 then 1 <<< (nI t &&& 31) else if zb28 (sl s ^^^ sl t) 28 = (pMH sl s fr l0 t).2 then (pMH sl s fr l0 t).1 ||| (1 <<< (nI t &&& 31)) else (pMH sl s fr l0 t).1,
       if zb28 (sl s ^^^ sl t) 28 < (pMH sl s fr l0 t).2 then zb28 (sl s ^^^ sl t) 28 else (pMH sl s fr l0 t).2)
    else pMH sl s fr l0 t
theorem pMH_s (sl : Nat → Int32) (s : Nat) (fr l0 : Int32) (t : Nat) : pMH sl s fr l0 (t + 1) = if zhas fr (nI t) then
      (if zb28 (sl s ^^^ sl t) 28 < (pMH sl s fr l0 t).2 then 1 <<< (nI t &&& 31) else if zb28 (sl s ^^^ sl t) 28 = (pMH sl s fr l0 t).2 then (pMH sl s fr l0 t).1 ||| (1 <<< (nI t &&& 31)) else (pMH sl s fr l0 t).1,
       if zb28 (sl s ^^^ sl t) 28 < (pMH sl s fr l0 t).2 then zb28 (sl s ^^^ sl t) 28 else (pMH sl s fr l0 t).2)
    else pMH sl s fr l0 t := rfl
abbrev mMH (r : Nat → Int32) (nh s : Nat) : Int32 × Int32 := pMH (rSl r) s (pSBm r nh (rSo r s) (rSn r s)) (zb28 (rSl r s) 28 + r 779) s
theorem sI_sI (M : zMo) (j : Nat) (x y : Int32) : (M.sI j x).sI j y = M.sI j y := by
  unfold zMo.sI; rw [va_up_up]
theorem sI_id (M : zMo) (j : Nat) : M.sI j (M.2.2.1 j) = M := by
  unfold zMo.sI; rw [zva_id]
theorem sL_sL (M : zMo) (j : Nat) (x y : Int64) : (M.sL j x).sL j y = M.sL j y := by
  unfold zMo.sL; rw [va_up_up]
theorem zfull : ∀ ns, ns < 17 → ((1 : Int32) <<< (nI ns &&& 31) - 1).toInt = (2 ^ ns : Nat) - 1 := by decide +kernel
def pLSe (sl : Nat → Int32) (x y : Int32) : Nat → Int32
  | 0 => 268435455
  | s + 1 => (pLSe sl x y s &&& (if zhas x (nI s) then sl s else -1)) &&& (if zhas y (nI s) then sl s ^^^ (-1) else -1)
def pW (sl : Nat → Int32) (wt : Nat → Int32) (line : Int32) : Nat → Int32
  | 0 => 0
  | s + 1 => pW sl wt line s + (if zhas (sl s) line then wt s else -(wt s))
def pWA (wt : Nat → Int32) : Nat → Int32
  | 0 => 0
  | s + 1 => pWA wt s + wt s
def pWB (w : Nat → Int32) (all : Int32) (what : Nat) : Nat → Int32
  | 0 => 0
  | k + 1 => pWB w all what k ||| (if 0 < w k ∧ (what = 0 ∨ all ≤ 2 * w k) then 1 <<< (nI k &&& 31) else 0)
abbrev mWt (r : Nat → Int32) (s : Nat) : Int32 := r (534 + 2 * (rSo r s).toNatClampNeg)
def zcp (f g : Nat → Int32) (b k : Nat) : Nat → Int32 := fun j => if b ≤ j ∧ j < b + k then f (j - b) else g j
theorem zcp_0 (f g : Nat → Int32) (b : Nat) : zcp f g b 0 = g := by funext j; unfold zcp; rw [if_neg (by omega)]
theorem zcp_up (f g : Nat → Int32) (b k : Nat) : va_up (zcp f g b k) (b + k) (f k) = zcp f g b (k + 1) := by
  funext j
  unfold va_up zcp
  by_cases h : j = b + k
  · subst h; rw [if_pos rfl, if_pos (by omega)]; congr 1; omega
  · rw [if_neg h]
    by_cases h2 : b ≤ j ∧ j < b + k
    · rw [if_pos h2, if_pos (by omega)]
    · rw [if_neg h2, if_neg (by omega)]
def pTR (f : Nat → Int32) (h : Int64) : Nat → Int64
  | 0 => h
  | k + 1 => 31 * pTR f h k + (f k).toInt64
section
variable {E : zE} {σ : zH} {a : Nat} {M : zMo}
theorem k_Mpart0  : zM E YM_part 1 [.ref a, .int (nI 0)] (mw σ a M) (some (.long (M.2.2.2 0))) (mw σ a M) := by
  refine zM.of oM_part (by decide +kernel) rfl rfl (fun n => ?_)
  refine zj_iload_n 0 rfl rfl rfl ?_
  refine zj_if_ne 1 rfl rfl (fun c1 => ?_) (fun c1 => ?_)
  · exact absurd c1 (by decide)
  · refine zj_aload_n 2 rfl rfl rfl ?_
    refine zj_get 3 rfl rfl mw_0 rfl ?_
    refine zj_goto 4 rfl rfl ?_
    refine zj_lreturn 12 rfl rfl rfl ?_
    exact ⟨rfl, rfl, rfl⟩
theorem k_Mpart1  : zM E YM_part 1 [.ref a, .int (nI 1)] (mw σ a M) (some (.long (M.2.2.2 1))) (mw σ a M) := by
  refine zM.of oM_part (by decide +kernel) rfl rfl (fun n => ?_)
  refine zj_iload_n 0 rfl rfl rfl ?_
  refine zj_if_ne 1 rfl rfl (fun c1 => ?_) (fun c1 => ?_)
  · refine zj_iload_n 5 rfl rfl rfl ?_
    refine zj_iconst 6 (1) rfl rfl (by decide) ?_
    refine zn_icmp_ne 7 (1) (1) rfl rfl rfl rfl (by omega) (by omega) (fun c13 => ?_) (fun c13 => ?_)
    · exact absurd c13 (by decide)
    · refine zj_aload_n 8 rfl rfl rfl ?_
      refine zj_get 9 rfl rfl mw_0 rfl ?_
      refine zj_goto 10 rfl rfl ?_
      refine zj_lreturn 12 rfl rfl rfl ?_
      exact ⟨rfl, rfl, rfl⟩
  · exact absurd c1 (by decide)
theorem k_Mpart_bad (x : Int32) (hb : ¬ zr x 2) : zM E YM_part 1 [.ref a, .int x] (mw σ a M) (some (.long (-1))) (mw σ a M) := by
  refine zM.of oM_part (by decide +kernel) rfl rfl (fun n => ?_)
  refine zj_iload_n 0 rfl rfl rfl ?_
  refine zj_if_ne 1 rfl rfl (fun c1 => ?_) (fun c1 => ?_)
  · refine zj_iload_n 5 rfl rfl rfl ?_
    refine zj_iconst 6 (1) rfl rfl (by decide) ?_
    refine zj_icmp_ne 7 rfl rfl (fun c13 => ?_) (fun c13 => ?_)
    · refine zj_ldc2 11 (-1) rfl rfl (by decide) ?_
      refine zj_lreturn 12 rfl rfl rfl ?_
      exact ⟨rfl, rfl, rfl⟩
    · exact absurd (show zr x 2 by rw [c13]; decide) hb
  · exact absurd (show zr x 2 by rw [c1]; decide) hb
theorem k_Mown (v : Nat) (hv : v < 29) : zM E YM_own 2 [.ref a, .int (nI v)] (mw σ a M) (some (.int (M.1 0 779))) (mw σ a (M.sA 0 (va_up (M.1 0) 779 (nI v)))) := by
  refine zM.of oM_own (by decide +kernel) rfl rfl (fun n => ?_)
  refine zj_iload_n 0 rfl rfl rfl ?_
  refine zj_i2l 1 rfl rfl ?_
  refine zj_lconst 2 (0) rfl rfl (by decide) ?_
  refine zj_ldc2 3 (28) rfl rfl (by decide) ?_
  refine zj_csx 4 rfl rfl lk_8_51 ckM_in (k_in0 _ _ 29 (by decide)) rfl rfl rfl rfl ?_
  refine zj_if_eq 5 rfl rfl (fun c9 => ?_) (fun c9 => ?_)
  · exact absurd (zr_of (n := 29) (by omega) (by decide)) (zo_0.mp c9)
  · refine zj_aload_n 6 rfl rfl rfl ?_
    refine zj_sipush 7 (779) rfl rfl (by decide) ?_
    refine zj_iload_n 8 rfl rfl rfl ?_
    refine zj_cvx 9 rfl rfl lk_8_66 ckM_change (k_change 779 _ (by decide)) rfl mw_0 rfl rfl rfl ?_
    refine zj_goto 10 rfl rfl ?_
    refine zj_ireturn 12 rfl rfl rfl ?_
    exact ⟨rfl, rfl, rfl⟩
theorem k_Mown_bad (v : Int32) (hb : ¬ zr v 29) : zM E YM_own 2 [.ref a, .int v] (mw σ a M) (some (.int (-2))) (mw σ a M) := by
  refine zM.of oM_own (by decide +kernel) rfl rfl (fun n => ?_)
  refine zj_iload_n 0 rfl rfl rfl ?_
  refine zj_i2l 1 rfl rfl ?_
  refine zj_lconst 2 (0) rfl rfl (by decide) ?_
  refine zj_ldc2 3 (28) rfl rfl (by decide) ?_
  refine zj_csx 4 rfl rfl lk_8_51 ckM_in (k_in0 _ _ 29 (by decide)) rfl rfl rfl rfl ?_
  refine zj_if_eq 5 rfl rfl (fun c9 => ?_) (fun c9 => ?_)
  · refine zj_bipush 11 (-2) rfl rfl (by decide) ?_
    refine zj_ireturn 12 rfl rfl rfl ?_
    exact ⟨rfl, rfl, rfl⟩
  · exact absurd (zo_n0.mp c9) hb
theorem k_Merror (v : Nat) (hv : v < 29) : zM E YM_error 2 [.ref a, .int (nI v)] (mw σ a M) (some (.int (M.1 0 817))) (mw σ a (M.sA 0 (va_up (M.1 0) 817 (nI v)))) := by
  refine zM.of oM_error (by decide +kernel) rfl rfl (fun n => ?_)
  refine zj_iload_n 0 rfl rfl rfl ?_
  refine zj_i2l 1 rfl rfl ?_
  refine zj_lconst 2 (0) rfl rfl (by decide) ?_
  refine zj_ldc2 3 (28) rfl rfl (by decide) ?_
  refine zj_csx 4 rfl rfl lk_8_51 ckM_in (k_in0 _ _ 29 (by decide)) rfl rfl rfl rfl ?_
  refine zj_if_eq 5 rfl rfl (fun c9 => ?_) (fun c9 => ?_)
  · exact absurd (zr_of (n := 29) (by omega) (by decide)) (zo_0.mp c9)
  · refine zj_aload_n 6 rfl rfl rfl ?_
    refine zj_sipush 7 (817) rfl rfl (by decide) ?_
    refine zj_iload_n 8 rfl rfl rfl ?_
    refine zj_cvx 9 rfl rfl lk_8_66 ckM_change (k_change 817 _ (by decide)) rfl mw_0 rfl rfl rfl ?_
    refine zj_goto 10 rfl rfl ?_
    refine zj_ireturn 12 rfl rfl rfl ?_
    exact ⟨rfl, rfl, rfl⟩
theorem k_Merror_bad (v : Int32) (hb : ¬ zr v 29) : zM E YM_error 2 [.ref a, .int v] (mw σ a M) (some (.int (-2))) (mw σ a M) := by
  refine zM.of oM_error (by decide +kernel) rfl rfl (fun n => ?_)
  refine zj_iload_n 0 rfl rfl rfl ?_
  refine zj_i2l 1 rfl rfl ?_
  refine zj_lconst 2 (0) rfl rfl (by decide) ?_
  refine zj_ldc2 3 (28) rfl rfl (by decide) ?_
  refine zj_csx 4 rfl rfl lk_8_51 ckM_in (k_in0 _ _ 29 (by decide)) rfl rfl rfl rfl ?_
  refine zj_if_eq 5 rfl rfl (fun c9 => ?_) (fun c9 => ?_)
  · refine zj_bipush 11 (-2) rfl rfl (by decide) ?_
    refine zj_ireturn 12 rfl rfl rfl ?_
    exact ⟨rfl, rfl, rfl⟩
  · exact absurd (zo_n0.mp c9) hb
theorem k_isSheets (x : Int32) (ns : Nat) (h2 : M.1 0 549 = nI ns) (hb2 : ns ≤ 16) : zM E YM_isSheets 2 [.ref a, .int x] (mw σ a M) (some (.int (zo (zr x (2 ^ ns : Nat))))) (mw σ a M) := by
  refine zM.of oM_isSheets (by decide +kernel) rfl rfl (fun n => ?_)
  refine zj_iload_n 0 rfl rfl rfl ?_
  refine zj_i2l 1 rfl rfl ?_
  refine zj_lconst 2 (0) rfl rfl (by decide) ?_
  refine zj_iconst 3 (1) rfl rfl (by decide) ?_
  refine zj_aload_n 4 rfl rfl rfl ?_
  refine zj_get 5 rfl rfl mw_0 rfl ?_
  refine zj_sipush 6 (549) rfl rfl (by decide) ?_
  refine zn_iald 7 (549) rfl rfl mw_1 rfl (by omega) (by decide) ?_
  rw [h2]
  refine zj_ishl 8 rfl rfl ?_
  refine zj_iconst 9 (1) rfl rfl (by decide) ?_
  refine zj_isub 10 rfl rfl ?_
  refine zj_i2l 11 rfl rfl ?_
  refine zj_csx 12 rfl rfl lk_8_51 ckM_in (k_in _ _ _) rfl rfl rfl rfl ?_
  refine zj_zreturn 13 rfl rfl rfl (zo_nar _) ?_
  exact ⟨zrt (zo_c (by rw [zl0, zl0, zfull ns (by omega), Int64.toInt_zero]; unfold zr; omega)), rfl, rfl⟩
theorem l_mayHave (s : Nat) (hs : s < 80) (fr l0 : Int32) : ∀ (m : Nat) (t : Nat) (o5 : Option Value), (t + m = s) → ∀ n, zB E YM_mayHave 2 n (some (.int (pMH (rSl (M.1 0)) s fr l0 s).1)) (mw σ a (M.sI 6 (pMH (rSl (M.1 0)) s fr l0 s).2)) (mw σ a (M.sI 6 (pMH (rSl (M.1 0)) s fr l0 t).2)) 42 [some (.ref a), some (.int (nI s)), some (.int fr), some (.int (pMH (rSl (M.1 0)) s fr l0 t).1), some (.int (nI t)), o5] [] := by
  intro m
  induction m using Nat.strongRecOn with
  | ind m ih =>
  intro t o5 ht n
  refine zj_iload 24 rfl rfl rfl ?_
  refine zj_iload_n 25 rfl rfl rfl ?_
  refine zn_icmp_ge 26 (t) (s) rfl rfl rfl rfl (by omega) (by omega) (fun c45 => ?_) (fun c45 => ?_)
  · refine zj_iload_n 75 rfl rfl rfl ?_
    refine zj_ireturn 76 rfl rfl rfl ?_
    obtain rfl : t = s := by omega
    exact ⟨rfl, rfl, rfl⟩
  · refine zj_iload_n 27 rfl rfl rfl ?_
    refine zj_iload 28 rfl rfl rfl ?_
    refine zj_ishr 29 rfl rfl ?_
    refine zj_iconst 30 (1) rfl rfl (by decide) ?_
    refine zj_iand 31 rfl rfl ?_
    refine zj_iconst 32 (1) rfl rfl (by decide) ?_
    refine zj_icmp_ne 33 rfl rfl (fun c55 => ?_) (fun c55 => ?_)
    · refine zn_iinc 73 (t) rfl rfl rfl rfl ?_
      refine zj_goto 74 rfl rfl ?_
      have e := pMH_s (rSl (M.1 0)) s fr l0 t
      have hh := ih (m - 1) (by omega) (t + 1)
      first
        | (rw [if_neg (fun g => c55 ((zhas1_iff _ _).mpr g))] at e
           rw [e] at hh
           exact hh _ (by omega) n)
        | exact absurd c118 c81
        | exact absurd c81 c118
        | (rw [if_pos ((zhas1_iff _ _).mp c55)] at e
           rw [sI_sI]
           have c81' : zb28 (rSl (M.1 0) s ^^^ rSl (M.1 0) t) 28 < (pMH (rSl (M.1 0)) s fr l0 t).2 := Int32.not_le.mp c81
           rw [if_pos c81', if_pos c81'] at e
           rw [e] at hh
           exact hh _ (by omega) n)
        | (rw [if_pos ((zhas1_iff _ _).mp c55)] at e
           rw [sI_sI]
           have c81' : ¬ zb28 (rSl (M.1 0) s ^^^ rSl (M.1 0) t) 28 < (pMH (rSl (M.1 0)) s fr l0 t).2 := Int32.not_lt.mpr c81
           rw [if_neg c81', if_neg c81'] at e
           first
             | (have c97' : zb28 (rSl (M.1 0) s ^^^ rSl (M.1 0) t) 28 = (pMH (rSl (M.1 0)) s fr l0 t).2 := c97
                rw [if_pos c97'] at e
                rw [e] at hh
                exact hh _ (by omega) n)
             | (have c97' : ¬ zb28 (rSl (M.1 0) s ^^^ rSl (M.1 0) t) 28 = (pMH (rSl (M.1 0)) s fr l0 t).2 := c97
                rw [if_neg c97'] at e
                rw [e] at hh
                exact hh _ (by omega) n))
    · refine zj_aload_n 34 rfl rfl rfl ?_
      refine zj_iload_n 35 rfl rfl rfl ?_
      refine zj_cvx 36 rfl rfl lk_8_207 ckM_linesOf (k_linesOf _ (by omega)) rfl mw_0 rfl rfl rfl ?_
      refine zj_aload_n 37 rfl rfl rfl ?_
      refine zj_iload 38 rfl rfl rfl ?_
      refine zj_cvx 39 rfl rfl lk_8_207 ckM_linesOf (k_linesOf _ (by omega)) rfl mw_0 rfl rfl rfl ?_
      refine zj_ixor 40 rfl rfl ?_
      refine zj_csx 41 rfl rfl lk_8_184 ckM_bitsOf (k_bitsOf _) rfl rfl rfl rfl ?_
      refine zj_istore 42 rfl rfl ?_
      refine zj_iload 43 rfl rfl rfl ?_
      refine zj_aload_n 44 rfl rfl rfl ?_
      refine zj_get 45 rfl rfl mw_0 rfl ?_
      refine zj_icmp_ge 46 rfl rfl (fun c81 => ?_) (fun c81 => ?_)
      · refine zj_iload 51 rfl rfl rfl ?_
        refine zj_aload_n 52 rfl rfl rfl ?_
        refine zj_get 53 rfl rfl mw_0 rfl ?_
        refine zj_icmp_ne 54 rfl rfl (fun c97 => ?_) (fun c97 => ?_)
        · refine zj_iload_n 61 rfl rfl rfl ?_
          refine zj_istore_n 62 rfl rfl ?_
          refine zj_aload_n 63 rfl rfl rfl ?_
          refine zj_iload 64 rfl rfl rfl ?_
          refine zj_aload_n 65 rfl rfl rfl ?_
          refine zj_get 66 rfl rfl mw_0 rfl ?_
          refine zj_icmp_ge 67 rfl rfl (fun c118 => ?_) (fun c118 => ?_)
          · refine zj_aload_n 70 rfl rfl rfl ?_
            refine zj_get 71 rfl rfl mw_0 rfl ?_
            refine zn_put 72 rfl rfl mw_0 rfl rfl rfl rfl mw_p_leastCost ?_
            refine zn_iinc 73 (t) rfl rfl rfl rfl ?_
            refine zj_goto 74 rfl rfl ?_
            have e := pMH_s (rSl (M.1 0)) s fr l0 t
            have hh := ih (m - 1) (by omega) (t + 1)
            first
              | (rw [if_neg (fun g => c55 ((zhas1_iff _ _).mpr g))] at e
                 rw [e] at hh
                 exact hh _ (by omega) n)
              | exact absurd c118 c81
              | exact absurd c81 c118
              | (rw [if_pos ((zhas1_iff _ _).mp c55)] at e
                 rw [sI_sI]
                 have c81' : zb28 (rSl (M.1 0) s ^^^ rSl (M.1 0) t) 28 < (pMH (rSl (M.1 0)) s fr l0 t).2 := Int32.not_le.mp c81
                 rw [if_pos c81', if_pos c81'] at e
                 rw [e] at hh
                 exact hh _ (by omega) n)
              | (rw [if_pos ((zhas1_iff _ _).mp c55)] at e
                 rw [sI_sI]
                 have c81' : ¬ zb28 (rSl (M.1 0) s ^^^ rSl (M.1 0) t) 28 < (pMH (rSl (M.1 0)) s fr l0 t).2 := Int32.not_lt.mpr c81
                 rw [if_neg c81', if_neg c81'] at e
                 first
                   | (have c97' : zb28 (rSl (M.1 0) s ^^^ rSl (M.1 0) t) 28 = (pMH (rSl (M.1 0)) s fr l0 t).2 := c97
                      rw [if_pos c97'] at e
                      rw [e] at hh
                      exact hh _ (by omega) n)
                   | (have c97' : ¬ zb28 (rSl (M.1 0) s ^^^ rSl (M.1 0) t) 28 = (pMH (rSl (M.1 0)) s fr l0 t).2 := c97
                      rw [if_neg c97'] at e
                      rw [e] at hh
                      exact hh _ (by omega) n))
          · refine zj_iload 68 rfl rfl rfl ?_
            refine zj_goto 69 rfl rfl ?_
            refine zn_put 72 rfl rfl mw_0 rfl rfl rfl rfl mw_p_leastCost ?_
            refine zn_iinc 73 (t) rfl rfl rfl rfl ?_
            refine zj_goto 74 rfl rfl ?_
            have e := pMH_s (rSl (M.1 0)) s fr l0 t
            have hh := ih (m - 1) (by omega) (t + 1)
            first
              | (rw [if_neg (fun g => c55 ((zhas1_iff _ _).mpr g))] at e
                 rw [e] at hh
                 exact hh _ (by omega) n)
              | exact absurd c118 c81
              | exact absurd c81 c118
              | (rw [if_pos ((zhas1_iff _ _).mp c55)] at e
                 rw [sI_sI]
                 have c81' : zb28 (rSl (M.1 0) s ^^^ rSl (M.1 0) t) 28 < (pMH (rSl (M.1 0)) s fr l0 t).2 := Int32.not_le.mp c81
                 rw [if_pos c81', if_pos c81'] at e
                 rw [e] at hh
                 exact hh _ (by omega) n)
              | (rw [if_pos ((zhas1_iff _ _).mp c55)] at e
                 rw [sI_sI]
                 have c81' : ¬ zb28 (rSl (M.1 0) s ^^^ rSl (M.1 0) t) 28 < (pMH (rSl (M.1 0)) s fr l0 t).2 := Int32.not_lt.mpr c81
                 rw [if_neg c81', if_neg c81'] at e
                 first
                   | (have c97' : zb28 (rSl (M.1 0) s ^^^ rSl (M.1 0) t) 28 = (pMH (rSl (M.1 0)) s fr l0 t).2 := c97
                      rw [if_pos c97'] at e
                      rw [e] at hh
                      exact hh _ (by omega) n)
                   | (have c97' : ¬ zb28 (rSl (M.1 0) s ^^^ rSl (M.1 0) t) 28 = (pMH (rSl (M.1 0)) s fr l0 t).2 := c97
                      rw [if_neg c97'] at e
                      rw [e] at hh
                      exact hh _ (by omega) n))
        · refine zj_iload_n 55 rfl rfl rfl ?_
          refine zj_iconst 56 (1) rfl rfl (by decide) ?_
          refine zj_iload 57 rfl rfl rfl ?_
          refine zj_ishl 58 rfl rfl ?_
          refine zj_ior 59 rfl rfl ?_
          refine zj_goto 60 rfl rfl ?_
          refine zj_istore_n 62 rfl rfl ?_
          refine zj_aload_n 63 rfl rfl rfl ?_
          refine zj_iload 64 rfl rfl rfl ?_
          refine zj_aload_n 65 rfl rfl rfl ?_
          refine zj_get 66 rfl rfl mw_0 rfl ?_
          refine zj_icmp_ge 67 rfl rfl (fun c118 => ?_) (fun c118 => ?_)
          · refine zj_aload_n 70 rfl rfl rfl ?_
            refine zj_get 71 rfl rfl mw_0 rfl ?_
            refine zn_put 72 rfl rfl mw_0 rfl rfl rfl rfl mw_p_leastCost ?_
            refine zn_iinc 73 (t) rfl rfl rfl rfl ?_
            refine zj_goto 74 rfl rfl ?_
            have e := pMH_s (rSl (M.1 0)) s fr l0 t
            have hh := ih (m - 1) (by omega) (t + 1)
            first
              | (rw [if_neg (fun g => c55 ((zhas1_iff _ _).mpr g))] at e
                 rw [e] at hh
                 exact hh _ (by omega) n)
              | exact absurd c118 c81
              | exact absurd c81 c118
              | (rw [if_pos ((zhas1_iff _ _).mp c55)] at e
                 rw [sI_sI]
                 have c81' : zb28 (rSl (M.1 0) s ^^^ rSl (M.1 0) t) 28 < (pMH (rSl (M.1 0)) s fr l0 t).2 := Int32.not_le.mp c81
                 rw [if_pos c81', if_pos c81'] at e
                 rw [e] at hh
                 exact hh _ (by omega) n)
              | (rw [if_pos ((zhas1_iff _ _).mp c55)] at e
                 rw [sI_sI]
                 have c81' : ¬ zb28 (rSl (M.1 0) s ^^^ rSl (M.1 0) t) 28 < (pMH (rSl (M.1 0)) s fr l0 t).2 := Int32.not_lt.mpr c81
                 rw [if_neg c81', if_neg c81'] at e
                 first
                   | (have c97' : zb28 (rSl (M.1 0) s ^^^ rSl (M.1 0) t) 28 = (pMH (rSl (M.1 0)) s fr l0 t).2 := c97
                      rw [if_pos c97'] at e
                      rw [e] at hh
                      exact hh _ (by omega) n)
                   | (have c97' : ¬ zb28 (rSl (M.1 0) s ^^^ rSl (M.1 0) t) 28 = (pMH (rSl (M.1 0)) s fr l0 t).2 := c97
                      rw [if_neg c97'] at e
                      rw [e] at hh
                      exact hh _ (by omega) n))
          · refine zj_iload 68 rfl rfl rfl ?_
            refine zj_goto 69 rfl rfl ?_
            refine zn_put 72 rfl rfl mw_0 rfl rfl rfl rfl mw_p_leastCost ?_
            refine zn_iinc 73 (t) rfl rfl rfl rfl ?_
            refine zj_goto 74 rfl rfl ?_
            have e := pMH_s (rSl (M.1 0)) s fr l0 t
            have hh := ih (m - 1) (by omega) (t + 1)
            first
              | (rw [if_neg (fun g => c55 ((zhas1_iff _ _).mpr g))] at e
                 rw [e] at hh
                 exact hh _ (by omega) n)
              | exact absurd c118 c81
              | exact absurd c81 c118
              | (rw [if_pos ((zhas1_iff _ _).mp c55)] at e
                 rw [sI_sI]
                 have c81' : zb28 (rSl (M.1 0) s ^^^ rSl (M.1 0) t) 28 < (pMH (rSl (M.1 0)) s fr l0 t).2 := Int32.not_le.mp c81
                 rw [if_pos c81', if_pos c81'] at e
                 rw [e] at hh
                 exact hh _ (by omega) n)
              | (rw [if_pos ((zhas1_iff _ _).mp c55)] at e
                 rw [sI_sI]
                 have c81' : ¬ zb28 (rSl (M.1 0) s ^^^ rSl (M.1 0) t) 28 < (pMH (rSl (M.1 0)) s fr l0 t).2 := Int32.not_lt.mpr c81
                 rw [if_neg c81', if_neg c81'] at e
                 first
                   | (have c97' : zb28 (rSl (M.1 0) s ^^^ rSl (M.1 0) t) 28 = (pMH (rSl (M.1 0)) s fr l0 t).2 := c97
                      rw [if_pos c97'] at e
                      rw [e] at hh
                      exact hh _ (by omega) n)
                   | (have c97' : ¬ zb28 (rSl (M.1 0) s ^^^ rSl (M.1 0) t) 28 = (pMH (rSl (M.1 0)) s fr l0 t).2 := c97
                      rw [if_neg c97'] at e
                      rw [e] at hh
                      exact hh _ (by omega) n))
      · refine zj_iconst 47 (1) rfl rfl (by decide) ?_
        refine zj_iload 48 rfl rfl rfl ?_
        refine zj_ishl 49 rfl rfl ?_
        refine zj_goto 50 rfl rfl ?_
        refine zj_istore_n 62 rfl rfl ?_
        refine zj_aload_n 63 rfl rfl rfl ?_
        refine zj_iload 64 rfl rfl rfl ?_
        refine zj_aload_n 65 rfl rfl rfl ?_
        refine zj_get 66 rfl rfl mw_0 rfl ?_
        refine zj_icmp_ge 67 rfl rfl (fun c118 => ?_) (fun c118 => ?_)
        · refine zj_aload_n 70 rfl rfl rfl ?_
          refine zj_get 71 rfl rfl mw_0 rfl ?_
          refine zn_put 72 rfl rfl mw_0 rfl rfl rfl rfl mw_p_leastCost ?_
          refine zn_iinc 73 (t) rfl rfl rfl rfl ?_
          refine zj_goto 74 rfl rfl ?_
          have e := pMH_s (rSl (M.1 0)) s fr l0 t
          have hh := ih (m - 1) (by omega) (t + 1)
          first
            | (rw [if_neg (fun g => c55 ((zhas1_iff _ _).mpr g))] at e
               rw [e] at hh
               exact hh _ (by omega) n)
            | exact absurd c118 c81
            | exact absurd c81 c118
            | (rw [if_pos ((zhas1_iff _ _).mp c55)] at e
               rw [sI_sI]
               have c81' : zb28 (rSl (M.1 0) s ^^^ rSl (M.1 0) t) 28 < (pMH (rSl (M.1 0)) s fr l0 t).2 := Int32.not_le.mp c81
               rw [if_pos c81', if_pos c81'] at e
               rw [e] at hh
               exact hh _ (by omega) n)
            | (rw [if_pos ((zhas1_iff _ _).mp c55)] at e
               rw [sI_sI]
               have c81' : ¬ zb28 (rSl (M.1 0) s ^^^ rSl (M.1 0) t) 28 < (pMH (rSl (M.1 0)) s fr l0 t).2 := Int32.not_lt.mpr c81
               rw [if_neg c81', if_neg c81'] at e
               first
                 | (have c97' : zb28 (rSl (M.1 0) s ^^^ rSl (M.1 0) t) 28 = (pMH (rSl (M.1 0)) s fr l0 t).2 := c97
                    rw [if_pos c97'] at e
                    rw [e] at hh
                    exact hh _ (by omega) n)
                 | (have c97' : ¬ zb28 (rSl (M.1 0) s ^^^ rSl (M.1 0) t) 28 = (pMH (rSl (M.1 0)) s fr l0 t).2 := c97
                    rw [if_neg c97'] at e
                    rw [e] at hh
                    exact hh _ (by omega) n))
        · refine zj_iload 68 rfl rfl rfl ?_
          refine zj_goto 69 rfl rfl ?_
          refine zn_put 72 rfl rfl mw_0 rfl rfl rfl rfl mw_p_leastCost ?_
          refine zn_iinc 73 (t) rfl rfl rfl rfl ?_
          refine zj_goto 74 rfl rfl ?_
          have e := pMH_s (rSl (M.1 0)) s fr l0 t
          have hh := ih (m - 1) (by omega) (t + 1)
          first
            | (rw [if_neg (fun g => c55 ((zhas1_iff _ _).mpr g))] at e
               rw [e] at hh
               exact hh _ (by omega) n)
            | exact absurd c118 c81
            | exact absurd c81 c118
            | (rw [if_pos ((zhas1_iff _ _).mp c55)] at e
               rw [sI_sI]
               have c81' : zb28 (rSl (M.1 0) s ^^^ rSl (M.1 0) t) 28 < (pMH (rSl (M.1 0)) s fr l0 t).2 := Int32.not_le.mp c81
               rw [if_pos c81', if_pos c81'] at e
               rw [e] at hh
               exact hh _ (by omega) n)
            | (rw [if_pos ((zhas1_iff _ _).mp c55)] at e
               rw [sI_sI]
               have c81' : ¬ zb28 (rSl (M.1 0) s ^^^ rSl (M.1 0) t) 28 < (pMH (rSl (M.1 0)) s fr l0 t).2 := Int32.not_lt.mpr c81
               rw [if_neg c81', if_neg c81'] at e
               first
                 | (have c97' : zb28 (rSl (M.1 0) s ^^^ rSl (M.1 0) t) 28 = (pMH (rSl (M.1 0)) s fr l0 t).2 := c97
                    rw [if_pos c97'] at e
                    rw [e] at hh
                    exact hh _ (by omega) n)
                 | (have c97' : ¬ zb28 (rSl (M.1 0) s ^^^ rSl (M.1 0) t) 28 = (pMH (rSl (M.1 0)) s fr l0 t).2 := c97
                    rw [if_neg c97'] at e
                    rw [e] at hh
                    exact hh _ (by omega) n))
theorem k_mayHave (s : Nat) (hs : s < 80) (nh : Nat) (h : M.1 0 598 = nI nh) (hb : nh ≤ 60) : zM E YM_mayHave 2 [.ref a, .int (nI s)] (mw σ a M) (some (.int (mMH (M.1 0) nh s).1)) (mw σ a (M.sI 6 (mMH (M.1 0) nh s).2)) := by
  refine zM.of oM_mayHave (by decide +kernel) rfl rfl (fun n => ?_)
  refine zj_aload_n 0 rfl rfl rfl ?_
  refine zj_aload_n 1 rfl rfl rfl ?_
  refine zj_iload_n 2 rfl rfl rfl ?_
  refine zj_cvx 3 rfl rfl lk_8_216 ckM_observerOf (k_observerOf _ (by omega)) rfl mw_0 rfl rfl rfl ?_
  refine zj_aload_n 4 rfl rfl rfl ?_
  refine zj_iload_n 5 rfl rfl rfl ?_
  refine zj_cvx 6 rfl rfl lk_8_192 ckM_nightOf (k_nightOf _ (by omega)) rfl mw_0 rfl rfl rfl ?_
  refine zj_cvx 7 rfl rfl lk_8_204 ckM_sheetsBy (k_sheetsBy _ _ nh h hb) rfl mw_0 rfl rfl rfl ?_
  refine zj_istore_n 8 rfl rfl ?_
  refine zj_aload_n 9 rfl rfl rfl ?_
  refine zj_aload_n 10 rfl rfl rfl ?_
  refine zj_iload_n 11 rfl rfl rfl ?_
  refine zj_cvx 12 rfl rfl lk_8_207 ckM_linesOf (k_linesOf _ (by omega)) rfl mw_0 rfl rfl rfl ?_
  refine zj_csx 13 rfl rfl lk_8_184 ckM_bitsOf (k_bitsOf _) rfl rfl rfl rfl ?_
  refine zj_aload_n 14 rfl rfl rfl ?_
  refine zj_get 15 rfl rfl mw_0 rfl ?_
  refine zj_sipush 16 (779) rfl rfl (by decide) ?_
  refine zn_iald 17 (779) rfl rfl mw_1 rfl (by omega) (by decide) ?_
  refine zj_iadd 18 rfl rfl ?_
  refine zn_put 19 rfl rfl mw_0 rfl rfl rfl rfl mw_p_leastCost ?_
  refine zj_ldc 20 (65536) rfl rfl (by decide) ?_
  refine zj_istore_n 21 rfl rfl ?_
  refine zj_iconst 22 (0) rfl rfl (by decide) ?_
  refine zj_istore 23 rfl rfl ?_
  exact l_mayHave s hs _ _ s 0 _ (by omega) n
theorem k_weightOf (s : Nat) (hs : s < 80) (hz : zr (rSo (M.1 0) s) 8) : zM E YM_weightOf 2 [.ref a, .int (nI s)] (mw σ a M) (some (.int (mWt (M.1 0) s))) (mw σ a M) := by
  obtain ⟨o, ho, he⟩ := zr_nI (n := 8) hz
  have hc : (rSo (M.1 0) s).toNatClampNeg = o := by rw [he]; exact nI_clamp (by omega)
  refine zM.of oM_weightOf (by decide +kernel) rfl rfl (fun n => ?_)
  refine zj_aload_n 0 rfl rfl rfl ?_
  refine zj_get 1 rfl rfl mw_0 rfl ?_
  refine zj_sipush 2 (534) rfl rfl (by decide) ?_
  refine zj_iconst 3 (2) rfl rfl (by decide) ?_
  refine zj_aload_n 4 rfl rfl rfl ?_
  refine zj_iload_n 5 rfl rfl rfl ?_
  refine zj_cvx 6 rfl rfl lk_8_216 ckM_observerOf (k_observerOf _ (by omega)) rfl mw_0 rfl rfl rfl ?_
  refine zn_imul 7 (2) (o) rfl rfl rfl he ?_
  refine zn_iadd 8 (534) (2 * o) rfl rfl rfl rfl ?_
  refine zn_iald 9 ((534) + (2 * o)) rfl rfl mw_1 rfl (by omega) (by decide) ?_
  refine zj_ireturn 10 rfl rfl rfl ?_
  exact ⟨zrt (by unfold mWt; rw [hc]), rfl, rfl⟩
theorem l_weight (line : Int32) (ns : Nat) (h2 : M.1 0 549 = nI ns) (hb2 : ns ≤ 16) (hz : ∀ s, s < ns → zr (rSo (M.1 0) s) 8) : ∀ (m : Nat) (k : Nat), (k + m = ns) → ∀ n, zB E YM_weight 3 n (some (.int (pW (rSl (M.1 0)) (mWt (M.1 0))  line ns))) (mw σ a M) (mw σ a M) 4 [some (.ref a), some (.int line), some (.int (pW (rSl (M.1 0)) (mWt (M.1 0))  line k)), some (.int (nI k))] [] := by
  intro m
  induction m using Nat.strongRecOn with
  | ind m ih =>
  intro k hk n
  refine zj_iload_n 4 rfl rfl rfl ?_
  refine zj_aload_n 5 rfl rfl rfl ?_
  refine zj_get 6 rfl rfl mw_0 rfl ?_
  refine zj_sipush 7 (549) rfl rfl (by decide) ?_
  refine zn_iald 8 (549) rfl rfl mw_1 rfl (by omega) (by decide) ?_
  refine zn_icmp_ge 9 (k) (ns) rfl rfl rfl h2 (by omega) (by omega) (fun c13 => ?_) (fun c13 => ?_)
  · refine zj_iload_n 32 rfl rfl rfl ?_
    refine zj_ireturn 33 rfl rfl rfl ?_
    obtain rfl : k = ns := by omega
    exact ⟨rfl, rfl, rfl⟩
  · refine zj_iload_n 10 rfl rfl rfl ?_
    refine zj_aload_n 11 rfl rfl rfl ?_
    refine zj_iload_n 12 rfl rfl rfl ?_
    refine zj_cvx 13 rfl rfl lk_8_207 ckM_linesOf (k_linesOf _ (by omega)) rfl mw_0 rfl rfl rfl ?_
    refine zj_iload_n 14 rfl rfl rfl ?_
    refine zj_ishr 15 rfl rfl ?_
    refine zj_iconst 16 (1) rfl rfl (by decide) ?_
    refine zj_iand 17 rfl rfl ?_
    refine zj_iconst 18 (1) rfl rfl (by decide) ?_
    refine zj_icmp_ne 19 rfl rfl (fun c27 => ?_) (fun c27 => ?_)
    · refine zj_aload_n 24 rfl rfl rfl ?_
      refine zj_iload_n 25 rfl rfl rfl ?_
      refine zj_cvx 26 rfl rfl lk_8_269 ckM_weightOf (k_weightOf _ (by omega) (hz _ (by omega))) rfl mw_0 rfl rfl rfl ?_
      refine zj_ineg 27 rfl rfl ?_
      refine zj_iadd 28 rfl rfl ?_
      refine zj_istore_n 29 rfl rfl ?_
      refine zn_iinc 30 (k) rfl rfl rfl rfl ?_
      refine zj_goto 31 rfl rfl ?_
      have e : pW (rSl (M.1 0)) (mWt (M.1 0))  line (k + 1) = pW (rSl (M.1 0)) (mWt (M.1 0))  line k + (if zhas (rSl (M.1 0) k) line then mWt (M.1 0) k else -(mWt (M.1 0) k)) := rfl
      have hh := ih (m - 1) (by omega) (k + 1) (by omega) n
      first
        | (rw [e, if_pos ((zhas1_iff _ _).mp c27)] at hh; exact hh)
        | (rw [e, if_neg (fun g => c27 ((zhas1_iff _ _).mpr g))] at hh; exact hh)
    · refine zj_aload_n 20 rfl rfl rfl ?_
      refine zj_iload_n 21 rfl rfl rfl ?_
      refine zj_cvx 22 rfl rfl lk_8_269 ckM_weightOf (k_weightOf _ (by omega) (hz _ (by omega))) rfl mw_0 rfl rfl rfl ?_
      refine zj_goto 23 rfl rfl ?_
      refine zj_iadd 28 rfl rfl ?_
      refine zj_istore_n 29 rfl rfl ?_
      refine zn_iinc 30 (k) rfl rfl rfl rfl ?_
      refine zj_goto 31 rfl rfl ?_
      have e : pW (rSl (M.1 0)) (mWt (M.1 0))  line (k + 1) = pW (rSl (M.1 0)) (mWt (M.1 0))  line k + (if zhas (rSl (M.1 0) k) line then mWt (M.1 0) k else -(mWt (M.1 0) k)) := rfl
      have hh := ih (m - 1) (by omega) (k + 1) (by omega) n
      first
        | (rw [e, if_pos ((zhas1_iff _ _).mp c27)] at hh; exact hh)
        | (rw [e, if_neg (fun g => c27 ((zhas1_iff _ _).mpr g))] at hh; exact hh)
theorem k_weight (line : Int32) (ns : Nat) (h2 : M.1 0 549 = nI ns) (hb2 : ns ≤ 16) (hz : ∀ s, s < ns → zr (rSo (M.1 0) s) 8) : zM E YM_weight 3 [.ref a, .int line] (mw σ a M) (some (.int (pW (rSl (M.1 0)) (mWt (M.1 0))  line ns))) (mw σ a M) := by
  refine zM.of oM_weight (by decide +kernel) rfl rfl (fun n => ?_)
  refine zj_iconst 0 (0) rfl rfl (by decide) ?_
  refine zj_istore_n 1 rfl rfl ?_
  refine zj_iconst 2 (0) rfl rfl (by decide) ?_
  refine zj_istore_n 3 rfl rfl ?_
  exact l_weight line ns h2 hb2 hz ns 0 (by omega) n
theorem l_season (x y : Int32) (ns : Nat) (h2 : M.1 0 549 = nI ns) (hb2 : ns ≤ 16) : ∀ (m : Nat) (k : Nat), (k + m = ns) → ∀ n, zB E YM_season 3 n (some (.int (pLSe (rSl (M.1 0)) x y ns))) (mw σ a M) (mw σ a M) 40 [some (.ref a), some (.int x), some (.int y), some (.int (pLSe (rSl (M.1 0)) x y k)), some (.int (nI k))] [] := by
  intro m
  induction m using Nat.strongRecOn with
  | ind m ih =>
  intro k hk n
  refine zj_iload 22 rfl rfl rfl ?_
  refine zj_aload_n 23 rfl rfl rfl ?_
  refine zj_get 24 rfl rfl mw_0 rfl ?_
  refine zj_sipush 25 (549) rfl rfl (by decide) ?_
  refine zn_iald 26 (549) rfl rfl mw_1 rfl (by omega) (by decide) ?_
  refine zn_icmp_ge 27 (k) (ns) rfl rfl rfl h2 (by omega) (by omega) (fun c50 => ?_) (fun c50 => ?_)
  · refine zj_iload_n 62 rfl rfl rfl ?_
    refine zj_ireturn 63 rfl rfl rfl ?_
    obtain rfl : k = ns := by omega
    exact ⟨rfl, rfl, rfl⟩
  · refine zj_iload_n 28 rfl rfl rfl ?_
    refine zj_iload_n 29 rfl rfl rfl ?_
    refine zj_iload 30 rfl rfl rfl ?_
    refine zj_ishr 31 rfl rfl ?_
    refine zj_iconst 32 (1) rfl rfl (by decide) ?_
    refine zj_iand 33 rfl rfl ?_
    refine zj_iconst 34 (1) rfl rfl (by decide) ?_
    refine zj_icmp_ne 35 rfl rfl (fun c61 => ?_) (fun c61 => ?_)
    · refine zj_iconst 40 (-1) rfl rfl (by decide) ?_
      refine zj_iand 41 rfl rfl ?_
      refine zj_istore_n 42 rfl rfl ?_
      refine zj_iload_n 43 rfl rfl rfl ?_
      refine zj_iload_n 44 rfl rfl rfl ?_
      refine zj_iload 45 rfl rfl rfl ?_
      refine zj_ishr 46 rfl rfl ?_
      refine zj_iconst 47 (1) rfl rfl (by decide) ?_
      refine zj_iand 48 rfl rfl ?_
      refine zj_iconst 49 (1) rfl rfl (by decide) ?_
      refine zj_icmp_ne 50 rfl rfl (fun c84 => ?_) (fun c84 => ?_)
      · refine zj_iconst 57 (-1) rfl rfl (by decide) ?_
        refine zj_iand 58 rfl rfl ?_
        refine zj_istore_n 59 rfl rfl ?_
        refine zn_iinc 60 (k) rfl rfl rfl rfl ?_
        refine zj_goto 61 rfl rfl ?_
        have e : pLSe (rSl (M.1 0)) x y (k + 1) = (pLSe (rSl (M.1 0)) x y k &&& (if zhas x (nI k) then rSl (M.1 0) k else -1)) &&& (if zhas y (nI k) then rSl (M.1 0) k ^^^ (-1) else -1) := rfl
        have hh := ih (m - 1) (by omega) (k + 1) (by omega) n
        rw [e] at hh
        first | rw [if_pos ((zhas1_iff _ _).mp c61)] at hh | rw [if_neg (fun g => c61 ((zhas1_iff _ _).mpr g))] at hh
        first | rw [if_pos ((zhas1_iff _ _).mp c84)] at hh | rw [if_neg (fun g => c84 ((zhas1_iff _ _).mpr g))] at hh
        exact hh
      · refine zj_aload_n 51 rfl rfl rfl ?_
        refine zj_iload 52 rfl rfl rfl ?_
        refine zj_cvx 53 rfl rfl lk_8_207 ckM_linesOf (k_linesOf _ (by omega)) rfl mw_0 rfl rfl rfl ?_
        refine zj_iconst 54 (-1) rfl rfl (by decide) ?_
        refine zj_ixor 55 rfl rfl ?_
        refine zj_goto 56 rfl rfl ?_
        refine zj_iand 58 rfl rfl ?_
        refine zj_istore_n 59 rfl rfl ?_
        refine zn_iinc 60 (k) rfl rfl rfl rfl ?_
        refine zj_goto 61 rfl rfl ?_
        have e : pLSe (rSl (M.1 0)) x y (k + 1) = (pLSe (rSl (M.1 0)) x y k &&& (if zhas x (nI k) then rSl (M.1 0) k else -1)) &&& (if zhas y (nI k) then rSl (M.1 0) k ^^^ (-1) else -1) := rfl
        have hh := ih (m - 1) (by omega) (k + 1) (by omega) n
        rw [e] at hh
        first | rw [if_pos ((zhas1_iff _ _).mp c61)] at hh | rw [if_neg (fun g => c61 ((zhas1_iff _ _).mpr g))] at hh
        first | rw [if_pos ((zhas1_iff _ _).mp c84)] at hh | rw [if_neg (fun g => c84 ((zhas1_iff _ _).mpr g))] at hh
        exact hh
    · refine zj_aload_n 36 rfl rfl rfl ?_
      refine zj_iload 37 rfl rfl rfl ?_
      refine zj_cvx 38 rfl rfl lk_8_207 ckM_linesOf (k_linesOf _ (by omega)) rfl mw_0 rfl rfl rfl ?_
      refine zj_goto 39 rfl rfl ?_
      refine zj_iand 41 rfl rfl ?_
      refine zj_istore_n 42 rfl rfl ?_
      refine zj_iload_n 43 rfl rfl rfl ?_
      refine zj_iload_n 44 rfl rfl rfl ?_
      refine zj_iload 45 rfl rfl rfl ?_
      refine zj_ishr 46 rfl rfl ?_
      refine zj_iconst 47 (1) rfl rfl (by decide) ?_
      refine zj_iand 48 rfl rfl ?_
      refine zj_iconst 49 (1) rfl rfl (by decide) ?_
      refine zj_icmp_ne 50 rfl rfl (fun c84 => ?_) (fun c84 => ?_)
      · refine zj_iconst 57 (-1) rfl rfl (by decide) ?_
        refine zj_iand 58 rfl rfl ?_
        refine zj_istore_n 59 rfl rfl ?_
        refine zn_iinc 60 (k) rfl rfl rfl rfl ?_
        refine zj_goto 61 rfl rfl ?_
        have e : pLSe (rSl (M.1 0)) x y (k + 1) = (pLSe (rSl (M.1 0)) x y k &&& (if zhas x (nI k) then rSl (M.1 0) k else -1)) &&& (if zhas y (nI k) then rSl (M.1 0) k ^^^ (-1) else -1) := rfl
        have hh := ih (m - 1) (by omega) (k + 1) (by omega) n
        rw [e] at hh
        first | rw [if_pos ((zhas1_iff _ _).mp c61)] at hh | rw [if_neg (fun g => c61 ((zhas1_iff _ _).mpr g))] at hh
        first | rw [if_pos ((zhas1_iff _ _).mp c84)] at hh | rw [if_neg (fun g => c84 ((zhas1_iff _ _).mpr g))] at hh
        exact hh
      · refine zj_aload_n 51 rfl rfl rfl ?_
        refine zj_iload 52 rfl rfl rfl ?_
        refine zj_cvx 53 rfl rfl lk_8_207 ckM_linesOf (k_linesOf _ (by omega)) rfl mw_0 rfl rfl rfl ?_
        refine zj_iconst 54 (-1) rfl rfl (by decide) ?_
        refine zj_ixor 55 rfl rfl ?_
        refine zj_goto 56 rfl rfl ?_
        refine zj_iand 58 rfl rfl ?_
        refine zj_istore_n 59 rfl rfl ?_
        refine zn_iinc 60 (k) rfl rfl rfl rfl ?_
        refine zj_goto 61 rfl rfl ?_
        have e : pLSe (rSl (M.1 0)) x y (k + 1) = (pLSe (rSl (M.1 0)) x y k &&& (if zhas x (nI k) then rSl (M.1 0) k else -1)) &&& (if zhas y (nI k) then rSl (M.1 0) k ^^^ (-1) else -1) := rfl
        have hh := ih (m - 1) (by omega) (k + 1) (by omega) n
        rw [e] at hh
        first | rw [if_pos ((zhas1_iff _ _).mp c61)] at hh | rw [if_neg (fun g => c61 ((zhas1_iff _ _).mpr g))] at hh
        first | rw [if_pos ((zhas1_iff _ _).mp c84)] at hh | rw [if_neg (fun g => c84 ((zhas1_iff _ _).mpr g))] at hh
        exact hh
theorem k_Mseason (x y : Int32) (ns : Nat) (h2 : M.1 0 549 = nI ns) (hb2 : ns ≤ 16) (hv : zr x (2 ^ ns : Nat) ∧ zr y (2 ^ ns : Nat) ∧ x ≠ 0 ∧ y ≠ 0 ∧ x &&& y = 0) : zM E YM_season 3 [.ref a, .int x, .int y] (mw σ a M) (some (.int (pLSe (rSl (M.1 0)) x y ns))) (mw σ a M) := by
  refine zM.of oM_season (by decide +kernel) rfl rfl (fun n => ?_)
  refine zj_aload_n 0 rfl rfl rfl ?_
  refine zj_iload_n 1 rfl rfl rfl ?_
  refine zj_cvx 2 rfl rfl lk_8_256 ckM_isSheets (k_isSheets _ ns h2 hb2) rfl mw_0 rfl rfl rfl ?_
  refine zj_if_eq 3 rfl rfl (fun c5 => ?_) (fun c5 => ?_)
  · exact absurd hv.1 (zo_0.mp c5)
  · refine zj_aload_n 4 rfl rfl rfl ?_
    refine zj_iload_n 5 rfl rfl rfl ?_
    refine zj_cvx 6 rfl rfl lk_8_256 ckM_isSheets (k_isSheets _ ns h2 hb2) rfl mw_0 rfl rfl rfl ?_
    refine zj_if_eq 7 rfl rfl (fun c13 => ?_) (fun c13 => ?_)
    · exact absurd hv.2.1 (zo_0.mp c13)
    · refine zj_iload_n 8 rfl rfl rfl ?_
      refine zj_if_eq 9 rfl rfl (fun c17 => ?_) (fun c17 => ?_)
      · exact absurd c17 hv.2.2.1
      · refine zj_iload_n 10 rfl rfl rfl ?_
        refine zj_if_eq 11 rfl rfl (fun c21 => ?_) (fun c21 => ?_)
        · exact absurd c21 hv.2.2.2.1
        · refine zj_iload_n 12 rfl rfl rfl ?_
          refine zj_iload_n 13 rfl rfl rfl ?_
          refine zj_iand 14 rfl rfl ?_
          refine zj_if_eq 15 rfl rfl (fun c27 => ?_) (fun c27 => ?_)
          · refine zj_ldcw 18 (268435455) rfl rfl (by decide) ?_
            refine zj_istore_n 19 rfl rfl ?_
            refine zj_iconst 20 (0) rfl rfl (by decide) ?_
            refine zj_istore 21 rfl rfl ?_
            exact l_season x y ns h2 hb2 ns 0 (by omega) n
          · exact absurd hv.2.2.2.2 c27
theorem k_Mseason_bad (x y : Int32) (ns : Nat) (h2 : M.1 0 549 = nI ns) (hb2 : ns ≤ 16) (hv : ¬ (zr x (2 ^ ns : Nat) ∧ zr y (2 ^ ns : Nat) ∧ x ≠ 0 ∧ y ≠ 0 ∧ x &&& y = 0)) : zM E YM_season 3 [.ref a, .int x, .int y] (mw σ a M) (some (.int (-2))) (mw σ a M) := by
  refine zM.of oM_season (by decide +kernel) rfl rfl (fun n => ?_)
  refine zj_aload_n 0 rfl rfl rfl ?_
  refine zj_iload_n 1 rfl rfl rfl ?_
  refine zj_cvx 2 rfl rfl lk_8_256 ckM_isSheets (k_isSheets _ ns h2 hb2) rfl mw_0 rfl rfl rfl ?_
  refine zj_if_eq 3 rfl rfl (fun c5 => ?_) (fun c5 => ?_)
  · refine zj_bipush 16 (-2) rfl rfl (by decide) ?_
    refine zj_ireturn 17 rfl rfl rfl ?_
    exact ⟨rfl, rfl, rfl⟩
  · refine zj_aload_n 4 rfl rfl rfl ?_
    refine zj_iload_n 5 rfl rfl rfl ?_
    refine zj_cvx 6 rfl rfl lk_8_256 ckM_isSheets (k_isSheets _ ns h2 hb2) rfl mw_0 rfl rfl rfl ?_
    refine zj_if_eq 7 rfl rfl (fun c13 => ?_) (fun c13 => ?_)
    · refine zj_bipush 16 (-2) rfl rfl (by decide) ?_
      refine zj_ireturn 17 rfl rfl rfl ?_
      exact ⟨rfl, rfl, rfl⟩
    · refine zj_iload_n 8 rfl rfl rfl ?_
      refine zj_if_eq 9 rfl rfl (fun c17 => ?_) (fun c17 => ?_)
      · refine zj_bipush 16 (-2) rfl rfl (by decide) ?_
        refine zj_ireturn 17 rfl rfl rfl ?_
        exact ⟨rfl, rfl, rfl⟩
      · refine zj_iload_n 10 rfl rfl rfl ?_
        refine zj_if_eq 11 rfl rfl (fun c21 => ?_) (fun c21 => ?_)
        · refine zj_bipush 16 (-2) rfl rfl (by decide) ?_
          refine zj_ireturn 17 rfl rfl rfl ?_
          exact ⟨rfl, rfl, rfl⟩
        · refine zj_iload_n 12 rfl rfl rfl ?_
          refine zj_iload_n 13 rfl rfl rfl ?_
          refine zj_iand 14 rfl rfl ?_
          refine zj_if_eq 15 rfl rfl (fun c27 => ?_) (fun c27 => ?_)
          · exact absurd ⟨zo_n0.mp c5, zo_n0.mp c13, c17, c21, c27⟩ hv
          · refine zj_bipush 16 (-2) rfl rfl (by decide) ?_
            refine zj_ireturn 17 rfl rfl rfl ?_
            exact ⟨rfl, rfl, rfl⟩
end
end
section
/-! the reference: weighed, oldest, took, ways, images, counts, the digest -/
/-- the least number of a bit below n, else n -/
def pLo (b : Int32) (n : Nat) : Nat → Nat
  | 0 => n
  | f + 1 => if zhas b (nI (n - (f + 1))) then n - (f + 1) else pLo b n f
/-- the oldest: by taking from the least, f times at most -/
def pOld (mh : Nat → Int32) : Nat → Nat → Nat
  | 0, s => s
  | f + 1, s => if (mh s) >>> ((16 : Int32) &&& 31) = 0 then pOld mh f (pLo (mh s) s s) else s
def pWays (mh : Nat → Int32) : Nat → Int64
  | 0 => 1
  | s + 1 => pWays mh s * (zb28 (mh s) 28).toInt64
def pLc (M : zMo) (nh : Nat) : Nat → Int32
  | 0 => M.2.2.1 6
  | k + 1 => (mMH (M.1 0) nh k).2
section
variable {E : zE} {σ : zH} {a : Nat} {M : zMo}
theorem k_Mweighed_line (l : Nat) (hl : l < 28) (ns : Nat) (h2 : M.1 0 549 = nI ns) (hb2 : ns ≤ 16) (hz : ∀ s, s < ns → zr (rSo (M.1 0) s) 8) : zM E YM_weighed 4 [.ref a, .int (nI (l + 10))] (mw σ a M) (some (.int (pW (rSl (M.1 0)) (mWt (M.1 0))  (nI l) ns))) (mw σ a M) := by
  refine zM.of oM_weighed (by decide +kernel) rfl rfl (fun n => ?_)
  refine zj_iload_n 0 rfl rfl rfl ?_
  refine zj_i2l 1 rfl rfl ?_
  refine zj_ldc2 2 (10) rfl rfl (by decide) ?_
  refine zj_ldc2 3 (37) rfl rfl (by decide) ?_
  refine zj_csx 4 rfl rfl lk_8_51 ckM_in (k_in _ _ _) rfl rfl rfl rfl ?_
  refine zj_if_eq 5 rfl rfl (fun c11 => ?_) (fun c11 => ?_)
  · exact absurd (by rw [zl0, nI_toInt (by omega)]; simp; omega) (zo_0.mp c11)
  · refine zj_aload_n 6 rfl rfl rfl ?_
    refine zj_iload_n 7 rfl rfl rfl ?_
    refine zj_bipush 8 (10) rfl rfl (by decide) ?_
    refine zn_isub 9 (l + 10) (10) rfl rfl rfl rfl (by omega) ?_
    refine zj_cvx 10 rfl rfl lk_8_274 ckM_weight (k_weight _ ns h2 hb2 hz) rfl mw_0 rfl rfl rfl ?_
    refine zj_ireturn 11 rfl rfl rfl ?_
    exact ⟨zrt (by rw [Nat.add_sub_cancel]), rfl, rfl⟩
theorem k_Mweighed_bad (x : Int32) (hb1 : ¬ zr x 2) (hb2 : ¬ (10 ≤ x.toInt ∧ x.toInt ≤ 37)) : zM E YM_weighed 4 [.ref a, .int x] (mw σ a M) (some (.int (-1000))) (mw σ a M) := by
  refine zM.of oM_weighed (by decide +kernel) rfl rfl (fun n => ?_)
  refine zj_iload_n 0 rfl rfl rfl ?_
  refine zj_i2l 1 rfl rfl ?_
  refine zj_ldc2 2 (10) rfl rfl (by decide) ?_
  refine zj_ldc2 3 (37) rfl rfl (by decide) ?_
  refine zj_csx 4 rfl rfl lk_8_51 ckM_in (k_in _ _ _) rfl rfl rfl rfl ?_
  refine zj_if_eq 5 rfl rfl (fun c11 => ?_) (fun c11 => ?_)
  · refine zj_iload_n 12 rfl rfl rfl ?_
    refine zj_i2l 13 rfl rfl ?_
    refine zj_lconst 14 (0) rfl rfl (by decide) ?_
    refine zj_lconst 15 (1) rfl rfl (by decide) ?_
    refine zj_csx 16 rfl rfl lk_8_51 ckM_in (k_in0 _ _ 2 (by decide)) rfl rfl rfl rfl ?_
    refine zj_if_ne 17 rfl rfl (fun c30 => ?_) (fun c30 => ?_)
    · exact absurd (zo_n0.mp c30) hb1
    · refine zj_sipush 18 (-1000) rfl rfl (by decide) ?_
      refine zj_ireturn 19 rfl rfl rfl ?_
      exact ⟨rfl, rfl, rfl⟩
  · exact absurd (by have := zo_n0.mp c11; rw [zl0] at this; simpa using this) hb2
theorem l_weighed_b0 (ns : Nat) (h2 : M.1 0 549 = nI ns) (hb2 : ns ≤ 16) (hz : ∀ s, s < ns → zr (rSo (M.1 0) s) 8) : ∀ (m : Nat) (k : Nat), (k + m = 28) → ∀ n, zB E YM_weighed 4 n (some (.int (pWB (fun k => pW (rSl (M.1 0)) (mWt (M.1 0))  (nI k) ns) (pWA (mWt (M.1 0)) ns) 0  28))) (mw σ a M) (mw σ a M) 72 [some (.ref a), some (.int (nI 0)), some (.int (pWA (mWt (M.1 0)) ns)), some (.int (pWB (fun k => pW (rSl (M.1 0)) (mWt (M.1 0))  (nI k) ns) (pWA (mWt (M.1 0)) ns) 0  k)), some (.int (nI k))] [] := by
  intro m
  induction m using Nat.strongRecOn with
  | ind m ih =>
  intro k hk n
  refine zj_iload 42 rfl rfl rfl ?_
  refine zj_bipush 43 (28) rfl rfl (by decide) ?_
  refine zn_icmp_ge 44 (k) (28) rfl rfl rfl rfl (by omega) (by omega) (fun c76 => ?_) (fun c76 => ?_)
  · refine zj_iload_n 68 rfl rfl rfl ?_
    refine zj_ireturn 69 rfl rfl rfl ?_
    obtain rfl : k = 28 := by omega
    exact ⟨rfl, rfl, rfl⟩
  · refine zj_iload_n 45 rfl rfl rfl ?_
    refine zj_aload_n 46 rfl rfl rfl ?_
    refine zj_iload 47 rfl rfl rfl ?_
    refine zj_cvx 48 rfl rfl lk_8_274 ckM_weight (k_weight _ ns h2 hb2 hz) rfl mw_0 rfl rfl rfl ?_
    refine zj_if_le 49 rfl rfl (fun c86 => ?_) (fun c86 => ?_)
    · refine zj_iconst 63 (0) rfl rfl (by decide) ?_
      refine zj_ior 64 rfl rfl ?_
      refine zj_istore_n 65 rfl rfl ?_
      refine zn_iinc 66 (k) rfl rfl rfl rfl ?_
      refine zj_goto 67 rfl rfl ?_
      have e : pWB (fun k => pW (rSl (M.1 0)) (mWt (M.1 0))  (nI k) ns) (pWA (mWt (M.1 0)) ns) 0  (k + 1) = pWB (fun k => pW (rSl (M.1 0)) (mWt (M.1 0))  (nI k) ns) (pWA (mWt (M.1 0)) ns) 0  k ||| (if 0 < pW (rSl (M.1 0)) (mWt (M.1 0))  (nI k) ns ∧ ((0 : Nat) = 0 ∨ pWA (mWt (M.1 0)) ns ≤ 2 * pW (rSl (M.1 0)) (mWt (M.1 0))  (nI k) ns) then 1 <<< (nI k &&& 31) else 0) := rfl
      have hh := ih (m - 1) (by omega) (k + 1) (by omega) n
      rw [e] at hh
      first
        | (rw [if_pos ⟨Int32.not_le.mp c86, Or.inl rfl⟩] at hh; exact hh)
        | (rw [if_pos ⟨Int32.not_le.mp c86, Or.inr (Int32.not_lt.mp c102)⟩] at hh; exact hh)
        | (rw [if_neg (fun g => absurd g.1 (Int32.not_lt.mpr c86))] at hh; exact hh)
        | (rw [if_neg (fun g => g.2.elim (fun z => absurd z (by decide)) (fun z => absurd z (Int32.not_le.mpr c102)))] at hh; exact hh)
    · refine zj_iload_n 50 rfl rfl rfl ?_
      refine zj_if_eq 51 rfl rfl (fun c90 => ?_) (fun c90 => ?_)
      · refine zj_iconst 59 (1) rfl rfl (by decide) ?_
        refine zj_iload 60 rfl rfl rfl ?_
        refine zj_ishl 61 rfl rfl ?_
        refine zj_goto 62 rfl rfl ?_
        refine zj_ior 64 rfl rfl ?_
        refine zj_istore_n 65 rfl rfl ?_
        refine zn_iinc 66 (k) rfl rfl rfl rfl ?_
        refine zj_goto 67 rfl rfl ?_
        have e : pWB (fun k => pW (rSl (M.1 0)) (mWt (M.1 0))  (nI k) ns) (pWA (mWt (M.1 0)) ns) 0  (k + 1) = pWB (fun k => pW (rSl (M.1 0)) (mWt (M.1 0))  (nI k) ns) (pWA (mWt (M.1 0)) ns) 0  k ||| (if 0 < pW (rSl (M.1 0)) (mWt (M.1 0))  (nI k) ns ∧ ((0 : Nat) = 0 ∨ pWA (mWt (M.1 0)) ns ≤ 2 * pW (rSl (M.1 0)) (mWt (M.1 0))  (nI k) ns) then 1 <<< (nI k &&& 31) else 0) := rfl
        have hh := ih (m - 1) (by omega) (k + 1) (by omega) n
        rw [e] at hh
        first
          | (rw [if_pos ⟨Int32.not_le.mp c86, Or.inl rfl⟩] at hh; exact hh)
          | (rw [if_pos ⟨Int32.not_le.mp c86, Or.inr (Int32.not_lt.mp c102)⟩] at hh; exact hh)
          | (rw [if_neg (fun g => absurd g.1 (Int32.not_lt.mpr c86))] at hh; exact hh)
          | (rw [if_neg (fun g => g.2.elim (fun z => absurd z (by decide)) (fun z => absurd z (Int32.not_le.mpr c102)))] at hh; exact hh)
      · exact absurd c90 (by decide)
theorem l_weighed_a0 (ns : Nat) (h2 : M.1 0 549 = nI ns) (hb2 : ns ≤ 16) (hz : ∀ s, s < ns → zr (rSo (M.1 0) s) 8) : ∀ (m : Nat) (k : Nat), (k + m = ns) → ∀ n, zB E YM_weighed 4 n (some (.int (pWB (fun k => pW (rSl (M.1 0)) (mWt (M.1 0))  (nI k) ns) (pWA (mWt (M.1 0)) ns) 0  28))) (mw σ a M) (mw σ a M) 41 [some (.ref a), some (.int (nI 0)), some (.int (pWA (mWt (M.1 0)) k)), some (.int (nI k)), none] [] := by
  intro m
  induction m using Nat.strongRecOn with
  | ind m ih =>
  intro k hk n
  refine zj_iload_n 24 rfl rfl rfl ?_
  refine zj_aload_n 25 rfl rfl rfl ?_
  refine zj_get 26 rfl rfl mw_0 rfl ?_
  refine zj_sipush 27 (549) rfl rfl (by decide) ?_
  refine zn_iald 28 (549) rfl rfl mw_1 rfl (by omega) (by decide) ?_
  refine zn_icmp_ge 29 (k) (ns) rfl rfl rfl h2 (by omega) (by omega) (fun c50 => ?_) (fun c50 => ?_)
  · refine zj_iconst 38 (0) rfl rfl (by decide) ?_
    refine zj_istore_n 39 rfl rfl ?_
    refine zj_iconst 40 (0) rfl rfl (by decide) ?_
    refine zj_istore 41 rfl rfl ?_
    obtain rfl : k = ns := by omega
    exact l_weighed_b0 k h2 hb2 hz 28 0 (by omega) n
  · refine zj_iload_n 30 rfl rfl rfl ?_
    refine zj_aload_n 31 rfl rfl rfl ?_
    refine zj_iload_n 32 rfl rfl rfl ?_
    refine zj_cvx 33 rfl rfl lk_8_269 ckM_weightOf (k_weightOf _ (by omega) (hz _ (by omega))) rfl mw_0 rfl rfl rfl ?_
    refine zj_iadd 34 rfl rfl ?_
    refine zj_istore_n 35 rfl rfl ?_
    refine zn_iinc 36 (k) rfl rfl rfl rfl ?_
    refine zj_goto 37 rfl rfl ?_
    exact ih (m - 1) (by omega) (k + 1) (by omega) n
theorem k_Mweighed0 (ns : Nat) (h2 : M.1 0 549 = nI ns) (hb2 : ns ≤ 16) (hz : ∀ s, s < ns → zr (rSo (M.1 0) s) 8) : zM E YM_weighed 4 [.ref a, .int (nI 0)] (mw σ a M) (some (.int (pWB (fun k => pW (rSl (M.1 0)) (mWt (M.1 0))  (nI k) ns) (pWA (mWt (M.1 0)) ns) 0  28))) (mw σ a M) := by
  refine zM.of oM_weighed (by decide +kernel) rfl rfl (fun n => ?_)
  refine zj_iload_n 0 rfl rfl rfl ?_
  refine zj_i2l 1 rfl rfl ?_
  refine zj_ldc2 2 (10) rfl rfl (by decide) ?_
  refine zj_ldc2 3 (37) rfl rfl (by decide) ?_
  refine zj_csx 4 rfl rfl lk_8_51 ckM_in (k_in _ _ _) rfl rfl rfl rfl ?_
  refine zj_if_eq 5 rfl rfl (fun c11 => ?_) (fun c11 => ?_)
  · refine zj_iload_n 12 rfl rfl rfl ?_
    refine zj_i2l 13 rfl rfl ?_
    refine zj_lconst 14 (0) rfl rfl (by decide) ?_
    refine zj_lconst 15 (1) rfl rfl (by decide) ?_
    refine zj_csx 16 rfl rfl lk_8_51 ckM_in (k_in0 _ _ 2 (by decide)) rfl rfl rfl rfl ?_
    refine zj_if_ne 17 rfl rfl (fun c30 => ?_) (fun c30 => ?_)
    · refine zj_iconst 20 (0) rfl rfl (by decide) ?_
      refine zj_istore_n 21 rfl rfl ?_
      refine zj_iconst 22 (0) rfl rfl (by decide) ?_
      refine zj_istore_n 23 rfl rfl ?_
      exact l_weighed_a0 ns h2 hb2 hz ns 0 (by omega) n
    · exact absurd (zr_of (n := 2) (by omega) (by decide)) (zo_0.mp c30)
  · exact absurd (zo_n0.mp c11) (by decide)
theorem l_weighed_b1 (ns : Nat) (h2 : M.1 0 549 = nI ns) (hb2 : ns ≤ 16) (hz : ∀ s, s < ns → zr (rSo (M.1 0) s) 8) : ∀ (m : Nat) (k : Nat), (k + m = 28) → ∀ n, zB E YM_weighed 4 n (some (.int (pWB (fun k => pW (rSl (M.1 0)) (mWt (M.1 0))  (nI k) ns) (pWA (mWt (M.1 0)) ns) 1  28))) (mw σ a M) (mw σ a M) 72 [some (.ref a), some (.int (nI 1)), some (.int (pWA (mWt (M.1 0)) ns)), some (.int (pWB (fun k => pW (rSl (M.1 0)) (mWt (M.1 0))  (nI k) ns) (pWA (mWt (M.1 0)) ns) 1  k)), some (.int (nI k))] [] := by
  intro m
  induction m using Nat.strongRecOn with
  | ind m ih =>
  intro k hk n
  refine zj_iload 42 rfl rfl rfl ?_
  refine zj_bipush 43 (28) rfl rfl (by decide) ?_
  refine zn_icmp_ge 44 (k) (28) rfl rfl rfl rfl (by omega) (by omega) (fun c76 => ?_) (fun c76 => ?_)
  · refine zj_iload_n 68 rfl rfl rfl ?_
    refine zj_ireturn 69 rfl rfl rfl ?_
    obtain rfl : k = 28 := by omega
    exact ⟨rfl, rfl, rfl⟩
  · refine zj_iload_n 45 rfl rfl rfl ?_
    refine zj_aload_n 46 rfl rfl rfl ?_
    refine zj_iload 47 rfl rfl rfl ?_
    refine zj_cvx 48 rfl rfl lk_8_274 ckM_weight (k_weight _ ns h2 hb2 hz) rfl mw_0 rfl rfl rfl ?_
    refine zj_if_le 49 rfl rfl (fun c86 => ?_) (fun c86 => ?_)
    · refine zj_iconst 63 (0) rfl rfl (by decide) ?_
      refine zj_ior 64 rfl rfl ?_
      refine zj_istore_n 65 rfl rfl ?_
      refine zn_iinc 66 (k) rfl rfl rfl rfl ?_
      refine zj_goto 67 rfl rfl ?_
      have e : pWB (fun k => pW (rSl (M.1 0)) (mWt (M.1 0))  (nI k) ns) (pWA (mWt (M.1 0)) ns) 1  (k + 1) = pWB (fun k => pW (rSl (M.1 0)) (mWt (M.1 0))  (nI k) ns) (pWA (mWt (M.1 0)) ns) 1  k ||| (if 0 < pW (rSl (M.1 0)) (mWt (M.1 0))  (nI k) ns ∧ ((1 : Nat) = 0 ∨ pWA (mWt (M.1 0)) ns ≤ 2 * pW (rSl (M.1 0)) (mWt (M.1 0))  (nI k) ns) then 1 <<< (nI k &&& 31) else 0) := rfl
      have hh := ih (m - 1) (by omega) (k + 1) (by omega) n
      rw [e] at hh
      first
        | (rw [if_pos ⟨Int32.not_le.mp c86, Or.inl rfl⟩] at hh; exact hh)
        | (rw [if_pos ⟨Int32.not_le.mp c86, Or.inr (Int32.not_lt.mp c102)⟩] at hh; exact hh)
        | (rw [if_neg (fun g => absurd g.1 (Int32.not_lt.mpr c86))] at hh; exact hh)
        | (rw [if_neg (fun g => g.2.elim (fun z => absurd z (by decide)) (fun z => absurd z (Int32.not_le.mpr c102)))] at hh; exact hh)
    · refine zj_iload_n 50 rfl rfl rfl ?_
      refine zj_if_eq 51 rfl rfl (fun c90 => ?_) (fun c90 => ?_)
      · exact absurd c90 (by decide)
      · refine zj_iconst 52 (2) rfl rfl (by decide) ?_
        refine zj_aload_n 53 rfl rfl rfl ?_
        refine zj_iload 54 rfl rfl rfl ?_
        refine zj_cvx 55 rfl rfl lk_8_274 ckM_weight (k_weight _ ns h2 hb2 hz) rfl mw_0 rfl rfl rfl ?_
        refine zj_imul 56 rfl rfl ?_
        refine zj_iload_n 57 rfl rfl rfl ?_
        refine zj_icmp_lt 58 rfl rfl (fun c102 => ?_) (fun c102 => ?_)
        · refine zj_iconst 63 (0) rfl rfl (by decide) ?_
          refine zj_ior 64 rfl rfl ?_
          refine zj_istore_n 65 rfl rfl ?_
          refine zn_iinc 66 (k) rfl rfl rfl rfl ?_
          refine zj_goto 67 rfl rfl ?_
          have e : pWB (fun k => pW (rSl (M.1 0)) (mWt (M.1 0))  (nI k) ns) (pWA (mWt (M.1 0)) ns) 1  (k + 1) = pWB (fun k => pW (rSl (M.1 0)) (mWt (M.1 0))  (nI k) ns) (pWA (mWt (M.1 0)) ns) 1  k ||| (if 0 < pW (rSl (M.1 0)) (mWt (M.1 0))  (nI k) ns ∧ ((1 : Nat) = 0 ∨ pWA (mWt (M.1 0)) ns ≤ 2 * pW (rSl (M.1 0)) (mWt (M.1 0))  (nI k) ns) then 1 <<< (nI k &&& 31) else 0) := rfl
          have hh := ih (m - 1) (by omega) (k + 1) (by omega) n
          rw [e] at hh
          first
            | (rw [if_pos ⟨Int32.not_le.mp c86, Or.inl rfl⟩] at hh; exact hh)
            | (rw [if_pos ⟨Int32.not_le.mp c86, Or.inr (Int32.not_lt.mp c102)⟩] at hh; exact hh)
            | (rw [if_neg (fun g => absurd g.1 (Int32.not_lt.mpr c86))] at hh; exact hh)
            | (rw [if_neg (fun g => g.2.elim (fun z => absurd z (by decide)) (fun z => absurd z (Int32.not_le.mpr c102)))] at hh; exact hh)
        · refine zj_iconst 59 (1) rfl rfl (by decide) ?_
          refine zj_iload 60 rfl rfl rfl ?_
          refine zj_ishl 61 rfl rfl ?_
          refine zj_goto 62 rfl rfl ?_
          refine zj_ior 64 rfl rfl ?_
          refine zj_istore_n 65 rfl rfl ?_
          refine zn_iinc 66 (k) rfl rfl rfl rfl ?_
          refine zj_goto 67 rfl rfl ?_
          have e : pWB (fun k => pW (rSl (M.1 0)) (mWt (M.1 0))  (nI k) ns) (pWA (mWt (M.1 0)) ns) 1  (k + 1) = pWB (fun k => pW (rSl (M.1 0)) (mWt (M.1 0))  (nI k) ns) (pWA (mWt (M.1 0)) ns) 1  k ||| (if 0 < pW (rSl (M.1 0)) (mWt (M.1 0))  (nI k) ns ∧ ((1 : Nat) = 0 ∨ pWA (mWt (M.1 0)) ns ≤ 2 * pW (rSl (M.1 0)) (mWt (M.1 0))  (nI k) ns) then 1 <<< (nI k &&& 31) else 0) := rfl
          have hh := ih (m - 1) (by omega) (k + 1) (by omega) n
          rw [e] at hh
          first
            | (rw [if_pos ⟨Int32.not_le.mp c86, Or.inl rfl⟩] at hh; exact hh)
            | (rw [if_pos ⟨Int32.not_le.mp c86, Or.inr (Int32.not_lt.mp c102)⟩] at hh; exact hh)
            | (rw [if_neg (fun g => absurd g.1 (Int32.not_lt.mpr c86))] at hh; exact hh)
            | (rw [if_neg (fun g => g.2.elim (fun z => absurd z (by decide)) (fun z => absurd z (Int32.not_le.mpr c102)))] at hh; exact hh)
theorem l_weighed_a1 (ns : Nat) (h2 : M.1 0 549 = nI ns) (hb2 : ns ≤ 16) (hz : ∀ s, s < ns → zr (rSo (M.1 0) s) 8) : ∀ (m : Nat) (k : Nat), (k + m = ns) → ∀ n, zB E YM_weighed 4 n (some (.int (pWB (fun k => pW (rSl (M.1 0)) (mWt (M.1 0))  (nI k) ns) (pWA (mWt (M.1 0)) ns) 1  28))) (mw σ a M) (mw σ a M) 41 [some (.ref a), some (.int (nI 1)), some (.int (pWA (mWt (M.1 0)) k)), some (.int (nI k)), none] [] := by
  intro m
  induction m using Nat.strongRecOn with
  | ind m ih =>
  intro k hk n
  refine zj_iload_n 24 rfl rfl rfl ?_
  refine zj_aload_n 25 rfl rfl rfl ?_
  refine zj_get 26 rfl rfl mw_0 rfl ?_
  refine zj_sipush 27 (549) rfl rfl (by decide) ?_
  refine zn_iald 28 (549) rfl rfl mw_1 rfl (by omega) (by decide) ?_
  refine zn_icmp_ge 29 (k) (ns) rfl rfl rfl h2 (by omega) (by omega) (fun c50 => ?_) (fun c50 => ?_)
  · refine zj_iconst 38 (0) rfl rfl (by decide) ?_
    refine zj_istore_n 39 rfl rfl ?_
    refine zj_iconst 40 (0) rfl rfl (by decide) ?_
    refine zj_istore 41 rfl rfl ?_
    obtain rfl : k = ns := by omega
    exact l_weighed_b1 k h2 hb2 hz 28 0 (by omega) n
  · refine zj_iload_n 30 rfl rfl rfl ?_
    refine zj_aload_n 31 rfl rfl rfl ?_
    refine zj_iload_n 32 rfl rfl rfl ?_
    refine zj_cvx 33 rfl rfl lk_8_269 ckM_weightOf (k_weightOf _ (by omega) (hz _ (by omega))) rfl mw_0 rfl rfl rfl ?_
    refine zj_iadd 34 rfl rfl ?_
    refine zj_istore_n 35 rfl rfl ?_
    refine zn_iinc 36 (k) rfl rfl rfl rfl ?_
    refine zj_goto 37 rfl rfl ?_
    exact ih (m - 1) (by omega) (k + 1) (by omega) n
theorem k_Mweighed1 (ns : Nat) (h2 : M.1 0 549 = nI ns) (hb2 : ns ≤ 16) (hz : ∀ s, s < ns → zr (rSo (M.1 0) s) 8) : zM E YM_weighed 4 [.ref a, .int (nI 1)] (mw σ a M) (some (.int (pWB (fun k => pW (rSl (M.1 0)) (mWt (M.1 0))  (nI k) ns) (pWA (mWt (M.1 0)) ns) 1  28))) (mw σ a M) := by
  refine zM.of oM_weighed (by decide +kernel) rfl rfl (fun n => ?_)
  refine zj_iload_n 0 rfl rfl rfl ?_
  refine zj_i2l 1 rfl rfl ?_
  refine zj_ldc2 2 (10) rfl rfl (by decide) ?_
  refine zj_ldc2 3 (37) rfl rfl (by decide) ?_
  refine zj_csx 4 rfl rfl lk_8_51 ckM_in (k_in _ _ _) rfl rfl rfl rfl ?_
  refine zj_if_eq 5 rfl rfl (fun c11 => ?_) (fun c11 => ?_)
  · refine zj_iload_n 12 rfl rfl rfl ?_
    refine zj_i2l 13 rfl rfl ?_
    refine zj_lconst 14 (0) rfl rfl (by decide) ?_
    refine zj_lconst 15 (1) rfl rfl (by decide) ?_
    refine zj_csx 16 rfl rfl lk_8_51 ckM_in (k_in0 _ _ 2 (by decide)) rfl rfl rfl rfl ?_
    refine zj_if_ne 17 rfl rfl (fun c30 => ?_) (fun c30 => ?_)
    · refine zj_iconst 20 (0) rfl rfl (by decide) ?_
      refine zj_istore_n 21 rfl rfl ?_
      refine zj_iconst 22 (0) rfl rfl (by decide) ?_
      refine zj_istore_n 23 rfl rfl ?_
      exact l_weighed_a1 ns h2 hb2 hz ns 0 (by omega) n
    · exact absurd (zr_of (n := 2) (by omega) (by decide)) (zo_0.mp c30)
  · exact absurd (zo_n0.mp c11) (by decide)
theorem l_image (i : Nat) (hi : i < 2) : ∀ (m : Nat) (k : Nat), (k + m = 818) → ∀ n, zB E YM_image 2 n (some (.int 1)) (mw σ a ((M.sA 1 (zcp (M.1 0) (M.1 1) (818 * i) 818)).sA 2 (va_up (M.1 2) i 1))) (mw σ a (M.sA 1 (zcp (M.1 0) (M.1 1) (818 * i) k))) 15 [some (.ref a), some (.int (nI i)), some (.int (nI k))] [] := by
  intro m
  induction m using Nat.strongRecOn with
  | ind m ih =>
  intro k hk n
  refine zj_iload_n 10 rfl rfl rfl ?_
  refine zj_sipush 11 (818) rfl rfl (by decide) ?_
  refine zn_icmp_ge 12 (k) (818) rfl rfl rfl rfl (by omega) (by omega) (fun c19 => ?_) (fun c19 => ?_)
  · refine zj_aload_n 27 rfl rfl rfl ?_
    refine zj_get 28 rfl rfl mw_0 rfl ?_
    refine zj_iload_n 29 rfl rfl rfl ?_
    refine zj_iconst 30 (1) rfl rfl (by decide) ?_
    refine zn_zast 31 (i) rfl rfl mw_3 rfl (by omega) (by decide) rfl mw_u3 ?_
    refine zj_iconst 32 (1) rfl rfl (by decide) ?_
    refine zj_ireturn 33 rfl rfl rfl ?_
    obtain rfl : k = 818 := by omega
    exact ⟨rfl, rfl, rfl⟩
  · refine zj_aload_n 13 rfl rfl rfl ?_
    refine zj_get 14 rfl rfl mw_0 rfl ?_
    refine zj_sipush 15 (818) rfl rfl (by decide) ?_
    refine zj_iload_n 16 rfl rfl rfl ?_
    refine zn_imul 17 (818) (i) rfl rfl rfl rfl ?_
    refine zj_iload_n 18 rfl rfl rfl ?_
    refine zn_iadd 19 (818 * i) (k) rfl rfl rfl rfl ?_
    refine zj_aload_n 20 rfl rfl rfl ?_
    refine zj_get 21 rfl rfl mw_0 rfl ?_
    refine zj_iload_n 22 rfl rfl rfl ?_
    refine zn_iald 23 (k) rfl rfl mw_1 rfl (by omega) (by decide) ?_
    refine zn_iast 24 ((818 * i) + (k)) rfl rfl mw_2 rfl (by omega) (by decide) mw_u2 ?_
    refine zn_iinc 25 (k) rfl rfl rfl rfl ?_
    refine zj_goto 26 rfl rfl ?_
    have e : mw σ a ((M.sA 1 (zcp (M.1 0) (M.1 1) (818 * i) k)).sA 1 (va_up (zcp (M.1 0) (M.1 1) (818 * i) k) (818 * i + k) (M.1 0 k))) = mw σ a (M.sA 1 (zcp (M.1 0) (M.1 1) (818 * i) (k + 1))) := by rw [zMo.sA_sA, zcp_up]
    exact e ▸ ih (m - 1) (by omega) (k + 1) (by omega) n
theorem k_Mimage (i : Nat) (hi : i < 2) : zM E YM_image 2 [.ref a, .int (nI i)] (mw σ a M) (some (.int 1)) (mw σ a ((M.sA 1 (zcp (M.1 0) (M.1 1) (818 * i) 818)).sA 2 (va_up (M.1 2) i 1))) := by
  refine zM.of oM_image (by decide +kernel) rfl rfl (fun n => ?_)
  refine zj_iload_n 0 rfl rfl rfl ?_
  refine zj_i2l 1 rfl rfl ?_
  refine zj_lconst 2 (0) rfl rfl (by decide) ?_
  refine zj_lconst 3 (1) rfl rfl (by decide) ?_
  refine zj_csx 4 rfl rfl lk_8_51 ckM_in (k_in0 _ _ 2 (by decide)) rfl rfl rfl rfl ?_
  refine zj_if_ne 5 rfl rfl (fun c7 => ?_) (fun c7 => ?_)
  · refine zj_iconst 8 (0) rfl rfl (by decide) ?_
    refine zj_istore_n 9 rfl rfl ?_
    have e : mw σ a M = mw σ a (M.sA 1 (zcp (M.1 0) (M.1 1) (818 * i) 0)) := by rw [zcp_0, zMo.sA_self]
    rw [e]
    exact l_image i hi 818 0 (by omega) n
  · exact absurd (zr_of (n := 2) (by omega) (by decide)) (zo_0.mp c7)
theorem k_Mimage_bad (x : Int32) (hb : ¬ zr x 2) : zM E YM_image 2 [.ref a, .int x] (mw σ a M) (some (.int (-2))) (mw σ a M) := by
  refine zM.of oM_image (by decide +kernel) rfl rfl (fun n => ?_)
  refine zj_iload_n 0 rfl rfl rfl ?_
  refine zj_i2l 1 rfl rfl ?_
  refine zj_lconst 2 (0) rfl rfl (by decide) ?_
  refine zj_lconst 3 (1) rfl rfl (by decide) ?_
  refine zj_csx 4 rfl rfl lk_8_51 ckM_in (k_in0 _ _ 2 (by decide)) rfl rfl rfl rfl ?_
  refine zj_if_ne 5 rfl rfl (fun c7 => ?_) (fun c7 => ?_)
  · exact absurd (zo_n0.mp c7) hb
  · refine zj_bipush 6 (-2) rfl rfl (by decide) ?_
    refine zj_ireturn 7 rfl rfl rfl ?_
    exact ⟨rfl, rfl, rfl⟩
theorem l_from (i : Nat) (hi : i < 2) : ∀ (m : Nat) (k : Nat), (k + m = 818) → ∀ n, zB E YM_from 2 n (some (.int 1)) (mw σ a (M.sA 0 (zfl (fun j => M.1 1 (818 * i + j)) (M.1 0) 818))) (mw σ a (M.sA 0 (zfl (fun j => M.1 1 (818 * i + j)) (M.1 0) k))) 27 [some (.ref a), some (.int (nI i)), some (.int (nI k))] [] := by
  intro m
  induction m using Nat.strongRecOn with
  | ind m ih =>
  intro k hk n
  refine zj_iload_n 17 rfl rfl rfl ?_
  refine zj_sipush 18 (818) rfl rfl (by decide) ?_
  refine zn_icmp_ge 19 (k) (818) rfl rfl rfl rfl (by omega) (by omega) (fun c31 => ?_) (fun c31 => ?_)
  · refine zj_iconst 34 (1) rfl rfl (by decide) ?_
    refine zj_ireturn 35 rfl rfl rfl ?_
    obtain rfl : k = 818 := by omega
    exact ⟨rfl, rfl, rfl⟩
  · refine zj_aload_n 20 rfl rfl rfl ?_
    refine zj_get 21 rfl rfl mw_0 rfl ?_
    refine zj_iload_n 22 rfl rfl rfl ?_
    refine zj_aload_n 23 rfl rfl rfl ?_
    refine zj_get 24 rfl rfl mw_0 rfl ?_
    refine zj_sipush 25 (818) rfl rfl (by decide) ?_
    refine zj_iload_n 26 rfl rfl rfl ?_
    refine zn_imul 27 (818) (i) rfl rfl rfl rfl ?_
    refine zj_iload_n 28 rfl rfl rfl ?_
    refine zn_iadd 29 (818 * i) (k) rfl rfl rfl rfl ?_
    refine zn_iald 30 ((818 * i) + (k)) rfl rfl mw_2 rfl (by omega) (by decide) ?_
    refine zn_iast 31 (k) rfl rfl mw_1 rfl (by omega) (by decide) mw_u1 ?_
    refine zn_iinc 32 (k) rfl rfl rfl rfl ?_
    refine zj_goto 33 rfl rfl ?_
    have e : mw σ a ((M.sA 0 (zfl (fun j => M.1 1 (818 * i + j)) (M.1 0) k)).sA 0 (va_up (zfl (fun j => M.1 1 (818 * i + j)) (M.1 0) k) k (M.1 1 (818 * i + k)))) = mw σ a (M.sA 0 (zfl (fun j => M.1 1 (818 * i + j)) (M.1 0) (k + 1))) := by rw [zMo.sA_sA, zfl_up' rfl]
    exact e ▸ ih (m - 1) (by omega) (k + 1) (by omega) n
theorem k_Mfrom (i : Nat) (hi : i < 2) (hk : ¬ M.1 2 i = 0) : zM E YM_from 2 [.ref a, .int (nI i)] (mw σ a M) (some (.int 1)) (mw σ a (M.sA 0 (zfl (fun j => M.1 1 (818 * i + j)) (M.1 0) 818))) := by
  refine zM.of oM_from (by decide +kernel) rfl rfl (fun n => ?_)
  refine zj_iload_n 0 rfl rfl rfl ?_
  refine zj_i2l 1 rfl rfl ?_
  refine zj_lconst 2 (0) rfl rfl (by decide) ?_
  refine zj_lconst 3 (1) rfl rfl (by decide) ?_
  refine zj_csx 4 rfl rfl lk_8_51 ckM_in (k_in0 _ _ 2 (by decide)) rfl rfl rfl rfl ?_
  refine zj_if_ne 5 rfl rfl (fun c7 => ?_) (fun c7 => ?_)
  · refine zj_aload_n 8 rfl rfl rfl ?_
    refine zj_get 9 rfl rfl mw_0 rfl ?_
    refine zj_iload_n 10 rfl rfl rfl ?_
    refine zn_zald 11 (i) rfl rfl mw_3 rfl (by omega) (by decide) ?_
    refine zj_if_ne 12 rfl rfl (fun c19 => ?_) (fun c19 => ?_)
    · refine zj_iconst 15 (0) rfl rfl (by decide) ?_
      refine zj_istore_n 16 rfl rfl ?_
      have e : mw σ a M = mw σ a (M.sA 0 (zfl (fun j => M.1 1 (818 * i + j)) (M.1 0) 0)) := by rw [zfl_0, zMo.sA_self]
      rw [e]
      exact l_from i hi 818 0 (by omega) n
    · exact absurd c19 hk
  · exact absurd (zr_of (n := 2) (by omega) (by decide)) (zo_0.mp c7)
theorem k_Mfrom_no (i : Nat) (hi : i < 2) (hk : M.1 2 i = 0) : zM E YM_from 2 [.ref a, .int (nI i)] (mw σ a M) (some (.int (-3))) (mw σ a M) := by
  refine zM.of oM_from (by decide +kernel) rfl rfl (fun n => ?_)
  refine zj_iload_n 0 rfl rfl rfl ?_
  refine zj_i2l 1 rfl rfl ?_
  refine zj_lconst 2 (0) rfl rfl (by decide) ?_
  refine zj_lconst 3 (1) rfl rfl (by decide) ?_
  refine zj_csx 4 rfl rfl lk_8_51 ckM_in (k_in0 _ _ 2 (by decide)) rfl rfl rfl rfl ?_
  refine zj_if_ne 5 rfl rfl (fun c7 => ?_) (fun c7 => ?_)
  · refine zj_aload_n 8 rfl rfl rfl ?_
    refine zj_get 9 rfl rfl mw_0 rfl ?_
    refine zj_iload_n 10 rfl rfl rfl ?_
    refine zn_zald 11 (i) rfl rfl mw_3 rfl (by omega) (by decide) ?_
    refine zj_if_ne 12 rfl rfl (fun c19 => ?_) (fun c19 => ?_)
    · exact absurd hk c19
    · refine zj_bipush 13 (-3) rfl rfl (by decide) ?_
      refine zj_ireturn 14 rfl rfl rfl ?_
      exact ⟨rfl, rfl, rfl⟩
  · exact absurd (zr_of (n := 2) (by omega) (by decide)) (zo_0.mp c7)
theorem k_Mfrom_bad (x : Int32) (hb : ¬ zr x 2) : zM E YM_from 2 [.ref a, .int x] (mw σ a M) (some (.int (-2))) (mw σ a M) := by
  refine zM.of oM_from (by decide +kernel) rfl rfl (fun n => ?_)
  refine zj_iload_n 0 rfl rfl rfl ?_
  refine zj_i2l 1 rfl rfl ?_
  refine zj_lconst 2 (0) rfl rfl (by decide) ?_
  refine zj_lconst 3 (1) rfl rfl (by decide) ?_
  refine zj_csx 4 rfl rfl lk_8_51 ckM_in (k_in0 _ _ 2 (by decide)) rfl rfl rfl rfl ?_
  refine zj_if_ne 5 rfl rfl (fun c7 => ?_) (fun c7 => ?_)
  · exact absurd (zo_n0.mp c7) hb
  · refine zj_bipush 6 (-2) rfl rfl (by decide) ?_
    refine zj_ireturn 7 rfl rfl rfl ?_
    exact ⟨rfl, rfl, rfl⟩
theorem k_countOf0  : zM E YM_countOf 1 [.ref a, .int (nI 0)] (mw σ a M) (some (.int (M.1 0 532))) (mw σ a M) := by
  refine zM.of oM_countOf (by decide +kernel) rfl rfl (fun n => ?_)
  refine zj_iload_n 0 rfl rfl rfl ?_
  refine zj_if_ne 1 rfl rfl (fun c1 => ?_) (fun c1 => ?_)
  · exact absurd c1 (by decide)
  · refine zj_aload_n 2 rfl rfl rfl ?_
    refine zj_get 3 rfl rfl mw_0 rfl ?_
    refine zj_sipush 4 (532) rfl rfl (by decide) ?_
    refine zn_iald 5 (532) rfl rfl mw_1 rfl (by omega) (by decide) ?_
    refine zj_goto 6 rfl rfl ?_
    refine zj_ireturn 27 rfl rfl rfl ?_
    exact ⟨rfl, rfl, rfl⟩
theorem k_Mcount0  : zM E YM_count 2 [.ref a, .int (nI 0)] (mw σ a M) (some (.int (M.1 0 532))) (mw σ a M) := by
  refine zM.of oM_count (by decide +kernel) rfl rfl (fun n => ?_)
  refine zj_iload_n 0 rfl rfl rfl ?_
  refine zj_i2l 1 rfl rfl ?_
  refine zj_lconst 2 (0) rfl rfl (by decide) ?_
  refine zj_ldc2 3 (3) rfl rfl (by decide) ?_
  refine zj_csx 4 rfl rfl lk_8_51 ckM_in (k_in0 _ _ 4 (by decide)) rfl rfl rfl rfl ?_
  refine zj_if_eq 5 rfl rfl (fun c9 => ?_) (fun c9 => ?_)
  · exact absurd (zr_of (n := 4) (by omega) (by decide)) (zo_0.mp c9)
  · refine zj_aload_n 6 rfl rfl rfl ?_
    refine zj_iload_n 7 rfl rfl rfl ?_
    refine zj_cvx 8 rfl rfl lk_8_277 ckM_countOf k_countOf0 rfl mw_0 rfl rfl rfl ?_
    refine zj_goto 9 rfl rfl ?_
    refine zj_ireturn 11 rfl rfl rfl ?_
    exact ⟨rfl, rfl, rfl⟩
theorem k_countOf1  : zM E YM_countOf 1 [.ref a, .int (nI 1)] (mw σ a M) (some (.int (M.1 0 549))) (mw σ a M) := by
  refine zM.of oM_countOf (by decide +kernel) rfl rfl (fun n => ?_)
  refine zj_iload_n 0 rfl rfl rfl ?_
  refine zj_if_ne 1 rfl rfl (fun c1 => ?_) (fun c1 => ?_)
  · refine zj_iload_n 7 rfl rfl rfl ?_
    refine zj_iconst 8 (1) rfl rfl (by decide) ?_
    refine zn_icmp_ne 9 (1) (1) rfl rfl rfl rfl (by omega) (by omega) (fun c17 => ?_) (fun c17 => ?_)
    · exact absurd c17 (by decide)
    · refine zj_aload_n 10 rfl rfl rfl ?_
      refine zj_get 11 rfl rfl mw_0 rfl ?_
      refine zj_sipush 12 (549) rfl rfl (by decide) ?_
      refine zn_iald 13 (549) rfl rfl mw_1 rfl (by omega) (by decide) ?_
      refine zj_goto 14 rfl rfl ?_
      refine zj_ireturn 27 rfl rfl rfl ?_
      exact ⟨rfl, rfl, rfl⟩
  · exact absurd c1 (by decide)
theorem k_Mcount1  : zM E YM_count 2 [.ref a, .int (nI 1)] (mw σ a M) (some (.int (M.1 0 549))) (mw σ a M) := by
  refine zM.of oM_count (by decide +kernel) rfl rfl (fun n => ?_)
  refine zj_iload_n 0 rfl rfl rfl ?_
  refine zj_i2l 1 rfl rfl ?_
  refine zj_lconst 2 (0) rfl rfl (by decide) ?_
  refine zj_ldc2 3 (3) rfl rfl (by decide) ?_
  refine zj_csx 4 rfl rfl lk_8_51 ckM_in (k_in0 _ _ 4 (by decide)) rfl rfl rfl rfl ?_
  refine zj_if_eq 5 rfl rfl (fun c9 => ?_) (fun c9 => ?_)
  · exact absurd (zr_of (n := 4) (by omega) (by decide)) (zo_0.mp c9)
  · refine zj_aload_n 6 rfl rfl rfl ?_
    refine zj_iload_n 7 rfl rfl rfl ?_
    refine zj_cvx 8 rfl rfl lk_8_277 ckM_countOf k_countOf1 rfl mw_0 rfl rfl rfl ?_
    refine zj_goto 9 rfl rfl ?_
    refine zj_ireturn 11 rfl rfl rfl ?_
    exact ⟨rfl, rfl, rfl⟩
theorem k_countOf2  : zM E YM_countOf 1 [.ref a, .int (nI 2)] (mw σ a M) (some (.int (M.1 0 598))) (mw σ a M) := by
  refine zM.of oM_countOf (by decide +kernel) rfl rfl (fun n => ?_)
  refine zj_iload_n 0 rfl rfl rfl ?_
  refine zj_if_ne 1 rfl rfl (fun c1 => ?_) (fun c1 => ?_)
  · refine zj_iload_n 7 rfl rfl rfl ?_
    refine zj_iconst 8 (1) rfl rfl (by decide) ?_
    refine zn_icmp_ne 9 (2) (1) rfl rfl rfl rfl (by omega) (by omega) (fun c17 => ?_) (fun c17 => ?_)
    · refine zj_iload_n 15 rfl rfl rfl ?_
      refine zj_iconst 16 (2) rfl rfl (by decide) ?_
      refine zn_icmp_ne 17 (2) (2) rfl rfl rfl rfl (by omega) (by omega) (fun c33 => ?_) (fun c33 => ?_)
      · exact absurd c33 (by decide)
      · refine zj_aload_n 18 rfl rfl rfl ?_
        refine zj_get 19 rfl rfl mw_0 rfl ?_
        refine zj_sipush 20 (598) rfl rfl (by decide) ?_
        refine zn_iald 21 (598) rfl rfl mw_1 rfl (by omega) (by decide) ?_
        refine zj_goto 22 rfl rfl ?_
        refine zj_ireturn 27 rfl rfl rfl ?_
        exact ⟨rfl, rfl, rfl⟩
    · exact absurd c17 (by decide)
  · exact absurd c1 (by decide)
theorem k_Mcount2  : zM E YM_count 2 [.ref a, .int (nI 2)] (mw σ a M) (some (.int (M.1 0 598))) (mw σ a M) := by
  refine zM.of oM_count (by decide +kernel) rfl rfl (fun n => ?_)
  refine zj_iload_n 0 rfl rfl rfl ?_
  refine zj_i2l 1 rfl rfl ?_
  refine zj_lconst 2 (0) rfl rfl (by decide) ?_
  refine zj_ldc2 3 (3) rfl rfl (by decide) ?_
  refine zj_csx 4 rfl rfl lk_8_51 ckM_in (k_in0 _ _ 4 (by decide)) rfl rfl rfl rfl ?_
  refine zj_if_eq 5 rfl rfl (fun c9 => ?_) (fun c9 => ?_)
  · exact absurd (zr_of (n := 4) (by omega) (by decide)) (zo_0.mp c9)
  · refine zj_aload_n 6 rfl rfl rfl ?_
    refine zj_iload_n 7 rfl rfl rfl ?_
    refine zj_cvx 8 rfl rfl lk_8_277 ckM_countOf k_countOf2 rfl mw_0 rfl rfl rfl ?_
    refine zj_goto 9 rfl rfl ?_
    refine zj_ireturn 11 rfl rfl rfl ?_
    exact ⟨rfl, rfl, rfl⟩
theorem k_countOf3  : zM E YM_countOf 1 [.ref a, .int (nI 3)] (mw σ a M) (some (.int (M.1 0 780))) (mw σ a M) := by
  refine zM.of oM_countOf (by decide +kernel) rfl rfl (fun n => ?_)
  refine zj_iload_n 0 rfl rfl rfl ?_
  refine zj_if_ne 1 rfl rfl (fun c1 => ?_) (fun c1 => ?_)
  · refine zj_iload_n 7 rfl rfl rfl ?_
    refine zj_iconst 8 (1) rfl rfl (by decide) ?_
    refine zn_icmp_ne 9 (3) (1) rfl rfl rfl rfl (by omega) (by omega) (fun c17 => ?_) (fun c17 => ?_)
    · refine zj_iload_n 15 rfl rfl rfl ?_
      refine zj_iconst 16 (2) rfl rfl (by decide) ?_
      refine zn_icmp_ne 17 (3) (2) rfl rfl rfl rfl (by omega) (by omega) (fun c33 => ?_) (fun c33 => ?_)
      · refine zj_aload_n 23 rfl rfl rfl ?_
        refine zj_get 24 rfl rfl mw_0 rfl ?_
        refine zj_sipush 25 (780) rfl rfl (by decide) ?_
        refine zn_iald 26 (780) rfl rfl mw_1 rfl (by omega) (by decide) ?_
        refine zj_ireturn 27 rfl rfl rfl ?_
        exact ⟨rfl, rfl, rfl⟩
      · exact absurd c33 (by decide)
    · exact absurd c17 (by decide)
  · exact absurd c1 (by decide)
theorem k_Mcount3  : zM E YM_count 2 [.ref a, .int (nI 3)] (mw σ a M) (some (.int (M.1 0 780))) (mw σ a M) := by
  refine zM.of oM_count (by decide +kernel) rfl rfl (fun n => ?_)
  refine zj_iload_n 0 rfl rfl rfl ?_
  refine zj_i2l 1 rfl rfl ?_
  refine zj_lconst 2 (0) rfl rfl (by decide) ?_
  refine zj_ldc2 3 (3) rfl rfl (by decide) ?_
  refine zj_csx 4 rfl rfl lk_8_51 ckM_in (k_in0 _ _ 4 (by decide)) rfl rfl rfl rfl ?_
  refine zj_if_eq 5 rfl rfl (fun c9 => ?_) (fun c9 => ?_)
  · exact absurd (zr_of (n := 4) (by omega) (by decide)) (zo_0.mp c9)
  · refine zj_aload_n 6 rfl rfl rfl ?_
    refine zj_iload_n 7 rfl rfl rfl ?_
    refine zj_cvx 8 rfl rfl lk_8_277 ckM_countOf k_countOf3 rfl mw_0 rfl rfl rfl ?_
    refine zj_goto 9 rfl rfl ?_
    refine zj_ireturn 11 rfl rfl rfl ?_
    exact ⟨rfl, rfl, rfl⟩
theorem k_Mcount_bad (x : Int32) (hb : ¬ zr x 4) : zM E YM_count 2 [.ref a, .int x] (mw σ a M) (some (.int (-2))) (mw σ a M) := by
  refine zM.of oM_count (by decide +kernel) rfl rfl (fun n => ?_)
  refine zj_iload_n 0 rfl rfl rfl ?_
  refine zj_i2l 1 rfl rfl ?_
  refine zj_lconst 2 (0) rfl rfl (by decide) ?_
  refine zj_ldc2 3 (3) rfl rfl (by decide) ?_
  refine zj_csx 4 rfl rfl lk_8_51 ckM_in (k_in0 _ _ 4 (by decide)) rfl rfl rfl rfl ?_
  refine zj_if_eq 5 rfl rfl (fun c9 => ?_) (fun c9 => ?_)
  · refine zj_bipush 10 (-2) rfl rfl (by decide) ?_
    refine zj_ireturn 11 rfl rfl rfl ?_
    exact ⟨rfl, rfl, rfl⟩
  · exact absurd (zo_n0.mp c9) hb
theorem k_tell (v : Int64) : zM E YM_tell 1 [.ref a, .long v] (mw σ a M) (none) (mw σ a (M.sL 2 (31 * M.2.2.2 2 + v))) := by
  refine zM.of oM_tell (by decide +kernel) rfl rfl (fun n => ?_)
  refine zj_aload_n 0 rfl rfl rfl ?_
  refine zj_ldc2 1 (31) rfl rfl (by decide) ?_
  refine zj_aload_n 2 rfl rfl rfl ?_
  refine zj_get 3 rfl rfl mw_0 rfl ?_
  refine zj_lmul 4 rfl rfl ?_
  refine zj_lload_n 5 rfl rfl rfl ?_
  refine zj_ladd 6 rfl rfl ?_
  refine zn_put 7 rfl rfl mw_0 rfl rfl rfl rfl mw_p_hash ?_
  refine zj_return 8 rfl rfl rfl ?_
  exact ⟨rfl, rfl, rfl⟩
theorem l_tellRow (b mm : Nat) (hb : b + mm ≤ 818) (h0 : Int64) : ∀ (m : Nat) (k : Nat), (k + m = mm) → ∀ n, zB E YM_tellRow 2 n (none) (mw σ a (M.sL 2 (pTR (fun j => M.1 0 (b + j)) h0 mm))) (mw σ a (M.sL 2 (pTR (fun j => M.1 0 (b + j)) h0 k))) 2 [some (.ref a), some (.int (nI b)), some (.int (nI mm)), some (.int (nI k))] [] := by
  intro m
  induction m using Nat.strongRecOn with
  | ind m ih =>
  intro k hk n
  refine zj_iload_n 2 rfl rfl rfl ?_
  refine zj_iload_n 3 rfl rfl rfl ?_
  refine zn_icmp_ge 4 (k) (mm) rfl rfl rfl rfl (by omega) (by omega) (fun c4 => ?_) (fun c4 => ?_)
  · refine zj_return 16 rfl rfl rfl ?_
    obtain rfl : k = mm := by omega
    exact ⟨rfl, rfl, rfl⟩
  · refine zj_aload_n 5 rfl rfl rfl ?_
    refine zj_aload_n 6 rfl rfl rfl ?_
    refine zj_get 7 rfl rfl mw_0 rfl ?_
    refine zj_iload_n 8 rfl rfl rfl ?_
    refine zj_iload_n 9 rfl rfl rfl ?_
    refine zn_iadd 10 (b) (k) rfl rfl rfl rfl ?_
    refine zn_iald 11 (b + k) rfl rfl mw_1 rfl (by omega) (by decide) ?_
    refine zj_i2l 12 rfl rfl ?_
    refine zj_cvv 13 rfl rfl lk_8_285 ckM_tell (k_tell _) rfl mw_0 rfl rfl rfl ?_
    refine zn_iinc 14 (k) rfl rfl rfl rfl ?_
    refine zj_goto 15 rfl rfl ?_
    rw [sL_sL]
    exact ih (m - 1) (by omega) (k + 1) (by omega) n
theorem k_tellRow (b mm : Nat) (hb : b + mm ≤ 818) (h0 : Int64) : zM E YM_tellRow 2 [.ref a, .int (nI b), .int (nI mm)] (mw σ a (M.sL 2 h0)) (none) (mw σ a (M.sL 2 (pTR (fun j => M.1 0 (b + j)) h0 mm))) := by
  refine zM.of oM_tellRow (by decide +kernel) rfl rfl (fun n => ?_)
  refine zj_iconst 0 (0) rfl rfl (by decide) ?_
  refine zj_istore_n 1 rfl rfl ?_
  exact l_tellRow b mm hb h0 mm 0 (by omega) n
end
end
section
/-! the reference: the digest, ways, the fraction -/
def pCh (n : Nat) : Nat → Nat
  | 0 => 1
  | i + 1 => pCh n i * (n - i) / (i + 1)
theorem pCh_ok : ∀ n, n < 29 → ∀ i, i < 30 → (i ≤ n → 0 < pCh n i) ∧ pCh n i < 2 ^ 27 := by decide +kernel
def pChoose (n k : Nat) : Nat := if k ≤ n then pCh n k else 0
theorem pChoose_lt {n k : Nat} (h : n < 29) : pChoose n k < 2 ^ 27 := by
  unfold pChoose
  split
  · exact (pCh_ok n h k (by omega)).2
  · decide
def pShare (one two : Nat) (t0 : Nat) : Nat → Nat
  | 0 => 0
  | k + 1 => pShare one two t0 k + pChoose two (t0 + k) * pChoose (28 - two) (one - (t0 + k))
theorem pShare_lt (one two t0 : Nat) (h : two < 29) : ∀ k, pShare one two t0 k ≤ k * 2 ^ 54
  | 0 => by simp [pShare]
  | k + 1 => by
    have ih := pShare_lt one two t0 h k
    have h1 : pChoose two (t0 + k) < 2 ^ 27 := pChoose_lt h
    have h2 : pChoose (28 - two) (one - (t0 + k)) < 2 ^ 27 := pChoose_lt (by omega)
    have h3 : pChoose two (t0 + k) * pChoose (28 - two) (one - (t0 + k)) ≤ 2 ^ 27 * 2 ^ 27 := Nat.mul_le_mul (by omega) (by omega)
    simp only [pShare]
    omega
theorem zgcd_step {x y : Nat} (h : 0 < x) : Nat.gcd (y % x) x = Nat.gcd x y := (Nat.gcd_rec x y).symm
section
variable {E : zE} {σ : zH} {a : Nat} {M : zMo}
theorem l_choose (n0 k0 : Nat) (hn : n0 < 29) (hk : k0 ≤ n0) : ∀ (m : Nat) (i : Nat), (i + m = k0) → ∀ n, zB E YM_choose 1 n (some (.long (lN (pCh n0 k0)))) (σ) (σ) 18 [some (.int (nI n0)), some (.int (nI k0)), some (.long (lN (pCh n0 i))), none, some (.int (nI i))] [] := by
  intro m
  induction m using Nat.strongRecOn with
  | ind m ih =>
  intro i hi n
  refine zj_iload 11 rfl rfl rfl ?_
  refine zj_iload_n 12 rfl rfl rfl ?_
  refine zn_icmp_ge 13 (i) (k0) rfl rfl rfl rfl (by omega) (by omega) (fun c21 => ?_) (fun c21 => ?_)
  · refine zj_lload_n 32 rfl rfl rfl ?_
    refine zj_lreturn 33 rfl rfl rfl ?_
    obtain rfl : i = k0 := by omega
    exact ⟨rfl, rfl, rfl⟩
  · refine zj_lload_n 14 rfl rfl rfl ?_
    refine zj_lconst 15 (0) rfl rfl (by decide) ?_
    refine zj_lcmp 16 rfl rfl ?_
    refine zj_if_le 17 rfl rfl (fun c27 => ?_) (fun c27 => ?_)
    · exact absurd ((lg_cmp_le _ _).mp c27) (by have p1 := pCh_ok n0 hn i (by omega); exact fun e => absurd ((pk_lLE (by omega) (by decide)).mp (show lN (pCh n0 i) ≤ lN 0 from e)) (by omega))
    · refine zj_lload_n 18 rfl rfl rfl ?_
      refine zj_iload_n 19 rfl rfl rfl ?_
      refine zj_iload 20 rfl rfl rfl ?_
      refine zn_isub 21 (n0) (i) rfl rfl rfl rfl (by omega) ?_
      refine zj_i2l 22 rfl rfl ?_
      refine zj_lmul 23 rfl rfl ?_
      refine zj_iload 24 rfl rfl rfl ?_
      refine zj_iconst 25 (1) rfl rfl (by decide) ?_
      refine zn_iadd 26 (i) (1) rfl rfl rfl rfl ?_
      refine zj_i2l 27 rfl rfl ?_
      refine zj_ldiv 28 rfl rfl (by (rw [nI_l (by omega)]; exact fun e => absurd ((pk_lEQ (by omega) (by decide)).mp (show lN (i + 1) = lN 0 from e)) (by omega))) ?_
      refine zj_lstore_n 29 rfl rfl ?_
      refine zn_iinc 30 (i) rfl rfl rfl rfl ?_
      refine zj_goto 31 rfl rfl ?_
      have p1 := pCh_ok n0 hn i (by omega)
      rw [nI_l (by omega), nI_l (by omega), lN_mul, pk_lDiv (by have : pCh n0 i * (n0 - i) ≤ 2 ^ 27 * 29 := Nat.mul_le_mul (by omega) (by omega); omega) (by omega) (by omega)]
      exact ih (m - 1) (by omega) (i + 1) (by omega) n
theorem k_choose_lo (n0 k0 : Nat) (hn : n0 < 29) (hk : k0 ≤ n0) : zM E YM_choose 1 [.int (nI n0), .int (nI k0)] (σ) (some (.long (lN (pCh n0 k0)))) (σ) := by
  refine zM.of oM_choose (by decide +kernel) rfl rfl (fun n => ?_)
  refine zj_iload_n 0 rfl rfl rfl ?_
  refine zj_if_lt 1 rfl rfl (fun c1 => ?_) (fun c1 => ?_)
  · exact absurd c1 (nI_pos (by omega))
  · refine zj_iload_n 2 rfl rfl rfl ?_
    refine zj_iload_n 3 rfl rfl rfl ?_
    refine zn_icmp_le 4 (k0) (n0) rfl rfl rfl rfl (by omega) (by omega) (fun c6 => ?_) (fun c6 => ?_)
    · refine zj_lconst 7 (1) rfl rfl (by decide) ?_
      refine zj_lstore_n 8 rfl rfl ?_
      refine zj_iconst 9 (0) rfl rfl (by decide) ?_
      refine zj_istore 10 rfl rfl ?_
      exact l_choose n0 k0 hn hk k0 0 (by omega) n
    · exact absurd c6 (by omega)
theorem k_choose_hi (n0 k0 : Nat) (hn : n0 < 29) (hk : n0 < k0) (hk2 : k0 < 100) : zM E YM_choose 1 [.int (nI n0), .int (nI k0)] (σ) (some (.long 0)) (σ) := by
  refine zM.of oM_choose (by decide +kernel) rfl rfl (fun n => ?_)
  refine zj_iload_n 0 rfl rfl rfl ?_
  refine zj_if_lt 1 rfl rfl (fun c1 => ?_) (fun c1 => ?_)
  · exact absurd c1 (nI_pos (by omega))
  · refine zj_iload_n 2 rfl rfl rfl ?_
    refine zj_iload_n 3 rfl rfl rfl ?_
    refine zn_icmp_le 4 (k0) (n0) rfl rfl rfl rfl (by omega) (by omega) (fun c6 => ?_) (fun c6 => ?_)
    · exact absurd c6 (by omega)
    · refine zj_lconst 5 (0) rfl rfl (by decide) ?_
      refine zj_goto 6 rfl rfl ?_
      refine zj_lstore_n 8 rfl rfl ?_
      refine zj_iconst 9 (0) rfl rfl (by decide) ?_
      refine zj_istore 10 rfl rfl ?_
      refine zj_iload 11 rfl rfl rfl ?_
      refine zj_iload_n 12 rfl rfl rfl ?_
      refine zn_icmp_ge 13 (0) (k0) rfl rfl rfl rfl (by omega) (by omega) (fun c21 => ?_) (fun c21 => ?_)
      · exact absurd c21 (by omega)
      · refine zj_lload_n 14 rfl rfl rfl ?_
        refine zj_lconst 15 (0) rfl rfl (by decide) ?_
        refine zj_lcmp 16 rfl rfl ?_
        refine zj_if_le 17 rfl rfl (fun c27 => ?_) (fun c27 => ?_)
        · refine zj_lload_n 32 rfl rfl rfl ?_
          refine zj_lreturn 33 rfl rfl rfl ?_
          exact ⟨rfl, rfl, rfl⟩
        · exact absurd ((lg_cmp_le 0 0).mpr (by decide)) c27
theorem k_choose (n0 k0 : Nat) (hn : n0 < 29) (hk2 : k0 < 100) : zM E YM_choose 1 [.int (nI n0), .int (nI k0)] σ (some (.long (lN (pChoose n0 k0)))) σ := by
  unfold pChoose
  by_cases hk : k0 ≤ n0
  · rw [if_pos hk]; exact k_choose_lo n0 k0 hn hk
  · rw [if_neg hk]; exact k_choose_hi n0 k0 hn (by omega) hk2
theorem l_common (x0 y0 : Int64) (g : Nat) : ∀ (m : Nat) (x y : Nat) (o8 : Option Value), (x ≤ m) → (x < 2 ^ 62) → (y < 2 ^ 62) → (Nat.gcd x y = g) → ∀ n, zB E YM_common 1 n (some (.long (lN g))) (σ) (σ) 6 [some (.long x0), none, some (.long y0), none, some (.long (lN x)), none, some (.long (lN y)), none, o8, none] [] := by
  intro m
  induction m using Nat.strongRecOn with
  | ind m ih =>
  intro x y o8 hx hx2 hy hg n
  refine zj_lload 4 rfl rfl rfl ?_
  refine zj_lconst 5 (0) rfl rfl (by decide) ?_
  refine zj_lcmp 6 rfl rfl ?_
  refine zj_if_eq 7 rfl rfl (fun c10 => ?_) (fun c10 => ?_)
  · refine zj_lload 17 rfl rfl rfl ?_
    refine zj_lreturn 18 rfl rfl rfl ?_
    have hx0 : x = 0 := (pk_lEQ (by omega) (by decide)).mp (show lN x = lN 0 from (lg_cmp_eq _ _).mp c10)
    subst hx0
    rw [Nat.gcd_zero_left] at hg
    exact ⟨zrl (by rw [hg]), rfl, rfl⟩
  · refine zj_lload 8 rfl rfl rfl ?_
    refine zj_lload 9 rfl rfl rfl ?_
    refine zj_lrem 10 rfl rfl (by exact fun e => c10 ((lg_cmp_eq _ _).mpr e)) ?_
    refine zj_lstore 11 rfl rfl ?_
    refine zj_lload 12 rfl rfl rfl ?_
    refine zj_lstore 13 rfl rfl ?_
    refine zj_lload 14 rfl rfl rfl ?_
    refine zj_lstore 15 rfl rfl ?_
    refine zj_goto 16 rfl rfl ?_
    have hx0 : 0 < x := by
      rcases Nat.eq_zero_or_pos x with e | e
      · subst e; exact absurd ((lg_cmp_eq (lN 0) 0).mpr rfl) c10
      · exact e
    rw [pk_lRem (by omega) hx0 (by omega)]
    have hlt := Nat.mod_lt y hx0
    exact ih (y % x) (by omega) (y % x) x _ (by omega) (by omega) (by omega) (by rw [zgcd_step hx0, hg]) n
theorem k_common (x y : Nat) (hx : x < 2 ^ 62) (hy : y < 2 ^ 62) : zM E YM_common 1 [.long (lN x), .long (lN y)] (σ) (some (.long (lN (Nat.gcd x y)))) (σ) := by
  refine zM.of oM_common (by decide +kernel) rfl rfl (fun n => ?_)
  refine zj_lload_n 0 rfl rfl rfl ?_
  refine zj_lstore 1 rfl rfl ?_
  refine zj_lload_n 2 rfl rfl rfl ?_
  refine zj_lstore 3 rfl rfl ?_
  exact l_common _ _ _ x x y none (Nat.le_refl _) hx hy rfl n
end
end
section
theorem zj_norm {E : zE} {Y : zY} {R : Room} {fin : zF} {n cells slots : Nat} {σ : zH} {pc : Nat} {L : List (Option Value)} {st : List Value} (L' : List (Option Value)) (h : L = L') (kk : zJ E Y R fin n cells slots σ pc L' st) : zJ E Y R fin n cells slots σ pc L st := h ▸ kk
/-! the reference: chance, the digest, ways -/
def pB (x : Int32) : Nat → Nat
  | 0 => 0
  | k + 1 => pB x k + (if zhas x (nI k) then 1 else 0)
theorem pB_le (x : Int32) : ∀ k, pB x k ≤ k
  | 0 => Nat.le_refl _
  | k + 1 => by have := pB_le x k; simp only [pB]; split <;> omega
theorem zb28_nat (x : Int32) : ∀ k, zb28 x k = nI (pB x k)
  | 0 => rfl
  | k + 1 => by
    simp only [zb28, pB]
    rw [zb28_nat x k, ← nI_add]
    congr 1
    by_cases h : zhas x (nI k)
    · rw [if_pos h, (zhas1_iff _ _).mpr h]; rfl
    · rw [if_neg h]
      exact Decidable.of_not_not h
def mDig (r : Nat → Int32) (u l : Int64) (no ns nh ng : Nat) (len : Nat → Nat) : Int64 :=
  let t := fun (h : Int64) (v : Int32) => 31 * h + v.toInt64
  let R := fun (b n : Nat) (h : Int64) => pTR (fun j => r (b + j)) h n
  let h1 := t (t (t (t 431 (r 532)) (r 549)) (r 598)) (r 780)
  let h2 := R (324 + 27) 9 (R 243 81 (R (324 + 18) 9 (R 162 81 (R (324 + 9) 9 (R 81 81 (R (324 + 0) 9 (R 0 81 h1)))))))
  let h3 := R 360 8 h2
  let h4 := R (372 + 120) (len 3) (t (R (372 + 80) (len 2) (t (R (372 + 40) (len 1) (t (R (372 + 0) (len 0) (t h3 (r (368 + 0)))) (r (368 + 1)))) (r (368 + 2)))) (r (368 + 3)))
  let h5 := R 599 (3 * nh) (R 550 (3 * ns) (R 533 (2 * no) h4))
  let h6 := t (R 781 (3 * ng) (t h5 (r 779))) (r 817)
  31 * (31 * h6 + u) + l
section
variable {E : zE} {σ : zH} {a : Nat} {M : zMo}
theorem k_tell' (h v : Int64) : zM E YM_tell 1 [.ref a, .long v] (mw σ a (M.sL 2 h)) none (mw σ a (M.sL 2 (31 * h + v))) := by
  have e := k_tell (E := E) (σ := σ) (a := a) (M := M.sL 2 h) v
  rw [sL_sL] at e
  exact e
theorem k_tellRow_x (b mm : Nat) (y x : Int32) (hy : y = nI b) (hx : x = nI mm) (hb : b + mm ≤ 818) (h0 : Int64) : zM E YM_tellRow 2 [.ref a, .int y, .int x] (mw σ a (M.sL 2 h0)) none (mw σ a (M.sL 2 (pTR (fun j => M.1 0 (b + j)) h0 mm))) := by
  subst hy; subst hx
  exact k_tellRow b mm hb h0
theorem k_countOfh0 (h : Int64) : zM E YM_countOf 1 [.ref a, .int (nI 0)] (mw σ a (M.sL 2 h)) (some (.int (M.1 0 532))) (mw σ a (M.sL 2 h)) := k_countOf0
theorem k_countOfh1 (h : Int64) : zM E YM_countOf 1 [.ref a, .int (nI 1)] (mw σ a (M.sL 2 h)) (some (.int (M.1 0 549))) (mw σ a (M.sL 2 h)) := k_countOf1
theorem k_countOfh2 (h : Int64) : zM E YM_countOf 1 [.ref a, .int (nI 2)] (mw σ a (M.sL 2 h)) (some (.int (M.1 0 598))) (mw σ a (M.sL 2 h)) := k_countOf2
theorem k_countOfh3 (h : Int64) : zM E YM_countOf 1 [.ref a, .int (nI 3)] (mw σ a (M.sL 2 h)) (some (.int (M.1 0 780))) (mw σ a (M.sL 2 h)) := k_countOf3
theorem k_Mdigest (no ns nh ng : Nat) (len : Nat → Nat) (h : M.1 0 532 = nI no) (hb : no ≤ 8) (h2 : M.1 0 549 = nI ns) (hb2 : ns ≤ 16) (h3 : M.1 0 598 = nI nh) (hb3 : nh ≤ 60) (h4 : M.1 0 780 = nI ng) (hb4 : ng ≤ 12) (hl : ∀ l, l < 4 → M.1 0 (368 + l) = nI (len l)) (hl2 : ∀ l, l < 4 → len l ≤ 40) : zM E YM_digest 3 [.ref a] (mw σ a M) (some (.long (mDig (M.1 0) (M.2.2.2 0) (M.2.2.2 1) no ns nh ng len))) (mw σ a (M.sL 2 (mDig (M.1 0) (M.2.2.2 0) (M.2.2.2 1) no ns nh ng len))) := by
  refine zM.of oM_digest (by decide +kernel) rfl rfl (fun n => ?_)
  refine zj_aload_n 0 rfl rfl rfl ?_
  refine zj_ldc2 1 (431) rfl rfl (by decide) ?_
  refine zn_put 2 rfl rfl mw_0 rfl rfl rfl rfl mw_p_hash ?_
  refine zj_iconst 3 (0) rfl rfl (by decide) ?_
  refine zj_istore_n 4 rfl rfl ?_
  refine zj_iload_n 5 rfl rfl rfl ?_
  refine zj_iconst 6 (4) rfl rfl (by decide) ?_
  refine zn_icmp_ge 7 (0) (4) rfl rfl rfl rfl (by omega) (by omega) (fun c11 => ?_) (fun c11 => ?_)
  · exact absurd c11 (by decide)
  · refine zj_aload_n 8 rfl rfl rfl ?_
    refine zj_aload_n 9 rfl rfl rfl ?_
    refine zj_iload_n 10 rfl rfl rfl ?_
    refine zj_cvx 11 rfl rfl lk_8_277 ckM_countOf (k_countOfh0 _) rfl mw_0 rfl rfl rfl ?_
    refine zj_i2l 12 rfl rfl ?_
    refine zj_cvv 13 rfl rfl lk_8_285 ckM_tell (k_tell' _ _) rfl mw_0 rfl rfl rfl ?_
    refine zn_iinc 14 (0) rfl rfl rfl rfl ?_
    refine zj_norm [_, _] rfl ?_
    refine zj_goto 15 rfl rfl ?_
    refine zj_iload_n 5 rfl rfl rfl ?_
    refine zj_iconst 6 (4) rfl rfl (by decide) ?_
    refine zn_icmp_ge 7 (1) (4) rfl rfl rfl rfl (by omega) (by omega) (fun c11 => ?_) (fun c11 => ?_)
    · exact absurd c11 (by decide)
    · refine zj_aload_n 8 rfl rfl rfl ?_
      refine zj_aload_n 9 rfl rfl rfl ?_
      refine zj_iload_n 10 rfl rfl rfl ?_
      refine zj_cvx 11 rfl rfl lk_8_277 ckM_countOf (k_countOfh1 _) rfl mw_0 rfl rfl rfl ?_
      refine zj_i2l 12 rfl rfl ?_
      refine zj_cvv 13 rfl rfl lk_8_285 ckM_tell (k_tell' _ _) rfl mw_0 rfl rfl rfl ?_
      refine zn_iinc 14 (1) rfl rfl rfl rfl ?_
      refine zj_goto 15 rfl rfl ?_
      refine zj_iload_n 5 rfl rfl rfl ?_
      refine zj_iconst 6 (4) rfl rfl (by decide) ?_
      refine zn_icmp_ge 7 (2) (4) rfl rfl rfl rfl (by omega) (by omega) (fun c11 => ?_) (fun c11 => ?_)
      · exact absurd c11 (by decide)
      · refine zj_aload_n 8 rfl rfl rfl ?_
        refine zj_aload_n 9 rfl rfl rfl ?_
        refine zj_iload_n 10 rfl rfl rfl ?_
        refine zj_cvx 11 rfl rfl lk_8_277 ckM_countOf (k_countOfh2 _) rfl mw_0 rfl rfl rfl ?_
        refine zj_i2l 12 rfl rfl ?_
        refine zj_cvv 13 rfl rfl lk_8_285 ckM_tell (k_tell' _ _) rfl mw_0 rfl rfl rfl ?_
        refine zn_iinc 14 (2) rfl rfl rfl rfl ?_
        refine zj_norm [_, _] rfl ?_
        refine zj_goto 15 rfl rfl ?_
        refine zj_iload_n 5 rfl rfl rfl ?_
        refine zj_iconst 6 (4) rfl rfl (by decide) ?_
        refine zn_icmp_ge 7 (3) (4) rfl rfl rfl rfl (by omega) (by omega) (fun c11 => ?_) (fun c11 => ?_)
        · exact absurd c11 (by decide)
        · refine zj_aload_n 8 rfl rfl rfl ?_
          refine zj_aload_n 9 rfl rfl rfl ?_
          refine zj_iload_n 10 rfl rfl rfl ?_
          refine zj_cvx 11 rfl rfl lk_8_277 ckM_countOf (k_countOfh3 _) rfl mw_0 rfl rfl rfl ?_
          refine zj_i2l 12 rfl rfl ?_
          refine zj_cvv 13 rfl rfl lk_8_285 ckM_tell (k_tell' _ _) rfl mw_0 rfl rfl rfl ?_
          refine zn_iinc 14 (3) rfl rfl rfl rfl ?_
          refine zj_goto 15 rfl rfl ?_
          refine zj_iload_n 5 rfl rfl rfl ?_
          refine zj_iconst 6 (4) rfl rfl (by decide) ?_
          refine zn_icmp_ge 7 (4) (4) rfl rfl rfl rfl (by omega) (by omega) (fun c11 => ?_) (fun c11 => ?_)
          · refine zj_iconst 16 (0) rfl rfl (by decide) ?_
            refine zj_istore_n 17 rfl rfl ?_
            refine zj_norm [_, _] rfl ?_
            refine zj_iload_n 18 rfl rfl rfl ?_
            refine zj_iconst 19 (4) rfl rfl (by decide) ?_
            refine zn_icmp_ge 20 (0) (4) rfl rfl rfl rfl (by omega) (by omega) (fun c34 => ?_) (fun c34 => ?_)
            · exact absurd c34 (by decide)
            · refine zj_aload_n 21 rfl rfl rfl ?_
              refine zj_bipush 22 (81) rfl rfl (by decide) ?_
              refine zj_iload_n 23 rfl rfl rfl ?_
              refine zn_imul 24 (81) (0) rfl rfl rfl rfl ?_
              refine zj_bipush 25 (81) rfl rfl (by decide) ?_
              refine zj_cvv 26 rfl rfl lk_8_291 ckM_tellRow (k_tellRow_x (0) (81) _ _ rfl rfl (by first | omega | (have := hl2 0 (by decide); have := hl2 1 (by decide); have := hl2 2 (by decide); have := hl2 3 (by decide); omega)) _) rfl mw_0 rfl rfl rfl ?_
              refine zj_aload_n 27 rfl rfl rfl ?_
              refine zj_sipush 28 (324) rfl rfl (by decide) ?_
              refine zj_bipush 29 (9) rfl rfl (by decide) ?_
              refine zj_iload_n 30 rfl rfl rfl ?_
              refine zn_imul 31 (9) (0) rfl rfl rfl rfl ?_
              refine zn_iadd 32 (324) (0) rfl rfl rfl rfl ?_
              refine zj_bipush 33 (9) rfl rfl (by decide) ?_
              refine zj_cvv 34 rfl rfl lk_8_291 ckM_tellRow (k_tellRow_x (324) (9) _ _ rfl rfl (by first | omega | (have := hl2 0 (by decide); have := hl2 1 (by decide); have := hl2 2 (by decide); have := hl2 3 (by decide); omega)) _) rfl mw_0 rfl rfl rfl ?_
              refine zn_iinc 35 (0) rfl rfl rfl rfl ?_
              refine zj_goto 36 rfl rfl ?_
              refine zj_iload_n 18 rfl rfl rfl ?_
              refine zj_iconst 19 (4) rfl rfl (by decide) ?_
              refine zn_icmp_ge 20 (1) (4) rfl rfl rfl rfl (by omega) (by omega) (fun c34 => ?_) (fun c34 => ?_)
              · exact absurd c34 (by decide)
              · refine zj_aload_n 21 rfl rfl rfl ?_
                refine zj_bipush 22 (81) rfl rfl (by decide) ?_
                refine zj_iload_n 23 rfl rfl rfl ?_
                refine zn_imul 24 (81) (1) rfl rfl rfl rfl ?_
                refine zj_bipush 25 (81) rfl rfl (by decide) ?_
                refine zj_cvv 26 rfl rfl lk_8_291 ckM_tellRow (k_tellRow_x (81) (81) _ _ rfl rfl (by first | omega | (have := hl2 0 (by decide); have := hl2 1 (by decide); have := hl2 2 (by decide); have := hl2 3 (by decide); omega)) _) rfl mw_0 rfl rfl rfl ?_
                refine zj_aload_n 27 rfl rfl rfl ?_
                refine zj_sipush 28 (324) rfl rfl (by decide) ?_
                refine zj_bipush 29 (9) rfl rfl (by decide) ?_
                refine zj_iload_n 30 rfl rfl rfl ?_
                refine zn_imul 31 (9) (1) rfl rfl rfl rfl ?_
                refine zn_iadd 32 (324) (9) rfl rfl rfl rfl ?_
                refine zj_bipush 33 (9) rfl rfl (by decide) ?_
                refine zj_cvv 34 rfl rfl lk_8_291 ckM_tellRow (k_tellRow_x (333) (9) _ _ rfl rfl (by first | omega | (have := hl2 0 (by decide); have := hl2 1 (by decide); have := hl2 2 (by decide); have := hl2 3 (by decide); omega)) _) rfl mw_0 rfl rfl rfl ?_
                refine zn_iinc 35 (1) rfl rfl rfl rfl ?_
                refine zj_norm [_, _] rfl ?_
                refine zj_goto 36 rfl rfl ?_
                refine zj_iload_n 18 rfl rfl rfl ?_
                refine zj_iconst 19 (4) rfl rfl (by decide) ?_
                refine zn_icmp_ge 20 (2) (4) rfl rfl rfl rfl (by omega) (by omega) (fun c34 => ?_) (fun c34 => ?_)
                · exact absurd c34 (by decide)
                · refine zj_aload_n 21 rfl rfl rfl ?_
                  refine zj_bipush 22 (81) rfl rfl (by decide) ?_
                  refine zj_iload_n 23 rfl rfl rfl ?_
                  refine zn_imul 24 (81) (2) rfl rfl rfl rfl ?_
                  refine zj_bipush 25 (81) rfl rfl (by decide) ?_
                  refine zj_cvv 26 rfl rfl lk_8_291 ckM_tellRow (k_tellRow_x (162) (81) _ _ rfl rfl (by first | omega | (have := hl2 0 (by decide); have := hl2 1 (by decide); have := hl2 2 (by decide); have := hl2 3 (by decide); omega)) _) rfl mw_0 rfl rfl rfl ?_
                  refine zj_aload_n 27 rfl rfl rfl ?_
                  refine zj_sipush 28 (324) rfl rfl (by decide) ?_
                  refine zj_bipush 29 (9) rfl rfl (by decide) ?_
                  refine zj_iload_n 30 rfl rfl rfl ?_
                  refine zn_imul 31 (9) (2) rfl rfl rfl rfl ?_
                  refine zn_iadd 32 (324) (18) rfl rfl rfl rfl ?_
                  refine zj_bipush 33 (9) rfl rfl (by decide) ?_
                  refine zj_cvv 34 rfl rfl lk_8_291 ckM_tellRow (k_tellRow_x (342) (9) _ _ rfl rfl (by first | omega | (have := hl2 0 (by decide); have := hl2 1 (by decide); have := hl2 2 (by decide); have := hl2 3 (by decide); omega)) _) rfl mw_0 rfl rfl rfl ?_
                  refine zn_iinc 35 (2) rfl rfl rfl rfl ?_
                  refine zj_goto 36 rfl rfl ?_
                  refine zj_iload_n 18 rfl rfl rfl ?_
                  refine zj_iconst 19 (4) rfl rfl (by decide) ?_
                  refine zn_icmp_ge 20 (3) (4) rfl rfl rfl rfl (by omega) (by omega) (fun c34 => ?_) (fun c34 => ?_)
                  · exact absurd c34 (by decide)
                  · refine zj_aload_n 21 rfl rfl rfl ?_
                    refine zj_bipush 22 (81) rfl rfl (by decide) ?_
                    refine zj_iload_n 23 rfl rfl rfl ?_
                    refine zn_imul 24 (81) (3) rfl rfl rfl rfl ?_
                    refine zj_bipush 25 (81) rfl rfl (by decide) ?_
                    refine zj_cvv 26 rfl rfl lk_8_291 ckM_tellRow (k_tellRow_x (243) (81) _ _ rfl rfl (by first | omega | (have := hl2 0 (by decide); have := hl2 1 (by decide); have := hl2 2 (by decide); have := hl2 3 (by decide); omega)) _) rfl mw_0 rfl rfl rfl ?_
                    refine zj_aload_n 27 rfl rfl rfl ?_
                    refine zj_sipush 28 (324) rfl rfl (by decide) ?_
                    refine zj_bipush 29 (9) rfl rfl (by decide) ?_
                    refine zj_iload_n 30 rfl rfl rfl ?_
                    refine zn_imul 31 (9) (3) rfl rfl rfl rfl ?_
                    refine zn_iadd 32 (324) (27) rfl rfl rfl rfl ?_
                    refine zj_bipush 33 (9) rfl rfl (by decide) ?_
                    refine zj_cvv 34 rfl rfl lk_8_291 ckM_tellRow (k_tellRow_x (351) (9) _ _ rfl rfl (by first | omega | (have := hl2 0 (by decide); have := hl2 1 (by decide); have := hl2 2 (by decide); have := hl2 3 (by decide); omega)) _) rfl mw_0 rfl rfl rfl ?_
                    refine zn_iinc 35 (3) rfl rfl rfl rfl ?_
                    refine zj_norm [_, _] rfl ?_
                    refine zj_goto 36 rfl rfl ?_
                    refine zj_iload_n 18 rfl rfl rfl ?_
                    refine zj_iconst 19 (4) rfl rfl (by decide) ?_
                    refine zn_icmp_ge 20 (4) (4) rfl rfl rfl rfl (by omega) (by omega) (fun c34 => ?_) (fun c34 => ?_)
                    · refine zj_aload_n 37 rfl rfl rfl ?_
                      refine zj_sipush 38 (360) rfl rfl (by decide) ?_
                      refine zj_bipush 39 (8) rfl rfl (by decide) ?_
                      refine zj_cvv 40 rfl rfl lk_8_291 ckM_tellRow (k_tellRow_x (360) (8) _ _ rfl rfl (by first | omega | (have := hl2 0 (by decide); have := hl2 1 (by decide); have := hl2 2 (by decide); have := hl2 3 (by decide); omega)) _) rfl mw_0 rfl rfl rfl ?_
                      refine zj_iconst 41 (0) rfl rfl (by decide) ?_
                      refine zj_istore_n 42 rfl rfl ?_
                      refine zj_iload_n 43 rfl rfl rfl ?_
                      refine zj_iconst 44 (4) rfl rfl (by decide) ?_
                      refine zn_icmp_ge 45 (0) (4) rfl rfl rfl rfl (by omega) (by omega) (fun c80 => ?_) (fun c80 => ?_)
                      · exact absurd c80 (by decide)
                      · refine zj_aload_n 46 rfl rfl rfl ?_
                        refine zj_aload_n 47 rfl rfl rfl ?_
                        refine zj_get 48 rfl rfl mw_0 rfl ?_
                        refine zj_sipush 49 (368) rfl rfl (by decide) ?_
                        refine zj_iload_n 50 rfl rfl rfl ?_
                        refine zn_iadd 51 (368) (0) rfl rfl rfl rfl ?_
                        refine zn_iald 52 (368) rfl rfl (show mw σ a (M.sL 2 _) (a + 1) = some (.inl (0, 818, .inl (M.1 0))) from mw_1) rfl (by omega) (by decide) ?_
                        refine zj_i2l 53 rfl rfl ?_
                        refine zj_cvv 54 rfl rfl lk_8_285 ckM_tell (k_tell' _ _) rfl mw_0 rfl rfl rfl ?_
                        refine zj_aload_n 55 rfl rfl rfl ?_
                        refine zj_sipush 56 (372) rfl rfl (by decide) ?_
                        refine zj_bipush 57 (40) rfl rfl (by decide) ?_
                        refine zj_iload_n 58 rfl rfl rfl ?_
                        refine zn_imul 59 (40) (0) rfl rfl rfl rfl ?_
                        refine zn_iadd 60 (372) (0) rfl rfl rfl rfl ?_
                        refine zj_aload_n 61 rfl rfl rfl ?_
                        refine zj_get 62 rfl rfl mw_0 rfl ?_
                        refine zj_sipush 63 (368) rfl rfl (by decide) ?_
                        refine zj_iload_n 64 rfl rfl rfl ?_
                        refine zn_iadd 65 (368) (0) rfl rfl rfl rfl ?_
                        refine zn_iald 66 (368) rfl rfl (show mw σ a (M.sL 2 _) (a + 1) = some (.inl (0, 818, .inl (M.1 0))) from mw_1) rfl (by omega) (by decide) ?_
                        refine zj_cvv 67 rfl rfl lk_8_291 ckM_tellRow (k_tellRow_x (372) (len 0) _ _ rfl (hl 0 (by decide)) (by first | omega | (have := hl2 0 (by decide); have := hl2 1 (by decide); have := hl2 2 (by decide); have := hl2 3 (by decide); omega)) _) rfl mw_0 rfl rfl rfl ?_
                        refine zn_iinc 68 (0) rfl rfl rfl rfl ?_
                        refine zj_norm [_, _] rfl ?_
                        refine zj_goto 69 rfl rfl ?_
                        refine zj_iload_n 43 rfl rfl rfl ?_
                        refine zj_iconst 44 (4) rfl rfl (by decide) ?_
                        refine zn_icmp_ge 45 (1) (4) rfl rfl rfl rfl (by omega) (by omega) (fun c80 => ?_) (fun c80 => ?_)
                        · exact absurd c80 (by decide)
                        · refine zj_aload_n 46 rfl rfl rfl ?_
                          refine zj_aload_n 47 rfl rfl rfl ?_
                          refine zj_get 48 rfl rfl mw_0 rfl ?_
                          refine zj_sipush 49 (368) rfl rfl (by decide) ?_
                          refine zj_iload_n 50 rfl rfl rfl ?_
                          refine zn_iadd 51 (368) (1) rfl rfl rfl rfl ?_
                          refine zn_iald 52 (369) rfl rfl (show mw σ a (M.sL 2 _) (a + 1) = some (.inl (0, 818, .inl (M.1 0))) from mw_1) rfl (by omega) (by decide) ?_
                          refine zj_i2l 53 rfl rfl ?_
                          refine zj_cvv 54 rfl rfl lk_8_285 ckM_tell (k_tell' _ _) rfl mw_0 rfl rfl rfl ?_
                          refine zj_aload_n 55 rfl rfl rfl ?_
                          refine zj_sipush 56 (372) rfl rfl (by decide) ?_
                          refine zj_bipush 57 (40) rfl rfl (by decide) ?_
                          refine zj_iload_n 58 rfl rfl rfl ?_
                          refine zn_imul 59 (40) (1) rfl rfl rfl rfl ?_
                          refine zn_iadd 60 (372) (40) rfl rfl rfl rfl ?_
                          refine zj_aload_n 61 rfl rfl rfl ?_
                          refine zj_get 62 rfl rfl mw_0 rfl ?_
                          refine zj_sipush 63 (368) rfl rfl (by decide) ?_
                          refine zj_iload_n 64 rfl rfl rfl ?_
                          refine zn_iadd 65 (368) (1) rfl rfl rfl rfl ?_
                          refine zn_iald 66 (369) rfl rfl (show mw σ a (M.sL 2 _) (a + 1) = some (.inl (0, 818, .inl (M.1 0))) from mw_1) rfl (by omega) (by decide) ?_
                          refine zj_cvv 67 rfl rfl lk_8_291 ckM_tellRow (k_tellRow_x (412) (len 1) _ _ rfl (hl 1 (by decide)) (by first | omega | (have := hl2 0 (by decide); have := hl2 1 (by decide); have := hl2 2 (by decide); have := hl2 3 (by decide); omega)) _) rfl mw_0 rfl rfl rfl ?_
                          refine zn_iinc 68 (1) rfl rfl rfl rfl ?_
                          refine zj_goto 69 rfl rfl ?_
                          refine zj_iload_n 43 rfl rfl rfl ?_
                          refine zj_iconst 44 (4) rfl rfl (by decide) ?_
                          refine zn_icmp_ge 45 (2) (4) rfl rfl rfl rfl (by omega) (by omega) (fun c80 => ?_) (fun c80 => ?_)
                          · exact absurd c80 (by decide)
                          · refine zj_aload_n 46 rfl rfl rfl ?_
                            refine zj_aload_n 47 rfl rfl rfl ?_
                            refine zj_get 48 rfl rfl mw_0 rfl ?_
                            refine zj_sipush 49 (368) rfl rfl (by decide) ?_
                            refine zj_iload_n 50 rfl rfl rfl ?_
                            refine zn_iadd 51 (368) (2) rfl rfl rfl rfl ?_
                            refine zn_iald 52 (370) rfl rfl (show mw σ a (M.sL 2 _) (a + 1) = some (.inl (0, 818, .inl (M.1 0))) from mw_1) rfl (by omega) (by decide) ?_
                            refine zj_i2l 53 rfl rfl ?_
                            refine zj_cvv 54 rfl rfl lk_8_285 ckM_tell (k_tell' _ _) rfl mw_0 rfl rfl rfl ?_
                            refine zj_aload_n 55 rfl rfl rfl ?_
                            refine zj_sipush 56 (372) rfl rfl (by decide) ?_
                            refine zj_bipush 57 (40) rfl rfl (by decide) ?_
                            refine zj_iload_n 58 rfl rfl rfl ?_
                            refine zn_imul 59 (40) (2) rfl rfl rfl rfl ?_
                            refine zn_iadd 60 (372) (80) rfl rfl rfl rfl ?_
                            refine zj_aload_n 61 rfl rfl rfl ?_
                            refine zj_get 62 rfl rfl mw_0 rfl ?_
                            refine zj_sipush 63 (368) rfl rfl (by decide) ?_
                            refine zj_iload_n 64 rfl rfl rfl ?_
                            refine zn_iadd 65 (368) (2) rfl rfl rfl rfl ?_
                            refine zn_iald 66 (370) rfl rfl (show mw σ a (M.sL 2 _) (a + 1) = some (.inl (0, 818, .inl (M.1 0))) from mw_1) rfl (by omega) (by decide) ?_
                            refine zj_cvv 67 rfl rfl lk_8_291 ckM_tellRow (k_tellRow_x (452) (len 2) _ _ rfl (hl 2 (by decide)) (by first | omega | (have := hl2 0 (by decide); have := hl2 1 (by decide); have := hl2 2 (by decide); have := hl2 3 (by decide); omega)) _) rfl mw_0 rfl rfl rfl ?_
                            refine zn_iinc 68 (2) rfl rfl rfl rfl ?_
                            refine zj_norm [_, _] rfl ?_
                            refine zj_goto 69 rfl rfl ?_
                            refine zj_iload_n 43 rfl rfl rfl ?_
                            refine zj_iconst 44 (4) rfl rfl (by decide) ?_
                            refine zn_icmp_ge 45 (3) (4) rfl rfl rfl rfl (by omega) (by omega) (fun c80 => ?_) (fun c80 => ?_)
                            · exact absurd c80 (by decide)
                            · refine zj_aload_n 46 rfl rfl rfl ?_
                              refine zj_aload_n 47 rfl rfl rfl ?_
                              refine zj_get 48 rfl rfl mw_0 rfl ?_
                              refine zj_sipush 49 (368) rfl rfl (by decide) ?_
                              refine zj_iload_n 50 rfl rfl rfl ?_
                              refine zn_iadd 51 (368) (3) rfl rfl rfl rfl ?_
                              refine zn_iald 52 (371) rfl rfl (show mw σ a (M.sL 2 _) (a + 1) = some (.inl (0, 818, .inl (M.1 0))) from mw_1) rfl (by omega) (by decide) ?_
                              refine zj_i2l 53 rfl rfl ?_
                              refine zj_cvv 54 rfl rfl lk_8_285 ckM_tell (k_tell' _ _) rfl mw_0 rfl rfl rfl ?_
                              refine zj_aload_n 55 rfl rfl rfl ?_
                              refine zj_sipush 56 (372) rfl rfl (by decide) ?_
                              refine zj_bipush 57 (40) rfl rfl (by decide) ?_
                              refine zj_iload_n 58 rfl rfl rfl ?_
                              refine zn_imul 59 (40) (3) rfl rfl rfl rfl ?_
                              refine zn_iadd 60 (372) (120) rfl rfl rfl rfl ?_
                              refine zj_aload_n 61 rfl rfl rfl ?_
                              refine zj_get 62 rfl rfl mw_0 rfl ?_
                              refine zj_sipush 63 (368) rfl rfl (by decide) ?_
                              refine zj_iload_n 64 rfl rfl rfl ?_
                              refine zn_iadd 65 (368) (3) rfl rfl rfl rfl ?_
                              refine zn_iald 66 (371) rfl rfl (show mw σ a (M.sL 2 _) (a + 1) = some (.inl (0, 818, .inl (M.1 0))) from mw_1) rfl (by omega) (by decide) ?_
                              refine zj_cvv 67 rfl rfl lk_8_291 ckM_tellRow (k_tellRow_x (492) (len 3) _ _ rfl (hl 3 (by decide)) (by first | omega | (have := hl2 0 (by decide); have := hl2 1 (by decide); have := hl2 2 (by decide); have := hl2 3 (by decide); omega)) _) rfl mw_0 rfl rfl rfl ?_
                              refine zn_iinc 68 (3) rfl rfl rfl rfl ?_
                              refine zj_goto 69 rfl rfl ?_
                              refine zj_iload_n 43 rfl rfl rfl ?_
                              refine zj_iconst 44 (4) rfl rfl (by decide) ?_
                              refine zn_icmp_ge 45 (4) (4) rfl rfl rfl rfl (by omega) (by omega) (fun c80 => ?_) (fun c80 => ?_)
                              · refine zj_aload_n 70 rfl rfl rfl ?_
                                refine zj_sipush 71 (533) rfl rfl (by decide) ?_
                                refine zj_iconst 72 (2) rfl rfl (by decide) ?_
                                refine zj_aload_n 73 rfl rfl rfl ?_
                                refine zj_get 74 rfl rfl mw_0 rfl ?_
                                refine zj_sipush 75 (532) rfl rfl (by decide) ?_
                                refine zn_iald 76 (532) rfl rfl (show mw σ a (M.sL 2 _) (a + 1) = some (.inl (0, 818, .inl (M.1 0))) from mw_1) rfl (by omega) (by decide) ?_
                                refine zn_imul 77 (2) (no) rfl rfl rfl h ?_
                                refine zj_cvv 78 rfl rfl lk_8_291 ckM_tellRow (k_tellRow_x (533) (2 * no) _ _ rfl rfl (by first | omega | (have := hl2 0 (by decide); have := hl2 1 (by decide); have := hl2 2 (by decide); have := hl2 3 (by decide); omega)) _) rfl mw_0 rfl rfl rfl ?_
                                refine zj_aload_n 79 rfl rfl rfl ?_
                                refine zj_sipush 80 (550) rfl rfl (by decide) ?_
                                refine zj_iconst 81 (3) rfl rfl (by decide) ?_
                                refine zj_aload_n 82 rfl rfl rfl ?_
                                refine zj_get 83 rfl rfl mw_0 rfl ?_
                                refine zj_sipush 84 (549) rfl rfl (by decide) ?_
                                refine zn_iald 85 (549) rfl rfl (show mw σ a (M.sL 2 _) (a + 1) = some (.inl (0, 818, .inl (M.1 0))) from mw_1) rfl (by omega) (by decide) ?_
                                refine zn_imul 86 (3) (ns) rfl rfl rfl h2 ?_
                                refine zj_cvv 87 rfl rfl lk_8_291 ckM_tellRow (k_tellRow_x (550) (3 * ns) _ _ rfl rfl (by first | omega | (have := hl2 0 (by decide); have := hl2 1 (by decide); have := hl2 2 (by decide); have := hl2 3 (by decide); omega)) _) rfl mw_0 rfl rfl rfl ?_
                                refine zj_aload_n 88 rfl rfl rfl ?_
                                refine zj_sipush 89 (599) rfl rfl (by decide) ?_
                                refine zj_iconst 90 (3) rfl rfl (by decide) ?_
                                refine zj_aload_n 91 rfl rfl rfl ?_
                                refine zj_get 92 rfl rfl mw_0 rfl ?_
                                refine zj_sipush 93 (598) rfl rfl (by decide) ?_
                                refine zn_iald 94 (598) rfl rfl (show mw σ a (M.sL 2 _) (a + 1) = some (.inl (0, 818, .inl (M.1 0))) from mw_1) rfl (by omega) (by decide) ?_
                                refine zn_imul 95 (3) (nh) rfl rfl rfl h3 ?_
                                refine zj_cvv 96 rfl rfl lk_8_291 ckM_tellRow (k_tellRow_x (599) (3 * nh) _ _ rfl rfl (by first | omega | (have := hl2 0 (by decide); have := hl2 1 (by decide); have := hl2 2 (by decide); have := hl2 3 (by decide); omega)) _) rfl mw_0 rfl rfl rfl ?_
                                refine zj_aload_n 97 rfl rfl rfl ?_
                                refine zj_aload_n 98 rfl rfl rfl ?_
                                refine zj_get 99 rfl rfl mw_0 rfl ?_
                                refine zj_sipush 100 (779) rfl rfl (by decide) ?_
                                refine zn_iald 101 (779) rfl rfl (show mw σ a (M.sL 2 _) (a + 1) = some (.inl (0, 818, .inl (M.1 0))) from mw_1) rfl (by omega) (by decide) ?_
                                refine zj_i2l 102 rfl rfl ?_
                                refine zj_cvv 103 rfl rfl lk_8_285 ckM_tell (k_tell' _ _) rfl mw_0 rfl rfl rfl ?_
                                refine zj_aload_n 104 rfl rfl rfl ?_
                                refine zj_sipush 105 (781) rfl rfl (by decide) ?_
                                refine zj_iconst 106 (3) rfl rfl (by decide) ?_
                                refine zj_aload_n 107 rfl rfl rfl ?_
                                refine zj_get 108 rfl rfl mw_0 rfl ?_
                                refine zj_sipush 109 (780) rfl rfl (by decide) ?_
                                refine zn_iald 110 (780) rfl rfl (show mw σ a (M.sL 2 _) (a + 1) = some (.inl (0, 818, .inl (M.1 0))) from mw_1) rfl (by omega) (by decide) ?_
                                refine zn_imul 111 (3) (ng) rfl rfl rfl h4 ?_
                                refine zj_cvv 112 rfl rfl lk_8_291 ckM_tellRow (k_tellRow_x (781) (3 * ng) _ _ rfl rfl (by first | omega | (have := hl2 0 (by decide); have := hl2 1 (by decide); have := hl2 2 (by decide); have := hl2 3 (by decide); omega)) _) rfl mw_0 rfl rfl rfl ?_
                                refine zj_aload_n 113 rfl rfl rfl ?_
                                refine zj_aload_n 114 rfl rfl rfl ?_
                                refine zj_get 115 rfl rfl mw_0 rfl ?_
                                refine zj_sipush 116 (817) rfl rfl (by decide) ?_
                                refine zn_iald 117 (817) rfl rfl (show mw σ a (M.sL 2 _) (a + 1) = some (.inl (0, 818, .inl (M.1 0))) from mw_1) rfl (by omega) (by decide) ?_
                                refine zj_i2l 118 rfl rfl ?_
                                refine zj_cvv 119 rfl rfl lk_8_285 ckM_tell (k_tell' _ _) rfl mw_0 rfl rfl rfl ?_
                                refine zj_aload_n 120 rfl rfl rfl ?_
                                refine zj_aload_n 121 rfl rfl rfl ?_
                                refine zj_get 122 rfl rfl mw_0 rfl ?_
                                refine zj_cvv 123 rfl rfl lk_8_285 ckM_tell (k_tell' _ _) rfl mw_0 rfl rfl rfl ?_
                                refine zj_aload_n 124 rfl rfl rfl ?_
                                refine zj_aload_n 125 rfl rfl rfl ?_
                                refine zj_get 126 rfl rfl mw_0 rfl ?_
                                refine zj_cvv 127 rfl rfl lk_8_285 ckM_tell (k_tell' _ _) rfl mw_0 rfl rfl rfl ?_
                                refine zj_aload_n 128 rfl rfl rfl ?_
                                refine zj_get 129 rfl rfl mw_0 rfl ?_
                                refine zj_lreturn 130 rfl rfl rfl ?_
                                exact ⟨rfl, rfl, rfl⟩
                              · exact absurd c80 (by decide)
                    · exact absurd c34 (by decide)
          · exact absurd c11 (by decide)
def mOver (x y : Int32) : Nat := pShare (pB x 28) (pB y 28) (pB (x &&& y) 28) (pB x 28 + 1 - pB (x &&& y) 28)
def mUnder (x : Int32) : Nat := pCh 28 (pB x 28)
def mUp (x y : Int32) : Int64 := lN (mOver x y / Nat.gcd (mOver x y) (mUnder x))
def mLow (x y : Int32) : Int64 := lN (mUnder x / Nat.gcd (mOver x y) (mUnder x))
theorem mOver_lt (x y : Int32) : mOver x y < 2 ^ 60 := by
  have h1 := pB_le x 28
  have h2 := pB_le y 28
  have h3 := pShare_lt (pB x 28) (pB y 28) (pB (x &&& y) 28) (by omega) (pB x 28 + 1 - pB (x &&& y) 28)
  have h4 : (pB x 28 + 1 - pB (x &&& y) 28) * 2 ^ 54 ≤ 29 * 2 ^ 54 := Nat.mul_le_mul_right _ (by omega)
  unfold mOver
  omega
theorem l_chance (x y : Nat) : ∀ (m : Nat) (k : Nat), (k + m = pB (rSl (M.1 0) x) 28 + 1 - pB ((rSl (M.1 0) x) &&& (rSl (M.1 0) y)) 28) → ∀ n, zB E YM_chance 4 n (some (.int 1)) (mw σ a ((M.sL 0 (mUp (rSl (M.1 0) x) (rSl (M.1 0) y))).sL 1 (mLow (rSl (M.1 0) x) (rSl (M.1 0) y)))) (mw σ a M) 50 [some (.ref a), some (.int (nI x)), some (.int (nI y)), some (.int (nI (pB (rSl (M.1 0) x) 28))), some (.int (nI (pB (rSl (M.1 0) y) 28))), some (.long (lN (pShare (pB (rSl (M.1 0) x) 28) (pB (rSl (M.1 0) y) 28) (pB ((rSl (M.1 0) x) &&& (rSl (M.1 0) y)) 28) k))), none, some (.int (nI (pB ((rSl (M.1 0) x) &&& (rSl (M.1 0) y)) 28 + k))), none, none, none] [] := by
  intro m
  induction m using Nat.strongRecOn with
  | ind m ih =>
  intro k hk n
  have b1 := pB_le (rSl (M.1 0) x) 28
  have b2 := pB_le (rSl (M.1 0) y) 28
  have b3 := pB_le ((rSl (M.1 0) x) &&& (rSl (M.1 0) y)) 28
  refine zj_iload 28 rfl rfl rfl ?_
  refine zj_iload_n 29 rfl rfl rfl ?_
  refine zn_icmp_gt 30 (pB ((rSl (M.1 0) x) &&& (rSl (M.1 0) y)) 28 + k) (pB (rSl (M.1 0) x) 28) rfl rfl rfl rfl (by omega) (by omega) (fun c53 => ?_) (fun c53 => ?_)
  · refine zj_bipush 47 (28) rfl rfl (by decide) ?_
    refine zj_iload_n 48 rfl rfl rfl ?_
    refine zj_csx 49 rfl rfl lk_8_228 ckM_choose (k_choose (28) (pB (rSl (M.1 0) x) 28) (by omega) (by omega)) rfl rfl rfl rfl ?_
    have hk0 : k = pB (rSl (M.1 0) x) 28 + 1 - pB ((rSl (M.1 0) x) &&& (rSl (M.1 0) y)) 28 := by omega
    rw [hk0]
    have o1 := mOver_lt (rSl (M.1 0) x) (rSl (M.1 0) y)
    have o2 := pCh_ok 28 (by decide) (pB (rSl (M.1 0) x) 28) (by omega)
    have o3 : pChoose 28 (pB (rSl (M.1 0) x) 28) = mUnder (rSl (M.1 0) x) := if_pos (by omega)
    rw [o3]
    have o4 : mUnder (rSl (M.1 0) x) < 2 ^ 27 := o2.2
    have o5 : 0 < mUnder (rSl (M.1 0) x) := o2.1 (by omega)
    have o6 : 0 < Nat.gcd (mOver (rSl (M.1 0) x) (rSl (M.1 0) y)) (mUnder (rSl (M.1 0) x)) := Nat.gcd_pos_of_pos_right _ o5
    have o7 : Nat.gcd (mOver (rSl (M.1 0) x) (rSl (M.1 0) y)) (mUnder (rSl (M.1 0) x)) ≤ mUnder (rSl (M.1 0) x) := Nat.le_of_dvd o5 (Nat.gcd_dvd_right _ _)
    have o8 : pShare (pB (rSl (M.1 0) x) 28) (pB (rSl (M.1 0) y) 28) (pB ((rSl (M.1 0) x) &&& (rSl (M.1 0) y)) 28) (pB (rSl (M.1 0) x) 28 + 1 - pB ((rSl (M.1 0) x) &&& (rSl (M.1 0) y)) 28) = mOver (rSl (M.1 0) x) (rSl (M.1 0) y) := rfl
    rw [o8]
    refine zj_lstore 50 rfl rfl ?_
    refine zj_lload 51 rfl rfl rfl ?_
    refine zj_lload 52 rfl rfl rfl ?_
    refine zj_csx 53 rfl rfl lk_8_232 ckM_common (k_common _ _ (by omega) (by omega)) rfl rfl rfl rfl ?_
    refine zj_lstore 54 rfl rfl ?_
    refine zj_aload_n 55 rfl rfl rfl ?_
    refine zj_lload 56 rfl rfl rfl ?_
    refine zj_lload 57 rfl rfl rfl ?_
    refine zj_ldiv 58 rfl rfl (by exact fun e => absurd ((pk_lEQ (by omega) (by decide)).mp (show lN _ = lN 0 from e)) (by omega)) ?_
    refine zn_put 59 rfl rfl mw_0 rfl rfl rfl rfl mw_p_up ?_
    refine zj_aload_n 60 rfl rfl rfl ?_
    refine zj_lload 61 rfl rfl rfl ?_
    refine zj_lload 62 rfl rfl rfl ?_
    refine zj_ldiv 63 rfl rfl (by exact fun e => absurd ((pk_lEQ (by omega) (by decide)).mp (show lN _ = lN 0 from e)) (by omega)) ?_
    refine zn_put 64 rfl rfl mw_0 rfl rfl rfl rfl mw_p_low ?_
    refine zj_iconst 65 (1) rfl rfl (by decide) ?_
    refine zj_ireturn 66 rfl rfl rfl ?_
    exact ⟨rfl, rfl, by unfold mUp mLow; rw [pk_lDiv (by omega) o6 (by omega), pk_lDiv (by omega) o6 (by omega)]⟩
  · refine zj_lload 31 rfl rfl rfl ?_
    refine zj_iload 32 rfl rfl rfl ?_
    refine zj_iload 33 rfl rfl rfl ?_
    refine zj_csx 34 rfl rfl lk_8_228 ckM_choose (k_choose (pB (rSl (M.1 0) y) 28) (pB ((rSl (M.1 0) x) &&& (rSl (M.1 0) y)) 28 + k) (by omega) (by omega)) rfl rfl rfl rfl ?_
    refine zj_bipush 35 (28) rfl rfl (by decide) ?_
    refine zj_iload 36 rfl rfl rfl ?_
    refine zn_isub 37 (28) (pB (rSl (M.1 0) y) 28) rfl rfl rfl rfl (by omega) ?_
    refine zj_iload_n 38 rfl rfl rfl ?_
    refine zj_iload 39 rfl rfl rfl ?_
    refine zn_isub 40 (pB (rSl (M.1 0) x) 28) (pB ((rSl (M.1 0) x) &&& (rSl (M.1 0) y)) 28 + k) rfl rfl rfl rfl (by omega) ?_
    refine zj_csx 41 rfl rfl lk_8_228 ckM_choose (k_choose ((28) - (pB (rSl (M.1 0) y) 28)) ((pB (rSl (M.1 0) x) 28) - (pB ((rSl (M.1 0) x) &&& (rSl (M.1 0) y)) 28 + k)) (by omega) (by omega)) rfl rfl rfl rfl ?_
    refine zj_lmul 42 rfl rfl ?_
    refine zj_ladd 43 rfl rfl ?_
    refine zj_lstore 44 rfl rfl ?_
    refine zn_iinc 45 (pB ((rSl (M.1 0) x) &&& (rSl (M.1 0) y)) 28 + k) rfl rfl rfl rfl ?_
    refine zj_goto 46 rfl rfl ?_
    rw [lN_mul, lN_add]
    exact ih (m - 1) (by omega) (k + 1) (by omega) n
theorem k_Mchance (x y ns : Nat) (h2 : M.1 0 549 = nI ns) (hb2 : ns ≤ 16) (hx : x < ns) (hy : y < ns) (hne : x ≠ y) : zM E YM_chance 4 [.ref a, .int (nI x), .int (nI y)] (mw σ a M) (some (.int 1)) (mw σ a ((M.sL 0 (mUp (rSl (M.1 0) x) (rSl (M.1 0) y))).sL 1 (mLow (rSl (M.1 0) x) (rSl (M.1 0) y)))) := by
  refine zM.of oM_chance (by decide +kernel) rfl rfl (fun n => ?_)
  refine zj_aload_n 0 rfl rfl rfl ?_
  refine zj_iload_n 1 rfl rfl rfl ?_
  refine zj_iload_n 2 rfl rfl rfl ?_
  refine zj_cvx 3 rfl rfl lk_8_225 ckM_isPair (k_isPair _ _ ns h2 hb2) rfl mw_0 rfl rfl rfl ?_
  refine zj_if_ne 4 rfl rfl (fun c6 => ?_) (fun c6 => ?_)
  · refine zj_aload_n 7 rfl rfl rfl ?_
    refine zj_iload_n 8 rfl rfl rfl ?_
    refine zj_cvx 9 rfl rfl lk_8_207 ckM_linesOf (k_linesOf _ (by omega)) rfl mw_0 rfl rfl rfl ?_
    refine zj_csx 10 rfl rfl lk_8_184 ckM_bitsOf (k_bitsOf _) rfl rfl rfl rfl ?_
    rw [zb28_nat]
    refine zj_istore_n 11 rfl rfl ?_
    refine zj_aload_n 12 rfl rfl rfl ?_
    refine zj_iload_n 13 rfl rfl rfl ?_
    refine zj_cvx 14 rfl rfl lk_8_207 ckM_linesOf (k_linesOf _ (by omega)) rfl mw_0 rfl rfl rfl ?_
    refine zj_csx 15 rfl rfl lk_8_184 ckM_bitsOf (k_bitsOf _) rfl rfl rfl rfl ?_
    rw [zb28_nat]
    refine zj_istore 16 rfl rfl ?_
    refine zj_lconst 17 (0) rfl rfl (by decide) ?_
    refine zj_lstore 18 rfl rfl ?_
    refine zj_aload_n 19 rfl rfl rfl ?_
    refine zj_iload_n 20 rfl rfl rfl ?_
    refine zj_cvx 21 rfl rfl lk_8_207 ckM_linesOf (k_linesOf _ (by omega)) rfl mw_0 rfl rfl rfl ?_
    refine zj_aload_n 22 rfl rfl rfl ?_
    refine zj_iload_n 23 rfl rfl rfl ?_
    refine zj_cvx 24 rfl rfl lk_8_207 ckM_linesOf (k_linesOf _ (by omega)) rfl mw_0 rfl rfl rfl ?_
    refine zj_iand 25 rfl rfl ?_
    refine zj_csx 26 rfl rfl lk_8_184 ckM_bitsOf (k_bitsOf _) rfl rfl rfl rfl ?_
    rw [zb28_nat]
    refine zj_istore 27 rfl rfl ?_
    exact l_chance x y _ 0 (Nat.zero_add _) n
  · exact absurd ⟨zr_of (n := ns) (by omega) (by omega), zr_of (n := ns) (by omega) (by omega), fun e => hne ((nI_eq (by omega) (by omega)).mp e)⟩ (zo_0.mp c6)
theorem k_Mchance_bad (x y : Int32) (ns : Nat) (h2 : M.1 0 549 = nI ns) (hb2 : ns ≤ 16) (hv : ¬ (zr x ns ∧ zr y ns ∧ x ≠ y)) : zM E YM_chance 4 [.ref a, .int x, .int y] (mw σ a M) (some (.int (-2))) (mw σ a M) := by
  refine zM.of oM_chance (by decide +kernel) rfl rfl (fun n => ?_)
  refine zj_aload_n 0 rfl rfl rfl ?_
  refine zj_iload_n 1 rfl rfl rfl ?_
  refine zj_iload_n 2 rfl rfl rfl ?_
  refine zj_cvx 3 rfl rfl lk_8_225 ckM_isPair (k_isPair _ _ ns h2 hb2) rfl mw_0 rfl rfl rfl ?_
  refine zj_if_ne 4 rfl rfl (fun c6 => ?_) (fun c6 => ?_)
  · exact absurd (zo_n0.mp c6) hv
  · refine zj_bipush 5 (-2) rfl rfl (by decide) ?_
    refine zj_ireturn 6 rfl rfl rfl ?_
    exact ⟨rfl, rfl, rfl⟩
theorem pLc_sI (M : zMo) (nh k : Nat) (x : Int32) : (M.sI 6 (pLc M nh k)).sI 6 x = M.sI 6 x := sI_sI _ _ _ _
theorem l_ways (ns nh : Nat) (h : M.1 0 598 = nI nh) (hb : nh ≤ 60) (h2 : M.1 0 549 = nI ns) (hb2 : ns ≤ 16) : ∀ (m : Nat) (k : Nat), (k + m = ns) → ∀ n, zB E YM_ways 3 n (some (.long (pWays (fun s => (mMH (M.1 0) nh s).1) ns))) (mw σ a (M.sI 6 (pLc M nh ns))) (mw σ a (M.sI 6 (pLc M nh k))) 4 [some (.ref a), some (.long (pWays (fun s => (mMH (M.1 0) nh s).1) k)), none, some (.int (nI k))] [] := by
  intro m
  induction m using Nat.strongRecOn with
  | ind m ih =>
  intro k hk n
  refine zj_iload_n 4 rfl rfl rfl ?_
  refine zj_aload_n 5 rfl rfl rfl ?_
  refine zj_get 6 rfl rfl mw_0 rfl ?_
  refine zj_sipush 7 (549) rfl rfl (by decide) ?_
  refine zn_iald 8 (549) rfl rfl mw_1 rfl (by omega) (by decide) ?_
  refine zn_icmp_ge 9 (k) (ns) rfl rfl rfl h2 (by omega) (by omega) (fun c13 => ?_) (fun c13 => ?_)
  · refine zj_lload_n 20 rfl rfl rfl ?_
    refine zj_lreturn 21 rfl rfl rfl ?_
    obtain rfl : k = ns := by omega
    exact ⟨rfl, rfl, rfl⟩
  · refine zj_lload_n 10 rfl rfl rfl ?_
    refine zj_aload_n 11 rfl rfl rfl ?_
    refine zj_iload_n 12 rfl rfl rfl ?_
    refine zj_cvx 13 rfl rfl lk_8_247 ckM_mayHave (k_mayHave _ (by omega) nh h hb) rfl mw_0 rfl rfl rfl ?_
    refine zj_csx 14 rfl rfl lk_8_184 ckM_bitsOf (k_bitsOf _) rfl rfl rfl rfl ?_
    refine zj_i2l 15 rfl rfl ?_
    refine zj_lmul 16 rfl rfl ?_
    refine zj_lstore_n 17 rfl rfl ?_
    refine zn_iinc 18 (k) rfl rfl rfl rfl ?_
    refine zj_goto 19 rfl rfl ?_
    rw [sI_sI]
    exact ih (m - 1) (by omega) (k + 1) (by omega) n
theorem k_Mways (ns nh : Nat) (h : M.1 0 598 = nI nh) (hb : nh ≤ 60) (h2 : M.1 0 549 = nI ns) (hb2 : ns ≤ 16) : zM E YM_ways 3 [.ref a] (mw σ a M) (some (.long (pWays (fun s => (mMH (M.1 0) nh s).1) ns))) (mw σ a (M.sI 6 (pLc M nh ns))) := by
  refine zM.of oM_ways (by decide +kernel) rfl rfl (fun n => ?_)
  refine zj_lconst 0 (1) rfl rfl (by decide) ?_
  refine zj_lstore_n 1 rfl rfl ?_
  refine zj_iconst 2 (0) rfl rfl (by decide) ?_
  refine zj_istore_n 3 rfl rfl ?_
  have e : mw σ a M = mw σ a (M.sI 6 (pLc M nh 0)) := by show _ = mw σ a (M.sI 6 (M.2.2.1 6)); rw [sI_id]
  rw [e]
  exact l_ways ns nh h hb h2 hb2 ns 0 (by omega) n
end
end
section
/-! contracts whose end is a kind of heap: zX -/
def zX (E : zE) (Y : zY) (d : Nat) (av : List Value) (σ : zH) (r : Option Value) (P : zH → Prop) : Prop := ∀ n, zMet E Y (zrm d) 0 0 av n σ (fun r' n' s' => r' = r ∧ n' = n ∧ P s')
abbrev zXB (E : zE) (Y : zY) (d n : Nat) (r : Option Value) (P : zH → Prop) (σ : zH) (pc : Nat) (L : List (Option Value)) (st : List Value) : Prop := zJ E Y (zrm d) (zfin E (fun r' n' s' => r' = r ∧ n' = n ∧ P s') 0 0) n 0 0 σ pc L st
section
variable {E : zE} {Y Yc : zY} {R : Room} {fin : zF} {n cells slots : Nat} {σ : zH} {pc q u v idx : Nat} {w : Int} {L : List (Option Value)} {rest st as : List Value} {Pp : zH → Prop}
theorem zX.of {d : Nat} {av : List Value} {r : Option Value} (ok : zok Y) (hp : plainName Y.nm.cls = true) (hc : Y.nm.cls = zcn Y.oc) (hn : (lg_sl av).length.ble Y.nL = true) (body : ∀ n, zXB E Y d n r Pp σ 0 (zen Y.nL av) []) : zX E Y d av σ r Pp := fun n => zMet.of ok hp hc (Nat.le_of_ble_eq_true hn) (body n)
theorem zM.toX {d : Nat} {av : List Value} {r : Option Value} {σ' : zH} (h : zM E Y d av σ r σ') : zX E Y d av σ r (fun s => s = σ') := h
theorem zj_csxX (k : Nat) {d nn : Nat} {x : Value} (h : Y.rows[k]? = some (pc, .invokestatic idx, q, u, v, w)) (hq : pc + 3 = q) (lk : zLk Y.oc idx Yc.nm) (ck : zCkS Yc nn) (hM : zX E Yc d as σ (some x) Pp) (hst : st = as.reverse ++ rest) (hn : as.length = nn) (hrest : ((rest.map Value.category).sum).ble 8 = true) (hRm : zRg R Yc.nL d cells slots = true) (kk : ∀ σ', Pp σ' → zJ E Y R fin n cells slots σ' q L (x :: rest)) : zJ E Y R fin n cells slots σ pc L st :=
  zj_cs k h hq lk ck (hM n) hst hn (Nat.le_of_ble_eq_true hrest) (zRg_f hRm) (fun r n' s' hQ => by obtain ⟨rfl, rfl, h3⟩ := hQ; exact kk _ h3)
theorem zj_cvxX (k : Nat) {d nn ci b : Nat} {fs : List Value} {x : Value} (h : Y.rows[k]? = some (pc, .invokevirtual idx, q, u, v, w)) (hq : pc + 3 = q) (lk : zLk Y.oc idx Yc.nm) (ck : zCkV Yc nn ci) (hM : zX E Yc d (.ref b :: as) σ (some x) Pp) (hst : st = as.reverse ++ .ref b :: rest) (hs : σ b = some (.inr (ci, fs))) (hn : as.length = nn) (hrest : ((rest.map Value.category).sum).ble 8 = true) (hRm : zRg R Yc.nL d cells slots = true) (kk : ∀ σ', Pp σ' → zJ E Y R fin n cells slots σ' q L (x :: rest)) : zJ E Y R fin n cells slots σ pc L st :=
  zj_cv k h hq lk ck hs (hM n) hst hn (Nat.le_of_ble_eq_true hrest) (zRg_f hRm) (fun r n' s' hQ => by obtain ⟨rfl, rfl, h3⟩ := hQ; exact kk _ h3)
theorem zj_cvvX (k : Nat) {d nn ci b : Nat} {fs : List Value} (h : Y.rows[k]? = some (pc, .invokevirtual idx, q, u, v, w)) (hq : pc + 3 = q) (lk : zLk Y.oc idx Yc.nm) (ck : zCkV Yc nn ci) (hM : zX E Yc d (.ref b :: as) σ none Pp) (hst : st = as.reverse ++ .ref b :: rest) (hs : σ b = some (.inr (ci, fs))) (hn : as.length = nn) (hrest : ((rest.map Value.category).sum).ble 8 = true) (hRm : zRg R Yc.nL d cells slots = true) (kk : ∀ σ', Pp σ' → zJ E Y R fin n cells slots σ' q L rest) : zJ E Y R fin n cells slots σ pc L st :=
  zj_cv k h hq lk ck hs (hM n) hst hn (Nat.le_of_ble_eq_true hrest) (zRg_f hRm) (fun r n' s' hQ => by obtain ⟨rfl, rfl, h3⟩ := hQ; exact kk _ h3)
end
/-! the reader's state, as lists: what is laid, what waits (the last first), how deep, compared per depth, behind a unit, digits, where the number began -/
abbrev zS : Type := List (Int32 × Int64) × List Int32 × Nat × (Nat → Bool) × Bool × Nat × Nat
abbrev zS.cs (S : zS) : List (Int32 × Int64) := S.1
abbrev zS.ws (S : zS) : List Int32 := S.2.1
abbrev zS.dp (S : zS) : Nat := S.2.2.1
abbrev zS.cm (S : zS) : Nat → Bool := S.2.2.2.1
abbrev zS.bh (S : zS) : Bool := S.2.2.2.2.1
abbrev zS.dg (S : zS) : Nat := S.2.2.2.2.2.1
abbrev zS.na (S : zS) : Nat := S.2.2.2.2.2.2
def zob (b : Bool) : Int32 := if b then 1 else 0
/-- what the reader leaves alone -/
def mCore (M M' : zMo) : Prop := M'.1 0 = M.1 0 ∧ M'.1 1 = M.1 1 ∧ M'.1 2 = M.1 2 ∧ M'.1 3 = M.1 3 ∧ M'.2.2.2 0 = M.2.2.2 0 ∧ M'.2.2.2 1 = M.2.2.2 1
theorem mCore.rfl {M : zMo} : mCore M M := ⟨Eq.refl _, Eq.refl _, Eq.refl _, Eq.refl _, Eq.refl _, Eq.refl _⟩
theorem mCore.trans {A B C : zMo} (h : mCore A B) (g : mCore B C) : mCore A C := ⟨g.1.trans h.1, g.2.1.trans h.2.1, g.2.2.1.trans h.2.2.1, g.2.2.2.1.trans h.2.2.2.1, g.2.2.2.2.1.trans h.2.2.2.2.1, g.2.2.2.2.2.trans h.2.2.2.2.2⟩
def mRep (M : zMo) (S : zS) : Prop :=
  (M.2.2.1 0 = nI S.1.length ∧ ∀ i x, S.1[i]? = some x → M.1 4 i = x.1 ∧ M.2.1 0 i = x.2) ∧
  (M.2.2.1 1 = nI S.2.1.length ∧ ∀ i x, S.2.1.reverse[i]? = some x → M.1 5 i = x) ∧
  (M.2.2.1 2 = nI S.2.2.1 ∧ ∀ i, i ≤ S.2.2.1 → M.1 6 i = zob (S.2.2.2.1 i)) ∧
  M.2.2.1 3 = zob S.2.2.2.2.1 ∧ M.2.2.1 4 = nI S.2.2.2.2.2.1 ∧ (0 < S.2.2.2.2.2.1 → M.2.2.1 5 = nI S.2.2.2.2.2.2)
def mP (σ : zH) (a : Nat) (M : zMo) (S : zS) : zH → Prop := fun s => ∃ M', s = mw σ a M' ∧ mCore M M' ∧ mRep M' S
section
variable {E : zE} {σ : zH} {a : Nat} {M : zMo}
end
end
section
/-! the reference's reader -/
def pFirm (c : Int32) : Int32 := if c = 11 then 1 else if c = 12 then 2 else if c < 16 then 3 else if c < 18 then 4 else if c < 20 then 5 else if c < 30 then 6 else 0
def qLet (c : Int32) : Int32 := if c = 97 then 0 else if c = 98 then 1 else if c = 100 then 2 else if c = 109 then 3 else if c = 107 then 4 else if c = 103 then 5 else -1
def qJoint (c : Int32) : Int32 := if c = 124 then 11 else if c = 38 then 12 else if c = 60 then 13 else if c = 62 then 14 else if c = 61 then 15 else if c = 43 then 16 else if c = 45 then 17 else if c = 42 then 18 else if c = 47 then 19 else -1
def qLD (least : Int32) : List Int32 → List (Int32 × Int64) → List Int32 × List (Int32 × Int64)
  | [], cs => ([], cs)
  | w :: ws, cs => if least ≤ pFirm w then qLD least ws (cs ++ [(w, 0)]) else (w :: ws, cs)
theorem qLD_len (least : Int32) : ∀ (ws : List Int32) (cs : List (Int32 × Int64)), (qLD least ws cs).1.length + (qLD least ws cs).2.length = ws.length + cs.length
  | [], cs => rfl
  | w :: ws, cs => by
    simp only [qLD]
    split
    · rw [qLD_len least ws]; simp; omega
    · rfl
def qLDS (least : Int32) (S : zS) : zS := ((qLD least S.2.1 S.1).2, (qLD least S.2.1 S.1).1, S.2.2)
abbrev mLay (M : zMo) (c : Nat) (code : Int32) (v : Int64) : zMo := ((M.sA 4 (va_up (M.1 4) c code)).sB 0 (va_up (M.2.1 0) c v)).sI 0 (nI (c + 1))
theorem mRep_lay {M : zMo} {S : zS} (h : mRep M S) (code : Int32) (v : Int64) : mRep (mLay M S.1.length code v) (S.1 ++ [(code, v)], S.2) := by
  obtain ⟨⟨h1, h2⟩, ⟨h3, h4⟩, ⟨h5, h6⟩, h7, h8, h9⟩ := h
  refine ⟨⟨by simp [va_up], fun i x hx => ?_⟩, ⟨by simpa [va_up] using h3, fun i x hx => by simpa [va_up] using h4 i x hx⟩, ⟨by simpa [va_up] using h5, fun i hi => by simpa [va_up] using h6 i hi⟩, by simpa [va_up] using h7, by simpa [va_up] using h8, fun hd => by simpa [va_up] using h9 hd⟩
  by_cases hi : i < S.1.length
  · rw [List.getElem?_append_left hi] at hx
    have := h2 i x hx
    simpa [va_up, Nat.ne_of_lt hi] using this
  · rw [List.getElem?_append_right (by omega)] at hx
    have hl := (List.getElem?_eq_some_iff.mp hx).1
    simp only [List.length_cons, List.length_nil] at hl
    have e : i = S.1.length := by omega
    subst e
    simp at hx
    subst hx
    simp [va_up]
theorem mCore_lay (M : zMo) (c : Nat) (code : Int32) (v : Int64) : mCore M (mLay M c code v) := by
  refine ⟨?_, ?_, ?_, ?_, ?_, ?_⟩ <;> simp [va_up]
theorem mRep_pop {M : zMo} {S : zS} (h : mRep M S) {x : Int32} {ws : List Int32} (e : S.2.1 = x :: ws) : mRep (M.sI 1 (nI ws.length)) (S.1, ws, S.2.2) := by
  obtain ⟨⟨h1, h2⟩, ⟨h3, h4⟩, ⟨h5, h6⟩, h7, h8, h9⟩ := h
  refine ⟨⟨by simpa [va_up] using h1, fun i x hx => by simpa [va_up] using h2 i x hx⟩, ⟨by simp [va_up], fun i y hy => ?_⟩, ⟨by simpa [va_up] using h5, fun i hi => by simpa [va_up] using h6 i hi⟩, by simpa [va_up] using h7, by simpa [va_up] using h8, fun hd => by simpa [va_up] using h9 hd⟩
  rw [e] at h4
  refine h4 i y ?_
  rw [List.reverse_cons]
  have hl : i < ws.reverse.length := (List.getElem?_eq_some_iff.mp hy).1
  rw [List.getElem?_append_left hl]
  exact hy
theorem mRep_push {M : zMo} {S : zS} (h : mRep M S) (x : Int32) : mRep ((M.sA 5 (va_up (M.1 5) S.2.1.length x)).sI 1 (nI (S.2.1.length + 1))) (S.1, x :: S.2.1, S.2.2) := by
  obtain ⟨⟨h1, h2⟩, ⟨h3, h4⟩, ⟨h5, h6⟩, h7, h8, h9⟩ := h
  refine ⟨⟨by simpa [va_up] using h1, fun i x hx => by simpa [va_up] using h2 i x hx⟩, ⟨by simp [va_up], fun i y hy => ?_⟩, ⟨by simpa [va_up] using h5, fun i hi => by simpa [va_up] using h6 i hi⟩, by simpa [va_up] using h7, by simpa [va_up] using h8, fun hd => by simpa [va_up] using h9 hd⟩
  rw [List.reverse_cons] at hy
  by_cases hi : i < S.2.1.length
  · rw [List.getElem?_append_left (by rw [List.length_reverse]; exact hi)] at hy
    have := h4 i y hy
    simpa [va_up, Nat.ne_of_lt hi] using this
  · rw [List.getElem?_append_right (by rw [List.length_reverse]; omega)] at hy
    have hl := (List.getElem?_eq_some_iff.mp hy).1
    simp only [List.length_cons, List.length_nil, List.length_reverse] at hl
    have e : i = S.2.1.length := by omega
    subst e
    simp at hy
    subst hy
    simp [va_up]
theorem mCore_sI (M : zMo) (j : Nat) (x : Int32) : mCore M (M.sI j x) := ⟨rfl, rfl, rfl, rfl, rfl, rfl⟩
theorem mCore_sA5 (M : zMo) (f : Nat → Int32) : mCore M (M.sA 5 f) := by
  refine ⟨?_, ?_, ?_, ?_, ?_, ?_⟩ <;> simp [va_up]
theorem mTop {M : zMo} {S : zS} (h : mRep M S) {x : Int32} {ws : List Int32} (e : S.2.1 = x :: ws) : M.1 5 ws.length = x := by
  obtain ⟨-, ⟨-, h4⟩, -⟩ := h
  refine h4 ws.length x ?_
  rw [e, List.reverse_cons]
  simp
section
variable {E : zE} {σ : zH} {a : Nat} {M : zMo}
theorem k_firm (c : Int32) : zM E YM_firm 1 [.int c] (σ) (some (.int (pFirm c))) (σ) := by
  refine zM.of oM_firm (by decide +kernel) rfl rfl (fun n => ?_)
  refine zj_iload_n 0 rfl rfl rfl ?_
  refine zj_bipush 1 (11) rfl rfl (by decide) ?_
  refine zj_icmp_ne 2 rfl rfl (fun c3 => ?_) (fun c3 => ?_)
  · refine zj_iload_n 5 rfl rfl rfl ?_
    refine zj_bipush 6 (12) rfl rfl (by decide) ?_
    refine zj_icmp_ne 7 rfl rfl (fun c13 => ?_) (fun c13 => ?_)
    · refine zj_iload_n 10 rfl rfl rfl ?_
      refine zj_bipush 11 (16) rfl rfl (by decide) ?_
      refine zj_icmp_ge 12 rfl rfl (fun c23 => ?_) (fun c23 => ?_)
      · refine zj_iload_n 15 rfl rfl rfl ?_
        refine zj_bipush 16 (18) rfl rfl (by decide) ?_
        refine zj_icmp_ge 17 rfl rfl (fun c33 => ?_) (fun c33 => ?_)
        · refine zj_iload_n 20 rfl rfl rfl ?_
          refine zj_bipush 21 (20) rfl rfl (by decide) ?_
          refine zj_icmp_ge 22 rfl rfl (fun c43 => ?_) (fun c43 => ?_)
          · refine zj_iload_n 25 rfl rfl rfl ?_
            refine zj_bipush 26 (30) rfl rfl (by decide) ?_
            refine zj_icmp_ge 27 rfl rfl (fun c53 => ?_) (fun c53 => ?_)
            · refine zj_iconst 30 (0) rfl rfl (by decide) ?_
              refine zj_ireturn 31 rfl rfl rfl ?_
              refine ⟨zrt ?_, rfl, rfl⟩
              unfold pFirm
              repeat (first | rfl | rw [if_pos (by assumption)] | rw [if_neg (by assumption)] | rw [if_pos (Int32.not_le.mp (by assumption))] | rw [if_neg (Int32.not_lt.mpr (by assumption))])
            · refine zj_bipush 28 (6) rfl rfl (by decide) ?_
              refine zj_goto 29 rfl rfl ?_
              refine zj_ireturn 31 rfl rfl rfl ?_
              refine ⟨zrt ?_, rfl, rfl⟩
              unfold pFirm
              repeat (first | rfl | rw [if_pos (by assumption)] | rw [if_neg (by assumption)] | rw [if_pos (Int32.not_le.mp (by assumption))] | rw [if_neg (Int32.not_lt.mpr (by assumption))])
          · refine zj_iconst 23 (5) rfl rfl (by decide) ?_
            refine zj_goto 24 rfl rfl ?_
            refine zj_ireturn 31 rfl rfl rfl ?_
            refine ⟨zrt ?_, rfl, rfl⟩
            unfold pFirm
            repeat (first | rfl | rw [if_pos (by assumption)] | rw [if_neg (by assumption)] | rw [if_pos (Int32.not_le.mp (by assumption))] | rw [if_neg (Int32.not_lt.mpr (by assumption))])
        · refine zj_iconst 18 (4) rfl rfl (by decide) ?_
          refine zj_goto 19 rfl rfl ?_
          refine zj_ireturn 31 rfl rfl rfl ?_
          refine ⟨zrt ?_, rfl, rfl⟩
          unfold pFirm
          repeat (first | rfl | rw [if_pos (by assumption)] | rw [if_neg (by assumption)] | rw [if_pos (Int32.not_le.mp (by assumption))] | rw [if_neg (Int32.not_lt.mpr (by assumption))])
      · refine zj_iconst 13 (3) rfl rfl (by decide) ?_
        refine zj_goto 14 rfl rfl ?_
        refine zj_ireturn 31 rfl rfl rfl ?_
        refine ⟨zrt ?_, rfl, rfl⟩
        unfold pFirm
        repeat (first | rfl | rw [if_pos (by assumption)] | rw [if_neg (by assumption)] | rw [if_pos (Int32.not_le.mp (by assumption))] | rw [if_neg (Int32.not_lt.mpr (by assumption))])
    · refine zj_iconst 8 (2) rfl rfl (by decide) ?_
      refine zj_goto 9 rfl rfl ?_
      refine zj_ireturn 31 rfl rfl rfl ?_
      refine ⟨zrt ?_, rfl, rfl⟩
      unfold pFirm
      repeat (first | rfl | rw [if_pos (by assumption)] | rw [if_neg (by assumption)] | rw [if_pos (Int32.not_le.mp (by assumption))] | rw [if_neg (Int32.not_lt.mpr (by assumption))])
  · refine zj_iconst 3 (1) rfl rfl (by decide) ?_
    refine zj_goto 4 rfl rfl ?_
    refine zj_ireturn 31 rfl rfl rfl ?_
    refine ⟨zrt ?_, rfl, rfl⟩
    unfold pFirm
    repeat (first | rfl | rw [if_pos (by assumption)] | rw [if_neg (by assumption)] | rw [if_pos (Int32.not_le.mp (by assumption))] | rw [if_neg (Int32.not_lt.mpr (by assumption))])
theorem k_letterOf (c : Int32) : zM E YM_letterOf 1 [.int c] (σ) (some (.int (qLet c))) (σ) := by
  refine zM.of oM_letterOf (by decide +kernel) rfl rfl (fun n => ?_)
  refine zj_iload_n 0 rfl rfl rfl ?_
  refine zj_bipush 1 (97) rfl rfl (by decide) ?_
  refine zj_icmp_ne 2 rfl rfl (fun c3 => ?_) (fun c3 => ?_)
  · refine zj_iload_n 5 rfl rfl rfl ?_
    refine zj_bipush 6 (98) rfl rfl (by decide) ?_
    refine zj_icmp_ne 7 rfl rfl (fun c13 => ?_) (fun c13 => ?_)
    · refine zj_iload_n 10 rfl rfl rfl ?_
      refine zj_bipush 11 (100) rfl rfl (by decide) ?_
      refine zj_icmp_ne 12 rfl rfl (fun c23 => ?_) (fun c23 => ?_)
      · refine zj_iload_n 15 rfl rfl rfl ?_
        refine zj_bipush 16 (109) rfl rfl (by decide) ?_
        refine zj_icmp_ne 17 rfl rfl (fun c33 => ?_) (fun c33 => ?_)
        · refine zj_iload_n 20 rfl rfl rfl ?_
          refine zj_bipush 21 (107) rfl rfl (by decide) ?_
          refine zj_icmp_ne 22 rfl rfl (fun c43 => ?_) (fun c43 => ?_)
          · refine zj_iload_n 25 rfl rfl rfl ?_
            refine zj_bipush 26 (103) rfl rfl (by decide) ?_
            refine zj_icmp_ne 27 rfl rfl (fun c53 => ?_) (fun c53 => ?_)
            · refine zj_iconst 30 (-1) rfl rfl (by decide) ?_
              refine zj_ireturn 31 rfl rfl rfl ?_
              refine ⟨zrt ?_, rfl, rfl⟩
              unfold qLet
              repeat (first | rfl | rw [if_pos (by assumption)] | rw [if_neg (by assumption)] | rw [if_pos (Int32.not_le.mp (by assumption))] | rw [if_neg (Int32.not_lt.mpr (by assumption))])
            · refine zj_iconst 28 (5) rfl rfl (by decide) ?_
              refine zj_goto 29 rfl rfl ?_
              refine zj_ireturn 31 rfl rfl rfl ?_
              refine ⟨zrt ?_, rfl, rfl⟩
              unfold qLet
              repeat (first | rfl | rw [if_pos (by assumption)] | rw [if_neg (by assumption)] | rw [if_pos (Int32.not_le.mp (by assumption))] | rw [if_neg (Int32.not_lt.mpr (by assumption))])
          · refine zj_iconst 23 (4) rfl rfl (by decide) ?_
            refine zj_goto 24 rfl rfl ?_
            refine zj_ireturn 31 rfl rfl rfl ?_
            refine ⟨zrt ?_, rfl, rfl⟩
            unfold qLet
            repeat (first | rfl | rw [if_pos (by assumption)] | rw [if_neg (by assumption)] | rw [if_pos (Int32.not_le.mp (by assumption))] | rw [if_neg (Int32.not_lt.mpr (by assumption))])
        · refine zj_iconst 18 (3) rfl rfl (by decide) ?_
          refine zj_goto 19 rfl rfl ?_
          refine zj_ireturn 31 rfl rfl rfl ?_
          refine ⟨zrt ?_, rfl, rfl⟩
          unfold qLet
          repeat (first | rfl | rw [if_pos (by assumption)] | rw [if_neg (by assumption)] | rw [if_pos (Int32.not_le.mp (by assumption))] | rw [if_neg (Int32.not_lt.mpr (by assumption))])
      · refine zj_iconst 13 (2) rfl rfl (by decide) ?_
        refine zj_goto 14 rfl rfl ?_
        refine zj_ireturn 31 rfl rfl rfl ?_
        refine ⟨zrt ?_, rfl, rfl⟩
        unfold qLet
        repeat (first | rfl | rw [if_pos (by assumption)] | rw [if_neg (by assumption)] | rw [if_pos (Int32.not_le.mp (by assumption))] | rw [if_neg (Int32.not_lt.mpr (by assumption))])
    · refine zj_iconst 8 (1) rfl rfl (by decide) ?_
      refine zj_goto 9 rfl rfl ?_
      refine zj_ireturn 31 rfl rfl rfl ?_
      refine ⟨zrt ?_, rfl, rfl⟩
      unfold qLet
      repeat (first | rfl | rw [if_pos (by assumption)] | rw [if_neg (by assumption)] | rw [if_pos (Int32.not_le.mp (by assumption))] | rw [if_neg (Int32.not_lt.mpr (by assumption))])
  · refine zj_iconst 3 (0) rfl rfl (by decide) ?_
    refine zj_goto 4 rfl rfl ?_
    refine zj_ireturn 31 rfl rfl rfl ?_
    refine ⟨zrt ?_, rfl, rfl⟩
    unfold qLet
    repeat (first | rfl | rw [if_pos (by assumption)] | rw [if_neg (by assumption)] | rw [if_pos (Int32.not_le.mp (by assumption))] | rw [if_neg (Int32.not_lt.mpr (by assumption))])
theorem k_joint (c : Int32) : zM E YM_joint 1 [.int c] (σ) (some (.int (qJoint c))) (σ) := by
  refine zM.of oM_joint (by decide +kernel) rfl rfl (fun n => ?_)
  refine zj_iload_n 0 rfl rfl rfl ?_
  refine zj_bipush 1 (124) rfl rfl (by decide) ?_
  refine zj_icmp_ne 2 rfl rfl (fun c3 => ?_) (fun c3 => ?_)
  · refine zj_iload_n 5 rfl rfl rfl ?_
    refine zj_bipush 6 (38) rfl rfl (by decide) ?_
    refine zj_icmp_ne 7 rfl rfl (fun c14 => ?_) (fun c14 => ?_)
    · refine zj_iload_n 10 rfl rfl rfl ?_
      refine zj_bipush 11 (60) rfl rfl (by decide) ?_
      refine zj_icmp_ne 12 rfl rfl (fun c25 => ?_) (fun c25 => ?_)
      · refine zj_iload_n 15 rfl rfl rfl ?_
        refine zj_bipush 16 (62) rfl rfl (by decide) ?_
        refine zj_icmp_ne 17 rfl rfl (fun c36 => ?_) (fun c36 => ?_)
        · refine zj_iload_n 20 rfl rfl rfl ?_
          refine zj_bipush 21 (61) rfl rfl (by decide) ?_
          refine zj_icmp_ne 22 rfl rfl (fun c47 => ?_) (fun c47 => ?_)
          · refine zj_iload_n 25 rfl rfl rfl ?_
            refine zj_bipush 26 (43) rfl rfl (by decide) ?_
            refine zj_icmp_ne 27 rfl rfl (fun c58 => ?_) (fun c58 => ?_)
            · refine zj_iload_n 30 rfl rfl rfl ?_
              refine zj_bipush 31 (45) rfl rfl (by decide) ?_
              refine zj_icmp_ne 32 rfl rfl (fun c69 => ?_) (fun c69 => ?_)
              · refine zj_iload_n 35 rfl rfl rfl ?_
                refine zj_bipush 36 (42) rfl rfl (by decide) ?_
                refine zj_icmp_ne 37 rfl rfl (fun c80 => ?_) (fun c80 => ?_)
                · refine zj_iload_n 40 rfl rfl rfl ?_
                  refine zj_bipush 41 (47) rfl rfl (by decide) ?_
                  refine zj_icmp_ne 42 rfl rfl (fun c91 => ?_) (fun c91 => ?_)
                  · refine zj_iconst 45 (-1) rfl rfl (by decide) ?_
                    refine zj_ireturn 46 rfl rfl rfl ?_
                    refine ⟨zrt ?_, rfl, rfl⟩
                    unfold qJoint
                    repeat (first | rfl | rw [if_pos (by assumption)] | rw [if_neg (by assumption)] | rw [if_pos (Int32.not_le.mp (by assumption))] | rw [if_neg (Int32.not_lt.mpr (by assumption))])
                  · refine zj_bipush 43 (19) rfl rfl (by decide) ?_
                    refine zj_goto 44 rfl rfl ?_
                    refine zj_ireturn 46 rfl rfl rfl ?_
                    refine ⟨zrt ?_, rfl, rfl⟩
                    unfold qJoint
                    repeat (first | rfl | rw [if_pos (by assumption)] | rw [if_neg (by assumption)] | rw [if_pos (Int32.not_le.mp (by assumption))] | rw [if_neg (Int32.not_lt.mpr (by assumption))])
                · refine zj_bipush 38 (18) rfl rfl (by decide) ?_
                  refine zj_goto 39 rfl rfl ?_
                  refine zj_ireturn 46 rfl rfl rfl ?_
                  refine ⟨zrt ?_, rfl, rfl⟩
                  unfold qJoint
                  repeat (first | rfl | rw [if_pos (by assumption)] | rw [if_neg (by assumption)] | rw [if_pos (Int32.not_le.mp (by assumption))] | rw [if_neg (Int32.not_lt.mpr (by assumption))])
              · refine zj_bipush 33 (17) rfl rfl (by decide) ?_
                refine zj_goto 34 rfl rfl ?_
                refine zj_ireturn 46 rfl rfl rfl ?_
                refine ⟨zrt ?_, rfl, rfl⟩
                unfold qJoint
                repeat (first | rfl | rw [if_pos (by assumption)] | rw [if_neg (by assumption)] | rw [if_pos (Int32.not_le.mp (by assumption))] | rw [if_neg (Int32.not_lt.mpr (by assumption))])
            · refine zj_bipush 28 (16) rfl rfl (by decide) ?_
              refine zj_goto 29 rfl rfl ?_
              refine zj_ireturn 46 rfl rfl rfl ?_
              refine ⟨zrt ?_, rfl, rfl⟩
              unfold qJoint
              repeat (first | rfl | rw [if_pos (by assumption)] | rw [if_neg (by assumption)] | rw [if_pos (Int32.not_le.mp (by assumption))] | rw [if_neg (Int32.not_lt.mpr (by assumption))])
          · refine zj_bipush 23 (15) rfl rfl (by decide) ?_
            refine zj_goto 24 rfl rfl ?_
            refine zj_ireturn 46 rfl rfl rfl ?_
            refine ⟨zrt ?_, rfl, rfl⟩
            unfold qJoint
            repeat (first | rfl | rw [if_pos (by assumption)] | rw [if_neg (by assumption)] | rw [if_pos (Int32.not_le.mp (by assumption))] | rw [if_neg (Int32.not_lt.mpr (by assumption))])
        · refine zj_bipush 18 (14) rfl rfl (by decide) ?_
          refine zj_goto 19 rfl rfl ?_
          refine zj_ireturn 46 rfl rfl rfl ?_
          refine ⟨zrt ?_, rfl, rfl⟩
          unfold qJoint
          repeat (first | rfl | rw [if_pos (by assumption)] | rw [if_neg (by assumption)] | rw [if_pos (Int32.not_le.mp (by assumption))] | rw [if_neg (Int32.not_lt.mpr (by assumption))])
      · refine zj_bipush 13 (13) rfl rfl (by decide) ?_
        refine zj_goto 14 rfl rfl ?_
        refine zj_ireturn 46 rfl rfl rfl ?_
        refine ⟨zrt ?_, rfl, rfl⟩
        unfold qJoint
        repeat (first | rfl | rw [if_pos (by assumption)] | rw [if_neg (by assumption)] | rw [if_pos (Int32.not_le.mp (by assumption))] | rw [if_neg (Int32.not_lt.mpr (by assumption))])
    · refine zj_bipush 8 (12) rfl rfl (by decide) ?_
      refine zj_goto 9 rfl rfl ?_
      refine zj_ireturn 46 rfl rfl rfl ?_
      refine ⟨zrt ?_, rfl, rfl⟩
      unfold qJoint
      repeat (first | rfl | rw [if_pos (by assumption)] | rw [if_neg (by assumption)] | rw [if_pos (Int32.not_le.mp (by assumption))] | rw [if_neg (Int32.not_lt.mpr (by assumption))])
  · refine zj_bipush 3 (11) rfl rfl (by decide) ?_
    refine zj_goto 4 rfl rfl ?_
    refine zj_ireturn 46 rfl rfl rfl ?_
    refine ⟨zrt ?_, rfl, rfl⟩
    unfold qJoint
    repeat (first | rfl | rw [if_pos (by assumption)] | rw [if_neg (by assumption)] | rw [if_pos (Int32.not_le.mp (by assumption))] | rw [if_neg (Int32.not_lt.mpr (by assumption))])
theorem k_lay (code : Int32) (v : Int64) (c : Nat) (hc : M.2.2.1 0 = nI c) (hb : c < 40) : zM E YM_lay 1 [.ref a, .int code, .long v] (mw σ a M) (none) (mw σ a (mLay M c code v)) := by
  refine zM.of oM_lay (by decide +kernel) rfl rfl (fun n => ?_)
  refine zj_aload_n 0 rfl rfl rfl ?_
  refine zj_get 1 rfl rfl mw_0 rfl ?_
  refine zj_aload_n 2 rfl rfl rfl ?_
  refine zj_get 3 rfl rfl mw_0 rfl ?_
  refine zj_iload_n 4 rfl rfl rfl ?_
  refine zn_iast 5 (c) rfl rfl mw_5 hc (by omega) (by decide) mw_u5 ?_
  refine zj_aload_n 6 rfl rfl rfl ?_
  refine zj_get 7 rfl rfl mw_0 rfl ?_
  refine zj_aload_n 8 rfl rfl rfl ?_
  refine zj_get 9 rfl rfl mw_0 rfl ?_
  refine zj_lload_n 10 rfl rfl rfl ?_
  refine zn_last 11 (c) rfl rfl mw_6 hc (by omega) (by decide) mw_u6 ?_
  refine zj_aload_n 12 rfl rfl rfl ?_
  refine zj_dup 13 rfl rfl rfl ?_
  refine zj_get 14 rfl rfl mw_0 rfl ?_
  refine zj_iconst 15 (1) rfl rfl (by decide) ?_
  refine zn_iadd 16 (c) (1) rfl rfl hc rfl ?_
  refine zn_put 17 rfl rfl mw_0 rfl rfl rfl rfl mw_p_codeMany ?_
  refine zj_return 18 rfl rfl rfl ?_
  exact ⟨rfl, rfl, rfl⟩
theorem zXB_mono {Y : zY} {d n : Nat} {r : Option Value} {P Q : zH → Prop} {s : zH} {pc : Nat} {L : List (Option Value)} {st : List Value} (hPQ : ∀ s, P s → Q s) (h : zXB E Y d n r P s pc L st) : zXB E Y d n r Q s pc L st := by
  intro p e s0 m args below meth c H locs ls C hR hf hl T hT X
  obtain ⟨t, a1, o, b1, b2, ⟨r', n', s', e1, ⟨e2, e3, e4⟩, e5⟩, e6⟩ := h p e s0 m args below meth c H locs ls C hR hf hl T hT X
  exact ⟨t, a1, o, b1, b2, ⟨r', n', s', e1, ⟨e2, e3, hPQ _ e4⟩, e5⟩, e6⟩
theorem mP_core {M M1 : zMo} {S : zS} (h : mCore M M1) (s : zH) (g : mP σ a M1 S s) : mP σ a M S s := by
  obtain ⟨M', e, h1, h2⟩ := g
  exact ⟨M', e, h.trans h1, h2⟩
theorem zXB_core {Y : zY} {d n : Nat} {r : Option Value} {S : zS} {M M1 : zMo} {s : zH} {pc : Nat} {L : List (Option Value)} {st : List Value} (hc : mCore M M1) (h : zXB E Y d n r (mP σ a M1 S) s pc L st) : zXB E Y d n r (mP σ a M S) s pc L st := zXB_mono (mP_core hc) h
theorem l_layDown (least : Int32) : ∀ (m : Nat) (M : zMo) (S : zS), (S.2.1.length ≤ m) → (mRep M S) → (S.1.length + S.2.1.length ≤ 40) → ∀ n, zXB E YM_layDown 2 n (none) (mP σ a M (qLDS least S)) (mw σ a M) 0 [some (.ref a), some (.int least)] [] := by
  intro m
  induction m using Nat.strongRecOn with
  | ind m ih =>
  intro M S hm hr hb n
  refine zj_aload_n 0 rfl rfl rfl ?_
  refine zj_get 1 rfl rfl mw_0 rfl ?_
  refine zj_if_le 2 rfl rfl (fun c4 => ?_) (fun c4 => ?_)
  · refine zj_return 28 rfl rfl rfl ?_
    have e : qLDS least S = S := by
      unfold qLDS
      first
        | (have e0 : S.2.1 = [] := by
             cases hS : S.2.1 with
             | nil => rfl
             | cons x ws =>
               have h3 := hr.2.1.1
               rw [hS] at h3
               exact absurd (show M.2.2.1 1 ≤ 0 from c4) (by rw [h3]; exact nI_nle (by simp) (by rw [hS] at hb; simp at hb ⊢; omega))
           rw [e0]; simp only [qLD]; rw [← e0])
        | (rw [hws]; simp only [qLD]; rw [if_neg (Int32.not_le.mpr c22)]; rw [← hws])
    exact ⟨rfl, rfl, M, rfl, mCore.rfl, by rw [e]; exact hr⟩
  · obtain ⟨x, ws, hws⟩ : ∃ x ws, S.2.1 = x :: ws := by
      cases hS : S.2.1 with
      | nil =>
        have h3 := hr.2.1.1
        rw [hS] at h3
        exact absurd (show M.2.2.1 1 ≤ 0 by rw [h3]; decide) c4
      | cons x ws => exact ⟨x, ws, rfl⟩
    have hwl : S.2.1.length = ws.length + 1 := by rw [hws]; rfl
    have hwt : M.2.2.1 1 = nI (ws.length + 1) := by rw [hr.2.1.1, hwl]
    have htop := mTop hr hws
    refine zj_aload_n 3 rfl rfl rfl ?_
    refine zj_get 4 rfl rfl mw_0 rfl ?_
    refine zj_aload_n 5 rfl rfl rfl ?_
    refine zj_get 6 rfl rfl mw_0 rfl ?_
    refine zj_iconst 7 (1) rfl rfl (by decide) ?_
    refine zn_isub 8 (ws.length + 1) (1) rfl rfl hwt rfl (by omega) ?_
    refine zn_iald 9 ((ws.length + 1) - (1)) rfl rfl mw_7 rfl (by omega) (by decide) ?_
    rw [Nat.add_sub_cancel, htop]
    refine zj_csx 10 rfl rfl lk_8_106 ckM_firm (k_firm _) rfl rfl rfl rfl ?_
    refine zj_iload_n 11 rfl rfl rfl ?_
    refine zj_icmp_lt 12 rfl rfl (fun c22 => ?_) (fun c22 => ?_)
    · refine zj_return 28 rfl rfl rfl ?_
      have e : qLDS least S = S := by
        unfold qLDS
        first
          | (have e0 : S.2.1 = [] := by
               cases hS : S.2.1 with
               | nil => rfl
               | cons x ws =>
                 have h3 := hr.2.1.1
                 rw [hS] at h3
                 exact absurd (show M.2.2.1 1 ≤ 0 from c4) (by rw [h3]; exact nI_nle (by simp) (by rw [hS] at hb; simp at hb ⊢; omega))
             rw [e0]; simp only [qLD]; rw [← e0])
          | (rw [hws]; simp only [qLD]; rw [if_neg (Int32.not_le.mpr c22)]; rw [← hws])
      exact ⟨rfl, rfl, M, rfl, mCore.rfl, by rw [e]; exact hr⟩
    · have c22' : least ≤ pFirm x := Int32.not_lt.mp c22
      refine zj_aload_n 13 rfl rfl rfl ?_
      refine zj_dup 14 rfl rfl rfl ?_
      refine zj_get 15 rfl rfl mw_0 rfl ?_
      refine zj_iconst 16 (1) rfl rfl (by decide) ?_
      refine zn_isub 17 (ws.length + 1) (1) rfl rfl hwt rfl (by omega) ?_
      refine zn_put 18 rfl rfl mw_0 rfl rfl rfl rfl mw_p_waiting ?_
      refine zj_aload_n 19 rfl rfl rfl ?_
      refine zj_aload_n 20 rfl rfl rfl ?_
      refine zj_get 21 rfl rfl mw_0 rfl ?_
      refine zj_aload_n 22 rfl rfl rfl ?_
      refine zj_get 23 rfl rfl mw_0 rfl ?_
      refine zn_iald 24 (ws.length) rfl rfl mw_7 rfl (by omega) (by decide) ?_
      refine zj_lconst 25 (0) rfl rfl (by decide) ?_
      refine zj_cvv 26 rfl rfl lk_8_109 ckM_lay (k_lay _ _ S.1.length hr.1.1 (by omega)) rfl mw_0 rfl rfl rfl ?_
      refine zj_goto 27 rfl rfl ?_
      have hh := ih ws.length (by omega) (mLay (M.sI 1 (nI ws.length)) S.1.length x 0) (S.1 ++ [(x, 0)], ws, S.2.2) (Nat.le_refl _) (mRep_lay (mRep_pop hr hws) x 0) (by simp; omega) n
      have e : mP σ a M (qLDS least S) = mP σ a M (qLDS least (S.1 ++ [(x, 0)], ws, S.2.2)) := by
        have e1 : qLD least S.2.1 S.1 = qLD least ws (S.1 ++ [(x, 0)]) := by rw [hws]; simp only [qLD]; rw [if_pos c22']
        unfold qLDS; rw [e1]
      rw [e, show (M.sI 1 (nI (ws.length + 1 - 1))).1 5 ws.length = x from htop, Nat.add_sub_cancel]
      exact zXB_core (mCore.trans (mCore_sI M 1 _) (mCore_lay _ _ _ _)) hh
theorem k_layDown (least : Int32) (S : zS) (hr : mRep M S) (hb : S.1.length + S.2.1.length ≤ 40) : zX E YM_layDown 2 [.ref a, .int least] (mw σ a M) (none) (mP σ a M (qLDS least S)) := by
  refine zX.of oM_layDown (by decide +kernel) rfl rfl (fun n => ?_)
  exact l_layDown least S.2.1.length M S (Nat.le_refl _) hr hb n
def qJoin (code : Int32) (S : zS) : zS := ((qLDS (pFirm code) S).1, code :: (qLDS (pFirm code) S).2.1, S.2.2.1, S.2.2.2.1, false, S.2.2.2.2.2)
theorem mRep_bh {M : zMo} {S : zS} (h : mRep M S) (b : Bool) : mRep (M.sI 3 (zob b)) (S.1, S.2.1, S.2.2.1, S.2.2.2.1, b, S.2.2.2.2.2) := by
  obtain ⟨⟨h1, h2⟩, ⟨h3, h4⟩, ⟨h5, h6⟩, h7, h8, h9⟩ := h
  exact ⟨⟨by simpa [va_up] using h1, h2⟩, ⟨by simpa [va_up] using h3, h4⟩, ⟨by simpa [va_up] using h5, h6⟩, by simp [va_up], by simpa [va_up] using h8, fun hd => by simpa [va_up] using h9 hd⟩
theorem mRep_dg {M : zMo} {S : zS} (h : mRep M S) : mRep (M.sI 4 0) (S.1, S.2.1, S.2.2.1, S.2.2.2.1, S.2.2.2.2.1, 0, S.2.2.2.2.2.2) := by
  obtain ⟨⟨h1, h2⟩, ⟨h3, h4⟩, ⟨h5, h6⟩, h7, h8, h9⟩ := h
  exact ⟨⟨by simpa [va_up] using h1, h2⟩, ⟨by simpa [va_up] using h3, h4⟩, ⟨by simpa [va_up] using h5, h6⟩, by simpa [va_up] using h7, by simp [va_up]; rfl, fun hd => by simp at hd⟩
theorem mRep_num {M : zMo} {S : zS} (h : mRep M S) (k : Nat) : mRep (((M.sI 3 1).sI 4 1).sI 5 (nI k)) (S.1, S.2.1, S.2.2.1, S.2.2.2.1, true, 1, k) := by
  obtain ⟨⟨h1, h2⟩, ⟨h3, h4⟩, ⟨h5, h6⟩, h7, h8, h9⟩ := h
  exact ⟨⟨by simpa [va_up] using h1, h2⟩, ⟨by simpa [va_up] using h3, h4⟩, ⟨by simpa [va_up] using h5, h6⟩, by simp [va_up, zob], by simp [va_up]; rfl, fun hd => by simp [va_up]⟩
theorem k_join (code : Int32) (S : zS) (hr : mRep M S) (hb : S.1.length + S.2.1.length ≤ 39) : zX E YM_join 3 [.ref a, .int code] (mw σ a M) (none) (mP σ a M (qJoin code S)) := by
  refine zX.of oM_join (by decide +kernel) rfl rfl (fun n => ?_)
  refine zj_aload_n 0 rfl rfl rfl ?_
  refine zj_iload_n 1 rfl rfl rfl ?_
  refine zj_csx 2 rfl rfl lk_8_106 ckM_firm (k_firm _) rfl rfl rfl rfl ?_
  refine zj_cvvX 3 rfl rfl lk_8_113 ckM_layDown (k_layDown _ S hr (by omega)) rfl mw_0 rfl rfl rfl (fun s1 hP1 => ?_)
  obtain ⟨M1, rfl, hc1, hr1⟩ := hP1
  have hl1 := qLD_len (pFirm code) S.2.1 S.1
  have hw1 : M1.2.2.1 1 = nI (qLDS (pFirm code) S).2.1.length := hr1.2.1.1
  have hl2 : (qLDS (pFirm code) S).2.1.length + (qLDS (pFirm code) S).1.length = S.2.1.length + S.1.length := hl1
  refine zj_aload_n 4 rfl rfl rfl ?_
  refine zj_get 5 rfl rfl mw_0 rfl ?_
  refine zj_aload_n 6 rfl rfl rfl ?_
  refine zj_get 7 rfl rfl mw_0 rfl ?_
  refine zj_iload_n 8 rfl rfl rfl ?_
  refine zn_iast 9 ((qLDS (pFirm code) S).2.1.length) rfl rfl mw_7 hw1 (by omega) (by decide) mw_u7 ?_
  refine zj_aload_n 10 rfl rfl rfl ?_
  refine zj_dup 11 rfl rfl rfl ?_
  refine zj_get 12 rfl rfl mw_0 rfl ?_
  refine zj_iconst 13 (1) rfl rfl (by decide) ?_
  refine zn_iadd 14 ((qLDS (pFirm code) S).2.1.length) (1) rfl rfl hw1 rfl ?_
  refine zn_put 15 rfl rfl mw_0 rfl rfl rfl rfl mw_p_waiting ?_
  refine zj_aload_n 16 rfl rfl rfl ?_
  refine zj_iconst 17 (0) rfl rfl (by decide) ?_
  refine zn_put 18 rfl rfl mw_0 rfl rfl rfl rfl mw_p_isBehind ?_
  refine zj_return 19 rfl rfl rfl ?_
  exact ⟨rfl, rfl, _, rfl, hc1.trans ((mCore_sA5 M1 _).trans ((mCore_sI _ 1 _).trans (mCore_sI _ 3 _))), mRep_bh (mRep_push hr1 code) false⟩
end
end
section
/-! the reference's reader, a sign -/
abbrev qDig (c : Int32) : Prop := 48 ≤ c.toInt ∧ c.toInt ≤ 57
def qUnit (c : Int32) (k : Nat) (S : zS) : Int32 × zS :=
  if qDig c then (0, (S.1 ++ [(6, (c - 48).toInt64)], S.2.1, S.2.2.1, S.2.2.2.1, true, 1, k))
  else if qLet c ≠ -1 then (0, (S.1 ++ [(qLet c, 0)], S.2.1, S.2.2.1, S.2.2.2.1, true, S.2.2.2.2.2))
  else if c = 33 ∨ c = 45 then (0, (S.1, (if c = 33 then 20 else 21) :: S.2.1, S.2.2))
  else if c ≠ 40 then (nI (10 * k + 1), S)
  else if S.2.2.1 = 8 then (nI (10 * k + 3), S)
  else (0, (S.1, 30 :: S.2.1, S.2.2.1 + 1, va_up S.2.2.2.1 (S.2.2.1 + 1) false, S.2.2.2.2))
def qBehind (c : Int32) (k : Nat) (S : zS) : Int32 × zS :=
  if c = 41 ∧ 0 < S.2.2.1 then (0, ((qLDS 1 S).1, (qLDS 1 S).2.1.tail, S.2.2.1 - 1, S.2.2.2))
  else if qJoint c = -1 ∨ (pFirm (qJoint c) = 3 ∧ S.2.2.2.1 S.2.2.1 = true) then (nI (10 * k + 1), S)
  else (0, qJoin (qJoint c) (S.1, S.2.1, S.2.2.1, va_up S.2.2.2.1 S.2.2.1 (decide (pFirm (qJoint c) = 3) || (S.2.2.2.1 S.2.2.1 && decide (3 < pFirm (qJoint c)))), S.2.2.2.2))
theorem mRep_dp {M : zMo} {S : zS} (h : mRep M S) : mRep ((M.sI 2 (nI (S.2.2.1 + 1))).sA 6 (va_up (M.1 6) (S.2.2.1 + 1) 0)) (S.1, S.2.1, S.2.2.1 + 1, va_up S.2.2.2.1 (S.2.2.1 + 1) false, S.2.2.2.2) := by
  obtain ⟨⟨h1, h2⟩, ⟨h3, h4⟩, ⟨h5, h6⟩, h7, h8, h9⟩ := h
  refine ⟨⟨by simpa [va_up] using h1, fun i x hx => by simpa [va_up] using h2 i x hx⟩, ⟨by simpa [va_up] using h3, fun i x hx => by simpa [va_up] using h4 i x hx⟩, ⟨by simp [va_up], fun i hi => ?_⟩, by simpa [va_up] using h7, by simpa [va_up] using h8, fun hd => by simpa [va_up] using h9 hd⟩
  by_cases e : i = S.2.2.1 + 1
  · subst e; simp [va_up, zob]
  · have := h6 i (by have : i ≤ S.2.2.1 + 1 := hi; omega)
    simpa [va_up, e] using this
theorem mRep_up {M : zMo} {S : zS} (h : mRep M S) {d : Nat} (e : S.2.2.1 = d + 1) : mRep (M.sI 2 (nI d)) (S.1, S.2.1, d, S.2.2.2) := by
  obtain ⟨⟨h1, h2⟩, ⟨h3, h4⟩, ⟨h5, h6⟩, h7, h8, h9⟩ := h
  exact ⟨⟨by simpa [va_up] using h1, h2⟩, ⟨by simpa [va_up] using h3, h4⟩, ⟨by simp [va_up], fun i hi => h6 i (by have : i ≤ d := hi; omega)⟩, by simpa [va_up] using h7, by simpa [va_up] using h8, fun hd => by simpa [va_up] using h9 hd⟩
theorem mRep_cm {M : zMo} {S : zS} (h : mRep M S) (b : Bool) : mRep (M.sA 6 (va_up (M.1 6) S.2.2.1 (zob b))) (S.1, S.2.1, S.2.2.1, va_up S.2.2.2.1 S.2.2.1 b, S.2.2.2.2) := by
  obtain ⟨⟨h1, h2⟩, ⟨h3, h4⟩, ⟨h5, h6⟩, h7, h8, h9⟩ := h
  refine ⟨⟨by simpa [va_up] using h1, fun i x hx => by simpa [va_up] using h2 i x hx⟩, ⟨by simpa [va_up] using h3, fun i x hx => by simpa [va_up] using h4 i x hx⟩, ⟨by simpa [va_up] using h5, fun i hi => ?_⟩, by simpa [va_up] using h7, by simpa [va_up] using h8, fun hd => by simpa [va_up] using h9 hd⟩
  by_cases e : i = S.2.2.1
  · subst e; simp [va_up]
  · have := h6 i hi
    simpa [va_up, e] using this
theorem mCore_sA6 (M : zMo) (f : Nat → Int32) : mCore M (M.sA 6 f) := by
  refine ⟨?_, ?_, ?_, ?_, ?_, ?_⟩ <;> simp [va_up]
theorem mCore_sB (M : zMo) (j : Nat) (f : Nat → Int64) : mCore M (M.sB j f) := ⟨rfl, rfl, rfl, rfl, rfl, rfl⟩
theorem zob_0 {b : Bool} : zob b = 0 ↔ b = false := by cases b <;> simp [zob]
theorem zob_n {b : Bool} : ¬ zob b = 0 ↔ b = true := by cases b <;> simp [zob]
section
variable {E : zE} {σ : zH} {a : Nat} {M : zMo}
theorem k_inD (c : Int32) : zM E YM_in 1 [.long c.toInt64, .long 48, .long 57] σ (some (.int (zo (qDig c)))) σ := by
  have h := k_in (E := E) (σ := σ) c.toInt64 48 57
  have e : zo ((48 : Int64).toInt ≤ c.toInt64.toInt ∧ c.toInt64.toInt ≤ (57 : Int64).toInt) = zo (qDig c) := zo_c (by rw [zl0]; exact Iff.rfl)
  rw [e] at h
  exact h
theorem k_goUnit (c : Int32) (k : Nat) (S : zS) (hr : mRep M S) (hb : S.1.length + S.2.1.length ≤ 39) (hk : k < 100) (hdp : S.2.2.1 ≤ 8) : zX E YM_goUnit 2 [.ref a, .int c, .int (nI k)] (mw σ a M) (some (.int (qUnit c k S).1)) (mP σ a M (qUnit c k S).2) := by
  refine zX.of oM_goUnit (by decide +kernel) rfl rfl (fun n => ?_)
  refine zj_iload_n 0 rfl rfl rfl ?_
  refine zj_i2l 1 rfl rfl ?_
  refine zj_ldc2 2 (48) rfl rfl (by decide) ?_
  refine zj_ldc2 3 (57) rfl rfl (by decide) ?_
  refine zj_csx 4 rfl rfl lk_8_51 ckM_in (k_inD _) rfl rfl rfl rfl ?_
  refine zj_if_eq 5 rfl rfl (fun c11 => ?_) (fun c11 => ?_)
  · refine zj_iload_n 24 rfl rfl rfl ?_
    refine zj_csx 25 rfl rfl lk_8_131 ckM_letterOf (k_letterOf _) rfl rfl rfl rfl ?_
    refine zj_iconst 26 (-1) rfl rfl (by decide) ?_
    refine zj_icmp_eq 27 rfl rfl (fun c47 => ?_) (fun c47 => ?_)
    · refine zj_iload_n 38 rfl rfl rfl ?_
      refine zj_bipush 39 (33) rfl rfl (by decide) ?_
      refine zj_icmp_eq 40 rfl rfl (fun c69 => ?_) (fun c69 => ?_)
      · refine zj_aload_n 44 rfl rfl rfl ?_
        refine zj_get 45 rfl rfl mw_0 rfl ?_
        refine zj_aload_n 46 rfl rfl rfl ?_
        refine zj_get 47 rfl rfl mw_0 rfl ?_
        refine zj_iload_n 48 rfl rfl rfl ?_
        refine zj_bipush 49 (33) rfl rfl (by decide) ?_
        refine zj_icmp_ne 50 rfl rfl (fun c89 => ?_) (fun c89 => ?_)
        · refine zj_bipush 53 (21) rfl rfl (by decide) ?_
          refine zn_iast 54 (S.2.1.length) rfl rfl mw_7 hr.2.1.1 (by omega) (by decide) mw_u7 ?_
          refine zj_aload_n 55 rfl rfl rfl ?_
          refine zj_dup 56 rfl rfl rfl ?_
          refine zj_get 57 rfl rfl mw_0 rfl ?_
          refine zj_iconst 58 (1) rfl rfl (by decide) ?_
          refine zn_iadd 59 (S.2.1.length) (1) rfl rfl hr.2.1.1 rfl ?_
          refine zn_put 60 rfl rfl mw_0 rfl rfl rfl rfl mw_p_waiting ?_
          refine zj_iconst 61 (0) rfl rfl (by decide) ?_
          refine zj_ireturn 62 rfl rfl rfl ?_
          have e : qUnit c k S = (0, (S.1, (if c = 33 then 20 else 21) :: S.2.1, S.2.2)) := by
            unfold qUnit
            rw [if_neg (zo_0.mp c11), if_neg (fun g => g c47), if_pos (by first | exact Or.inl c69 | exact Or.inr c75)]
          rw [e]
          first
            | (rw [if_pos c89]; exact ⟨rfl, rfl, _, rfl, (mCore_sA5 _ _).trans (mCore_sI _ 1 _), mRep_push hr _⟩)
            | (rw [if_neg c89]; exact ⟨rfl, rfl, _, rfl, (mCore_sA5 _ _).trans (mCore_sI _ 1 _), mRep_push hr _⟩)
        · refine zj_bipush 51 (20) rfl rfl (by decide) ?_
          refine zj_goto 52 rfl rfl ?_
          refine zn_iast 54 (S.2.1.length) rfl rfl mw_7 hr.2.1.1 (by omega) (by decide) mw_u7 ?_
          refine zj_aload_n 55 rfl rfl rfl ?_
          refine zj_dup 56 rfl rfl rfl ?_
          refine zj_get 57 rfl rfl mw_0 rfl ?_
          refine zj_iconst 58 (1) rfl rfl (by decide) ?_
          refine zn_iadd 59 (S.2.1.length) (1) rfl rfl hr.2.1.1 rfl ?_
          refine zn_put 60 rfl rfl mw_0 rfl rfl rfl rfl mw_p_waiting ?_
          refine zj_iconst 61 (0) rfl rfl (by decide) ?_
          refine zj_ireturn 62 rfl rfl rfl ?_
          have e : qUnit c k S = (0, (S.1, (if c = 33 then 20 else 21) :: S.2.1, S.2.2)) := by
            unfold qUnit
            rw [if_neg (zo_0.mp c11), if_neg (fun g => g c47), if_pos (by first | exact Or.inl c69 | exact Or.inr c75)]
          rw [e]
          first
            | (rw [if_pos c89]; exact ⟨rfl, rfl, _, rfl, (mCore_sA5 _ _).trans (mCore_sI _ 1 _), mRep_push hr _⟩)
            | (rw [if_neg c89]; exact ⟨rfl, rfl, _, rfl, (mCore_sA5 _ _).trans (mCore_sI _ 1 _), mRep_push hr _⟩)
      · refine zj_iload_n 41 rfl rfl rfl ?_
        refine zj_bipush 42 (45) rfl rfl (by decide) ?_
        refine zj_icmp_ne 43 rfl rfl (fun c75 => ?_) (fun c75 => ?_)
        · refine zj_iload_n 63 rfl rfl rfl ?_
          refine zj_bipush 64 (40) rfl rfl (by decide) ?_
          refine zj_icmp_eq 65 rfl rfl (fun c115 => ?_) (fun c115 => ?_)
          · refine zj_aload_n 72 rfl rfl rfl ?_
            refine zj_get 73 rfl rfl mw_0 rfl ?_
            refine zj_bipush 74 (8) rfl rfl (by decide) ?_
            refine zn_icmp_ne 75 (S.2.2.1) (8) rfl rfl hr.2.2.1.1 rfl (by omega) (by omega) (fun c131 => ?_) (fun c131 => ?_)
            · refine zj_aload_n 82 rfl rfl rfl ?_
              refine zj_get 83 rfl rfl mw_0 rfl ?_
              refine zj_aload_n 84 rfl rfl rfl ?_
              refine zj_get 85 rfl rfl mw_0 rfl ?_
              refine zj_bipush 86 (30) rfl rfl (by decide) ?_
              refine zn_iast 87 (S.2.1.length) rfl rfl mw_7 hr.2.1.1 (by omega) (by decide) mw_u7 ?_
              refine zj_aload_n 88 rfl rfl rfl ?_
              refine zj_dup 89 rfl rfl rfl ?_
              refine zj_get 90 rfl rfl mw_0 rfl ?_
              refine zj_iconst 91 (1) rfl rfl (by decide) ?_
              refine zn_iadd 92 (S.2.1.length) (1) rfl rfl hr.2.1.1 rfl ?_
              refine zn_put 93 rfl rfl mw_0 rfl rfl rfl rfl mw_p_waiting ?_
              refine zj_aload_n 94 rfl rfl rfl ?_
              refine zj_dup 95 rfl rfl rfl ?_
              refine zj_get 96 rfl rfl mw_0 rfl ?_
              refine zj_iconst 97 (1) rfl rfl (by decide) ?_
              refine zn_iadd 98 (S.2.2.1) (1) rfl rfl hr.2.2.1.1 rfl ?_
              refine zn_put 99 rfl rfl mw_0 rfl rfl rfl rfl mw_p_depth ?_
              refine zj_aload_n 100 rfl rfl rfl ?_
              refine zj_get 101 rfl rfl mw_0 rfl ?_
              refine zj_aload_n 102 rfl rfl rfl ?_
              refine zj_get 103 rfl rfl mw_0 rfl ?_
              refine zj_iconst 104 (0) rfl rfl (by decide) ?_
              refine zn_zast 105 (S.2.2.1 + 1) rfl rfl mw_8 rfl (by omega) (by decide) rfl mw_u8 ?_
              refine zj_iconst 106 (0) rfl rfl (by decide) ?_
              refine zj_ireturn 107 rfl rfl rfl ?_
              have e : qUnit c k S = (0, (S.1, 30 :: S.2.1, S.2.2.1 + 1, va_up S.2.2.2.1 (S.2.2.1 + 1) false, S.2.2.2.2)) := by
                unfold qUnit
                rw [if_neg (zo_0.mp c11), if_neg (fun g => g c47), if_neg (fun g => g.elim c69 c75), if_neg (fun g => g c115), if_neg c131]
              rw [e]
              exact ⟨rfl, rfl, _, rfl, (mCore_sA5 _ _).trans ((mCore_sI _ 1 _).trans ((mCore_sI _ 2 _).trans (mCore_sA6 _ _))), mRep_dp (mRep_push hr 30)⟩
            · refine zj_bipush 76 (10) rfl rfl (by decide) ?_
              refine zj_iload_n 77 rfl rfl rfl ?_
              refine zn_imul 78 (10) (k) rfl rfl rfl rfl ?_
              refine zj_iconst 79 (3) rfl rfl (by decide) ?_
              refine zn_iadd 80 (10 * k) (3) rfl rfl rfl rfl ?_
              refine zj_ireturn 81 rfl rfl rfl ?_
              have e : qUnit c k S = (nI (10 * k + 3), S) := by
                unfold qUnit
                rw [if_neg (zo_0.mp c11), if_neg (fun g => g c47), if_neg (fun g => g.elim c69 c75), if_neg (fun g => g c115), if_pos c131]
              rw [e]
              exact ⟨rfl, rfl, _, rfl, mCore.rfl, hr⟩
          · refine zj_bipush 66 (10) rfl rfl (by decide) ?_
            refine zj_iload_n 67 rfl rfl rfl ?_
            refine zn_imul 68 (10) (k) rfl rfl rfl rfl ?_
            refine zj_iconst 69 (1) rfl rfl (by decide) ?_
            refine zn_iadd 70 (10 * k) (1) rfl rfl rfl rfl ?_
            refine zj_ireturn 71 rfl rfl rfl ?_
            have e : qUnit c k S = (nI (10 * k + 1), S) := by
              unfold qUnit
              rw [if_neg (zo_0.mp c11), if_neg (fun g => g c47), if_neg (fun g => g.elim c69 c75), if_pos c115]
            rw [e]
            exact ⟨rfl, rfl, _, rfl, mCore.rfl, hr⟩
        · refine zj_aload_n 44 rfl rfl rfl ?_
          refine zj_get 45 rfl rfl mw_0 rfl ?_
          refine zj_aload_n 46 rfl rfl rfl ?_
          refine zj_get 47 rfl rfl mw_0 rfl ?_
          refine zj_iload_n 48 rfl rfl rfl ?_
          refine zj_bipush 49 (33) rfl rfl (by decide) ?_
          refine zj_icmp_ne 50 rfl rfl (fun c89 => ?_) (fun c89 => ?_)
          · refine zj_bipush 53 (21) rfl rfl (by decide) ?_
            refine zn_iast 54 (S.2.1.length) rfl rfl mw_7 hr.2.1.1 (by omega) (by decide) mw_u7 ?_
            refine zj_aload_n 55 rfl rfl rfl ?_
            refine zj_dup 56 rfl rfl rfl ?_
            refine zj_get 57 rfl rfl mw_0 rfl ?_
            refine zj_iconst 58 (1) rfl rfl (by decide) ?_
            refine zn_iadd 59 (S.2.1.length) (1) rfl rfl hr.2.1.1 rfl ?_
            refine zn_put 60 rfl rfl mw_0 rfl rfl rfl rfl mw_p_waiting ?_
            refine zj_iconst 61 (0) rfl rfl (by decide) ?_
            refine zj_ireturn 62 rfl rfl rfl ?_
            have e : qUnit c k S = (0, (S.1, (if c = 33 then 20 else 21) :: S.2.1, S.2.2)) := by
              unfold qUnit
              rw [if_neg (zo_0.mp c11), if_neg (fun g => g c47), if_pos (by first | exact Or.inl c69 | exact Or.inr c75)]
            rw [e]
            first
              | (rw [if_pos c89]; exact ⟨rfl, rfl, _, rfl, (mCore_sA5 _ _).trans (mCore_sI _ 1 _), mRep_push hr _⟩)
              | (rw [if_neg c89]; exact ⟨rfl, rfl, _, rfl, (mCore_sA5 _ _).trans (mCore_sI _ 1 _), mRep_push hr _⟩)
          · refine zj_bipush 51 (20) rfl rfl (by decide) ?_
            refine zj_goto 52 rfl rfl ?_
            refine zn_iast 54 (S.2.1.length) rfl rfl mw_7 hr.2.1.1 (by omega) (by decide) mw_u7 ?_
            refine zj_aload_n 55 rfl rfl rfl ?_
            refine zj_dup 56 rfl rfl rfl ?_
            refine zj_get 57 rfl rfl mw_0 rfl ?_
            refine zj_iconst 58 (1) rfl rfl (by decide) ?_
            refine zn_iadd 59 (S.2.1.length) (1) rfl rfl hr.2.1.1 rfl ?_
            refine zn_put 60 rfl rfl mw_0 rfl rfl rfl rfl mw_p_waiting ?_
            refine zj_iconst 61 (0) rfl rfl (by decide) ?_
            refine zj_ireturn 62 rfl rfl rfl ?_
            have e : qUnit c k S = (0, (S.1, (if c = 33 then 20 else 21) :: S.2.1, S.2.2)) := by
              unfold qUnit
              rw [if_neg (zo_0.mp c11), if_neg (fun g => g c47), if_pos (by first | exact Or.inl c69 | exact Or.inr c75)]
            rw [e]
            first
              | (rw [if_pos c89]; exact ⟨rfl, rfl, _, rfl, (mCore_sA5 _ _).trans (mCore_sI _ 1 _), mRep_push hr _⟩)
              | (rw [if_neg c89]; exact ⟨rfl, rfl, _, rfl, (mCore_sA5 _ _).trans (mCore_sI _ 1 _), mRep_push hr _⟩)
    · refine zj_aload_n 28 rfl rfl rfl ?_
      refine zj_iload_n 29 rfl rfl rfl ?_
      refine zj_csx 30 rfl rfl lk_8_131 ckM_letterOf (k_letterOf _) rfl rfl rfl rfl ?_
      refine zj_lconst 31 (0) rfl rfl (by decide) ?_
      refine zj_cvv 32 rfl rfl lk_8_109 ckM_lay (k_lay _ _ S.1.length hr.1.1 (by omega)) rfl mw_0 rfl rfl rfl ?_
      refine zj_aload_n 33 rfl rfl rfl ?_
      refine zj_iconst 34 (1) rfl rfl (by decide) ?_
      refine zn_put 35 rfl rfl mw_0 rfl rfl rfl rfl mw_p_isBehind ?_
      refine zj_iconst 36 (0) rfl rfl (by decide) ?_
      refine zj_ireturn 37 rfl rfl rfl ?_
      have e : qUnit c k S = (0, (S.1 ++ [(qLet c, 0)], S.2.1, S.2.2.1, S.2.2.2.1, true, S.2.2.2.2.2)) := by
        unfold qUnit
        rw [if_neg (zo_0.mp c11), if_pos c47]
      rw [e]
      exact ⟨rfl, rfl, _, rfl, (mCore_lay _ _ _ _).trans (mCore_sI _ 3 _), mRep_bh (mRep_lay hr _ _) true⟩
  · refine zj_aload_n 6 rfl rfl rfl ?_
    refine zj_bipush 7 (6) rfl rfl (by decide) ?_
    refine zj_iload_n 8 rfl rfl rfl ?_
    refine zj_bipush 9 (48) rfl rfl (by decide) ?_
    refine zj_isub 10 rfl rfl ?_
    refine zj_i2l 11 rfl rfl ?_
    refine zj_cvv 12 rfl rfl lk_8_109 ckM_lay (k_lay _ _ S.1.length hr.1.1 (by omega)) rfl mw_0 rfl rfl rfl ?_
    refine zj_aload_n 13 rfl rfl rfl ?_
    refine zj_iconst 14 (1) rfl rfl (by decide) ?_
    refine zn_put 15 rfl rfl mw_0 rfl rfl rfl rfl mw_p_isBehind ?_
    refine zj_aload_n 16 rfl rfl rfl ?_
    refine zj_iconst 17 (1) rfl rfl (by decide) ?_
    refine zn_put 18 rfl rfl mw_0 rfl rfl rfl rfl mw_p_digits ?_
    refine zj_aload_n 19 rfl rfl rfl ?_
    refine zj_iload_n 20 rfl rfl rfl ?_
    refine zn_put 21 rfl rfl mw_0 rfl rfl rfl rfl mw_p_numberAt ?_
    refine zj_iconst 22 (0) rfl rfl (by decide) ?_
    refine zj_ireturn 23 rfl rfl rfl ?_
    have e : qUnit c k S = (0, (S.1 ++ [(6, (c - 48).toInt64)], S.2.1, S.2.2.1, S.2.2.2.1, true, 1, k)) := by
      unfold qUnit
      rw [if_pos (zo_n0.mp c11)]
    rw [e]
    exact ⟨rfl, rfl, _, rfl, (mCore_lay _ _ _ _).trans ((mCore_sI _ 3 _).trans ((mCore_sI _ 4 _).trans (mCore_sI _ 5 _))), mRep_num (mRep_lay hr 6 _) k⟩
end
end
section
/-! the reference's reader, behind a unit; a sign; a text -/
def qBit (c : Int32) (S : zS) : Bool := decide (pFirm (qJoint c) = 3) || (S.2.2.2.1 S.2.2.1 && decide (3 < pFirm (qJoint c)))
def qCmp (c : Int32) (S : zS) : zS := (S.1, S.2.1, S.2.2.1, va_up S.2.2.2.1 S.2.2.1 (qBit c S), S.2.2.2.2)
theorem qBehind_c {c : Int32} {k : Nat} {S : zS} (h : c = 41) (h0 : 0 < S.2.2.1) : qBehind c k S = (0, ((qLDS 1 S).1, (qLDS 1 S).2.1.tail, S.2.2.1 - 1, S.2.2.2)) := if_pos ⟨h, h0⟩
theorem qBehind_f {c : Int32} {k : Nat} {S : zS} (h : ¬ (c = 41 ∧ 0 < S.2.2.1)) (h1 : qJoint c = -1 ∨ (pFirm (qJoint c) = 3 ∧ S.2.2.2.1 S.2.2.1 = true)) : qBehind c k S = (nI (10 * k + 1), S) := by
  unfold qBehind; rw [if_neg h, if_pos h1]
theorem qBehind_j {c : Int32} {k : Nat} {S : zS} (h : ¬ (c = 41 ∧ 0 < S.2.2.1)) (h1 : ¬ (qJoint c = -1 ∨ (pFirm (qJoint c) = 3 ∧ S.2.2.2.1 S.2.2.1 = true))) : qBehind c k S = (0, qJoin (qJoint c) (qCmp c S)) := by
  unfold qBehind; rw [if_neg h, if_neg h1]; rfl
theorem mRep_cmp {M : zMo} {S : zS} (h : mRep M S) (c : Int32) {x : Int32} (hx : zob (qBit c S) = x) : mRep (M.sA 6 (va_up (M.1 6) S.2.2.1 x)) (qCmp c S) := by
  subst hx; exact mRep_cm h _
section
variable {E : zE} {σ : zH} {a : Nat} {M : zMo}
theorem k_goBehind (c : Int32) (k : Nat) (S : zS) (hr : mRep M S) (hb : S.1.length + S.2.1.length ≤ 39) (hk : k < 100) (hdp : S.2.2.1 ≤ 8) (hne : 0 < S.2.2.1 → (qLDS 1 S).2.1 ≠ []) : zX E YM_goBehind 4 [.ref a, .int c, .int (nI k)] (mw σ a M) (some (.int (qBehind c k S).1)) (mP σ a M (qBehind c k S).2) := by
  refine zX.of oM_goBehind (by decide +kernel) rfl rfl (fun n => ?_)
  refine zj_iload_n 0 rfl rfl rfl ?_
  refine zj_bipush 1 (41) rfl rfl (by decide) ?_
  refine zj_icmp_ne 2 rfl rfl (fun c3 => ?_) (fun c3 => ?_)
  · refine zj_iload_n 23 rfl rfl rfl ?_
    refine zj_csx 24 rfl rfl lk_8_137 ckM_joint (k_joint _) rfl rfl rfl rfl ?_
    refine zj_istore_n 25 rfl rfl ?_
    refine zj_iload_n 26 rfl rfl rfl ?_
    refine zj_iconst 27 (-1) rfl rfl (by decide) ?_
    refine zj_icmp_eq 28 rfl rfl (fun c47 => ?_) (fun c47 => ?_)
    · refine zj_iconst 35 (0) rfl rfl (by decide) ?_
      refine zj_istore 36 rfl rfl ?_
      refine zj_iload_n 37 rfl rfl rfl ?_
      refine zj_iconst 38 (-1) rfl rfl (by decide) ?_
      refine zj_icmp_eq 39 rfl rfl (fun c67 => ?_) (fun c67 => ?_)
      · refine zj_bipush 48 (10) rfl rfl (by decide) ?_
        refine zj_iload_n 49 rfl rfl rfl ?_
        refine zn_imul 50 (10) (k) rfl rfl rfl rfl ?_
        refine zj_iconst 51 (1) rfl rfl (by decide) ?_
        refine zn_iadd 52 (10 * k) (1) rfl rfl rfl rfl ?_
        refine zj_ireturn 53 rfl rfl rfl ?_
        have hno : ¬ (c = 41 ∧ 0 < S.2.2.1) := fun g => c3 g.1
        rw [qBehind_f hno (Or.inl c67)]
        exact ⟨rfl, rfl, M, rfl, mCore.rfl, hr⟩
      · exact absurd c47 c67
    · refine zj_iload_n 29 rfl rfl rfl ?_
      refine zj_csx 30 rfl rfl lk_8_106 ckM_firm (k_firm _) rfl rfl rfl rfl ?_
      refine zj_iconst 31 (3) rfl rfl (by decide) ?_
      refine zj_icmp_ne 32 rfl rfl (fun c55 => ?_) (fun c55 => ?_)
      · refine zj_iconst 35 (0) rfl rfl (by decide) ?_
        refine zj_istore 36 rfl rfl ?_
        refine zj_iload_n 37 rfl rfl rfl ?_
        refine zj_iconst 38 (-1) rfl rfl (by decide) ?_
        refine zj_icmp_eq 39 rfl rfl (fun c67 => ?_) (fun c67 => ?_)
        · exact absurd c67 c47
        · refine zj_iload 40 rfl rfl rfl ?_
          refine zj_if_eq 41 rfl rfl (fun c72 => ?_) (fun c72 => ?_)
          · refine zj_aload_n 54 rfl rfl rfl ?_
            refine zj_get 55 rfl rfl mw_0 rfl ?_
            refine zj_aload_n 56 rfl rfl rfl ?_
            refine zj_get 57 rfl rfl mw_0 rfl ?_
            refine zj_iload 58 rfl rfl rfl ?_
            refine zj_if_ne 59 rfl rfl (fun c104 => ?_) (fun c104 => ?_)
            · exact absurd c104 (by decide)
            · refine zj_aload_n 60 rfl rfl rfl ?_
              refine zj_get 61 rfl rfl mw_0 rfl ?_
              refine zj_aload_n 62 rfl rfl rfl ?_
              refine zj_get 63 rfl rfl mw_0 rfl ?_
              refine zn_zald 64 (S.2.2.1) rfl rfl mw_8 hr.2.2.1.1 (by omega) (by decide) ?_
              refine zj_if_eq 65 rfl rfl (fun c116 => ?_) (fun c116 => ?_)
              · have hB : zob (qBit c S) = 0 := by
                  have h6 : S.2.2.2.1 S.2.2.1 = false := zob_0.mp (by rw [← hr.2.2.1.2 _ (Nat.le_refl _)]; exact c116)
                  have : qBit c S = false := by unfold qBit; rw [h6, decide_eq_false c55]; rfl
                  rw [this]; rfl
                refine zj_iconst 72 (0) rfl rfl (by decide) ?_
                refine zn_zast 73 (S.2.2.1) rfl rfl mw_8 hr.2.2.1.1 (by omega) (by decide) rfl mw_u8 ?_
                refine zj_aload_n 74 rfl rfl rfl ?_
                refine zj_iload_n 75 rfl rfl rfl ?_
                refine zj_cvvX 76 rfl rfl lk_8_140 ckM_join (k_join _ (qCmp c S) (mRep_cmp hr c hB) hb) rfl mw_0 rfl rfl rfl (fun s1 hP1 => ?_)
                obtain ⟨M1, rfl, hc1, hr1⟩ := hP1
                refine zj_iconst 77 (0) rfl rfl (by decide) ?_
                refine zj_ireturn 78 rfl rfl rfl ?_
                have hno : ¬ (c = 41 ∧ 0 < S.2.2.1) := fun g => c3 g.1
                rw [qBehind_j hno (by
                  rintro (g | ⟨g1, g2⟩)
                  · exact c67 g
                  · exact c55 g1)]
                exact ⟨rfl, rfl, M1, rfl, (mCore_sA6 M _).trans hc1, hr1⟩
              · refine zj_iload_n 66 rfl rfl rfl ?_
                refine zj_csx 67 rfl rfl lk_8_106 ckM_firm (k_firm _) rfl rfl rfl rfl ?_
                refine zj_iconst 68 (3) rfl rfl (by decide) ?_
                refine zj_icmp_le 69 rfl rfl (fun c124 => ?_) (fun c124 => ?_)
                · have hB : zob (qBit c S) = 0 := by
                    have : qBit c S = false := by unfold qBit; rw [decide_eq_false c55, decide_eq_false (Int32.not_lt.mpr c124)]; simp
                    rw [this]; rfl
                  refine zj_iconst 72 (0) rfl rfl (by decide) ?_
                  refine zn_zast 73 (S.2.2.1) rfl rfl mw_8 hr.2.2.1.1 (by omega) (by decide) rfl mw_u8 ?_
                  refine zj_aload_n 74 rfl rfl rfl ?_
                  refine zj_iload_n 75 rfl rfl rfl ?_
                  refine zj_cvvX 76 rfl rfl lk_8_140 ckM_join (k_join _ (qCmp c S) (mRep_cmp hr c hB) hb) rfl mw_0 rfl rfl rfl (fun s1 hP1 => ?_)
                  obtain ⟨M1, rfl, hc1, hr1⟩ := hP1
                  refine zj_iconst 77 (0) rfl rfl (by decide) ?_
                  refine zj_ireturn 78 rfl rfl rfl ?_
                  have hno : ¬ (c = 41 ∧ 0 < S.2.2.1) := fun g => c3 g.1
                  rw [qBehind_j hno (by
                    rintro (g | ⟨g1, g2⟩)
                    · exact c67 g
                    · exact c55 g1)]
                  exact ⟨rfl, rfl, M1, rfl, (mCore_sA6 M _).trans hc1, hr1⟩
                · have hB : zob (qBit c S) = 1 := by
                    have h6 : S.2.2.2.1 S.2.2.1 = true := zob_n.mp (by rw [← hr.2.2.1.2 _ (Nat.le_refl _)]; exact c116)
                    have : qBit c S = true := by unfold qBit; rw [h6, decide_eq_true (Int32.not_le.mp c124)]; simp
                    rw [this]; rfl
                  refine zj_iconst 70 (1) rfl rfl (by decide) ?_
                  refine zj_goto 71 rfl rfl ?_
                  refine zn_zast 73 (S.2.2.1) rfl rfl mw_8 hr.2.2.1.1 (by omega) (by decide) rfl mw_u8 ?_
                  refine zj_aload_n 74 rfl rfl rfl ?_
                  refine zj_iload_n 75 rfl rfl rfl ?_
                  refine zj_cvvX 76 rfl rfl lk_8_140 ckM_join (k_join _ (qCmp c S) (mRep_cmp hr c hB) hb) rfl mw_0 rfl rfl rfl (fun s1 hP1 => ?_)
                  obtain ⟨M1, rfl, hc1, hr1⟩ := hP1
                  refine zj_iconst 77 (0) rfl rfl (by decide) ?_
                  refine zj_ireturn 78 rfl rfl rfl ?_
                  have hno : ¬ (c = 41 ∧ 0 < S.2.2.1) := fun g => c3 g.1
                  rw [qBehind_j hno (by
                    rintro (g | ⟨g1, g2⟩)
                    · exact c67 g
                    · exact c55 g1)]
                  exact ⟨rfl, rfl, M1, rfl, (mCore_sA6 M _).trans hc1, hr1⟩
          · exact absurd c72 (by decide)
      · refine zj_iconst 33 (1) rfl rfl (by decide) ?_
        refine zj_goto 34 rfl rfl ?_
        refine zj_istore 36 rfl rfl ?_
        refine zj_iload_n 37 rfl rfl rfl ?_
        refine zj_iconst 38 (-1) rfl rfl (by decide) ?_
        refine zj_icmp_eq 39 rfl rfl (fun c67 => ?_) (fun c67 => ?_)
        · exact absurd c67 c47
        · refine zj_iload 40 rfl rfl rfl ?_
          refine zj_if_eq 41 rfl rfl (fun c72 => ?_) (fun c72 => ?_)
          · exact absurd c72 (by decide)
          · refine zj_aload_n 42 rfl rfl rfl ?_
            refine zj_get 43 rfl rfl mw_0 rfl ?_
            refine zj_aload_n 44 rfl rfl rfl ?_
            refine zj_get 45 rfl rfl mw_0 rfl ?_
            refine zn_zald 46 (S.2.2.1) rfl rfl mw_8 hr.2.2.1.1 (by omega) (by decide) ?_
            refine zj_if_eq 47 rfl rfl (fun c84 => ?_) (fun c84 => ?_)
            · refine zj_aload_n 54 rfl rfl rfl ?_
              refine zj_get 55 rfl rfl mw_0 rfl ?_
              refine zj_aload_n 56 rfl rfl rfl ?_
              refine zj_get 57 rfl rfl mw_0 rfl ?_
              refine zj_iload 58 rfl rfl rfl ?_
              refine zj_if_ne 59 rfl rfl (fun c104 => ?_) (fun c104 => ?_)
              · have hB : zob (qBit c S) = 1 := by
                  have : qBit c S = true := by unfold qBit; rw [decide_eq_true c55]; rfl
                  rw [this]; rfl
                refine zj_iconst 70 (1) rfl rfl (by decide) ?_
                refine zj_goto 71 rfl rfl ?_
                refine zn_zast 73 (S.2.2.1) rfl rfl mw_8 hr.2.2.1.1 (by omega) (by decide) rfl mw_u8 ?_
                refine zj_aload_n 74 rfl rfl rfl ?_
                refine zj_iload_n 75 rfl rfl rfl ?_
                refine zj_cvvX 76 rfl rfl lk_8_140 ckM_join (k_join _ (qCmp c S) (mRep_cmp hr c hB) hb) rfl mw_0 rfl rfl rfl (fun s1 hP1 => ?_)
                obtain ⟨M1, rfl, hc1, hr1⟩ := hP1
                refine zj_iconst 77 (0) rfl rfl (by decide) ?_
                refine zj_ireturn 78 rfl rfl rfl ?_
                have hno : ¬ (c = 41 ∧ 0 < S.2.2.1) := fun g => c3 g.1
                rw [qBehind_j hno (by
                  rintro (g | ⟨g1, g2⟩)
                  · exact c67 g
                  · exact absurd (zob_0.mp (by rw [← hr.2.2.1.2 _ (Nat.le_refl _)]; exact c84)) (by rw [g2]; decide))]
                exact ⟨rfl, rfl, M1, rfl, (mCore_sA6 M _).trans hc1, hr1⟩
              · exact absurd c104 (by decide)
            · refine zj_bipush 48 (10) rfl rfl (by decide) ?_
              refine zj_iload_n 49 rfl rfl rfl ?_
              refine zn_imul 50 (10) (k) rfl rfl rfl rfl ?_
              refine zj_iconst 51 (1) rfl rfl (by decide) ?_
              refine zn_iadd 52 (10 * k) (1) rfl rfl rfl rfl ?_
              refine zj_ireturn 53 rfl rfl rfl ?_
              have hno : ¬ (c = 41 ∧ 0 < S.2.2.1) := fun g => c3 g.1
              rw [qBehind_f hno (Or.inr ⟨c55, zob_n.mp (by rw [← hr.2.2.1.2 _ (Nat.le_refl _)]; exact c84)⟩)]
              exact ⟨rfl, rfl, M, rfl, mCore.rfl, hr⟩
  · refine zj_aload_n 3 rfl rfl rfl ?_
    refine zj_get 4 rfl rfl mw_0 rfl ?_
    refine zj_if_le 5 rfl rfl (fun c10 => ?_) (fun c10 => ?_)
    · refine zj_iload_n 23 rfl rfl rfl ?_
      refine zj_csx 24 rfl rfl lk_8_137 ckM_joint (k_joint _) rfl rfl rfl rfl ?_
      refine zj_istore_n 25 rfl rfl ?_
      refine zj_iload_n 26 rfl rfl rfl ?_
      refine zj_iconst 27 (-1) rfl rfl (by decide) ?_
      refine zj_icmp_eq 28 rfl rfl (fun c47 => ?_) (fun c47 => ?_)
      · refine zj_iconst 35 (0) rfl rfl (by decide) ?_
        refine zj_istore 36 rfl rfl ?_
        refine zj_iload_n 37 rfl rfl rfl ?_
        refine zj_iconst 38 (-1) rfl rfl (by decide) ?_
        refine zj_icmp_eq 39 rfl rfl (fun c67 => ?_) (fun c67 => ?_)
        · refine zj_bipush 48 (10) rfl rfl (by decide) ?_
          refine zj_iload_n 49 rfl rfl rfl ?_
          refine zn_imul 50 (10) (k) rfl rfl rfl rfl ?_
          refine zj_iconst 51 (1) rfl rfl (by decide) ?_
          refine zn_iadd 52 (10 * k) (1) rfl rfl rfl rfl ?_
          refine zj_ireturn 53 rfl rfl rfl ?_
          have hno : ¬ (c = 41 ∧ 0 < S.2.2.1) := fun g => absurd (show M.2.2.1 2 ≤ 0 from c10) (by rw [hr.2.2.1.1]; exact nI_nle g.2 (by omega))
          rw [qBehind_f hno (Or.inl c67)]
          exact ⟨rfl, rfl, M, rfl, mCore.rfl, hr⟩
        · exact absurd c47 c67
      · refine zj_iload_n 29 rfl rfl rfl ?_
        refine zj_csx 30 rfl rfl lk_8_106 ckM_firm (k_firm _) rfl rfl rfl rfl ?_
        refine zj_iconst 31 (3) rfl rfl (by decide) ?_
        refine zj_icmp_ne 32 rfl rfl (fun c55 => ?_) (fun c55 => ?_)
        · refine zj_iconst 35 (0) rfl rfl (by decide) ?_
          refine zj_istore 36 rfl rfl ?_
          refine zj_iload_n 37 rfl rfl rfl ?_
          refine zj_iconst 38 (-1) rfl rfl (by decide) ?_
          refine zj_icmp_eq 39 rfl rfl (fun c67 => ?_) (fun c67 => ?_)
          · exact absurd c67 c47
          · refine zj_iload 40 rfl rfl rfl ?_
            refine zj_if_eq 41 rfl rfl (fun c72 => ?_) (fun c72 => ?_)
            · refine zj_aload_n 54 rfl rfl rfl ?_
              refine zj_get 55 rfl rfl mw_0 rfl ?_
              refine zj_aload_n 56 rfl rfl rfl ?_
              refine zj_get 57 rfl rfl mw_0 rfl ?_
              refine zj_iload 58 rfl rfl rfl ?_
              refine zj_if_ne 59 rfl rfl (fun c104 => ?_) (fun c104 => ?_)
              · exact absurd c104 (by decide)
              · refine zj_aload_n 60 rfl rfl rfl ?_
                refine zj_get 61 rfl rfl mw_0 rfl ?_
                refine zj_aload_n 62 rfl rfl rfl ?_
                refine zj_get 63 rfl rfl mw_0 rfl ?_
                refine zn_zald 64 (S.2.2.1) rfl rfl mw_8 hr.2.2.1.1 (by omega) (by decide) ?_
                refine zj_if_eq 65 rfl rfl (fun c116 => ?_) (fun c116 => ?_)
                · have hB : zob (qBit c S) = 0 := by
                    have h6 : S.2.2.2.1 S.2.2.1 = false := zob_0.mp (by rw [← hr.2.2.1.2 _ (Nat.le_refl _)]; exact c116)
                    have : qBit c S = false := by unfold qBit; rw [h6, decide_eq_false c55]; rfl
                    rw [this]; rfl
                  refine zj_iconst 72 (0) rfl rfl (by decide) ?_
                  refine zn_zast 73 (S.2.2.1) rfl rfl mw_8 hr.2.2.1.1 (by omega) (by decide) rfl mw_u8 ?_
                  refine zj_aload_n 74 rfl rfl rfl ?_
                  refine zj_iload_n 75 rfl rfl rfl ?_
                  refine zj_cvvX 76 rfl rfl lk_8_140 ckM_join (k_join _ (qCmp c S) (mRep_cmp hr c hB) hb) rfl mw_0 rfl rfl rfl (fun s1 hP1 => ?_)
                  obtain ⟨M1, rfl, hc1, hr1⟩ := hP1
                  refine zj_iconst 77 (0) rfl rfl (by decide) ?_
                  refine zj_ireturn 78 rfl rfl rfl ?_
                  have hno : ¬ (c = 41 ∧ 0 < S.2.2.1) := fun g => absurd (show M.2.2.1 2 ≤ 0 from c10) (by rw [hr.2.2.1.1]; exact nI_nle g.2 (by omega))
                  rw [qBehind_j hno (by
                    rintro (g | ⟨g1, g2⟩)
                    · exact c67 g
                    · exact c55 g1)]
                  exact ⟨rfl, rfl, M1, rfl, (mCore_sA6 M _).trans hc1, hr1⟩
                · refine zj_iload_n 66 rfl rfl rfl ?_
                  refine zj_csx 67 rfl rfl lk_8_106 ckM_firm (k_firm _) rfl rfl rfl rfl ?_
                  refine zj_iconst 68 (3) rfl rfl (by decide) ?_
                  refine zj_icmp_le 69 rfl rfl (fun c124 => ?_) (fun c124 => ?_)
                  · have hB : zob (qBit c S) = 0 := by
                      have : qBit c S = false := by unfold qBit; rw [decide_eq_false c55, decide_eq_false (Int32.not_lt.mpr c124)]; simp
                      rw [this]; rfl
                    refine zj_iconst 72 (0) rfl rfl (by decide) ?_
                    refine zn_zast 73 (S.2.2.1) rfl rfl mw_8 hr.2.2.1.1 (by omega) (by decide) rfl mw_u8 ?_
                    refine zj_aload_n 74 rfl rfl rfl ?_
                    refine zj_iload_n 75 rfl rfl rfl ?_
                    refine zj_cvvX 76 rfl rfl lk_8_140 ckM_join (k_join _ (qCmp c S) (mRep_cmp hr c hB) hb) rfl mw_0 rfl rfl rfl (fun s1 hP1 => ?_)
                    obtain ⟨M1, rfl, hc1, hr1⟩ := hP1
                    refine zj_iconst 77 (0) rfl rfl (by decide) ?_
                    refine zj_ireturn 78 rfl rfl rfl ?_
                    have hno : ¬ (c = 41 ∧ 0 < S.2.2.1) := fun g => absurd (show M.2.2.1 2 ≤ 0 from c10) (by rw [hr.2.2.1.1]; exact nI_nle g.2 (by omega))
                    rw [qBehind_j hno (by
                      rintro (g | ⟨g1, g2⟩)
                      · exact c67 g
                      · exact c55 g1)]
                    exact ⟨rfl, rfl, M1, rfl, (mCore_sA6 M _).trans hc1, hr1⟩
                  · have hB : zob (qBit c S) = 1 := by
                      have h6 : S.2.2.2.1 S.2.2.1 = true := zob_n.mp (by rw [← hr.2.2.1.2 _ (Nat.le_refl _)]; exact c116)
                      have : qBit c S = true := by unfold qBit; rw [h6, decide_eq_true (Int32.not_le.mp c124)]; simp
                      rw [this]; rfl
                    refine zj_iconst 70 (1) rfl rfl (by decide) ?_
                    refine zj_goto 71 rfl rfl ?_
                    refine zn_zast 73 (S.2.2.1) rfl rfl mw_8 hr.2.2.1.1 (by omega) (by decide) rfl mw_u8 ?_
                    refine zj_aload_n 74 rfl rfl rfl ?_
                    refine zj_iload_n 75 rfl rfl rfl ?_
                    refine zj_cvvX 76 rfl rfl lk_8_140 ckM_join (k_join _ (qCmp c S) (mRep_cmp hr c hB) hb) rfl mw_0 rfl rfl rfl (fun s1 hP1 => ?_)
                    obtain ⟨M1, rfl, hc1, hr1⟩ := hP1
                    refine zj_iconst 77 (0) rfl rfl (by decide) ?_
                    refine zj_ireturn 78 rfl rfl rfl ?_
                    have hno : ¬ (c = 41 ∧ 0 < S.2.2.1) := fun g => absurd (show M.2.2.1 2 ≤ 0 from c10) (by rw [hr.2.2.1.1]; exact nI_nle g.2 (by omega))
                    rw [qBehind_j hno (by
                      rintro (g | ⟨g1, g2⟩)
                      · exact c67 g
                      · exact c55 g1)]
                    exact ⟨rfl, rfl, M1, rfl, (mCore_sA6 M _).trans hc1, hr1⟩
            · exact absurd c72 (by decide)
        · refine zj_iconst 33 (1) rfl rfl (by decide) ?_
          refine zj_goto 34 rfl rfl ?_
          refine zj_istore 36 rfl rfl ?_
          refine zj_iload_n 37 rfl rfl rfl ?_
          refine zj_iconst 38 (-1) rfl rfl (by decide) ?_
          refine zj_icmp_eq 39 rfl rfl (fun c67 => ?_) (fun c67 => ?_)
          · exact absurd c67 c47
          · refine zj_iload 40 rfl rfl rfl ?_
            refine zj_if_eq 41 rfl rfl (fun c72 => ?_) (fun c72 => ?_)
            · exact absurd c72 (by decide)
            · refine zj_aload_n 42 rfl rfl rfl ?_
              refine zj_get 43 rfl rfl mw_0 rfl ?_
              refine zj_aload_n 44 rfl rfl rfl ?_
              refine zj_get 45 rfl rfl mw_0 rfl ?_
              refine zn_zald 46 (S.2.2.1) rfl rfl mw_8 hr.2.2.1.1 (by omega) (by decide) ?_
              refine zj_if_eq 47 rfl rfl (fun c84 => ?_) (fun c84 => ?_)
              · refine zj_aload_n 54 rfl rfl rfl ?_
                refine zj_get 55 rfl rfl mw_0 rfl ?_
                refine zj_aload_n 56 rfl rfl rfl ?_
                refine zj_get 57 rfl rfl mw_0 rfl ?_
                refine zj_iload 58 rfl rfl rfl ?_
                refine zj_if_ne 59 rfl rfl (fun c104 => ?_) (fun c104 => ?_)
                · have hB : zob (qBit c S) = 1 := by
                    have : qBit c S = true := by unfold qBit; rw [decide_eq_true c55]; rfl
                    rw [this]; rfl
                  refine zj_iconst 70 (1) rfl rfl (by decide) ?_
                  refine zj_goto 71 rfl rfl ?_
                  refine zn_zast 73 (S.2.2.1) rfl rfl mw_8 hr.2.2.1.1 (by omega) (by decide) rfl mw_u8 ?_
                  refine zj_aload_n 74 rfl rfl rfl ?_
                  refine zj_iload_n 75 rfl rfl rfl ?_
                  refine zj_cvvX 76 rfl rfl lk_8_140 ckM_join (k_join _ (qCmp c S) (mRep_cmp hr c hB) hb) rfl mw_0 rfl rfl rfl (fun s1 hP1 => ?_)
                  obtain ⟨M1, rfl, hc1, hr1⟩ := hP1
                  refine zj_iconst 77 (0) rfl rfl (by decide) ?_
                  refine zj_ireturn 78 rfl rfl rfl ?_
                  have hno : ¬ (c = 41 ∧ 0 < S.2.2.1) := fun g => absurd (show M.2.2.1 2 ≤ 0 from c10) (by rw [hr.2.2.1.1]; exact nI_nle g.2 (by omega))
                  rw [qBehind_j hno (by
                    rintro (g | ⟨g1, g2⟩)
                    · exact c67 g
                    · exact absurd (zob_0.mp (by rw [← hr.2.2.1.2 _ (Nat.le_refl _)]; exact c84)) (by rw [g2]; decide))]
                  exact ⟨rfl, rfl, M1, rfl, (mCore_sA6 M _).trans hc1, hr1⟩
                · exact absurd c104 (by decide)
              · refine zj_bipush 48 (10) rfl rfl (by decide) ?_
                refine zj_iload_n 49 rfl rfl rfl ?_
                refine zn_imul 50 (10) (k) rfl rfl rfl rfl ?_
                refine zj_iconst 51 (1) rfl rfl (by decide) ?_
                refine zn_iadd 52 (10 * k) (1) rfl rfl rfl rfl ?_
                refine zj_ireturn 53 rfl rfl rfl ?_
                have hno : ¬ (c = 41 ∧ 0 < S.2.2.1) := fun g => absurd (show M.2.2.1 2 ≤ 0 from c10) (by rw [hr.2.2.1.1]; exact nI_nle g.2 (by omega))
                rw [qBehind_f hno (Or.inr ⟨c55, zob_n.mp (by rw [← hr.2.2.1.2 _ (Nat.le_refl _)]; exact c84)⟩)]
                exact ⟨rfl, rfl, M, rfl, mCore.rfl, hr⟩
    · have hdpos : 0 < S.2.2.1 := by
        rcases Nat.eq_zero_or_pos S.2.2.1 with e | e
        · exact absurd (show M.2.2.1 2 ≤ 0 by rw [hr.2.2.1.1, e]; decide) c10
        · exact e
      refine zj_aload_n 6 rfl rfl rfl ?_
      refine zj_iconst 7 (1) rfl rfl (by decide) ?_
      refine zj_cvvX 8 rfl rfl lk_8_113 ckM_layDown (k_layDown _ S hr (by omega)) rfl mw_0 rfl rfl rfl (fun s1 hP1 => ?_)
      obtain ⟨M1, rfl, hc1, hr1⟩ := hP1
      have hl1 := qLD_len 1 S.2.1 S.1
      have hl2 : (qLDS 1 S).2.1.length + (qLDS 1 S).1.length = S.2.1.length + S.1.length := hl1
      obtain ⟨x, ws, hws⟩ : ∃ x ws, (qLDS 1 S).2.1 = x :: ws := by
        cases hS : (qLDS 1 S).2.1 with
        | nil => exact absurd hS (hne hdpos)
        | cons x ws => exact ⟨x, ws, rfl⟩
      have hw1 : M1.2.2.1 1 = nI (ws.length + 1) := by have := hr1.2.1.1; rw [hws] at this; exact this
      obtain ⟨d, hd⟩ : ∃ d, S.2.2.1 = d + 1 := ⟨S.2.2.1 - 1, by omega⟩
      have hwl : ws.length + 1 ≤ 40 := by rw [hws] at hl2; simp at hl2; omega
      have hd1 : M1.2.2.1 2 = nI (d + 1) := by have := hr1.2.2.1.1; rw [← hd]; exact this
      refine zj_aload_n 9 rfl rfl rfl ?_
      refine zj_dup 10 rfl rfl rfl ?_
      refine zj_get 11 rfl rfl mw_0 rfl ?_
      refine zj_iconst 12 (1) rfl rfl (by decide) ?_
      refine zn_isub 13 (ws.length + 1) (1) rfl rfl hw1 rfl (by omega) ?_
      refine zn_put 14 rfl rfl mw_0 rfl rfl rfl rfl mw_p_waiting ?_
      refine zj_aload_n 15 rfl rfl rfl ?_
      refine zj_dup 16 rfl rfl rfl ?_
      refine zj_get 17 rfl rfl mw_0 rfl ?_
      refine zj_iconst 18 (1) rfl rfl (by decide) ?_
      refine zn_isub 19 (d + 1) (1) rfl rfl hd1 rfl (by omega) ?_
      refine zn_put 20 rfl rfl mw_0 rfl rfl rfl rfl mw_p_depth ?_
      refine zj_iconst 21 (0) rfl rfl (by decide) ?_
      refine zj_ireturn 22 rfl rfl rfl ?_
      rw [qBehind_c c3 hdpos, hws, hd]
      exact ⟨rfl, rfl, _, rfl, hc1.trans ((mCore_sI _ 1 _).trans (mCore_sI _ 2 _)), mRep_up (mRep_pop hr1 hws) hd⟩
end
end
section
/-! the reference's reader: signs and texts -/
def qNum (c : Int32) (cs : List (Int32 × Int64)) : List (Int32 × Int64) := match cs.getLast? with
  | some x => cs.dropLast ++ [(x.1, 10 * x.2 + c.toInt64 - 48)]
  | none => cs
theorem qNum_c (c : Int32) (cs : List (Int32 × Int64)) (x : Int32 × Int64) : qNum c (cs ++ [x]) = cs ++ [(x.1, 10 * x.2 + c.toInt64 - 48)] := by
  simp [qNum]
def qSign (c : Int32) (k : Nat) (S : zS) : Int32 × zS :=
  if 0 < S.2.2.2.2.2.1 ∧ qDig c then
    (if S.2.2.2.2.2.1 = 6 then (nI (10 * S.2.2.2.2.2.2 + 2), S) else (0, (qNum c S.1, S.2.1, S.2.2.1, S.2.2.2.1, S.2.2.2.2.1, S.2.2.2.2.2.1 + 1, S.2.2.2.2.2.2)))
  else if c = 32 then (0, (S.1, S.2.1, S.2.2.1, S.2.2.2.1, S.2.2.2.2.1, 0, S.2.2.2.2.2.2))
  else if S.2.2.2.2.1 = true then qBehind c k (S.1, S.2.1, S.2.2.1, S.2.2.2.1, S.2.2.2.2.1, 0, S.2.2.2.2.2.2)
  else qUnit c k (S.1, S.2.1, S.2.2.1, S.2.2.2.1, S.2.2.2.2.1, 0, S.2.2.2.2.2.2)
theorem mRep_digit {M : zMo} {S : zS} (h : mRep M S) (c : Int32) {cs : List (Int32 × Int64)} {x : Int32 × Int64} (e : S.1 = cs ++ [x]) (hz : 0 < S.2.2.2.2.2.1) : mRep ((M.sB 0 (va_up (M.2.1 0) cs.length (10 * x.2 + c.toInt64 - 48))).sI 4 (nI (S.2.2.2.2.2.1 + 1))) (qNum c S.1, S.2.1, S.2.2.1, S.2.2.2.1, S.2.2.2.2.1, S.2.2.2.2.2.1 + 1, S.2.2.2.2.2.2) := by
  obtain ⟨⟨h1, h2⟩, ⟨h3, h4⟩, ⟨h5, h6⟩, h7, h8, h9⟩ := h
  refine ⟨⟨?_, fun i y hy => ?_⟩, ⟨by simpa [va_up] using h3, h4⟩, ⟨by simpa [va_up] using h5, h6⟩, by simpa [va_up] using h7, by simp [va_up], fun hd => ?_⟩
  · show M.2.2.1 0 = nI (qNum c S.1).length
    rw [h1, e, qNum_c]; simp
  · simp only [e, qNum_c] at hy
    rw [e] at h2
    by_cases hi : i < cs.length
    · rw [List.getElem?_append_left hi] at hy
      have := h2 i y (by rw [List.getElem?_append_left hi]; exact hy)
      simpa [va_up, Nat.ne_of_lt hi] using this
    · rw [List.getElem?_append_right (by omega)] at hy
      have hl := (List.getElem?_eq_some_iff.mp hy).1
      simp only [List.length_cons, List.length_nil] at hl
      have ei : i = cs.length := by omega
      subst ei
      have := h2 cs.length x (by simp)
      simp at hy
      subst hy
      simpa [va_up] using this.1
  · simpa [va_up] using h9 hz
def qInv (S : zS) (k : Nat) : Prop := S.1.length + S.2.1.length ≤ k ∧ S.2.1.countP (fun w => w == 30) = S.2.2.1 ∧ S.2.2.1 ≤ 8 ∧ (∀ w ∈ S.2.1, w = 30 ∨ 1 ≤ pFirm w) ∧ (0 < S.2.2.2.2.2.1 → S.1 ≠ [] ∧ S.2.2.2.2.2.2 < 40) ∧ S.2.2.2.2.2.1 ≤ 6
section
variable {E : zE} {σ : zH} {a : Nat} {M : zMo}
theorem qLD_30 {l : Int32} (hl : 1 ≤ l) : ∀ {ws : List Int32} {cs : List (Int32 × Int64)}, 30 ∈ ws → (qLD l ws cs).1 ≠ []
  | [], _, h => by simp at h
  | w :: ws, cs, h => by
    simp only [qLD]
    split
    · rename_i h1
      have hw : w ≠ 30 := by
        intro e; subst e
        have : l ≤ 0 := h1
        simp only [Int32.le_iff_toInt_le] at this hl
        have h0 : (0 : Int32).toInt = 0 := rfl
        have h2 : (1 : Int32).toInt = 1 := rfl
        omega
      exact qLD_30 hl ((List.mem_cons.mp h).elim (fun e => absurd e.symm hw) id)
    · simp
theorem qInv_ne {S : zS} {k : Nat} (h : qInv S k) (h0 : 0 < S.2.2.1) : (qLDS 1 S).2.1 ≠ [] := by
  refine qLD_30 (by decide) ?_
  have := h.2.1
  have hp : 0 < S.2.1.countP (fun w => w == 30) := by omega
  obtain ⟨w, hw, e⟩ := List.countP_pos_iff.mp hp
  simp at e
  subst e; exact hw
theorem qInv_dg {S : zS} {k : Nat} (h : qInv S k) : qInv (S.1, S.2.1, S.2.2.1, S.2.2.2.1, S.2.2.2.2.1, 0, S.2.2.2.2.2.2) k := ⟨h.1, h.2.1, h.2.2.1, h.2.2.2.1, fun g => absurd g (Nat.lt_irrefl 0), Nat.zero_le _⟩
abbrev qS0 (S : zS) : zS := (S.1, S.2.1, S.2.2.1, S.2.2.2.1, S.2.2.2.2.1, 0, S.2.2.2.2.2.2)
theorem qSign_s {c : Int32} {k : Nat} {S : zS} (h : ¬ (0 < S.2.2.2.2.2.1 ∧ qDig c)) (h1 : c = 32) : qSign c k S = (0, qS0 S) := by
  unfold qSign; rw [if_neg h, if_pos h1]
theorem qSign_b {c : Int32} {k : Nat} {S : zS} (h : ¬ (0 < S.2.2.2.2.2.1 ∧ qDig c)) (h1 : ¬ c = 32) (h2 : S.2.2.2.2.1 = true) : qSign c k S = qBehind c k (qS0 S) := by
  unfold qSign; rw [if_neg h, if_neg h1, if_pos h2]
theorem qSign_u {c : Int32} {k : Nat} {S : zS} (h : ¬ (0 < S.2.2.2.2.2.1 ∧ qDig c)) (h1 : ¬ c = 32) (h2 : S.2.2.2.2.1 = false) : qSign c k S = qUnit c k (qS0 S) := by
  unfold qSign; rw [if_neg h, if_neg h1, if_neg (by rw [h2]; decide)]
theorem k_goSign (c : Int32) (k : Nat) (S : zS) (hr : mRep M S) (hi : qInv S k) (hk : k < 40) : zX E YM_goSign 5 [.ref a, .int c, .int (nI k)] (mw σ a M) (some (.int (qSign c k S).1)) (mP σ a M (qSign c k S).2) := by
  have hdz : M.2.2.1 4 ≤ 0 → ¬ 0 < S.2.2.2.2.2.1 := fun g g0 => absurd g (by rw [hr.2.2.2.2.1]; exact nI_nle g0 (by have := hi.2.2.2.2.2; omega))
  refine zX.of oM_goSign (by decide +kernel) rfl rfl (fun n => ?_)
  refine zj_aload_n 0 rfl rfl rfl ?_
  refine zj_get 1 rfl rfl mw_0 rfl ?_
  refine zj_if_le 2 rfl rfl (fun c4 => ?_) (fun c4 => ?_)
  · refine zj_aload_n 49 rfl rfl rfl ?_
    refine zj_iconst 50 (0) rfl rfl (by decide) ?_
    refine zn_put 51 rfl rfl mw_0 rfl rfl rfl rfl mw_p_digits ?_
    refine zj_iload_n 52 rfl rfl rfl ?_
    refine zj_bipush 53 (32) rfl rfl (by decide) ?_
    refine zj_icmp_ne 54 rfl rfl (fun c93 => ?_) (fun c93 => ?_)
    · refine zj_aload_n 57 rfl rfl rfl ?_
      refine zj_get 58 rfl rfl mw_0 rfl ?_
      refine zj_if_eq 59 rfl rfl (fun c102 => ?_) (fun c102 => ?_)
      · refine zj_aload_n 65 rfl rfl rfl ?_
        refine zj_iload_n 66 rfl rfl rfl ?_
        refine zj_iload_n 67 rfl rfl rfl ?_
        refine zj_cvxX 68 rfl rfl lk_8_148 ckM_goUnit (k_goUnit _ _ _ (mRep_dg hr) (by have := hi.1; show S.1.length + S.2.1.length ≤ 39; omega) (by omega) hi.2.2.1) rfl mw_0 rfl rfl rfl (fun s1 hP1 => ?_)
        obtain ⟨M1, rfl, hc1, hr1⟩ := hP1
        refine zj_ireturn 69 rfl rfl rfl ?_
        have e0 : ¬ (0 < S.2.2.2.2.2.1 ∧ qDig c) := fun g => hdz c4 g.1
        rw [qSign_u e0 c93 (zob_0.mp (hr.2.2.2.1.symm.trans c102))]
        exact ⟨rfl, rfl, M1, rfl, (mCore_sI M 4 _).trans hc1, hr1⟩
      · refine zj_aload_n 60 rfl rfl rfl ?_
        refine zj_iload_n 61 rfl rfl rfl ?_
        refine zj_iload_n 62 rfl rfl rfl ?_
        refine zj_cvxX 63 rfl rfl lk_8_145 ckM_goBehind (k_goBehind _ _ _ (mRep_dg hr) (by have := hi.1; show S.1.length + S.2.1.length ≤ 39; omega) (by omega) hi.2.2.1 (fun g => qInv_ne (qInv_dg hi) g)) rfl mw_0 rfl rfl rfl (fun s1 hP1 => ?_)
        obtain ⟨M1, rfl, hc1, hr1⟩ := hP1
        refine zj_goto 64 rfl rfl ?_
        refine zj_ireturn 69 rfl rfl rfl ?_
        have e0 : ¬ (0 < S.2.2.2.2.2.1 ∧ qDig c) := fun g => hdz c4 g.1
        rw [qSign_b e0 c93 (zob_n.mp (fun g => c102 (hr.2.2.2.1.trans g)))]
        exact ⟨rfl, rfl, M1, rfl, (mCore_sI M 4 _).trans hc1, hr1⟩
    · refine zj_iconst 55 (0) rfl rfl (by decide) ?_
      refine zj_ireturn 56 rfl rfl rfl ?_
      have e0 : ¬ (0 < S.2.2.2.2.2.1 ∧ qDig c) := fun g => hdz c4 g.1
      rw [qSign_s e0 c93]
      exact ⟨rfl, rfl, _, rfl, mCore_sI M 4 _, mRep_dg hr⟩
  · refine zj_iload_n 3 rfl rfl rfl ?_
    refine zj_i2l 4 rfl rfl ?_
    refine zj_ldc2 5 (48) rfl rfl (by decide) ?_
    refine zj_ldc2 6 (57) rfl rfl (by decide) ?_
    refine zj_csx 7 rfl rfl lk_8_51 ckM_in (k_inD _) rfl rfl rfl rfl ?_
    refine zj_if_eq 8 rfl rfl (fun c18 => ?_) (fun c18 => ?_)
    · refine zj_aload_n 49 rfl rfl rfl ?_
      refine zj_iconst 50 (0) rfl rfl (by decide) ?_
      refine zn_put 51 rfl rfl mw_0 rfl rfl rfl rfl mw_p_digits ?_
      refine zj_iload_n 52 rfl rfl rfl ?_
      refine zj_bipush 53 (32) rfl rfl (by decide) ?_
      refine zj_icmp_ne 54 rfl rfl (fun c93 => ?_) (fun c93 => ?_)
      · refine zj_aload_n 57 rfl rfl rfl ?_
        refine zj_get 58 rfl rfl mw_0 rfl ?_
        refine zj_if_eq 59 rfl rfl (fun c102 => ?_) (fun c102 => ?_)
        · refine zj_aload_n 65 rfl rfl rfl ?_
          refine zj_iload_n 66 rfl rfl rfl ?_
          refine zj_iload_n 67 rfl rfl rfl ?_
          refine zj_cvxX 68 rfl rfl lk_8_148 ckM_goUnit (k_goUnit _ _ _ (mRep_dg hr) (by have := hi.1; show S.1.length + S.2.1.length ≤ 39; omega) (by omega) hi.2.2.1) rfl mw_0 rfl rfl rfl (fun s1 hP1 => ?_)
          obtain ⟨M1, rfl, hc1, hr1⟩ := hP1
          refine zj_ireturn 69 rfl rfl rfl ?_
          have e0 : ¬ (0 < S.2.2.2.2.2.1 ∧ qDig c) := fun g => zo_0.mp c18 g.2
          rw [qSign_u e0 c93 (zob_0.mp (hr.2.2.2.1.symm.trans c102))]
          exact ⟨rfl, rfl, M1, rfl, (mCore_sI M 4 _).trans hc1, hr1⟩
        · refine zj_aload_n 60 rfl rfl rfl ?_
          refine zj_iload_n 61 rfl rfl rfl ?_
          refine zj_iload_n 62 rfl rfl rfl ?_
          refine zj_cvxX 63 rfl rfl lk_8_145 ckM_goBehind (k_goBehind _ _ _ (mRep_dg hr) (by have := hi.1; show S.1.length + S.2.1.length ≤ 39; omega) (by omega) hi.2.2.1 (fun g => qInv_ne (qInv_dg hi) g)) rfl mw_0 rfl rfl rfl (fun s1 hP1 => ?_)
          obtain ⟨M1, rfl, hc1, hr1⟩ := hP1
          refine zj_goto 64 rfl rfl ?_
          refine zj_ireturn 69 rfl rfl rfl ?_
          have e0 : ¬ (0 < S.2.2.2.2.2.1 ∧ qDig c) := fun g => zo_0.mp c18 g.2
          rw [qSign_b e0 c93 (zob_n.mp (fun g => c102 (hr.2.2.2.1.trans g)))]
          exact ⟨rfl, rfl, M1, rfl, (mCore_sI M 4 _).trans hc1, hr1⟩
      · refine zj_iconst 55 (0) rfl rfl (by decide) ?_
        refine zj_ireturn 56 rfl rfl rfl ?_
        have e0 : ¬ (0 < S.2.2.2.2.2.1 ∧ qDig c) := fun g => zo_0.mp c18 g.2
        rw [qSign_s e0 c93]
        exact ⟨rfl, rfl, _, rfl, mCore_sI M 4 _, mRep_dg hr⟩
    · have hpos : 0 < S.2.2.2.2.2.1 := by
        rcases Nat.eq_zero_or_pos S.2.2.2.2.2.1 with e | e
        · exact absurd (show M.2.2.1 4 ≤ 0 by rw [hr.2.2.2.2.1, e]; decide) c4
        · exact e
      have hd6 := hi.2.2.2.2.2
      have hna := (hi.2.2.2.2.1 hpos).2
      obtain ⟨cs, x, hcs⟩ : ∃ cs x, S.1 = cs ++ [x] := by
        rcases List.eq_nil_or_concat S.1 with e | ⟨l, y, e⟩
        · exact absurd e (hi.2.2.2.2.1 hpos).1
        · exact ⟨l, y, by rw [e, List.concat_eq_append]⟩
      have hlen : S.1.length = cs.length + 1 := by rw [hcs]; simp
      have hcm : M.2.2.1 0 = nI (cs.length + 1) := by rw [hr.1.1, hlen]
      have hlt := hi.1
      have hx2 : M.2.1 0 cs.length = x.2 := (hr.1.2 cs.length x (by rw [hcs]; simp)).2
      refine zj_aload_n 9 rfl rfl rfl ?_
      refine zj_get 10 rfl rfl mw_0 rfl ?_
      refine zj_bipush 11 (6) rfl rfl (by decide) ?_
      refine zn_icmp_ne 12 (S.2.2.2.2.2.1) (6) rfl rfl hr.2.2.2.2.1 rfl (by omega) (by omega) (fun c27 => ?_) (fun c27 => ?_)
      · refine zj_aload_n 20 rfl rfl rfl ?_
        refine zj_get 21 rfl rfl mw_0 rfl ?_
        refine zj_aload_n 22 rfl rfl rfl ?_
        refine zj_get 23 rfl rfl mw_0 rfl ?_
        refine zj_iconst 24 (1) rfl rfl (by decide) ?_
        refine zn_isub 25 (cs.length + 1) (1) rfl rfl hcm rfl (by omega) ?_
        refine zj_ldc2 26 (10) rfl rfl (by decide) ?_
        refine zj_aload_n 27 rfl rfl rfl ?_
        refine zj_get 28 rfl rfl mw_0 rfl ?_
        refine zj_aload_n 29 rfl rfl rfl ?_
        refine zj_get 30 rfl rfl mw_0 rfl ?_
        refine zj_iconst 31 (1) rfl rfl (by decide) ?_
        refine zn_isub 32 (cs.length + 1) (1) rfl rfl hcm rfl (by omega) ?_
        refine zn_lald 33 ((cs.length + 1) - (1)) rfl rfl mw_6 rfl (by omega) (by decide) ?_
        rw [show cs.length + 1 - 1 = cs.length from rfl, hx2]
        refine zj_lmul 34 rfl rfl ?_
        refine zj_iload_n 35 rfl rfl rfl ?_
        refine zj_i2l 36 rfl rfl ?_
        refine zj_ladd 37 rfl rfl ?_
        refine zj_ldc2 38 (48) rfl rfl (by decide) ?_
        refine zj_lsub 39 rfl rfl ?_
        refine zn_last 40 ((cs.length + 1) - (1)) rfl rfl mw_6 rfl (by omega) (by decide) mw_u6 ?_
        refine zj_aload_n 41 rfl rfl rfl ?_
        refine zj_dup 42 rfl rfl rfl ?_
        refine zj_get 43 rfl rfl mw_0 rfl ?_
        refine zj_iconst 44 (1) rfl rfl (by decide) ?_
        refine zn_iadd 45 (S.2.2.2.2.2.1) (1) rfl rfl hr.2.2.2.2.1 rfl ?_
        refine zn_put 46 rfl rfl mw_0 rfl rfl rfl rfl mw_p_digits ?_
        refine zj_iconst 47 (0) rfl rfl (by decide) ?_
        refine zj_ireturn 48 rfl rfl rfl ?_
        have e : qSign c k S = (0, (qNum c S.1, S.2.1, S.2.2.1, S.2.2.2.1, S.2.2.2.2.1, S.2.2.2.2.2.1 + 1, S.2.2.2.2.2.2)) := by unfold qSign; rw [if_pos ⟨hpos, zo_n0.mp c18⟩, if_neg c27]
        rw [e]
        exact ⟨rfl, rfl, _, rfl, (mCore_sB M 0 _).trans (mCore_sI _ 4 _), mRep_digit hr c hcs hpos⟩
      · refine zj_bipush 13 (10) rfl rfl (by decide) ?_
        refine zj_aload_n 14 rfl rfl rfl ?_
        refine zj_get 15 rfl rfl mw_0 rfl ?_
        refine zn_imul 16 (10) (S.2.2.2.2.2.2) rfl rfl rfl (hr.2.2.2.2.2 hpos) ?_
        refine zj_iconst 17 (2) rfl rfl (by decide) ?_
        refine zn_iadd 18 ((10) * (S.2.2.2.2.2.2)) (2) rfl rfl rfl rfl ?_
        refine zj_ireturn 19 rfl rfl rfl ?_
        have e : qSign c k S = (nI (10 * S.2.2.2.2.2.2 + 2), S) := by unfold qSign; rw [if_pos ⟨hpos, zo_n0.mp c18⟩, if_pos c27]
        rw [e]
        exact ⟨rfl, rfl, M, rfl, mCore.rfl, hr⟩
end
end
section
/-! the reference's reader: a text -/
theorem qLD_sub (l : Int32) : ∀ (ws : List Int32) (cs : List (Int32 × Int64)) (w : Int32), w ∈ (qLD l ws cs).1 → w ∈ ws
  | [], cs, w, h => by simp [qLD] at h
  | x :: ws, cs, w, h => by
    simp only [qLD] at h
    split at h
    · exact List.mem_cons_of_mem _ (qLD_sub l ws _ w h)
    · exact h
theorem pFirm30 {l : Int32} (hl : 1 ≤ l) : ¬ l ≤ pFirm 30 := by
  intro h
  have h0 : pFirm 30 = 0 := by decide
  rw [h0] at h
  simp only [Int32.le_iff_toInt_le] at h hl
  have h1 : (0 : Int32).toInt = 0 := rfl
  have h2 : (1 : Int32).toInt = 1 := rfl
  omega
theorem qLD_ct {l : Int32} (hl : 1 ≤ l) : ∀ (ws : List Int32) (cs : List (Int32 × Int64)), (qLD l ws cs).1.countP (fun w => w == 30) = ws.countP (fun w => w == 30)
  | [], cs => rfl
  | x :: ws, cs => by
    simp only [qLD]
    split
    · rename_i h
      rw [qLD_ct hl ws]
      have hx : ¬ (x == 30) = true := by
        intro e
        simp at e
        subst e
        exact pFirm30 hl h
      rw [List.countP_cons, if_neg hx, Nat.add_zero]
    · rfl
theorem qLD_top (l : Int32) : ∀ (ws : List Int32) (cs : List (Int32 × Int64)) (t : Int32) (r : List Int32), (qLD l ws cs).1 = t :: r → ¬ l ≤ pFirm t
  | [], cs, t, r, h => by simp [qLD] at h
  | x :: ws, cs, t, r, h => by
    simp only [qLD] at h
    split at h
    · exact qLD_top l ws _ t r h
    · rename_i h1
      simp only [List.cons.injEq] at h
      rw [← h.1]; exact h1
theorem qLD_grow (l : Int32) : ∀ (ws : List Int32) (cs : List (Int32 × Int64)), cs.length ≤ (qLD l ws cs).2.length
  | [], cs => Nat.le_refl _
  | x :: ws, cs => by
    simp only [qLD]
    split
    · have := qLD_grow l ws (cs ++ [(x, 0)])
      simp at this
      omega
    · exact Nat.le_refl _
theorem qJoint_firm {c : Int32} (h : ¬ qJoint c = -1) : 1 ≤ pFirm (qJoint c) ∧ ¬ qJoint c = 30 := by
  have key : qJoint c = 11 ∨ qJoint c = 12 ∨ qJoint c = 13 ∨ qJoint c = 14 ∨ qJoint c = 15 ∨ qJoint c = 16 ∨ qJoint c = 17 ∨ qJoint c = 18 ∨ qJoint c = 19 ∨ qJoint c = -1 := by
    unfold qJoint
    iterate 9 (split; · simp)
    simp
  rcases key with e | e | e | e | e | e | e | e | e | e <;> first | exact absurd e h | (rw [e]; decide)
theorem qNum_len (c : Int32) (cs : List (Int32 × Int64)) : (qNum c cs).length = cs.length := by
  rcases List.eq_nil_or_concat cs with e | ⟨l, y, e⟩
  · subst e; rfl
  · subst e; rw [List.concat_eq_append, qNum_c]; simp
theorem qInv_unit {S : zS} {k : Nat} {c : Int32} (h : qInv S k) (hk : k < 40) (h0 : (qUnit c k S).1 = 0) : qInv (qUnit c k S).2 (k + 1) := by
  obtain ⟨h1, h2, h3, h4, h5, h6⟩ := h
  unfold qUnit at h0 ⊢
  by_cases c1 : qDig c
  · rw [if_pos c1]
    exact ⟨by simp; omega, h2, h3, h4, fun _ => ⟨by simp, hk⟩, by simp⟩
  · rw [if_neg c1] at h0 ⊢
    by_cases c2 : qLet c ≠ -1
    · rw [if_pos c2]
      exact ⟨by simp; omega, h2, h3, h4, fun g => ⟨by simp, (h5 g).2⟩, h6⟩
    · rw [if_neg c2] at h0 ⊢
      by_cases c3 : c = 33 ∨ c = 45
      · rw [if_pos c3]
        have hc : (if c = 33 then (20 : Int32) else 21) = 20 ∨ (if c = 33 then (20 : Int32) else 21) = 21 := by split <;> simp
        refine ⟨by simp; omega, ?_, h3, fun w hw => ?_, h5, h6⟩
        · show List.countP _ (_ :: S.2.1) = _
          rw [List.countP_cons_of_neg (by rcases hc with e | e <;> rw [e] <;> decide)]
          exact h2
        · rcases List.mem_cons.mp hw with e | e
          · right; rw [e]; rcases hc with e2 | e2 <;> rw [e2] <;> decide
          · exact h4 w e
      · rw [if_neg c3] at h0 ⊢
        by_cases c4 : c ≠ 40
        · rw [if_pos c4] at h0
          exact absurd h0 (nI_ne0 (by omega) (by omega))
        · rw [if_neg c4] at h0 ⊢
          by_cases c5 : S.2.2.1 = 8
          · rw [if_pos c5] at h0
            exact absurd h0 (nI_ne0 (by omega) (by omega))
          · rw [if_neg c5]
            refine ⟨by simp; omega, ?_, by show S.2.2.1 + 1 ≤ 8; omega, fun w hw => ?_, h5, h6⟩
            · show List.countP _ (30 :: S.2.1) = S.2.2.1 + 1
              rw [List.countP_cons_of_pos (by decide), h2]
            · rcases List.mem_cons.mp hw with e | e
              · exact Or.inl e
              · exact h4 w e
theorem qInv_behind {S : zS} {k : Nat} {c : Int32} (h : qInv S k) (hk : k < 40) (h0 : (qBehind c k S).1 = 0) : qInv (qBehind c k S).2 (k + 1) := by
  have hne := fun g => qInv_ne h g
  obtain ⟨h1, h2, h3, h4, h5, h6⟩ := h
  by_cases c1 : c = 41 ∧ 0 < S.2.2.1
  · rw [qBehind_c c1.1 c1.2]
    have hl : (qLDS 1 S).2.1.length + (qLDS 1 S).1.length = S.2.1.length + S.1.length := qLD_len 1 S.2.1 S.1
    have hc : (qLDS 1 S).2.1.countP (fun w => w == 30) = S.2.2.1 := (qLD_ct (by decide) S.2.1 S.1).trans h2
    cases hS : (qLDS 1 S).2.1 with
    | nil => exact absurd hS (hne c1.2)
    | cons t r =>
      have ht : t = 30 := by
        rcases h4 t (qLD_sub 1 S.2.1 S.1 t (by show t ∈ (qLDS 1 S).2.1; rw [hS]; exact List.mem_cons_self)) with e | e
        · exact e
        · exact absurd e (qLD_top 1 S.2.1 S.1 t r hS)
      rw [hS] at hl hc
      subst ht
      rw [List.countP_cons_of_pos (by decide)] at hc
      simp only [List.length_cons] at hl
      refine ⟨by show (qLDS 1 S).1.length + r.length ≤ _; omega, by show r.countP _ = S.2.2.1 - 1; omega, by show S.2.2.1 - 1 ≤ 8; omega, fun w hw => h4 w (qLD_sub 1 S.2.1 S.1 w (by show w ∈ (qLDS 1 S).2.1; rw [hS]; exact List.mem_cons_of_mem _ hw)), fun g => ⟨fun e => ?_, (h5 g).2⟩, h6⟩
      have e' : (qLDS 1 S).1.length = 0 := by rw [show (qLDS 1 S).1 = [] from e]; rfl
      have := (h5 g).1
      have h8 : 0 < S.1.length := by cases hS1 : S.1 with | nil => exact absurd hS1 this | cons _ _ => simp
      have h9 : S.1.length ≤ (qLDS 1 S).1.length := qLD_grow 1 S.2.1 S.1
      omega
  · by_cases c2 : qJoint c = -1 ∨ (pFirm (qJoint c) = 3 ∧ S.2.2.2.1 S.2.2.1 = true)
    · rw [qBehind_f c1 c2] at h0
      exact absurd h0 (nI_ne0 (by omega) (by omega))
    · rw [qBehind_j c1 c2]
      obtain ⟨f1, f2⟩ := qJoint_firm (fun e => c2 (Or.inl e))
      have hl : (qLDS (pFirm (qJoint c)) S).2.1.length + (qLDS (pFirm (qJoint c)) S).1.length = S.2.1.length + S.1.length := qLD_len _ S.2.1 S.1
      refine ⟨by show (qLDS (pFirm (qJoint c)) S).1.length + (qJoint c :: (qLDS (pFirm (qJoint c)) S).2.1).length ≤ _; simp only [List.length_cons]; omega, ?_, h3, fun w hw => ?_, fun g => ⟨fun e => ?_, (h5 g).2⟩, h6⟩
      · show List.countP _ (qJoint c :: (qLDS (pFirm (qJoint c)) S).2.1) = S.2.2.1
        rw [List.countP_cons_of_neg (by simpa using f2)]
        exact (qLD_ct f1 S.2.1 S.1).trans h2
      · rcases List.mem_cons.mp hw with e | e
        · right; rw [e]; exact f1
        · exact h4 w (qLD_sub _ S.2.1 S.1 w e)
      · have e' : (qLDS (pFirm (qJoint c)) S).1.length = 0 := by rw [show (qLDS (pFirm (qJoint c)) S).1 = [] from e]; rfl
        have := (h5 g).1
        have h8 : 0 < S.1.length := by cases hS1 : S.1 with | nil => exact absurd hS1 this | cons _ _ => simp
        have h9 : S.1.length ≤ (qLDS (pFirm (qJoint c)) S).1.length := qLD_grow _ S.2.1 S.1
        omega
theorem qInv_sign {S : zS} {k : Nat} {c : Int32} (h : qInv S k) (hk : k < 40) (h0 : (qSign c k S).1 = 0) : qInv (qSign c k S).2 (k + 1) := by
  by_cases c1 : 0 < S.2.2.2.2.2.1 ∧ qDig c
  · unfold qSign at h0 ⊢
    rw [if_pos c1] at h0 ⊢
    obtain ⟨h1, h2, h3, h4, h5, h6⟩ := h
    by_cases c2 : S.2.2.2.2.2.1 = 6
    · rw [if_pos c2] at h0
      have := (h5 c1.1).2
      exact absurd h0 (nI_ne0 (by omega) (by omega))
    · rw [if_neg c2]
      refine ⟨by show (qNum c S.1).length + S.2.1.length ≤ k + 1; rw [qNum_len]; omega, h2, h3, h4, fun _ => ⟨fun e => ?_, (h5 c1.1).2⟩, by show S.2.2.2.2.2.1 + 1 ≤ 6; omega⟩
      have e' : (qNum c S.1).length = 0 := by rw [show qNum c S.1 = [] from e]; rfl
      rw [qNum_len] at e'
      exact (h5 c1.1).1 (List.eq_nil_of_length_eq_zero e')
  · have hs : qInv (qS0 S) k := qInv_dg h
    by_cases c2 : c = 32
    · rw [qSign_s c1 c2]
      obtain ⟨h1, h2, h3, h4, h5, h6⟩ := hs
      exact ⟨Nat.le_succ_of_le h1, h2, h3, h4, h5, h6⟩
    · cases hb : S.2.2.2.2.1 with
      | true => rw [qSign_b c1 c2 hb] at h0 ⊢; exact qInv_behind hs hk h0
      | false => rw [qSign_u c1 c2 hb] at h0 ⊢; exact qInv_unit hs hk h0
def qRun (t : Nat → Int32) : Nat → Nat → zS → Int32 × zS
  | 0, _, S => (0, S)
  | m + 1, k, S => if (qSign (t k) k S).1 = 0 then qRun t m (k + 1) (qSign (t k) k S).2 else qSign (t k) k S
def qEnd (many : Nat) (p : Int32 × zS) : Int32 × zS := if p.1 = 0 then (if p.2.2.2.2.2.1 = false ∨ 0 < p.2.2.2.1 then (nI (10 * many + 1), p.2) else (-1, qLDS 1 p.2)) else p
abbrev qZ : zS := ([], [], 0, fun _ => false, false, 0, 0)
abbrev qRead (t : Nat → Int32) (many : Nat) : Int32 × zS := qEnd many (qRun t many 0 qZ)
theorem qInv_Z : qInv qZ 0 := ⟨Nat.le_refl _, rfl, Nat.zero_le _, fun w h => by simp at h, fun g => absurd g (Nat.lt_irrefl 0), Nat.zero_le _⟩
section
variable {E : zE} {σ : zH} {a : Nat} {M : zMo}
theorem l_read (l many : Nat) (hl : l < 4) (hmany : many ≤ 40) : ∀ (m : Nat) (k : Nat) (Mk : zMo) (S : zS) (o4 : Option Value), (k + m = many) → (mCore M Mk) → (mRep Mk S) → (qInv S k) → ∀ n, zXB E YM_read 6 n (some (.int (qEnd many (qRun (fun j => M.1 0 (372 + 40 * l + j)) m k S)).1)) (mP σ a M (qEnd many (qRun (fun j => M.1 0 (372 + 40 * l + j)) m k S)).2) (mw σ a Mk) 45 [some (.ref a), some (.int (nI l)), some (.int (nI many)), some (.int (nI k)), o4] [] := by
  intro m
  induction m using Nat.strongRecOn with
  | ind m ih =>
  intro k Mk S o4 hk hc hr hi n
  refine zj_iload_n 29 rfl rfl rfl ?_
  refine zj_iload_n 30 rfl rfl rfl ?_
  refine zn_icmp_ge 31 (k) (many) rfl rfl rfl rfl (by omega) (by omega) (fun c47 => ?_) (fun c47 => ?_)
  · obtain rfl : m = 0 := by omega
    have e : qRun (fun j => M.1 0 (372 + 40 * l + j)) 0 k S = (0, S) := rfl
    rw [e]
    have hlt := hi.1
    refine zj_aload_n 52 rfl rfl rfl ?_
    refine zj_get 53 rfl rfl mw_0 rfl ?_
    refine zj_if_eq 54 rfl rfl (fun c90 => ?_) (fun c90 => ?_)
    · refine zj_bipush 58 (10) rfl rfl (by decide) ?_
      refine zj_iload_n 59 rfl rfl rfl ?_
      refine zn_imul 60 (10) (many) rfl rfl rfl rfl ?_
      refine zj_iconst 61 (1) rfl rfl (by decide) ?_
      refine zn_iadd 62 (10 * many) (1) rfl rfl rfl rfl ?_
      refine zj_ireturn 63 rfl rfl rfl ?_
      have e2 : qEnd many (0, S) = (nI (10 * many + 1), S) := by
        unfold qEnd; rw [if_pos rfl, if_pos (Or.inl (zob_0.mp (hr.2.2.2.1.symm.trans c90)))]
      rw [e2]
      exact ⟨rfl, rfl, Mk, rfl, hc, hr⟩
    · refine zj_aload_n 55 rfl rfl rfl ?_
      refine zj_get 56 rfl rfl mw_0 rfl ?_
      refine zj_if_le 57 rfl rfl (fun c97 => ?_) (fun c97 => ?_)
      · refine zj_aload_n 64 rfl rfl rfl ?_
        refine zj_iconst 65 (1) rfl rfl (by decide) ?_
        refine zj_cvvX 66 rfl rfl lk_8_113 ckM_layDown (k_layDown _ S hr (by omega)) rfl mw_0 rfl rfl rfl (fun s1 hP1 => ?_)
        obtain ⟨M1, rfl, hc1, hr1⟩ := hP1
        refine zj_iconst 67 (-1) rfl rfl (by decide) ?_
        refine zj_ireturn 68 rfl rfl rfl ?_
        have e2 : qEnd many (0, S) = (-1, qLDS 1 S) := by
          unfold qEnd
          rw [if_pos rfl, if_neg]
          rintro (g | g)
          · have g2 : S.2.2.2.2.1 = true := zob_n.mp (fun z => c90 (hr.2.2.2.1.trans z))
            exact absurd g (by rw [g2]; decide)
          · exact absurd (show Mk.2.2.1 2 ≤ 0 from c97) (by rw [hr.2.2.1.1]; exact nI_nle g (by have := hi.2.2.1; omega))
        rw [e2]
        exact ⟨rfl, rfl, M1, rfl, hc.trans hc1, hr1⟩
      · refine zj_bipush 58 (10) rfl rfl (by decide) ?_
        refine zj_iload_n 59 rfl rfl rfl ?_
        refine zn_imul 60 (10) (many) rfl rfl rfl rfl ?_
        refine zj_iconst 61 (1) rfl rfl (by decide) ?_
        refine zn_iadd 62 (10 * many) (1) rfl rfl rfl rfl ?_
        refine zj_ireturn 63 rfl rfl rfl ?_
        have e2 : qEnd many (0, S) = (nI (10 * many + 1), S) := by
          unfold qEnd; rw [if_pos rfl, if_pos (Or.inr (by
            rcases Nat.eq_zero_or_pos S.2.2.1 with e | e
            · exact absurd (show Mk.2.2.1 2 ≤ 0 by rw [hr.2.2.1.1, e]; decide) c97
            · exact e))]
        rw [e2]
        exact ⟨rfl, rfl, Mk, rfl, hc, hr⟩
  · obtain ⟨m', rfl⟩ : ∃ m', m = m' + 1 := ⟨m - 1, by omega⟩
    refine zj_aload_n 32 rfl rfl rfl ?_
    refine zj_aload_n 33 rfl rfl rfl ?_
    refine zj_get 34 rfl rfl mw_0 rfl ?_
    refine zj_sipush 35 (372) rfl rfl (by decide) ?_
    refine zj_bipush 36 (40) rfl rfl (by decide) ?_
    refine zj_iload_n 37 rfl rfl rfl ?_
    refine zn_imul 38 (40) (l) rfl rfl rfl rfl ?_
    refine zn_iadd 39 (372) (40 * l) rfl rfl rfl rfl ?_
    refine zj_iload_n 40 rfl rfl rfl ?_
    refine zn_iadd 41 ((372) + (40 * l)) (k) rfl rfl rfl rfl ?_
    refine zn_iald 42 (((372) + (40 * l)) + (k)) rfl rfl mw_1 rfl (by omega) (by decide) ?_
    rw [hc.1]
    refine zj_iload_n 43 rfl rfl rfl ?_
    refine zj_cvxX 44 rfl rfl lk_8_151 ckM_goSign (k_goSign _ _ S hr hi (by omega)) rfl mw_0 rfl rfl rfl (fun s1 hP1 => ?_)
    obtain ⟨M1, rfl, hc1, hr1⟩ := hP1
    refine zj_istore 45 rfl rfl ?_
    refine zj_iload 46 rfl rfl rfl ?_
    refine zj_if_eq 47 rfl rfl (fun c74 => ?_) (fun c74 => ?_)
    · refine zn_iinc 50 (k) rfl rfl rfl rfl ?_
      refine zj_goto 51 rfl rfl ?_
      have e : qRun (fun j => M.1 0 (372 + 40 * l + j)) (m' + 1) k S = qRun (fun j => M.1 0 (372 + 40 * l + j)) m' (k + 1) (qSign (M.1 0 (372 + 40 * l + k)) k S).2 := by
        simp only [qRun]; rw [if_pos c74]
      rw [e]
      exact ih m' (by omega) (k + 1) M1 _ _ (by omega) (hc.trans hc1) hr1 (qInv_sign hi (by omega) c74) n
    · refine zj_iload 48 rfl rfl rfl ?_
      refine zj_ireturn 49 rfl rfl rfl ?_
      have e : qRun (fun j => M.1 0 (372 + 40 * l + j)) (m' + 1) k S = qSign (M.1 0 (372 + 40 * l + k)) k S := by
        simp only [qRun]; rw [if_neg c74]
      have e2 : qEnd many (qSign (M.1 0 (372 + 40 * l + k)) k S) = qSign (M.1 0 (372 + 40 * l + k)) k S := if_neg c74
      rw [e, e2]
      exact ⟨rfl, rfl, M1, rfl, hc.trans hc1, hr1⟩
theorem mRep_0 (M : zMo) : mRep ((((((M.sI 0 0).sI 1 0).sI 2 0).sA 6 (va_up (M.1 6) 0 0)).sI 3 0).sI 4 0) qZ := by
  refine ⟨⟨rfl, fun i x hx => by simp at hx⟩, ⟨rfl, fun i x hx => by simp at hx⟩, ⟨rfl, fun i hi => ?_⟩, rfl, rfl, fun g => absurd g (Nat.lt_irrefl 0)⟩
  have e : i = 0 := by have : i ≤ 0 := hi; omega
  subst e
  rfl
theorem k_read (l many : Nat) (hl : l < 4) (hm : M.1 0 (368 + l) = nI many) (hmany : many ≤ 40) : zX E YM_read 6 [.ref a, .int (nI l)] (mw σ a M) (some (.int (qRead (fun j => M.1 0 (372 + 40 * l + j)) many).1)) (mP σ a M (qRead (fun j => M.1 0 (372 + 40 * l + j)) many).2) := by
  refine zX.of oM_read (by decide +kernel) rfl rfl (fun n => ?_)
  refine zj_aload_n 0 rfl rfl rfl ?_
  refine zj_iconst 1 (0) rfl rfl (by decide) ?_
  refine zn_put 2 rfl rfl mw_0 rfl rfl rfl rfl mw_p_codeMany ?_
  refine zj_aload_n 3 rfl rfl rfl ?_
  refine zj_iconst 4 (0) rfl rfl (by decide) ?_
  refine zn_put 5 rfl rfl mw_0 rfl rfl rfl rfl mw_p_waiting ?_
  refine zj_aload_n 6 rfl rfl rfl ?_
  refine zj_iconst 7 (0) rfl rfl (by decide) ?_
  refine zn_put 8 rfl rfl mw_0 rfl rfl rfl rfl mw_p_depth ?_
  refine zj_aload_n 9 rfl rfl rfl ?_
  refine zj_get 10 rfl rfl mw_0 rfl ?_
  refine zj_iconst 11 (0) rfl rfl (by decide) ?_
  refine zj_iconst 12 (0) rfl rfl (by decide) ?_
  refine zn_zast 13 (0) rfl rfl mw_8 rfl (by omega) (by decide) rfl mw_u8 ?_
  refine zj_aload_n 14 rfl rfl rfl ?_
  refine zj_iconst 15 (0) rfl rfl (by decide) ?_
  refine zn_put 16 rfl rfl mw_0 rfl rfl rfl rfl mw_p_isBehind ?_
  refine zj_aload_n 17 rfl rfl rfl ?_
  refine zj_iconst 18 (0) rfl rfl (by decide) ?_
  refine zn_put 19 rfl rfl mw_0 rfl rfl rfl rfl mw_p_digits ?_
  refine zj_aload_n 20 rfl rfl rfl ?_
  refine zj_get 21 rfl rfl mw_0 rfl ?_
  refine zj_sipush 22 (368) rfl rfl (by decide) ?_
  refine zj_iload_n 23 rfl rfl rfl ?_
  refine zn_iadd 24 (368) (l) rfl rfl rfl rfl ?_
  refine zn_iald 25 (368 + l) rfl rfl mw_1 rfl (by omega) (by decide) ?_
  rw [show (((((((M.sI 0 0).sI 1 0).sI 2 0).sA 6 (va_up (M.1 6) 0 0)).sI 3 0).sI 4 0).1 0 (368 + l)) = nI many from hm]
  refine zj_istore_n 26 rfl rfl ?_
  refine zj_iconst 27 (0) rfl rfl (by decide) ?_
  refine zj_istore_n 28 rfl rfl ?_
  exact l_read l many hl hmany many 0 _ qZ _ (by omega) ((mCore_sI M 0 0).trans ((mCore_sI _ 1 0).trans ((mCore_sI _ 2 0).trans ((mCore_sA6 _ _).trans ((mCore_sI _ 3 0).trans (mCore_sI _ 4 0)))))) (mRep_0 M) qInv_Z n
theorem k_Mfault (l many : Nat) (hl : l < 4) (hm : M.1 0 (368 + l) = nI many) (hmany : many ≤ 40) : zX E YM_fault 7 [.ref a, .int (nI l)] (mw σ a M) (some (.int (qRead (fun j => M.1 0 (372 + 40 * l + j)) many).1)) (mP σ a M (qRead (fun j => M.1 0 (372 + 40 * l + j)) many).2) := by
  refine zX.of oM_fault (by decide +kernel) rfl rfl (fun n => ?_)
  refine zj_iload_n 0 rfl rfl rfl ?_
  refine zj_csx 1 rfl rfl lk_8_57 ckM_isFour (k_isFour _) rfl rfl rfl rfl ?_
  refine zj_if_eq 2 rfl rfl (fun c4 => ?_) (fun c4 => ?_)
  · exact absurd (zr_of (n := 4) (by omega) (by decide)) (zo_0.mp c4)
  · refine zj_aload_n 3 rfl rfl rfl ?_
    refine zj_iload_n 4 rfl rfl rfl ?_
    refine zj_cvxX 5 rfl rfl lk_8_154 ckM_read (k_read l many hl hm hmany) rfl mw_0 rfl rfl rfl (fun s1 hP1 => ?_)
    obtain ⟨M1, rfl, hc1, hr1⟩ := hP1
    refine zj_goto 6 rfl rfl ?_
    refine zj_ireturn 8 rfl rfl rfl ?_
    exact ⟨rfl, rfl, M1, rfl, hc1, hr1⟩
theorem k_Mfault_bad (l : Int32) (hb : ¬ zr l 4) : zM E YM_fault 7 [.ref a, .int l] (mw σ a M) (some (.int (-2))) (mw σ a M) := by
  refine zM.of oM_fault (by decide +kernel) rfl rfl (fun n => ?_)
  refine zj_iload_n 0 rfl rfl rfl ?_
  refine zj_csx 1 rfl rfl lk_8_57 ckM_isFour (k_isFour _) rfl rfl rfl rfl ?_
  refine zj_if_eq 2 rfl rfl (fun c4 => ?_) (fun c4 => ?_)
  · refine zj_bipush 7 (-2) rfl rfl (by decide) ?_
    refine zj_ireturn 8 rfl rfl rfl ?_
    exact ⟨rfl, rfl, rfl⟩
  · exact absurd (zo_n0.mp c4) hb
end
end
section
/-! the reference: a law's value -/
def pWk (c : Nat) (x y : Int64) : Int64 :=
  if c = 11 then (if x ≠ 0 ∨ y ≠ 0 then 1 else 0) else if c = 12 then (if x ≠ 0 ∧ y ≠ 0 then 1 else 0) else if c = 13 then (if x < y then 1 else 0) else if c = 14 then (if y < x then 1 else 0) else if c = 15 then (if x = y then 1 else 0)
  else if c = 16 then x + y else if c = 17 then x - y else if c = 18 then x * y else (if y = 0 then 0 else x / y)
def evC (lt : Nat → Int64) : List (Int32 × Int64) → List Int64 → Option (List Int64)
  | [], st => some st
  | (c, v) :: cs, st =>
    if c < 7 then evC lt cs ((if c < 6 then lt c.toNatClampNeg else v) :: st)
    else if 20 ≤ c then (match st with
      | x :: st' => evC lt cs ((if c = 21 then -x else if x = 0 then 1 else 0) :: st')
      | [] => none)
    else (match st with
      | y :: x :: st' => evC lt cs (pWk c.toNatClampNeg x y :: st')
      | _ => none)
/-- the codes that a reader lays -/
def qCode (c : Int32) : Prop := ∃ j : Nat, c = nI j ∧ (j ≤ 6 ∨ (11 ≤ j ∧ j ≤ 21))
def mStk (M : zMo) (st : List Int64) : Prop := ∀ i x, st.reverse[i]? = some x → M.2.1 2 i = x
theorem mStk_push {M : zMo} {st : List Int64} (h : mStk M st) (v : Int64) : mStk (M.sB 2 (va_up (M.2.1 2) st.length v)) (v :: st) := by
  intro i y hy
  rw [List.reverse_cons] at hy
  by_cases hi : i < st.length
  · rw [List.getElem?_append_left (by rw [List.length_reverse]; exact hi)] at hy
    have := h i y hy
    simpa [va_up, Nat.ne_of_lt hi] using this
  · rw [List.getElem?_append_right (by rw [List.length_reverse]; omega)] at hy
    have hl := (List.getElem?_eq_some_iff.mp hy).1
    simp only [List.length_cons, List.length_nil, List.length_reverse] at hl
    have e : i = st.length := by omega
    subst e
    simp at hy
    subst hy
    simp [va_up]
theorem mStk_tail {M : zMo} {x : Int64} {st : List Int64} (h : mStk M (x :: st)) : mStk M st := by
  intro i y hy
  refine h i y ?_
  rw [List.reverse_cons]
  have hl : i < st.reverse.length := (List.getElem?_eq_some_iff.mp hy).1
  rw [List.getElem?_append_left hl]
  exact hy
theorem mStk_top {M : zMo} {x : Int64} {st : List Int64} (h : mStk M (x :: st)) : M.2.1 2 st.length = x := by
  refine h st.length x ?_
  rw [List.reverse_cons]; simp
theorem sB_sB (M : zMo) (j : Nat) (f g : Nat → Int64) : (M.sB j f).sB j g = M.sB j g := by
  unfold zMo.sB; rw [va_up_up]
theorem sB_id (M : zMo) (j : Nat) : M.sB j (M.2.1 j) = M := by
  unfold zMo.sB; rw [zva_id]
section
variable {E : zE} {σ : zH} {a : Nat} {M : zMo}
theorem k_worked11 (x y : Int64) : zM E YM_worked 1 [.int (nI 11), .long x, .long y] (σ) (some (.long (pWk 11 x y))) (σ) := by
  refine zM.of oM_worked (by decide +kernel) rfl rfl (fun n => ?_)
  refine zj_iload_n 0 rfl rfl rfl ?_
  refine zj_tsw (t := 48) 1 rfl rfl (by decide +kernel) (by decide +kernel) ?_
  refine zj_lload_n 2 rfl rfl rfl ?_
  refine zj_lconst 3 (0) rfl rfl (by decide) ?_
  refine zj_lcmp 4 rfl rfl ?_
  refine zj_if_ne 5 rfl rfl (fun c51 => ?_) (fun c51 => ?_)
  · refine zj_lconst 10 (1) rfl rfl (by decide) ?_
    refine zj_goto 11 rfl rfl ?_
    refine zj_lreturn 13 rfl rfl rfl ?_
    refine ⟨zrl ?_, rfl, rfl⟩
    show _ = (if x ≠ 0 ∨ y ≠ 0 then (1 : Int64) else 0)
    rw [if_pos (Or.inl (fun e => c51 ((lg_cmp_eq _ _).mpr e)))]
  · refine zj_lload_n 6 rfl rfl rfl ?_
    refine zj_lconst 7 (0) rfl rfl (by decide) ?_
    refine zj_lcmp 8 rfl rfl ?_
    refine zj_if_eq 9 rfl rfl (fun c57 => ?_) (fun c57 => ?_)
    · refine zj_lconst 12 (0) rfl rfl (by decide) ?_
      refine zj_lreturn 13 rfl rfl rfl ?_
      refine ⟨zrl ?_, rfl, rfl⟩
      show _ = (if x ≠ 0 ∨ y ≠ 0 then (1 : Int64) else 0)
      rw [if_neg (fun g => g.elim (fun z => z ((lg_cmp_eq _ _).mp (Decidable.of_not_not (by simpa using c51)))) (fun z => z ((lg_cmp_eq _ _).mp c57)))]
    · refine zj_lconst 10 (1) rfl rfl (by decide) ?_
      refine zj_goto 11 rfl rfl ?_
      refine zj_lreturn 13 rfl rfl rfl ?_
      refine ⟨zrl ?_, rfl, rfl⟩
      show _ = (if x ≠ 0 ∨ y ≠ 0 then (1 : Int64) else 0)
      rw [if_pos (Or.inr (fun e => c57 ((lg_cmp_eq _ _).mpr e)))]
theorem k_worked12 (x y : Int64) : zM E YM_worked 1 [.int (nI 12), .long x, .long y] (σ) (some (.long (pWk 12 x y))) (σ) := by
  refine zM.of oM_worked (by decide +kernel) rfl rfl (fun n => ?_)
  refine zj_iload_n 0 rfl rfl rfl ?_
  refine zj_tsw (t := 66) 1 rfl rfl (by decide +kernel) (by decide +kernel) ?_
  refine zj_lload_n 14 rfl rfl rfl ?_
  refine zj_lconst 15 (0) rfl rfl (by decide) ?_
  refine zj_lcmp 16 rfl rfl ?_
  refine zj_if_eq 17 rfl rfl (fun c69 => ?_) (fun c69 => ?_)
  · refine zj_lconst 24 (0) rfl rfl (by decide) ?_
    refine zj_lreturn 25 rfl rfl rfl ?_
    refine ⟨zrl ?_, rfl, rfl⟩
    show _ = (if x ≠ 0 ∧ y ≠ 0 then (1 : Int64) else 0)
    rw [if_neg (fun g => g.1 ((lg_cmp_eq _ _).mp c69))]
  · refine zj_lload_n 18 rfl rfl rfl ?_
    refine zj_lconst 19 (0) rfl rfl (by decide) ?_
    refine zj_lcmp 20 rfl rfl ?_
    refine zj_if_eq 21 rfl rfl (fun c75 => ?_) (fun c75 => ?_)
    · refine zj_lconst 24 (0) rfl rfl (by decide) ?_
      refine zj_lreturn 25 rfl rfl rfl ?_
      refine ⟨zrl ?_, rfl, rfl⟩
      show _ = (if x ≠ 0 ∧ y ≠ 0 then (1 : Int64) else 0)
      rw [if_neg (fun g => g.2 ((lg_cmp_eq _ _).mp c75))]
    · refine zj_lconst 22 (1) rfl rfl (by decide) ?_
      refine zj_goto 23 rfl rfl ?_
      refine zj_lreturn 25 rfl rfl rfl ?_
      refine ⟨zrl ?_, rfl, rfl⟩
      show _ = (if x ≠ 0 ∧ y ≠ 0 then (1 : Int64) else 0)
      rw [if_pos ⟨fun e => c69 ((lg_cmp_eq _ _).mpr e), fun e => c75 ((lg_cmp_eq _ _).mpr e)⟩]
theorem k_worked13 (x y : Int64) : zM E YM_worked 1 [.int (nI 13), .long x, .long y] (σ) (some (.long (pWk 13 x y))) (σ) := by
  refine zM.of oM_worked (by decide +kernel) rfl rfl (fun n => ?_)
  refine zj_iload_n 0 rfl rfl rfl ?_
  refine zj_tsw (t := 84) 1 rfl rfl (by decide +kernel) (by decide +kernel) ?_
  refine zj_lload_n 26 rfl rfl rfl ?_
  refine zj_lload_n 27 rfl rfl rfl ?_
  refine zj_lcmp 28 rfl rfl ?_
  refine zj_if_ge 29 rfl rfl (fun c87 => ?_) (fun c87 => ?_)
  · refine zj_lconst 32 (0) rfl rfl (by decide) ?_
    refine zj_lreturn 33 rfl rfl rfl ?_
    refine ⟨zrl ?_, rfl, rfl⟩
    show _ = (if x < y then (1 : Int64) else 0)
    rw [if_neg (Int64.not_lt.mpr ((lg_cmp_ge _ _).mp c87))]
  · refine zj_lconst 30 (1) rfl rfl (by decide) ?_
    refine zj_goto 31 rfl rfl ?_
    refine zj_lreturn 33 rfl rfl rfl ?_
    refine ⟨zrl ?_, rfl, rfl⟩
    show _ = (if x < y then (1 : Int64) else 0)
    rw [if_pos (Int64.not_le.mp (fun g => c87 ((lg_cmp_ge _ _).mpr g)))]
theorem k_worked14 (x y : Int64) : zM E YM_worked 1 [.int (nI 14), .long x, .long y] (σ) (some (.long (pWk 14 x y))) (σ) := by
  refine zM.of oM_worked (by decide +kernel) rfl rfl (fun n => ?_)
  refine zj_iload_n 0 rfl rfl rfl ?_
  refine zj_tsw (t := 96) 1 rfl rfl (by decide +kernel) (by decide +kernel) ?_
  refine zj_lload_n 34 rfl rfl rfl ?_
  refine zj_lload_n 35 rfl rfl rfl ?_
  refine zj_lcmp 36 rfl rfl ?_
  refine zj_if_le 37 rfl rfl (fun c99 => ?_) (fun c99 => ?_)
  · refine zj_lconst 40 (0) rfl rfl (by decide) ?_
    refine zj_lreturn 41 rfl rfl rfl ?_
    refine ⟨zrl ?_, rfl, rfl⟩
    show _ = (if y < x then (1 : Int64) else 0)
    rw [if_neg (Int64.not_lt.mpr ((lg_cmp_le _ _).mp c99))]
  · refine zj_lconst 38 (1) rfl rfl (by decide) ?_
    refine zj_goto 39 rfl rfl ?_
    refine zj_lreturn 41 rfl rfl rfl ?_
    refine ⟨zrl ?_, rfl, rfl⟩
    show _ = (if y < x then (1 : Int64) else 0)
    rw [if_pos (Int64.not_le.mp (fun g => c99 ((lg_cmp_le _ _).mpr g)))]
theorem k_worked15 (x y : Int64) : zM E YM_worked 1 [.int (nI 15), .long x, .long y] (σ) (some (.long (pWk 15 x y))) (σ) := by
  refine zM.of oM_worked (by decide +kernel) rfl rfl (fun n => ?_)
  refine zj_iload_n 0 rfl rfl rfl ?_
  refine zj_tsw (t := 108) 1 rfl rfl (by decide +kernel) (by decide +kernel) ?_
  refine zj_lload_n 42 rfl rfl rfl ?_
  refine zj_lload_n 43 rfl rfl rfl ?_
  refine zj_lcmp 44 rfl rfl ?_
  refine zj_if_ne 45 rfl rfl (fun c111 => ?_) (fun c111 => ?_)
  · refine zj_lconst 48 (0) rfl rfl (by decide) ?_
    refine zj_lreturn 49 rfl rfl rfl ?_
    refine ⟨zrl ?_, rfl, rfl⟩
    show _ = (if x = y then (1 : Int64) else 0)
    rw [if_neg (fun e => c111 ((lg_cmp_eq _ _).mpr e))]
  · refine zj_lconst 46 (1) rfl rfl (by decide) ?_
    refine zj_goto 47 rfl rfl ?_
    refine zj_lreturn 49 rfl rfl rfl ?_
    refine ⟨zrl ?_, rfl, rfl⟩
    show _ = (if x = y then (1 : Int64) else 0)
    rw [if_pos ((lg_cmp_eq _ _).mp (Decidable.of_not_not (by simpa using c111)))]
theorem k_worked16 (x y : Int64) : zM E YM_worked 1 [.int (nI 16), .long x, .long y] (σ) (some (.long (pWk 16 x y))) (σ) := by
  refine zM.of oM_worked (by decide +kernel) rfl rfl (fun n => ?_)
  refine zj_iload_n 0 rfl rfl rfl ?_
  refine zj_tsw (t := 120) 1 rfl rfl (by decide +kernel) (by decide +kernel) ?_
  refine zj_lload_n 50 rfl rfl rfl ?_
  refine zj_lload_n 51 rfl rfl rfl ?_
  refine zj_ladd 52 rfl rfl ?_
  refine zj_lreturn 53 rfl rfl rfl ?_
  exact ⟨rfl, rfl, rfl⟩
theorem k_worked17 (x y : Int64) : zM E YM_worked 1 [.int (nI 17), .long x, .long y] (σ) (some (.long (pWk 17 x y))) (σ) := by
  refine zM.of oM_worked (by decide +kernel) rfl rfl (fun n => ?_)
  refine zj_iload_n 0 rfl rfl rfl ?_
  refine zj_tsw (t := 124) 1 rfl rfl (by decide +kernel) (by decide +kernel) ?_
  refine zj_lload_n 54 rfl rfl rfl ?_
  refine zj_lload_n 55 rfl rfl rfl ?_
  refine zj_lsub 56 rfl rfl ?_
  refine zj_lreturn 57 rfl rfl rfl ?_
  exact ⟨rfl, rfl, rfl⟩
theorem k_worked18 (x y : Int64) : zM E YM_worked 1 [.int (nI 18), .long x, .long y] (σ) (some (.long (pWk 18 x y))) (σ) := by
  refine zM.of oM_worked (by decide +kernel) rfl rfl (fun n => ?_)
  refine zj_iload_n 0 rfl rfl rfl ?_
  refine zj_tsw (t := 128) 1 rfl rfl (by decide +kernel) (by decide +kernel) ?_
  refine zj_lload_n 58 rfl rfl rfl ?_
  refine zj_lload_n 59 rfl rfl rfl ?_
  refine zj_lmul 60 rfl rfl ?_
  refine zj_lreturn 61 rfl rfl rfl ?_
  exact ⟨rfl, rfl, rfl⟩
theorem k_worked19 (x y : Int64) : zM E YM_worked 1 [.int (nI 19), .long x, .long y] (σ) (some (.long (pWk 19 x y))) (σ) := by
  refine zM.of oM_worked (by decide +kernel) rfl rfl (fun n => ?_)
  refine zj_iload_n 0 rfl rfl rfl ?_
  refine zj_tsw (t := 132) 1 rfl rfl (by decide +kernel) (by decide +kernel) ?_
  refine zj_lload_n 62 rfl rfl rfl ?_
  refine zj_lconst 63 (0) rfl rfl (by decide) ?_
  refine zj_lcmp 64 rfl rfl ?_
  refine zj_if_ne 65 rfl rfl (fun c135 => ?_) (fun c135 => ?_)
  · refine zj_lload_n 68 rfl rfl rfl ?_
    refine zj_lload_n 69 rfl rfl rfl ?_
    refine zj_ldiv 70 rfl rfl (by exact fun e => c135 ((lg_cmp_eq _ _).mpr e)) ?_
    refine zj_lreturn 71 rfl rfl rfl ?_
    refine ⟨zrl ?_, rfl, rfl⟩
    show _ = (if y = 0 then (0 : Int64) else x / y)
    rw [if_neg (fun e => c135 ((lg_cmp_eq _ _).mpr e))]
  · refine zj_lconst 66 (0) rfl rfl (by decide) ?_
    refine zj_goto 67 rfl rfl ?_
    refine zj_lreturn 71 rfl rfl rfl ?_
    refine ⟨zrl ?_, rfl, rfl⟩
    show _ = (if y = 0 then (0 : Int64) else x / y)
    rw [if_pos ((lg_cmp_eq _ _).mp (Decidable.of_not_not (by simpa using c135)))]
theorem k_worked (c : Nat) (h1 : 11 ≤ c) (h2 : c ≤ 19) (x y : Int64) : zM E YM_worked 1 [.int (nI c), .long x, .long y] σ (some (.long (pWk c x y))) σ := by
  rcases (by omega : c = 11 ∨ c = 12 ∨ c = 13 ∨ c = 14 ∨ c = 15 ∨ c = 16 ∨ c = 17 ∨ c = 18 ∨ c = 19) with rfl | rfl | rfl | rfl | rfl | rfl | rfl | rfl | rfl
  · exact k_worked11 x y
  · exact k_worked12 x y
  · exact k_worked13 x y
  · exact k_worked14 x y
  · exact k_worked15 x y
  · exact k_worked16 x y
  · exact k_worked17 x y
  · exact k_worked18 x y
  · exact k_worked19 x y
end
end
section
/-! the reference: tells -/
section
variable {lt : Nat → Int64} {j : Nat} {v : Int64} {cs : List (Int32 × Int64)} {st : List Int64}
theorem evC_u1 (h : j < 6) : evC lt ((nI j, v) :: cs) st = evC lt cs (lt j :: st) := by
  simp only [evC]
  rw [if_pos (show nI j < 7 from nI_lt (b := 7) (by omega) (by decide)), if_pos (show nI j < 6 from nI_lt (b := 6) h (by decide)), nI_clamp (by omega)]
theorem evC_u2 (h : j = 6) : evC lt ((nI j, v) :: cs) st = evC lt cs (v :: st) := by
  subst h
  rfl
theorem evC_n (h : 20 ≤ j) (h2 : j ≤ 21) : evC lt ((nI j, v) :: cs) st = (match st with
      | x :: st' => evC lt cs ((if nI j = 21 then -x else if x = 0 then 1 else 0) :: st')
      | [] => none) := by
  simp only [evC]
  rw [if_neg (show ¬ nI j < 7 from nI_nlt (b := 7) (by omega) (by omega)), if_pos (show (20 : Int32) ≤ nI j from nI_le (a := 20) h (by omega))]
  cases st <;> rfl
theorem evC_b (h : 7 ≤ j) (h2 : j < 20) : evC lt ((nI j, v) :: cs) st = (match st with
      | y :: x :: st' => evC lt cs (pWk j x y :: st')
      | _ => none) := by
  simp only [evC]
  rw [if_neg (show ¬ nI j < 7 from nI_nlt (b := 7) (by omega) (by omega)), if_neg (show ¬ (20 : Int32) ≤ nI j from nI_ge (a := j) (b := 20) (by omega) (by decide)), nI_clamp (by omega)]
  match st with
  | [] => rfl
  | [_] => rfl
  | _ :: _ :: _ => rfl
theorem mStkB {M : zMo} {f : Nat → Int64} {st : List Int64} (h : mStk (M.sB 2 f) st) (v : Int64) : mStk (M.sB 2 (va_up ((M.sB 2 f).2.1 2) st.length v)) (v :: st) := by
  have := mStk_push h v
  rw [sB_sB] at this
  exact this
theorem zdrop {α : Type} {l : List α} {k : Nat} {x : α} (h : l[k]? = some x) : l.drop k = x :: l.drop (k + 1) := by
  have hk := (List.getElem?_eq_some_iff.mp h)
  obtain ⟨h1, h2⟩ := hk
  rw [List.drop_eq_getElem_cons h1, h2]
end
section
variable {E : zE} {σ : zH} {a : Nat} {M : zMo}
theorem l_tells (cs : List (Int32 × Int64)) (hlen : cs.length ≤ 40) (hcm : M.2.2.1 0 = nI cs.length) (hcs : ∀ i x, cs[i]? = some x → M.1 4 i = x.1 ∧ M.2.1 0 i = x.2) (hq : ∀ x ∈ cs, qCode x.1) (v : Int64) : ∀ (m : Nat) (k : Nat) (st : List Int64) (f : Nat → Int64) (o3 : Option Value), (k + m = cs.length) → (st.length ≤ k) → (mStk (M.sB 2 f) st) → (evC (M.2.1 1) (cs.drop k) st = some [v]) → ∀ n, zXB E YM_tells 2 n (some (.int (zo (v ≠ 0)))) (fun s => ∃ f, s = mw σ a (M.sB 2 f)) (mw σ a (M.sB 2 f)) 4 [some (.ref a), some (.int (nI st.length)), some (.int (nI k)), o3] [] := by
  intro m
  induction m using Nat.strongRecOn with
  | ind m ih =>
  intro k st f o3 hk hsl hs hev n
  refine zj_iload_n 4 rfl rfl rfl ?_
  refine zj_aload_n 5 rfl rfl rfl ?_
  refine zj_get 6 rfl rfl mw_0 rfl ?_
  refine zn_icmp_ge 7 (k) (cs.length) rfl rfl rfl hcm (by omega) (by omega) (fun c9 => ?_) (fun c9 => ?_)
  · refine zj_aload_n 88 rfl rfl rfl ?_
    refine zj_get 89 rfl rfl mw_0 rfl ?_
    refine zj_iconst 90 (0) rfl rfl (by decide) ?_
    refine zn_lald 91 (0) rfl rfl mw_10 rfl (by omega) (by decide) ?_
    refine zj_lconst 92 (0) rfl rfl (by decide) ?_
    refine zj_lcmp 93 rfl rfl ?_
    refine zj_if_eq 94 rfl rfl (fun c154 => ?_) (fun c154 => ?_)
    · refine zj_iconst 97 (0) rfl rfl (by decide) ?_
      refine zj_zreturn 98 rfl rfl rfl rfl ?_
      obtain rfl : k = cs.length := by omega
      rw [List.drop_length] at hev
      obtain rfl : st = [v] := Option.some.inj hev
      have hv : (M.sB 2 f).2.1 2 0 = v := mStk_top hs
      rw [hv] at c154
      exact ⟨zrt (zo_f (fun g => g ((lg_cmp_eq _ _).mp c154))), rfl, f, rfl⟩
    · refine zj_iconst 95 (1) rfl rfl (by decide) ?_
      refine zj_goto 96 rfl rfl ?_
      refine zj_zreturn 98 rfl rfl rfl rfl ?_
      obtain rfl : k = cs.length := by omega
      rw [List.drop_length] at hev
      obtain rfl : st = [v] := Option.some.inj hev
      have hv : (M.sB 2 f).2.1 2 0 = v := mStk_top hs
      rw [hv] at c154
      exact ⟨zrt (zo_t (fun e => c154 ((lg_cmp_eq _ _).mpr e))), rfl, f, rfl⟩
  · obtain ⟨x0, hx0⟩ : ∃ x, cs[k]? = some x := ⟨cs[k]'(by omega), List.getElem?_eq_getElem (by omega)⟩
    obtain ⟨j, hj0, hjr⟩ := hq x0 (List.mem_of_getElem? hx0)
    obtain ⟨c0, y⟩ := x0
    simp only at hj0
    subst hj0
    have hj : M.1 4 k = nI j := (hcs k _ hx0).1
    have hy : M.2.1 0 k = y := (hcs k _ hx0).2
    have hdr := zdrop hx0
    refine zj_aload_n 8 rfl rfl rfl ?_
    refine zj_get 9 rfl rfl mw_0 rfl ?_
    refine zj_iload_n 10 rfl rfl rfl ?_
    refine zn_iald 11 (k) rfl rfl mw_5 rfl (by omega) (by decide) ?_
    refine zj_istore_n 12 rfl rfl ?_
    refine zj_iload_n 13 rfl rfl rfl ?_
    refine zj_bipush 14 (7) rfl rfl (by decide) ?_
    refine zn_icmp_ge 15 (j) (7) rfl rfl hj rfl (by omega) (by omega) (fun c22 => ?_) (fun c22 => ?_)
    · refine zj_iload_n 34 rfl rfl rfl ?_
      refine zj_bipush 35 (20) rfl rfl (by decide) ?_
      refine zn_icmp_lt 36 (j) (20) rfl rfl hj rfl (by omega) (by omega) (fun c61 => ?_) (fun c61 => ?_)
      · obtain ⟨y1, x, st', rfl⟩ : ∃ y1 x st', st = y1 :: x :: st' := by
          rw [hdr, evC_b c22 c61] at hev
          match st, hev with
          | [], hev => cases hev
          | [_], hev => cases hev
          | y1 :: x :: st', _ => exact ⟨y1, x, st', rfl⟩
        have htop : (M.sB 2 f).2.1 2 (st'.length + 1) = y1 := mStk_top hs
        have htop2 : (M.sB 2 f).2.1 2 st'.length = x := mStk_top (mStk_tail hs)
        have hsl' : st'.length + 1 + 1 ≤ k := hsl
        rw [List.length_cons, List.length_cons]
        refine zj_iinc 67 (-1) rfl rfl rfl (by decide) ?_
        rw [pk_m1]
        refine zj_aload_n 68 rfl rfl rfl ?_
        refine zj_get 69 rfl rfl mw_0 rfl ?_
        refine zj_iload_n 70 rfl rfl rfl ?_
        refine zj_iconst 71 (1) rfl rfl (by decide) ?_
        refine zn_isub 72 (st'.length + 1) (1) rfl rfl rfl rfl (by omega) ?_
        refine zj_iload_n 73 rfl rfl rfl ?_
        refine zj_aload_n 74 rfl rfl rfl ?_
        refine zj_get 75 rfl rfl mw_0 rfl ?_
        refine zj_iload_n 76 rfl rfl rfl ?_
        refine zj_iconst 77 (1) rfl rfl (by decide) ?_
        refine zn_isub 78 (st'.length + 1) (1) rfl rfl rfl rfl (by omega) ?_
        refine zn_lald 79 ((st'.length + 1) - (1)) rfl rfl mw_10 rfl (by omega) (by decide) ?_
        refine zj_aload_n 80 rfl rfl rfl ?_
        refine zj_get 81 rfl rfl mw_0 rfl ?_
        refine zj_iload_n 82 rfl rfl rfl ?_
        refine zn_lald 83 (st'.length + 1) rfl rfl mw_10 rfl (by omega) (by decide) ?_
        rw [htop, show st'.length + 1 - 1 = st'.length from rfl, htop2, show (M.sB 2 f).1 4 k = nI j from hj]
        refine zj_csx 84 rfl rfl lk_8_157 ckM_worked (k_worked j (by omega) (by omega) _ _) rfl rfl rfl rfl ?_
        refine zn_last 85 ((st'.length + 1) - (1)) rfl rfl mw_10 rfl (by omega) (by decide) mw_u10 ?_
        refine zn_iinc 86 (k) rfl rfl rfl rfl ?_
        refine zj_goto 87 rfl rfl ?_
        rw [sB_sB]
        have he := hev
        rw [hdr, evC_b c22 c61] at he
        simp only at he
        exact ih (m - 1) (by omega) (k + 1) _ _ _ (by omega) (by simp at hsl ⊢; omega) (mStkB (mStk_tail (mStk_tail hs)) _) he n
      · obtain ⟨x, st', rfl⟩ : ∃ x st', st = x :: st' := by
          cases st with
          | nil => rw [hdr, evC_n c61 (by omega)] at hev; cases hev
          | cons x st' => exact ⟨x, st', rfl⟩
        have htop : (M.sB 2 f).2.1 2 st'.length = x := mStk_top hs
        have hsl' : st'.length + 1 ≤ k := hsl
        rw [List.length_cons]
        refine zj_aload_n 37 rfl rfl rfl ?_
        refine zj_get 38 rfl rfl mw_0 rfl ?_
        refine zj_iload_n 39 rfl rfl rfl ?_
        refine zj_iconst 40 (1) rfl rfl (by decide) ?_
        refine zn_isub 41 (st'.length + 1) (1) rfl rfl rfl rfl (by omega) ?_
        refine zj_iload_n 42 rfl rfl rfl ?_
        refine zj_bipush 43 (21) rfl rfl (by decide) ?_
        refine zn_icmp_ne 44 (j) (21) rfl rfl hj rfl (by omega) (by omega) (fun c74 => ?_) (fun c74 => ?_)
        · refine zj_aload_n 53 rfl rfl rfl ?_
          refine zj_get 54 rfl rfl mw_0 rfl ?_
          refine zj_iload_n 55 rfl rfl rfl ?_
          refine zj_iconst 56 (1) rfl rfl (by decide) ?_
          refine zn_isub 57 (st'.length + 1) (1) rfl rfl rfl rfl (by omega) ?_
          refine zn_lald 58 ((st'.length + 1) - (1)) rfl rfl mw_10 rfl (by omega) (by decide) ?_
          rw [show st'.length + 1 - 1 = st'.length from rfl, htop]
          refine zj_lconst 59 (0) rfl rfl (by decide) ?_
          refine zj_lcmp 60 rfl rfl ?_
          refine zj_if_ne 61 rfl rfl (fun c99 => ?_) (fun c99 => ?_)
          · refine zj_lconst 64 (0) rfl rfl (by decide) ?_
            refine zn_last 65 ((st'.length + 1) - (1)) rfl rfl mw_10 rfl (by omega) (by decide) mw_u10 ?_
            refine zj_goto 66 rfl rfl ?_
            refine zn_iinc 86 (k) rfl rfl rfl rfl ?_
            refine zj_goto 87 rfl rfl ?_
            rw [sB_sB]
            have he := hev
            rw [hdr, evC_n c61 (by omega)] at he
            simp only at he
            rw [if_neg (show ¬ nI j = 21 from fun e => c74 ((nI_eq (by omega) (by decide)).mp (show nI j = nI 21 from e))), if_neg (fun e => c99 ((lg_cmp_eq _ _).mpr e))] at he
            exact ih (m - 1) (by omega) (k + 1) _ _ _ (by omega) (by simp at hsl ⊢; omega) (mStkB (mStk_tail hs) _) he n
          · refine zj_lconst 62 (1) rfl rfl (by decide) ?_
            refine zj_goto 63 rfl rfl ?_
            refine zn_last 65 ((st'.length + 1) - (1)) rfl rfl mw_10 rfl (by omega) (by decide) mw_u10 ?_
            refine zj_goto 66 rfl rfl ?_
            refine zn_iinc 86 (k) rfl rfl rfl rfl ?_
            refine zj_goto 87 rfl rfl ?_
            rw [sB_sB]
            have he := hev
            rw [hdr, evC_n c61 (by omega)] at he
            simp only at he
            rw [if_neg (show ¬ nI j = 21 from fun e => c74 ((nI_eq (by omega) (by decide)).mp (show nI j = nI 21 from e))), if_pos ((lg_cmp_eq _ _).mp (Decidable.of_not_not (by simpa using c99)))] at he
            exact ih (m - 1) (by omega) (k + 1) _ _ _ (by omega) (by simp at hsl ⊢; omega) (mStkB (mStk_tail hs) _) he n
        · refine zj_aload_n 45 rfl rfl rfl ?_
          refine zj_get 46 rfl rfl mw_0 rfl ?_
          refine zj_iload_n 47 rfl rfl rfl ?_
          refine zj_iconst 48 (1) rfl rfl (by decide) ?_
          refine zn_isub 49 (st'.length + 1) (1) rfl rfl rfl rfl (by omega) ?_
          refine zn_lald 50 ((st'.length + 1) - (1)) rfl rfl mw_10 rfl (by omega) (by decide) ?_
          rw [show st'.length + 1 - 1 = st'.length from rfl, htop]
          refine zj_lneg 51 rfl rfl ?_
          refine zj_goto 52 rfl rfl ?_
          refine zn_last 65 ((st'.length + 1) - (1)) rfl rfl mw_10 rfl (by omega) (by decide) mw_u10 ?_
          refine zj_goto 66 rfl rfl ?_
          refine zn_iinc 86 (k) rfl rfl rfl rfl ?_
          refine zj_goto 87 rfl rfl ?_
          rw [sB_sB]
          have he := hev
          rw [hdr, evC_n c61 (by omega)] at he
          simp only at he
          rw [if_pos (show nI j = 21 by rw [c74]; rfl)] at he
          exact ih (m - 1) (by omega) (k + 1) _ _ _ (by omega) (by simp at hsl ⊢; omega) (mStkB (mStk_tail hs) _) he n
    · refine zj_aload_n 16 rfl rfl rfl ?_
      refine zj_get 17 rfl rfl mw_0 rfl ?_
      refine zj_iload_n 18 rfl rfl rfl ?_
      refine zj_iload_n 19 rfl rfl rfl ?_
      refine zj_bipush 20 (6) rfl rfl (by decide) ?_
      refine zn_icmp_ge 21 (j) (6) rfl rfl hj rfl (by omega) (by omega) (fun c33 => ?_) (fun c33 => ?_)
      · refine zj_aload_n 27 rfl rfl rfl ?_
        refine zj_get 28 rfl rfl mw_0 rfl ?_
        refine zj_iload_n 29 rfl rfl rfl ?_
        refine zn_lald 30 (k) rfl rfl mw_6 rfl (by omega) (by decide) ?_
        rw [show (M.sB 2 f).2.1 0 k = y from hy]
        refine zn_last 31 (st.length) rfl rfl mw_10 rfl (by omega) (by decide) mw_u10 ?_
        refine zn_iinc 32 (st.length) rfl rfl rfl rfl ?_
        refine zj_goto 33 rfl rfl ?_
        refine zn_iinc 86 (k) rfl rfl rfl rfl ?_
        refine zj_goto 87 rfl rfl ?_
        rw [sB_sB]
        have he := hev
        rw [hdr, evC_u2 (by omega)] at he
        exact ih (m - 1) (by omega) (k + 1) _ _ _ (by omega) (by simp; omega) (mStkB hs _) he n
      · refine zj_aload_n 22 rfl rfl rfl ?_
        refine zj_get 23 rfl rfl mw_0 rfl ?_
        refine zj_iload_n 24 rfl rfl rfl ?_
        refine zn_lald 25 (j) rfl rfl mw_9 hj (by omega) (by decide) ?_
        refine zj_goto 26 rfl rfl ?_
        refine zn_last 31 (st.length) rfl rfl mw_10 rfl (by omega) (by decide) mw_u10 ?_
        refine zn_iinc 32 (st.length) rfl rfl rfl rfl ?_
        refine zj_goto 33 rfl rfl ?_
        refine zn_iinc 86 (k) rfl rfl rfl rfl ?_
        refine zj_goto 87 rfl rfl ?_
        rw [sB_sB]
        have he := hev
        rw [hdr, evC_u1 c33] at he
        exact ih (m - 1) (by omega) (k + 1) _ _ _ (by omega) (by simp; omega) (mStkB hs _) he n
theorem k_tells (cs : List (Int32 × Int64)) (hlen : cs.length ≤ 40) (hcm : M.2.2.1 0 = nI cs.length) (hcs : ∀ i x, cs[i]? = some x → M.1 4 i = x.1 ∧ M.2.1 0 i = x.2) (hq : ∀ x ∈ cs, qCode x.1) (v : Int64) (hev : evC (M.2.1 1) cs [] = some [v]) : zX E YM_tells 2 [.ref a] (mw σ a M) (some (.int (zo (v ≠ 0)))) (fun s => ∃ f, s = mw σ a (M.sB 2 f)) := by
  refine zX.of oM_tells (by decide +kernel) rfl rfl (fun n => ?_)
  refine zj_iconst 0 (0) rfl rfl (by decide) ?_
  refine zj_istore_n 1 rfl rfl ?_
  refine zj_iconst 2 (0) rfl rfl (by decide) ?_
  refine zj_istore_n 3 rfl rfl ?_
  rw [show mw σ a M = mw σ a (M.sB 2 (M.2.1 2)) by rw [sB_id]]
  exact l_tells cs hlen hcm hcs hq v cs.length 0 [] _ _ (by omega) (by simp) (fun i x h => by simp at h) (by simpa using hev) n
end
end
section
/-! what a reader without a fault has laid can be worked -/
def hS (c : Int32) (h : Nat) : Option Nat := if c < 7 then some (h + 1) else if 20 ≤ c then (if 1 ≤ h then some h else none) else (if 2 ≤ h then some (h - 1) else none)
def hC : List (Int32 × Int64) → Nat → Option Nat
  | [], h => some h
  | x :: cs, h => (hS x.1 h).bind (hC cs)
theorem hC_app (x : Int32 × Int64) : ∀ (cs : List (Int32 × Int64)) (h : Nat), hC (cs ++ [x]) h = (hC cs h).bind (hS x.1)
  | [], h => by simp [hC]
  | y :: cs, h => by
    simp only [List.cons_append, hC]
    cases hS y.1 h with
    | none => rfl
    | some h1 => exact hC_app x cs h1
theorem evC_of (lt : Nat → Int64) : ∀ (cs : List (Int32 × Int64)) (st : List Int64) (h : Nat), hC cs st.length = some h → ∃ st', evC lt cs st = some st' ∧ st'.length = h
  | [], st, h, e => ⟨st, rfl, Option.some.inj e⟩
  | (c, v) :: cs, st, h, e => by
    simp only [hC, hS] at e
    simp only [evC]
    by_cases h1 : c < 7
    · rw [if_pos h1] at e ⊢
      exact evC_of lt cs _ h (by simpa using e)
    · rw [if_neg h1] at e ⊢
      by_cases h2 : 20 ≤ c
      · rw [if_pos h2] at e ⊢
        match st, e with
        | [], e => simp at e
        | x :: st', e =>
          simp only [List.length_cons] at e
          rw [if_pos (by omega)] at e
          exact evC_of lt cs _ h (by simpa using e)
      · rw [if_neg h2] at e ⊢
        match st, e with
        | [], e => simp at e
        | [_], e => simp at e
        | y :: x :: st', e =>
          simp only [List.length_cons] at e
          rw [if_pos (by omega)] at e
          exact evC_of lt cs _ h (by simpa using e)
def nB (ws : List Int32) : Nat := ws.countP (fun w => decide (w < 20))
def qWt (w : Int32) : Prop := ∃ j : Nat, w = nI j ∧ 11 ≤ j ∧ j ≤ 21
def qWf (S : zS) : Prop := hC S.1 0 = some (nB S.2.1 + (if S.2.2.2.2.1 then 1 else 0)) ∧ (∀ x ∈ S.1, qCode x.1) ∧ ∀ w ∈ S.2.1, w = 30 ∨ qWt w
theorem nI_lt_iff {j : Nat} (k : Nat) (hj : j < 2 ^ 31) (hk : k < 2 ^ 31) : nI j < nI k ↔ j < k := nI_ltI hj hk
theorem hS_w {w : Int32} (h : qWt w) (n : Nat) : hS w (nB [w] + n + 1) = some (n + 1) := by
  obtain ⟨j, rfl, h1, h2⟩ := h
  have a1 : ¬ nI j < 7 := fun e => absurd ((nI_lt_iff 7 (by omega) (by decide)).mp e) (by omega)
  unfold hS nB
  rw [if_neg a1]
  by_cases h3 : j < 20
  · have a2 : nI j < 20 := (nI_lt_iff 20 (by omega) (by decide)).mpr h3
    rw [if_neg (Int32.not_le.mpr a2)]
    simp [a2]
    omega
  · have a2 : ¬ nI j < 20 := fun e => h3 ((nI_lt_iff 20 (by omega) (by decide)).mp e)
    rw [if_pos (Int32.not_lt.mp a2)]
    simp [a2]
theorem nB_cons (w : Int32) (ws : List Int32) : nB (w :: ws) = nB [w] + nB ws := by
  unfold nB
  simp only [List.countP_cons, List.countP_nil]
  omega
theorem qWt_code {w : Int32} (h : qWt w) : qCode w := by
  obtain ⟨j, e, h1, h2⟩ := h
  exact ⟨j, e, Or.inr ⟨h1, h2⟩⟩
theorem qLD_wf {l : Int32} (hl : 1 ≤ l) : ∀ (ws : List Int32) (cs : List (Int32 × Int64)), hC cs 0 = some (nB ws + 1) → (∀ x ∈ cs, qCode x.1) → (∀ w ∈ ws, w = 30 ∨ qWt w) → hC (qLD l ws cs).2 0 = some (nB (qLD l ws cs).1 + 1) ∧ (∀ x ∈ (qLD l ws cs).2, qCode x.1)
  | [], cs, h1, h2, h3 => ⟨h1, h2⟩
  | w :: ws, cs, h1, h2, h3 => by
    simp only [qLD]
    split
    · rename_i h
      have hw : qWt w := by
        rcases h3 w List.mem_cons_self with e | e
        · subst e; exact absurd h (pFirm30 hl)
        · exact e
      refine qLD_wf hl ws (cs ++ [(w, 0)]) ?_ ?_ (fun x hx => h3 x (List.mem_cons_of_mem _ hx))
      · rw [hC_app, h1, nB_cons]
        exact hS_w hw _
      · intro x hx
        rcases List.mem_append.mp hx with e | e
        · exact h2 x e
        · simp at e; subst e; exact qWt_code hw
    · exact ⟨h1, h2⟩
theorem qLD_all {l : Int32} : ∀ (ws : List Int32) (cs : List (Int32 × Int64)), (∀ w ∈ ws, l ≤ pFirm w) → (qLD l ws cs).1 = []
  | [], cs, h => rfl
  | w :: ws, cs, h => by
    simp only [qLD]
    rw [if_pos (h w List.mem_cons_self)]
    exact qLD_all ws _ (fun x hx => h x (List.mem_cons_of_mem _ hx))
theorem hC_num (c : Int32) (cs : List (Int32 × Int64)) (h : Nat) : hC (qNum c cs) h = hC cs h := by
  rcases List.eq_nil_or_concat cs with e | ⟨l, y, e⟩
  · subst e; rfl
  · subst e; rw [List.concat_eq_append, qNum_c, hC_app, hC_app]
theorem hS_u {j : Nat} (h : j ≤ 6) (n : Nat) : hS (nI j) n = some (n + 1) := by
  unfold hS
  rw [if_pos (show nI j < 7 from (nI_lt_iff 7 (by omega) (by decide)).mpr (by omega))]
theorem qLet_code {c : Int32} (h : qLet c ≠ -1) : ∃ j : Nat, qLet c = nI j ∧ j ≤ 6 := by
  have key : qLet c = 0 ∨ qLet c = 1 ∨ qLet c = 2 ∨ qLet c = 3 ∨ qLet c = 4 ∨ qLet c = 5 ∨ qLet c = -1 := by
    unfold qLet
    iterate 6 (split; · simp)
    simp
  rcases key with e | e | e | e | e | e | e
  · exact ⟨0, e, by omega⟩
  · exact ⟨1, e, by omega⟩
  · exact ⟨2, e, by omega⟩
  · exact ⟨3, e, by omega⟩
  · exact ⟨4, e, by omega⟩
  · exact ⟨5, e, by omega⟩
  · exact absurd e h
theorem qJoint_wt {c : Int32} (h : ¬ qJoint c = -1) : qWt (qJoint c) ∧ qJoint c < 20 := by
  have key : qJoint c = 11 ∨ qJoint c = 12 ∨ qJoint c = 13 ∨ qJoint c = 14 ∨ qJoint c = 15 ∨ qJoint c = 16 ∨ qJoint c = 17 ∨ qJoint c = 18 ∨ qJoint c = 19 ∨ qJoint c = -1 := by
    unfold qJoint
    iterate 9 (split; · simp)
    simp
  rcases key with e | e | e | e | e | e | e | e | e | e
  · exact ⟨⟨11, e, by omega, by omega⟩, by rw [e]; decide⟩
  · exact ⟨⟨12, e, by omega, by omega⟩, by rw [e]; decide⟩
  · exact ⟨⟨13, e, by omega, by omega⟩, by rw [e]; decide⟩
  · exact ⟨⟨14, e, by omega, by omega⟩, by rw [e]; decide⟩
  · exact ⟨⟨15, e, by omega, by omega⟩, by rw [e]; decide⟩
  · exact ⟨⟨16, e, by omega, by omega⟩, by rw [e]; decide⟩
  · exact ⟨⟨17, e, by omega, by omega⟩, by rw [e]; decide⟩
  · exact ⟨⟨18, e, by omega, by omega⟩, by rw [e]; decide⟩
  · exact ⟨⟨19, e, by omega, by omega⟩, by rw [e]; decide⟩
  · exact absurd e h
theorem qWf_unit {S : zS} {k : Nat} {c : Int32} (h : qWf S) (hb : S.2.2.2.2.1 = false) : qWf (qUnit c k S).2 := by
  obtain ⟨h1, h2, h3⟩ := h
  rw [hb] at h1
  have h1' : hC S.1 0 = some (nB S.2.1) := h1
  unfold qUnit
  by_cases c1 : qDig c
  · rw [if_pos c1]
    refine ⟨?_, fun x hx => ?_, h3⟩
    · show hC (S.1 ++ [_]) 0 = some (nB S.2.1 + 1)
      rw [hC_app, h1']
      exact hS_u (j := 6) (by omega) _
    · rcases List.mem_append.mp hx with e | e
      · exact h2 x e
      · simp at e; subst e; exact ⟨6, rfl, Or.inl (by omega)⟩
  · rw [if_neg c1]
    by_cases c2 : qLet c ≠ -1
    · rw [if_pos c2]
      obtain ⟨j, ej, hj⟩ := qLet_code c2
      refine ⟨?_, fun x hx => ?_, h3⟩
      · show hC (S.1 ++ [_]) 0 = some (nB S.2.1 + 1)
        rw [hC_app, h1', ej]
        exact hS_u hj _
      · rcases List.mem_append.mp hx with e | e
        · exact h2 x e
        · simp at e; subst e; exact ⟨j, ej, Or.inl hj⟩
    · rw [if_neg c2]
      by_cases c3 : c = 33 ∨ c = 45
      · rw [if_pos c3]
        have hc : (if c = 33 then (20 : Int32) else 21) = 20 ∨ (if c = 33 then (20 : Int32) else 21) = 21 := by split <;> simp
        refine ⟨?_, h2, fun w hw => ?_⟩
        · show hC S.1 0 = some (nB (_ :: S.2.1) + _)
          rw [h1', nB_cons]
          have : nB [if c = 33 then (20 : Int32) else 21] = 0 := by rcases hc with e | e <;> rw [e] <;> decide
          rw [this]
          show _ = some (0 + nB S.2.1 + (if S.2.2.2.2.1 then 1 else 0))
          rw [hb]; simp
        · rcases List.mem_cons.mp hw with e | e
          · right; rw [e]; rcases hc with e2 | e2 <;> rw [e2]
            · exact ⟨20, rfl, by omega, by omega⟩
            · exact ⟨21, rfl, by omega, by omega⟩
          · exact h3 w e
      · rw [if_neg c3]
        by_cases c4 : c ≠ 40
        · rw [if_pos c4]; exact ⟨by rw [hb]; exact h1, h2, h3⟩
        · rw [if_neg c4]
          by_cases c5 : S.2.2.1 = 8
          · rw [if_pos c5]; exact ⟨by rw [hb]; exact h1, h2, h3⟩
          · rw [if_neg c5]
            refine ⟨?_, h2, fun w hw => ?_⟩
            · show hC S.1 0 = some (nB (30 :: S.2.1) + (if S.2.2.2.2.1 then 1 else 0))
              rw [h1', nB_cons, hb, show nB [30] = 0 by decide]; simp
            · rcases List.mem_cons.mp hw with e | e
              · exact Or.inl e
              · exact h3 w e
theorem qWf_behind {S : zS} {k : Nat} {c : Int32} (h : qWf S) (hi : qInv S k) (hb : S.2.2.2.2.1 = true) : qWf (qBehind c k S).2 := by
  have h0 := h
  obtain ⟨h1, h2, h3⟩ := h
  rw [hb] at h1
  have h1' : hC S.1 0 = some (nB S.2.1 + 1) := h1
  by_cases c1 : c = 41 ∧ 0 < S.2.2.1
  · rw [qBehind_c c1.1 c1.2]
    obtain ⟨g1, g2⟩ := qLD_wf (l := 1) (by decide) S.2.1 S.1 h1' h2 h3
    have hne := qInv_ne hi c1.2
    cases hS : (qLDS 1 S).2.1 with
    | nil => exact absurd hS hne
    | cons t r =>
      have hS' : (qLD 1 S.2.1 S.1).1 = t :: r := hS
      have ht : t = 30 := by
        rcases hi.2.2.2.1 t (qLD_sub 1 S.2.1 S.1 t (by rw [hS']; exact List.mem_cons_self)) with e | e
        · exact e
        · exact absurd e (qLD_top 1 S.2.1 S.1 t r hS')
      subst ht
      rw [hS', nB_cons, show nB [30] = 0 by decide, Nat.zero_add] at g1
      exact ⟨by show hC (qLD 1 S.2.1 S.1).2 0 = some (nB r + (if S.2.2.2.2.1 then 1 else 0)); rw [hb]; exact g1, g2, fun w hw => h3 w (qLD_sub 1 S.2.1 S.1 w (by rw [hS']; exact List.mem_cons_of_mem _ hw))⟩
  · by_cases c2 : qJoint c = -1 ∨ (pFirm (qJoint c) = 3 ∧ S.2.2.2.1 S.2.2.1 = true)
    · rw [qBehind_f c1 c2]; exact h0
    · rw [qBehind_j c1 c2]
      obtain ⟨f1, f2⟩ := qJoint_firm (fun e => c2 (Or.inl e))
      obtain ⟨w1, w2⟩ := qJoint_wt (fun e => c2 (Or.inl e))
      obtain ⟨g1, g2⟩ := qLD_wf f1 S.2.1 S.1 h1' h2 h3
      refine ⟨?_, g2, fun w hw => ?_⟩
      · show hC (qLD (pFirm (qJoint c)) S.2.1 S.1).2 0 = some (nB (qJoint c :: (qLD (pFirm (qJoint c)) S.2.1 S.1).1) + (if false then 1 else 0))
        rw [g1, nB_cons]
        have : nB [qJoint c] = 1 := by unfold nB; simp [w2]
        rw [this]; simp; omega
      · rcases List.mem_cons.mp hw with e | e
        · right; rw [e]; exact w1
        · exact h3 w (qLD_sub _ S.2.1 S.1 w e)
theorem qWf_sign {S : zS} {k : Nat} {c : Int32} (h : qWf S) (hi : qInv S k) : qWf (qSign c k S).2 := by
  by_cases c1 : 0 < S.2.2.2.2.2.1 ∧ qDig c
  · unfold qSign
    rw [if_pos c1]
    by_cases c2 : S.2.2.2.2.2.1 = 6
    · rw [if_pos c2]; exact h
    · rw [if_neg c2]
      obtain ⟨h1, h2, h3⟩ := h
      refine ⟨by show hC (qNum c S.1) 0 = _; rw [hC_num]; exact h1, fun x hx => ?_, h3⟩
      rcases List.eq_nil_or_concat S.1 with e | ⟨l, y, e⟩
      · exact absurd e (hi.2.2.2.2.1 c1.1).1
      · rw [List.concat_eq_append] at e
        have hx' : x ∈ qNum c S.1 := hx
        rw [e, qNum_c] at hx'
        rcases List.mem_append.mp hx' with e2 | e2
        · exact h2 x (by rw [e]; exact List.mem_append_left _ e2)
        · simp at e2; subst e2
          exact h2 y (by rw [e]; simp)
  · have hs : qWf (qS0 S) := h
    by_cases c2 : c = 32
    · rw [qSign_s c1 c2]; exact hs
    · cases hb : S.2.2.2.2.1 with
      | true => rw [qSign_b c1 c2 hb]; exact qWf_behind hs (qInv_dg hi) hb
      | false => rw [qSign_u c1 c2 hb]; exact qWf_unit hs hb
theorem qWf_run (t : Nat → Int32) : ∀ (m k : Nat) (S : zS), k + m ≤ 40 → qWf S → qInv S k → (qRun t m k S).1 = 0 → qWf (qRun t m k S).2 ∧ qInv (qRun t m k S).2 (k + m)
  | 0, k, S, _, h, hi, _ => ⟨h, hi⟩
  | m + 1, k, S, hk, h, hi, h0 => by
    simp only [qRun] at h0 ⊢
    by_cases c : (qSign (t k) k S).1 = 0
    · rw [if_pos c] at h0 ⊢
      have := qWf_run t m (k + 1) _ (by omega) (qWf_sign h hi) (qInv_sign hi (by omega) c) h0
      rw [show k + (m + 1) = k + 1 + m by omega]
      exact this
    · rw [if_neg c] at h0
      exact absurd h0 c
/-- a text without a fault: its codes are worked to one number -/
theorem qRead_ok (t : Nat → Int32) (many : Nat) (hm : many ≤ 40) (h : (qRead t many).1 = -1) : (qRead t many).2.1.length ≤ 40 ∧ (∀ x ∈ (qRead t many).2.1, qCode x.1) ∧ ∀ lt, ∃ v, evC lt (qRead t many).2.1 [] = some [v] := by
  have hz : ∀ k : Nat, ¬ nI (10 * many + 1) = -1 := fun _ e => by
    have := congrArg Int32.toInt e
    rw [nI_toInt (by omega)] at this
    have h2 : ((-1 : Int32)).toInt = -1 := rfl
    rw [h2] at this
    omega
  have hnz : ∀ S k c, k < 40 → qInv S k → ¬ (qSign c k S).1 = -1 := by
    intro S k c hk hi e
    have hn : ∀ x, x < 2 ^ 30 → ¬ nI x = -1 := fun x hx e => by
      have := congrArg Int32.toInt e
      rw [nI_toInt (by omega)] at this
      have h2 : ((-1 : Int32)).toInt = -1 := rfl
      rw [h2] at this
      omega
    by_cases c1 : 0 < S.2.2.2.2.2.1 ∧ qDig c
    · unfold qSign at e
      rw [if_pos c1] at e
      have := (hi.2.2.2.2.1 c1.1).2
      split at e
      · exact hn _ (by omega) e
      · exact absurd (show (0 : Int32) = -1 from e) (by decide)
    · by_cases c2 : c = 32
      · rw [qSign_s c1 c2] at e; exact absurd e (by simp)
      · cases hb : S.2.2.2.2.1 with
        | true =>
          rw [qSign_b c1 c2 hb] at e
          unfold qBehind at e
          split at e
          · exact absurd (show (0 : Int32) = -1 from e) (by decide)
          · split at e
            · exact hn _ (by omega) e
            · exact absurd (show (0 : Int32) = -1 from e) (by decide)
        | false =>
          rw [qSign_u c1 c2 hb] at e
          unfold qUnit at e
          split at e
          · exact absurd (show (0 : Int32) = -1 from e) (by decide)
          · split at e
            · exact absurd (show (0 : Int32) = -1 from e) (by decide)
            · split at e
              · exact absurd (show (0 : Int32) = -1 from e) (by decide)
              · split at e
                · exact hn _ (by omega) e
                · split at e
                  · exact hn _ (by omega) e
                  · exact absurd (show (0 : Int32) = -1 from e) (by decide)
  have hrun : ∀ (m k : Nat) (S : zS), k + m ≤ 40 → qInv S k → ¬ (qRun t m k S).1 = -1 := by
    intro m
    induction m with
    | zero => intro k S _ _ e; exact absurd e (by simp [qRun])
    | succ m ih =>
      intro k S hk hi e
      simp only [qRun] at e
      by_cases c : (qSign (t k) k S).1 = 0
      · rw [if_pos c] at e
        exact ih (k + 1) _ (by omega) (qInv_sign hi (by omega) c) e
      · rw [if_neg c] at e
        exact hnz S k (t k) (by omega) hi e
  unfold qRead qEnd at h ⊢
  by_cases c : (qRun t many 0 qZ).1 = 0
  · rw [if_pos c] at h ⊢
    by_cases c2 : (qRun t many 0 qZ).2.2.2.2.2.1 = false ∨ 0 < (qRun t many 0 qZ).2.2.2.1
    · rw [if_pos c2] at h
      exact absurd h (hz 0)
    · rw [if_neg c2]
      obtain ⟨hw, hi⟩ := qWf_run t many 0 qZ (by omega) ⟨rfl, fun x hx => by simp at hx, fun w hw => by simp at hw⟩ qInv_Z c
      generalize (qRun t many 0 qZ).2 = S at hw hi c2
      have hb : S.2.2.2.2.1 = true := by
        cases e : S.2.2.2.2.1 with
        | true => rfl
        | false => exact absurd (Or.inl e) c2
      have hd : S.2.2.1 = 0 := by
        rcases Nat.eq_zero_or_pos S.2.2.1 with e | e
        · exact e
        · exact absurd (Or.inr e) c2
      obtain ⟨h1, h2, h3⟩ := hw
      rw [hb] at h1
      have hall : ∀ w ∈ S.2.1, (1 : Int32) ≤ pFirm w := by
        intro w hw
        rcases hi.2.2.2.1 w hw with e | e
        · subst e
          have hp : 0 < S.2.1.countP (fun w => w == 30) := List.countP_pos_iff.mpr ⟨30, hw, by decide⟩
          rw [hi.2.1, hd] at hp
          omega
        · exact e
      obtain ⟨g1, g2⟩ := qLD_wf (l := 1) (by decide) S.2.1 S.1 h1 h2 h3
      have he : (qLD 1 S.2.1 S.1).1 = [] := qLD_all S.2.1 S.1 hall
      rw [he] at g1
      have hl : (qLD 1 S.2.1 S.1).1.length + (qLD 1 S.2.1 S.1).2.length = S.2.1.length + S.1.length := qLD_len 1 S.2.1 S.1
      refine ⟨by show (qLD 1 S.2.1 S.1).2.length ≤ 40; have := hi.1; omega, g2, fun lt => ?_⟩
      obtain ⟨st', e1, e2⟩ := evC_of lt (qLD 1 S.2.1 S.1).2 [] 1 g1
      match st', e2 with
      | [v], _ => exact ⟨v, e1⟩
  · rw [if_neg c] at h
    exact absurd h (hrun many 0 qZ (by omega) qInv_Z)
section
variable {E : zE} {σ : zH} {a : Nat} {M : zMo}
end
end
section
/-! the reference: what is drawn -/
def qVal (cs : List (Int32 × Int64)) (lt : Nat → Int64) : Int64 := match evC lt cs [] with
  | some (v :: _) => v
  | _ => 0
theorem evC_cong {lt lt' : Nat → Int64} (h : ∀ j, j < 6 → lt j = lt' j) : ∀ (cs : List (Int32 × Int64)) (st : List Int64), evC lt cs st = evC lt' cs st
  | [], st => rfl
  | (c, v) :: cs, st => by
    simp only [evC]
    by_cases h1 : c < 7
    · rw [if_pos h1, if_pos h1]
      have e : (if c < 6 then lt c.toNatClampNeg else v) = (if c < 6 then lt' c.toNatClampNeg else v) := by
        by_cases h2 : c < 6
        · rw [if_pos h2, if_pos h2]
          refine h _ ?_
          show c.toInt.toNat < 6
          have := Int32.lt_iff_toInt_lt.mp h2
          have h6 : (6 : Int32).toInt = 6 := rfl
          omega
        · rw [if_neg h2, if_neg h2]
      rw [e]; exact evC_cong h cs _
    · rw [if_neg h1, if_neg h1]
      by_cases h2 : 20 ≤ c
      · rw [if_pos h2, if_pos h2]
        match st with
        | [] => rfl
        | x :: st' => exact evC_cong h cs _
      · rw [if_neg h2, if_neg h2]
        match st with
        | [] => rfl
        | [_] => rfl
        | y :: x :: st' => exact evC_cong h cs _
def zap (x y : Nat) : Nat := if x < y then y - x else x - y
def zfar (p q : Nat) : Nat := if zap (p % 9) (q % 9) < zap (p / 9) (q / 9) then zap (p / 9) (q / 9) else zap (p % 9) (q % 9)
def zmid (p q : Nat) : Nat := 9 * ((p / 9 + q / 9) / 2) + (p % 9 + q % 9) / 2
/-- what the letters are, for a line from p to q; 'see' is what is seen at a cell -/
def mLt (see : Nat → Int32) (g p q : Nat) (kb : Int32) : Nat → Int64 := fun i => match i with
  | 0 => (see p).toInt64
  | 1 => (see q).toInt64
  | 2 => (nI (zfar p q)).toInt64
  | 3 => (see (zmid p q)).toInt64
  | 4 => kb.toInt64
  | 5 => (nI g).toInt64
  | _ => 0
def pA (n : Nat) : Nat := if n < 7 then 0 else if n < 13 then 1 else if n < 18 then 2 else if n < 22 then 3 else if n < 25 then 4 else if n < 27 then 5 else 6
def pNo (a b : Nat) : Nat := 7 * a - a * (a - 1) / 2 + (b - a - 1)
def pBb (n : Nat) : Nat := n - (7 * pA n - pA n * (pA n - 1) / 2) + pA n + 1
theorem pNo_ok : ∀ a, a < 8 → ∀ b, b < 8 → a < b → pNo a b < 28 ∧ pA (pNo a b) = a ∧ pBb (pNo a b) = b ∧ pNo a (b + 1) = pNo a b + 1 := by decide +kernel
theorem pNo_next : ∀ a, a < 7 → pNo a 8 = pNo (a + 1) (a + 2) := by decide +kernel
theorem pNo_end : pNo 7 8 = 28 := by decide +kernel
def pDr (tr : Nat → Bool) : Nat → Int32
  | 0 => 0
  | n + 1 => pDr tr n ||| (if tr n then 1 <<< (nI n &&& 31) else 0)
def mTr (cs : List (Int32 × Int64)) (see : Nat → Int32) (g : Nat) (shown : Int32) (mk : Nat → Nat) (n : Nat) : Bool := decide (qVal cs (mLt see g (mk (pA n)) (mk (pBb n)) ((shown >>> (nI n &&& 31)) &&& 1)) ≠ 0)
theorem mw_u9b {σ : zH} {a : Nat} {X : zMo} {f f' : Nat → Int64} : zup (mw σ a (X.sB 1 f)) (a + 9) (.inl (1, 6, .inr (.inl f'))) = mw σ a (X.sB 1 f') := by
  rw [mw_u9, sB_sB]
theorem sB_comm (M : zMo) (f g h : Nat → Int64) : ((M.sB 2 g).sB 1 f).sB 2 h = (M.sB 2 h).sB 1 f := by
  unfold zMo.sB
  congr 2
  funext j
  unfold va_up
  by_cases h1 : j = 1 <;> by_cases h2 : j = 2 <;> simp_all
section
variable {E : zE} {σ : zH} {a : Nat} {M : zMo}
theorem k_apart (x y : Nat) (hx : x < 1000) (hy : y < 1000) : zM E YM_apart 1 [.int (nI x), .int (nI y)] (σ) (some (.int (nI (zap x y)))) (σ) := by
  refine zM.of oM_apart (by decide +kernel) rfl rfl (fun n => ?_)
  refine zj_iload_n 0 rfl rfl rfl ?_
  refine zj_iload_n 1 rfl rfl rfl ?_
  refine zn_icmp_ge 2 (x) (y) rfl rfl rfl rfl (by omega) (by omega) (fun c2 => ?_) (fun c2 => ?_)
  · refine zj_iload_n 7 rfl rfl rfl ?_
    refine zj_iload_n 8 rfl rfl rfl ?_
    refine zn_isub 9 (x) (y) rfl rfl rfl rfl (by omega) ?_
    refine zj_ireturn 10 rfl rfl rfl ?_
    exact ⟨zrt (by unfold zap; rw [if_neg (by omega)]), rfl, rfl⟩
  · refine zj_iload_n 3 rfl rfl rfl ?_
    refine zj_iload_n 4 rfl rfl rfl ?_
    refine zn_isub 5 (y) (x) rfl rfl rfl rfl (by omega) ?_
    refine zj_goto 6 rfl rfl ?_
    refine zj_ireturn 10 rfl rfl rfl ?_
    exact ⟨zrt (by unfold zap; rw [if_pos c2]), rfl, rfl⟩
theorem Met_mono {Y : zY} {R : Room} {mc ms : Nat} {av : List Value} {n : Nat} {s : zH} {P Q : Option Value → Nat → zH → Prop} (h : zMet E Y R mc ms av n s P) (hPQ : ∀ r n' s', P r n' s' → Q r n' s') : zMet E Y R mc ms av n s Q := by
  intro p e ha hc hk s0 m args below hf happ hP hT
  obtain ⟨k, o, h1, h2, h3, ⟨h4, h5⟩⟩ := h p e ha hc hk s0 m args below hf happ hP hT
  obtain ⟨r, n', s', e1, e2, e3⟩ := h4
  exact ⟨k, o, h1, h2, h3, ⟨r, n', s', e1, hPQ _ _ _ e2, e3⟩, h5⟩
theorem k_seenB (f g2 : Nat → Int64) (g air c : Nat) (hg : g < 4) (ha : air < 5) (hc : c < 81) : zM E YM_seenAt 3 [.ref a, .int (nI g), .int (nI air), .int (nI c)] (mw σ a ((M.sB 2 g2).sB 1 f)) (some (.int (mSeen (M.1 3) g air c))) (mw σ a ((M.sB 2 g2).sB 1 f)) := k_seenAt g air c hg ha hc
theorem k_tellsB (f g2 : Nat → Int64) (cs : List (Int32 × Int64)) (hlen : cs.length ≤ 40) (hcm : M.2.2.1 0 = nI cs.length) (hcs : ∀ i x, cs[i]? = some x → M.1 4 i = x.1 ∧ M.2.1 0 i = x.2) (hq : ∀ x ∈ cs, qCode x.1) (hev : ∀ lt, ∃ v, evC lt cs [] = some [v]) (lt : Nat → Int64) (hlt : ∀ j, j < 6 → f j = lt j) : zX E YM_tells 2 [.ref a] (mw σ a ((M.sB 2 g2).sB 1 f)) (some (.int (zo (qVal cs lt ≠ 0)))) (fun s => ∃ h, s = mw σ a ((M.sB 2 h).sB 1 f)) := by
  obtain ⟨v, hv⟩ := hev f
  have e : qVal cs lt = v := by unfold qVal; rw [← evC_cong hlt cs [], hv]
  rw [e]
  have h := k_tells (E := E) (σ := σ) (a := a) (M := (M.sB 2 g2).sB 1 f) cs hlen hcm hcs hq v hv
  intro n
  refine Met_mono (h n) ?_
  rintro r n' s ⟨e1, e2, h', e3⟩
  exact ⟨e1, e2, h', by rw [e3, sB_comm]⟩
end
end
section
/-! the reference: drawnOf -/
section
variable {E : zE} {σ : zH} {a : Nat} {M : zMo}
theorem zap_le (x y : Nat) : zap x y ≤ x + y := by unfold zap; split <;> omega
theorem l_drawnOf (cs : List (Int32 × Int64)) (l g air : Nat) (shown : Int32) (mk : Nat → Nat) (hg : g < 4) (ha : air < 5) (hmk : ∀ m, m < 8 → M.1 0 (360 + m) = nI (mk m) ∧ mk m < 81) (hlen : cs.length ≤ 40) (hcm : M.2.2.1 0 = nI cs.length) (hcs : ∀ i x, cs[i]? = some x → M.1 4 i = x.1 ∧ M.2.1 0 i = x.2) (hq : ∀ x ∈ cs, qCode x.1) (hev : ∀ lt, ∃ v, evC lt cs [] = some [v]) : ∀ (m : Nat) (x y : Nat) (f g2 : Nat → Int64) (o9 o10 o11 o12 : Option Value), ((7 - x) * 9 + (8 - y) ≤ m) → (x < 8) → (x < y) → (y ≤ 8) → ∀ n, zXB E YM_drawnOf 7 n (some (.int (pDr (mTr cs (mSeen (M.1 3) g air) g shown mk) 28))) (fun s => ∃ f g2, s = mw σ a ((M.sB 2 g2).sB 1 f)) (mw σ a ((M.sB 2 g2).sB 1 f)) 33 [some (.ref a), some (.int (nI l)), some (.int (nI g)), some (.int (nI air)), some (.int shown), some (.int (pDr (mTr cs (mSeen (M.1 3) g air) g shown mk) (pNo x y))), some (.int (nI (pNo x y))), some (.int (nI x)), some (.int (nI y)), o9, o10, o11, o12] [] := by
  intro m
  induction m using Nat.strongRecOn with
  | ind m ih =>
  intro x y f g2 o9 o10 o11 o12 hm hx hxy hy n
  have hz1 := zap_le (mk x / 9) (mk y / 9)
  have hz2 := zap_le (mk x % 9) (mk y % 9)
  refine zj_iload 20 rfl rfl rfl ?_
  refine zj_bipush 21 (8) rfl rfl (by decide) ?_
  refine zn_icmp_ge 22 (y) (8) rfl rfl rfl rfl (by omega) (by omega) (fun c37 => ?_) (fun c37 => ?_)
  · refine zn_iinc 145 (x) rfl rfl rfl rfl ?_
    refine zj_goto 146 rfl rfl ?_
    refine zj_iload 13 rfl rfl rfl ?_
    refine zj_bipush 14 (8) rfl rfl (by decide) ?_
    refine zn_icmp_ge 15 (x + 1) (8) rfl rfl rfl rfl (by omega) (by omega) (fun c24 => ?_) (fun c24 => ?_)
    · refine zj_iload 147 rfl rfl rfl ?_
      refine zj_ireturn 148 rfl rfl rfl ?_
      obtain rfl : x = 7 := by omega
      obtain rfl : y = 8 := by omega
      rw [pNo_end]
      exact ⟨rfl, rfl, f, g2, rfl⟩
    · refine zj_iload 16 rfl rfl rfl ?_
      refine zj_iconst 17 (1) rfl rfl (by decide) ?_
      refine zn_iadd 18 (x + 1) (1) rfl rfl rfl rfl ?_
      refine zj_istore 19 rfl rfl ?_
      obtain rfl : y = 8 := by omega
      have hx7 : x < 7 := by omega
      rw [pNo_next x hx7]
      exact ih ((7 - (x + 1)) * 9 + (8 - (x + 2))) (by omega) (x + 1) (x + 2) _ _ _ _ _ _ (Nat.le_refl _) (by omega) (by omega) (by omega) n
  · obtain ⟨hN0, hA, hB, hN⟩ := pNo_ok x hx y (by omega) hxy
    have hp := (hmk x (by omega)).2
    have hqq := (hmk y (by omega)).2
    refine zj_aload_n 23 rfl rfl rfl ?_
    refine zj_get 24 rfl rfl mw_0 rfl ?_
    refine zj_sipush 25 (360) rfl rfl (by decide) ?_
    refine zj_iload 26 rfl rfl rfl ?_
    refine zn_iadd 27 (360) (x) rfl rfl rfl rfl ?_
    refine zn_iald 28 (360 + x) rfl rfl (show mw σ a ((M.sB 2 _).sB 1 _) (a + 1) = some (.inl (0, 818, .inl (M.1 0))) from mw_1) rfl (by omega) (by decide) ?_
    rw [(hmk x (by omega)).1]
    refine zj_istore 29 rfl rfl ?_
    refine zj_norm [_, _, _, _, _, _, _, _, _, _, _, _, _] rfl ?_
    refine zj_aload_n 30 rfl rfl rfl ?_
    refine zj_get 31 rfl rfl mw_0 rfl ?_
    refine zj_sipush 32 (360) rfl rfl (by decide) ?_
    refine zj_iload 33 rfl rfl rfl ?_
    refine zn_iadd 34 (360) (y) rfl rfl rfl rfl ?_
    refine zn_iald 35 (360 + y) rfl rfl (show mw σ a ((M.sB 2 _).sB 1 _) (a + 1) = some (.inl (0, 818, .inl (M.1 0))) from mw_1) rfl (by omega) (by decide) ?_
    rw [(hmk y (by omega)).1]
    refine zj_istore 36 rfl rfl ?_
    refine zj_iload 37 rfl rfl rfl ?_
    refine zj_bipush 38 (9) rfl rfl (by decide) ?_
    refine zn_idiv 39 (mk x) (9) rfl rfl rfl rfl (by omega) (by omega) (by omega) ?_
    refine zj_iload 40 rfl rfl rfl ?_
    refine zj_bipush 41 (9) rfl rfl (by decide) ?_
    refine zn_idiv 42 (mk y) (9) rfl rfl rfl rfl (by omega) (by omega) (by omega) ?_
    refine zj_csx 43 rfl rfl lk_8_161 ckM_apart (k_apart ((mk x) / (9)) ((mk y) / (9)) (by omega) (by omega)) rfl rfl rfl rfl ?_
    refine zj_istore 44 rfl rfl ?_
    refine zj_iload 45 rfl rfl rfl ?_
    refine zj_bipush 46 (9) rfl rfl (by decide) ?_
    refine zn_irem 47 (mk x) (9) rfl rfl rfl rfl (by omega) (by omega) (by omega) ?_
    refine zj_iload 48 rfl rfl rfl ?_
    refine zj_bipush 49 (9) rfl rfl (by decide) ?_
    refine zn_irem 50 (mk y) (9) rfl rfl rfl rfl (by omega) (by omega) (by omega) ?_
    refine zj_csx 51 rfl rfl lk_8_161 ckM_apart (k_apart ((mk x) % (9)) ((mk y) % (9)) (by omega) (by omega)) rfl rfl rfl rfl ?_
    refine zj_istore 52 rfl rfl ?_
    refine zj_norm [_, _, _, _, _, _, _, _, _, _, _, _, _] rfl ?_
    refine zj_aload_n 53 rfl rfl rfl ?_
    refine zj_get 54 rfl rfl mw_0 rfl ?_
    refine zj_iconst 55 (0) rfl rfl (by decide) ?_
    refine zj_aload_n 56 rfl rfl rfl ?_
    refine zj_iload_n 57 rfl rfl rfl ?_
    refine zj_iload_n 58 rfl rfl rfl ?_
    refine zj_iload 59 rfl rfl rfl ?_
    refine zj_cvx 60 rfl rfl lk_8_90 ckM_seenAt (k_seenB _ _ g air (mk x) hg ha (by omega)) rfl mw_0 rfl rfl rfl ?_
    refine zj_i2l 61 rfl rfl ?_
    refine zn_last 62 (0) rfl rfl mw_9 rfl (by omega) (by decide) mw_u9b ?_
    refine zj_aload_n 63 rfl rfl rfl ?_
    refine zj_get 64 rfl rfl mw_0 rfl ?_
    refine zj_iconst 65 (1) rfl rfl (by decide) ?_
    refine zj_aload_n 66 rfl rfl rfl ?_
    refine zj_iload_n 67 rfl rfl rfl ?_
    refine zj_iload_n 68 rfl rfl rfl ?_
    refine zj_iload 69 rfl rfl rfl ?_
    refine zj_cvx 70 rfl rfl lk_8_90 ckM_seenAt (k_seenB _ _ g air (mk y) hg ha (by omega)) rfl mw_0 rfl rfl rfl ?_
    refine zj_i2l 71 rfl rfl ?_
    refine zn_last 72 (1) rfl rfl mw_9 rfl (by omega) (by decide) mw_u9b ?_
    refine zj_aload_n 73 rfl rfl rfl ?_
    refine zj_get 74 rfl rfl mw_0 rfl ?_
    refine zj_iconst 75 (2) rfl rfl (by decide) ?_
    refine zj_iload 76 rfl rfl rfl ?_
    refine zj_iload 77 rfl rfl rfl ?_
    refine zn_icmp_le 78 (zap (mk x / 9) (mk y / 9)) (zap (mk x % 9) (mk y % 9)) rfl rfl rfl rfl (by omega) (by omega) (fun c135 => ?_) (fun c135 => ?_)
    · refine zj_iload 82 rfl rfl rfl ?_
      refine zj_i2l 83 rfl rfl ?_
      refine zn_last 84 (2) rfl rfl mw_9 rfl (by omega) (by decide) mw_u9b ?_
      refine zj_aload_n 85 rfl rfl rfl ?_
      refine zj_get 86 rfl rfl mw_0 rfl ?_
      refine zj_iconst 87 (3) rfl rfl (by decide) ?_
      refine zj_aload_n 88 rfl rfl rfl ?_
      refine zj_iload_n 89 rfl rfl rfl ?_
      refine zj_iload_n 90 rfl rfl rfl ?_
      refine zj_bipush 91 (9) rfl rfl (by decide) ?_
      refine zj_iload 92 rfl rfl rfl ?_
      refine zj_bipush 93 (9) rfl rfl (by decide) ?_
      refine zn_idiv 94 (mk x) (9) rfl rfl rfl rfl (by omega) (by omega) (by omega) ?_
      refine zj_iload 95 rfl rfl rfl ?_
      refine zj_bipush 96 (9) rfl rfl (by decide) ?_
      refine zn_idiv 97 (mk y) (9) rfl rfl rfl rfl (by omega) (by omega) (by omega) ?_
      refine zn_iadd 98 ((mk x) / (9)) ((mk y) / (9)) rfl rfl rfl rfl ?_
      refine zj_iconst 99 (2) rfl rfl (by decide) ?_
      refine zn_idiv 100 (((mk x) / (9)) + ((mk y) / (9))) (2) rfl rfl rfl rfl (by omega) (by omega) (by omega) ?_
      refine zn_imul 101 (9) ((((mk x) / (9)) + ((mk y) / (9))) / (2)) rfl rfl rfl rfl ?_
      refine zj_iload 102 rfl rfl rfl ?_
      refine zj_bipush 103 (9) rfl rfl (by decide) ?_
      refine zn_irem 104 (mk x) (9) rfl rfl rfl rfl (by omega) (by omega) (by omega) ?_
      refine zj_iload 105 rfl rfl rfl ?_
      refine zj_bipush 106 (9) rfl rfl (by decide) ?_
      refine zn_irem 107 (mk y) (9) rfl rfl rfl rfl (by omega) (by omega) (by omega) ?_
      refine zn_iadd 108 ((mk x) % (9)) ((mk y) % (9)) rfl rfl rfl rfl ?_
      refine zj_iconst 109 (2) rfl rfl (by decide) ?_
      refine zn_idiv 110 (((mk x) % (9)) + ((mk y) % (9))) (2) rfl rfl rfl rfl (by omega) (by omega) (by omega) ?_
      refine zn_iadd 111 ((9) * ((((mk x) / (9)) + ((mk y) / (9))) / (2))) ((((mk x) % (9)) + ((mk y) % (9))) / (2)) rfl rfl rfl rfl ?_
      refine zj_cvx 112 rfl rfl lk_8_90 ckM_seenAt (k_seenB _ _ g air (((9) * ((((mk x) / (9)) + ((mk y) / (9))) / (2))) + ((((mk x) % (9)) + ((mk y) % (9))) / (2))) hg ha (by omega)) rfl mw_0 rfl rfl rfl ?_
      refine zj_i2l 113 rfl rfl ?_
      refine zn_last 114 (3) rfl rfl mw_9 rfl (by omega) (by decide) mw_u9b ?_
      refine zj_aload_n 115 rfl rfl rfl ?_
      refine zj_get 116 rfl rfl mw_0 rfl ?_
      refine zj_iconst 117 (4) rfl rfl (by decide) ?_
      refine zj_iload 118 rfl rfl rfl ?_
      refine zj_iload 119 rfl rfl rfl ?_
      refine zj_ishr 120 rfl rfl ?_
      refine zj_iconst 121 (1) rfl rfl (by decide) ?_
      refine zj_iand 122 rfl rfl ?_
      refine zj_i2l 123 rfl rfl ?_
      refine zn_last 124 (4) rfl rfl mw_9 rfl (by omega) (by decide) mw_u9b ?_
      refine zj_aload_n 125 rfl rfl rfl ?_
      refine zj_get 126 rfl rfl mw_0 rfl ?_
      refine zj_iconst 127 (5) rfl rfl (by decide) ?_
      refine zj_iload_n 128 rfl rfl rfl ?_
      refine zj_i2l 129 rfl rfl ?_
      refine zn_last 130 (5) rfl rfl mw_9 rfl (by omega) (by decide) mw_u9b ?_
      refine zj_iload 131 rfl rfl rfl ?_
      refine zj_aload_n 132 rfl rfl rfl ?_
      refine zj_cvxX 133 rfl rfl lk_8_164 ckM_tells (k_tellsB _ _ cs hlen hcm hcs hq hev (mLt (mSeen (M.1 3) g air) g (mk x) (mk y) ((shown >>> (nI (pNo x y) &&& 31)) &&& 1)) (by
  intro j hj
  match j, hj with
  | 0, _ => rfl
  | 1, _ => rfl
  | 2, _ => show _ = (nI (zfar (mk x) (mk y))).toInt64; unfold zfar; rw [if_neg (by omega)]; rfl
  | 3, _ => rfl
  | 4, _ => rfl
  | 5, _ => rfl)) rfl mw_0 rfl rfl rfl (fun s1 hP1 => ?_)
      obtain ⟨g3, rfl⟩ := hP1
      refine zj_if_eq 134 rfl rfl (fun c219 => ?_) (fun c219 => ?_)
      · refine zj_iconst 139 (0) rfl rfl (by decide) ?_
        refine zj_ior 140 rfl rfl ?_
        refine zj_istore 141 rfl rfl ?_
        refine zn_iinc 142 (pNo x y) rfl rfl rfl rfl ?_
        refine zn_iinc 143 (y) rfl rfl rfl rfl ?_
        refine zj_norm [_, _, _, _, _, _, _, _, _, _, _, _, _] rfl ?_
        refine zj_goto 144 rfl rfl ?_
        have e : pDr (mTr cs (mSeen (M.1 3) g air) g shown mk) (pNo x y + 1) = pDr (mTr cs (mSeen (M.1 3) g air) g shown mk) (pNo x y) ||| (if (mTr cs (mSeen (M.1 3) g air) g shown mk) (pNo x y) then 1 <<< (nI (pNo x y) &&& 31) else 0) := rfl
        rw [if_neg (by unfold mTr; rw [hA, hB]; simpa using zo_0.mp c219)] at e
        have hh := ih ((7 - x) * 9 + (8 - (y + 1))) (by omega) x (y + 1)
        rw [hN, e] at hh
        exact hh _ _ _ _ _ _ (Nat.le_refl _) (by omega) (by omega) (by omega) n
      · refine zj_iconst 135 (1) rfl rfl (by decide) ?_
        refine zj_iload 136 rfl rfl rfl ?_
        refine zj_ishl 137 rfl rfl ?_
        refine zj_goto 138 rfl rfl ?_
        refine zj_ior 140 rfl rfl ?_
        refine zj_istore 141 rfl rfl ?_
        refine zn_iinc 142 (pNo x y) rfl rfl rfl rfl ?_
        refine zn_iinc 143 (y) rfl rfl rfl rfl ?_
        refine zj_norm [_, _, _, _, _, _, _, _, _, _, _, _, _] rfl ?_
        refine zj_goto 144 rfl rfl ?_
        have e : pDr (mTr cs (mSeen (M.1 3) g air) g shown mk) (pNo x y + 1) = pDr (mTr cs (mSeen (M.1 3) g air) g shown mk) (pNo x y) ||| (if (mTr cs (mSeen (M.1 3) g air) g shown mk) (pNo x y) then 1 <<< (nI (pNo x y) &&& 31) else 0) := rfl
        rw [if_pos (by unfold mTr; rw [hA, hB]; exact decide_eq_true (zo_n0.mp c219))] at e
        have hh := ih ((7 - x) * 9 + (8 - (y + 1))) (by omega) x (y + 1)
        rw [hN, e] at hh
        exact hh _ _ _ _ _ _ (Nat.le_refl _) (by omega) (by omega) (by omega) n
    · refine zj_iload 79 rfl rfl rfl ?_
      refine zj_i2l 80 rfl rfl ?_
      refine zj_goto 81 rfl rfl ?_
      refine zn_last 84 (2) rfl rfl mw_9 rfl (by omega) (by decide) mw_u9b ?_
      refine zj_aload_n 85 rfl rfl rfl ?_
      refine zj_get 86 rfl rfl mw_0 rfl ?_
      refine zj_iconst 87 (3) rfl rfl (by decide) ?_
      refine zj_aload_n 88 rfl rfl rfl ?_
      refine zj_iload_n 89 rfl rfl rfl ?_
      refine zj_iload_n 90 rfl rfl rfl ?_
      refine zj_bipush 91 (9) rfl rfl (by decide) ?_
      refine zj_iload 92 rfl rfl rfl ?_
      refine zj_bipush 93 (9) rfl rfl (by decide) ?_
      refine zn_idiv 94 (mk x) (9) rfl rfl rfl rfl (by omega) (by omega) (by omega) ?_
      refine zj_iload 95 rfl rfl rfl ?_
      refine zj_bipush 96 (9) rfl rfl (by decide) ?_
      refine zn_idiv 97 (mk y) (9) rfl rfl rfl rfl (by omega) (by omega) (by omega) ?_
      refine zn_iadd 98 ((mk x) / (9)) ((mk y) / (9)) rfl rfl rfl rfl ?_
      refine zj_iconst 99 (2) rfl rfl (by decide) ?_
      refine zn_idiv 100 (((mk x) / (9)) + ((mk y) / (9))) (2) rfl rfl rfl rfl (by omega) (by omega) (by omega) ?_
      refine zn_imul 101 (9) ((((mk x) / (9)) + ((mk y) / (9))) / (2)) rfl rfl rfl rfl ?_
      refine zj_iload 102 rfl rfl rfl ?_
      refine zj_bipush 103 (9) rfl rfl (by decide) ?_
      refine zn_irem 104 (mk x) (9) rfl rfl rfl rfl (by omega) (by omega) (by omega) ?_
      refine zj_iload 105 rfl rfl rfl ?_
      refine zj_bipush 106 (9) rfl rfl (by decide) ?_
      refine zn_irem 107 (mk y) (9) rfl rfl rfl rfl (by omega) (by omega) (by omega) ?_
      refine zn_iadd 108 ((mk x) % (9)) ((mk y) % (9)) rfl rfl rfl rfl ?_
      refine zj_iconst 109 (2) rfl rfl (by decide) ?_
      refine zn_idiv 110 (((mk x) % (9)) + ((mk y) % (9))) (2) rfl rfl rfl rfl (by omega) (by omega) (by omega) ?_
      refine zn_iadd 111 ((9) * ((((mk x) / (9)) + ((mk y) / (9))) / (2))) ((((mk x) % (9)) + ((mk y) % (9))) / (2)) rfl rfl rfl rfl ?_
      refine zj_cvx 112 rfl rfl lk_8_90 ckM_seenAt (k_seenB _ _ g air (((9) * ((((mk x) / (9)) + ((mk y) / (9))) / (2))) + ((((mk x) % (9)) + ((mk y) % (9))) / (2))) hg ha (by omega)) rfl mw_0 rfl rfl rfl ?_
      refine zj_i2l 113 rfl rfl ?_
      refine zn_last 114 (3) rfl rfl mw_9 rfl (by omega) (by decide) mw_u9b ?_
      refine zj_aload_n 115 rfl rfl rfl ?_
      refine zj_get 116 rfl rfl mw_0 rfl ?_
      refine zj_iconst 117 (4) rfl rfl (by decide) ?_
      refine zj_iload 118 rfl rfl rfl ?_
      refine zj_iload 119 rfl rfl rfl ?_
      refine zj_ishr 120 rfl rfl ?_
      refine zj_iconst 121 (1) rfl rfl (by decide) ?_
      refine zj_iand 122 rfl rfl ?_
      refine zj_i2l 123 rfl rfl ?_
      refine zn_last 124 (4) rfl rfl mw_9 rfl (by omega) (by decide) mw_u9b ?_
      refine zj_aload_n 125 rfl rfl rfl ?_
      refine zj_get 126 rfl rfl mw_0 rfl ?_
      refine zj_iconst 127 (5) rfl rfl (by decide) ?_
      refine zj_iload_n 128 rfl rfl rfl ?_
      refine zj_i2l 129 rfl rfl ?_
      refine zn_last 130 (5) rfl rfl mw_9 rfl (by omega) (by decide) mw_u9b ?_
      refine zj_iload 131 rfl rfl rfl ?_
      refine zj_aload_n 132 rfl rfl rfl ?_
      refine zj_cvxX 133 rfl rfl lk_8_164 ckM_tells (k_tellsB _ _ cs hlen hcm hcs hq hev (mLt (mSeen (M.1 3) g air) g (mk x) (mk y) ((shown >>> (nI (pNo x y) &&& 31)) &&& 1)) (by
  intro j hj
  match j, hj with
  | 0, _ => rfl
  | 1, _ => rfl
  | 2, _ => show _ = (nI (zfar (mk x) (mk y))).toInt64; unfold zfar; rw [if_pos c135]; rfl
  | 3, _ => rfl
  | 4, _ => rfl
  | 5, _ => rfl)) rfl mw_0 rfl rfl rfl (fun s1 hP1 => ?_)
      obtain ⟨g3, rfl⟩ := hP1
      refine zj_if_eq 134 rfl rfl (fun c219 => ?_) (fun c219 => ?_)
      · refine zj_iconst 139 (0) rfl rfl (by decide) ?_
        refine zj_ior 140 rfl rfl ?_
        refine zj_istore 141 rfl rfl ?_
        refine zn_iinc 142 (pNo x y) rfl rfl rfl rfl ?_
        refine zn_iinc 143 (y) rfl rfl rfl rfl ?_
        refine zj_norm [_, _, _, _, _, _, _, _, _, _, _, _, _] rfl ?_
        refine zj_goto 144 rfl rfl ?_
        have e : pDr (mTr cs (mSeen (M.1 3) g air) g shown mk) (pNo x y + 1) = pDr (mTr cs (mSeen (M.1 3) g air) g shown mk) (pNo x y) ||| (if (mTr cs (mSeen (M.1 3) g air) g shown mk) (pNo x y) then 1 <<< (nI (pNo x y) &&& 31) else 0) := rfl
        rw [if_neg (by unfold mTr; rw [hA, hB]; simpa using zo_0.mp c219)] at e
        have hh := ih ((7 - x) * 9 + (8 - (y + 1))) (by omega) x (y + 1)
        rw [hN, e] at hh
        exact hh _ _ _ _ _ _ (Nat.le_refl _) (by omega) (by omega) (by omega) n
      · refine zj_iconst 135 (1) rfl rfl (by decide) ?_
        refine zj_iload 136 rfl rfl rfl ?_
        refine zj_ishl 137 rfl rfl ?_
        refine zj_goto 138 rfl rfl ?_
        refine zj_ior 140 rfl rfl ?_
        refine zj_istore 141 rfl rfl ?_
        refine zn_iinc 142 (pNo x y) rfl rfl rfl rfl ?_
        refine zn_iinc 143 (y) rfl rfl rfl rfl ?_
        refine zj_norm [_, _, _, _, _, _, _, _, _, _, _, _, _] rfl ?_
        refine zj_goto 144 rfl rfl ?_
        have e : pDr (mTr cs (mSeen (M.1 3) g air) g shown mk) (pNo x y + 1) = pDr (mTr cs (mSeen (M.1 3) g air) g shown mk) (pNo x y) ||| (if (mTr cs (mSeen (M.1 3) g air) g shown mk) (pNo x y) then 1 <<< (nI (pNo x y) &&& 31) else 0) := rfl
        rw [if_pos (by unfold mTr; rw [hA, hB]; exact decide_eq_true (zo_n0.mp c219))] at e
        have hh := ih ((7 - x) * 9 + (8 - (y + 1))) (by omega) x (y + 1)
        rw [hN, e] at hh
        exact hh _ _ _ _ _ _ (Nat.le_refl _) (by omega) (by omega) (by omega) n
end
end
section
/-! the reference: drawn on a world, from afar -/
def mCr (M M' : zMo) : Prop := M'.1 0 = M.1 0 ∧ M'.1 1 = M.1 1 ∧ M'.1 2 = M.1 2 ∧ M'.2.2.2 0 = M.2.2.2 0 ∧ M'.2.2.2 1 = M.2.2.2 1
theorem mCore.cr {M M' : zMo} (h : mCore M M') : mCr M M' := ⟨h.1, h.2.1, h.2.2.1, h.2.2.2.2.1, h.2.2.2.2.2⟩
theorem mCr.rfl {M : zMo} : mCr M M := ⟨Eq.refl _, Eq.refl _, Eq.refl _, Eq.refl _, Eq.refl _⟩
theorem mCr.trans {A B C : zMo} (h : mCr A B) (g : mCr B C) : mCr A C := ⟨g.1.trans h.1, g.2.1.trans h.2.1, g.2.2.1.trans h.2.2.1, g.2.2.2.1.trans h.2.2.2.1, g.2.2.2.2.trans h.2.2.2.2⟩
def mQ (σ : zH) (a : Nat) (M : zMo) : zH → Prop := fun s => ∃ M', s = mw σ a M' ∧ mCr M M'
def mDw (t : Nat → Int32) (many : Nat) (see : Nat → Int32) (g : Nat) (shown : Int32) (mk : Nat → Nat) : Int32 := if (qRead t many).1 = -1 then pDr (mTr (qRead t many).2.1 see g shown mk) 28 else 0
theorem mCr_3 (M : zMo) (f : Nat → Int32) : mCr M (M.sA 3 f) := by
  refine ⟨?_, ?_, ?_, ?_, ?_⟩ <;> simp [va_up]
theorem mBl1_cong {f f' : Nat → Int32} (h : ∀ c, c < 81 → f c = f' c) (g r c i : Nat) (s : Int32 × Nat) : ∀ j, mBl1 f g r c i s j = mBl1 f' g r c i s j
  | 0 => rfl
  | j + 1 => by
    simp only [mBl1]
    rw [mBl1_cong h g r c i s j]
    by_cases c1 : (g ≤ r + i ∧ r + i - g ≤ 8) ∧ (g ≤ c + j ∧ c + j - g ≤ 8)
    · rw [if_pos c1, if_pos c1, h _ (by omega)]
    · rw [if_neg c1, if_neg c1]
theorem mBl_cong {f f' : Nat → Int32} (h : ∀ c, c < 81 → f c = f' c) (g r c : Nat) : ∀ i, mBl f g r c i = mBl f' g r c i
  | 0 => rfl
  | i + 1 => by simp only [mBl]; rw [mBl_cong h g r c i, mBl1_cong h]
theorem mSeen_cong {f f' : Nat → Int32} (h : ∀ c, c < 81 → f c = f' c) (g air c : Nat) : mSeen f g air c = mSeen f' g air c := by
  unfold mSeen mBlur; rw [mBl_cong h]
theorem zmid_lt {p q : Nat} (hp : p < 81) (hq : q < 81) : zmid p q < 81 := by unfold zmid; omega
theorem mLt_cong {see see' : Nat → Int32} (h : ∀ c, c < 81 → see c = see' c) (g : Nat) {p q : Nat} (hp : p < 81) (hq : q < 81) (kb : Int32) : mLt see g p q kb = mLt see' g p q kb := by
  funext i
  unfold mLt
  split
  · rw [h p hp]
  · rw [h q hq]
  · rfl
  · rw [h _ (zmid_lt hp hq)]
  · rfl
  · rfl
  · rfl
theorem pDr_cong {tr tr' : Nat → Bool} : ∀ {n : Nat}, (∀ k, k < n → tr k = tr' k) → pDr tr n = pDr tr' n
  | 0, _ => rfl
  | n + 1, h => by simp only [pDr]; rw [pDr_cong (fun k hk => h k (by omega)), h n (by omega)]
theorem pAB_lt : ∀ n, n < 28 → pA n < 8 ∧ pBb n < 8 := by decide +kernel
theorem mDw_cong {see see' : Nat → Int32} (h : ∀ c, c < 81 → see c = see' c) (t : Nat → Int32) (many g : Nat) (shown : Int32) {mk : Nat → Nat} (hmk : ∀ m, m < 8 → mk m < 81) : mDw t many see g shown mk = mDw t many see' g shown mk := by
  unfold mDw
  split
  · refine pDr_cong (fun k hk => ?_)
    unfold mTr
    rw [mLt_cong h g (hmk _ (pAB_lt k hk).1) (hmk _ (pAB_lt k hk).2)]
  · rfl
theorem zfl_lt {α : Type} {f g : Nat → α} {k j : Nat} (h : j < k) : zfl f g k j = f j := if_pos h
def mFp (row : Nat → Int32) (w : Nat) (mk : Nat → Nat) (base : Nat → Int32) : Nat → (Nat → Int32)
  | 0 => base
  | m + 1 => va_up (mFp row w mk base m) (mk m) (row (81 * w + mk m))
theorem mFp_cong (row : Nat → Int32) (w : Nat) (mk : Nat → Nat) {b b' : Nat → Int32} (h : ∀ c, c < 81 → b c = b' c) : ∀ m c, c < 81 → mFp row w mk b m c = mFp row w mk b' m c
  | 0, c, hc => h c hc
  | m + 1, c, hc => by
    simp only [mFp, va_up]
    split
    · rfl
    · exact mFp_cong row w mk h m c hc
section
variable {E : zE} {σ : zH} {a : Nat} {M : zMo}
theorem k_drawnOf (l g air many : Nat) (shown : Int32) (mk : Nat → Nat) (hl : l < 4) (hg : g < 4) (ha : air < 5) (hm : M.1 0 (368 + l) = nI many) (hmany : many ≤ 40) (hmk : ∀ m, m < 8 → M.1 0 (360 + m) = nI (mk m) ∧ mk m < 81) : zX E YM_drawnOf 7 [.ref a, .int (nI l), .int (nI g), .int (nI air), .int shown] (mw σ a M) (some (.int (mDw (fun j => M.1 0 (372 + 40 * l + j)) many (mSeen (M.1 3) g air) g shown mk))) (mQ σ a M) := by
  refine zX.of oM_drawnOf (by decide +kernel) rfl rfl (fun n => ?_)
  refine zj_aload_n 0 rfl rfl rfl ?_
  refine zj_iload_n 1 rfl rfl rfl ?_
  refine zj_cvxX 2 rfl rfl lk_8_154 ckM_read (k_read l many hl hm hmany) rfl mw_0 rfl rfl rfl (fun s1 hP1 => ?_)
  obtain ⟨M1, rfl, hc1, hr1⟩ := hP1
  refine zj_iconst 3 (-1) rfl rfl (by decide) ?_
  refine zj_icmp_eq 4 rfl rfl (fun c6 => ?_) (fun c6 => ?_)
  · refine zj_iconst 7 (0) rfl rfl (by decide) ?_
    refine zj_istore 8 rfl rfl ?_
    refine zj_iconst 9 (0) rfl rfl (by decide) ?_
    refine zj_istore 10 rfl rfl ?_
    refine zj_iconst 11 (0) rfl rfl (by decide) ?_
    refine zj_istore 12 rfl rfl ?_
    refine zj_norm [_, _, _, _, _, _, _, _, _, _, _, _, _] rfl ?_
    refine zj_iload 13 rfl rfl rfl ?_
    refine zj_bipush 14 (8) rfl rfl (by decide) ?_
    refine zn_icmp_ge 15 (0) (8) rfl rfl rfl rfl (by omega) (by omega) (fun c24 => ?_) (fun c24 => ?_)
    · exact absurd c24 (by decide)
    · refine zj_iload 16 rfl rfl rfl ?_
      refine zj_iconst 17 (1) rfl rfl (by decide) ?_
      refine zn_iadd 18 (0) (1) rfl rfl rfl rfl ?_
      refine zj_istore 19 rfl rfl ?_
      obtain ⟨k1, k2, k3⟩ := qRead_ok (fun j => M.1 0 (372 + 40 * l + j)) many hmany c6
      have e : mDw (fun j => M.1 0 (372 + 40 * l + j)) many (mSeen (M.1 3) g air) g shown mk = pDr (mTr (qRead (fun j => M.1 0 (372 + 40 * l + j)) many).2.1 (mSeen (M1.1 3) g air) g shown mk) 28 := by
        unfold mDw; rw [if_pos c6, hc1.2.2.2.1]
      rw [e, show mw σ a M1 = mw σ a ((M1.sB 2 (M1.2.1 2)).sB 1 (M1.2.1 1)) by rw [show (M1.sB 2 (M1.2.1 2)) = M1 from sB_id M1 2, sB_id]]
      refine zXB_mono ?_ (l_drawnOf (qRead (fun j => M.1 0 (372 + 40 * l + j)) many).2.1 l g air shown mk hg ha (fun m h => by rw [hc1.1]; exact hmk m h) k1 hr1.1.1 hr1.1.2 k2 k3 _ 0 1 _ _ _ _ _ _ (Nat.le_refl _) (by decide) (by decide) (by decide) n)
      rintro s ⟨f, g2, rfl⟩
      exact ⟨_, rfl, hc1.cr⟩
  · refine zj_iconst 5 (0) rfl rfl (by decide) ?_
    refine zj_ireturn 6 rfl rfl rfl ?_
    have e : mDw (fun j => M.1 0 (372 + 40 * l + j)) many (mSeen (M.1 3) g air) g shown mk = 0 := if_neg c6
    rw [e]
    exact ⟨rfl, rfl, M1, rfl, hc1.cr⟩
theorem k_drawnOn (w : Nat) (hw : w < 4) (dk : Int32) (l g air many : Nat) (shown : Int32) (mk : Nat → Nat) (hl : l < 4) (hg : g < 4) (ha : air < 5) (hm : M.1 0 (368 + l) = nI many) (hmany : many ≤ 40) (hmk : ∀ m, m < 8 → M.1 0 (360 + m) = nI (mk m) ∧ mk m < 81) : zX E YM_drawnOn 8 [.ref a, .int (nI l), .int (nI w), .int dk, .int (nI g), .int (nI air), .int shown] (mw σ a M) (some (.int (mDw (fun j => M.1 0 (372 + 40 * l + j)) many (mSeen (mPic (M.1 0) w dk) g air) g shown mk))) (mQ σ a M) := by
  refine zX.of oM_drawnOn (by decide +kernel) rfl rfl (fun n => ?_)
  refine zj_aload_n 0 rfl rfl rfl ?_
  refine zj_iload_n 1 rfl rfl rfl ?_
  refine zj_iload_n 2 rfl rfl rfl ?_
  refine zj_cvv 3 rfl rfl lk_8_86 ckM_layWorld (k_layWorld _ _ hw) rfl mw_0 rfl rfl rfl ?_
  refine zj_aload_n 4 rfl rfl rfl ?_
  refine zj_iload_n 5 rfl rfl rfl ?_
  refine zj_iload 6 rfl rfl rfl ?_
  refine zj_iload 7 rfl rfl rfl ?_
  refine zj_iload 8 rfl rfl rfl ?_
  refine zj_cvxX 9 rfl rfl lk_8_168 ckM_drawnOf (k_drawnOf l g air many shown mk hl hg ha hm hmany hmk) rfl mw_0 rfl rfl rfl (fun s1 hP1 => ?_)
  obtain ⟨M1, rfl, hc1⟩ := hP1
  refine zj_ireturn 10 rfl rfl rfl ?_
  exact ⟨zrt (mDw_cong (fun c hc => mSeen_cong (fun c hc => zfl_lt hc) g air c) _ _ _ _ (fun m h => (hmk m h).2)), rfl, M1, rfl, (mCr_3 M _).trans hc1⟩
theorem k_Mdrawn (w dk : Nat) (hw : w < 4) (hd : dk < 16) (l g air many : Nat) (shown : Int32) (mk : Nat → Nat) (hl : l < 4) (hg : g < 4) (ha : air < 5) (hm : M.1 0 (368 + l) = nI many) (hmany : many ≤ 40) (hmk : ∀ m, m < 8 → M.1 0 (360 + m) = nI (mk m) ∧ mk m < 81) (hs : zr shown 268435456) : zX E YM_drawn 9 [.ref a, .int (nI l), .int (nI w), .int (nI dk), .int (nI g), .int (nI air), .int shown] (mw σ a M) (some (.int (mDw (fun j => M.1 0 (372 + 40 * l + j)) many (mSeen (mPic (M.1 0) w (nI dk)) g air) g shown mk))) (mQ σ a M) := by
  refine zX.of oM_drawn (by decide +kernel) rfl rfl (fun n => ?_)
  refine zj_iload_n 0 rfl rfl rfl ?_
  refine zj_csx 1 rfl rfl lk_8_57 ckM_isFour (k_isFour _) rfl rfl rfl rfl ?_
  refine zj_if_eq 2 rfl rfl (fun c4 => ?_) (fun c4 => ?_)
  · exact absurd (zr_of (n := 4) (by omega) (by decide)) (zo_0.mp c4)
  · refine zj_iload_n 3 rfl rfl rfl ?_
    refine zj_iload_n 4 rfl rfl rfl ?_
    refine zj_iload 5 rfl rfl rfl ?_
    refine zj_iload 6 rfl rfl rfl ?_
    refine zj_csx 7 rfl rfl lk_8_82 ckM_isLook (k_isLook _ _ _ _) rfl rfl rfl rfl ?_
    refine zj_if_eq 8 rfl rfl (fun c16 => ?_) (fun c16 => ?_)
    · exact absurd ⟨zr_of (n := 4) (by omega) (by decide), zr_of (n := 16) (by omega) (by decide), zr_of (n := 4) (by omega) (by decide), zr_of (n := 5) (by omega) (by decide)⟩ (zo_0.mp c16)
    · refine zj_iload 9 rfl rfl rfl ?_
      refine zj_csx 10 rfl rfl lk_8_174 ckM_isLines (k_isLines _) rfl rfl rfl rfl ?_
      refine zj_if_ne 11 rfl rfl (fun c24 => ?_) (fun c24 => ?_)
      · refine zj_aload_n 14 rfl rfl rfl ?_
        refine zj_iload_n 15 rfl rfl rfl ?_
        refine zj_iload_n 16 rfl rfl rfl ?_
        refine zj_iload_n 17 rfl rfl rfl ?_
        refine zj_iload 18 rfl rfl rfl ?_
        refine zj_iload 19 rfl rfl rfl ?_
        refine zj_iload 20 rfl rfl rfl ?_
        refine zj_cvxX 21 rfl rfl lk_8_177 ckM_drawnOn (k_drawnOn w hw (nI dk) l g air many shown mk hl hg ha hm hmany hmk) rfl mw_0 rfl rfl rfl (fun s1 hP1 => ?_)
        obtain ⟨M1, rfl, hc1⟩ := hP1
        refine zj_ireturn 22 rfl rfl rfl ?_
        exact ⟨rfl, rfl, M1, rfl, hc1⟩
      · exact absurd hs (zo_0.mp c24)
theorem k_Mdrawn_bad (l w dk g air shown : Int32) (hb : ¬ (zr l 4 ∧ (zr w 4 ∧ zr dk 16 ∧ zr g 4 ∧ zr air 5) ∧ zr shown 268435456)) : zM E YM_drawn 9 [.ref a, .int l, .int w, .int dk, .int g, .int air, .int shown] (mw σ a M) (some (.int (-2))) (mw σ a M) := by
  refine zM.of oM_drawn (by decide +kernel) rfl rfl (fun n => ?_)
  refine zj_iload_n 0 rfl rfl rfl ?_
  refine zj_csx 1 rfl rfl lk_8_57 ckM_isFour (k_isFour _) rfl rfl rfl rfl ?_
  refine zj_if_eq 2 rfl rfl (fun c4 => ?_) (fun c4 => ?_)
  · refine zj_bipush 12 (-2) rfl rfl (by decide) ?_
    refine zj_ireturn 13 rfl rfl rfl ?_
    exact ⟨rfl, rfl, rfl⟩
  · refine zj_iload_n 3 rfl rfl rfl ?_
    refine zj_iload_n 4 rfl rfl rfl ?_
    refine zj_iload 5 rfl rfl rfl ?_
    refine zj_iload 6 rfl rfl rfl ?_
    refine zj_csx 7 rfl rfl lk_8_82 ckM_isLook (k_isLook _ _ _ _) rfl rfl rfl rfl ?_
    refine zj_if_eq 8 rfl rfl (fun c16 => ?_) (fun c16 => ?_)
    · refine zj_bipush 12 (-2) rfl rfl (by decide) ?_
      refine zj_ireturn 13 rfl rfl rfl ?_
      exact ⟨rfl, rfl, rfl⟩
    · refine zj_iload 9 rfl rfl rfl ?_
      refine zj_csx 10 rfl rfl lk_8_174 ckM_isLines (k_isLines _) rfl rfl rfl rfl ?_
      refine zj_if_ne 11 rfl rfl (fun c24 => ?_) (fun c24 => ?_)
      · exact absurd ⟨zo_n0.mp c4, zo_n0.mp c16, zo_n0.mp c24⟩ hb
      · refine zj_bipush 12 (-2) rfl rfl (by decide) ?_
        refine zj_ireturn 13 rfl rfl rfl ?_
        exact ⟨rfl, rfl, rfl⟩
theorem l_far2 (l w g many : Nat) (mk : Nat → Nat) (hl : l < 4) (hw : w < 4) (hg : g < 4) (hm : M.1 0 (368 + l) = nI many) (hmany : many ≤ 40) (hmk : ∀ m, m < 8 → M.1 0 (360 + m) = nI (mk m) ∧ mk m < 81) : ∀ (m : Nat) (k : Nat), (k + m = 8) → ∀ n, zXB E YM_drawnFar 8 n (some (.int (mDw (fun j => M.1 0 (372 + 40 * l + j)) many (mSeen (mFp (M.1 0) w mk (fun _ => 0) 8) g 0) g 0 mk))) (mQ σ a M) (mw σ a (M.sA 3 (mFp (M.1 0) w mk (zfl (fun _ => (0 : Int32)) (M.1 3) 81) k))) 27 [some (.ref a), some (.int (nI l)), some (.int (nI w)), some (.int (nI g)), some (.int (nI k))] [] := by
  intro m
  induction m using Nat.strongRecOn with
  | ind m ih =>
  intro k hk n
  refine zj_iload 14 rfl rfl rfl ?_
  refine zj_bipush 15 (8) rfl rfl (by decide) ?_
  refine zn_icmp_ge 16 (k) (8) rfl rfl rfl rfl (by omega) (by omega) (fun c31 => ?_) (fun c31 => ?_)
  · obtain rfl : k = 8 := by omega
    refine zj_aload_n 41 rfl rfl rfl ?_
    refine zj_iload_n 42 rfl rfl rfl ?_
    refine zj_iload_n 43 rfl rfl rfl ?_
    refine zj_iconst 44 (0) rfl rfl (by decide) ?_
    refine zj_iconst 45 (0) rfl rfl (by decide) ?_
    refine zj_cvxX 46 rfl rfl lk_8_168 ckM_drawnOf (k_drawnOf (M := M.sA 3 (mFp (M.1 0) w mk (zfl (fun _ => (0 : Int32)) (M.1 3) 81) 8)) l g 0 many 0 mk hl hg (by decide) hm hmany hmk) rfl mw_0 rfl rfl rfl (fun s1 hP1 => ?_)
    obtain ⟨M1, rfl, hc1⟩ := hP1
    refine zj_ireturn 47 rfl rfl rfl ?_
    exact ⟨zrt (mDw_cong (fun c hc => mSeen_cong (fun c hc => mFp_cong _ _ _ (fun c hc => zfl_lt hc) 8 c hc) g 0 c) _ _ _ _ (fun m h => (hmk m h).2)), rfl, M1, rfl, (mCr_3 M _).trans hc1⟩
  · have hk2 := (hmk k (by omega)).2
    refine zj_aload_n 17 rfl rfl rfl ?_
    refine zj_get 18 rfl rfl mw_0 rfl ?_
    refine zj_aload_n 19 rfl rfl rfl ?_
    refine zj_get 20 rfl rfl mw_0 rfl ?_
    refine zj_sipush 21 (360) rfl rfl (by decide) ?_
    refine zj_iload 22 rfl rfl rfl ?_
    refine zn_iadd 23 (360) (k) rfl rfl rfl rfl ?_
    refine zn_iald 24 (360 + k) rfl rfl (show mw σ a (M.sA 3 _) (a + 1) = some (.inl (0, 818, .inl (M.1 0))) from mw_1) rfl (by omega) (by decide) ?_
    rw [(hmk k (by omega)).1]
    refine zj_aload_n 25 rfl rfl rfl ?_
    refine zj_get 26 rfl rfl mw_0 rfl ?_
    refine zj_bipush 27 (81) rfl rfl (by decide) ?_
    refine zj_iload_n 28 rfl rfl rfl ?_
    refine zn_imul 29 (81) (w) rfl rfl rfl rfl ?_
    refine zj_aload_n 30 rfl rfl rfl ?_
    refine zj_get 31 rfl rfl mw_0 rfl ?_
    refine zj_sipush 32 (360) rfl rfl (by decide) ?_
    refine zj_iload 33 rfl rfl rfl ?_
    refine zn_iadd 34 (360) (k) rfl rfl rfl rfl ?_
    refine zn_iald 35 (360 + k) rfl rfl (show mw σ a (M.sA 3 _) (a + 1) = some (.inl (0, 818, .inl (M.1 0))) from mw_1) rfl (by omega) (by decide) ?_
    rw [(hmk k (by omega)).1]
    refine zn_iadd 36 (81 * w) (mk k) rfl rfl rfl rfl ?_
    refine zn_iald 37 ((81 * w) + (mk k)) rfl rfl (show mw σ a (M.sA 3 _) (a + 1) = some (.inl (0, 818, .inl (M.1 0))) from mw_1) rfl (by omega) (by decide) ?_
    refine zn_iast 38 (mk k) rfl rfl mw_4 rfl (by omega) (by decide) mw_u4 ?_
    refine zn_iinc 39 (k) rfl rfl rfl rfl ?_
    refine zj_goto 40 rfl rfl ?_
    have e : mw σ a ((M.sA 3 (mFp (M.1 0) w mk (zfl (fun _ => (0 : Int32)) (M.1 3) 81) k)).sA 3 (va_up (mFp (M.1 0) w mk (zfl (fun _ => (0 : Int32)) (M.1 3) 81) k) (mk k) (M.1 0 (81 * w + mk k)))) = mw σ a (M.sA 3 (mFp (M.1 0) w mk (zfl (fun _ => (0 : Int32)) (M.1 3) 81) (k + 1))) := by rw [zMo.sA_sA]; rfl
    exact e ▸ ih (m - 1) (by omega) (k + 1) (by omega) n
theorem l_far1 (l w g many : Nat) (mk : Nat → Nat) (hl : l < 4) (hw : w < 4) (hg : g < 4) (hm : M.1 0 (368 + l) = nI many) (hmany : many ≤ 40) (hmk : ∀ m, m < 8 → M.1 0 (360 + m) = nI (mk m) ∧ mk m < 81) : ∀ (m : Nat) (k : Nat), (k + m = 81) → ∀ n, zXB E YM_drawnFar 8 n (some (.int (mDw (fun j => M.1 0 (372 + 40 * l + j)) many (mSeen (mFp (M.1 0) w mk (fun _ => 0) 8) g 0) g 0 mk))) (mQ σ a M) (mw σ a (M.sA 3 (zfl (fun _ => (0 : Int32)) (M.1 3) k))) 3 [some (.ref a), some (.int (nI l)), some (.int (nI w)), some (.int (nI g)), some (.int (nI k))] [] := by
  intro m
  induction m using Nat.strongRecOn with
  | ind m ih =>
  intro k hk n
  refine zj_iload 2 rfl rfl rfl ?_
  refine zj_bipush 3 (81) rfl rfl (by decide) ?_
  refine zn_icmp_ge 4 (k) (81) rfl rfl rfl rfl (by omega) (by omega) (fun c7 => ?_) (fun c7 => ?_)
  · refine zj_iconst 12 (0) rfl rfl (by decide) ?_
    refine zj_istore 13 rfl rfl ?_
    obtain rfl : k = 81 := by omega
    exact l_far2 l w g many mk hl hw hg hm hmany hmk 8 0 (by omega) n
  · refine zj_aload_n 5 rfl rfl rfl ?_
    refine zj_get 6 rfl rfl mw_0 rfl ?_
    refine zj_iload 7 rfl rfl rfl ?_
    refine zj_iconst 8 (0) rfl rfl (by decide) ?_
    refine zn_iast 9 (k) rfl rfl mw_4 rfl (by omega) (by decide) mw_u4 ?_
    refine zn_iinc 10 (k) rfl rfl rfl rfl ?_
    refine zj_goto 11 rfl rfl ?_
    rw [mw_fl 3 rfl]
    exact ih (m - 1) (by omega) (k + 1) (by omega) n
theorem k_drawnFar (l w g many : Nat) (mk : Nat → Nat) (hl : l < 4) (hw : w < 4) (hg : g < 4) (hm : M.1 0 (368 + l) = nI many) (hmany : many ≤ 40) (hmk : ∀ m, m < 8 → M.1 0 (360 + m) = nI (mk m) ∧ mk m < 81) : zX E YM_drawnFar 8 [.ref a, .int (nI l), .int (nI w), .int (nI g)] (mw σ a M) (some (.int (mDw (fun j => M.1 0 (372 + 40 * l + j)) many (mSeen (mFp (M.1 0) w mk (fun _ => 0) 8) g 0) g 0 mk))) (mQ σ a M) := by
  refine zX.of oM_drawnFar (by decide +kernel) rfl rfl (fun n => ?_)
  refine zj_iconst 0 (0) rfl rfl (by decide) ?_
  refine zj_istore 1 rfl rfl ?_
  rw [mw_fl0 M 3 (fun _ => (0 : Int32))]
  exact l_far1 l w g many mk hl hw hg hm hmany hmk 81 0 (by omega) n
theorem k_Mfar (l w g many : Nat) (mk : Nat → Nat) (hl : l < 4) (hw : w < 4) (hg : g < 4) (hm : M.1 0 (368 + l) = nI many) (hmany : many ≤ 40) (hmk : ∀ m, m < 8 → M.1 0 (360 + m) = nI (mk m) ∧ mk m < 81) : zX E YM_far 9 [.ref a, .int (nI l), .int (nI w), .int (nI g)] (mw σ a M) (some (.int (mDw (fun j => M.1 0 (372 + 40 * l + j)) many (mSeen (mFp (M.1 0) w mk (fun _ => 0) 8) g 0) g 0 mk))) (mQ σ a M) := by
  refine zX.of oM_far (by decide +kernel) rfl rfl (fun n => ?_)
  refine zj_iload_n 0 rfl rfl rfl ?_
  refine zj_csx 1 rfl rfl lk_8_57 ckM_isFour (k_isFour _) rfl rfl rfl rfl ?_
  refine zj_if_eq 2 rfl rfl (fun c4 => ?_) (fun c4 => ?_)
  · exact absurd (zr_of (n := 4) (by omega) (by decide)) (zo_0.mp c4)
  · refine zj_iload_n 3 rfl rfl rfl ?_
    refine zj_csx 4 rfl rfl lk_8_57 ckM_isFour (k_isFour _) rfl rfl rfl rfl ?_
    refine zj_if_eq 5 rfl rfl (fun c11 => ?_) (fun c11 => ?_)
    · exact absurd (zr_of (n := 4) (by omega) (by decide)) (zo_0.mp c11)
    · refine zj_iload_n 6 rfl rfl rfl ?_
      refine zj_csx 7 rfl rfl lk_8_57 ckM_isFour (k_isFour _) rfl rfl rfl rfl ?_
      refine zj_if_eq 8 rfl rfl (fun c18 => ?_) (fun c18 => ?_)
      · exact absurd (zr_of (n := 4) (by omega) (by decide)) (zo_0.mp c18)
      · refine zj_aload_n 9 rfl rfl rfl ?_
        refine zj_iload_n 10 rfl rfl rfl ?_
        refine zj_iload_n 11 rfl rfl rfl ?_
        refine zj_iload_n 12 rfl rfl rfl ?_
        refine zj_cvxX 13 rfl rfl lk_8_181 ckM_drawnFar (k_drawnFar l w g many mk hl hw hg hm hmany hmk) rfl mw_0 rfl rfl rfl (fun s1 hP1 => ?_)
        obtain ⟨M1, rfl, hc1⟩ := hP1
        refine zj_goto 14 rfl rfl ?_
        refine zj_ireturn 16 rfl rfl rfl ?_
        exact ⟨rfl, rfl, M1, rfl, hc1⟩
theorem k_Mfar_bad (l w g : Int32) (hb : ¬ (zr l 4 ∧ zr w 4 ∧ zr g 4)) : zM E YM_far 9 [.ref a, .int l, .int w, .int g] (mw σ a M) (some (.int (-2))) (mw σ a M) := by
  refine zM.of oM_far (by decide +kernel) rfl rfl (fun n => ?_)
  refine zj_iload_n 0 rfl rfl rfl ?_
  refine zj_csx 1 rfl rfl lk_8_57 ckM_isFour (k_isFour _) rfl rfl rfl rfl ?_
  refine zj_if_eq 2 rfl rfl (fun c4 => ?_) (fun c4 => ?_)
  · refine zj_bipush 15 (-2) rfl rfl (by decide) ?_
    refine zj_ireturn 16 rfl rfl rfl ?_
    exact ⟨rfl, rfl, rfl⟩
  · refine zj_iload_n 3 rfl rfl rfl ?_
    refine zj_csx 4 rfl rfl lk_8_57 ckM_isFour (k_isFour _) rfl rfl rfl rfl ?_
    refine zj_if_eq 5 rfl rfl (fun c11 => ?_) (fun c11 => ?_)
    · refine zj_bipush 15 (-2) rfl rfl (by decide) ?_
      refine zj_ireturn 16 rfl rfl rfl ?_
      exact ⟨rfl, rfl, rfl⟩
    · refine zj_iload_n 6 rfl rfl rfl ?_
      refine zj_csx 7 rfl rfl lk_8_57 ckM_isFour (k_isFour _) rfl rfl rfl rfl ?_
      refine zj_if_eq 8 rfl rfl (fun c18 => ?_) (fun c18 => ?_)
      · refine zj_bipush 15 (-2) rfl rfl (by decide) ?_
        refine zj_ireturn 16 rfl rfl rfl ?_
        exact ⟨rfl, rfl, rfl⟩
      · exact absurd ⟨zo_n0.mp c4, zo_n0.mp c11, zo_n0.mp c18⟩ hb
end
end
section
/-! the reference: guesses -/
def mOk (r : Nat → Int32) (no ns nh ng : Nat) (ml mk : Nat → Nat) : Prop :=
  (r 532 = nI no ∧ no ≤ 8) ∧ (r 549 = nI ns ∧ ns ≤ 16) ∧ (r 598 = nI nh ∧ nh ≤ 60) ∧ (r 780 = nI ng ∧ ng ≤ 12) ∧ (∀ l, l < 4 → r (368 + l) = nI (ml l) ∧ ml l ≤ 40) ∧ (∀ m, m < 8 → r (360 + m) = nI (mk m) ∧ mk m < 81) ∧
  (∀ o, o < no → zr (rOl r o) 4) ∧ (∀ s, s < ns → zr (rSo r s) 8) ∧ (∀ g, g < ng → zr (rGw r g) 4 ∧ zr (rGl r g) 4 ∧ zr (rGg r g) 4)
abbrev mD (r : Nat → Int32) (ml mk : Nat → Nat) (l w g : Nat) (shown : Int32) : Int32 := mDw (fun j => r (372 + 40 * l + j)) (ml l) (mSeen (mPic r w 0) g 0) g shown mk
theorem zr4 {v : Int32} (h : zr v 4) : v.toNatClampNeg < 4 ∧ v = nI v.toNatClampNeg := by
  obtain ⟨j, hj, rfl⟩ := zr_nI (n := 4) h
  rw [nI_clamp (by omega)]
  exact ⟨hj, rfl⟩
abbrev mAl (r : Nat → Int32) (ns nh : Nat) (ml mk : Nat → Nat) (gi s : Nat) : Prop := zb28 (mD r ml mk (rGl r gi).toNatClampNeg (rGw r gi).toNatClampNeg (rGg r gi).toNatClampNeg (pSHm r nh ns (rSo r s) (rSn r s)) ^^^ rSl r s) 28 ≤ r 817
theorem mw_1r {σ : zH} {a : Nat} {M Mk : zMo} (h : mCr M Mk) : mw σ a Mk (a + 1) = some (.inl (0, 818, .inl (M.1 0))) := by rw [mw_1, h.1]
theorem mQ_tr {σ : zH} {a : Nat} {M M1 : zMo} (h : mCr M M1) (s : zH) (g : mQ σ a M1 s) : mQ σ a M s := by
  obtain ⟨M', e, h1⟩ := g
  exact ⟨M', e, h.trans h1⟩
def pMB (ns : Nat) (sheets : Int32) (al : Nat → Nat → Bool) : Nat → Int32
  | 0 => 0
  | g + 1 => pMB ns sheets al g ||| (if ∀ s, s < ns → zhas sheets (nI s) → al g s = true then 1 <<< (nI g &&& 31) else 0)
def pWd (gw : Nat → Int32) (may : Int32) : Nat → Int32
  | 0 => 0
  | g + 1 => pWd gw may g ||| (if zhas may (nI g) then 1 <<< (gw g &&& 31) else 0)
section
variable {E : zE} {σ : zH} {a : Nat} {M : zMo}
theorem k_linesOf_r (r : Nat → Int32) (hr0 : M.1 0 = r) (s : Nat) (hs : s < 80) : zM E YM_linesOf 1 [.ref a, .int (nI s)] (mw σ a M) (some (.int (rSl r s))) (mw σ a M) := by
  subst hr0; exact k_linesOf s hs
theorem k_shownFor_r (r : Nat → Int32) (hr0 : M.1 0 = r) (no ns nh ng : Nat) (ml mk : Nat → Nat) (ok : mOk r no ns nh ng ml mk) (s : Nat) (hs : s < 80) : zM E YM_shownFor 3 [.ref a, .int (nI s)] (mw σ a M) (some (.int (pSHm r nh ns (rSo r s) (rSn r s)))) (mw σ a M) := by
  subst hr0; exact k_shownFor s hs nh ns ok.2.2.1.1 ok.2.2.1.2 ok.2.1.1 ok.2.1.2
theorem k_drawnOn_r (r : Nat → Int32) (hr0 : M.1 0 = r) (no ns nh ng : Nat) (ml mk : Nat → Nat) (ok : mOk r no ns nh ng ml mk) (l w g : Nat) (x y z : Int32) (hl : l < 4) (hw : w < 4) (hg : g < 4) (hx : x = nI l) (hy : y = nI w) (hz : z = nI g) (shown : Int32) : zX E YM_drawnOn 8 [.ref a, .int x, .int y, .int 0, .int z, .int 0, .int shown] (mw σ a M) (some (.int (mD r ml mk l w g shown))) (mQ σ a M) := by
  subst hr0; subst hx; subst hy; subst hz
  exact k_drawnOn w hw 0 l g 0 (ml l) shown mk hl hg (by decide) (ok.2.2.2.2.1 l hl).1 (ok.2.2.2.2.1 l hl).2 ok.2.2.2.2.2.1
theorem k_allowsOf (Mk : zMo) (hc : mCr M Mk) (no ns nh ng : Nat) (ml mk : Nat → Nat) (ok : mOk (M.1 0) no ns nh ng ml mk) (gi s : Nat) (hg : gi < ng) (hs : s < ns) : zX E YM_allowsOf 9 [.ref a, .int (nI gi), .int (nI s)] (mw σ a Mk) (some (.int (zo (mAl (M.1 0) ns nh ml mk gi s)))) (mQ σ a M) := by
  obtain ⟨g1, g2, g3⟩ := ok.2.2.2.2.2.2.2.2 gi hg
  obtain ⟨w1, w2⟩ := zr4 g1
  obtain ⟨l1, l2⟩ := zr4 g2
  obtain ⟨q1, q2⟩ := zr4 g3
  have hns := ok.2.1.2
  have hng := ok.2.2.2.1.2
  refine zX.of oM_allowsOf (by decide +kernel) rfl rfl (fun n => ?_)
  refine zj_sipush 0 (781) rfl rfl (by decide) ?_
  refine zj_iconst 1 (3) rfl rfl (by decide) ?_
  refine zj_iload_n 2 rfl rfl rfl ?_
  refine zn_imul 3 (3) (gi) rfl rfl rfl rfl ?_
  refine zn_iadd 4 (781) (3 * gi) rfl rfl rfl rfl ?_
  refine zj_istore_n 5 rfl rfl ?_
  refine zj_aload_n 6 rfl rfl rfl ?_
  refine zj_aload_n 7 rfl rfl rfl ?_
  refine zj_get 8 rfl rfl mw_0 rfl ?_
  refine zj_iload_n 9 rfl rfl rfl ?_
  refine zj_iconst 10 (1) rfl rfl (by decide) ?_
  refine zn_iadd 11 ((781) + (3 * gi)) (1) rfl rfl rfl rfl ?_
  refine zn_iald 12 (((781) + (3 * gi)) + (1)) rfl rfl (mw_1r hc) rfl (by omega) (by decide) ?_
  refine zj_aload_n 13 rfl rfl rfl ?_
  refine zj_get 14 rfl rfl mw_0 rfl ?_
  refine zj_iload_n 15 rfl rfl rfl ?_
  refine zn_iald 16 ((781) + (3 * gi)) rfl rfl (mw_1r hc) rfl (by omega) (by decide) ?_
  refine zj_iconst 17 (0) rfl rfl (by decide) ?_
  refine zj_aload_n 18 rfl rfl rfl ?_
  refine zj_get 19 rfl rfl mw_0 rfl ?_
  refine zj_iload_n 20 rfl rfl rfl ?_
  refine zj_iconst 21 (2) rfl rfl (by decide) ?_
  refine zn_iadd 22 ((781) + (3 * gi)) (2) rfl rfl rfl rfl ?_
  refine zn_iald 23 (((781) + (3 * gi)) + (2)) rfl rfl (mw_1r hc) rfl (by omega) (by decide) ?_
  refine zj_iconst 24 (0) rfl rfl (by decide) ?_
  refine zj_aload_n 25 rfl rfl rfl ?_
  refine zj_iload_n 26 rfl rfl rfl ?_
  refine zj_cvx 27 rfl rfl lk_8_219 ckM_shownFor (k_shownFor_r (M.1 0) hc.1 no ns nh ng ml mk ok _ (by omega)) rfl mw_0 rfl rfl rfl ?_
  refine zj_cvxX 28 rfl rfl lk_8_177 ckM_drawnOn (k_drawnOn_r (M.1 0) hc.1 no ns nh ng ml mk ok _ _ _ _ _ _ l1 w1 q1 l2 w2 q2 _) rfl mw_0 rfl rfl rfl (fun s1 hP1 => ?_)
  obtain ⟨M1, rfl, hc0⟩ := hP1
  have hc1 := hc.trans hc0
  refine zj_istore 29 rfl rfl ?_
  refine zj_iload 30 rfl rfl rfl ?_
  refine zj_aload_n 31 rfl rfl rfl ?_
  refine zj_iload_n 32 rfl rfl rfl ?_
  refine zj_cvx 33 rfl rfl lk_8_207 ckM_linesOf (k_linesOf_r (M.1 0) hc1.1 _ (by omega)) rfl mw_0 rfl rfl rfl ?_
  refine zj_ixor 34 rfl rfl ?_
  refine zj_csx 35 rfl rfl lk_8_184 ckM_bitsOf (k_bitsOf _) rfl rfl rfl rfl ?_
  refine zj_aload_n 36 rfl rfl rfl ?_
  refine zj_get 37 rfl rfl mw_0 rfl ?_
  refine zj_sipush 38 (817) rfl rfl (by decide) ?_
  refine zn_iald 39 (817) rfl rfl (mw_1r hc1) rfl (by omega) (by decide) ?_
  refine zj_icmp_gt 40 rfl rfl (fun c62 => ?_) (fun c62 => ?_)
  · refine zj_iconst 43 (0) rfl rfl (by decide) ?_
    refine zj_zreturn 44 rfl rfl rfl rfl ?_
    exact ⟨zrt (zo_f (Int32.not_le.mpr c62)), rfl, M1, rfl, hc1⟩
  · refine zj_iconst 41 (1) rfl rfl (by decide) ?_
    refine zj_goto 42 rfl rfl ?_
    refine zj_zreturn 44 rfl rfl rfl rfl ?_
    exact ⟨zrt (zo_t (Int32.not_lt.mp c62)), rfl, M1, rfl, hc1⟩
theorem k_Mallows (no ns nh ng : Nat) (ml mk : Nat → Nat) (ok : mOk (M.1 0) no ns nh ng ml mk) (gi s : Nat) (hg : gi < ng) (hs : s < ns) : zX E YM_allows 10 [.ref a, .int (nI gi), .int (nI s)] (mw σ a M) (some (.int (zo (mAl (M.1 0) ns nh ml mk gi s)))) (mQ σ a M) := by
  have hns := ok.2.1.2
  have hng := ok.2.2.2.1.2
  refine zX.of oM_allows (by decide +kernel) rfl rfl (fun n => ?_)
  refine zj_iload_n 0 rfl rfl rfl ?_
  refine zj_i2l 1 rfl rfl ?_
  refine zj_lconst 2 (0) rfl rfl (by decide) ?_
  refine zj_aload_n 3 rfl rfl rfl ?_
  refine zj_get 4 rfl rfl mw_0 rfl ?_
  refine zj_sipush 5 (780) rfl rfl (by decide) ?_
  refine zn_iald 6 (780) rfl rfl mw_1 rfl (by omega) (by decide) ?_
  rw [ok.2.2.2.1.1]
  refine zj_iconst 7 (1) rfl rfl (by decide) ?_
  refine zj_isub 8 rfl rfl ?_
  refine zj_i2l 9 rfl rfl ?_
  refine zj_csx 10 rfl rfl lk_8_51 ckM_in (k_in _ _ _) rfl rfl rfl rfl ?_
  refine zj_if_eq 11 rfl rfl (fun c17 => ?_) (fun c17 => ?_)
  · exact absurd (by rw [zl0, zm1_toInt (by omega), nI_toInt (by omega), Int64.toInt_zero]; omega) (zo_0.mp c17)
  · refine zj_aload_n 12 rfl rfl rfl ?_
    refine zj_iload_n 13 rfl rfl rfl ?_
    refine zj_cvx 14 rfl rfl lk_8_213 ckM_isSheet (k_isSheet _ ns ok.2.1.1 (by omega)) rfl mw_0 rfl rfl rfl ?_
    refine zj_if_ne 15 rfl rfl (fun c25 => ?_) (fun c25 => ?_)
    · refine zj_aload_n 18 rfl rfl rfl ?_
      refine zj_iload_n 19 rfl rfl rfl ?_
      refine zj_iload_n 20 rfl rfl rfl ?_
      refine zj_cvxX 21 rfl rfl lk_8_253 ckM_allowsOf (k_allowsOf M mCr.rfl no ns nh ng ml mk ok gi s hg hs) rfl mw_0 rfl rfl rfl (fun s1 hP1 => ?_)
      obtain ⟨M1, rfl, hc1⟩ := hP1
      refine zj_if_eq 22 rfl rfl (fun c37 => ?_) (fun c37 => ?_)
      · refine zj_iconst 25 (0) rfl rfl (by decide) ?_
        refine zj_ireturn 26 rfl rfl rfl ?_
        exact ⟨zrt (zo_f (zo_0.mp c37)), rfl, M1, rfl, hc1⟩
      · refine zj_iconst 23 (1) rfl rfl (by decide) ?_
        refine zj_goto 24 rfl rfl ?_
        refine zj_ireturn 26 rfl rfl rfl ?_
        exact ⟨zrt (zo_t (zo_n0.mp c37)), rfl, M1, rfl, hc1⟩
    · exact absurd (zr_of (n := ns) (by omega) (by omega)) (zo_0.mp c25)
theorem k_Mallows_bad (g s : Int32) (ns ng : Nat) (h2 : M.1 0 549 = nI ns) (hb2 : ns ≤ 16) (h4 : M.1 0 780 = nI ng) (hb4 : ng ≤ 12) (hv : ¬ (zr g ng ∧ zr s ns)) : zM E YM_allows 10 [.ref a, .int g, .int s] (mw σ a M) (some (.int (-2))) (mw σ a M) := by
  refine zM.of oM_allows (by decide +kernel) rfl rfl (fun n => ?_)
  refine zj_iload_n 0 rfl rfl rfl ?_
  refine zj_i2l 1 rfl rfl ?_
  refine zj_lconst 2 (0) rfl rfl (by decide) ?_
  refine zj_aload_n 3 rfl rfl rfl ?_
  refine zj_get 4 rfl rfl mw_0 rfl ?_
  refine zj_sipush 5 (780) rfl rfl (by decide) ?_
  refine zn_iald 6 (780) rfl rfl mw_1 rfl (by omega) (by decide) ?_
  rw [h4]
  refine zj_iconst 7 (1) rfl rfl (by decide) ?_
  refine zj_isub 8 rfl rfl ?_
  refine zj_i2l 9 rfl rfl ?_
  refine zj_csx 10 rfl rfl lk_8_51 ckM_in (k_in _ _ _) rfl rfl rfl rfl ?_
  refine zj_if_eq 11 rfl rfl (fun c17 => ?_) (fun c17 => ?_)
  · refine zj_bipush 16 (-2) rfl rfl (by decide) ?_
    refine zj_ireturn 17 rfl rfl rfl ?_
    exact ⟨rfl, rfl, rfl⟩
  · refine zj_aload_n 12 rfl rfl rfl ?_
    refine zj_iload_n 13 rfl rfl rfl ?_
    refine zj_cvx 14 rfl rfl lk_8_213 ckM_isSheet (k_isSheet _ ns h2 (by omega)) rfl mw_0 rfl rfl rfl ?_
    refine zj_if_ne 15 rfl rfl (fun c25 => ?_) (fun c25 => ?_)
    · exact absurd ⟨by have := zo_n0.mp c17; rw [zl0, zm1_toInt (by omega), Int64.toInt_zero] at this; unfold zr; omega, zo_n0.mp c25⟩ hv
    · refine zj_bipush 16 (-2) rfl rfl (by decide) ?_
      refine zj_ireturn 17 rfl rfl rfl ?_
      exact ⟨rfl, rfl, rfl⟩
end
end
