section
-- ===== PART A: goes FIRST, ahead of the names: the tables' words, and 'selects' of the private methods out of them =====
/-- a private method of a class that the tables say can be made, by its rows of tables_1 -/
def lw_okq (q : MethodName × Nat) : Prop := (q.1.cls ≠ "java/lang/invoke/MethodHandle" ∧ q.1.cls ≠ "java/lang/invoke/VarHandle") ∧ Cond.instantiable q.1.cls q.2 ∈ tables_1 ∧ Cond.privateMethod q.1 ∈ tables_1 ∧ Cond.instanceMethod q.1 ∈ tables_1
theorem lw_p0 : lw_okq (⟨"DiscLines", "anotherLiesAt", "(II)Z"⟩, 7) := ⟨⟨by decide +kernel, by decide +kernel⟩, List.mem_of_getElem? (i := 16) (by decide +kernel), List.mem_of_getElem? (i := 273) (by decide +kernel), List.mem_of_getElem? (i := 274) (by decide +kernel)⟩
theorem lw_p1 : lw_okq (⟨"DiscLines$Picture", "addUp", "()V"⟩, 4) := ⟨⟨by decide +kernel, by decide +kernel⟩, List.mem_of_getElem? (i := 192) (by decide +kernel), List.mem_of_getElem? (i := 298) (by decide +kernel), List.mem_of_getElem? (i := 299) (by decide +kernel)⟩
theorem lw_p2 : lw_okq (⟨"DiscLines$Picture", "blur", "(II)V"⟩, 4) := ⟨⟨by decide +kernel, by decide +kernel⟩, List.mem_of_getElem? (i := 192) (by decide +kernel), List.mem_of_getElem? (i := 307) (by decide +kernel), List.mem_of_getElem? (i := 308) (by decide +kernel)⟩
theorem lw_p3 : lw_okq (⟨"DiscLines$Picture", "blurredAt", "(II)I"⟩, 4) := ⟨⟨by decide +kernel, by decide +kernel⟩, List.mem_of_getElem? (i := 192) (by decide +kernel), List.mem_of_getElem? (i := 311) (by decide +kernel), List.mem_of_getElem? (i := 312) (by decide +kernel)⟩
theorem lw_p4 : lw_okq (⟨"DiscLines$Law", "read", "()V"⟩, 7) := ⟨⟨by decide +kernel, by decide +kernel⟩, List.mem_of_getElem? (i := 49) (by decide +kernel), List.mem_of_getElem? (i := 333) (by decide +kernel), List.mem_of_getElem? (i := 334) (by decide +kernel)⟩
theorem lw_p5 : lw_okq (⟨"DiscLines$Law", "readLevel", "(II)V"⟩, 7) := ⟨⟨by decide +kernel, by decide +kernel⟩, List.mem_of_getElem? (i := 49) (by decide +kernel), List.mem_of_getElem? (i := 337) (by decide +kernel), List.mem_of_getElem? (i := 338) (by decide +kernel)⟩
theorem lw_p6 : lw_okq (⟨"DiscLines$Law", "readUnit", "(I)V"⟩, 7) := ⟨⟨by decide +kernel, by decide +kernel⟩, List.mem_of_getElem? (i := 49) (by decide +kernel), List.mem_of_getElem? (i := 341) (by decide +kernel), List.mem_of_getElem? (i := 342) (by decide +kernel)⟩
theorem lw_p7 : lw_okq (⟨"DiscLines$Law", "readPlainUnit", "(I)V"⟩, 7) := ⟨⟨by decide +kernel, by decide +kernel⟩, List.mem_of_getElem? (i := 49) (by decide +kernel), List.mem_of_getElem? (i := 348) (by decide +kernel), List.mem_of_getElem? (i := 349) (by decide +kernel)⟩
theorem lw_p8 : lw_okq (⟨"DiscLines$Law", "nextSign", "()I"⟩, 7) := ⟨⟨by decide +kernel, by decide +kernel⟩, List.mem_of_getElem? (i := 49) (by decide +kernel), List.mem_of_getElem? (i := 352) (by decide +kernel), List.mem_of_getElem? (i := 353) (by decide +kernel)⟩
theorem lw_p9 : lw_okq (⟨"DiscLines$Law", "addStep", "(I)V"⟩, 7) := ⟨⟨by decide +kernel, by decide +kernel⟩, List.mem_of_getElem? (i := 49) (by decide +kernel), List.mem_of_getElem? (i := 359) (by decide +kernel), List.mem_of_getElem? (i := 360) (by decide +kernel)⟩
theorem lw_p10 : lw_okq (⟨"DiscLines$Law", "readDigits", "()V"⟩, 7) := ⟨⟨by decide +kernel, by decide +kernel⟩, List.mem_of_getElem? (i := 49) (by decide +kernel), List.mem_of_getElem? (i := 366) (by decide +kernel), List.mem_of_getElem? (i := 367) (by decide +kernel)⟩
theorem lw_p11 : lw_okq (⟨"DiscLines$Law", "noteFault", "(II)V"⟩, 7) := ⟨⟨by decide +kernel, by decide +kernel⟩, List.mem_of_getElem? (i := 49) (by decide +kernel), List.mem_of_getElem? (i := 370) (by decide +kernel), List.mem_of_getElem? (i := 371) (by decide +kernel)⟩
theorem lw_p12 : lw_okq (⟨"DiscLines$Law", "readInside", "(I)V"⟩, 7) := ⟨⟨by decide +kernel, by decide +kernel⟩, List.mem_of_getElem? (i := 49) (by decide +kernel), List.mem_of_getElem? (i := 374) (by decide +kernel), List.mem_of_getElem? (i := 375) (by decide +kernel)⟩
theorem lw_p13 : lw_okq (⟨"DiscLines", "look", "(IIIII)V"⟩, 7) := ⟨⟨by decide +kernel, by decide +kernel⟩, List.mem_of_getElem? (i := 16) (by decide +kernel), List.mem_of_getElem? (i := 401) (by decide +kernel), List.mem_of_getElem? (i := 402) (by decide +kernel)⟩
theorem lw_p14 : lw_okq (⟨"DiscLines$Eye", "aimAt", "(II)V"⟩, 5) := ⟨⟨by decide +kernel, by decide +kernel⟩, List.mem_of_getElem? (i := 186) (by decide +kernel), List.mem_of_getElem? (i := 413) (by decide +kernel), List.mem_of_getElem? (i := 414) (by decide +kernel)⟩
theorem lw_p15 : lw_okq (⟨"DiscLines$Eye", "work", "(LDiscLines$Law;)J"⟩, 5) := ⟨⟨by decide +kernel, by decide +kernel⟩, List.mem_of_getElem? (i := 186) (by decide +kernel), List.mem_of_getElem? (i := 422) (by decide +kernel), List.mem_of_getElem? (i := 423) (by decide +kernel)⟩
def lw_privs_1 : List (MethodName × Nat) := [(⟨"DiscLines", "anotherLiesAt", "(II)Z"⟩, 7), (⟨"DiscLines$Picture", "addUp", "()V"⟩, 4), (⟨"DiscLines$Picture", "blur", "(II)V"⟩, 4), (⟨"DiscLines$Picture", "blurredAt", "(II)I"⟩, 4), (⟨"DiscLines$Law", "read", "()V"⟩, 7), (⟨"DiscLines$Law", "readLevel", "(II)V"⟩, 7), (⟨"DiscLines$Law", "readUnit", "(I)V"⟩, 7), (⟨"DiscLines$Law", "readPlainUnit", "(I)V"⟩, 7), (⟨"DiscLines$Law", "nextSign", "()I"⟩, 7), (⟨"DiscLines$Law", "addStep", "(I)V"⟩, 7), (⟨"DiscLines$Law", "readDigits", "()V"⟩, 7), (⟨"DiscLines$Law", "noteFault", "(II)V"⟩, 7), (⟨"DiscLines$Law", "readInside", "(I)V"⟩, 7), (⟨"DiscLines", "look", "(IIIII)V"⟩, 7), (⟨"DiscLines$Eye", "aimAt", "(II)V"⟩, 5), (⟨"DiscLines$Eye", "work", "(LDiscLines$Law;)J"⟩, 5)]
theorem lw_r1 : ∀ q ∈ lw_privs_1, lw_okq q := List.forall_mem_cons.mpr ⟨lw_p0, List.forall_mem_cons.mpr ⟨lw_p1, List.forall_mem_cons.mpr ⟨lw_p2, List.forall_mem_cons.mpr ⟨lw_p3, List.forall_mem_cons.mpr ⟨lw_p4, List.forall_mem_cons.mpr ⟨lw_p5, List.forall_mem_cons.mpr ⟨lw_p6, List.forall_mem_cons.mpr ⟨lw_p7, List.forall_mem_cons.mpr ⟨lw_p8, List.forall_mem_cons.mpr ⟨lw_p9, List.forall_mem_cons.mpr ⟨lw_p10, List.forall_mem_cons.mpr ⟨lw_p11, List.forall_mem_cons.mpr ⟨lw_p12, List.forall_mem_cons.mpr ⟨lw_p13, List.forall_mem_cons.mpr ⟨lw_p14, List.forall_mem_cons.mpr ⟨lw_p15, fun _ h => absurd h List.not_mem_nil⟩⟩⟩⟩⟩⟩⟩⟩⟩⟩⟩⟩⟩⟩⟩⟩
theorem lw_p16 : lw_okq (⟨"DiscLines$Eye", "unitAt", "(I)J"⟩, 5) := ⟨⟨by decide +kernel, by decide +kernel⟩, List.mem_of_getElem? (i := 186) (by decide +kernel), List.mem_of_getElem? (i := 426) (by decide +kernel), List.mem_of_getElem? (i := 427) (by decide +kernel)⟩
theorem lw_p17 : lw_okq (⟨"DiscLines", "linesFromFar", "(III)I"⟩, 7) := ⟨⟨by decide +kernel, by decide +kernel⟩, List.mem_of_getElem? (i := 16) (by decide +kernel), List.mem_of_getElem? (i := 444) (by decide +kernel), List.mem_of_getElem? (i := 445) (by decide +kernel)⟩
theorem lw_p18 : lw_okq (⟨"DiscLines$Book", "sheetsShown", "(II)I"⟩, 11) := ⟨⟨by decide +kernel, by decide +kernel⟩, List.mem_of_getElem? (i := 82) (by decide +kernel), List.mem_of_getElem? (i := 496) (by decide +kernel), List.mem_of_getElem? (i := 497) (by decide +kernel)⟩
theorem lw_p19 : lw_okq (⟨"DiscLines", "areTwoSheets", "(II)Z"⟩, 7) := ⟨⟨by decide +kernel, by decide +kernel⟩, List.mem_of_getElem? (i := 16) (by decide +kernel), List.mem_of_getElem? (i := 526) (by decide +kernel), List.mem_of_getElem? (i := 527) (by decide +kernel)⟩
theorem lw_p20 : lw_okq (⟨"DiscLines", "setFraction", "(JJ)V"⟩, 7) := ⟨⟨by decide +kernel, by decide +kernel⟩, List.mem_of_getElem? (i := 16) (by decide +kernel), List.mem_of_getElem? (i := 540) (by decide +kernel), List.mem_of_getElem? (i := 541) (by decide +kernel)⟩
theorem lw_p21 : lw_okq (⟨"DiscLines$Book", "costOfOwn", "(II)I"⟩, 11) := ⟨⟨by decide +kernel, by decide +kernel⟩, List.mem_of_getElem? (i := 82) (by decide +kernel), List.mem_of_getElem? (i := 565) (by decide +kernel), List.mem_of_getElem? (i := 566) (by decide +kernel)⟩
theorem lw_p22 : lw_okq (⟨"DiscLines$Book", "costOfTaking", "(II)I"⟩, 11) := ⟨⟨by decide +kernel, by decide +kernel⟩, List.mem_of_getElem? (i := 82) (by decide +kernel), List.mem_of_getElem? (i := 570) (by decide +kernel), List.mem_of_getElem? (i := 571) (by decide +kernel)⟩
theorem lw_p23 : lw_okq (⟨"DiscLines", "allowsAll", "(II)Z"⟩, 7) := ⟨⟨by decide +kernel, by decide +kernel⟩, List.mem_of_getElem? (i := 16) (by decide +kernel), List.mem_of_getElem? (i := 606) (by decide +kernel), List.mem_of_getElem? (i := 607) (by decide +kernel)⟩
theorem lw_p24 : lw_okq (⟨"DiscLines", "areSheets", "(I)Z"⟩, 7) := ⟨⟨by decide +kernel, by decide +kernel⟩, List.mem_of_getElem? (i := 16) (by decide +kernel), List.mem_of_getElem? (i := 615) (by decide +kernel), List.mem_of_getElem? (i := 616) (by decide +kernel)⟩
theorem lw_p25 : lw_okq (⟨"DiscLines", "guessesAllowing", "(I)I"⟩, 7) := ⟨⟨by decide +kernel, by decide +kernel⟩, List.mem_of_getElem? (i := 16) (by decide +kernel), List.mem_of_getElem? (i := 619) (by decide +kernel), List.mem_of_getElem? (i := 620) (by decide +kernel)⟩
theorem lw_p26 : lw_okq (⟨"DiscLines", "drawByAllLaws", "(II)V"⟩, 7) := ⟨⟨by decide +kernel, by decide +kernel⟩, List.mem_of_getElem? (i := 16) (by decide +kernel), List.mem_of_getElem? (i := 637) (by decide +kernel), List.mem_of_getElem? (i := 638) (by decide +kernel)⟩
theorem lw_p27 : lw_okq (⟨"DiscLines", "countUnlike", "(II)I"⟩, 7) := ⟨⟨by decide +kernel, by decide +kernel⟩, List.mem_of_getElem? (i := 16) (by decide +kernel), List.mem_of_getElem? (i := 641) (by decide +kernel), List.mem_of_getElem? (i := 642) (by decide +kernel)⟩
theorem lw_p28 : lw_okq (⟨"DiscLines", "isDrawnAhead", "(III)Z"⟩, 7) := ⟨⟨by decide +kernel, by decide +kernel⟩, List.mem_of_getElem? (i := 16) (by decide +kernel), List.mem_of_getElem? (i := 645) (by decide +kernel), List.mem_of_getElem? (i := 646) (by decide +kernel)⟩
theorem lw_p29 : lw_okq (⟨"DiscLines$Book", "weightOfAllSheets", "()I"⟩, 11) := ⟨⟨by decide +kernel, by decide +kernel⟩, List.mem_of_getElem? (i := 82) (by decide +kernel), List.mem_of_getElem? (i := 657) (by decide +kernel), List.mem_of_getElem? (i := 658) (by decide +kernel)⟩
theorem lw_p30 : lw_okq (⟨"DiscLines$Book", "weightOfSheet", "(I)I"⟩, 11) := ⟨⟨by decide +kernel, by decide +kernel⟩, List.mem_of_getElem? (i := 82) (by decide +kernel), List.mem_of_getElem? (i := 661) (by decide +kernel), List.mem_of_getElem? (i := 662) (by decide +kernel)⟩
theorem lw_p31 : lw_okq (⟨"DiscLinesModel", "change", "(II)I"⟩, 21) := ⟨⟨by decide +kernel, by decide +kernel⟩, List.mem_of_getElem? (i := 760) (by decide +kernel), List.mem_of_getElem? (i := 846) (by decide +kernel), List.mem_of_getElem? (i := 847) (by decide +kernel)⟩
def lw_privs_2 : List (MethodName × Nat) := [(⟨"DiscLines$Eye", "unitAt", "(I)J"⟩, 5), (⟨"DiscLines", "linesFromFar", "(III)I"⟩, 7), (⟨"DiscLines$Book", "sheetsShown", "(II)I"⟩, 11), (⟨"DiscLines", "areTwoSheets", "(II)Z"⟩, 7), (⟨"DiscLines", "setFraction", "(JJ)V"⟩, 7), (⟨"DiscLines$Book", "costOfOwn", "(II)I"⟩, 11), (⟨"DiscLines$Book", "costOfTaking", "(II)I"⟩, 11), (⟨"DiscLines", "allowsAll", "(II)Z"⟩, 7), (⟨"DiscLines", "areSheets", "(I)Z"⟩, 7), (⟨"DiscLines", "guessesAllowing", "(I)I"⟩, 7), (⟨"DiscLines", "drawByAllLaws", "(II)V"⟩, 7), (⟨"DiscLines", "countUnlike", "(II)I"⟩, 7), (⟨"DiscLines", "isDrawnAhead", "(III)Z"⟩, 7), (⟨"DiscLines$Book", "weightOfAllSheets", "()I"⟩, 11), (⟨"DiscLines$Book", "weightOfSheet", "(I)I"⟩, 11), (⟨"DiscLinesModel", "change", "(II)I"⟩, 21)]
theorem lw_r2 : ∀ q ∈ lw_privs_2, lw_okq q := List.forall_mem_cons.mpr ⟨lw_p16, List.forall_mem_cons.mpr ⟨lw_p17, List.forall_mem_cons.mpr ⟨lw_p18, List.forall_mem_cons.mpr ⟨lw_p19, List.forall_mem_cons.mpr ⟨lw_p20, List.forall_mem_cons.mpr ⟨lw_p21, List.forall_mem_cons.mpr ⟨lw_p22, List.forall_mem_cons.mpr ⟨lw_p23, List.forall_mem_cons.mpr ⟨lw_p24, List.forall_mem_cons.mpr ⟨lw_p25, List.forall_mem_cons.mpr ⟨lw_p26, List.forall_mem_cons.mpr ⟨lw_p27, List.forall_mem_cons.mpr ⟨lw_p28, List.forall_mem_cons.mpr ⟨lw_p29, List.forall_mem_cons.mpr ⟨lw_p30, List.forall_mem_cons.mpr ⟨lw_p31, fun _ h => absurd h List.not_mem_nil⟩⟩⟩⟩⟩⟩⟩⟩⟩⟩⟩⟩⟩⟩⟩⟩
theorem lw_p32 : lw_okq (⟨"DiscLinesModel", "layWorld", "(II)V"⟩, 21) := ⟨⟨by decide +kernel, by decide +kernel⟩, List.mem_of_getElem? (i := 760) (by decide +kernel), List.mem_of_getElem? (i := 869) (by decide +kernel), List.mem_of_getElem? (i := 870) (by decide +kernel)⟩
theorem lw_p33 : lw_okq (⟨"DiscLinesModel", "seenAt", "(III)I"⟩, 21) := ⟨⟨by decide +kernel, by decide +kernel⟩, List.mem_of_getElem? (i := 760) (by decide +kernel), List.mem_of_getElem? (i := 873) (by decide +kernel), List.mem_of_getElem? (i := 874) (by decide +kernel)⟩
theorem lw_p34 : lw_okq (⟨"DiscLinesModel", "blurred", "(III)I"⟩, 21) := ⟨⟨by decide +kernel, by decide +kernel⟩, List.mem_of_getElem? (i := 760) (by decide +kernel), List.mem_of_getElem? (i := 877) (by decide +kernel), List.mem_of_getElem? (i := 878) (by decide +kernel)⟩
theorem lw_p35 : lw_okq (⟨"DiscLinesModel", "read", "(I)I"⟩, 21) := ⟨⟨by decide +kernel, by decide +kernel⟩, List.mem_of_getElem? (i := 760) (by decide +kernel), List.mem_of_getElem? (i := 901) (by decide +kernel), List.mem_of_getElem? (i := 902) (by decide +kernel)⟩
theorem lw_p36 : lw_okq (⟨"DiscLinesModel", "goSign", "(II)I"⟩, 21) := ⟨⟨by decide +kernel, by decide +kernel⟩, List.mem_of_getElem? (i := 760) (by decide +kernel), List.mem_of_getElem? (i := 905) (by decide +kernel), List.mem_of_getElem? (i := 906) (by decide +kernel)⟩
theorem lw_p37 : lw_okq (⟨"DiscLinesModel", "goBehind", "(II)I"⟩, 21) := ⟨⟨by decide +kernel, by decide +kernel⟩, List.mem_of_getElem? (i := 760) (by decide +kernel), List.mem_of_getElem? (i := 912) (by decide +kernel), List.mem_of_getElem? (i := 913) (by decide +kernel)⟩
theorem lw_p38 : lw_okq (⟨"DiscLinesModel", "layDown", "(I)V"⟩, 21) := ⟨⟨by decide +kernel, by decide +kernel⟩, List.mem_of_getElem? (i := 760) (by decide +kernel), List.mem_of_getElem? (i := 916) (by decide +kernel), List.mem_of_getElem? (i := 917) (by decide +kernel)⟩
theorem lw_p39 : lw_okq (⟨"DiscLinesModel", "lay", "(IJ)V"⟩, 21) := ⟨⟨by decide +kernel, by decide +kernel⟩, List.mem_of_getElem? (i := 760) (by decide +kernel), List.mem_of_getElem? (i := 923) (by decide +kernel), List.mem_of_getElem? (i := 924) (by decide +kernel)⟩
theorem lw_p40 : lw_okq (⟨"DiscLinesModel", "join", "(I)V"⟩, 21) := ⟨⟨by decide +kernel, by decide +kernel⟩, List.mem_of_getElem? (i := 760) (by decide +kernel), List.mem_of_getElem? (i := 930) (by decide +kernel), List.mem_of_getElem? (i := 931) (by decide +kernel)⟩
theorem lw_p41 : lw_okq (⟨"DiscLinesModel", "goUnit", "(II)I"⟩, 21) := ⟨⟨by decide +kernel, by decide +kernel⟩, List.mem_of_getElem? (i := 760) (by decide +kernel), List.mem_of_getElem? (i := 934) (by decide +kernel), List.mem_of_getElem? (i := 935) (by decide +kernel)⟩
theorem lw_p42 : lw_okq (⟨"DiscLinesModel", "drawnOn", "(IIIIII)I"⟩, 21) := ⟨⟨by decide +kernel, by decide +kernel⟩, List.mem_of_getElem? (i := 760) (by decide +kernel), List.mem_of_getElem? (i := 949) (by decide +kernel), List.mem_of_getElem? (i := 950) (by decide +kernel)⟩
theorem lw_p43 : lw_okq (⟨"DiscLinesModel", "drawnOf", "(IIII)I"⟩, 21) := ⟨⟨by decide +kernel, by decide +kernel⟩, List.mem_of_getElem? (i := 760) (by decide +kernel), List.mem_of_getElem? (i := 953) (by decide +kernel), List.mem_of_getElem? (i := 954) (by decide +kernel)⟩
theorem lw_p44 : lw_okq (⟨"DiscLinesModel", "tells", "()Z"⟩, 21) := ⟨⟨by decide +kernel, by decide +kernel⟩, List.mem_of_getElem? (i := 760) (by decide +kernel), List.mem_of_getElem? (i := 960) (by decide +kernel), List.mem_of_getElem? (i := 961) (by decide +kernel)⟩
theorem lw_p45 : lw_okq (⟨"DiscLinesModel", "drawnFar", "(III)I"⟩, 21) := ⟨⟨by decide +kernel, by decide +kernel⟩, List.mem_of_getElem? (i := 760) (by decide +kernel), List.mem_of_getElem? (i := 971) (by decide +kernel), List.mem_of_getElem? (i := 972) (by decide +kernel)⟩
theorem lw_p46 : lw_okq (⟨"DiscLinesModel", "isNext", "(II)Z"⟩, 21) := ⟨⟨by decide +kernel, by decide +kernel⟩, List.mem_of_getElem? (i := 760) (by decide +kernel), List.mem_of_getElem? (i := 991) (by decide +kernel), List.mem_of_getElem? (i := 992) (by decide +kernel)⟩
theorem lw_p47 : lw_okq (⟨"DiscLinesModel", "isObserver", "(I)Z"⟩, 21) := ⟨⟨by decide +kernel, by decide +kernel⟩, List.mem_of_getElem? (i := 760) (by decide +kernel), List.mem_of_getElem? (i := 995) (by decide +kernel), List.mem_of_getElem? (i := 996) (by decide +kernel)⟩
def lw_privs_3 : List (MethodName × Nat) := [(⟨"DiscLinesModel", "layWorld", "(II)V"⟩, 21), (⟨"DiscLinesModel", "seenAt", "(III)I"⟩, 21), (⟨"DiscLinesModel", "blurred", "(III)I"⟩, 21), (⟨"DiscLinesModel", "read", "(I)I"⟩, 21), (⟨"DiscLinesModel", "goSign", "(II)I"⟩, 21), (⟨"DiscLinesModel", "goBehind", "(II)I"⟩, 21), (⟨"DiscLinesModel", "layDown", "(I)V"⟩, 21), (⟨"DiscLinesModel", "lay", "(IJ)V"⟩, 21), (⟨"DiscLinesModel", "join", "(I)V"⟩, 21), (⟨"DiscLinesModel", "goUnit", "(II)I"⟩, 21), (⟨"DiscLinesModel", "drawnOn", "(IIIIII)I"⟩, 21), (⟨"DiscLinesModel", "drawnOf", "(IIII)I"⟩, 21), (⟨"DiscLinesModel", "tells", "()Z"⟩, 21), (⟨"DiscLinesModel", "drawnFar", "(III)I"⟩, 21), (⟨"DiscLinesModel", "isNext", "(II)Z"⟩, 21), (⟨"DiscLinesModel", "isObserver", "(I)Z"⟩, 21)]
theorem lw_r3 : ∀ q ∈ lw_privs_3, lw_okq q := List.forall_mem_cons.mpr ⟨lw_p32, List.forall_mem_cons.mpr ⟨lw_p33, List.forall_mem_cons.mpr ⟨lw_p34, List.forall_mem_cons.mpr ⟨lw_p35, List.forall_mem_cons.mpr ⟨lw_p36, List.forall_mem_cons.mpr ⟨lw_p37, List.forall_mem_cons.mpr ⟨lw_p38, List.forall_mem_cons.mpr ⟨lw_p39, List.forall_mem_cons.mpr ⟨lw_p40, List.forall_mem_cons.mpr ⟨lw_p41, List.forall_mem_cons.mpr ⟨lw_p42, List.forall_mem_cons.mpr ⟨lw_p43, List.forall_mem_cons.mpr ⟨lw_p44, List.forall_mem_cons.mpr ⟨lw_p45, List.forall_mem_cons.mpr ⟨lw_p46, List.forall_mem_cons.mpr ⟨lw_p47, fun _ h => absurd h List.not_mem_nil⟩⟩⟩⟩⟩⟩⟩⟩⟩⟩⟩⟩⟩⟩⟩⟩
theorem lw_p48 : lw_okq (⟨"DiscLinesModel", "nightOf", "(I)I"⟩, 21) := ⟨⟨by decide +kernel, by decide +kernel⟩, List.mem_of_getElem? (i := 760) (by decide +kernel), List.mem_of_getElem? (i := 999) (by decide +kernel), List.mem_of_getElem? (i := 1000) (by decide +kernel)⟩
theorem lw_p49 : lw_okq (⟨"DiscLinesModel", "addSheet", "(III)I"⟩, 21) := ⟨⟨by decide +kernel, by decide +kernel⟩, List.mem_of_getElem? (i := 760) (by decide +kernel), List.mem_of_getElem? (i := 1004) (by decide +kernel), List.mem_of_getElem? (i := 1005) (by decide +kernel)⟩
theorem lw_p50 : lw_okq (⟨"DiscLinesModel", "shownBy", "(II)I"⟩, 21) := ⟨⟨by decide +kernel, by decide +kernel⟩, List.mem_of_getElem? (i := 760) (by decide +kernel), List.mem_of_getElem? (i := 1012) (by decide +kernel), List.mem_of_getElem? (i := 1013) (by decide +kernel)⟩
theorem lw_p51 : lw_okq (⟨"DiscLinesModel", "sheetsBy", "(II)I"⟩, 21) := ⟨⟨by decide +kernel, by decide +kernel⟩, List.mem_of_getElem? (i := 760) (by decide +kernel), List.mem_of_getElem? (i := 1016) (by decide +kernel), List.mem_of_getElem? (i := 1017) (by decide +kernel)⟩
theorem lw_p52 : lw_okq (⟨"DiscLinesModel", "linesOf", "(I)I"⟩, 21) := ⟨⟨by decide +kernel, by decide +kernel⟩, List.mem_of_getElem? (i := 760) (by decide +kernel), List.mem_of_getElem? (i := 1020) (by decide +kernel), List.mem_of_getElem? (i := 1021) (by decide +kernel)⟩
theorem lw_p53 : lw_okq (⟨"DiscLinesModel", "isSheet", "(I)Z"⟩, 21) := ⟨⟨by decide +kernel, by decide +kernel⟩, List.mem_of_getElem? (i := 760) (by decide +kernel), List.mem_of_getElem? (i := 1028) (by decide +kernel), List.mem_of_getElem? (i := 1029) (by decide +kernel)⟩
theorem lw_p54 : lw_okq (⟨"DiscLinesModel", "sheetTold", "(II)I"⟩, 21) := ⟨⟨by decide +kernel, by decide +kernel⟩, List.mem_of_getElem? (i := 760) (by decide +kernel), List.mem_of_getElem? (i := 1036) (by decide +kernel), List.mem_of_getElem? (i := 1037) (by decide +kernel)⟩
theorem lw_p55 : lw_okq (⟨"DiscLinesModel", "observerOf", "(I)I"⟩, 21) := ⟨⟨by decide +kernel, by decide +kernel⟩, List.mem_of_getElem? (i := 760) (by decide +kernel), List.mem_of_getElem? (i := 1040) (by decide +kernel), List.mem_of_getElem? (i := 1041) (by decide +kernel)⟩
theorem lw_p56 : lw_okq (⟨"DiscLinesModel", "shownFor", "(I)I"⟩, 21) := ⟨⟨by decide +kernel, by decide +kernel⟩, List.mem_of_getElem? (i := 760) (by decide +kernel), List.mem_of_getElem? (i := 1044) (by decide +kernel), List.mem_of_getElem? (i := 1045) (by decide +kernel)⟩
theorem lw_p57 : lw_okq (⟨"DiscLinesModel", "isPair", "(II)Z"⟩, 21) := ⟨⟨by decide +kernel, by decide +kernel⟩, List.mem_of_getElem? (i := 760) (by decide +kernel), List.mem_of_getElem? (i := 1052) (by decide +kernel), List.mem_of_getElem? (i := 1053) (by decide +kernel)⟩
theorem lw_p58 : lw_okq (⟨"DiscLinesModel", "mayHave", "(I)I"⟩, 21) := ⟨⟨by decide +kernel, by decide +kernel⟩, List.mem_of_getElem? (i := 760) (by decide +kernel), List.mem_of_getElem? (i := 1080) (by decide +kernel), List.mem_of_getElem? (i := 1081) (by decide +kernel)⟩
theorem lw_p59 : lw_okq (⟨"DiscLinesModel", "oldest", "(I)I"⟩, 21) := ⟨⟨by decide +kernel, by decide +kernel⟩, List.mem_of_getElem? (i := 760) (by decide +kernel), List.mem_of_getElem? (i := 1085) (by decide +kernel), List.mem_of_getElem? (i := 1086) (by decide +kernel)⟩
theorem lw_p60 : lw_okq (⟨"DiscLinesModel", "allowsOf", "(II)Z"⟩, 21) := ⟨⟨by decide +kernel, by decide +kernel⟩, List.mem_of_getElem? (i := 760) (by decide +kernel), List.mem_of_getElem? (i := 1105) (by decide +kernel), List.mem_of_getElem? (i := 1106) (by decide +kernel)⟩
theorem lw_p61 : lw_okq (⟨"DiscLinesModel", "isSheets", "(I)Z"⟩, 21) := ⟨⟨by decide +kernel, by decide +kernel⟩, List.mem_of_getElem? (i := 760) (by decide +kernel), List.mem_of_getElem? (i := 1113) (by decide +kernel), List.mem_of_getElem? (i := 1114) (by decide +kernel)⟩
theorem lw_p62 : lw_okq (⟨"DiscLinesModel", "mayBeOf", "(I)I"⟩, 21) := ⟨⟨by decide +kernel, by decide +kernel⟩, List.mem_of_getElem? (i := 760) (by decide +kernel), List.mem_of_getElem? (i := 1117) (by decide +kernel), List.mem_of_getElem? (i := 1118) (by decide +kernel)⟩
theorem lw_p63 : lw_okq (⟨"DiscLinesModel", "worldsBy", "(I)I"⟩, 21) := ⟨⟨by decide +kernel, by decide +kernel⟩, List.mem_of_getElem? (i := 760) (by decide +kernel), List.mem_of_getElem? (i := 1125) (by decide +kernel), List.mem_of_getElem? (i := 1126) (by decide +kernel)⟩
def lw_privs_4 : List (MethodName × Nat) := [(⟨"DiscLinesModel", "nightOf", "(I)I"⟩, 21), (⟨"DiscLinesModel", "addSheet", "(III)I"⟩, 21), (⟨"DiscLinesModel", "shownBy", "(II)I"⟩, 21), (⟨"DiscLinesModel", "sheetsBy", "(II)I"⟩, 21), (⟨"DiscLinesModel", "linesOf", "(I)I"⟩, 21), (⟨"DiscLinesModel", "isSheet", "(I)Z"⟩, 21), (⟨"DiscLinesModel", "sheetTold", "(II)I"⟩, 21), (⟨"DiscLinesModel", "observerOf", "(I)I"⟩, 21), (⟨"DiscLinesModel", "shownFor", "(I)I"⟩, 21), (⟨"DiscLinesModel", "isPair", "(II)Z"⟩, 21), (⟨"DiscLinesModel", "mayHave", "(I)I"⟩, 21), (⟨"DiscLinesModel", "oldest", "(I)I"⟩, 21), (⟨"DiscLinesModel", "allowsOf", "(II)Z"⟩, 21), (⟨"DiscLinesModel", "isSheets", "(I)Z"⟩, 21), (⟨"DiscLinesModel", "mayBeOf", "(I)I"⟩, 21), (⟨"DiscLinesModel", "worldsBy", "(I)I"⟩, 21)]
theorem lw_r4 : ∀ q ∈ lw_privs_4, lw_okq q := List.forall_mem_cons.mpr ⟨lw_p48, List.forall_mem_cons.mpr ⟨lw_p49, List.forall_mem_cons.mpr ⟨lw_p50, List.forall_mem_cons.mpr ⟨lw_p51, List.forall_mem_cons.mpr ⟨lw_p52, List.forall_mem_cons.mpr ⟨lw_p53, List.forall_mem_cons.mpr ⟨lw_p54, List.forall_mem_cons.mpr ⟨lw_p55, List.forall_mem_cons.mpr ⟨lw_p56, List.forall_mem_cons.mpr ⟨lw_p57, List.forall_mem_cons.mpr ⟨lw_p58, List.forall_mem_cons.mpr ⟨lw_p59, List.forall_mem_cons.mpr ⟨lw_p60, List.forall_mem_cons.mpr ⟨lw_p61, List.forall_mem_cons.mpr ⟨lw_p62, List.forall_mem_cons.mpr ⟨lw_p63, fun _ h => absurd h List.not_mem_nil⟩⟩⟩⟩⟩⟩⟩⟩⟩⟩⟩⟩⟩⟩⟩⟩
theorem lw_p64 : lw_okq (⟨"DiscLinesModel", "unlikeWays", "(III)I"⟩, 21) := ⟨⟨by decide +kernel, by decide +kernel⟩, List.mem_of_getElem? (i := 760) (by decide +kernel), List.mem_of_getElem? (i := 1134) (by decide +kernel), List.mem_of_getElem? (i := 1135) (by decide +kernel)⟩
theorem lw_p65 : lw_okq (⟨"DiscLinesModel", "weight", "(I)I"⟩, 21) := ⟨⟨by decide +kernel, by decide +kernel⟩, List.mem_of_getElem? (i := 760) (by decide +kernel), List.mem_of_getElem? (i := 1143) (by decide +kernel), List.mem_of_getElem? (i := 1144) (by decide +kernel)⟩
theorem lw_p66 : lw_okq (⟨"DiscLinesModel", "weightOf", "(I)I"⟩, 21) := ⟨⟨by decide +kernel, by decide +kernel⟩, List.mem_of_getElem? (i := 760) (by decide +kernel), List.mem_of_getElem? (i := 1147) (by decide +kernel), List.mem_of_getElem? (i := 1148) (by decide +kernel)⟩
theorem lw_p67 : lw_okq (⟨"DiscLinesModel", "countOf", "(I)I"⟩, 21) := ⟨⟨by decide +kernel, by decide +kernel⟩, List.mem_of_getElem? (i := 760) (by decide +kernel), List.mem_of_getElem? (i := 1167) (by decide +kernel), List.mem_of_getElem? (i := 1168) (by decide +kernel)⟩
theorem lw_p68 : lw_okq (⟨"DiscLinesModel", "tell", "(J)V"⟩, 21) := ⟨⟨by decide +kernel, by decide +kernel⟩, List.mem_of_getElem? (i := 760) (by decide +kernel), List.mem_of_getElem? (i := 1176) (by decide +kernel), List.mem_of_getElem? (i := 1177) (by decide +kernel)⟩
theorem lw_p69 : lw_okq (⟨"DiscLinesModel", "tellRow", "(II)V"⟩, 21) := ⟨⟨by decide +kernel, by decide +kernel⟩, List.mem_of_getElem? (i := 760) (by decide +kernel), List.mem_of_getElem? (i := 1181) (by decide +kernel), List.mem_of_getElem? (i := 1182) (by decide +kernel)⟩
def lw_privs_5 : List (MethodName × Nat) := [(⟨"DiscLinesModel", "unlikeWays", "(III)I"⟩, 21), (⟨"DiscLinesModel", "weight", "(I)I"⟩, 21), (⟨"DiscLinesModel", "weightOf", "(I)I"⟩, 21), (⟨"DiscLinesModel", "countOf", "(I)I"⟩, 21), (⟨"DiscLinesModel", "tell", "(J)V"⟩, 21), (⟨"DiscLinesModel", "tellRow", "(II)V"⟩, 21)]
theorem lw_r5 : ∀ q ∈ lw_privs_5, lw_okq q := List.forall_mem_cons.mpr ⟨lw_p64, List.forall_mem_cons.mpr ⟨lw_p65, List.forall_mem_cons.mpr ⟨lw_p66, List.forall_mem_cons.mpr ⟨lw_p67, List.forall_mem_cons.mpr ⟨lw_p68, List.forall_mem_cons.mpr ⟨lw_p69, fun _ h => absurd h List.not_mem_nil⟩⟩⟩⟩⟩⟩
def lw_privs : List (MethodName × Nat) := lw_privs_1 ++ (lw_privs_2 ++ (lw_privs_3 ++ (lw_privs_4 ++ (lw_privs_5))))
def lw_tbl : List Cond := k2_sels lw_privs ++ tables_1
theorem lw_privs_ok : ∀ q ∈ lw_privs, lw_okq q := by
  show ∀ q ∈ lw_privs_1 ++ (lw_privs_2 ++ (lw_privs_3 ++ (lw_privs_4 ++ (lw_privs_5)))), lw_okq q
  exact List.forall_mem_append.mpr ⟨lw_r1, List.forall_mem_append.mpr ⟨lw_r2, List.forall_mem_append.mpr ⟨lw_r3, List.forall_mem_append.mpr ⟨lw_r4, lw_r5⟩⟩⟩⟩
end
section
/-! names of the classes, their fields; the links of the constant pools, by number -/
def zR0 : String := "DiscLines$Book"
def zR1 : String := "DiscLines$Eye"
def zR2 : String := "DiscLines$Guesses"
def zR3 : String := "DiscLines$Law"
def zR4 : String := "DiscLines$Picture"
def zR5 : String := "DiscLines$State"
def zR6 : String := "DiscLines$World"
def zR7 : String := "DiscLines"
def zR8 : String := "DiscLinesModel"
def zR9 : String := "DiscLines$Step"
def zR10 : String := "DiscLinesLaw"
def zR11 : String := "java/lang/Integer"
def zR12 : String := "java/lang/Math"
def zR13 : String := "java/util/Arrays"
def zR14 : String := "java/lang/System"
def zT0 : u_T := fun k => match k with
  | 0 => ("DiscLines$Book", "observerLaws", "[I", true)
  | 1 => ("DiscLines$Book", "observerWeights", "[I", true)
  | 2 => ("DiscLines$Book", "observerCount", "I", false)
  | 3 => ("DiscLines$Book", "sheetObservers", "[I", true)
  | 4 => ("DiscLines$Book", "sheetNights", "[I", true)
  | 5 => ("DiscLines$Book", "sheetLines", "[I", true)
  | 6 => ("DiscLines$Book", "sheetCount", "I", false)
  | 7 => ("DiscLines$Book", "shownSheets", "[I", true)
  | 8 => ("DiscLines$Book", "shownObservers", "[I", true)
  | 9 => ("DiscLines$Book", "shownNights", "[I", true)
  | _ => ("DiscLines$Book", "showCount", "I", false)
def zy0 : Nat → FieldType := fun k => match k with
  | 0 => .array .int
  | 1 => .array .int
  | 2 => .int
  | 3 => .array .int
  | 4 => .array .int
  | 5 => .array .int
  | 6 => .int
  | 7 => .array .int
  | 8 => .array .int
  | 9 => .array .int
  | _ => .int
theorem zn0 : ∀ a, a < 11 → ∀ b, b < 11 → a ≠ b → (zT0 a).2.1 ≠ (zT0 b).2.1 := by decide +kernel
theorem zq0 : ∀ k, k < 11 → parseFieldDescriptor (zT0 k).2.2.1 = some (zy0 k) := by decide +kernel
def zT1 : u_T := fun k => match k with
  | 0 => ("DiscLines$Eye", "picture", "LDiscLines$Picture;", true)
  | 1 => ("DiscLines$Eye", "units", "[J", true)
  | 2 => ("DiscLines$Eye", "stack", "[J", true)
  | 3 => ("DiscLines$Eye", "linesOfUnshown", "I", false)
  | _ => ("DiscLines$Eye", "linesOfShown", "I", false)
def zy1 : Nat → FieldType := fun k => match k with
  | 0 => .object "DiscLines$Picture"
  | 1 => .array .long
  | 2 => .array .long
  | 3 => .int
  | _ => .int
theorem zn1 : ∀ a, a < 5 → ∀ b, b < 5 → a ≠ b → (zT1 a).2.1 ≠ (zT1 b).2.1 := by decide +kernel
theorem zq1 : ∀ k, k < 5 → parseFieldDescriptor (zT1 k).2.2.1 = some (zy1 k) := by decide +kernel
def zT2 : u_T := fun k => match k with
  | 0 => ("DiscLines$Guesses", "worlds", "[I", true)
  | 1 => ("DiscLines$Guesses", "laws", "[I", true)
  | 2 => ("DiscLines$Guesses", "glasses", "[I", true)
  | _ => ("DiscLines$Guesses", "size", "I", false)
def zy2 : Nat → FieldType := fun k => match k with
  | 0 => .array .int
  | 1 => .array .int
  | 2 => .array .int
  | _ => .int
theorem zn2 : ∀ a, a < 4 → ∀ b, b < 4 → a ≠ b → (zT2 a).2.1 ≠ (zT2 b).2.1 := by decide +kernel
theorem zq2 : ∀ k, k < 4 → parseFieldDescriptor (zT2 k).2.2.1 = some (zy2 k) := by decide +kernel
def zT3 : u_T := fun k => match k with
  | 0 => ("DiscLines$Law", "signs", "[I", true)
  | 1 => ("DiscLines$Law", "length", "I", false)
  | 2 => ("DiscLines$Law", "fault", "I", false)
  | 3 => ("DiscLines$Law", "steps", "[I", true)
  | 4 => ("DiscLines$Law", "stepCount", "I", false)
  | 5 => ("DiscLines$Law", "asksShown", "Z", false)
  | _ => ("DiscLines$Law", "place", "I", false)
def zy3 : Nat → FieldType := fun k => match k with
  | 0 => .array .int
  | 1 => .int
  | 2 => .int
  | 3 => .array .int
  | 4 => .int
  | 5 => .boolean
  | _ => .int
theorem zn3 : ∀ a, a < 7 → ∀ b, b < 7 → a ≠ b → (zT3 a).2.1 ≠ (zT3 b).2.1 := by decide +kernel
theorem zq3 : ∀ k, k < 7 → parseFieldDescriptor (zT3 k).2.2.1 = some (zy3 k) := by decide +kernel
def zT4 : u_T := fun k => match k with
  | 0 => ("DiscLines$Picture", "shades", "[I", true)
  | 1 => ("DiscLines$Picture", "sums", "[I", true)
  | 2 => ("DiscLines$Picture", "values", "[I", true)
  | _ => ("DiscLines$Picture", "glass", "I", false)
def zy4 : Nat → FieldType := fun k => match k with
  | 0 => .array .int
  | 1 => .array .int
  | 2 => .array .int
  | _ => .int
theorem zn4 : ∀ a, a < 4 → ∀ b, b < 4 → a ≠ b → (zT4 a).2.1 ≠ (zT4 b).2.1 := by decide +kernel
theorem zq4 : ∀ k, k < 4 → parseFieldDescriptor (zT4 k).2.2.1 = some (zy4 k) := by decide +kernel
def zT5 : u_T := fun k => match k with
  | 0 => ("DiscLines$State", "worlds", "[LDiscLines$World;", true)
  | 1 => ("DiscLines$State", "marks", "[I", true)
  | 2 => ("DiscLines$State", "laws", "[LDiscLines$Law;", true)
  | 3 => ("DiscLines$State", "book", "LDiscLines$Book;", true)
  | 4 => ("DiscLines$State", "guesses", "LDiscLines$Guesses;", true)
  | 5 => ("DiscLines$State", "own", "I", false)
  | _ => ("DiscLines$State", "error", "I", false)
def zy5 : Nat → FieldType := fun k => match k with
  | 0 => .array (.object "DiscLines$World")
  | 1 => .array .int
  | 2 => .array (.object "DiscLines$Law")
  | 3 => .object "DiscLines$Book"
  | 4 => .object "DiscLines$Guesses"
  | 5 => .int
  | _ => .int
theorem zn5 : ∀ a, a < 7 → ∀ b, b < 7 → a ≠ b → (zT5 a).2.1 ≠ (zT5 b).2.1 := by decide +kernel
theorem zq5 : ∀ k, k < 7 → parseFieldDescriptor (zT5 k).2.2.1 = some (zy5 k) := by decide +kernel
def zT6 : u_T := fun k => match k with
  | 0 => ("DiscLines$World", "shades", "[I", true)
  | _ => ("DiscLines$World", "greens", "[I", true)
def zy6 : Nat → FieldType := fun k => match k with
  | 0 => .array .int
  | _ => .array .int
theorem zn6 : ∀ a, a < 2 → ∀ b, b < 2 → a ≠ b → (zT6 a).2.1 ≠ (zT6 b).2.1 := by decide +kernel
theorem zq6 : ∀ k, k < 2 → parseFieldDescriptor (zT6 k).2.2.1 = some (zy6 k) := by decide +kernel
def zT7 : u_T := fun k => match k with
  | 0 => ("DiscLines", "now", "LDiscLines$State;", true)
  | 1 => ("DiscLines", "images", "[LDiscLines$State;", true)
  | 2 => ("DiscLines", "kept", "[Z", true)
  | 3 => ("DiscLines", "eye", "LDiscLines$Eye;", true)
  | 4 => ("DiscLines", "drawings", "[I", true)
  | 5 => ("DiscLines", "above", "J", false)
  | _ => ("DiscLines", "below", "J", false)
def zy7 : Nat → FieldType := fun k => match k with
  | 0 => .object "DiscLines$State"
  | 1 => .array (.object "DiscLines$State")
  | 2 => .array .boolean
  | 3 => .object "DiscLines$Eye"
  | 4 => .array .int
  | 5 => .long
  | _ => .long
theorem zn7 : ∀ a, a < 7 → ∀ b, b < 7 → a ≠ b → (zT7 a).2.1 ≠ (zT7 b).2.1 := by decide +kernel
theorem zq7 : ∀ k, k < 7 → parseFieldDescriptor (zT7 k).2.2.1 = some (zy7 k) := by decide +kernel
def zT8 : u_T := fun k => match k with
  | 0 => ("DiscLinesModel", "row", "[I", true)
  | 1 => ("DiscLinesModel", "kept", "[I", true)
  | 2 => ("DiscLinesModel", "isKept", "[Z", true)
  | 3 => ("DiscLinesModel", "up", "J", false)
  | 4 => ("DiscLinesModel", "low", "J", false)
  | 5 => ("DiscLinesModel", "picture", "[I", true)
  | 6 => ("DiscLinesModel", "codes", "[I", true)
  | 7 => ("DiscLinesModel", "numbers", "[J", true)
  | 8 => ("DiscLinesModel", "codeMany", "I", false)
  | 9 => ("DiscLinesModel", "waits", "[I", true)
  | 10 => ("DiscLinesModel", "waiting", "I", false)
  | 11 => ("DiscLinesModel", "depth", "I", false)
  | 12 => ("DiscLinesModel", "isCompared", "[Z", true)
  | 13 => ("DiscLinesModel", "isBehind", "Z", false)
  | 14 => ("DiscLinesModel", "digits", "I", false)
  | 15 => ("DiscLinesModel", "numberAt", "I", false)
  | 16 => ("DiscLinesModel", "letters", "[J", true)
  | 17 => ("DiscLinesModel", "stack", "[J", true)
  | 18 => ("DiscLinesModel", "leastCost", "I", false)
  | 19 => ("DiscLinesModel", "drawings", "[I", true)
  | _ => ("DiscLinesModel", "hash", "J", false)
def zy8 : Nat → FieldType := fun k => match k with
  | 0 => .array .int
  | 1 => .array .int
  | 2 => .array .boolean
  | 3 => .long
  | 4 => .long
  | 5 => .array .int
  | 6 => .array .int
  | 7 => .array .long
  | 8 => .int
  | 9 => .array .int
  | 10 => .int
  | 11 => .int
  | 12 => .array .boolean
  | 13 => .boolean
  | 14 => .int
  | 15 => .int
  | 16 => .array .long
  | 17 => .array .long
  | 18 => .int
  | 19 => .array .int
  | _ => .long
theorem zn8 : ∀ a, a < 21 → ∀ b, b < 21 → a ≠ b → (zT8 a).2.1 ≠ (zT8 b).2.1 := by decide +kernel
theorem zq8 : ∀ k, k < 21 → parseFieldDescriptor (zT8 k).2.2.1 = some (zy8 k) := by decide +kernel
def zcn : Nat → String := fun k => match k with
  | 0 => zR0
  | 1 => zR1
  | 2 => zR2
  | 3 => zR3
  | 4 => zR4
  | 5 => zR5
  | 6 => zR6
  | 7 => zR7
  | 8 => zR8
  | 9 => zR9
  | 10 => zR10
  | 11 => zR11
  | 12 => zR12
  | 13 => zR13
  | _ => zR14
abbrev zcl : List vw_C := [(zR0, zT0, 11), (zR1, zT1, 5), (zR2, zT2, 4), (zR3, zT3, 7), (zR4, zT4, 4), (zR5, zT5, 7), (zR6, zT6, 2), (zR7, zT7, 7), (zR8, zT8, 21)]
def zTT : Nat → u_T := fun k => match k with
  | 0 => zT0
  | 1 => zT1
  | 2 => zT2
  | 3 => zT3
  | 4 => zT4
  | 5 => zT5
  | 6 => zT6
  | 7 => zT7
  | _ => zT8
def zYY : Nat → Nat → FieldType := fun k => match k with
  | 0 => zy0
  | 1 => zy1
  | 2 => zy2
  | 3 => zy3
  | 4 => zy4
  | 5 => zy5
  | 6 => zy6
  | 7 => zy7
  | _ => zy8
def zNN : Nat → Nat := fun k => match k with
  | 0 => 11
  | 1 => 5
  | 2 => 4
  | 3 => 7
  | 4 => 4
  | 5 => 7
  | 6 => 2
  | 7 => 7
  | _ => 21
theorem zTbl_ex : ∃ l : List Cond, l = lw_tbl.filter goodWord := ⟨_, rfl⟩
noncomputable def zTbl : List Cond := Classical.choose zTbl_ex
theorem zTbl_eq : zTbl = lw_tbl.filter goodWord := Classical.choose_spec zTbl_ex
theorem zt (i : Nat) {w : Cond} (h : lw_tbl[i]? = some w) (hg : goodWord w = true) : w ∈ zTbl := by rw [zTbl_eq]; exact List.mem_filter.mpr ⟨List.mem_of_getElem? h, hg⟩
theorem zgw {w : Cond} (h : w ∈ zTbl) : goodWord w = true := by rw [zTbl_eq] at h; exact (List.mem_filter.mp h).2
theorem zw0 : ∀ w ∈ u_ws zR0 zT0 11, w ∈ zTbl := by
  intro w hw
  simp only [u_ws, List.mem_map, List.mem_range] at hw
  obtain ⟨k, hk, rfl⟩ := hw
  match k, hk with
  | 0, _ => exact zt 178 (by decide +kernel) rfl
  | 1, _ => exact zt 180 (by decide +kernel) rfl
  | 2, _ => exact zt 182 (by decide +kernel) rfl
  | 3, _ => exact zt 184 (by decide +kernel) rfl
  | 4, _ => exact zt 186 (by decide +kernel) rfl
  | 5, _ => exact zt 188 (by decide +kernel) rfl
  | 6, _ => exact zt 190 (by decide +kernel) rfl
  | 7, _ => exact zt 192 (by decide +kernel) rfl
  | 8, _ => exact zt 194 (by decide +kernel) rfl
  | 9, _ => exact zt 196 (by decide +kernel) rfl
  | 10, _ => exact zt 198 (by decide +kernel) rfl
  | k + 11, h => omega
theorem zw1 : ∀ w ∈ u_ws zR1 zT1 5, w ∈ zTbl := by
  intro w hw
  simp only [u_ws, List.mem_map, List.mem_range] at hw
  obtain ⟨k, hk, rfl⟩ := hw
  match k, hk with
  | 0, _ => exact zt 290 (by decide +kernel) rfl
  | 1, _ => exact zt 292 (by decide +kernel) rfl
  | 2, _ => exact zt 294 (by decide +kernel) rfl
  | 3, _ => exact zt 296 (by decide +kernel) rfl
  | 4, _ => exact zt 298 (by decide +kernel) rfl
  | k + 5, h => omega
theorem zw2 : ∀ w ∈ u_ws zR2 zT2 4, w ∈ zTbl := by
  intro w hw
  simp only [u_ws, List.mem_map, List.mem_range] at hw
  obtain ⟨k, hk, rfl⟩ := hw
  match k, hk with
  | 0, _ => exact zt 216 (by decide +kernel) rfl
  | 1, _ => exact zt 218 (by decide +kernel) rfl
  | 2, _ => exact zt 220 (by decide +kernel) rfl
  | 3, _ => exact zt 222 (by decide +kernel) rfl
  | k + 4, h => omega
theorem zw3 : ∀ w ∈ u_ws zR3 zT3 7, w ∈ zTbl := by
  intro w hw
  simp only [u_ws, List.mem_map, List.mem_range] at hw
  obtain ⟨k, hk, rfl⟩ := hw
  match k, hk with
  | 0, _ => exact zt 136 (by decide +kernel) rfl
  | 1, _ => exact zt 138 (by decide +kernel) rfl
  | 2, _ => exact zt 140 (by decide +kernel) rfl
  | 3, _ => exact zt 142 (by decide +kernel) rfl
  | 4, _ => exact zt 144 (by decide +kernel) rfl
  | 5, _ => exact zt 146 (by decide +kernel) rfl
  | 6, _ => exact zt 148 (by decide +kernel) rfl
  | k + 7, h => omega
theorem zw4 : ∀ w ∈ u_ws zR4 zT4 4, w ∈ zTbl := by
  intro w hw
  simp only [u_ws, List.mem_map, List.mem_range] at hw
  obtain ⟨k, hk, rfl⟩ := hw
  match k, hk with
  | 0, _ => exact zt 274 (by decide +kernel) rfl
  | 1, _ => exact zt 276 (by decide +kernel) rfl
  | 2, _ => exact zt 278 (by decide +kernel) rfl
  | 3, _ => exact zt 280 (by decide +kernel) rfl
  | k + 4, h => omega
theorem zw5 : ∀ w ∈ u_ws zR5 zT5 7, w ∈ zTbl := by
  intro w hw
  simp only [u_ws, List.mem_map, List.mem_range] at hw
  obtain ⟨k, hk, rfl⟩ := hw
  match k, hk with
  | 0, _ => exact zt 239 (by decide +kernel) rfl
  | 1, _ => exact zt 241 (by decide +kernel) rfl
  | 2, _ => exact zt 243 (by decide +kernel) rfl
  | 3, _ => exact zt 245 (by decide +kernel) rfl
  | 4, _ => exact zt 247 (by decide +kernel) rfl
  | 5, _ => exact zt 249 (by decide +kernel) rfl
  | 6, _ => exact zt 251 (by decide +kernel) rfl
  | k + 7, h => omega
theorem zw6 : ∀ w ∈ u_ws zR6 zT6 2, w ∈ zTbl := by
  intro w hw
  simp only [u_ws, List.mem_map, List.mem_range] at hw
  obtain ⟨k, hk, rfl⟩ := hw
  match k, hk with
  | 0, _ => exact zt 111 (by decide +kernel) rfl
  | 1, _ => exact zt 113 (by decide +kernel) rfl
  | k + 2, h => omega
theorem zw7 : ∀ w ∈ u_ws zR7 zT7 7, w ∈ zTbl := by
  intro w hw
  simp only [u_ws, List.mem_map, List.mem_range] at hw
  obtain ⟨k, hk, rfl⟩ := hw
  match k, hk with
  | 0, _ => exact zt 309 (by decide +kernel) rfl
  | 1, _ => exact zt 311 (by decide +kernel) rfl
  | 2, _ => exact zt 313 (by decide +kernel) rfl
  | 3, _ => exact zt 315 (by decide +kernel) rfl
  | 4, _ => exact zt 317 (by decide +kernel) rfl
  | 5, _ => exact zt 319 (by decide +kernel) rfl
  | 6, _ => exact zt 321 (by decide +kernel) rfl
  | k + 7, h => omega
theorem zw8 : ∀ w ∈ u_ws zR8 zT8 21, w ∈ zTbl := by
  intro w hw
  simp only [u_ws, List.mem_map, List.mem_range] at hw
  obtain ⟨k, hk, rfl⟩ := hw
  match k, hk with
  | 0, _ => exact zt 856 (by decide +kernel) rfl
  | 1, _ => exact zt 858 (by decide +kernel) rfl
  | 2, _ => exact zt 860 (by decide +kernel) rfl
  | 3, _ => exact zt 862 (by decide +kernel) rfl
  | 4, _ => exact zt 864 (by decide +kernel) rfl
  | 5, _ => exact zt 866 (by decide +kernel) rfl
  | 6, _ => exact zt 868 (by decide +kernel) rfl
  | 7, _ => exact zt 870 (by decide +kernel) rfl
  | 8, _ => exact zt 872 (by decide +kernel) rfl
  | 9, _ => exact zt 874 (by decide +kernel) rfl
  | 10, _ => exact zt 876 (by decide +kernel) rfl
  | 11, _ => exact zt 878 (by decide +kernel) rfl
  | 12, _ => exact zt 880 (by decide +kernel) rfl
  | 13, _ => exact zt 882 (by decide +kernel) rfl
  | 14, _ => exact zt 884 (by decide +kernel) rfl
  | 15, _ => exact zt 886 (by decide +kernel) rfl
  | 16, _ => exact zt 888 (by decide +kernel) rfl
  | 17, _ => exact zt 890 (by decide +kernel) rfl
  | 18, _ => exact zt 892 (by decide +kernel) rfl
  | 19, _ => exact zt 894 (by decide +kernel) rfl
  | 20, _ => exact zt 896 (by decide +kernel) rfl
  | k + 21, h => omega
abbrev zFLs : List (Nat × Nat × Nat × Nat) := [(6, 9, 6, 0), (7, 50, 6, 0), (4, 54, 6, 0), (6, 15, 6, 1), (7, 59, 6, 1), (3, 9, 3, 0), (3, 22, 3, 1), (3, 15, 3, 2),
  (1, 42, 3, 2), (7, 108, 3, 2), (3, 19, 3, 3), (1, 79, 3, 3), (3, 32, 3, 4), (1, 76, 3, 4), (1, 33, 3, 5), (3, 35, 3, 5),
  (3, 47, 3, 6), (0, 9, 0, 0), (7, 147, 0, 0), (0, 15, 0, 1), (0, 36, 0, 2), (5, 67, 0, 2), (7, 156, 0, 2), (0, 18, 0, 3),
  (7, 168, 0, 3), (0, 21, 0, 4), (7, 159, 0, 4), (0, 24, 0, 5), (7, 165, 0, 5), (5, 74, 0, 6), (0, 44, 0, 6), (7, 153, 0, 6),
  (0, 27, 0, 7), (0, 30, 0, 8), (0, 33, 0, 9), (5, 77, 0, 10), (0, 47, 0, 10), (7, 263, 0, 10), (2, 9, 2, 0), (7, 293, 2, 0),
  (2, 15, 2, 1), (7, 291, 2, 1), (2, 18, 2, 2), (7, 295, 2, 2), (2, 21, 2, 3), (5, 80, 2, 3), (7, 215, 2, 3), (5, 12, 5, 0),
  (7, 46, 5, 0), (5, 18, 5, 1), (7, 65, 5, 1), (5, 25, 5, 2), (7, 94, 5, 2), (5, 32, 5, 3), (7, 132, 5, 3), (5, 39, 5, 4),
  (7, 203, 5, 4), (5, 43, 5, 5), (7, 191, 5, 5), (5, 47, 5, 6), (7, 212, 5, 6), (4, 9, 4, 0), (4, 15, 4, 1), (4, 18, 4, 2),
  (7, 82, 4, 2), (1, 68, 4, 2), (4, 27, 4, 3), (1, 47, 4, 3), (1, 12, 1, 0), (7, 72, 1, 0), (1, 18, 1, 1), (1, 22, 1, 2),
  (1, 29, 1, 3), (1, 39, 1, 4), (7, 12, 7, 0), (7, 16, 7, 1), (7, 20, 7, 2), (7, 27, 7, 3), (7, 31, 7, 4), (7, 35, 7, 5),
  (7, 39, 7, 6), (8, 7, 8, 0), (8, 13, 8, 1), (8, 16, 8, 2), (8, 236, 8, 3), (8, 45, 8, 4), (8, 20, 8, 5), (8, 23, 8, 6),
  (8, 26, 8, 7), (8, 99, 8, 8), (8, 30, 8, 9), (8, 103, 8, 10), (8, 134, 8, 11), (8, 33, 8, 12), (8, 117, 8, 13), (8, 125, 8, 14),
  (8, 128, 8, 15), (8, 36, 8, 16), (8, 39, 8, 17), (8, 243, 8, 18), (8, 42, 8, 19), (8, 282, 8, 20)]
def zFLw (q : Nat × Nat × Nat × Nat) : Cond := .fieldLink (zcn q.1) q.2.1 (zTT q.2.2.1 q.2.2.2).1 (zTT q.2.2.1 q.2.2.2).2.1 (zTT q.2.2.1 q.2.2.2).2.2.1
theorem zFL_ok : ∀ q ∈ zFLs, zFLw q ∈ zTbl := by
  intro q hq
  have h : ∀ k (hk : k < 102), zFLw (zFLs[k]'hk) ∈ zTbl := by
    intro k hk
    match k, hk with
    | 0, _ => exact (zt 106 (by decide +kernel) rfl : zFLw (6, 9, 6, 0) ∈ zTbl)
    | 1, _ => exact (zt 107 (by decide +kernel) rfl : zFLw (7, 50, 6, 0) ∈ zTbl)
    | 2, _ => exact (zt 108 (by decide +kernel) rfl : zFLw (4, 54, 6, 0) ∈ zTbl)
    | 3, _ => exact (zt 109 (by decide +kernel) rfl : zFLw (6, 15, 6, 1) ∈ zTbl)
    | 4, _ => exact (zt 110 (by decide +kernel) rfl : zFLw (7, 59, 6, 1) ∈ zTbl)
    | 5, _ => exact (zt 124 (by decide +kernel) rfl : zFLw (3, 9, 3, 0) ∈ zTbl)
    | 6, _ => exact (zt 125 (by decide +kernel) rfl : zFLw (3, 22, 3, 1) ∈ zTbl)
    | 7, _ => exact (zt 126 (by decide +kernel) rfl : zFLw (3, 15, 3, 2) ∈ zTbl)
    | 8, _ => exact (zt 127 (by decide +kernel) rfl : zFLw (1, 42, 3, 2) ∈ zTbl)
    | 9, _ => exact (zt 128 (by decide +kernel) rfl : zFLw (7, 108, 3, 2) ∈ zTbl)
    | 10, _ => exact (zt 129 (by decide +kernel) rfl : zFLw (3, 19, 3, 3) ∈ zTbl)
    | 11, _ => exact (zt 130 (by decide +kernel) rfl : zFLw (1, 79, 3, 3) ∈ zTbl)
    | 12, _ => exact (zt 131 (by decide +kernel) rfl : zFLw (3, 32, 3, 4) ∈ zTbl)
    | 13, _ => exact (zt 132 (by decide +kernel) rfl : zFLw (1, 76, 3, 4) ∈ zTbl)
    | 14, _ => exact (zt 133 (by decide +kernel) rfl : zFLw (1, 33, 3, 5) ∈ zTbl)
    | 15, _ => exact (zt 134 (by decide +kernel) rfl : zFLw (3, 35, 3, 5) ∈ zTbl)
    | 16, _ => exact (zt 135 (by decide +kernel) rfl : zFLw (3, 47, 3, 6) ∈ zTbl)
    | 17, _ => exact (zt 157 (by decide +kernel) rfl : zFLw (0, 9, 0, 0) ∈ zTbl)
    | 18, _ => exact (zt 158 (by decide +kernel) rfl : zFLw (7, 147, 0, 0) ∈ zTbl)
    | 19, _ => exact (zt 159 (by decide +kernel) rfl : zFLw (0, 15, 0, 1) ∈ zTbl)
    | 20, _ => exact (zt 160 (by decide +kernel) rfl : zFLw (0, 36, 0, 2) ∈ zTbl)
    | 21, _ => exact (zt 161 (by decide +kernel) rfl : zFLw (5, 67, 0, 2) ∈ zTbl)
    | 22, _ => exact (zt 162 (by decide +kernel) rfl : zFLw (7, 156, 0, 2) ∈ zTbl)
    | 23, _ => exact (zt 163 (by decide +kernel) rfl : zFLw (0, 18, 0, 3) ∈ zTbl)
    | 24, _ => exact (zt 164 (by decide +kernel) rfl : zFLw (7, 168, 0, 3) ∈ zTbl)
    | 25, _ => exact (zt 165 (by decide +kernel) rfl : zFLw (0, 21, 0, 4) ∈ zTbl)
    | 26, _ => exact (zt 166 (by decide +kernel) rfl : zFLw (7, 159, 0, 4) ∈ zTbl)
    | 27, _ => exact (zt 167 (by decide +kernel) rfl : zFLw (0, 24, 0, 5) ∈ zTbl)
    | 28, _ => exact (zt 168 (by decide +kernel) rfl : zFLw (7, 165, 0, 5) ∈ zTbl)
    | 29, _ => exact (zt 169 (by decide +kernel) rfl : zFLw (5, 74, 0, 6) ∈ zTbl)
    | 30, _ => exact (zt 170 (by decide +kernel) rfl : zFLw (0, 44, 0, 6) ∈ zTbl)
    | 31, _ => exact (zt 171 (by decide +kernel) rfl : zFLw (7, 153, 0, 6) ∈ zTbl)
    | 32, _ => exact (zt 172 (by decide +kernel) rfl : zFLw (0, 27, 0, 7) ∈ zTbl)
    | 33, _ => exact (zt 173 (by decide +kernel) rfl : zFLw (0, 30, 0, 8) ∈ zTbl)
    | 34, _ => exact (zt 174 (by decide +kernel) rfl : zFLw (0, 33, 0, 9) ∈ zTbl)
    | 35, _ => exact (zt 175 (by decide +kernel) rfl : zFLw (5, 77, 0, 10) ∈ zTbl)
    | 36, _ => exact (zt 176 (by decide +kernel) rfl : zFLw (0, 47, 0, 10) ∈ zTbl)
    | 37, _ => exact (zt 177 (by decide +kernel) rfl : zFLw (7, 263, 0, 10) ∈ zTbl)
    | 38, _ => exact (zt 207 (by decide +kernel) rfl : zFLw (2, 9, 2, 0) ∈ zTbl)
    | 39, _ => exact (zt 208 (by decide +kernel) rfl : zFLw (7, 293, 2, 0) ∈ zTbl)
    | 40, _ => exact (zt 209 (by decide +kernel) rfl : zFLw (2, 15, 2, 1) ∈ zTbl)
    | 41, _ => exact (zt 210 (by decide +kernel) rfl : zFLw (7, 291, 2, 1) ∈ zTbl)
    | 42, _ => exact (zt 211 (by decide +kernel) rfl : zFLw (2, 18, 2, 2) ∈ zTbl)
    | 43, _ => exact (zt 212 (by decide +kernel) rfl : zFLw (7, 295, 2, 2) ∈ zTbl)
    | 44, _ => exact (zt 213 (by decide +kernel) rfl : zFLw (2, 21, 2, 3) ∈ zTbl)
    | 45, _ => exact (zt 214 (by decide +kernel) rfl : zFLw (5, 80, 2, 3) ∈ zTbl)
    | 46, _ => exact (zt 215 (by decide +kernel) rfl : zFLw (7, 215, 2, 3) ∈ zTbl)
    | 47, _ => exact (zt 225 (by decide +kernel) rfl : zFLw (5, 12, 5, 0) ∈ zTbl)
    | 48, _ => exact (zt 226 (by decide +kernel) rfl : zFLw (7, 46, 5, 0) ∈ zTbl)
    | 49, _ => exact (zt 227 (by decide +kernel) rfl : zFLw (5, 18, 5, 1) ∈ zTbl)
    | 50, _ => exact (zt 228 (by decide +kernel) rfl : zFLw (7, 65, 5, 1) ∈ zTbl)
    | 51, _ => exact (zt 229 (by decide +kernel) rfl : zFLw (5, 25, 5, 2) ∈ zTbl)
    | 52, _ => exact (zt 230 (by decide +kernel) rfl : zFLw (7, 94, 5, 2) ∈ zTbl)
    | 53, _ => exact (zt 231 (by decide +kernel) rfl : zFLw (5, 32, 5, 3) ∈ zTbl)
    | 54, _ => exact (zt 232 (by decide +kernel) rfl : zFLw (7, 132, 5, 3) ∈ zTbl)
    | 55, _ => exact (zt 233 (by decide +kernel) rfl : zFLw (5, 39, 5, 4) ∈ zTbl)
    | 56, _ => exact (zt 234 (by decide +kernel) rfl : zFLw (7, 203, 5, 4) ∈ zTbl)
    | 57, _ => exact (zt 235 (by decide +kernel) rfl : zFLw (5, 43, 5, 5) ∈ zTbl)
    | 58, _ => exact (zt 236 (by decide +kernel) rfl : zFLw (7, 191, 5, 5) ∈ zTbl)
    | 59, _ => exact (zt 237 (by decide +kernel) rfl : zFLw (5, 47, 5, 6) ∈ zTbl)
    | 60, _ => exact (zt 238 (by decide +kernel) rfl : zFLw (7, 212, 5, 6) ∈ zTbl)
    | 61, _ => exact (zt 267 (by decide +kernel) rfl : zFLw (4, 9, 4, 0) ∈ zTbl)
    | 62, _ => exact (zt 268 (by decide +kernel) rfl : zFLw (4, 15, 4, 1) ∈ zTbl)
    | 63, _ => exact (zt 269 (by decide +kernel) rfl : zFLw (4, 18, 4, 2) ∈ zTbl)
    | 64, _ => exact (zt 270 (by decide +kernel) rfl : zFLw (7, 82, 4, 2) ∈ zTbl)
    | 65, _ => exact (zt 271 (by decide +kernel) rfl : zFLw (1, 68, 4, 2) ∈ zTbl)
    | 66, _ => exact (zt 272 (by decide +kernel) rfl : zFLw (4, 27, 4, 3) ∈ zTbl)
    | 67, _ => exact (zt 273 (by decide +kernel) rfl : zFLw (1, 47, 4, 3) ∈ zTbl)
    | 68, _ => exact (zt 284 (by decide +kernel) rfl : zFLw (1, 12, 1, 0) ∈ zTbl)
    | 69, _ => exact (zt 285 (by decide +kernel) rfl : zFLw (7, 72, 1, 0) ∈ zTbl)
    | 70, _ => exact (zt 286 (by decide +kernel) rfl : zFLw (1, 18, 1, 1) ∈ zTbl)
    | 71, _ => exact (zt 287 (by decide +kernel) rfl : zFLw (1, 22, 1, 2) ∈ zTbl)
    | 72, _ => exact (zt 288 (by decide +kernel) rfl : zFLw (1, 29, 1, 3) ∈ zTbl)
    | 73, _ => exact (zt 289 (by decide +kernel) rfl : zFLw (1, 39, 1, 4) ∈ zTbl)
    | 74, _ => exact (zt 302 (by decide +kernel) rfl : zFLw (7, 12, 7, 0) ∈ zTbl)
    | 75, _ => exact (zt 303 (by decide +kernel) rfl : zFLw (7, 16, 7, 1) ∈ zTbl)
    | 76, _ => exact (zt 304 (by decide +kernel) rfl : zFLw (7, 20, 7, 2) ∈ zTbl)
    | 77, _ => exact (zt 305 (by decide +kernel) rfl : zFLw (7, 27, 7, 3) ∈ zTbl)
    | 78, _ => exact (zt 306 (by decide +kernel) rfl : zFLw (7, 31, 7, 4) ∈ zTbl)
    | 79, _ => exact (zt 307 (by decide +kernel) rfl : zFLw (7, 35, 7, 5) ∈ zTbl)
    | 80, _ => exact (zt 308 (by decide +kernel) rfl : zFLw (7, 39, 7, 6) ∈ zTbl)
    | 81, _ => exact (zt 835 (by decide +kernel) rfl : zFLw (8, 7, 8, 0) ∈ zTbl)
    | 82, _ => exact (zt 836 (by decide +kernel) rfl : zFLw (8, 13, 8, 1) ∈ zTbl)
    | 83, _ => exact (zt 837 (by decide +kernel) rfl : zFLw (8, 16, 8, 2) ∈ zTbl)
    | 84, _ => exact (zt 838 (by decide +kernel) rfl : zFLw (8, 236, 8, 3) ∈ zTbl)
    | 85, _ => exact (zt 839 (by decide +kernel) rfl : zFLw (8, 45, 8, 4) ∈ zTbl)
    | 86, _ => exact (zt 840 (by decide +kernel) rfl : zFLw (8, 20, 8, 5) ∈ zTbl)
    | 87, _ => exact (zt 841 (by decide +kernel) rfl : zFLw (8, 23, 8, 6) ∈ zTbl)
    | 88, _ => exact (zt 842 (by decide +kernel) rfl : zFLw (8, 26, 8, 7) ∈ zTbl)
    | 89, _ => exact (zt 843 (by decide +kernel) rfl : zFLw (8, 99, 8, 8) ∈ zTbl)
    | 90, _ => exact (zt 844 (by decide +kernel) rfl : zFLw (8, 30, 8, 9) ∈ zTbl)
    | 91, _ => exact (zt 845 (by decide +kernel) rfl : zFLw (8, 103, 8, 10) ∈ zTbl)
    | 92, _ => exact (zt 846 (by decide +kernel) rfl : zFLw (8, 134, 8, 11) ∈ zTbl)
    | 93, _ => exact (zt 847 (by decide +kernel) rfl : zFLw (8, 33, 8, 12) ∈ zTbl)
    | 94, _ => exact (zt 848 (by decide +kernel) rfl : zFLw (8, 117, 8, 13) ∈ zTbl)
    | 95, _ => exact (zt 849 (by decide +kernel) rfl : zFLw (8, 125, 8, 14) ∈ zTbl)
    | 96, _ => exact (zt 850 (by decide +kernel) rfl : zFLw (8, 128, 8, 15) ∈ zTbl)
    | 97, _ => exact (zt 851 (by decide +kernel) rfl : zFLw (8, 36, 8, 16) ∈ zTbl)
    | 98, _ => exact (zt 852 (by decide +kernel) rfl : zFLw (8, 39, 8, 17) ∈ zTbl)
    | 99, _ => exact (zt 853 (by decide +kernel) rfl : zFLw (8, 243, 8, 18) ∈ zTbl)
    | 100, _ => exact (zt 854 (by decide +kernel) rfl : zFLw (8, 42, 8, 19) ∈ zTbl)
    | 101, _ => exact (zt 855 (by decide +kernel) rfl : zFLw (8, 282, 8, 20) ∈ zTbl)
    | k + 102, h => omega
  obtain ⟨k, hk, rfl⟩ := List.mem_iff_getElem.mp hq
  exact h k hk
abbrev zCs : List (Nat × Nat × Int) := [(7, 112, 268435456), (11, 265, 1431655765), (11, 266, 858993459), (11, 267, 252645135), (0, 84, 65536), (7, 231, 268435455), (0, 64, 268435455), (8, 246, 65536),
  (8, 265, 268435455)]
theorem zCs_ok : ∀ q ∈ zCs, Cond.constant (zcn q.1) q.2.1 (Int32.ofInt q.2.2) ∈ zTbl := by
  intro q hq
  have h : ∀ k (hk : k < 9), Cond.constant (zcn (zCs[k]'hk).1) (zCs[k]'hk).2.1 (Int32.ofInt (zCs[k]'hk).2.2) ∈ zTbl := by
    intro k hk
    match k, hk with
    | 0, _ => exact (zt 469 (by decide +kernel) rfl : Cond.constant (zcn 7) 112 (Int32.ofInt (268435456)) ∈ zTbl)
    | 1, _ => exact (zt 532 (by decide +kernel) rfl : Cond.constant (zcn 11) 265 (Int32.ofInt (1431655765)) ∈ zTbl)
    | 2, _ => exact (zt 533 (by decide +kernel) rfl : Cond.constant (zcn 11) 266 (Int32.ofInt (858993459)) ∈ zTbl)
    | 3, _ => exact (zt 534 (by decide +kernel) rfl : Cond.constant (zcn 11) 267 (Int32.ofInt (252645135)) ∈ zTbl)
    | 4, _ => exact (zt 644 (by decide +kernel) rfl : Cond.constant (zcn 0) 84 (Int32.ofInt (65536)) ∈ zTbl)
    | 5, _ => exact (zt 701 (by decide +kernel) rfl : Cond.constant (zcn 7) 231 (Int32.ofInt (268435455)) ∈ zTbl)
    | 6, _ => exact (zt 747 (by decide +kernel) rfl : Cond.constant (zcn 0) 64 (Int32.ofInt (268435455)) ∈ zTbl)
    | 7, _ => exact (zt 1153 (by decide +kernel) rfl : Cond.constant (zcn 8) 246 (Int32.ofInt (65536)) ∈ zTbl)
    | 8, _ => exact (zt 1198 (by decide +kernel) rfl : Cond.constant (zcn 8) 265 (Int32.ofInt (268435455)) ∈ zTbl)
    | k + 9, h => omega
  obtain ⟨k, hk, rfl⟩ := List.mem_iff_getElem.mp hq
  exact h k hk
abbrev zLs : List (Nat × Nat × Int) := [(7, 189, -1), (7, 266, 431), (7, 276, 31), (8, 49, 3), (8, 55, 80), (8, 64, 15), (8, 70, 8), (8, 72, 511),
  (8, 74, 7), (8, 80, 4), (8, 97, 127), (8, 121, 48), (8, 123, 57), (8, 143, 10), (8, 172, 268435455), (8, 187, 9),
  (8, 195, 999), (8, 239, -1), (8, 241, 28), (8, 272, 37), (8, 289, 431), (8, 280, 31)]
theorem zLs_ok : ∀ q ∈ zLs, Cond.constantLong (zcn q.1) q.2.1 (Int64.ofInt q.2.2) ∈ zTbl := by
  intro q hq
  have h : ∀ k (hk : k < 22), Cond.constantLong (zcn (zLs[k]'hk).1) (zLs[k]'hk).2.1 (Int64.ofInt (zLs[k]'hk).2.2) ∈ zTbl := by
    intro k hk
    match k, hk with
    | 0, _ => exact (zt 617 (by decide +kernel) rfl : Cond.constantLong (zcn 7) 189 (Int64.ofInt (-1)) ∈ zTbl)
    | 1, _ => exact (zt 795 (by decide +kernel) rfl : Cond.constantLong (zcn 7) 266 (Int64.ofInt (431)) ∈ zTbl)
    | 2, _ => exact (zt 803 (by decide +kernel) rfl : Cond.constantLong (zcn 7) 276 (Int64.ofInt (31)) ∈ zTbl)
    | 3, _ => exact (zt 906 (by decide +kernel) rfl : Cond.constantLong (zcn 8) 49 (Int64.ofInt (3)) ∈ zTbl)
    | 4, _ => exact (zt 913 (by decide +kernel) rfl : Cond.constantLong (zcn 8) 55 (Int64.ofInt (80)) ∈ zTbl)
    | 5, _ => exact (zt 914 (by decide +kernel) rfl : Cond.constantLong (zcn 8) 64 (Int64.ofInt (15)) ∈ zTbl)
    | 6, _ => exact (zt 923 (by decide +kernel) rfl : Cond.constantLong (zcn 8) 70 (Int64.ofInt (8)) ∈ zTbl)
    | 7, _ => exact (zt 924 (by decide +kernel) rfl : Cond.constantLong (zcn 8) 72 (Int64.ofInt (511)) ∈ zTbl)
    | 8, _ => exact (zt 929 (by decide +kernel) rfl : Cond.constantLong (zcn 8) 74 (Int64.ofInt (7)) ∈ zTbl)
    | 9, _ => exact (zt 937 (by decide +kernel) rfl : Cond.constantLong (zcn 8) 80 (Int64.ofInt (4)) ∈ zTbl)
    | 10, _ => exact (zt 961 (by decide +kernel) rfl : Cond.constantLong (zcn 8) 97 (Int64.ofInt (127)) ∈ zTbl)
    | 11, _ => exact (zt 978 (by decide +kernel) rfl : Cond.constantLong (zcn 8) 121 (Int64.ofInt (48)) ∈ zTbl)
    | 12, _ => exact (zt 979 (by decide +kernel) rfl : Cond.constantLong (zcn 8) 123 (Int64.ofInt (57)) ∈ zTbl)
    | 13, _ => exact (zt 980 (by decide +kernel) rfl : Cond.constantLong (zcn 8) 143 (Int64.ofInt (10)) ∈ zTbl)
    | 14, _ => exact (zt 1017 (by decide +kernel) rfl : Cond.constantLong (zcn 8) 172 (Int64.ofInt (268435455)) ∈ zTbl)
    | 15, _ => exact (zt 1055 (by decide +kernel) rfl : Cond.constantLong (zcn 8) 187 (Int64.ofInt (9)) ∈ zTbl)
    | 16, _ => exact (zt 1072 (by decide +kernel) rfl : Cond.constantLong (zcn 8) 195 (Int64.ofInt (999)) ∈ zTbl)
    | 17, _ => exact (zt 1139 (by decide +kernel) rfl : Cond.constantLong (zcn 8) 239 (Int64.ofInt (-1)) ∈ zTbl)
    | 18, _ => exact (zt 1144 (by decide +kernel) rfl : Cond.constantLong (zcn 8) 241 (Int64.ofInt (28)) ∈ zTbl)
    | 19, _ => exact (zt 1211 (by decide +kernel) rfl : Cond.constantLong (zcn 8) 272 (Int64.ofInt (37)) ∈ zTbl)
    | 20, _ => exact (zt 1244 (by decide +kernel) rfl : Cond.constantLong (zcn 8) 289 (Int64.ofInt (431)) ∈ zTbl)
    | 21, _ => exact (zt 1249 (by decide +kernel) rfl : Cond.constantLong (zcn 8) 280 (Int64.ofInt (31)) ∈ zTbl)
    | k + 22, h => omega
  obtain ⟨k, hk, rfl⟩ := List.mem_iff_getElem.mp hq
  exact h k hk
abbrev zNest : List (Nat × Nat × MethodName) := [(7, 11, ⟨"DiscLines$State", "<init>", "()V"⟩), (5, 11, ⟨"DiscLines$World", "<init>", "()V"⟩), (5, 24, ⟨"DiscLines$Law", "<init>", "()V"⟩),
  (5, 31, ⟨"DiscLines$Book", "<init>", "()V"⟩), (5, 38, ⟨"DiscLines$Guesses", "<init>", "()V"⟩), (7, 26, ⟨"DiscLines$Eye", "<init>", "()V"⟩),
  (1, 11, ⟨"DiscLines$Picture", "<init>", "()V"⟩), (6, 18, ⟨"DiscLines", "has", "(II)Z"⟩), (4, 34, ⟨"DiscLines", "isOneOf", "(II)Z"⟩),
  (1, 64, ⟨"DiscLines", "isOneOf", "(II)Z"⟩), (0, 40, ⟨"DiscLines", "isOneOf", "(II)Z"⟩), (0, 61, ⟨"DiscLines", "has", "(II)Z"⟩),
  (2, 25, ⟨"DiscLines", "isOneOf", "(II)Z"⟩), (2, 29, ⟨"DiscLines", "has", "(II)Z"⟩), (6, 28, ⟨"DiscLines", "copyRow", "([I[I)V"⟩),
  (5, 54, ⟨"DiscLines", "copyRow", "([I[I)V"⟩), (3, 28, ⟨"DiscLines", "copyRow", "([I[I)V"⟩), (0, 101, ⟨"DiscLines", "copyRow", "([I[I)V"⟩),
  (2, 32, ⟨"DiscLines", "copyRow", "([I[I)V"⟩), (5, 70, ⟨"DiscLines", "mix", "(JJ)J"⟩), (6, 32, ⟨"DiscLines", "mixRow", "(J[II)J"⟩),
  (5, 87, ⟨"DiscLines", "mixRow", "(J[II)J"⟩), (3, 39, ⟨"DiscLines", "mix", "(JJ)J"⟩), (3, 43, ⟨"DiscLines", "mixRow", "(J[II)J"⟩),
  (0, 105, ⟨"DiscLines", "mix", "(JJ)J"⟩), (2, 36, ⟨"DiscLines", "mix", "(JJ)J"⟩)]
def zNw (q : Nat × Nat × MethodName) : Cond := .methodLinkNest (zcn q.1) q.2.1 q.2.2 "DiscLines"
theorem zNest_ok : ∀ q ∈ zNest, zNw q ∈ lw_tbl := by
  intro q hq
  have h : ∀ k (hk : k < 26), zNw (zNest[k]'hk) ∈ lw_tbl := by
    intro k hk
    match k, hk with
    | 0, _ => exact (List.mem_of_getElem? (i := 95) (by decide +kernel) : zNw (7, 11, ⟨"DiscLines$State", "<init>", "()V"⟩) ∈ lw_tbl)
    | 1, _ => exact (List.mem_of_getElem? (i := 102) (by decide +kernel) : zNw (5, 11, ⟨"DiscLines$World", "<init>", "()V"⟩) ∈ lw_tbl)
    | 2, _ => exact (List.mem_of_getElem? (i := 120) (by decide +kernel) : zNw (5, 24, ⟨"DiscLines$Law", "<init>", "()V"⟩) ∈ lw_tbl)
    | 3, _ => exact (List.mem_of_getElem? (i := 153) (by decide +kernel) : zNw (5, 31, ⟨"DiscLines$Book", "<init>", "()V"⟩) ∈ lw_tbl)
    | 4, _ => exact (List.mem_of_getElem? (i := 203) (by decide +kernel) : zNw (5, 38, ⟨"DiscLines$Guesses", "<init>", "()V"⟩) ∈ lw_tbl)
    | 5, _ => exact (List.mem_of_getElem? (i := 257) (by decide +kernel) : zNw (7, 26, ⟨"DiscLines$Eye", "<init>", "()V"⟩) ∈ lw_tbl)
    | 6, _ => exact (List.mem_of_getElem? (i := 263) (by decide +kernel) : zNw (1, 11, ⟨"DiscLines$Picture", "<init>", "()V"⟩) ∈ lw_tbl)
    | 7, _ => exact (List.mem_of_getElem? (i := 361) (by decide +kernel) : zNw (6, 18, ⟨"DiscLines", "has", "(II)Z"⟩) ∈ lw_tbl)
    | 8, _ => exact (List.mem_of_getElem? (i := 371) (by decide +kernel) : zNw (4, 34, ⟨"DiscLines", "isOneOf", "(II)Z"⟩) ∈ lw_tbl)
    | 9, _ => exact (List.mem_of_getElem? (i := 489) (by decide +kernel) : zNw (1, 64, ⟨"DiscLines", "isOneOf", "(II)Z"⟩) ∈ lw_tbl)
    | 10, _ => exact (List.mem_of_getElem? (i := 544) (by decide +kernel) : zNw (0, 40, ⟨"DiscLines", "isOneOf", "(II)Z"⟩) ∈ lw_tbl)
    | 11, _ => exact (List.mem_of_getElem? (i := 573) (by decide +kernel) : zNw (0, 61, ⟨"DiscLines", "has", "(II)Z"⟩) ∈ lw_tbl)
    | 12, _ => exact (List.mem_of_getElem? (i := 666) (by decide +kernel) : zNw (2, 25, ⟨"DiscLines", "isOneOf", "(II)Z"⟩) ∈ lw_tbl)
    | 13, _ => exact (List.mem_of_getElem? (i := 700) (by decide +kernel) : zNw (2, 29, ⟨"DiscLines", "has", "(II)Z"⟩) ∈ lw_tbl)
    | 14, _ => exact (List.mem_of_getElem? (i := 761) (by decide +kernel) : zNw (6, 28, ⟨"DiscLines", "copyRow", "([I[I)V"⟩) ∈ lw_tbl)
    | 15, _ => exact (List.mem_of_getElem? (i := 767) (by decide +kernel) : zNw (5, 54, ⟨"DiscLines", "copyRow", "([I[I)V"⟩) ∈ lw_tbl)
    | 16, _ => exact (List.mem_of_getElem? (i := 772) (by decide +kernel) : zNw (3, 28, ⟨"DiscLines", "copyRow", "([I[I)V"⟩) ∈ lw_tbl)
    | 17, _ => exact (List.mem_of_getElem? (i := 777) (by decide +kernel) : zNw (0, 101, ⟨"DiscLines", "copyRow", "([I[I)V"⟩) ∈ lw_tbl)
    | 18, _ => exact (List.mem_of_getElem? (i := 782) (by decide +kernel) : zNw (2, 32, ⟨"DiscLines", "copyRow", "([I[I)V"⟩) ∈ lw_tbl)
    | 19, _ => exact (List.mem_of_getElem? (i := 800) (by decide +kernel) : zNw (5, 70, ⟨"DiscLines", "mix", "(JJ)J"⟩) ∈ lw_tbl)
    | 20, _ => exact (List.mem_of_getElem? (i := 808) (by decide +kernel) : zNw (6, 32, ⟨"DiscLines", "mixRow", "(J[II)J"⟩) ∈ lw_tbl)
    | 21, _ => exact (List.mem_of_getElem? (i := 812) (by decide +kernel) : zNw (5, 87, ⟨"DiscLines", "mixRow", "(J[II)J"⟩) ∈ lw_tbl)
    | 22, _ => exact (List.mem_of_getElem? (i := 817) (by decide +kernel) : zNw (3, 39, ⟨"DiscLines", "mix", "(JJ)J"⟩) ∈ lw_tbl)
    | 23, _ => exact (List.mem_of_getElem? (i := 818) (by decide +kernel) : zNw (3, 43, ⟨"DiscLines", "mixRow", "(J[II)J"⟩) ∈ lw_tbl)
    | 24, _ => exact (List.mem_of_getElem? (i := 823) (by decide +kernel) : zNw (0, 105, ⟨"DiscLines", "mix", "(JJ)J"⟩) ∈ lw_tbl)
    | 25, _ => exact (List.mem_of_getElem? (i := 828) (by decide +kernel) : zNw (2, 36, ⟨"DiscLines", "mix", "(JJ)J"⟩) ∈ lw_tbl)
    | k + 26, h => omega
  obtain ⟨k, hk, rfl⟩ := List.mem_iff_getElem.mp hq
  exact h k hk
end
section
/-! THE LAYER: a frame as (pc, locals, stack) over a heap of known cells; every fact of the machine is kept inside zJ -/
abbrev zRow : Type := Nat × Instr × Nat × Nat × Nat × Int
abbrev zY : Type := MethodName × Nat × ByteArray × Nat × Option FieldType × List zRow
abbrev zE : Type := Launch × va_G × (Nat → ClassId) × Nat × Heap × Nat × Nat × (Nat → Int32) × Nat × Nat
abbrev zE.l (E : zE) : Launch := E.1
abbrev zE.D (E : zE) : va_G := E.2.1
abbrev zE.cA (E : zE) : Nat → ClassId := E.2.2.1
abbrev zE.z (E : zE) : Nat := E.2.2.2.1
abbrev zE.H0 (E : zE) : Heap := E.2.2.2.2.1
abbrev zE.b (E : zE) : Nat := E.2.2.2.2.2.1
abbrev zE.L (E : zE) : Nat := E.2.2.2.2.2.2.1
abbrev zE.xs (E : zE) : Nat → Int32 := E.2.2.2.2.2.2.2.1
abbrev zE.t1 (E : zE) : Nat := E.2.2.2.2.2.2.2.2.1
abbrev zE.t2 (E : zE) : Nat := E.2.2.2.2.2.2.2.2.2
abbrev zH : Type := Nat → Option va_E
abbrev zY.nm (Y : zY) : MethodName := Y.1
abbrev zY.oc (Y : zY) : Nat := Y.2.1
abbrev zY.code (Y : zY) : ByteArray := Y.2.2.1
abbrev zY.nL (Y : zY) : Nat := Y.2.2.2.1
abbrev zY.ret (Y : zY) : Option FieldType := Y.2.2.2.2.1
abbrev zY.rows (Y : zY) : List zRow := Y.2.2.2.2.2
def zup (σ : zH) (a : Nat) (e : va_E) : zH := fun q => if q = a then some e else σ q
theorem zup_eq (σ : zH) (a : Nat) (e : va_E) : zup σ a e a = some e := by simp [zup]
theorem zup_ne {σ : zH} {a q : Nat} {e : va_E} (h : q ≠ a) : zup σ a e q = σ q := by simp [zup, h]
theorem zup_zup (σ : zH) (a : Nat) (e e' : va_E) : zup (zup σ a e) a e' = zup σ a e' := by
  funext q
  by_cases h : q = a <;> simp [zup, h]
theorem zup_same {σ : zH} {a : Nat} {e : va_E} (h : σ a = some e) : zup σ a e = σ := by
  funext q
  by_cases hq : q = a
  · subst hq; simp [zup, h]
  · simp [zup, hq]
theorem zup_comm (σ : zH) {a b : Nat} (h : a ≠ b) (e f : va_E) : zup (zup σ a e) b f = zup (zup σ b f) a e := by
  funext q
  by_cases h1 : q = a
  · subst h1; simp [zup, h]
  · by_cases h2 : q = b
    · subst h2; simp [zup, h1]
    · simp [zup, h1, h2]
def zve (E : zE) (e : va_E) : va_E := match e with
  | .inl a => .inl (E.cA a.1, a.2)
  | .inr o => .inr o
def zty : Nat → FieldType := fun k => match k with
  | 0 => .int
  | 1 => .long
  | 2 => .boolean
  | 3 => .object "DiscLines$World"
  | 4 => .object "DiscLines$Law"
  | _ => .object "DiscLines$State"
def ztys (E : zE) : List (ClassId × FieldType) := (List.range 6).map (fun t => (E.cA t, zty t))
theorem ztys_at (E : zE) {t : Nat} (h : t < 6) : (ztys E)[t]? = some (E.cA t, zty t) := by
  simp [ztys, h]
def zR (E : zE) (n : Nat) (σ : zH) (H : Heap) : Prop := H.size = n ∧ (∀ q, q < E.z → H[q]? = E.H0[q]?) ∧ ∀ a e, σ a = some e → E.z ≤ a ∧ va_at E.D zcl (a, zve E e) H
def zrs : Nat → Int32 := fun j => match j with
  | 1 => -1
  | 2 => 1
  | _ => 0
def zcs : Nat → Int32 := fun j => match j with
  | 3 => -1
  | 4 => 1
  | _ => 0
def zSt (E : zE) (U : State) : Prop := va_X E.b E.L E.xs U E.H0 ∧ E.b < E.z ∧
  (va_Z "DiscLines$Picture" "ROW_STEPS" "[I" (.ref E.t1) (fun q => E.z ≤ q) U E.H0 ∧ va_T .int E.t1 5 (fun j => .int (zrs j)) (fun q => E.z ≤ q) U E.H0) ∧
  (va_Z "DiscLines$Picture" "COLUMN_STEPS" "[I" (.ref E.t2) (fun q => E.z ≤ q) U E.H0 ∧ va_T .int E.t2 5 (fun j => .int (zcs j)) (fun q => E.z ≤ q) U E.H0)
def zK (E : zE) (U : State) : Prop := va_K E.D zcl (ztys E) U ∧ (∀ q ∈ zNest, va_Nw (zNw q) U) ∧ (∀ t, 3 ≤ t → t < 6 → ∀ C, zty t = .object C → va_AO C U) ∧ zSt E U
theorem va_X.zmoved {b L : Nat} {xs : Nat → Int32} {u U : State} {H : Heap} (hvm : u.vm.Alike U.vm) (h : va_X b L xs u H) : va_X b L xs U H := by
  obtain ⟨scr, h1, h2, h3⟩ := h
  exact ⟨scr, h1, State.isArrayOf_alike hvm h2, h3⟩
theorem zK.warm {E : zE} {s U : State} (hW : s.WarmedH U.vm) (h : zK E s) : zK E U := by
  obtain ⟨h1, h2, h3, h4, h5, ⟨h6, h7⟩, h8, h9⟩ := h
  have ha := hW.alike
  exact ⟨va_K.moved ha h1, fun q hq => va_Nw.warmM hW (h2 q hq), fun t a b C hC => va_AO.moved ha (h3 t a b C hC), va_X.zmoved ha h4, h5, ⟨va_Z.moved ha h6, va_T.moved ha h7⟩, va_Z.moved ha h8, va_T.moved ha h9⟩
theorem zK.calling {E : zE} {U : State} (g : JFrame) (mk : MethodId) (a : Array Value) (h : zK E U) : zK E (U.calling g mk a) := by
  obtain ⟨h1, h2, h3, h4, h5, ⟨h6, h7⟩, h8, h9⟩ := h
  have ha : U.vm.Alike (U.calling g mk a).vm := Vm.Alike.refl U.vm
  exact ⟨va_K.moved ha h1, fun q hq => va_Nw.same rfl rfl (h2 q hq), fun t a b C hC => va_AO.moved ha (h3 t a b C hC), va_X.zmoved ha h4, h5, ⟨va_Z.moved ha h6, va_T.moved ha h7⟩, va_Z.moved ha h8, va_T.moved ha h9⟩
/-! rows -/
def zaux (Y : zY) (r : zRow) : Bool := match r with
  | (pc, .if_icmp _ off, _, u, _, _) => decide ((pc : Int) + off = (u : Int))
  | (pc, .ifCond _ off, _, u, _, _) => decide ((pc : Int) + off = (u : Int))
  | (pc, .goto off, _, u, _, _) => decide ((pc : Int) + off = (u : Int))
  | (_, .getfield idx, _, u, v, _) => zFLs.contains (Y.oc, idx, u, v) && decide (u < 9) && decide (v < zNN u)
  | (_, .putfield idx, _, u, v, _) => zFLs.contains (Y.oc, idx, u, v) && decide (u < 9) && decide (v < zNN u)
  | (_, .ldc idx, _, _, _, w) => zCs.contains (Y.oc, idx, w)
  | (_, .ldc_w idx, _, _, _, w) => zCs.contains (Y.oc, idx, w)
  | (_, .ldc2_w idx, _, _, _, w) => zLs.contains (Y.oc, idx, w)
  | (_, .istore i, _, _, _, _) => decide (i < Y.nL)
  | (_, .istore_n i, _, _, _, _) => decide (i.val < Y.nL)
  | (_, .astore i, _, _, _, _) => decide (i < Y.nL)
  | (_, .astore_n i, _, _, _, _) => decide (i.val < Y.nL)
  | (_, .lstore i, _, _, _, _) => decide (i + 1 < Y.nL)
  | (_, .lstore_n i, _, _, _, _) => decide (i.val + 1 < Y.nL)
  | (_, .iinc i _, _, _, _, _) => decide (i < Y.nL)
  | _ => true
def zchk (Y : zY) (r : zRow) : Bool := decide (decode Y.code r.1 = .ok (r.2.1, r.2.2.1 - r.1)) && decide (r.1 < r.2.2.1) && zaux Y r
def zok (Y : zY) : Prop := Y.rows.all (zchk Y) = true
theorem zdec {Y : zY} (ok : zok Y) {k : Nat} {pc q u v len : Nat} {w : Int} {ins : Instr} (h : Y.rows[k]? = some (pc, ins, q, u, v, w)) (hq : pc + len = q) : decode Y.code pc = .ok (ins, len) ∧ zaux Y (pc, ins, q, u, v, w) = true := by
  have h1 := List.all_eq_true.mp ok _ (List.mem_of_getElem? h)
  unfold zchk at h1
  simp only [Bool.and_eq_true, decide_eq_true_eq] at h1
  obtain ⟨⟨h2, h3⟩, h4⟩ := h1
  have e : q - pc = len := by omega
  rw [e] at h2
  exact ⟨h2, h4⟩
/-! locals -/
def zlv : Nat → List (Option Value) → List (Nat × Value)
  | _, [] => []
  | i, none :: L => zlv (i + 1) L
  | i, some v :: L => (i, v) :: zlv (i + 1) L
def zc (o : Option Value) : Option Value := match o with
  | some (.long _) => none
  | some (.double _) => none
  | o => o
def zs1 : List (Option Value) → Nat → Value → List (Option Value)
  | [], _, _ => []
  | _ :: L, 0, v => some v :: L
  | o :: L, 1, v => zc o :: zs1 L 0 v
  | o :: L, i + 2, v => o :: zs1 L (i + 1) v
def zs2 (L : List (Option Value)) (i : Nat) (v : Value) : List (Option Value) := (zs1 L i v).set (i + 1) none
theorem zlv_mem {v : Value} : ∀ {L : List (Option Value)} {i k : Nat}, L[i]? = some (some v) → (k + i, v) ∈ zlv k L
  | [], i, k, h => by simp at h
  | none :: L, 0, k, h => by simp at h
  | some x :: L, 0, k, h => by
    simp only [List.getElem?_cons_zero, Option.some.injEq] at h
    subst h
    simp [zlv]
  | none :: L, i + 1, k, h => by
    have := zlv_mem (k := k + 1) (by simpa using h : L[i]? = some (some v))
    simp only [zlv]
    rw [show k + (i + 1) = k + 1 + i by omega]
    exact this
  | some x :: L, i + 1, k, h => by
    have := zlv_mem (k := k + 1) (by simpa using h : L[i]? = some (some v))
    simp only [zlv]
    rw [show k + (i + 1) = k + 1 + i by omega]
    exact List.mem_cons_of_mem _ this
theorem zlv_of {j : Nat} {v : Value} : ∀ {L : List (Option Value)} {k : Nat}, (j, v) ∈ zlv k L → ∃ i, j = k + i ∧ L[i]? = some (some v)
  | [], k, h => by simp [zlv] at h
  | none :: L, k, h => by
    obtain ⟨i, h1, h2⟩ := zlv_of (L := L) (k := k + 1) h
    exact ⟨i + 1, by omega, by simpa using h2⟩
  | some x :: L, k, h => by
    simp only [zlv, List.mem_cons, Prod.mk.injEq] at h
    rcases h with ⟨rfl, rfl⟩ | h
    · exact ⟨0, rfl, rfl⟩
    · obtain ⟨i, h1, h2⟩ := zlv_of (L := L) (k := k + 1) h
      exact ⟨i + 1, by omega, by simpa using h2⟩
theorem zc_of {o : Option Value} {w : Value} (h : zc o = some w) : o = some w ∧ ¬ w.category = 2 := by
  unfold zc at h
  split at h
  · cases h
  · cases h
  · rename_i h1 h2
    refine ⟨h, fun hc => ?_⟩
    subst h
    cases w <;> simp_all [Value.category]
theorem zs1_of {v w : Value} : ∀ {L : List (Option Value)} {i j : Nat}, (zs1 L i v)[j]? = some (some w) → (j = i ∧ w = v) ∨ (j ≠ i ∧ L[j]? = some (some w) ∧ ¬ (j + 1 = i ∧ w.category = 2))
  | [], i, j, h => by simp [zs1] at h
  | o :: L, 0, j, h => by
    simp only [zs1] at h
    cases j with
    | zero => simp only [List.getElem?_cons_zero, Option.some.injEq] at h; exact Or.inl ⟨rfl, h.symm⟩
    | succ j => exact Or.inr ⟨by omega, by simpa using h, by omega⟩
  | o :: L, 1, j, h => by
    simp only [zs1] at h
    cases j with
    | zero =>
      simp only [List.getElem?_cons_zero, Option.some.injEq] at h
      obtain ⟨h1, h2⟩ := zc_of h
      subst h1
      exact Or.inr ⟨by omega, rfl, fun q => h2 q.2⟩
    | succ j =>
      have := zs1_of (L := L) (i := 0) (j := j) (by simpa using h)
      rcases this with ⟨a, b⟩ | ⟨a, b, c⟩
      · exact Or.inl ⟨by omega, b⟩
      · exact Or.inr ⟨by omega, by simpa using b, fun q => c ⟨by omega, q.2⟩⟩
  | o :: L, i + 2, j, h => by
    simp only [zs1] at h
    cases j with
    | zero =>
      simp only [List.getElem?_cons_zero, Option.some.injEq] at h
      subst h
      exact Or.inr ⟨by omega, rfl, by omega⟩
    | succ j =>
      have := zs1_of (L := L) (i := i + 1) (j := j) (by simpa using h)
      rcases this with ⟨a, b⟩ | ⟨a, b, c⟩
      · exact Or.inl ⟨by omega, b⟩
      · exact Or.inr ⟨by omega, by simpa using b, fun q => c ⟨by omega, q.2⟩⟩
theorem zs2_of {v w : Value} {L : List (Option Value)} {i j : Nat} (h : (zs2 L i v)[j]? = some (some w)) : (j = i ∧ w = v) ∨ (j ≠ i ∧ j ≠ i + 1 ∧ L[j]? = some (some w) ∧ ¬ (j + 1 = i ∧ w.category = 2)) := by
  unfold zs2 at h
  by_cases hj : j = i + 1
  · subst hj
    rw [List.getElem?_set] at h
    simp at h
  · rw [List.getElem?_set_ne (fun q => hj q.symm)] at h
    rcases zs1_of h with h | ⟨a, b, c⟩
    · exact Or.inl h
    · exact Or.inr ⟨a, hj, b, c⟩
theorem zhas_mono {ls : Array Slot} {n : Nat} {l l' : List (Nat × Value)} (h : lv_has ls n l) (hs : ∀ q ∈ l', q ∈ l) : lv_has ls n l' := ⟨h.1, h.2.1, fun q hq => h.2.2 q (hs q hq)⟩
theorem zhas_at {ls : Array Slot} {n i : Nat} {L : List (Option Value)} {v : Value} (h : lv_has ls n (zlv 0 L)) (hl : L[i]? = some (some v)) : ls[i]? = some (.val v) := by
  have := h.2.2 _ (zlv_mem (k := 0) hl)
  simpa using this
theorem zhas1 {ls : Array Slot} {n i : Nat} {L : List (Option Value)} {v : Value} (h : lv_has ls n ((i, v) :: (zlv 0 L).filter (fun q => !(q.1 == i) && !(q.1 + 1 == i && q.2.category == 2)))) : lv_has ls n (zlv 0 (zs1 L i v)) := by
  refine zhas_mono h fun q hq => ?_
  obtain ⟨j, w⟩ := q
  obtain ⟨j', h1, h2⟩ := zlv_of hq
  have e : j = j' := by omega
  subst e
  rcases zs1_of h2 with ⟨a, b⟩ | ⟨a, b, c⟩
  · subst a; subst b; exact List.mem_cons_self
  · refine List.mem_cons_of_mem _ (List.mem_filter.mpr ⟨by have := zlv_mem (k := 0) b; simpa using this, ?_⟩)
    simp only [Bool.and_eq_true, Bool.not_eq_true', beq_eq_false_iff_ne, ne_eq, Bool.and_eq_false_iff]
    exact ⟨a, (Decidable.em (j + 1 = i)).elim (fun h3 => Or.inr fun e => c ⟨h3, e⟩) Or.inl⟩
theorem zhas2 {ls : Array Slot} {n i : Nat} {L : List (Option Value)} {v : Value} (h : lv_has ls n ((i, v) :: (zlv 0 L).filter (fun q => !(q.1 == i) && (!(q.1 == i + 1) && !(q.1 + 1 == i && q.2.category == 2))))) : lv_has ls n (zlv 0 (zs2 L i v)) := by
  refine zhas_mono h fun q hq => ?_
  obtain ⟨j, w⟩ := q
  obtain ⟨j', h1, h2⟩ := zlv_of hq
  have e : j = j' := by omega
  subst e
  rcases zs2_of h2 with ⟨a, b⟩ | ⟨a, a2, b, c⟩
  · subst a; subst b; exact List.mem_cons_self
  · refine List.mem_cons_of_mem _ (List.mem_filter.mpr ⟨by have := zlv_mem (k := 0) b; simpa using this, ?_⟩)
    simp only [Bool.and_eq_true, Bool.not_eq_true', beq_eq_false_iff_ne, ne_eq, Bool.and_eq_false_iff]
    exact ⟨a, a2, (Decidable.em (j + 1 = i)).elim (fun h3 => Or.inr fun e => c ⟨h3, e⟩) Or.inl⟩
/-! the judgement -/
def zCx (E : zE) (Y : zY) (p : Program) (s : State) (m : MethodId) (args : Array Value) (meth : Method) (c : Code) : Prop :=
  p.tables.exec = Jvm.exec ∧ c.code = Y.code ∧ c.maxLocals = Y.nL ∧ meth.sig.returnType = Y.ret ∧ meth.locks = false ∧ s.vm.findClass (zcn Y.oc) = some m.cls ∧ (∀ w ∈ zTbl, w.before args s = true) ∧ zK E s ∧ meth.name = Y.nm.name ∧ zok Y
abbrev zF : Type := List Frame → Array Value → State → State → Prop
def zJ (E : zE) (Y : zY) (R : Room) (fin : zF) (n cells slots : Nat) (σ : zH) (pc : Nat) (L : List (Option Value)) (st : List Value) : Prop :=
  ∀ (p : Program) (e : Env) (s : State) (m : MethodId) (args : Array Value) (below : List Frame) (meth : Method) (c : Code) (H : Heap) (locs : List Loc) (ls : Array Slot),
    zCx E Y p s m args meth c → zR E n σ H → (∀ q ∈ locs, E.z ≤ q.base) → lv_has ls Y.nL (zlv 0 L) →
    W p E.l e R s m args below meth c H locs cells slots (fin below args s) (F0 m pc ls st)
section
variable {E : zE} {Y : zY} {R : Room} {fin : zF} {n cells slots : Nat} {σ : zH} {pc q u v : Nat} {w : Int} {L : List (Option Value)} {rest : List Value}
theorem zj_iconst (k : Nat) {i : Int} (x : Int32) (h : Y.rows[k]? = some (pc, .iconst i, q, u, v, w)) (hq : pc + 1 = q) (hx : Int32.ofInt i = x) (kk : zJ E Y R fin n cells slots σ q L (.int x :: rest)) : zJ E Y R fin n cells slots σ pc L rest := by
  intro p e s m args below meth c H locs ls C hR hf hl
  subst hq
  exact lv_iconst C.1 C.2.1 (zdec C.2.2.2.2.2.2.2.2.2 h rfl).1 hx (kk p e s m args below meth c H locs ls C hR hf hl)
theorem zj_bipush (k : Nat) {i : Int} (x : Int32) (h : Y.rows[k]? = some (pc, .bipush i, q, u, v, w)) (hq : pc + 2 = q) (hx : (Int8.ofInt i).toInt32 = x) (kk : zJ E Y R fin n cells slots σ q L (.int x :: rest)) : zJ E Y R fin n cells slots σ pc L rest := by
  intro p e s m args below meth c H locs ls C hR hf hl
  subst hq
  exact lv_bipush C.1 C.2.1 (zdec C.2.2.2.2.2.2.2.2.2 h rfl).1 hx (kk p e s m args below meth c H locs ls C hR hf hl)
theorem zj_sipush (k : Nat) {i : Int} (x : Int32) (h : Y.rows[k]? = some (pc, .sipush i, q, u, v, w)) (hq : pc + 3 = q) (hx : (Int16.ofInt i).toInt32 = x) (kk : zJ E Y R fin n cells slots σ q L (.int x :: rest)) : zJ E Y R fin n cells slots σ pc L rest := by
  intro p e s m args below meth c H locs ls C hR hf hl
  subst hq
  exact lv_sipush C.1 C.2.1 (zdec C.2.2.2.2.2.2.2.2.2 h rfl).1 hx (kk p e s m args below meth c H locs ls C hR hf hl)
theorem zj_lconst (k : Nat) {i : Fin 2} (x : Int64) (h : Y.rows[k]? = some (pc, .lconst i, q, u, v, w)) (hq : pc + 1 = q) (hx : Int64.ofNat (i : Nat) = x) (kk : zJ E Y R fin n cells slots σ q L (.long x :: rest)) : zJ E Y R fin n cells slots σ pc L rest := by
  intro p e s m args below meth c H locs ls C hR hf hl
  subst hq
  exact lv_lconst C.1 C.2.1 (zdec C.2.2.2.2.2.2.2.2.2 h rfl).1 hx (kk p e s m args below meth c H locs ls C hR hf hl)
theorem zj_ldc (k : Nat) {i : Nat} (x : Int32) (h : Y.rows[k]? = some (pc, .ldc i, q, u, v, w)) (hq : pc + 2 = q) (hx : Int32.ofInt w = x) (kk : zJ E Y R fin n cells slots σ q L (.int x :: rest)) : zJ E Y R fin n cells slots σ pc L rest := by
  intro p e s m args below meth c H locs ls C hR hf hl
  subst hq
  have h1 := zdec C.2.2.2.2.2.2.2.2.2 h rfl
  have h2 := zCs_ok _ (List.contains_iff_mem.mp h1.2)
  rw [hx] at h2
  exact lv_ldc C.1 C.2.1 C.2.2.2.2.2.1 (C.2.2.2.2.2.2.1 _ h2) h1.1 (kk p e s m args below meth c H locs ls C hR hf hl)
theorem zj_ldcw (k : Nat) {i : Nat} (x : Int32) (h : Y.rows[k]? = some (pc, .ldc_w i, q, u, v, w)) (hq : pc + 3 = q) (hx : Int32.ofInt w = x) (kk : zJ E Y R fin n cells slots σ q L (.int x :: rest)) : zJ E Y R fin n cells slots σ pc L rest := by
  intro p e s m args below meth c H locs ls C hR hf hl
  subst hq
  have h1 := zdec C.2.2.2.2.2.2.2.2.2 h rfl
  have h2 := zCs_ok _ (List.contains_iff_mem.mp h1.2)
  rw [hx] at h2
  exact lv_ldcw C.1 C.2.1 C.2.2.2.2.2.1 (C.2.2.2.2.2.2.1 _ h2) h1.1 (kk p e s m args below meth c H locs ls C hR hf hl)
theorem zj_ldc2 (k : Nat) {i : Nat} (x : Int64) (h : Y.rows[k]? = some (pc, .ldc2_w i, q, u, v, w)) (hq : pc + 3 = q) (hx : Int64.ofInt w = x) (kk : zJ E Y R fin n cells slots σ q L (.long x :: rest)) : zJ E Y R fin n cells slots σ pc L rest := by
  intro p e s m args below meth c H locs ls C hR hf hl
  subst hq
  have h1 := zdec C.2.2.2.2.2.2.2.2.2 h rfl
  have h2 := zLs_ok _ (List.contains_iff_mem.mp h1.2)
  rw [hx] at h2
  exact lv_ldc2 C.1 C.2.1 C.2.2.2.2.2.1 (C.2.2.2.2.2.2.1 _ h2) h1.1 (kk p e s m args below meth c H locs ls C hR hf hl)
theorem zj_iload_n (k : Nat) {i : Fin 4} {x : Int32} (h : Y.rows[k]? = some (pc, .iload_n i, q, u, v, w)) (hq : pc + 1 = q) (hx : L[i.val]? = some (some (.int x))) (kk : zJ E Y R fin n cells slots σ q L (.int x :: rest)) : zJ E Y R fin n cells slots σ pc L rest := by
  intro p e s m args below meth c H locs ls C hR hf hl
  subst hq
  exact lv_iload_n C.1 C.2.1 (zdec C.2.2.2.2.2.2.2.2.2 h rfl).1 rfl (zhas_at hl hx) (kk p e s m args below meth c H locs ls C hR hf hl)
theorem zj_iload (k : Nat) {i : Nat} {x : Int32} (h : Y.rows[k]? = some (pc, .iload i, q, u, v, w)) (hq : pc + 2 = q) (hx : L[i]? = some (some (.int x))) (kk : zJ E Y R fin n cells slots σ q L (.int x :: rest)) : zJ E Y R fin n cells slots σ pc L rest := by
  intro p e s m args below meth c H locs ls C hR hf hl
  subst hq
  exact lv_iload C.1 C.2.1 (zdec C.2.2.2.2.2.2.2.2.2 h rfl).1 (zhas_at hl hx) (kk p e s m args below meth c H locs ls C hR hf hl)
theorem zj_lload_n (k : Nat) {i : Fin 4} {x : Int64} (h : Y.rows[k]? = some (pc, .lload_n i, q, u, v, w)) (hq : pc + 1 = q) (hx : L[i.val]? = some (some (.long x))) (kk : zJ E Y R fin n cells slots σ q L (.long x :: rest)) : zJ E Y R fin n cells slots σ pc L rest := by
  intro p e s m args below meth c H locs ls C hR hf hl
  subst hq
  exact lv_lload_n C.1 C.2.1 (zdec C.2.2.2.2.2.2.2.2.2 h rfl).1 rfl (zhas_at hl hx) (kk p e s m args below meth c H locs ls C hR hf hl)
theorem zj_lload (k : Nat) {i : Nat} {x : Int64} (h : Y.rows[k]? = some (pc, .lload i, q, u, v, w)) (hq : pc + 2 = q) (hx : L[i]? = some (some (.long x))) (kk : zJ E Y R fin n cells slots σ q L (.long x :: rest)) : zJ E Y R fin n cells slots σ pc L rest := by
  intro p e s m args below meth c H locs ls C hR hf hl
  subst hq
  exact lv_lload C.1 C.2.1 (zdec C.2.2.2.2.2.2.2.2.2 h rfl).1 (zhas_at hl hx) (kk p e s m args below meth c H locs ls C hR hf hl)
theorem zj_aload_n (k : Nat) {i : Fin 4} {x : Nat} (h : Y.rows[k]? = some (pc, .aload_n i, q, u, v, w)) (hq : pc + 1 = q) (hx : L[i.val]? = some (some (.ref x))) (kk : zJ E Y R fin n cells slots σ q L (.ref x :: rest)) : zJ E Y R fin n cells slots σ pc L rest := by
  intro p e s m args below meth c H locs ls C hR hf hl
  subst hq
  exact lv_aload_n C.1 C.2.1 (zdec C.2.2.2.2.2.2.2.2.2 h rfl).1 rfl (zhas_at hl hx) (kk p e s m args below meth c H locs ls C hR hf hl)
theorem zj_aload (k : Nat) {i : Nat} {x : Nat} (h : Y.rows[k]? = some (pc, .aload i, q, u, v, w)) (hq : pc + 2 = q) (hx : L[i]? = some (some (.ref x))) (kk : zJ E Y R fin n cells slots σ q L (.ref x :: rest)) : zJ E Y R fin n cells slots σ pc L rest := by
  intro p e s m args below meth c H locs ls C hR hf hl
  subst hq
  exact lv_aload C.1 C.2.1 (zdec C.2.2.2.2.2.2.2.2.2 h rfl).1 (zhas_at hl hx) (kk p e s m args below meth c H locs ls C hR hf hl)
theorem zj_istore_n (k : Nat) {i : Fin 4} {x : Int32} (h : Y.rows[k]? = some (pc, .istore_n i, q, u, v, w)) (hq : pc + 1 = q) (kk : zJ E Y R fin n cells slots σ q (zs1 L i.val (.int x)) rest) : zJ E Y R fin n cells slots σ pc L (.int x :: rest) := by
  intro p e s m args below meth c H locs ls C hR hf hl
  subst hq
  have h1 := zdec C.2.2.2.2.2.2.2.2.2 h rfl
  exact lv_istore_n C.1 C.2.1 h1.1 rfl hl (of_decide_eq_true h1.2) rfl (fun ls' hl' => kk p e s m args below meth c H locs ls' C hR hf (zhas1 hl'))
theorem zj_istore (k : Nat) {i : Nat} {x : Int32} (h : Y.rows[k]? = some (pc, .istore i, q, u, v, w)) (hq : pc + 2 = q) (kk : zJ E Y R fin n cells slots σ q (zs1 L i (.int x)) rest) : zJ E Y R fin n cells slots σ pc L (.int x :: rest) := by
  intro p e s m args below meth c H locs ls C hR hf hl
  subst hq
  have h1 := zdec C.2.2.2.2.2.2.2.2.2 h rfl
  exact lv_istore C.1 C.2.1 h1.1 hl (of_decide_eq_true h1.2) rfl (fun ls' hl' => kk p e s m args below meth c H locs ls' C hR hf (zhas1 hl'))
theorem zj_astore_n (k : Nat) {i : Fin 4} {x : Nat} (h : Y.rows[k]? = some (pc, .astore_n i, q, u, v, w)) (hq : pc + 1 = q) (kk : zJ E Y R fin n cells slots σ q (zs1 L i.val (.ref x)) rest) : zJ E Y R fin n cells slots σ pc L (.ref x :: rest) := by
  intro p e s m args below meth c H locs ls C hR hf hl
  subst hq
  have h1 := zdec C.2.2.2.2.2.2.2.2.2 h rfl
  exact lv_astore_n C.1 C.2.1 h1.1 rfl hl (of_decide_eq_true h1.2) rfl (fun ls' hl' => kk p e s m args below meth c H locs ls' C hR hf (zhas1 hl'))
theorem zj_astore (k : Nat) {i : Nat} {x : Nat} (h : Y.rows[k]? = some (pc, .astore i, q, u, v, w)) (hq : pc + 2 = q) (kk : zJ E Y R fin n cells slots σ q (zs1 L i (.ref x)) rest) : zJ E Y R fin n cells slots σ pc L (.ref x :: rest) := by
  intro p e s m args below meth c H locs ls C hR hf hl
  subst hq
  have h1 := zdec C.2.2.2.2.2.2.2.2.2 h rfl
  exact lv_astore C.1 C.2.1 h1.1 hl (of_decide_eq_true h1.2) rfl (fun ls' hl' => kk p e s m args below meth c H locs ls' C hR hf (zhas1 hl'))
theorem zj_lstore_n (k : Nat) {i : Fin 4} {x : Int64} (h : Y.rows[k]? = some (pc, .lstore_n i, q, u, v, w)) (hq : pc + 1 = q) (kk : zJ E Y R fin n cells slots σ q (zs2 L i.val (.long x)) rest) : zJ E Y R fin n cells slots σ pc L (.long x :: rest) := by
  intro p e s m args below meth c H locs ls C hR hf hl
  subst hq
  have h1 := zdec C.2.2.2.2.2.2.2.2.2 h rfl
  exact lv_lstore_n C.1 C.2.1 h1.1 rfl hl (of_decide_eq_true h1.2) rfl (fun ls' hl' => kk p e s m args below meth c H locs ls' C hR hf (zhas2 hl'))
theorem zj_lstore (k : Nat) {i : Nat} {x : Int64} (h : Y.rows[k]? = some (pc, .lstore i, q, u, v, w)) (hq : pc + 2 = q) (kk : zJ E Y R fin n cells slots σ q (zs2 L i (.long x)) rest) : zJ E Y R fin n cells slots σ pc L (.long x :: rest) := by
  intro p e s m args below meth c H locs ls C hR hf hl
  subst hq
  have h1 := zdec C.2.2.2.2.2.2.2.2.2 h rfl
  exact lv_lstore C.1 C.2.1 h1.1 hl (of_decide_eq_true h1.2) rfl (fun ls' hl' => kk p e s m args below meth c H locs ls' C hR hf (zhas2 hl'))
theorem zj_iinc (k : Nat) {i : Nat} {j : Int} {x : Int32} (d : Int32) (h : Y.rows[k]? = some (pc, .iinc i j, q, u, v, w)) (hq : pc + 3 = q) (hx : L[i]? = some (some (.int x))) (hd : Int32.ofInt j = d) (kk : zJ E Y R fin n cells slots σ q (zs1 L i (.int (x + d))) rest) : zJ E Y R fin n cells slots σ pc L rest := by
  intro p e s m args below meth c H locs ls C hR hf hl
  subst hq
  subst hd
  have h1 := zdec C.2.2.2.2.2.2.2.2.2 h rfl
  obtain ⟨kx, hkx⟩ := List.getElem?_of_mem (zlv_mem (k := 0) hx)
  rw [Nat.zero_add] at hkx
  exact lv_iinc (k := kx) C.1 C.2.1 h1.1 hl hkx rfl (of_decide_eq_true h1.2) rfl (fun ls' hl' => kk p e s m args below meth c H locs ls' C hR hf (zhas1 hl'))
theorem zj_iadd (k : Nat) {x y : Int32} (h : Y.rows[k]? = some (pc, .iadd, q, u, v, w)) (hq : pc + 1 = q) (kk : zJ E Y R fin n cells slots σ q L (.int (x + y) :: rest)) : zJ E Y R fin n cells slots σ pc L (.int y :: .int x :: rest) := by
  intro p e s m args below meth c H locs ls C hR hf hl
  subst hq
  exact lv_iadd C.1 C.2.1 (zdec C.2.2.2.2.2.2.2.2.2 h rfl).1 (kk p e s m args below meth c H locs ls C hR hf hl)
theorem zj_isub (k : Nat) {x y : Int32} (h : Y.rows[k]? = some (pc, .isub, q, u, v, w)) (hq : pc + 1 = q) (kk : zJ E Y R fin n cells slots σ q L (.int (x - y) :: rest)) : zJ E Y R fin n cells slots σ pc L (.int y :: .int x :: rest) := by
  intro p e s m args below meth c H locs ls C hR hf hl
  subst hq
  exact lv_isub C.1 C.2.1 (zdec C.2.2.2.2.2.2.2.2.2 h rfl).1 (kk p e s m args below meth c H locs ls C hR hf hl)
theorem zj_imul (k : Nat) {x y : Int32} (h : Y.rows[k]? = some (pc, .imul, q, u, v, w)) (hq : pc + 1 = q) (kk : zJ E Y R fin n cells slots σ q L (.int (x * y) :: rest)) : zJ E Y R fin n cells slots σ pc L (.int y :: .int x :: rest) := by
  intro p e s m args below meth c H locs ls C hR hf hl
  subst hq
  exact lv_imul C.1 C.2.1 (zdec C.2.2.2.2.2.2.2.2.2 h rfl).1 (kk p e s m args below meth c H locs ls C hR hf hl)
theorem zj_iand (k : Nat) {x y : Int32} (h : Y.rows[k]? = some (pc, .iand, q, u, v, w)) (hq : pc + 1 = q) (kk : zJ E Y R fin n cells slots σ q L (.int (x &&& y) :: rest)) : zJ E Y R fin n cells slots σ pc L (.int y :: .int x :: rest) := by
  intro p e s m args below meth c H locs ls C hR hf hl
  subst hq
  exact lv_iand C.1 C.2.1 (zdec C.2.2.2.2.2.2.2.2.2 h rfl).1 (kk p e s m args below meth c H locs ls C hR hf hl)
theorem zj_ior (k : Nat) {x y : Int32} (h : Y.rows[k]? = some (pc, .ior, q, u, v, w)) (hq : pc + 1 = q) (kk : zJ E Y R fin n cells slots σ q L (.int (x ||| y) :: rest)) : zJ E Y R fin n cells slots σ pc L (.int y :: .int x :: rest) := by
  intro p e s m args below meth c H locs ls C hR hf hl
  subst hq
  exact lv_ior C.1 C.2.1 (zdec C.2.2.2.2.2.2.2.2.2 h rfl).1 (kk p e s m args below meth c H locs ls C hR hf hl)
theorem zj_ixor (k : Nat) {x y : Int32} (h : Y.rows[k]? = some (pc, .ixor, q, u, v, w)) (hq : pc + 1 = q) (kk : zJ E Y R fin n cells slots σ q L (.int (x ^^^ y) :: rest)) : zJ E Y R fin n cells slots σ pc L (.int y :: .int x :: rest) := by
  intro p e s m args below meth c H locs ls C hR hf hl
  subst hq
  exact lv_ixor C.1 C.2.1 (zdec C.2.2.2.2.2.2.2.2.2 h rfl).1 (kk p e s m args below meth c H locs ls C hR hf hl)
theorem zj_ishl (k : Nat) {x y : Int32} (h : Y.rows[k]? = some (pc, .ishl, q, u, v, w)) (hq : pc + 1 = q) (kk : zJ E Y R fin n cells slots σ q L (.int (x <<< (y &&& 31)) :: rest)) : zJ E Y R fin n cells slots σ pc L (.int y :: .int x :: rest) := by
  intro p e s m args below meth c H locs ls C hR hf hl
  subst hq
  exact lv_ishl C.1 C.2.1 (zdec C.2.2.2.2.2.2.2.2.2 h rfl).1 (kk p e s m args below meth c H locs ls C hR hf hl)
theorem zj_ishr (k : Nat) {x y : Int32} (h : Y.rows[k]? = some (pc, .ishr, q, u, v, w)) (hq : pc + 1 = q) (kk : zJ E Y R fin n cells slots σ q L (.int (x >>> (y &&& 31)) :: rest)) : zJ E Y R fin n cells slots σ pc L (.int y :: .int x :: rest) := by
  intro p e s m args below meth c H locs ls C hR hf hl
  subst hq
  exact lv_ishr C.1 C.2.1 (zdec C.2.2.2.2.2.2.2.2.2 h rfl).1 (kk p e s m args below meth c H locs ls C hR hf hl)
theorem zj_idiv (k : Nat) {x y : Int32} (h : Y.rows[k]? = some (pc, .idiv, q, u, v, w)) (hq : pc + 1 = q) (hne : ¬ y = 0) (kk : zJ E Y R fin n cells slots σ q L (.int (x / y) :: rest)) : zJ E Y R fin n cells slots σ pc L (.int y :: .int x :: rest) := by
  intro p e s m args below meth c H locs ls C hR hf hl
  subst hq
  exact lv_idiv C.1 C.2.1 (zdec C.2.2.2.2.2.2.2.2.2 h rfl).1 hne (kk p e s m args below meth c H locs ls C hR hf hl)
theorem zj_irem (k : Nat) {x y : Int32} (h : Y.rows[k]? = some (pc, .irem, q, u, v, w)) (hq : pc + 1 = q) (hne : ¬ y = 0) (kk : zJ E Y R fin n cells slots σ q L (.int (x - x / y * y) :: rest)) : zJ E Y R fin n cells slots σ pc L (.int y :: .int x :: rest) := by
  intro p e s m args below meth c H locs ls C hR hf hl
  subst hq
  exact lv_irem C.1 C.2.1 (zdec C.2.2.2.2.2.2.2.2.2 h rfl).1 hne (kk p e s m args below meth c H locs ls C hR hf hl)
theorem zj_iushr (k : Nat) {x y : Int32} (h : Y.rows[k]? = some (pc, .iushr, q, u, v, w)) (hq : pc + 1 = q) (kk : zJ E Y R fin n cells slots σ q L (.int ((x.toUInt32 >>> (y.toUInt32 &&& Int32.toUInt32 31)).toInt32) :: rest)) : zJ E Y R fin n cells slots σ pc L (.int y :: .int x :: rest) := by
  intro p e s m args below meth c H locs ls C hR hf hl
  subst hq
  exact lv_iushr C.1 C.2.1 (zdec C.2.2.2.2.2.2.2.2.2 h rfl).1 rfl (kk p e s m args below meth c H locs ls C hR hf hl)
theorem zj_ineg (k : Nat) {x : Int32} (h : Y.rows[k]? = some (pc, .ineg, q, u, v, w)) (hq : pc + 1 = q) (kk : zJ E Y R fin n cells slots σ q L (.int (-x) :: rest)) : zJ E Y R fin n cells slots σ pc L (.int x :: rest) := by
  intro p e s m args below meth c H locs ls C hR hf hl
  subst hq
  exact lv_ineg C.1 C.2.1 (zdec C.2.2.2.2.2.2.2.2.2 h rfl).1 (kk p e s m args below meth c H locs ls C hR hf hl)
theorem zj_ladd (k : Nat) {x y : Int64} (h : Y.rows[k]? = some (pc, .ladd, q, u, v, w)) (hq : pc + 1 = q) (kk : zJ E Y R fin n cells slots σ q L (.long (x + y) :: rest)) : zJ E Y R fin n cells slots σ pc L (.long y :: .long x :: rest) := by
  intro p e s m args below meth c H locs ls C hR hf hl
  subst hq
  exact lv_ladd C.1 C.2.1 (zdec C.2.2.2.2.2.2.2.2.2 h rfl).1 (kk p e s m args below meth c H locs ls C hR hf hl)
theorem zj_lsub (k : Nat) {x y : Int64} (h : Y.rows[k]? = some (pc, .lsub, q, u, v, w)) (hq : pc + 1 = q) (kk : zJ E Y R fin n cells slots σ q L (.long (x - y) :: rest)) : zJ E Y R fin n cells slots σ pc L (.long y :: .long x :: rest) := by
  intro p e s m args below meth c H locs ls C hR hf hl
  subst hq
  exact lv_lsub C.1 C.2.1 (zdec C.2.2.2.2.2.2.2.2.2 h rfl).1 (kk p e s m args below meth c H locs ls C hR hf hl)
theorem zj_lmul (k : Nat) {x y : Int64} (h : Y.rows[k]? = some (pc, .lmul, q, u, v, w)) (hq : pc + 1 = q) (kk : zJ E Y R fin n cells slots σ q L (.long (x * y) :: rest)) : zJ E Y R fin n cells slots σ pc L (.long y :: .long x :: rest) := by
  intro p e s m args below meth c H locs ls C hR hf hl
  subst hq
  exact lv_lmul C.1 C.2.1 (zdec C.2.2.2.2.2.2.2.2.2 h rfl).1 (kk p e s m args below meth c H locs ls C hR hf hl)
theorem zj_ldiv (k : Nat) {x y : Int64} (h : Y.rows[k]? = some (pc, .ldiv, q, u, v, w)) (hq : pc + 1 = q) (hne : ¬ y = 0) (kk : zJ E Y R fin n cells slots σ q L (.long (x / y) :: rest)) : zJ E Y R fin n cells slots σ pc L (.long y :: .long x :: rest) := by
  intro p e s m args below meth c H locs ls C hR hf hl
  subst hq
  exact lv_ldiv C.1 C.2.1 (zdec C.2.2.2.2.2.2.2.2.2 h rfl).1 hne (kk p e s m args below meth c H locs ls C hR hf hl)
theorem zj_lrem (k : Nat) {x y : Int64} (h : Y.rows[k]? = some (pc, .lrem, q, u, v, w)) (hq : pc + 1 = q) (hne : ¬ y = 0) (kk : zJ E Y R fin n cells slots σ q L (.long (x - x / y * y) :: rest)) : zJ E Y R fin n cells slots σ pc L (.long y :: .long x :: rest) := by
  intro p e s m args below meth c H locs ls C hR hf hl
  subst hq
  exact lv_lrem C.1 C.2.1 (zdec C.2.2.2.2.2.2.2.2.2 h rfl).1 hne (kk p e s m args below meth c H locs ls C hR hf hl)
theorem zj_lneg (k : Nat) {x : Int64} (h : Y.rows[k]? = some (pc, .lneg, q, u, v, w)) (hq : pc + 1 = q) (kk : zJ E Y R fin n cells slots σ q L (.long (-x) :: rest)) : zJ E Y R fin n cells slots σ pc L (.long x :: rest) := by
  intro p e s m args below meth c H locs ls C hR hf hl
  subst hq
  exact lv_lneg C.1 C.2.1 (zdec C.2.2.2.2.2.2.2.2.2 h rfl).1 (kk p e s m args below meth c H locs ls C hR hf hl)
theorem zj_i2l (k : Nat) {x : Int32} (h : Y.rows[k]? = some (pc, .i2l, q, u, v, w)) (hq : pc + 1 = q) (kk : zJ E Y R fin n cells slots σ q L (.long x.toInt64 :: rest)) : zJ E Y R fin n cells slots σ pc L (.int x :: rest) := by
  intro p e s m args below meth c H locs ls C hR hf hl
  subst hq
  exact lv_i2l C.1 C.2.1 (zdec C.2.2.2.2.2.2.2.2.2 h rfl).1 rfl (kk p e s m args below meth c H locs ls C hR hf hl)
theorem zj_lcmp (k : Nat) {x y : Int64} (h : Y.rows[k]? = some (pc, .lcmp, q, u, v, w)) (hq : pc + 1 = q) (kk : zJ E Y R fin n cells slots σ q L (.int (lg_cmp x y) :: rest)) : zJ E Y R fin n cells slots σ pc L (.long y :: .long x :: rest) := by
  intro p e s m args below meth c H locs ls C hR hf hl
  subst hq
  exact W.lcmp C.1 C.2.1 (zdec C.2.2.2.2.2.2.2.2.2 h rfl).1 (kk p e s m args below meth c H locs ls C hR hf hl)
theorem zj_dup (k : Nat) {va : Value} (h : Y.rows[k]? = some (pc, .dup, q, u, v, w)) (hq : pc + 1 = q) (hva : va.category = 1) (kk : zJ E Y R fin n cells slots σ q L (va :: va :: rest)) : zJ E Y R fin n cells slots σ pc L (va :: rest) := by
  intro p e s m args below meth c H locs ls C hR hf hl
  subst hq
  exact lv_dup C.1 C.2.1 (zdec C.2.2.2.2.2.2.2.2.2 h rfl).1 hva (kk p e s m args below meth c H locs ls C hR hf hl)
theorem zj_pop (k : Nat) {va : Value} (h : Y.rows[k]? = some (pc, .pop, q, u, v, w)) (hq : pc + 1 = q) (hva : va.category = 1) (kk : zJ E Y R fin n cells slots σ q L (rest)) : zJ E Y R fin n cells slots σ pc L (va :: rest) := by
  intro p e s m args below meth c H locs ls C hR hf hl
  subst hq
  exact lv_pop C.1 C.2.1 (zdec C.2.2.2.2.2.2.2.2.2 h rfl).1 hva (kk p e s m args below meth c H locs ls C hR hf hl)
theorem zj_dup2 (k : Nat) {va vb : Value} (h : Y.rows[k]? = some (pc, .dup2, q, u, v, w)) (hq : pc + 1 = q) (hva : va.category = 1) (hvb : vb.category = 1) (kk : zJ E Y R fin n cells slots σ q L (va :: vb :: va :: vb :: rest)) : zJ E Y R fin n cells slots σ pc L (va :: vb :: rest) := by
  intro p e s m args below meth c H locs ls C hR hf hl
  subst hq
  exact lv_dup2_11 C.1 C.2.1 (zdec C.2.2.2.2.2.2.2.2.2 h rfl).1 hva hvb (kk p e s m args below meth c H locs ls C hR hf hl)
theorem zj_if_eq (k : Nat) {x : Int32} {off : Int} (h : Y.rows[k]? = some (pc, .ifCond .eq off, q, u, v, w)) (hq : pc + 3 = q) (kt : x = 0 → zJ E Y R fin n cells slots σ u L rest) (kf : ¬ x = 0 → zJ E Y R fin n cells slots σ q L rest) : zJ E Y R fin n cells slots σ pc L (.int x :: rest) := by
  intro p e s m args below meth c H locs ls C hR hf hl
  subst hq
  have h1 := zdec C.2.2.2.2.2.2.2.2.2 h rfl
  exact lv_if_eq C.1 C.2.1 h1.1 (of_decide_eq_true h1.2) (fun g => kt g p e s m args below meth c H locs ls C hR hf hl) (fun g => kf g p e s m args below meth c H locs ls C hR hf hl)
theorem zj_icmp_eq (k : Nat) {x y : Int32} {off : Int} (h : Y.rows[k]? = some (pc, .if_icmp .eq off, q, u, v, w)) (hq : pc + 3 = q) (kt : x = y → zJ E Y R fin n cells slots σ u L rest) (kf : ¬ x = y → zJ E Y R fin n cells slots σ q L rest) : zJ E Y R fin n cells slots σ pc L (.int y :: .int x :: rest) := by
  intro p e s m args below meth c H locs ls C hR hf hl
  subst hq
  have h1 := zdec C.2.2.2.2.2.2.2.2.2 h rfl
  exact lv_icmp_eq C.1 C.2.1 h1.1 (of_decide_eq_true h1.2) (fun g => kt g p e s m args below meth c H locs ls C hR hf hl) (fun g => kf g p e s m args below meth c H locs ls C hR hf hl)
theorem zj_if_ne (k : Nat) {x : Int32} {off : Int} (h : Y.rows[k]? = some (pc, .ifCond .ne off, q, u, v, w)) (hq : pc + 3 = q) (kt : ¬ x = 0 → zJ E Y R fin n cells slots σ u L rest) (kf : x = 0 → zJ E Y R fin n cells slots σ q L rest) : zJ E Y R fin n cells slots σ pc L (.int x :: rest) := by
  intro p e s m args below meth c H locs ls C hR hf hl
  subst hq
  have h1 := zdec C.2.2.2.2.2.2.2.2.2 h rfl
  exact lv_if_ne C.1 C.2.1 h1.1 (of_decide_eq_true h1.2) (fun g => kt g p e s m args below meth c H locs ls C hR hf hl) (fun g => kf g p e s m args below meth c H locs ls C hR hf hl)
theorem zj_icmp_ne (k : Nat) {x y : Int32} {off : Int} (h : Y.rows[k]? = some (pc, .if_icmp .ne off, q, u, v, w)) (hq : pc + 3 = q) (kt : ¬ x = y → zJ E Y R fin n cells slots σ u L rest) (kf : x = y → zJ E Y R fin n cells slots σ q L rest) : zJ E Y R fin n cells slots σ pc L (.int y :: .int x :: rest) := by
  intro p e s m args below meth c H locs ls C hR hf hl
  subst hq
  have h1 := zdec C.2.2.2.2.2.2.2.2.2 h rfl
  exact lv_icmp_ne C.1 C.2.1 h1.1 (of_decide_eq_true h1.2) (fun g => kt g p e s m args below meth c H locs ls C hR hf hl) (fun g => kf g p e s m args below meth c H locs ls C hR hf hl)
theorem zj_if_lt (k : Nat) {x : Int32} {off : Int} (h : Y.rows[k]? = some (pc, .ifCond .lt off, q, u, v, w)) (hq : pc + 3 = q) (kt : x < 0 → zJ E Y R fin n cells slots σ u L rest) (kf : ¬ x < 0 → zJ E Y R fin n cells slots σ q L rest) : zJ E Y R fin n cells slots σ pc L (.int x :: rest) := by
  intro p e s m args below meth c H locs ls C hR hf hl
  subst hq
  have h1 := zdec C.2.2.2.2.2.2.2.2.2 h rfl
  exact lv_if_lt C.1 C.2.1 h1.1 (of_decide_eq_true h1.2) (fun g => kt g p e s m args below meth c H locs ls C hR hf hl) (fun g => kf g p e s m args below meth c H locs ls C hR hf hl)
theorem zj_icmp_lt (k : Nat) {x y : Int32} {off : Int} (h : Y.rows[k]? = some (pc, .if_icmp .lt off, q, u, v, w)) (hq : pc + 3 = q) (kt : x < y → zJ E Y R fin n cells slots σ u L rest) (kf : ¬ x < y → zJ E Y R fin n cells slots σ q L rest) : zJ E Y R fin n cells slots σ pc L (.int y :: .int x :: rest) := by
  intro p e s m args below meth c H locs ls C hR hf hl
  subst hq
  have h1 := zdec C.2.2.2.2.2.2.2.2.2 h rfl
  exact lv_icmp_lt C.1 C.2.1 h1.1 (of_decide_eq_true h1.2) (fun g => kt g p e s m args below meth c H locs ls C hR hf hl) (fun g => kf g p e s m args below meth c H locs ls C hR hf hl)
theorem zj_if_ge (k : Nat) {x : Int32} {off : Int} (h : Y.rows[k]? = some (pc, .ifCond .ge off, q, u, v, w)) (hq : pc + 3 = q) (kt : 0 ≤ x → zJ E Y R fin n cells slots σ u L rest) (kf : ¬ 0 ≤ x → zJ E Y R fin n cells slots σ q L rest) : zJ E Y R fin n cells slots σ pc L (.int x :: rest) := by
  intro p e s m args below meth c H locs ls C hR hf hl
  subst hq
  have h1 := zdec C.2.2.2.2.2.2.2.2.2 h rfl
  exact lv_if_ge C.1 C.2.1 h1.1 (of_decide_eq_true h1.2) (fun g => kt g p e s m args below meth c H locs ls C hR hf hl) (fun g => kf g p e s m args below meth c H locs ls C hR hf hl)
theorem zj_icmp_ge (k : Nat) {x y : Int32} {off : Int} (h : Y.rows[k]? = some (pc, .if_icmp .ge off, q, u, v, w)) (hq : pc + 3 = q) (kt : y ≤ x → zJ E Y R fin n cells slots σ u L rest) (kf : ¬ y ≤ x → zJ E Y R fin n cells slots σ q L rest) : zJ E Y R fin n cells slots σ pc L (.int y :: .int x :: rest) := by
  intro p e s m args below meth c H locs ls C hR hf hl
  subst hq
  have h1 := zdec C.2.2.2.2.2.2.2.2.2 h rfl
  exact lv_icmp_ge C.1 C.2.1 h1.1 (of_decide_eq_true h1.2) (fun g => kt g p e s m args below meth c H locs ls C hR hf hl) (fun g => kf g p e s m args below meth c H locs ls C hR hf hl)
theorem zj_if_gt (k : Nat) {x : Int32} {off : Int} (h : Y.rows[k]? = some (pc, .ifCond .gt off, q, u, v, w)) (hq : pc + 3 = q) (kt : 0 < x → zJ E Y R fin n cells slots σ u L rest) (kf : ¬ 0 < x → zJ E Y R fin n cells slots σ q L rest) : zJ E Y R fin n cells slots σ pc L (.int x :: rest) := by
  intro p e s m args below meth c H locs ls C hR hf hl
  subst hq
  have h1 := zdec C.2.2.2.2.2.2.2.2.2 h rfl
  exact lv_if_gt C.1 C.2.1 h1.1 (of_decide_eq_true h1.2) (fun g => kt g p e s m args below meth c H locs ls C hR hf hl) (fun g => kf g p e s m args below meth c H locs ls C hR hf hl)
theorem zj_icmp_gt (k : Nat) {x y : Int32} {off : Int} (h : Y.rows[k]? = some (pc, .if_icmp .gt off, q, u, v, w)) (hq : pc + 3 = q) (kt : y < x → zJ E Y R fin n cells slots σ u L rest) (kf : ¬ y < x → zJ E Y R fin n cells slots σ q L rest) : zJ E Y R fin n cells slots σ pc L (.int y :: .int x :: rest) := by
  intro p e s m args below meth c H locs ls C hR hf hl
  subst hq
  have h1 := zdec C.2.2.2.2.2.2.2.2.2 h rfl
  exact lv_icmp_gt C.1 C.2.1 h1.1 (of_decide_eq_true h1.2) (fun g => kt g p e s m args below meth c H locs ls C hR hf hl) (fun g => kf g p e s m args below meth c H locs ls C hR hf hl)
theorem zj_if_le (k : Nat) {x : Int32} {off : Int} (h : Y.rows[k]? = some (pc, .ifCond .le off, q, u, v, w)) (hq : pc + 3 = q) (kt : x ≤ 0 → zJ E Y R fin n cells slots σ u L rest) (kf : ¬ x ≤ 0 → zJ E Y R fin n cells slots σ q L rest) : zJ E Y R fin n cells slots σ pc L (.int x :: rest) := by
  intro p e s m args below meth c H locs ls C hR hf hl
  subst hq
  have h1 := zdec C.2.2.2.2.2.2.2.2.2 h rfl
  exact lv_if_le C.1 C.2.1 h1.1 (of_decide_eq_true h1.2) (fun g => kt g p e s m args below meth c H locs ls C hR hf hl) (fun g => kf g p e s m args below meth c H locs ls C hR hf hl)
theorem zj_icmp_le (k : Nat) {x y : Int32} {off : Int} (h : Y.rows[k]? = some (pc, .if_icmp .le off, q, u, v, w)) (hq : pc + 3 = q) (kt : x ≤ y → zJ E Y R fin n cells slots σ u L rest) (kf : ¬ x ≤ y → zJ E Y R fin n cells slots σ q L rest) : zJ E Y R fin n cells slots σ pc L (.int y :: .int x :: rest) := by
  intro p e s m args below meth c H locs ls C hR hf hl
  subst hq
  have h1 := zdec C.2.2.2.2.2.2.2.2.2 h rfl
  exact lv_icmp_le C.1 C.2.1 h1.1 (of_decide_eq_true h1.2) (fun g => kt g p e s m args below meth c H locs ls C hR hf hl) (fun g => kf g p e s m args below meth c H locs ls C hR hf hl)
theorem zj_goto (k : Nat) {off : Int} (h : Y.rows[k]? = some (pc, .goto off, q, u, v, w)) (hq : pc + 3 = q) (kk : zJ E Y R fin n cells slots σ u L rest) : zJ E Y R fin n cells slots σ pc L rest := by
  intro p e s m args below meth c H locs ls C hR hf hl
  subst hq
  have h1 := zdec C.2.2.2.2.2.2.2.2.2 h rfl
  exact lv_goto C.1 C.2.1 h1.1 (of_decide_eq_true h1.2) (kk p e s m args below meth c H locs ls C hR hf hl)
end
end
section
/-! heap: fields, arrays; returns; contracts and calls -/
section
variable {E : zE} {Y : zY} {R : Room} {fin : zF} {n cells slots : Nat} {σ : zH} {pc q u v : Nat} {w : Int} {L : List (Option Value)} {rest : List Value}
theorem zR.at {H : Heap} (h : zR E n σ H) {a : Nat} {e : va_E} (he : σ a = some e) : va_at E.D zcl (a, zve E e) H := (h.2.2 a e he).2
theorem zR.put {H H' : Heap} (h : zR E n σ H) {a : Nat} {e e' : va_E} (he : σ a = some e) (hz : H'.size = H.size) (ho : ∀ q, q ≠ a → H'[q]? = H[q]?) (ha : va_at E.D zcl (a, zve E e') H') : zR E n (zup σ a e') H' := by
  have hlo := (h.2.2 a e he).1
  refine ⟨hz.trans h.1, fun q hq => (ho q (by omega)).trans (h.2.1 q hq), fun q f hf => ?_⟩
  by_cases hqa : q = a
  · subst hqa
    rw [zup_eq] at hf
    cases hf
    exact ⟨hlo, ha⟩
  · rw [zup_ne hqa] at hf
    exact ⟨(h.2.2 q f hf).1, (h.2.2 q f hf).2.kept (ho q hqa)⟩
theorem zcl_at {ci : Nat} (h : ci < 9) : zcl[ci]? = some (zcn ci, zTT ci, zNN ci) := by
  match ci, h with
  | 0, _ => rfl
  | 1, _ => rfl
  | 2, _ => rfl
  | 3, _ => rfl
  | 4, _ => rfl
  | 5, _ => rfl
  | 6, _ => rfl
  | 7, _ => rfl
  | 8, _ => rfl
  | c + 9, h => omega
theorem zws_at {ci : Nat} (h : ci < 9) : ∀ w ∈ u_ws (zcn ci) (zTT ci) (zNN ci), w ∈ zTbl := by
  match ci, h with
  | 0, _ => exact zw0
  | 1, _ => exact zw1
  | 2, _ => exact zw2
  | 3, _ => exact zw3
  | 4, _ => exact zw4
  | 5, _ => exact zw5
  | 6, _ => exact zw6
  | 7, _ => exact zw7
  | 8, _ => exact zw8
  | c + 9, h => omega
theorem zqq_at {ci : Nat} (h : ci < 9) : ∀ k, k < zNN ci → parseFieldDescriptor (zTT ci k).2.2.1 = some (zYY ci k) := by
  match ci, h with
  | 0, _ => exact zq0
  | 1, _ => exact zq1
  | 2, _ => exact zq2
  | 3, _ => exact zq3
  | 4, _ => exact zq4
  | 5, _ => exact zq5
  | 6, _ => exact zq6
  | 7, _ => exact zq7
  | 8, _ => exact zq8
  | c + 9, h => omega
theorem znn_at {ci : Nat} (h : ci < 9) : ∀ a, a < zNN ci → ∀ b, b < zNN ci → a ≠ b → (zTT ci a).2.1 ≠ (zTT ci b).2.1 := by
  match ci, h with
  | 0, _ => exact zn0
  | 1, _ => exact zn1
  | 2, _ => exact zn2
  | 3, _ => exact zn3
  | 4, _ => exact zn4
  | 5, _ => exact zn5
  | 6, _ => exact zn6
  | 7, _ => exact zn7
  | 8, _ => exact zn8
  | c + 9, h => omega
theorem zaux_f {oc idx u v : Nat} (h : (zFLs.contains (oc, idx, u, v) && decide (u < 9) && decide (v < zNN u)) = true) : (Cond.fieldLink (zcn oc) idx (zTT u v).1 (zTT u v).2.1 (zTT u v).2.2.1) ∈ zTbl ∧ u < 9 ∧ v < zNN u := by
  simp only [Bool.and_eq_true, decide_eq_true_eq] at h
  exact ⟨zFL_ok _ (List.contains_iff_mem.mp h.1.1), h.1.2, h.2⟩
theorem zj_get (k : Nat) {idx a : Nat} {fs : List Value} {x : Value} (h : Y.rows[k]? = some (pc, .getfield idx, q, u, v, w)) (hq : pc + 3 = q) (hs : σ a = some (.inr (u, fs))) (hx : fs[v]? = some x) (kk : zJ E Y R fin n cells slots σ q L (x :: rest)) : zJ E Y R fin n cells slots σ pc L (.ref a :: rest) := by
  intro p e s m args below meth c H locs ls C hR hf hl
  subst hq
  have h1 := zdec C.2.2.2.2.2.2.2.2.2 h rfl
  obtain ⟨g1, g2, g3⟩ := zaux_f h1.2
  have hP : va_P E.D zcl [(a, .inr (u, fs))] H := fun j qq hj => by
    match j, hj with
    | 0, hj => cases hj; exact hR.at hs
    | j + 1, hj => simp at hj
  exact va_get (ref := (zTT u v).1) C.1 C.2.1 C.2.2.2.2.2.2.1 (zws_at g2) C.2.2.2.2.2.1 C.2.2.2.2.2.2.2.1.1 hP 0 rfl (zcl_at g2) v g3 (C.2.2.2.2.2.2.1 _ g1) (fun _ h => h) hx h1.1 (kk p e s m args below meth c H locs ls C hR hf hl)
theorem zj_put (k : Nat) {idx a : Nat} {fs : List Value} {x : Value} (h : Y.rows[k]? = some (pc, .putfield idx, q, u, v, w)) (hq : pc + 3 = q) (hs : σ a = some (.inr (u, fs))) (hfin : (zTT u v).2.2.2 = false) (hn : narrow (zYY u v) x = x) (hfit : fits (zYY u v) x = true) (hl0 : v < fs.length) (kk : zJ E Y R fin n cells slots (zup σ a (.inr (u, fs.set v x))) q L rest) : zJ E Y R fin n cells slots σ pc L (x :: .ref a :: rest) := by
  intro p e s m args below meth c H locs ls C hR hf hl
  subst hq
  have h1 := zdec C.2.2.2.2.2.2.2.2.2 h rfl
  obtain ⟨g1, g2, g3⟩ := zaux_f h1.2
  have hK := C.2.2.2.2.2.2.2.1.1
  have hts := C.2.2.2.2.2.2.1
  have hap := va_apart (own := zcn Y.oc) hts (zws_at g2) (zYY u) (zqq_at g2) (znn_at g2) hK (zcl_at g2)
  obtain ⟨r, hr1, cell, q1, q2, q3, q4⟩ := hR.at hs
  have hr : r = (zcn u, zTT u, zNN u) := Option.some.inj (hr1.symm.trans (zcl_at g2))
  subst hr
  obtain ⟨hS, hfc, kC, hkC, hkind⟩ := hK.1 u _ (zcl_at g2)
  obtain ⟨cf, kf, fi, f, hi, hsl⟩ := hS v g3
  have hlay := hts _ (zws_at g2 _ (u_in_lay g3))
  unfold u_lay at hlay
  rw [if_neg (by rw [hfin]; decide)] at hlay
  have hst := (u_facts hfc hkC (u_lays hts (zws_at g2) g3) hi).1
  have h6 := u_store hfc hkC hkind hlay hi (zqq_at g2 v g3) hn hfit
  refine W.putK C.1 C.2.1 (f := f) ⟨C.2.2.2.2.2.1, hts _ g1, ⟨_, _, _, hi⟩, hst⟩ (by rw [q2]; exact h6) q1 q3 (by rw [hsl]; exact k2_hasslot (q4 v g3)) rfl rfl h1.1 fun H' e1 e2 e3 => ?_
  rw [hsl] at e1 ⊢
  refine kk p e s m args below meth c H' _ ls C (hR.put hs e2 e3 ⟨_, zcl_at g2, t_OB.to (V := updV (vp_V fs) v x) ⟨_, e1, q2, q3, t_set q4 hap g3 x⟩ (fun j _ => vp_updV_set hl0 x j)⟩) (fun l hl' => ?_) hl
  rcases List.mem_append.mp hl' with h' | h'
  · exact hf l h'
  · rw [List.mem_singleton.mp h']; exact (hR.2.2 a _ hs).1
theorem zarr {s : State} (hK : zK E s) {t : Nat} (ht : t < 6) : ArrOfT s (E.cA t) (zty t) := (hK.1.2 t _ (ztys_at E ht)).1
theorem zj_iald (k : Nat) {a N : Nat} {f : Nat → Int32} {i : Int32} (h : Y.rows[k]? = some (pc, .iaload, q, u, v, w)) (hq : pc + 1 = q) (hs : σ a = some (.inl (0, N, .inl f))) (hin : vp_in i N) (kk : zJ E Y R fin n cells slots σ q L (.int (f i.toNatClampNeg) :: rest)) : zJ E Y R fin n cells slots σ pc L (.int i :: .ref a :: rest) := by
  intro p e s m args below meth c H locs ls C hR hf hl
  subst hq
  have hlt : i.toNatClampNeg < N := Nat.not_le.mp fun q => hin (Or.inr q)
  exact W.iald (v := .int (f i.toNatClampNeg)) C.1 C.2.1 (hR.at hs) (zarr C.2.2.2.2.2.2.2.1 (t := 0) (by decide) N (fun j => .int (f j))) (fun q => by cases q) (by show ¬ (i < 0 ∨ (arrV _ _ _).slots.size ≤ _); rw [arrV_size]; exact hin) (by show (arrV _ _ _).slots[_]? = _; rw [arrV_read _ _ hlt]) rfl rfl (zdec C.2.2.2.2.2.2.2.2.2 h rfl).1 (kk p e s m args below meth c H locs ls C hR hf hl)
theorem zj_lald (k : Nat) {a N : Nat} {f : Nat → Int64} {i : Int32} (h : Y.rows[k]? = some (pc, .laload, q, u, v, w)) (hq : pc + 1 = q) (hs : σ a = some (.inl (1, N, .inr (.inl f)))) (hin : vp_in i N) (kk : zJ E Y R fin n cells slots σ q L (.long (f i.toNatClampNeg) :: rest)) : zJ E Y R fin n cells slots σ pc L (.int i :: .ref a :: rest) := by
  intro p e s m args below meth c H locs ls C hR hf hl
  subst hq
  have hlt : i.toNatClampNeg < N := Nat.not_le.mp fun q => hin (Or.inr q)
  exact W.lald (v := .long (f i.toNatClampNeg)) C.1 C.2.1 (hR.at hs) (zarr C.2.2.2.2.2.2.2.1 (t := 1) (by decide) N (fun j => .long (f j))) (fun q => by cases q) (by show ¬ (i < 0 ∨ (arrV _ _ _).slots.size ≤ _); rw [arrV_size]; exact hin) (by show (arrV _ _ _).slots[_]? = _; rw [arrV_read _ _ hlt]) rfl rfl (zdec C.2.2.2.2.2.2.2.2.2 h rfl).1 (kk p e s m args below meth c H locs ls C hR hf hl)
theorem zj_zald (k : Nat) {a N : Nat} {f : Nat → Int32} {i : Int32} (h : Y.rows[k]? = some (pc, .baload, q, u, v, w)) (hq : pc + 1 = q) (hs : σ a = some (.inl (2, N, .inl f))) (hin : vp_in i N) (kk : zJ E Y R fin n cells slots σ q L (.int (f i.toNatClampNeg) :: rest)) : zJ E Y R fin n cells slots σ pc L (.int i :: .ref a :: rest) := by
  intro p e s m args below meth c H locs ls C hR hf hl
  subst hq
  have hlt : i.toNatClampNeg < N := Nat.not_le.mp fun q => hin (Or.inr q)
  exact W.zald (v := .int (f i.toNatClampNeg)) C.1 C.2.1 (hR.at hs) (zarr C.2.2.2.2.2.2.2.1 (t := 2) (by decide) N (fun j => .int (f j))) (fun q => by cases q) (by show ¬ (i < 0 ∨ (arrV _ _ _).slots.size ≤ _); rw [arrV_size]; exact hin) (by show (arrV _ _ _).slots[_]? = _; rw [arrV_read _ _ hlt]) rfl rfl (zdec C.2.2.2.2.2.2.2.2.2 h rfl).1 (kk p e s m args below meth c H locs ls C hR hf hl)
theorem zj_aald (k : Nat) {a N t : Nat} {f : Nat → Option Nat} {i : Int32} {b : Nat} (h : Y.rows[k]? = some (pc, .aaload, q, u, v, w)) (hq : pc + 1 = q) (hs : σ a = some (.inl (t, N, .inr (.inr (.inr (.inr f)))))) (ht : 3 ≤ t ∧ t < 6) (hin : vp_in i N) (hb : f i.toNatClampNeg = some b) (kk : zJ E Y R fin n cells slots σ q L (.ref b :: rest)) : zJ E Y R fin n cells slots σ pc L (.int i :: .ref a :: rest) := by
  intro p e s m args below meth c H locs ls C hR hf hl
  subst hq
  have hlt : i.toNatClampNeg < N := Nat.not_le.mp fun q => hin (Or.inr q)
  have href : (zty t).isReference = true := by
    obtain ⟨t1, t2⟩ := ht
    match t, t1, t2 with
    | 3, _, _ => rfl
    | 4, _, _ => rfl
    | 5, _, _ => rfl
  exact W.aald (v := .ref b) (ty := zty t) C.1 C.2.1 (hR.at hs) (zarr C.2.2.2.2.2.2.2.1 (t := t) ht.2 N (fun j => va_rf (f j))) href (fun q => by cases q) (by show ¬ (i < 0 ∨ (arrV _ _ _).slots.size ≤ _); rw [arrV_size]; exact hin) (by show (arrV _ _ _).slots[_]? = _; rw [arrV_read _ _ hlt, hb]; rfl) rfl rfl (zdec C.2.2.2.2.2.2.2.2.2 h rfl).1 (kk p e s m args below meth c H locs ls C hR hf hl)
theorem zj_alen (k : Nat) {a t N : Nat} {f : (Nat → Int32) ⊕ (Nat → Int64) ⊕ (Nat → UInt32) ⊕ (Nat → UInt64) ⊕ (Nat → Option Nat)} (h : Y.rows[k]? = some (pc, .arraylength, q, u, v, w)) (hq : pc + 1 = q) (hs : σ a = some (.inl (t, N, f))) (ht : t < 6) (kk : zJ E Y R fin n cells slots σ q L (.int (Int32.ofNat N) :: rest)) : zJ E Y R fin n cells slots σ pc L (.ref a :: rest) := by
  intro p e s m args below meth c H locs ls C hR hf hl
  subst hq
  have hc : ∃ g : Nat → Value, vp_cell (E.cA t) (N, f) = arrV (E.cA t) N g := by
    rcases f with f | f | f | f | f
    · exact ⟨_, vp_cell_i _ _ _⟩
    · exact ⟨_, vp_cell_l _ _ _⟩
    · exact ⟨_, vp_cell_f _ _ _⟩
    · exact ⟨_, vp_cell_d _ _ _⟩
    · exact ⟨_, vp_cell_q _ _ _⟩
  obtain ⟨g, hg⟩ := hc
  have hcell : H[a]? = some (arrV (E.cA t) N g) := by rw [← hg]; exact hR.at hs
  exact W.alen (n := Int32.ofNat N) C.1 C.2.1 hcell (zarr C.2.2.2.2.2.2.2.1 ht N g) (by rw [arrV_size] <;> rfl) rfl rfl (zdec C.2.2.2.2.2.2.2.2.2 h rfl).1 (kk p e s m args below meth c H locs ls C hR hf hl)
theorem zj_iast (k : Nat) {a N : Nat} {f : Nat → Int32} {i x : Int32} (h : Y.rows[k]? = some (pc, .iastore, q, u, v, w)) (hq : pc + 1 = q) (hs : σ a = some (.inl (0, N, .inl f))) (hin : vp_in i N) (kk : zJ E Y R fin n cells slots (zup σ a (.inl (0, N, .inl (va_up f i.toNatClampNeg x)))) q L rest) : zJ E Y R fin n cells slots σ pc L (.int x :: .int i :: .ref a :: rest) := by
  intro p e s m args below meth c H locs ls C hR hf hl
  subst hq
  refine W.iast C.1 C.2.1 (hR.at hs) (zarr C.2.2.2.2.2.2.2.1 (t := 0) (by decide) N (fun j => .int (f j))) (fun q => by cases q) (by show ¬ (i < 0 ∨ (arrV _ _ _).slots.size ≤ _); rw [arrV_size]; exact hin) rfl rfl (zdec C.2.2.2.2.2.2.2.2.2 h rfl).1 (fun H' e1 e2 e3 => ?_)
  refine kk p e s m args below meth c H' _ ls C (hR.put hs e2 e3 ?_) (fun l hl' => ?_) hl
  · show H'[a]? = some (vp_cell _ _)
    rw [e1]
    show some ((arrV (E.cA 0) N (fun j => .int (f j))).setSlot i.toNatClampNeg (.int x)) = some (arrV (E.cA 0) N (fun j => .int (va_up f i.toNatClampNeg x j)))
    rw [arrV_store]
    congr 2
    funext j
    by_cases hj : j = i.toNatClampNeg <;> simp [updV, va_up, hj]
  · rcases List.mem_append.mp hl' with h' | h'
    · exact hf l h'
    · rw [List.mem_singleton.mp h']; exact (hR.2.2 a _ hs).1
theorem zj_last (k : Nat) {a N : Nat} {f : Nat → Int64} {i : Int32} {x : Int64} (h : Y.rows[k]? = some (pc, .lastore, q, u, v, w)) (hq : pc + 1 = q) (hs : σ a = some (.inl (1, N, .inr (.inl f)))) (hin : vp_in i N) (kk : zJ E Y R fin n cells slots (zup σ a (.inl (1, N, .inr (.inl (va_up f i.toNatClampNeg x))))) q L rest) : zJ E Y R fin n cells slots σ pc L (.long x :: .int i :: .ref a :: rest) := by
  intro p e s m args below meth c H locs ls C hR hf hl
  subst hq
  refine W.last C.1 C.2.1 (hR.at hs) (zarr C.2.2.2.2.2.2.2.1 (t := 1) (by decide) N (fun j => .long (f j))) (fun q => by cases q) (by show ¬ (i < 0 ∨ (arrV _ _ _).slots.size ≤ _); rw [arrV_size]; exact hin) rfl rfl (zdec C.2.2.2.2.2.2.2.2.2 h rfl).1 (fun H' e1 e2 e3 => ?_)
  refine kk p e s m args below meth c H' _ ls C (hR.put hs e2 e3 ?_) (fun l hl' => ?_) hl
  · show H'[a]? = some (vp_cell _ _)
    rw [e1]
    show some ((arrV (E.cA 1) N (fun j => .long (f j))).setSlot i.toNatClampNeg (.long x)) = some (arrV (E.cA 1) N (fun j => .long (va_up f i.toNatClampNeg x j)))
    rw [arrV_store]
    congr 2
    funext j
    by_cases hj : j = i.toNatClampNeg <;> simp [updV, va_up, hj]
  · rcases List.mem_append.mp hl' with h' | h'
    · exact hf l h'
    · rw [List.mem_singleton.mp h']; exact (hR.2.2 a _ hs).1
theorem zj_zast (k : Nat) {a N : Nat} {f : Nat → Int32} {i x : Int32} (h : Y.rows[k]? = some (pc, .bastore, q, u, v, w)) (hq : pc + 1 = q) (hs : σ a = some (.inl (2, N, .inl f))) (hin : vp_in i N) (hx : narrow .boolean (.int x) = .int x) (kk : zJ E Y R fin n cells slots (zup σ a (.inl (2, N, .inl (va_up f i.toNatClampNeg x)))) q L rest) : zJ E Y R fin n cells slots σ pc L (.int x :: .int i :: .ref a :: rest) := by
  intro p e s m args below meth c H locs ls C hR hf hl
  subst hq
  refine W.zast C.1 C.2.1 (hR.at hs) (zarr C.2.2.2.2.2.2.2.1 (t := 2) (by decide) N (fun j => .int (f j))) (fun q => by cases q) (by show ¬ (i < 0 ∨ (arrV _ _ _).slots.size ≤ _); rw [arrV_size]; exact hin) rfl rfl (zdec C.2.2.2.2.2.2.2.2.2 h rfl).1 (fun H' e1 e2 e3 => ?_)
  refine kk p e s m args below meth c H' _ ls C (hR.put hs e2 e3 ?_) (fun l hl' => ?_) hl
  · show H'[a]? = some (vp_cell _ _)
    rw [e1, hx]
    show some ((arrV (E.cA 2) N (fun j => .int (f j))).setSlot i.toNatClampNeg (.int x)) = some (arrV (E.cA 2) N (fun j => .int (va_up f i.toNatClampNeg x j)))
    rw [arrV_store]
    congr 2
    funext j
    by_cases hj : j = i.toNatClampNeg <;> simp [updV, va_up, hj]
  · rcases List.mem_append.mp hl' with h' | h'
    · exact hf l h'
    · rw [List.mem_singleton.mp h']; exact (hR.2.2 a _ hs).1
/-! the script and the two tables of steps -/
theorem zj_sald (k : Nat) {i : Int32} (h : Y.rows[k]? = some (pc, .iaload, q, u, v, w)) (hq : pc + 1 = q) (hin : vp_in i E.L) (kk : zJ E Y R fin n cells slots σ q L (.int (E.xs i.toNatClampNeg) :: rest)) : zJ E Y R fin n cells slots σ pc L (.int i :: .ref E.b :: rest) := by
  intro p e s m args below meth c H locs ls C hR hf hl
  subst hq
  have hlt : i.toNatClampNeg < E.L := Nat.not_le.mp fun q => hin (Or.inr q)
  obtain ⟨⟨scr, h1, h2, h3, h4, h5⟩, hb, -⟩ := C.2.2.2.2.2.2.2.1.2.2.2
  exact W.iald (v := .int (E.xs i.toNatClampNeg)) C.1 C.2.1 ((hR.2.1 _ hb).trans h1) h2 h3 (by rw [h4]; exact hin) (h5 _ hlt) rfl rfl (zdec C.2.2.2.2.2.2.2.2.2 h rfl).1 (kk p e s m args below meth c H locs ls C hR hf hl)
theorem zj_slen (k : Nat) (h : Y.rows[k]? = some (pc, .arraylength, q, u, v, w)) (hq : pc + 1 = q) (kk : zJ E Y R fin n cells slots σ q L (.int (Int32.ofNat E.L) :: rest)) : zJ E Y R fin n cells slots σ pc L (.ref E.b :: rest) := by
  intro p e s m args below meth c H locs ls C hR hf hl
  subst hq
  obtain ⟨⟨scr, h1, h2, h3, h4, h5⟩, hb, -⟩ := C.2.2.2.2.2.2.2.1.2.2.2
  exact W.alen (n := Int32.ofNat E.L) C.1 C.2.1 ((hR.2.1 _ hb).trans h1) h2 (by rw [h4] <;> rfl) rfl rfl (zdec C.2.2.2.2.2.2.2.2.2 h rfl).1 (kk p e s m args below meth c H locs ls C hR hf hl)
theorem zj_tald1 (k : Nat) {i : Int32} (h : Y.rows[k]? = some (pc, .iaload, q, u, v, w)) (hq : pc + 1 = q) (hin : vp_in i 5) (kk : zJ E Y R fin n cells slots σ q L (.int (zrs i.toNatClampNeg) :: rest)) : zJ E Y R fin n cells slots σ pc L (.int i :: .ref E.t1 :: rest) := by
  intro p e s m args below meth c H locs ls C hR hf hl
  subst hq
  have hlt : i.toNatClampNeg < 5 := Nat.not_le.mp fun q => hin (Or.inr q)
  obtain ⟨-, -, ⟨-, cell, h1, h2, h3, h4, h5, h6, h7⟩, -⟩ := C.2.2.2.2.2.2.2.1.2.2.2
  exact W.iald (v := .int (zrs i.toNatClampNeg)) C.1 C.2.1 ((hR.2.1 _ (Nat.not_le.mp h7)).trans h1) h2 h3 (fun hh => hin (hh.imp id fun g => by omega)) (h6 _ hlt) rfl rfl (zdec C.2.2.2.2.2.2.2.2.2 h rfl).1 (kk p e s m args below meth c H locs ls C hR hf hl)
theorem zj_tald2 (k : Nat) {i : Int32} (h : Y.rows[k]? = some (pc, .iaload, q, u, v, w)) (hq : pc + 1 = q) (hin : vp_in i 5) (kk : zJ E Y R fin n cells slots σ q L (.int (zcs i.toNatClampNeg) :: rest)) : zJ E Y R fin n cells slots σ pc L (.int i :: .ref E.t2 :: rest) := by
  intro p e s m args below meth c H locs ls C hR hf hl
  subst hq
  have hlt : i.toNatClampNeg < 5 := Nat.not_le.mp fun q => hin (Or.inr q)
  obtain ⟨-, -, -, -, cell, h1, h2, h3, h4, h5, h6, h7⟩ := C.2.2.2.2.2.2.2.1.2.2.2
  exact W.iald (v := .int (zcs i.toNatClampNeg)) C.1 C.2.1 ((hR.2.1 _ (Nat.not_le.mp h7)).trans h1) h2 h3 (fun hh => hin (hh.imp id fun g => by omega)) (h6 _ hlt) rfl rfl (zdec C.2.2.2.2.2.2.2.2.2 h rfl).1 (kk p e s m args below meth c H locs ls C hR hf hl)
theorem zj_gets1 (k : Nat) (h : Y.rows[k]? = some (pc, .getstatic 38, q, u, v, w)) (hq : pc + 3 = q) (ho : Y.oc = 4) (kk : zJ E Y R fin n cells slots σ q L (.ref E.t1 :: rest)) : zJ E Y R fin n cells slots σ pc L rest := by
  intro p e s m args below meth c H locs ls C hR hf hl
  subst hq
  obtain ⟨-, -, ⟨⟨cf, kf, fi, f, a, cell, h1, h2, h3, h4, h5, h6, h7, h8⟩, -⟩, -⟩ := C.2.2.2.2.2.2.2.1.2.2.2
  have hlink := C.2.2.2.2.2.2.1 (.fieldLink "DiscLines$Picture" 38 "DiscLines$Picture" "ROW_STEPS" "[I") (zt 372 (by decide +kernel) rfl)
  have hown := C.2.2.2.2.2.1
  rw [ho] at hown
  exact W.gets C.1 C.2.1 hown hlink h1 h2 h3 h4 ((hR.2.1 _ (Nat.not_le.mp h8)).trans h5) (fun e => by rw [e] at h6; cases h6) h7 rfl (zdec C.2.2.2.2.2.2.2.2.2 h rfl).1 (kk p e s m args below meth c H locs ls C hR hf hl)
theorem zj_gets2 (k : Nat) (h : Y.rows[k]? = some (pc, .getstatic 41, q, u, v, w)) (hq : pc + 3 = q) (ho : Y.oc = 4) (kk : zJ E Y R fin n cells slots σ q L (.ref E.t2 :: rest)) : zJ E Y R fin n cells slots σ pc L rest := by
  intro p e s m args below meth c H locs ls C hR hf hl
  subst hq
  obtain ⟨-, -, -, ⟨cf, kf, fi, f, a, cell, h1, h2, h3, h4, h5, h6, h7, h8⟩, -⟩ := C.2.2.2.2.2.2.2.1.2.2.2
  have hlink := C.2.2.2.2.2.2.1 (.fieldLink "DiscLines$Picture" 41 "DiscLines$Picture" "COLUMN_STEPS" "[I") (zt 374 (by decide +kernel) rfl)
  have hown := C.2.2.2.2.2.1
  rw [ho] at hown
  exact W.gets C.1 C.2.1 hown hlink h1 h2 h3 h4 ((hR.2.1 _ (Nat.not_le.mp h8)).trans h5) (fun e => by rw [e] at h6; cases h6) h7 rfl (zdec C.2.2.2.2.2.2.2.2.2 h rfl).1 (kk p e s m args below meth c H locs ls C hR hf hl)
end
end
section
/-! returns, contracts, calls -/
def zQc (E : zE) (Q : Option Value → Nat → zH → Prop) : Array Value → State → Outcome → State → Prop := fun _ _ o t => ∃ (r : Option Value) (n' : Nat) (σ' : zH), o = .returned r ∧ Q r n' σ' ∧ zR E n' σ' t.heap
def zfin (E : zE) (Q : Option Value → Nat → zH → Prop) (mc ms : Nat) : zF := fun below args s => MQ below (zQc E Q) args s mc ms (fun q => E.z ≤ q)
def zMet (E : zE) (Y : zY) (R : Room) (mc ms : Nat) (av : List Value) (n : Nat) (σ : zH) (Q : Option Value → Nat → zH → Prop) : Prop :=
  Met E.l Y.nm (.code Y.nm Y.code Y.nL Y.ret :: zTbl) R (fun v U => v = av.toArray ∧ zR E n σ U.heap ∧ zK E U) (zQc E Q) mc ms (fun q => E.z ≤ q)
def zen : Nat → List Value → List (Option Value)
  | n, [] => List.replicate n none
  | n, .long x :: vs => some (.long x) :: none :: zen (n - 2) vs
  | n, .double x :: vs => some (.double x) :: none :: zen (n - 2) vs
  | n, v :: vs => some v :: zen (n - 1) vs
theorem zlv_none (n k : Nat) : zlv k (List.replicate n none) = [] := by
  induction n generalizing k with
  | zero => rfl
  | succ n ih => simp only [List.replicate_succ, zlv]; exact ih (k + 1)
theorem zen_sub (vs : List Value) : ∀ (n k : Nat) (q : Nat × Value), q ∈ zlv k (zen n vs) → q ∈ lv_args k vs := by
  induction vs with
  | nil => intro n k q h; simp [zen, zlv_none] at h
  | cons v vs ih =>
    intro n k q h
    cases v with
    | long x =>
      simp only [zen, zlv, List.mem_cons] at h
      rcases h with h | h
      · exact List.mem_cons.mpr (Or.inl h)
      · exact List.mem_cons.mpr (Or.inr (ih _ _ _ h))
    | double x =>
      simp only [zen, zlv, List.mem_cons] at h
      rcases h with h | h
      · exact List.mem_cons.mpr (Or.inl h)
      · exact List.mem_cons.mpr (Or.inr (ih _ _ _ h))
    | _ =>
      simp only [zen, zlv, List.mem_cons] at h
      rcases h with h | h
      · exact List.mem_cons.mpr (Or.inl h)
      · exact List.mem_cons.mpr (Or.inr (ih _ _ _ h))
section
variable {E : zE} {Y : zY} {R : Room} {fin : zF} {n cells slots : Nat} {σ : zH} {pc q u v : Nat} {w : Int} {L : List (Option Value)} {rest : List Value} {Q : Option Value → Nat → zH → Prop}
theorem zj_ireturn (k : Nat) {x : Int32} (h : Y.rows[k]? = some (pc, .ireturn, q, u, v, w)) (hq : pc + 1 = q) (hr : Y.ret = some .int) (hQ : Q (some (.int x)) n σ) : zJ E Y R (zfin E Q cells slots) n cells slots σ pc L [.int x] := by
  intro p e s m args below meth c H locs ls C hR hf hl
  subst hq
  have hlocks := C.2.2.2.2.1
  exact W.iret C.1 C.2.1 (C.2.2.2.1.trans hr) (fun t ht _ => ⟨_, n, σ, rfl, hQ, by rw [ht]; exact hR⟩) hf (zdec C.2.2.2.2.2.2.2.2.2 h rfl).1
theorem zj_zreturn (k : Nat) {x : Int32} (h : Y.rows[k]? = some (pc, .ireturn, q, u, v, w)) (hq : pc + 1 = q) (hr : Y.ret = some .boolean) (hn : narrow .boolean (.int x) = .int x) (hQ : Q (some (.int x)) n σ) : zJ E Y R (zfin E Q cells slots) n cells slots σ pc L [.int x] := by
  intro p e s m args below meth c H locs ls C hR hf hl
  subst hq
  have hlocks := C.2.2.2.2.1
  exact W.zret C.1 C.2.1 (C.2.2.2.1.trans hr) hn (fun t ht _ => ⟨_, n, σ, rfl, hQ, by rw [ht]; exact hR⟩) hf (zdec C.2.2.2.2.2.2.2.2.2 h rfl).1
theorem zj_lreturn (k : Nat) {x : Int64} (h : Y.rows[k]? = some (pc, .lreturn, q, u, v, w)) (hq : pc + 1 = q) (hr : Y.ret = some .long) (hQ : Q (some (.long x)) n σ) : zJ E Y R (zfin E Q cells slots) n cells slots σ pc L [.long x] := by
  intro p e s m args below meth c H locs ls C hR hf hl
  subst hq
  have hlocks := C.2.2.2.2.1
  exact W.lret C.1 C.2.1 (C.2.2.2.1.trans hr) (fun t ht _ => ⟨_, n, σ, rfl, hQ, by rw [ht]; exact hR⟩) hf (zdec C.2.2.2.2.2.2.2.2.2 h rfl).1
theorem zj_return (k : Nat) (h : Y.rows[k]? = some (pc, .return_, q, u, v, w)) (hq : pc + 1 = q) (hr : Y.ret = none) (hQ : Q none n σ) : zJ E Y R (zfin E Q cells slots) n cells slots σ pc L [] := by
  intro p e s m args below meth c H locs ls C hR hf hl
  subst hq
  have hlocks := C.2.2.2.2.1
  exact W.vret C.1 C.2.1 (C.2.2.2.1.trans hr) (fun t ht _ => ⟨_, n, σ, rfl, hQ, by rw [ht]; exact hR⟩) hf (zdec C.2.2.2.2.2.2.2.2.2 h rfl).1
theorem zMet.of {mc ms : Nat} {av : List Value} (ok : zok Y) (hp : plainName Y.nm.cls = true) (hc : Y.nm.cls = zcn Y.oc) (hn : (lg_sl av).length ≤ Y.nL) (body : zJ E Y R (zfin E Q mc ms) n 0 0 σ 0 (zen Y.nL av) []) : zMet E Y R mc ms av n σ Q := by
  refine Met.ofW (cc := Y.code) (maxL := Y.nL) (ret := Y.ret) hp rfl ?_
  intro p e s m args below meth c s₁ B hml hv
  obtain ⟨rfl, hR, hK⟩ := hv
  have hts := atoms_spec (ws := Cond.code Y.nm Y.code Y.nL Y.ret :: zTbl) B.pre
  have hown : s.vm.findClass Y.nm.cls = some m.cls := findClass_of_methodNamed B.named
  rw [hc] at hown
  have hl := lv_entry av (n := Y.nL) hn
  rw [lg_entry_eq]
  exact body p e s m _ below meth c s.heap [] _ ⟨B.exec, B.bytes, hml, B.returns, B.notSynchronized, hown, fun w hw => hts w (List.mem_cons_of_mem _ hw), hK, (name_of_methodNamed B.named B.method).1, ok⟩ hR (fun _ h => by cases h) (zhas_mono hl (fun q hq => zen_sub av _ _ q hq))
end
/-! calls -/
def zLk (oc idx : Nat) (y : MethodName) : Prop := Cond.methodLink (zcn oc) idx y ∈ zTbl ∨ (oc, idx, y) ∈ zNest
def zCk (Y : zY) (n : Nat) : Prop := (Cond.code Y.nm Y.code Y.nL Y.ret) ∈ zTbl ∧ Cond.initialized Y.nm.cls ∈ zTbl ∧ (Y.nm.cls ≠ "java/lang/invoke/MethodHandle" ∧ Y.nm.cls ≠ "java/lang/invoke/VarHandle" ∧ (parseMethodDescriptor Y.nm.desc).map (fun d => d.parameters.length) = some n)
def zCkS (Y : zY) (n : Nat) : Prop := zCk Y n ∧ Cond.static Y.nm ∈ zTbl
def zCkV (Y : zY) (n ci : Nat) : Prop := zCk Y n ∧ Cond.instanceMethod Y.nm ∈ zTbl ∧ Cond.selects (zcn ci) Y.nm Y.nm ∈ zTbl ∧ ci < 9
def zCkI (Y : zY) (n : Nat) : Prop := zCk Y n ∧ Cond.instanceMethod Y.nm ∈ zTbl ∧ Y.nm.name = "<init>" ∧ Y.ret = none
theorem zgood (Y : zY) (h : (Cond.code Y.nm Y.code Y.nL Y.ret) ∈ zTbl) : GoodIn zTbl (Cond.code Y.nm Y.code Y.nL Y.ret :: zTbl) := by
  intro w hw
  have hm : w ∈ zTbl := by
    rcases List.mem_cons.mp hw with rfl | hw
    · exact h
    · exact hw
  exact ⟨hm, good_of_word (zgw hm)⟩
def zRf (R R' : Room) (nL cells slots mc ms : Nat) : Prop := (R'.cells = mc ∧ R'.slots = ms) ∧ (R'.frames + 1 ≤ R.frames ∧ 8 + (nL + 11) + R'.locals ≤ R.locals) ∧ (cells + mc ≤ R.cells ∧ slots + ms ≤ R.slots)
section
variable {E : zE} {Y Yc : zY} {R R' : Room} {fin : zF} {n cells slots mc ms : Nat} {σ : zH} {pc q u v idx : Nat} {w : Int} {L : List (Option Value)} {rest st as : List Value} {Q : Option Value → Nat → zH → Prop}
theorem zblind (n : Nat) (σ : zH) (av : List Value) : FrameBlind (fun (v : Array Value) (U : State) => v = av.toArray ∧ zR E n σ U.heap ∧ zK E U) := fun a U g mk h => ⟨h.1, h.2.1, h.2.2.calling g mk a⟩
theorem zafter {p : Program} {e : Env} {s : State} {m : MethodId} {args : Array Value} {below : List Frame} {meth : Method} {c : Code} {H : Heap} {locs : List Loc} {ls : Array Slot} {a : Array Value}
    (run : va_Run p E.l e R s m args below meth c H locs cells slots mc ms (F0 m pc ls st) rest (zQc E Q a) (fun q => E.z ≤ q)) (C : zCx E Y p s m args meth c) (hf : ∀ q ∈ locs, E.z ≤ q.base) (hl : lv_has ls Y.nL (zlv 0 L)) (hq : pc + 3 = q)
    (kk : ∀ r n' σ', Q r n' σ' → zJ E Y R fin n' (cells + mc) (slots + ms) σ' q L (r.toList ++ rest)) : W p E.l e R s m args below meth c H locs cells slots (fin below args s) (F0 m pc ls st) := by
  subst hq
  intro T hT X
  obtain ⟨v, st₀, t, T', Lc, h0, X', hL, e1, e2, ⟨r, n', σ', hv, hQ, hR'⟩, go⟩ := run T hT X
  cases hv
  obtain ⟨t2, a1, b1⟩ := kk v n' σ' hQ p e s m args below meth c T'.heap (locs ++ Lc) ls C (by rw [e1]; exact hR') (fun q hq => (List.mem_append.mp hq).elim (hf q) (hL q)) hl T' rfl X'
  exact ⟨t2, go t2 a1, b1⟩
theorem zj_cs (k : Nat) (h : Y.rows[k]? = some (pc, .invokestatic idx, q, u, v, w)) (hq : pc + 3 = q) (lk : zLk Y.oc idx Yc.nm) {nn : Nat} (ck : zCkS Yc nn) (hM : zMet E Yc R' mc ms as n σ Q) (hst : st = as.reverse ++ rest) (hn : as.length = nn) (hrest : (rest.map fun v => v.category).sum ≤ 8) (hRm : zRf R R' Yc.nL cells slots mc ms)
    (kk : ∀ r n' σ', Q r n' σ' → zJ E Y R fin n' (cells + mc) (slots + ms) σ' q L (r.toList ++ rest)) : zJ E Y R fin n cells slots σ pc L st := by
  intro p e s m args below meth c H locs ls C hR hf hl
  have hts := C.2.2.2.2.2.2.1
  have hd := (zdec C.2.2.2.2.2.2.2.2.2 h hq).1
  have hK := C.2.2.2.2.2.2.2.1
  have hpre : PreS s H (fun (v : Array Value) (U : State) => v = as.toArray ∧ zR E n σ U.heap ∧ zK E U) as := ⟨zblind n σ as, fun U hU hW => ⟨rfl, by rw [hU]; exact hR, hK.warm hW⟩⟩
  refine zafter (a := as.toArray) ?_ C hf hl hq kk
  rcases lk with lk | lk
  · exact va_runS ⟨C.1, C.2.1, C.2.2.1, C.2.2.2.2.2.1, hts⟩ hM ⟨callB_of nn hts (zgood Yc ck.1.1) rfl hRm.1.1 hRm.1.2 (hts _ ck.1.2.1) (hts _ lk) ck.1.2.2 hRm.2.1, hts _ ck.2⟩ hpre rfl hn hl.1 hst (lv_room hrest) hd hRm.2.2
  · exact va_runSN ⟨C.1, C.2.1, C.2.2.1, C.2.2.2.2.2.1, hts⟩ hM ⟨va_cnB nn hts (zgood Yc ck.1.1) rfl hRm.1.1 hRm.1.2 (hK.2.1 _ lk) (hts _ ck.1.2.1) ck.1.2.2 hRm.2.1, hts _ ck.2, trivial⟩ hpre rfl hn hl.1 hst (lv_room hrest) hd hRm.2.2
theorem zj_cv (k : Nat) {b ci : Nat} {fs : List Value} (h : Y.rows[k]? = some (pc, .invokevirtual idx, q, u, v, w)) (hq : pc + 3 = q) (lk : zLk Y.oc idx Yc.nm) {nn : Nat} (ck : zCkV Yc nn ci) (hs : σ b = some (.inr (ci, fs))) (hM : zMet E Yc R' mc ms (.ref b :: as) n σ Q) (hst : st = as.reverse ++ .ref b :: rest) (hn : as.length = nn) (hrest : (rest.map fun v => v.category).sum ≤ 8) (hRm : zRf R R' Yc.nL cells slots mc ms)
    (kk : ∀ r n' σ', Q r n' σ' → zJ E Y R fin n' (cells + mc) (slots + ms) σ' q L (r.toList ++ rest)) : zJ E Y R fin n cells slots σ pc L st := by
  intro p e s m args below meth c H locs ls C hR hf hl
  have hts := C.2.2.2.2.2.2.1
  have hd := (zdec C.2.2.2.2.2.2.2.2.2 h hq).1
  have hK := C.2.2.2.2.2.2.2.1
  obtain ⟨hk0, hin, hsel, hci⟩ := ck
  have hrecv : ∃ cellB : Cell, H[b]? = some cellB ∧ cellB.vm.isStatics = false ∧ s.vm.findClass (zcn ci) = some cellB.cls := by
    obtain ⟨r, hr1, cell, q1, q2, q3, -⟩ := hR.at hs
    exact ⟨cell, q1, by rw [q3]; rfl, by rw [q2]; exact (hK.1.1 ci _ (zcl_at hci)).2.1⟩
  have hpre : PreV s H (zcn ci) b (fun (v : Array Value) (U : State) => v = (Value.ref b :: as).toArray ∧ zR E n σ U.heap ∧ zK E U) as := ⟨zblind n σ (.ref b :: as), hrecv, fun U hU hW => ⟨rfl, by rw [hU]; exact hR, hK.warm hW⟩⟩
  refine zafter (a := (Value.ref b :: as).toArray) ?_ C hf hl hq kk
  rcases lk with lk | lk
  · exact va_runV ⟨C.1, C.2.1, C.2.2.1, C.2.2.2.2.2.1, hts⟩ hM ⟨callB_of nn hts (zgood Yc hk0.1) rfl hRm.1.1 hRm.1.2 (hts _ hk0.2.1) (hts _ lk) hk0.2.2 hRm.2.1, hts _ hin, hts _ hsel⟩ hpre rfl hn hl.1 hst (lv_room hrest) hd hRm.2.2
  · exact va_runVN ⟨C.1, C.2.1, C.2.2.1, C.2.2.2.2.2.1, hts⟩ hM ⟨va_cnB nn hts (zgood Yc hk0.1) rfl hRm.1.1 hRm.1.2 (hK.2.1 _ lk) (hts _ hk0.2.1) hk0.2.2 hRm.2.1, hts _ hin, hts _ hsel⟩ hpre rfl hn hl.1 hst (lv_room hrest) hd hRm.2.2
theorem zj_ci (k : Nat) {b : Nat} (h : Y.rows[k]? = some (pc, .invokespecial idx, q, u, v, w)) (hq : pc + 3 = q) (lk : zLk Y.oc idx Yc.nm) {nn : Nat} (ck : zCkI Yc nn) (hM : zMet E Yc R' mc ms (.ref b :: as) n σ Q) (hst : st = as.reverse ++ .ref b :: rest) (hn : as.length = nn) (hrest : (rest.map fun v => v.category).sum ≤ 8) (hRm : zRf R R' Yc.nL cells slots mc ms)
    (kk : ∀ r n' σ', Q r n' σ' → zJ E Y R fin n' (cells + mc) (slots + ms) σ' q L (r.toList ++ rest)) : zJ E Y R fin n cells slots σ pc L st := by
  intro p e s m args below meth c H locs ls C hR hf hl
  have hts := C.2.2.2.2.2.2.1
  have hd := (zdec C.2.2.2.2.2.2.2.2.2 h hq).1
  have hK := C.2.2.2.2.2.2.2.1
  obtain ⟨hk0, hin, hinit, hret⟩ := ck
  have hpre : PreS s H (fun (v : Array Value) (U : State) => v = (Value.ref b :: as).toArray ∧ zR E n σ U.heap ∧ zK E U) (.ref b :: as) := ⟨zblind n σ (.ref b :: as), fun U hU hW => ⟨rfl, by rw [hU]; exact hR, hK.warm hW⟩⟩
  have hg := zgood Yc hk0.1
  have hM' : Met E.l Yc.nm (.code Yc.nm Yc.code Yc.nL none :: zTbl) R' (fun v U => v = (Value.ref b :: as).toArray ∧ zR E n σ U.heap ∧ zK E U) (zQc E Q) mc ms (fun q => E.z ≤ q) := by rw [← hret]; exact hM
  rw [hret] at hg
  refine zafter (a := (Value.ref b :: as).toArray) ?_ C hf hl hq kk
  rcases lk with lk | lk
  · exact va_runI ⟨C.1, C.2.1, C.2.2.1, C.2.2.2.2.2.1, hts⟩ hM' ⟨callB_of nn hts hg rfl hRm.1.1 hRm.1.2 (hts _ hk0.2.1) (hts _ lk) hk0.2.2 hRm.2.1, hinit, hts _ hin⟩ hpre rfl hn hl.1 hst (lv_room hrest) hd hRm.2.2
  · exact va_runIN ⟨C.1, C.2.1, C.2.2.1, C.2.2.2.2.2.1, hts⟩ hM' ⟨va_cnB nn hts hg rfl hRm.1.1 hRm.1.2 (hK.2.1 _ lk) (hts _ hk0.2.1) hk0.2.2 hRm.2.1, hinit, hts _ hin⟩ hpre rfl hn hl.1 hst (lv_room hrest) hd hRm.2.2
end
/-! contracts that make nothing and answer one thing -/
def zrm (d : Nat) : Room := { frames := d, cells := 0, slots := 0, locals := 64 * d }
def zM (E : zE) (Y : zY) (d : Nat) (av : List Value) (σ : zH) (r : Option Value) (σ' : zH) : Prop := ∀ n, zMet E Y (zrm d) 0 0 av n σ (fun r' n' s' => r' = r ∧ n' = n ∧ s' = σ')
abbrev zB (E : zE) (Y : zY) (d n : Nat) (r : Option Value) (σ' : zH) (σ : zH) (pc : Nat) (L : List (Option Value)) (st : List Value) : Prop := zJ E Y (zrm d) (zfin E (fun r' n' s' => r' = r ∧ n' = n ∧ s' = σ') 0 0) n 0 0 σ pc L st
section
variable {E : zE} {Y Yc : zY} {R : Room} {fin : zF} {n cells slots : Nat} {σ σ' : zH} {pc q u v idx : Nat} {w : Int} {L : List (Option Value)} {rest st as : List Value}
theorem zM.of {d : Nat} {av : List Value} {r : Option Value} (ok : zok Y) (hp : plainName Y.nm.cls = true) (hc : Y.nm.cls = zcn Y.oc) (hn : (lg_sl av).length.ble Y.nL = true) (body : ∀ n, zB E Y d n r σ' σ 0 (zen Y.nL av) []) : zM E Y d av σ r σ' := fun n => zMet.of ok hp hc (Nat.le_of_ble_eq_true hn) (body n)
def zRg (R : Room) (nL d cells slots : Nat) : Bool := (d + 1).ble R.frames && (nL + 19 + 64 * d).ble R.locals && cells.ble R.cells && slots.ble R.slots
theorem zRg_f {nL d : Nat} (h : zRg R nL d cells slots = true) : zRf R (zrm d) nL cells slots 0 0 := by
  unfold zRg at h
  simp only [Bool.and_eq_true] at h
  have h1 := Nat.le_of_ble_eq_true h.1.1.1
  have h2 := Nat.le_of_ble_eq_true h.1.1.2
  have h3 := Nat.le_of_ble_eq_true h.1.2
  have h4 := Nat.le_of_ble_eq_true h.2
  exact ⟨⟨rfl, rfl⟩, ⟨h1, by show 8 + (nL + 11) + 64 * d ≤ _; omega⟩, by omega, by omega⟩
theorem zj_csx (k : Nat) {d nn : Nat} {x : Value} (h : Y.rows[k]? = some (pc, .invokestatic idx, q, u, v, w)) (hq : pc + 3 = q) (lk : zLk Y.oc idx Yc.nm) (ck : zCkS Yc nn) (hM : zM E Yc d as σ (some x) σ') (hst : st = as.reverse ++ rest) (hn : as.length = nn) (hrest : ((rest.map Value.category).sum).ble 8 = true) (hRm : zRg R Yc.nL d cells slots = true) (kk : zJ E Y R fin n cells slots σ' q L (x :: rest)) : zJ E Y R fin n cells slots σ pc L st :=
  zj_cs k h hq lk ck (hM n) hst hn (Nat.le_of_ble_eq_true hrest) (zRg_f hRm) (fun r n' s' hQ => by obtain ⟨rfl, rfl, rfl⟩ := hQ; exact kk)
theorem zj_csv (k : Nat) {d nn : Nat} (h : Y.rows[k]? = some (pc, .invokestatic idx, q, u, v, w)) (hq : pc + 3 = q) (lk : zLk Y.oc idx Yc.nm) (ck : zCkS Yc nn) (hM : zM E Yc d as σ none σ') (hst : st = as.reverse ++ rest) (hn : as.length = nn) (hrest : ((rest.map Value.category).sum).ble 8 = true) (hRm : zRg R Yc.nL d cells slots = true) (kk : zJ E Y R fin n cells slots σ' q L rest) : zJ E Y R fin n cells slots σ pc L st :=
  zj_cs k h hq lk ck (hM n) hst hn (Nat.le_of_ble_eq_true hrest) (zRg_f hRm) (fun r n' s' hQ => by obtain ⟨rfl, rfl, rfl⟩ := hQ; exact kk)
theorem zj_cvx (k : Nat) {d nn ci b : Nat} {fs : List Value} {x : Value} (h : Y.rows[k]? = some (pc, .invokevirtual idx, q, u, v, w)) (hq : pc + 3 = q) (lk : zLk Y.oc idx Yc.nm) (ck : zCkV Yc nn ci) (hM : zM E Yc d (.ref b :: as) σ (some x) σ') (hst : st = as.reverse ++ .ref b :: rest) (hs : σ b = some (.inr (ci, fs))) (hn : as.length = nn) (hrest : ((rest.map Value.category).sum).ble 8 = true) (hRm : zRg R Yc.nL d cells slots = true) (kk : zJ E Y R fin n cells slots σ' q L (x :: rest)) : zJ E Y R fin n cells slots σ pc L st :=
  zj_cv k h hq lk ck hs (hM n) hst hn (Nat.le_of_ble_eq_true hrest) (zRg_f hRm) (fun r n' s' hQ => by obtain ⟨rfl, rfl, rfl⟩ := hQ; exact kk)
theorem zj_cvv (k : Nat) {d nn ci b : Nat} {fs : List Value} (h : Y.rows[k]? = some (pc, .invokevirtual idx, q, u, v, w)) (hq : pc + 3 = q) (lk : zLk Y.oc idx Yc.nm) (ck : zCkV Yc nn ci) (hM : zM E Yc d (.ref b :: as) σ none σ') (hst : st = as.reverse ++ .ref b :: rest) (hs : σ b = some (.inr (ci, fs))) (hn : as.length = nn) (hrest : ((rest.map Value.category).sum).ble 8 = true) (hRm : zRg R Yc.nL d cells slots = true) (kk : zJ E Y R fin n cells slots σ' q L rest) : zJ E Y R fin n cells slots σ pc L st :=
  zj_cv k h hq lk ck hs (hM n) hst hn (Nat.le_of_ble_eq_true hrest) (zRg_f hRm) (fun r n' s' hQ => by obtain ⟨rfl, rfl, rfl⟩ := hQ; exact kk)
end
end
