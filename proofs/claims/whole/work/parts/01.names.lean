-- PART A of the skeleton (a starting text), then names out of the printed NAMES (a starting text), then tables of our own
/-- a private method of a class that the tables say can be made, by its rows of tables_1 -/
def lw_okq (q : MethodName × Nat) : Prop := (q.1.cls ≠ "java/lang/invoke/MethodHandle" ∧ q.1.cls ≠ "java/lang/invoke/VarHandle") ∧ Cond.instantiable q.1.cls q.2 ∈ tables_1 ∧ Cond.privateMethod q.1 ∈ tables_1 ∧ Cond.instanceMethod q.1 ∈ tables_1
theorem lw_p0 : lw_okq (⟨"SeamReadings$History", "dropOldest", "()V"⟩, 2) := ⟨⟨by decide +kernel, by decide +kernel⟩, List.mem_of_getElem? (i := 68) (by decide +kernel), List.mem_of_getElem? (i := 180) (by decide +kernel), List.mem_of_getElem? (i := 181) (by decide +kernel)⟩
theorem lw_p1 : lw_okq (⟨"SeamReadings", "sewText", "()V"⟩, 8) := ⟨⟨by decide +kernel, by decide +kernel⟩, List.mem_of_getElem? (i := 11) (by decide +kernel), List.mem_of_getElem? (i := 199) (by decide +kernel), List.mem_of_getElem? (i := 200) (by decide +kernel)⟩
theorem lw_p2 : lw_okq (⟨"SeamReadings", "readingsOf", "(LSeamReadings$Scroll;)I"⟩, 8) := ⟨⟨by decide +kernel, by decide +kernel⟩, List.mem_of_getElem? (i := 11) (by decide +kernel), List.mem_of_getElem? (i := 309) (by decide +kernel), List.mem_of_getElem? (i := 310) (by decide +kernel)⟩
theorem lw_p3 : lw_okq (⟨"SeamReadings$Scroll", "standsAt", "([IIIIIZ)Z"⟩, 3) := ⟨⟨by decide +kernel, by decide +kernel⟩, List.mem_of_getElem? (i := 26) (by decide +kernel), List.mem_of_getElem? (i := 338) (by decide +kernel), List.mem_of_getElem? (i := 339) (by decide +kernel)⟩
theorem lw_p4 : lw_okq (⟨"SeamReadings", "evenReadings", "(LSeamReadings$Scroll;)I"⟩, 8) := ⟨⟨by decide +kernel, by decide +kernel⟩, List.mem_of_getElem? (i := 11) (by decide +kernel), List.mem_of_getElem? (i := 359) (by decide +kernel), List.mem_of_getElem? (i := 360) (by decide +kernel)⟩
theorem lw_p5 : lw_okq (⟨"SeamReadings$End", "addDigit", "(II)V"⟩, 5) := ⟨⟨by decide +kernel, by decide +kernel⟩, List.mem_of_getElem? (i := 91) (by decide +kernel), List.mem_of_getElem? (i := 377) (by decide +kernel), List.mem_of_getElem? (i := 378) (by decide +kernel)⟩
theorem lw_p6 : lw_okq (⟨"SeamReadings$Readings", "orderOfEnds", "()I"⟩, 4) := ⟨⟨by decide +kernel, by decide +kernel⟩, List.mem_of_getElem? (i := 85) (by decide +kernel), List.mem_of_getElem? (i := 389) (by decide +kernel), List.mem_of_getElem? (i := 390) (by decide +kernel)⟩
theorem lw_p7 : lw_okq (⟨"SeamReadings", "idleSeams", "(LSeamReadings$Scroll;)I"⟩, 8) := ⟨⟨by decide +kernel, by decide +kernel⟩, List.mem_of_getElem? (i := 11) (by decide +kernel), List.mem_of_getElem? (i := 399) (by decide +kernel), List.mem_of_getElem? (i := 400) (by decide +kernel)⟩
theorem lw_p8 : lw_okq (⟨"SeamReadings", "tellTheSame", "(LSeamReadings$Scroll;LSeamReadings$Scroll;)Z"⟩, 8) := ⟨⟨by decide +kernel, by decide +kernel⟩, List.mem_of_getElem? (i := 11) (by decide +kernel), List.mem_of_getElem? (i := 404) (by decide +kernel), List.mem_of_getElem? (i := 405) (by decide +kernel)⟩
theorem lw_p9 : lw_okq (⟨"SeamReadings", "readingsOfBoth", "(LSeamReadings$Scroll;LSeamReadings$Scroll;)I"⟩, 8) := ⟨⟨by decide +kernel, by decide +kernel⟩, List.mem_of_getElem? (i := 11) (by decide +kernel), List.mem_of_getElem? (i := 408) (by decide +kernel), List.mem_of_getElem? (i := 409) (by decide +kernel)⟩
theorem lw_p10 : lw_okq (⟨"SeamReadings", "findWord", "(LSeamReadings$Scroll;I)I"⟩, 8) := ⟨⟨by decide +kernel, by decide +kernel⟩, List.mem_of_getElem? (i := 11) (by decide +kernel), List.mem_of_getElem? (i := 442) (by decide +kernel), List.mem_of_getElem? (i := 443) (by decide +kernel)⟩
theorem lw_p11 : lw_okq (⟨"SeamReadings$Pad", "standsAt", "([II)Z"⟩, 2) := ⟨⟨by decide +kernel, by decide +kernel⟩, List.mem_of_getElem? (i := 54) (by decide +kernel), List.mem_of_getElem? (i := 450) (by decide +kernel), List.mem_of_getElem? (i := 451) (by decide +kernel)⟩
theorem lw_p12 : lw_okq (⟨"SeamReadings", "readingsOfAll", "()I"⟩, 8) := ⟨⟨by decide +kernel, by decide +kernel⟩, List.mem_of_getElem? (i := 11) (by decide +kernel), List.mem_of_getElem? (i := 475) (by decide +kernel), List.mem_of_getElem? (i := 476) (by decide +kernel)⟩
theorem lw_p13 : lw_okq (⟨"SeamReadings", "readingsNotToldBefore", "(LSeamReadings$Scroll;I)I"⟩, 8) := ⟨⟨by decide +kernel, by decide +kernel⟩, List.mem_of_getElem? (i := 11) (by decide +kernel), List.mem_of_getElem? (i := 479) (by decide +kernel), List.mem_of_getElem? (i := 480) (by decide +kernel)⟩
theorem lw_p14 : lw_okq (⟨"SeamReadings", "pairsOfTheSame", "()I"⟩, 8) := ⟨⟨by decide +kernel, by decide +kernel⟩, List.mem_of_getElem? (i := 11) (by decide +kernel), List.mem_of_getElem? (i := 488) (by decide +kernel), List.mem_of_getElem? (i := 489) (by decide +kernel)⟩
theorem lw_p15 : lw_okq (⟨"SeamReadings", "readingsWithCut", "(LSeamReadings$Scroll;II)I"⟩, 8) := ⟨⟨by decide +kernel, by decide +kernel⟩, List.mem_of_getElem? (i := 11) (by decide +kernel), List.mem_of_getElem? (i := 496) (by decide +kernel), List.mem_of_getElem? (i := 497) (by decide +kernel)⟩
def lw_privs_1 : List (MethodName × Nat) := [(⟨"SeamReadings$History", "dropOldest", "()V"⟩, 2), (⟨"SeamReadings", "sewText", "()V"⟩, 8), (⟨"SeamReadings", "readingsOf", "(LSeamReadings$Scroll;)I"⟩, 8), (⟨"SeamReadings$Scroll", "standsAt", "([IIIIIZ)Z"⟩, 3), (⟨"SeamReadings", "evenReadings", "(LSeamReadings$Scroll;)I"⟩, 8), (⟨"SeamReadings$End", "addDigit", "(II)V"⟩, 5), (⟨"SeamReadings$Readings", "orderOfEnds", "()I"⟩, 4), (⟨"SeamReadings", "idleSeams", "(LSeamReadings$Scroll;)I"⟩, 8), (⟨"SeamReadings", "tellTheSame", "(LSeamReadings$Scroll;LSeamReadings$Scroll;)Z"⟩, 8), (⟨"SeamReadings", "readingsOfBoth", "(LSeamReadings$Scroll;LSeamReadings$Scroll;)I"⟩, 8), (⟨"SeamReadings", "findWord", "(LSeamReadings$Scroll;I)I"⟩, 8), (⟨"SeamReadings$Pad", "standsAt", "([II)Z"⟩, 2), (⟨"SeamReadings", "readingsOfAll", "()I"⟩, 8), (⟨"SeamReadings", "readingsNotToldBefore", "(LSeamReadings$Scroll;I)I"⟩, 8), (⟨"SeamReadings", "pairsOfTheSame", "()I"⟩, 8), (⟨"SeamReadings", "readingsWithCut", "(LSeamReadings$Scroll;II)I"⟩, 8)]
theorem lw_r1 : ∀ q ∈ lw_privs_1, lw_okq q := List.forall_mem_cons.mpr ⟨lw_p0, List.forall_mem_cons.mpr ⟨lw_p1, List.forall_mem_cons.mpr ⟨lw_p2, List.forall_mem_cons.mpr ⟨lw_p3, List.forall_mem_cons.mpr ⟨lw_p4, List.forall_mem_cons.mpr ⟨lw_p5, List.forall_mem_cons.mpr ⟨lw_p6, List.forall_mem_cons.mpr ⟨lw_p7, List.forall_mem_cons.mpr ⟨lw_p8, List.forall_mem_cons.mpr ⟨lw_p9, List.forall_mem_cons.mpr ⟨lw_p10, List.forall_mem_cons.mpr ⟨lw_p11, List.forall_mem_cons.mpr ⟨lw_p12, List.forall_mem_cons.mpr ⟨lw_p13, List.forall_mem_cons.mpr ⟨lw_p14, List.forall_mem_cons.mpr ⟨lw_p15, fun _ h => absurd h List.not_mem_nil⟩⟩⟩⟩⟩⟩⟩⟩⟩⟩⟩⟩⟩⟩⟩⟩
theorem lw_p16 : lw_okq (⟨"SeamReadingsModel", "findFault", "()I"⟩, 19) := ⟨⟨by decide +kernel, by decide +kernel⟩, List.mem_of_getElem? (i := 544) (by decide +kernel), List.mem_of_getElem? (i := 612) (by decide +kernel), List.mem_of_getElem? (i := 613) (by decide +kernel)⟩
theorem lw_p17 : lw_okq (⟨"SeamReadingsModel", "toldMany", "()I"⟩, 19) := ⟨⟨by decide +kernel, by decide +kernel⟩, List.mem_of_getElem? (i := 544) (by decide +kernel), List.mem_of_getElem? (i := 619) (by decide +kernel), List.mem_of_getElem? (i := 620) (by decide +kernel)⟩
theorem lw_p18 : lw_okq (⟨"SeamReadingsModel", "record", "()V"⟩, 19) := ⟨⟨by decide +kernel, by decide +kernel⟩, List.mem_of_getElem? (i := 544) (by decide +kernel), List.mem_of_getElem? (i := 623) (by decide +kernel), List.mem_of_getElem? (i := 624) (by decide +kernel)⟩
theorem lw_p19 : lw_okq (⟨"SeamReadingsModel", "readScroll", "(I)I"⟩, 19) := ⟨⟨by decide +kernel, by decide +kernel⟩, List.mem_of_getElem? (i := 544) (by decide +kernel), List.mem_of_getElem? (i := 630) (by decide +kernel), List.mem_of_getElem? (i := 631) (by decide +kernel)⟩
theorem lw_p20 : lw_okq (⟨"SeamReadingsModel", "give", "(I)V"⟩, 19) := ⟨⟨by decide +kernel, by decide +kernel⟩, List.mem_of_getElem? (i := 544) (by decide +kernel), List.mem_of_getElem? (i := 634) (by decide +kernel), List.mem_of_getElem? (i := 635) (by decide +kernel)⟩
theorem lw_p21 : lw_okq (⟨"SeamReadingsModel", "isScroll", "(I)Z"⟩, 19) := ⟨⟨by decide +kernel, by decide +kernel⟩, List.mem_of_getElem? (i := 544) (by decide +kernel), List.mem_of_getElem? (i := 642) (by decide +kernel), List.mem_of_getElem? (i := 643) (by decide +kernel)⟩
theorem lw_p22 : lw_okq (⟨"SeamReadingsModel", "lettersOf", "(I)I"⟩, 19) := ⟨⟨by decide +kernel, by decide +kernel⟩, List.mem_of_getElem? (i := 544) (by decide +kernel), List.mem_of_getElem? (i := 646) (by decide +kernel), List.mem_of_getElem? (i := 647) (by decide +kernel)⟩
theorem lw_p23 : lw_okq (⟨"SeamReadingsModel", "part", "(II)I"⟩, 19) := ⟨⟨by decide +kernel, by decide +kernel⟩, List.mem_of_getElem? (i := 544) (by decide +kernel), List.mem_of_getElem? (i := 650) (by decide +kernel), List.mem_of_getElem? (i := 651) (by decide +kernel)⟩
theorem lw_p24 : lw_okq (⟨"SeamReadingsModel", "goes", "(I)V"⟩, 19) := ⟨⟨by decide +kernel, by decide +kernel⟩, List.mem_of_getElem? (i := 544) (by decide +kernel), List.mem_of_getElem? (i := 654) (by decide +kernel), List.mem_of_getElem? (i := 655) (by decide +kernel)⟩
theorem lw_p25 : lw_okq (⟨"SeamReadingsModel", "isPatch", "(II)Z"⟩, 19) := ⟨⟨by decide +kernel, by decide +kernel⟩, List.mem_of_getElem? (i := 544) (by decide +kernel), List.mem_of_getElem? (i := 662) (by decide +kernel), List.mem_of_getElem? (i := 663) (by decide +kernel)⟩
theorem lw_p26 : lw_okq (⟨"SeamReadingsModel", "sizeOf", "(II)I"⟩, 19) := ⟨⟨by decide +kernel, by decide +kernel⟩, List.mem_of_getElem? (i := 544) (by decide +kernel), List.mem_of_getElem? (i := 666) (by decide +kernel), List.mem_of_getElem? (i := 667) (by decide +kernel)⟩
theorem lw_p27 : lw_okq (⟨"SeamReadingsModel", "take", "(I)V"⟩, 19) := ⟨⟨by decide +kernel, by decide +kernel⟩, List.mem_of_getElem? (i := 544) (by decide +kernel), List.mem_of_getElem? (i := 670) (by decide +kernel), List.mem_of_getElem? (i := 671) (by decide +kernel)⟩
theorem lw_p28 : lw_okq (⟨"SeamReadingsModel", "cutNow", "(II)V"⟩, 19) := ⟨⟨by decide +kernel, by decide +kernel⟩, List.mem_of_getElem? (i := 544) (by decide +kernel), List.mem_of_getElem? (i := 674) (by decide +kernel), List.mem_of_getElem? (i := 675) (by decide +kernel)⟩
theorem lw_p29 : lw_okq (⟨"SeamReadingsModel", "isSeam", "(II)Z"⟩, 19) := ⟨⟨by decide +kernel, by decide +kernel⟩, List.mem_of_getElem? (i := 544) (by decide +kernel), List.mem_of_getElem? (i := 682) (by decide +kernel), List.mem_of_getElem? (i := 683) (by decide +kernel)⟩
theorem lw_p30 : lw_okq (⟨"SeamReadingsModel", "undoNow", "(I)V"⟩, 19) := ⟨⟨by decide +kernel, by decide +kernel⟩, List.mem_of_getElem? (i := 544) (by decide +kernel), List.mem_of_getElem? (i := 686) (by decide +kernel), List.mem_of_getElem? (i := 687) (by decide +kernel)⟩
theorem lw_p31 : lw_okq (⟨"SeamReadingsModel", "search", "(Z)V"⟩, 19) := ⟨⟨by decide +kernel, by decide +kernel⟩, List.mem_of_getElem? (i := 544) (by decide +kernel), List.mem_of_getElem? (i := 698) (by decide +kernel), List.mem_of_getElem? (i := 699) (by decide +kernel)⟩
def lw_privs_2 : List (MethodName × Nat) := [(⟨"SeamReadingsModel", "findFault", "()I"⟩, 19), (⟨"SeamReadingsModel", "toldMany", "()I"⟩, 19), (⟨"SeamReadingsModel", "record", "()V"⟩, 19), (⟨"SeamReadingsModel", "readScroll", "(I)I"⟩, 19), (⟨"SeamReadingsModel", "give", "(I)V"⟩, 19), (⟨"SeamReadingsModel", "isScroll", "(I)Z"⟩, 19), (⟨"SeamReadingsModel", "lettersOf", "(I)I"⟩, 19), (⟨"SeamReadingsModel", "part", "(II)I"⟩, 19), (⟨"SeamReadingsModel", "goes", "(I)V"⟩, 19), (⟨"SeamReadingsModel", "isPatch", "(II)Z"⟩, 19), (⟨"SeamReadingsModel", "sizeOf", "(II)I"⟩, 19), (⟨"SeamReadingsModel", "take", "(I)V"⟩, 19), (⟨"SeamReadingsModel", "cutNow", "(II)V"⟩, 19), (⟨"SeamReadingsModel", "isSeam", "(II)Z"⟩, 19), (⟨"SeamReadingsModel", "undoNow", "(I)V"⟩, 19), (⟨"SeamReadingsModel", "search", "(Z)V"⟩, 19)]
theorem lw_r2 : ∀ q ∈ lw_privs_2, lw_okq q := List.forall_mem_cons.mpr ⟨lw_p16, List.forall_mem_cons.mpr ⟨lw_p17, List.forall_mem_cons.mpr ⟨lw_p18, List.forall_mem_cons.mpr ⟨lw_p19, List.forall_mem_cons.mpr ⟨lw_p20, List.forall_mem_cons.mpr ⟨lw_p21, List.forall_mem_cons.mpr ⟨lw_p22, List.forall_mem_cons.mpr ⟨lw_p23, List.forall_mem_cons.mpr ⟨lw_p24, List.forall_mem_cons.mpr ⟨lw_p25, List.forall_mem_cons.mpr ⟨lw_p26, List.forall_mem_cons.mpr ⟨lw_p27, List.forall_mem_cons.mpr ⟨lw_p28, List.forall_mem_cons.mpr ⟨lw_p29, List.forall_mem_cons.mpr ⟨lw_p30, List.forall_mem_cons.mpr ⟨lw_p31, fun _ h => absurd h List.not_mem_nil⟩⟩⟩⟩⟩⟩⟩⟩⟩⟩⟩⟩⟩⟩⟩⟩
theorem lw_p32 : lw_okq (⟨"SeamReadingsModel", "layDown", "(I)V"⟩, 19) := ⟨⟨by decide +kernel, by decide +kernel⟩, List.mem_of_getElem? (i := 544) (by decide +kernel), List.mem_of_getElem? (i := 702) (by decide +kernel), List.mem_of_getElem? (i := 703) (by decide +kernel)⟩
theorem lw_p33 : lw_okq (⟨"SeamReadingsModel", "takeIn", "(I)V"⟩, 19) := ⟨⟨by decide +kernel, by decide +kernel⟩, List.mem_of_getElem? (i := 544) (by decide +kernel), List.mem_of_getElem? (i := 706) (by decide +kernel), List.mem_of_getElem? (i := 707) (by decide +kernel)⟩
theorem lw_p34 : lw_okq (⟨"SeamReadingsModel", "findOf", "(I)V"⟩, 19) := ⟨⟨by decide +kernel, by decide +kernel⟩, List.mem_of_getElem? (i := 544) (by decide +kernel), List.mem_of_getElem? (i := 721) (by decide +kernel), List.mem_of_getElem? (i := 722) (by decide +kernel)⟩
theorem lw_p35 : lw_okq (⟨"SeamReadingsModel", "sameBothWays", "(I)I"⟩, 19) := ⟨⟨by decide +kernel, by decide +kernel⟩, List.mem_of_getElem? (i := 544) (by decide +kernel), List.mem_of_getElem? (i := 725) (by decide +kernel), List.mem_of_getElem? (i := 726) (by decide +kernel)⟩
theorem lw_p36 : lw_okq (⟨"SeamReadingsModel", "sameFromEnds", "()I"⟩, 19) := ⟨⟨by decide +kernel, by decide +kernel⟩, List.mem_of_getElem? (i := 544) (by decide +kernel), List.mem_of_getElem? (i := 729) (by decide +kernel), List.mem_of_getElem? (i := 730) (by decide +kernel)⟩
theorem lw_p37 : lw_okq (⟨"SeamReadingsModel", "letterOf", "(II)I"⟩, 19) := ⟨⟨by decide +kernel, by decide +kernel⟩, List.mem_of_getElem? (i := 544) (by decide +kernel), List.mem_of_getElem? (i := 733) (by decide +kernel), List.mem_of_getElem? (i := 734) (by decide +kernel)⟩
theorem lw_p38 : lw_okq (⟨"SeamReadingsModel", "needlessSeams", "(I)I"⟩, 19) := ⟨⟨by decide +kernel, by decide +kernel⟩, List.mem_of_getElem? (i := 544) (by decide +kernel), List.mem_of_getElem? (i := 737) (by decide +kernel), List.mem_of_getElem? (i := 738) (by decide +kernel)⟩
theorem lw_p39 : lw_okq (⟨"SeamReadingsModel", "keepOther", "()V"⟩, 19) := ⟨⟨by decide +kernel, by decide +kernel⟩, List.mem_of_getElem? (i := 544) (by decide +kernel), List.mem_of_getElem? (i := 741) (by decide +kernel), List.mem_of_getElem? (i := 742) (by decide +kernel)⟩
theorem lw_p40 : lw_okq (⟨"SeamReadingsModel", "meet", "()I"⟩, 19) := ⟨⟨by decide +kernel, by decide +kernel⟩, List.mem_of_getElem? (i := 544) (by decide +kernel), List.mem_of_getElem? (i := 745) (by decide +kernel), List.mem_of_getElem? (i := 746) (by decide +kernel)⟩
theorem lw_p41 : lw_okq (⟨"SeamReadingsModel", "isWord", "()Z"⟩, 19) := ⟨⟨by decide +kernel, by decide +kernel⟩, List.mem_of_getElem? (i := 544) (by decide +kernel), List.mem_of_getElem? (i := 765) (by decide +kernel), List.mem_of_getElem? (i := 766) (by decide +kernel)⟩
theorem lw_p42 : lw_okq (⟨"SeamReadingsModel", "placeIn", "(I)I"⟩, 19) := ⟨⟨by decide +kernel, by decide +kernel⟩, List.mem_of_getElem? (i := 544) (by decide +kernel), List.mem_of_getElem? (i := 769) (by decide +kernel), List.mem_of_getElem? (i := 770) (by decide +kernel)⟩
theorem lw_p43 : lw_okq (⟨"SeamReadingsModel", "sharedBy", "(II)I"⟩, 19) := ⟨⟨by decide +kernel, by decide +kernel⟩, List.mem_of_getElem? (i := 544) (by decide +kernel), List.mem_of_getElem? (i := 777) (by decide +kernel), List.mem_of_getElem? (i := 778) (by decide +kernel)⟩
theorem lw_p44 : lw_okq (⟨"SeamReadingsModel", "howTheyStand", "(II)I"⟩, 19) := ⟨⟨by decide +kernel, by decide +kernel⟩, List.mem_of_getElem? (i := 544) (by decide +kernel), List.mem_of_getElem? (i := 785) (by decide +kernel), List.mem_of_getElem? (i := 786) (by decide +kernel)⟩
theorem lw_p45 : lw_okq (⟨"SeamReadingsModel", "allPatches", "()I"⟩, 19) := ⟨⟨by decide +kernel, by decide +kernel⟩, List.mem_of_getElem? (i := 544) (by decide +kernel), List.mem_of_getElem? (i := 793) (by decide +kernel), List.mem_of_getElem? (i := 794) (by decide +kernel)⟩
theorem lw_p46 : lw_okq (⟨"SeamReadingsModel", "allLetters", "()I"⟩, 19) := ⟨⟨by decide +kernel, by decide +kernel⟩, List.mem_of_getElem? (i := 544) (by decide +kernel), List.mem_of_getElem? (i := 797) (by decide +kernel), List.mem_of_getElem? (i := 798) (by decide +kernel)⟩
theorem lw_p47 : lw_okq (⟨"SeamReadingsModel", "allReadings", "()I"⟩, 19) := ⟨⟨by decide +kernel, by decide +kernel⟩, List.mem_of_getElem? (i := 544) (by decide +kernel), List.mem_of_getElem? (i := 801) (by decide +kernel), List.mem_of_getElem? (i := 802) (by decide +kernel)⟩
def lw_privs_3 : List (MethodName × Nat) := [(⟨"SeamReadingsModel", "layDown", "(I)V"⟩, 19), (⟨"SeamReadingsModel", "takeIn", "(I)V"⟩, 19), (⟨"SeamReadingsModel", "findOf", "(I)V"⟩, 19), (⟨"SeamReadingsModel", "sameBothWays", "(I)I"⟩, 19), (⟨"SeamReadingsModel", "sameFromEnds", "()I"⟩, 19), (⟨"SeamReadingsModel", "letterOf", "(II)I"⟩, 19), (⟨"SeamReadingsModel", "needlessSeams", "(I)I"⟩, 19), (⟨"SeamReadingsModel", "keepOther", "()V"⟩, 19), (⟨"SeamReadingsModel", "meet", "()I"⟩, 19), (⟨"SeamReadingsModel", "isWord", "()Z"⟩, 19), (⟨"SeamReadingsModel", "placeIn", "(I)I"⟩, 19), (⟨"SeamReadingsModel", "sharedBy", "(II)I"⟩, 19), (⟨"SeamReadingsModel", "howTheyStand", "(II)I"⟩, 19), (⟨"SeamReadingsModel", "allPatches", "()I"⟩, 19), (⟨"SeamReadingsModel", "allLetters", "()I"⟩, 19), (⟨"SeamReadingsModel", "allReadings", "()I"⟩, 19)]
theorem lw_r3 : ∀ q ∈ lw_privs_3, lw_okq q := List.forall_mem_cons.mpr ⟨lw_p32, List.forall_mem_cons.mpr ⟨lw_p33, List.forall_mem_cons.mpr ⟨lw_p34, List.forall_mem_cons.mpr ⟨lw_p35, List.forall_mem_cons.mpr ⟨lw_p36, List.forall_mem_cons.mpr ⟨lw_p37, List.forall_mem_cons.mpr ⟨lw_p38, List.forall_mem_cons.mpr ⟨lw_p39, List.forall_mem_cons.mpr ⟨lw_p40, List.forall_mem_cons.mpr ⟨lw_p41, List.forall_mem_cons.mpr ⟨lw_p42, List.forall_mem_cons.mpr ⟨lw_p43, List.forall_mem_cons.mpr ⟨lw_p44, List.forall_mem_cons.mpr ⟨lw_p45, List.forall_mem_cons.mpr ⟨lw_p46, List.forall_mem_cons.mpr ⟨lw_p47, fun _ h => absurd h List.not_mem_nil⟩⟩⟩⟩⟩⟩⟩⟩⟩⟩⟩⟩⟩⟩⟩⟩
theorem lw_p48 : lw_okq (⟨"SeamReadingsModel", "samePairs", "()I"⟩, 19) := ⟨⟨by decide +kernel, by decide +kernel⟩, List.mem_of_getElem? (i := 544) (by decide +kernel), List.mem_of_getElem? (i := 805) (by decide +kernel), List.mem_of_getElem? (i := 806) (by decide +kernel)⟩
theorem lw_p49 : lw_okq (⟨"SeamReadingsModel", "readingsIfCut", "(III)I"⟩, 19) := ⟨⟨by decide +kernel, by decide +kernel⟩, List.mem_of_getElem? (i := 544) (by decide +kernel), List.mem_of_getElem? (i := 813) (by decide +kernel), List.mem_of_getElem? (i := 814) (by decide +kernel)⟩
def lw_privs_4 : List (MethodName × Nat) := [(⟨"SeamReadingsModel", "samePairs", "()I"⟩, 19), (⟨"SeamReadingsModel", "readingsIfCut", "(III)I"⟩, 19)]
theorem lw_r4 : ∀ q ∈ lw_privs_4, lw_okq q := List.forall_mem_cons.mpr ⟨lw_p48, List.forall_mem_cons.mpr ⟨lw_p49, fun _ h => absurd h List.not_mem_nil⟩⟩
def lw_privs : List (MethodName × Nat) := lw_privs_1 ++ (lw_privs_2 ++ (lw_privs_3 ++ (lw_privs_4)))
def lw_tbl : List Cond := k2_sels lw_privs ++ tables_1
theorem lw_privs_ok : ∀ q ∈ lw_privs, lw_okq q := by
  show ∀ q ∈ lw_privs_1 ++ (lw_privs_2 ++ (lw_privs_3 ++ (lw_privs_4))), lw_okq q
  exact List.forall_mem_append.mpr ⟨lw_r1, List.forall_mem_append.mpr ⟨lw_r2, List.forall_mem_append.mpr ⟨lw_r3, lw_r4⟩⟩⟩

def RX0 : String := "SeamReadings$End"
def TX0 : u_T := fun k => match k with
  | 0 => ("SeamReadings$End", "row", "[I", true)
  | 1 => ("SeamReadings$End", "starts", "[I", true)
  | 2 => ("SeamReadings$End", "ends", "[I", true)
  | 3 => ("SeamReadings$End", "digits", "I", false)
  | _ => ("SeamReadings$End", "number", "I", false)
def tyX0 : Nat → FieldType := fun k => match k with
  | 0 => .array .int
  | 1 => .array .int
  | 2 => .array .int
  | 3 => .int
  | _ => .int
abbrev wsX00 : List Cond := u_ws RX0 TX0 5
theorem nmX0 : ∀ a, a < 5 → ∀ b, b < 5 → a ≠ b → (TX0 a).2.1 ≠ (TX0 b).2.1 := by decide +kernel
theorem tyX0_ok : ∀ k, k < 5 → parseFieldDescriptor (TX0 k).2.2.1 = some (tyX0 k) := by decide +kernel
abbrev cX0_init : ByteArray := prog_2_method_1_code
def yX0_init : MethodName := ⟨RX0, "<init>", "()V"⟩
abbrev cX0_begin : ByteArray := prog_2_method_2_code
def yX0_begin : MethodName := ⟨RX0, "begin", "(LSeamReadings$Scroll;Z)V"⟩
abbrev cX0_addDigit : ByteArray := prog_2_method_3_code
def yX0_addDigit : MethodName := ⟨RX0, "addDigit", "(II)V"⟩
abbrev cX0_isOver : ByteArray := prog_2_method_4_code
def yX0_isOver : MethodName := ⟨RX0, "isOver", "()Z"⟩
abbrev cX0_step : ByteArray := prog_2_method_5_code
def yX0_step : MethodName := ⟨RX0, "step", "()V"⟩
def RX1 : String := "SeamReadings$History"
def TX1 : u_T := fun k => match k with
  | 0 => ("SeamReadings$History", "states", "[LSeamReadings$Shelf;", true)
  | _ => ("SeamReadings$History", "size", "I", false)
def tyX1 : Nat → FieldType := fun k => match k with
  | 0 => .array (.object "SeamReadings$Shelf")
  | _ => .int
abbrev wsX10 : List Cond := u_ws RX1 TX1 2
theorem nmX1 : ∀ a, a < 2 → ∀ b, b < 2 → a ≠ b → (TX1 a).2.1 ≠ (TX1 b).2.1 := by decide +kernel
theorem tyX1_ok : ∀ k, k < 2 → parseFieldDescriptor (TX1 k).2.2.1 = some (tyX1 k) := by decide +kernel
abbrev cX1_init : ByteArray := prog_3_method_1_code
def yX1_init : MethodName := ⟨RX1, "<init>", "()V"⟩
abbrev cX1_record : ByteArray := prog_3_method_2_code
def yX1_record : MethodName := ⟨RX1, "record", "(LSeamReadings$Shelf;)V"⟩
abbrev cX1_dropOldest : ByteArray := prog_3_method_3_code
def yX1_dropOldest : MethodName := ⟨RX1, "dropOldest", "()V"⟩
abbrev cX1_takeBack : ByteArray := prog_3_method_4_code
def yX1_takeBack : MethodName := ⟨RX1, "takeBack", "(LSeamReadings$Shelf;)Z"⟩
def RX2 : String := "SeamReadings$Pad"
def TX2 : u_T := fun k => match k with
  | 0 => ("SeamReadings$Pad", "codes", "[I", true)
  | _ => ("SeamReadings$Pad", "length", "I", false)
def tyX2 : Nat → FieldType := fun k => match k with
  | 0 => .array .int
  | _ => .int
abbrev wsX20 : List Cond := u_ws RX2 TX2 2
theorem nmX2 : ∀ a, a < 2 → ∀ b, b < 2 → a ≠ b → (TX2 a).2.1 ≠ (TX2 b).2.1 := by decide +kernel
theorem tyX2_ok : ∀ k, k < 2 → parseFieldDescriptor (TX2 k).2.2.1 = some (tyX2 k) := by decide +kernel
abbrev cX2_init : ByteArray := prog_4_method_1_code
def yX2_init : MethodName := ⟨RX2, "<init>", "()V"⟩
abbrev cX2_empty : ByteArray := prog_4_method_2_code
def yX2_empty : MethodName := ⟨RX2, "empty", "()V"⟩
abbrev cX2_append : ByteArray := prog_4_method_3_code
def yX2_append : MethodName := ⟨RX2, "append", "(I)V"⟩
abbrev cX2_codeAt : ByteArray := prog_4_method_4_code
def yX2_codeAt : MethodName := ⟨RX2, "codeAt", "(I)I"⟩
abbrev cX2_scrollsOfText : ByteArray := prog_4_method_5_code
def yX2_scrollsOfText : MethodName := ⟨RX2, "scrollsOfText", "()I"⟩
abbrev cX2_firstFault : ByteArray := prog_4_method_6_code
def yX2_firstFault : MethodName := ⟨RX2, "firstFault", "()I"⟩
abbrev cX2_isWord : ByteArray := prog_4_method_7_code
def yX2_isWord : MethodName := ⟨RX2, "isWord", "()Z"⟩
abbrev cX2_placeIn : ByteArray := prog_4_method_8_code
def yX2_placeIn : MethodName := ⟨RX2, "placeIn", "([II)I"⟩
abbrev cX2_standsAt : ByteArray := prog_4_method_9_code
def yX2_standsAt : MethodName := ⟨RX2, "standsAt", "([II)Z"⟩
def RX3 : String := "SeamReadings$Readings"
def TX3 : u_T := fun k => match k with
  | 0 => ("SeamReadings$Readings", "first", "LSeamReadings$End;", true)
  | 1 => ("SeamReadings$Readings", "last", "LSeamReadings$End;", true)
  | 2 => ("SeamReadings$Readings", "row", "[I", true)
  | _ => ("SeamReadings$Readings", "length", "I", false)
def tyX3 : Nat → FieldType := fun k => match k with
  | 0 => .object "SeamReadings$End"
  | 1 => .object "SeamReadings$End"
  | 2 => .array .int
  | _ => .int
abbrev wsX30 : List Cond := u_ws RX3 TX3 4
theorem nmX3 : ∀ a, a < 4 → ∀ b, b < 4 → a ≠ b → (TX3 a).2.1 ≠ (TX3 b).2.1 := by decide +kernel
theorem tyX3_ok : ∀ k, k < 4 → parseFieldDescriptor (TX3 k).2.2.1 = some (tyX3 k) := by decide +kernel
abbrev cX3_init : ByteArray := prog_5_method_1_code
def yX3_init : MethodName := ⟨RX3, "<init>", "()V"⟩
abbrev cX3_begin : ByteArray := prog_5_method_2_code
def yX3_begin : MethodName := ⟨RX3, "begin", "(LSeamReadings$Scroll;)V"⟩
abbrev cX3_next : ByteArray := prog_5_method_3_code
def yX3_next : MethodName := ⟨RX3, "next", "()Z"⟩
abbrev cX3_orderOfEnds : ByteArray := prog_5_method_4_code
def yX3_orderOfEnds : MethodName := ⟨RX3, "orderOfEnds", "()I"⟩
abbrev cX3_letterAt : ByteArray := prog_5_method_5_code
def yX3_letterAt : MethodName := ⟨RX3, "letterAt", "(I)I"⟩
def RX4 : String := "SeamReadings$Scroll"
def TX4 : u_T := fun k => match k with
  | 0 => ("SeamReadings$Scroll", "letters", "[I", true)
  | 1 => ("SeamReadings$Scroll", "ends", "[I", true)
  | _ => ("SeamReadings$Scroll", "patches", "I", false)
def tyX4 : Nat → FieldType := fun k => match k with
  | 0 => .array .int
  | 1 => .array .int
  | _ => .int
abbrev wsX40 : List Cond := u_ws RX4 TX4 3
theorem nmX4 : ∀ a, a < 3 → ∀ b, b < 3 → a ≠ b → (TX4 a).2.1 ≠ (TX4 b).2.1 := by decide +kernel
theorem tyX4_ok : ∀ k, k < 3 → parseFieldDescriptor (TX4 k).2.2.1 = some (tyX4 k) := by decide +kernel
abbrev cX4_init : ByteArray := prog_6_method_1_code
def yX4_init : MethodName := ⟨RX4, "<init>", "()V"⟩
abbrev cX4_startAnew : ByteArray := prog_6_method_2_code
def yX4_startAnew : MethodName := ⟨RX4, "startAnew", "()V"⟩
abbrev cX4_addPatch : ByteArray := prog_6_method_3_code
def yX4_addPatch : MethodName := ⟨RX4, "addPatch", "()V"⟩
abbrev cX4_addLetter : ByteArray := prog_6_method_4_code
def yX4_addLetter : MethodName := ⟨RX4, "addLetter", "(I)V"⟩
abbrev cX4_copyFrom : ByteArray := prog_6_method_5_code
def yX4_copyFrom : MethodName := ⟨RX4, "copyFrom", "(LSeamReadings$Scroll;)V"⟩
abbrev cX4_hasPatch : ByteArray := prog_6_method_6_code
def yX4_hasPatch : MethodName := ⟨RX4, "hasPatch", "(I)Z"⟩
abbrev cX4_hasSeam : ByteArray := prog_6_method_7_code
def yX4_hasSeam : MethodName := ⟨RX4, "hasSeam", "(I)Z"⟩
abbrev cX4_canBeCut : ByteArray := prog_6_method_8_code
def yX4_canBeCut : MethodName := ⟨RX4, "canBeCut", "(II)Z"⟩
abbrev cX4_endOf : ByteArray := prog_6_method_9_code
def yX4_endOf : MethodName := ⟨RX4, "endOf", "(I)I"⟩
abbrev cX4_startOf : ByteArray := prog_6_method_10_code
def yX4_startOf : MethodName := ⟨RX4, "startOf", "(I)I"⟩
abbrev cX4_sizeOf : ByteArray := prog_6_method_11_code
def yX4_sizeOf : MethodName := ⟨RX4, "sizeOf", "(I)I"⟩
abbrev cX4_length : ByteArray := prog_6_method_12_code
def yX4_length : MethodName := ⟨RX4, "length", "()I"⟩
abbrev cX4_letterAt : ByteArray := prog_6_method_13_code
def yX4_letterAt : MethodName := ⟨RX4, "letterAt", "(I)I"⟩
abbrev cX4_split : ByteArray := prog_6_method_14_code
def yX4_split : MethodName := ⟨RX4, "split", "(II)V"⟩
abbrev cX4_merge : ByteArray := prog_6_method_15_code
def yX4_merge : MethodName := ⟨RX4, "merge", "(I)V"⟩
abbrev cX4_unlikeTurned : ByteArray := prog_6_method_16_code
def yX4_unlikeTurned : MethodName := ⟨RX4, "unlikeTurned", "(I)I"⟩
abbrev cX4_turnRound : ByteArray := prog_6_method_17_code
def yX4_turnRound : MethodName := ⟨RX4, "turnRound", "(I)V"⟩
abbrev cX4_swapBeside : ByteArray := prog_6_method_18_code
def yX4_swapBeside : MethodName := ⟨RX4, "swapBeside", "(I)V"⟩
abbrev cX4_sewOn : ByteArray := prog_6_method_19_code
def yX4_sewOn : MethodName := ⟨RX4, "sewOn", "(LSeamReadings$Scroll;)V"⟩
abbrev cX4_isEven : ByteArray := prog_6_method_20_code
def yX4_isEven : MethodName := ⟨RX4, "isEven", "(I)Z"⟩
abbrev cX4_evenPatches : ByteArray := prog_6_method_21_code
def yX4_evenPatches : MethodName := ⟨RX4, "evenPatches", "()I"⟩
abbrev cX4_waysFromFirst : ByteArray := prog_6_method_22_code
def yX4_waysFromFirst : MethodName := ⟨RX4, "waysFromFirst", "()I"⟩
abbrev cX4_lay : ByteArray := prog_6_method_23_code
def yX4_lay : MethodName := ⟨RX4, "lay", "(IIZ[II)V"⟩
abbrev cX4_tells : ByteArray := prog_6_method_24_code
def yX4_tells : MethodName := ⟨RX4, "tells", "([II)Z"⟩
abbrev cX4_beginsWith : ByteArray := prog_6_method_25_code
def yX4_beginsWith : MethodName := ⟨RX4, "beginsWith", "([IIZ)Z"⟩
abbrev cX4_standsAt : ByteArray := prog_6_method_26_code
def yX4_standsAt : MethodName := ⟨RX4, "standsAt", "([IIIIIZ)Z"⟩
def RX5 : String := "SeamReadings$Shelf"
def TX5 : u_T := fun k => match k with
  | 0 => ("SeamReadings$Shelf", "scrolls", "[LSeamReadings$Scroll;", true)
  | _ => ("SeamReadings$Shelf", "size", "I", false)
def tyX5 : Nat → FieldType := fun k => match k with
  | 0 => .array (.object "SeamReadings$Scroll")
  | _ => .int
abbrev wsX50 : List Cond := u_ws RX5 TX5 2
theorem nmX5 : ∀ a, a < 2 → ∀ b, b < 2 → a ≠ b → (TX5 a).2.1 ≠ (TX5 b).2.1 := by decide +kernel
theorem tyX5_ok : ∀ k, k < 2 → parseFieldDescriptor (TX5 k).2.2.1 = some (tyX5 k) := by decide +kernel
abbrev cX5_init : ByteArray := prog_7_method_1_code
def yX5_init : MethodName := ⟨RX5, "<init>", "()V"⟩
abbrev cX5_at : ByteArray := prog_7_method_2_code
def yX5_at : MethodName := ⟨RX5, "at", "(I)LSeamReadings$Scroll;"⟩
abbrev cX5_addScroll : ByteArray := prog_7_method_3_code
def yX5_addScroll : MethodName := ⟨RX5, "addScroll", "()LSeamReadings$Scroll;"⟩
abbrev cX5_remove : ByteArray := prog_7_method_4_code
def yX5_remove : MethodName := ⟨RX5, "remove", "(I)V"⟩
abbrev cX5_copyFrom : ByteArray := prog_7_method_5_code
def yX5_copyFrom : MethodName := ⟨RX5, "copyFrom", "(LSeamReadings$Shelf;)V"⟩
abbrev cX5_patchesOfAll : ByteArray := prog_7_method_6_code
def yX5_patchesOfAll : MethodName := ⟨RX5, "patchesOfAll", "()I"⟩
abbrev cX5_lettersOfAll : ByteArray := prog_7_method_7_code
def yX5_lettersOfAll : MethodName := ⟨RX5, "lettersOfAll", "()I"⟩
abbrev cX5_tellsBefore : ByteArray := prog_7_method_8_code
def yX5_tellsBefore : MethodName := ⟨RX5, "tellsBefore", "(I[II)Z"⟩
def RX6 : String := "SeamReadings"
def TX6 : u_T := fun k => match k with
  | 0 => ("SeamReadings", "shelf", "LSeamReadings$Shelf;", true)
  | 1 => ("SeamReadings", "pad", "LSeamReadings$Pad;", true)
  | 2 => ("SeamReadings", "history", "LSeamReadings$History;", true)
  | 3 => ("SeamReadings", "slots", "[LSeamReadings$Shelf;", true)
  | 4 => ("SeamReadings", "saved", "[Z", true)
  | 5 => ("SeamReadings", "readings", "LSeamReadings$Readings;", true)
  | 6 => ("SeamReadings", "trial", "LSeamReadings$Scroll;", true)
  | _ => ("SeamReadings", "trialRow", "[I", true)
def tyX6 : Nat → FieldType := fun k => match k with
  | 0 => .object "SeamReadings$Shelf"
  | 1 => .object "SeamReadings$Pad"
  | 2 => .object "SeamReadings$History"
  | 3 => .array (.object "SeamReadings$Shelf")
  | 4 => .array .boolean
  | 5 => .object "SeamReadings$Readings"
  | 6 => .object "SeamReadings$Scroll"
  | _ => .array .int
abbrev wsX60 : List Cond := u_ws RX6 TX6 8
theorem nmX6 : ∀ a, a < 8 → ∀ b, b < 8 → a ≠ b → (TX6 a).2.1 ≠ (TX6 b).2.1 := by decide +kernel
theorem tyX6_ok : ∀ k, k < 8 → parseFieldDescriptor (TX6 k).2.2.1 = some (tyX6 k) := by decide +kernel
abbrev cX6_init : ByteArray := prog_1_method_1_code
def yX6_init : MethodName := ⟨RX6, "<init>", "()V"⟩
abbrev cX6_sew : ByteArray := prog_1_method_2_code
def yX6_sew : MethodName := ⟨RX6, "sew", "()I"⟩
abbrev cX6_burn : ByteArray := prog_1_method_3_code
def yX6_burn : MethodName := ⟨RX6, "burn", "(I)I"⟩
abbrev cX6_cut : ByteArray := prog_1_method_4_code
def yX6_cut : MethodName := ⟨RX6, "cut", "(III)I"⟩
abbrev cX6_undoSeam : ByteArray := prog_1_method_5_code
def yX6_undoSeam : MethodName := ⟨RX6, "undoSeam", "(II)I"⟩
abbrev cX6_turn : ByteArray := prog_1_method_6_code
def yX6_turn : MethodName := ⟨RX6, "turn", "(II)I"⟩
abbrev cX6_exchange : ByteArray := prog_1_method_7_code
def yX6_exchange : MethodName := ⟨RX6, "exchange", "(II)I"⟩
abbrev cX6_join : ByteArray := prog_1_method_8_code
def yX6_join : MethodName := ⟨RX6, "join", "(II)I"⟩
abbrev cX6_scroll : ByteArray := prog_1_method_9_code
def yX6_scroll : MethodName := ⟨RX6, "scroll", "(II)I"⟩
abbrev cX6_patch : ByteArray := prog_1_method_10_code
def yX6_patch : MethodName := ⟨RX6, "patch", "(II)I"⟩
abbrev cX6_letter : ByteArray := prog_1_method_11_code
def yX6_letter : MethodName := ⟨RX6, "letter", "(III)I"⟩
abbrev cX6_reading : ByteArray := prog_1_method_12_code
def yX6_reading : MethodName := ⟨RX6, "reading", "(III)I"⟩
abbrev cX6_find : ByteArray := prog_1_method_13_code
def yX6_find : MethodName := ⟨RX6, "find", "(II)I"⟩
abbrev cX6_shared : ByteArray := prog_1_method_14_code
def yX6_shared : MethodName := ⟨RX6, "shared", "(II)I"⟩
abbrev cX6_compare : ByteArray := prog_1_method_15_code
def yX6_compare : MethodName := ⟨RX6, "compare", "(II)I"⟩
abbrev cX6_count : ByteArray := prog_1_method_16_code
def yX6_count : MethodName := ⟨RX6, "count", "(I)I"⟩
abbrev cX6_ifCut : ByteArray := prog_1_method_17_code
def yX6_ifCut : MethodName := ⟨RX6, "ifCut", "(III)I"⟩
abbrev cX6_bestCut : ByteArray := prog_1_method_18_code
def yX6_bestCut : MethodName := ⟨RX6, "bestCut", "(II)I"⟩
abbrev cX6_put : ByteArray := prog_1_method_19_code
def yX6_put : MethodName := ⟨RX6, "put", "(J)I"⟩
abbrev cX6_wipe : ByteArray := prog_1_method_20_code
def yX6_wipe : MethodName := ⟨RX6, "wipe", "()I"⟩
abbrev cX6_fault : ByteArray := prog_1_method_21_code
def yX6_fault : MethodName := ⟨RX6, "fault", "()I"⟩
abbrev cX6_undo : ByteArray := prog_1_method_22_code
def yX6_undo : MethodName := ⟨RX6, "undo", "()I"⟩
abbrev cX6_save : ByteArray := prog_1_method_23_code
def yX6_save : MethodName := ⟨RX6, "save", "(I)I"⟩
abbrev cX6_restore : ByteArray := prog_1_method_24_code
def yX6_restore : MethodName := ⟨RX6, "restore", "(I)I"⟩
abbrev cX6_codeIn : ByteArray := prog_1_method_25_code
def yX6_codeIn : MethodName := ⟨RX6, "codeIn", "(JI)I"⟩
abbrev cX6_charactersIn : ByteArray := prog_1_method_26_code
def yX6_charactersIn : MethodName := ⟨RX6, "charactersIn", "(J)I"⟩
abbrev cX6_isLetter : ByteArray := prog_1_method_27_code
def yX6_isLetter : MethodName := ⟨RX6, "isLetter", "(I)Z"⟩
abbrev cX6_sewText : ByteArray := prog_1_method_28_code
def yX6_sewText : MethodName := ⟨RX6, "sewText", "()V"⟩
abbrev cX6_readingsOf : ByteArray := prog_1_method_29_code
def yX6_readingsOf : MethodName := ⟨RX6, "readingsOf", "(LSeamReadings$Scroll;)I"⟩
abbrev cX6_toldFromBothEnds : ByteArray := prog_1_method_30_code
def yX6_toldFromBothEnds : MethodName := ⟨RX6, "toldFromBothEnds", "(LSeamReadings$Scroll;[II)I"⟩
abbrev cX6_readingsWithCut : ByteArray := prog_1_method_31_code
def yX6_readingsWithCut : MethodName := ⟨RX6, "readingsWithCut", "(LSeamReadings$Scroll;II)I"⟩
abbrev cX6_readingsOfBoth : ByteArray := prog_1_method_32_code
def yX6_readingsOfBoth : MethodName := ⟨RX6, "readingsOfBoth", "(LSeamReadings$Scroll;LSeamReadings$Scroll;)I"⟩
abbrev cX6_tellTheSame : ByteArray := prog_1_method_33_code
def yX6_tellTheSame : MethodName := ⟨RX6, "tellTheSame", "(LSeamReadings$Scroll;LSeamReadings$Scroll;)Z"⟩
abbrev cX6_evenReadings : ByteArray := prog_1_method_34_code
def yX6_evenReadings : MethodName := ⟨RX6, "evenReadings", "(LSeamReadings$Scroll;)I"⟩
abbrev cX6_idleSeams : ByteArray := prog_1_method_35_code
def yX6_idleSeams : MethodName := ⟨RX6, "idleSeams", "(LSeamReadings$Scroll;)I"⟩
abbrev cX6_findWord : ByteArray := prog_1_method_36_code
def yX6_findWord : MethodName := ⟨RX6, "findWord", "(LSeamReadings$Scroll;I)I"⟩
abbrev cX6_readingsOfAll : ByteArray := prog_1_method_37_code
def yX6_readingsOfAll : MethodName := ⟨RX6, "readingsOfAll", "()I"⟩
abbrev cX6_readingsNotToldBefore : ByteArray := prog_1_method_38_code
def yX6_readingsNotToldBefore : MethodName := ⟨RX6, "readingsNotToldBefore", "(LSeamReadings$Scroll;I)I"⟩
abbrev cX6_pairsOfTheSame : ByteArray := prog_1_method_39_code
def yX6_pairsOfTheSame : MethodName := ⟨RX6, "pairsOfTheSame", "()I"⟩
abbrev cX6_turnPart : ByteArray := prog_1_method_40_code
def yX6_turnPart : MethodName := ⟨RX6, "turnPart", "([III)V"⟩
abbrev cX6_orderTurned : ByteArray := prog_1_method_41_code
def yX6_orderTurned : MethodName := ⟨RX6, "orderTurned", "([III)I"⟩
def RX7 : String := "SeamReadingsModel"
def TX7 : u_T := fun k => match k with
  | 0 => ("SeamReadingsModel", "state", "[I", true)
  | 1 => ("SeamReadingsModel", "history", "[I", true)
  | 2 => ("SeamReadingsModel", "recorded", "I", false)
  | 3 => ("SeamReadingsModel", "slots", "[I", true)
  | 4 => ("SeamReadingsModel", "isSaved", "[I", true)
  | 5 => ("SeamReadingsModel", "pad", "[I", true)
  | 6 => ("SeamReadingsModel", "padLength", "I", false)
  | 7 => ("SeamReadingsModel", "patches", "I", false)
  | 8 => ("SeamReadingsModel", "bounds", "[I", true)
  | 9 => ("SeamReadingsModel", "letters", "[I", true)
  | 10 => ("SeamReadingsModel", "rows", "[I", true)
  | 11 => ("SeamReadingsModel", "order", "[I", true)
  | 12 => ("SeamReadingsModel", "many", "I", false)
  | 13 => ("SeamReadingsModel", "length", "I", false)
  | 14 => ("SeamReadingsModel", "isMet", "[I", true)
  | 15 => ("SeamReadingsModel", "otherRows", "[I", true)
  | 16 => ("SeamReadingsModel", "otherOrder", "[I", true)
  | 17 => ("SeamReadingsModel", "otherMany", "I", false)
  | _ => ("SeamReadingsModel", "otherLength", "I", false)
def tyX7 : Nat → FieldType := fun k => match k with
  | 0 => .array .int
  | 1 => .array .int
  | 2 => .int
  | 3 => .array .int
  | 4 => .array .int
  | 5 => .array .int
  | 6 => .int
  | 7 => .int
  | 8 => .array .int
  | 9 => .array .int
  | 10 => .array .int
  | 11 => .array .int
  | 12 => .int
  | 13 => .int
  | 14 => .array .int
  | 15 => .array .int
  | 16 => .array .int
  | 17 => .int
  | _ => .int
abbrev wsX70 : List Cond := u_ws RX7 TX7 19
theorem nmX7 : ∀ a, a < 19 → ∀ b, b < 19 → a ≠ b → (TX7 a).2.1 ≠ (TX7 b).2.1 := by decide +kernel
theorem tyX7_ok : ∀ k, k < 19 → parseFieldDescriptor (TX7 k).2.2.1 = some (tyX7 k) := by decide +kernel
abbrev cX7_init : ByteArray := prog_9_method_1_code
def yX7_init : MethodName := ⟨RX7, "<init>", "()V"⟩
abbrev cX7_moves : ByteArray := prog_9_method_3_code
def yX7_moves : MethodName := ⟨RX7, "moves", "([II[II)V"⟩
abbrev cX7_within : ByteArray := prog_9_method_4_code
def yX7_within : MethodName := ⟨RX7, "within", "(III)Z"⟩
abbrev cX7_record : ByteArray := prog_9_method_5_code
def yX7_record : MethodName := ⟨RX7, "record", "()V"⟩
abbrev cX7_isScroll : ByteArray := prog_9_method_6_code
def yX7_isScroll : MethodName := ⟨RX7, "isScroll", "(I)Z"⟩
abbrev cX7_part : ByteArray := prog_9_method_7_code
def yX7_part : MethodName := ⟨RX7, "part", "(II)I"⟩
abbrev cX7_isPatch : ByteArray := prog_9_method_8_code
def yX7_isPatch : MethodName := ⟨RX7, "isPatch", "(II)Z"⟩
abbrev cX7_isSeam : ByteArray := prog_9_method_9_code
def yX7_isSeam : MethodName := ⟨RX7, "isSeam", "(II)Z"⟩
abbrev cX7_sizeOf : ByteArray := prog_9_method_10_code
def yX7_sizeOf : MethodName := ⟨RX7, "sizeOf", "(II)I"⟩
abbrev cX7_lettersOf : ByteArray := prog_9_method_11_code
def yX7_lettersOf : MethodName := ⟨RX7, "lettersOf", "(I)I"⟩
abbrev cX7_take : ByteArray := prog_9_method_12_code
def yX7_take : MethodName := ⟨RX7, "take", "(I)V"⟩
abbrev cX7_give : ByteArray := prog_9_method_13_code
def yX7_give : MethodName := ⟨RX7, "give", "(I)V"⟩
abbrev cX7_goes : ByteArray := prog_9_method_14_code
def yX7_goes : MethodName := ⟨RX7, "goes", "(I)V"⟩
abbrev cX7_cutNow : ByteArray := prog_9_method_15_code
def yX7_cutNow : MethodName := ⟨RX7, "cutNow", "(II)V"⟩
abbrev cX7_undoNow : ByteArray := prog_9_method_16_code
def yX7_undoNow : MethodName := ⟨RX7, "undoNow", "(I)V"⟩
abbrev cX7_layDown : ByteArray := prog_9_method_17_code
def yX7_layDown : MethodName := ⟨RX7, "layDown", "(I)V"⟩
abbrev cX7_compared : ByteArray := prog_9_method_18_code
def yX7_compared : MethodName := ⟨RX7, "compared", "([II[III)I"⟩
abbrev cX7_takeIn : ByteArray := prog_9_method_19_code
def yX7_takeIn : MethodName := ⟨RX7, "takeIn", "(I)V"⟩
abbrev cX7_search : ByteArray := prog_9_method_20_code
def yX7_search : MethodName := ⟨RX7, "search", "(Z)V"⟩
abbrev cX7_findOf : ByteArray := prog_9_method_21_code
def yX7_findOf : MethodName := ⟨RX7, "findOf", "(I)V"⟩
abbrev cX7_keepOther : ByteArray := prog_9_method_22_code
def yX7_keepOther : MethodName := ⟨RX7, "keepOther", "()V"⟩
abbrev cX7_meet : ByteArray := prog_9_method_23_code
def yX7_meet : MethodName := ⟨RX7, "meet", "()I"⟩
abbrev cX7_sharedBy : ByteArray := prog_9_method_24_code
def yX7_sharedBy : MethodName := ⟨RX7, "sharedBy", "(II)I"⟩
abbrev cX7_letterOf : ByteArray := prog_9_method_25_code
def yX7_letterOf : MethodName := ⟨RX7, "letterOf", "(II)I"⟩
abbrev cX7_toldMany : ByteArray := prog_9_method_26_code
def yX7_toldMany : MethodName := ⟨RX7, "toldMany", "()I"⟩
abbrev cX7_readScroll : ByteArray := prog_9_method_27_code
def yX7_readScroll : MethodName := ⟨RX7, "readScroll", "(I)I"⟩
abbrev cX7_sew : ByteArray := prog_9_method_28_code
def yX7_sew : MethodName := ⟨RX7, "sew", "()I"⟩
abbrev cX7_burn : ByteArray := prog_9_method_29_code
def yX7_burn : MethodName := ⟨RX7, "burn", "(I)I"⟩
abbrev cX7_cut : ByteArray := prog_9_method_30_code
def yX7_cut : MethodName := ⟨RX7, "cut", "(III)I"⟩
abbrev cX7_undoSeam : ByteArray := prog_9_method_31_code
def yX7_undoSeam : MethodName := ⟨RX7, "undoSeam", "(II)I"⟩
abbrev cX7_turn : ByteArray := prog_9_method_32_code
def yX7_turn : MethodName := ⟨RX7, "turn", "(II)I"⟩
abbrev cX7_exchange : ByteArray := prog_9_method_33_code
def yX7_exchange : MethodName := ⟨RX7, "exchange", "(II)I"⟩
abbrev cX7_join : ByteArray := prog_9_method_34_code
def yX7_join : MethodName := ⟨RX7, "join", "(II)I"⟩
abbrev cX7_sameBothWays : ByteArray := prog_9_method_35_code
def yX7_sameBothWays : MethodName := ⟨RX7, "sameBothWays", "(I)I"⟩
abbrev cX7_sameFromEnds : ByteArray := prog_9_method_36_code
def yX7_sameFromEnds : MethodName := ⟨RX7, "sameFromEnds", "()I"⟩
abbrev cX7_needlessSeams : ByteArray := prog_9_method_37_code
def yX7_needlessSeams : MethodName := ⟨RX7, "needlessSeams", "(I)I"⟩
abbrev cX7_scroll : ByteArray := prog_9_method_38_code
def yX7_scroll : MethodName := ⟨RX7, "scroll", "(II)I"⟩
abbrev cX7_patch : ByteArray := prog_9_method_39_code
def yX7_patch : MethodName := ⟨RX7, "patch", "(II)I"⟩
abbrev cX7_letter : ByteArray := prog_9_method_40_code
def yX7_letter : MethodName := ⟨RX7, "letter", "(III)I"⟩
abbrev cX7_reading : ByteArray := prog_9_method_41_code
def yX7_reading : MethodName := ⟨RX7, "reading", "(III)I"⟩
abbrev cX7_isWord : ByteArray := prog_9_method_42_code
def yX7_isWord : MethodName := ⟨RX7, "isWord", "()Z"⟩
abbrev cX7_placeIn : ByteArray := prog_9_method_43_code
def yX7_placeIn : MethodName := ⟨RX7, "placeIn", "(I)I"⟩
abbrev cX7_find : ByteArray := prog_9_method_44_code
def yX7_find : MethodName := ⟨RX7, "find", "(II)I"⟩
abbrev cX7_shared : ByteArray := prog_9_method_45_code
def yX7_shared : MethodName := ⟨RX7, "shared", "(II)I"⟩
abbrev cX7_howTheyStand : ByteArray := prog_9_method_46_code
def yX7_howTheyStand : MethodName := ⟨RX7, "howTheyStand", "(II)I"⟩
abbrev cX7_compare : ByteArray := prog_9_method_47_code
def yX7_compare : MethodName := ⟨RX7, "compare", "(II)I"⟩
abbrev cX7_allPatches : ByteArray := prog_9_method_48_code
def yX7_allPatches : MethodName := ⟨RX7, "allPatches", "()I"⟩
abbrev cX7_allLetters : ByteArray := prog_9_method_49_code
def yX7_allLetters : MethodName := ⟨RX7, "allLetters", "()I"⟩
abbrev cX7_allReadings : ByteArray := prog_9_method_50_code
def yX7_allReadings : MethodName := ⟨RX7, "allReadings", "()I"⟩
abbrev cX7_samePairs : ByteArray := prog_9_method_51_code
def yX7_samePairs : MethodName := ⟨RX7, "samePairs", "()I"⟩
abbrev cX7_count : ByteArray := prog_9_method_52_code
def yX7_count : MethodName := ⟨RX7, "count", "(I)I"⟩
abbrev cX7_readingsIfCut : ByteArray := prog_9_method_53_code
def yX7_readingsIfCut : MethodName := ⟨RX7, "readingsIfCut", "(III)I"⟩
abbrev cX7_ifCut : ByteArray := prog_9_method_54_code
def yX7_ifCut : MethodName := ⟨RX7, "ifCut", "(III)I"⟩
abbrev cX7_bestCut : ByteArray := prog_9_method_55_code
def yX7_bestCut : MethodName := ⟨RX7, "bestCut", "(II)I"⟩
abbrev cX7_put : ByteArray := prog_9_method_56_code
def yX7_put : MethodName := ⟨RX7, "put", "(J)I"⟩
abbrev cX7_wipe : ByteArray := prog_9_method_57_code
def yX7_wipe : MethodName := ⟨RX7, "wipe", "()I"⟩
abbrev cX7_findFault : ByteArray := prog_9_method_58_code
def yX7_findFault : MethodName := ⟨RX7, "findFault", "()I"⟩
abbrev cX7_fault : ByteArray := prog_9_method_59_code
def yX7_fault : MethodName := ⟨RX7, "fault", "()I"⟩
abbrev cX7_undo : ByteArray := prog_9_method_60_code
def yX7_undo : MethodName := ⟨RX7, "undo", "()I"⟩
abbrev cX7_save : ByteArray := prog_9_method_61_code
def yX7_save : MethodName := ⟨RX7, "save", "(I)I"⟩
abbrev cX7_restore : ByteArray := prog_9_method_62_code
def yX7_restore : MethodName := ⟨RX7, "restore", "(I)I"⟩
def RL : String := "SeamReadingsLaw"
abbrev cL_law : ByteArray := code
def yL_law : MethodName := ⟨RL, "law", "([I)Z"⟩
/-- the classes of the worlds -/
abbrev vwCl : List vw_C := [(RX0, TX0, 5), (RX1, TX1, 2), (RX2, TX2, 2), (RX3, TX3, 4), (RX4, TX4, 3), (RX5, TX5, 2), (RX6, TX6, 8), (RX7, TX7, 19)]
def zCn (o : Nat) : String := match o with
  | 0 => RX0
  | 1 => RX1
  | 2 => RX2
  | 3 => RX3
  | 4 => RX4
  | 5 => RX5
  | 6 => RX6
  | 7 => RX7
  | _ => RL
/-- a method: its class, its name, its bytes, its locals, its answer -/
abbrev zY : Type := Nat × MethodName × ByteArray × Nat × Option FieldType
def zYo (k : zY) : Nat := k.1
def zYn (k : zY) : MethodName := k.2.1
def zYb (k : zY) : ByteArray := k.2.2.1
def zYl (k : zY) : Nat := k.2.2.2.1
def zYr (k : zY) : Option FieldType := k.2.2.2.2
def zYi (k : zY) : Bool := (zYn k).name == "<init>"
def kX6_init : zY := (6, yX6_init, cX6_init, 2, none)
theorem o_X6_init : zYo kX6_init = 6 := rfl
theorem r_X6_init : zYr kX6_init = none := rfl
theorem i_X6_init : zYi kX6_init = true := rfl
def kX5_init : zY := (5, yX5_init, cX5_init, 2, none)
theorem o_X5_init : zYo kX5_init = 5 := rfl
theorem r_X5_init : zYr kX5_init = none := rfl
theorem i_X5_init : zYi kX5_init = true := rfl
def kX4_init : zY := (4, yX4_init, cX4_init, 1, none)
theorem o_X4_init : zYo kX4_init = 4 := rfl
theorem r_X4_init : zYr kX4_init = none := rfl
theorem i_X4_init : zYi kX4_init = true := rfl
def kX2_init : zY := (2, yX2_init, cX2_init, 1, none)
theorem o_X2_init : zYo kX2_init = 2 := rfl
theorem r_X2_init : zYr kX2_init = none := rfl
theorem i_X2_init : zYi kX2_init = true := rfl
def kX1_init : zY := (1, yX1_init, cX1_init, 2, none)
theorem o_X1_init : zYo kX1_init = 1 := rfl
theorem r_X1_init : zYr kX1_init = none := rfl
theorem i_X1_init : zYi kX1_init = true := rfl
def kX3_init : zY := (3, yX3_init, cX3_init, 1, none)
theorem o_X3_init : zYo kX3_init = 3 := rfl
theorem r_X3_init : zYr kX3_init = none := rfl
theorem i_X3_init : zYi kX3_init = true := rfl
def kX0_init : zY := (0, yX0_init, cX0_init, 1, none)
theorem o_X0_init : zYo kX0_init = 0 := rfl
theorem r_X0_init : zYr kX0_init = none := rfl
theorem i_X0_init : zYi kX0_init = true := rfl
def kX6_sew : zY := (6, yX6_sew, cX6_sew, 1, some (FieldType.int))
theorem o_X6_sew : zYo kX6_sew = 6 := rfl
theorem r_X6_sew : zYr kX6_sew = some (FieldType.int) := rfl
def kX2_firstFault : zY := (2, yX2_firstFault, cX2_firstFault, 6, some (FieldType.int))
theorem o_X2_firstFault : zYo kX2_firstFault = 2 := rfl
theorem r_X2_firstFault : zYr kX2_firstFault = some (FieldType.int) := rfl
def kX2_codeAt : zY := (2, yX2_codeAt, cX2_codeAt, 2, some (FieldType.int))
theorem o_X2_codeAt : zYo kX2_codeAt = 2 := rfl
theorem r_X2_codeAt : zYr kX2_codeAt = some (FieldType.int) := rfl
def kX6_isLetter : zY := (6, yX6_isLetter, cX6_isLetter, 1, some (FieldType.boolean))
theorem o_X6_isLetter : zYo kX6_isLetter = 6 := rfl
theorem r_X6_isLetter : zYr kX6_isLetter = some (FieldType.boolean) := rfl
def kX2_scrollsOfText : zY := (2, yX2_scrollsOfText, cX2_scrollsOfText, 3, some (FieldType.int))
theorem o_X2_scrollsOfText : zYo kX2_scrollsOfText = 2 := rfl
theorem r_X2_scrollsOfText : zYr kX2_scrollsOfText = some (FieldType.int) := rfl
def kX1_record : zY := (1, yX1_record, cX1_record, 3, none)
theorem o_X1_record : zYo kX1_record = 1 := rfl
theorem r_X1_record : zYr kX1_record = none := rfl
def kX1_dropOldest : zY := (1, yX1_dropOldest, cX1_dropOldest, 3, none)
theorem o_X1_dropOldest : zYo kX1_dropOldest = 1 := rfl
theorem r_X1_dropOldest : zYr kX1_dropOldest = none := rfl
def kX5_copyFrom : zY := (5, yX5_copyFrom, cX5_copyFrom, 5, none)
theorem o_X5_copyFrom : zYo kX5_copyFrom = 5 := rfl
theorem r_X5_copyFrom : zYr kX5_copyFrom = none := rfl
def kX5_at : zY := (5, yX5_at, cX5_at, 2, some (FieldType.object "SeamReadings$Scroll"))
theorem o_X5_at : zYo kX5_at = 5 := rfl
theorem r_X5_at : zYr kX5_at = some (FieldType.object "SeamReadings$Scroll") := rfl
def kX4_copyFrom : zY := (4, yX4_copyFrom, cX4_copyFrom, 2, none)
theorem o_X4_copyFrom : zYo kX4_copyFrom = 4 := rfl
theorem r_X4_copyFrom : zYr kX4_copyFrom = none := rfl
def kX6_sewText : zY := (6, yX6_sewText, cX6_sewText, 4, none)
theorem o_X6_sewText : zYo kX6_sewText = 6 := rfl
theorem r_X6_sewText : zYr kX6_sewText = none := rfl
def kX5_addScroll : zY := (5, yX5_addScroll, cX5_addScroll, 2, some (FieldType.object "SeamReadings$Scroll"))
theorem o_X5_addScroll : zYo kX5_addScroll = 5 := rfl
theorem r_X5_addScroll : zYr kX5_addScroll = some (FieldType.object "SeamReadings$Scroll") := rfl
def kX4_startAnew : zY := (4, yX4_startAnew, cX4_startAnew, 1, none)
theorem o_X4_startAnew : zYo kX4_startAnew = 4 := rfl
theorem r_X4_startAnew : zYr kX4_startAnew = none := rfl
def kX4_addPatch : zY := (4, yX4_addPatch, cX4_addPatch, 1, none)
theorem o_X4_addPatch : zYo kX4_addPatch = 4 := rfl
theorem r_X4_addPatch : zYr kX4_addPatch = none := rfl
def kX4_length : zY := (4, yX4_length, cX4_length, 1, some (FieldType.int))
theorem o_X4_length : zYo kX4_length = 4 := rfl
theorem r_X4_length : zYr kX4_length = some (FieldType.int) := rfl
def kX4_startOf : zY := (4, yX4_startOf, cX4_startOf, 2, some (FieldType.int))
theorem o_X4_startOf : zYo kX4_startOf = 4 := rfl
theorem r_X4_startOf : zYr kX4_startOf = some (FieldType.int) := rfl
def kX4_addLetter : zY := (4, yX4_addLetter, cX4_addLetter, 4, none)
theorem o_X4_addLetter : zYo kX4_addLetter = 4 := rfl
theorem r_X4_addLetter : zYr kX4_addLetter = none := rfl
def kX2_empty : zY := (2, yX2_empty, cX2_empty, 1, none)
theorem o_X2_empty : zYo kX2_empty = 2 := rfl
theorem r_X2_empty : zYr kX2_empty = none := rfl
def kX6_burn : zY := (6, yX6_burn, cX6_burn, 4, some (FieldType.int))
theorem o_X6_burn : zYo kX6_burn = 6 := rfl
theorem r_X6_burn : zYr kX6_burn = some (FieldType.int) := rfl
def kX5_remove : zY := (5, yX5_remove, cX5_remove, 4, none)
theorem o_X5_remove : zYo kX5_remove = 5 := rfl
theorem r_X5_remove : zYr kX5_remove = none := rfl
def kX6_cut : zY := (6, yX6_cut, cX6_cut, 5, some (FieldType.int))
theorem o_X6_cut : zYo kX6_cut = 6 := rfl
theorem r_X6_cut : zYr kX6_cut = some (FieldType.int) := rfl
def kX4_hasPatch : zY := (4, yX4_hasPatch, cX4_hasPatch, 2, some (FieldType.boolean))
theorem o_X4_hasPatch : zYo kX4_hasPatch = 4 := rfl
theorem r_X4_hasPatch : zYr kX4_hasPatch = some (FieldType.boolean) := rfl
def kX4_canBeCut : zY := (4, yX4_canBeCut, cX4_canBeCut, 3, some (FieldType.boolean))
theorem o_X4_canBeCut : zYo kX4_canBeCut = 4 := rfl
theorem r_X4_canBeCut : zYr kX4_canBeCut = some (FieldType.boolean) := rfl
def kX4_sizeOf : zY := (4, yX4_sizeOf, cX4_sizeOf, 2, some (FieldType.int))
theorem o_X4_sizeOf : zYo kX4_sizeOf = 4 := rfl
theorem r_X4_sizeOf : zYr kX4_sizeOf = some (FieldType.int) := rfl
def kX4_endOf : zY := (4, yX4_endOf, cX4_endOf, 2, some (FieldType.int))
theorem o_X4_endOf : zYo kX4_endOf = 4 := rfl
theorem r_X4_endOf : zYr kX4_endOf = some (FieldType.int) := rfl
def kX4_split : zY := (4, yX4_split, cX4_split, 5, none)
theorem o_X4_split : zYo kX4_split = 4 := rfl
theorem r_X4_split : zYr kX4_split = none := rfl
def kX6_undoSeam : zY := (6, yX6_undoSeam, cX6_undoSeam, 4, some (FieldType.int))
theorem o_X6_undoSeam : zYo kX6_undoSeam = 6 := rfl
theorem r_X6_undoSeam : zYr kX6_undoSeam = some (FieldType.int) := rfl
def kX4_hasSeam : zY := (4, yX4_hasSeam, cX4_hasSeam, 2, some (FieldType.boolean))
theorem o_X4_hasSeam : zYo kX4_hasSeam = 4 := rfl
theorem r_X4_hasSeam : zYr kX4_hasSeam = some (FieldType.boolean) := rfl
def kX4_merge : zY := (4, yX4_merge, cX4_merge, 3, none)
theorem o_X4_merge : zYo kX4_merge = 4 := rfl
theorem r_X4_merge : zYr kX4_merge = none := rfl
def kX6_turn : zY := (6, yX6_turn, cX6_turn, 5, some (FieldType.int))
theorem o_X6_turn : zYo kX6_turn = 6 := rfl
theorem r_X6_turn : zYr kX6_turn = some (FieldType.int) := rfl
def kX4_unlikeTurned : zY := (4, yX4_unlikeTurned, cX4_unlikeTurned, 6, some (FieldType.int))
theorem o_X4_unlikeTurned : zYo kX4_unlikeTurned = 4 := rfl
theorem r_X4_unlikeTurned : zYr kX4_unlikeTurned = some (FieldType.int) := rfl
def kX4_letterAt : zY := (4, yX4_letterAt, cX4_letterAt, 2, some (FieldType.int))
theorem o_X4_letterAt : zYo kX4_letterAt = 4 := rfl
theorem r_X4_letterAt : zYr kX4_letterAt = some (FieldType.int) := rfl
def kX4_turnRound : zY := (4, yX4_turnRound, cX4_turnRound, 2, none)
theorem o_X4_turnRound : zYo kX4_turnRound = 4 := rfl
theorem r_X4_turnRound : zYr kX4_turnRound = none := rfl
def kX6_turnPart : zY := (6, yX6_turnPart, cX6_turnPart, 6, none)
theorem o_X6_turnPart : zYo kX6_turnPart = 6 := rfl
theorem r_X6_turnPart : zYr kX6_turnPart = none := rfl
def kX6_exchange : zY := (6, yX6_exchange, cX6_exchange, 4, some (FieldType.int))
theorem o_X6_exchange : zYo kX6_exchange = 6 := rfl
theorem r_X6_exchange : zYr kX6_exchange = some (FieldType.int) := rfl
def kX4_swapBeside : zY := (4, yX4_swapBeside, cX4_swapBeside, 5, none)
theorem o_X4_swapBeside : zYo kX4_swapBeside = 4 := rfl
theorem r_X4_swapBeside : zYr kX4_swapBeside = none := rfl
def kX6_readingsOf : zY := (6, yX6_readingsOf, cX6_readingsOf, 2, some (FieldType.int))
theorem o_X6_readingsOf : zYo kX6_readingsOf = 6 := rfl
theorem r_X6_readingsOf : zYr kX6_readingsOf = some (FieldType.int) := rfl
def kX4_waysFromFirst : zY := (4, yX4_waysFromFirst, cX4_waysFromFirst, 3, some (FieldType.int))
theorem o_X4_waysFromFirst : zYo kX4_waysFromFirst = 4 := rfl
theorem r_X4_waysFromFirst : zYr kX4_waysFromFirst = some (FieldType.int) := rfl
def kX4_isEven : zY := (4, yX4_isEven, cX4_isEven, 2, some (FieldType.boolean))
theorem o_X4_isEven : zYo kX4_isEven = 4 := rfl
theorem r_X4_isEven : zYr kX4_isEven = some (FieldType.boolean) := rfl
def kX6_orderTurned : zY := (6, yX6_orderTurned, cX6_orderTurned, 5, some (FieldType.int))
theorem o_X6_orderTurned : zYo kX6_orderTurned = 6 := rfl
theorem r_X6_orderTurned : zYr kX6_orderTurned = some (FieldType.int) := rfl
def kX6_toldFromBothEnds : zY := (6, yX6_toldFromBothEnds, cX6_toldFromBothEnds, 8, some (FieldType.int))
theorem o_X6_toldFromBothEnds : zYo kX6_toldFromBothEnds = 6 := rfl
theorem r_X6_toldFromBothEnds : zYr kX6_toldFromBothEnds = some (FieldType.int) := rfl
def kX4_lay : zY := (4, yX4_lay, cX4_lay, 7, none)
theorem o_X4_lay : zYo kX4_lay = 4 := rfl
theorem r_X4_lay : zYr kX4_lay = none := rfl
def kX4_beginsWith : zY := (4, yX4_beginsWith, cX4_beginsWith, 9, some (FieldType.boolean))
theorem o_X4_beginsWith : zYo kX4_beginsWith = 4 := rfl
theorem r_X4_beginsWith : zYr kX4_beginsWith = some (FieldType.boolean) := rfl
def kX4_standsAt : zY := (4, yX4_standsAt, cX4_standsAt, 8, some (FieldType.boolean))
theorem o_X4_standsAt : zYo kX4_standsAt = 4 := rfl
theorem r_X4_standsAt : zYr kX4_standsAt = some (FieldType.boolean) := rfl
def kX6_join : zY := (6, yX6_join, cX6_join, 5, some (FieldType.int))
theorem o_X6_join : zYo kX6_join = 6 := rfl
theorem r_X6_join : zYr kX6_join = some (FieldType.int) := rfl
def kX4_sewOn : zY := (4, yX4_sewOn, cX4_sewOn, 4, none)
theorem o_X4_sewOn : zYo kX4_sewOn = 4 := rfl
theorem r_X4_sewOn : zYr kX4_sewOn = none := rfl
def kX6_scroll : zY := (6, yX6_scroll, cX6_scroll, 4, some (FieldType.int))
theorem o_X6_scroll : zYo kX6_scroll = 6 := rfl
theorem r_X6_scroll : zYr kX6_scroll = some (FieldType.int) := rfl
def kX4_evenPatches : zY := (4, yX4_evenPatches, cX4_evenPatches, 3, some (FieldType.int))
theorem o_X4_evenPatches : zYo kX4_evenPatches = 4 := rfl
theorem r_X4_evenPatches : zYr kX4_evenPatches = some (FieldType.int) := rfl
def kX6_evenReadings : zY := (6, yX6_evenReadings, cX6_evenReadings, 4, some (FieldType.int))
theorem o_X6_evenReadings : zYo kX6_evenReadings = 6 := rfl
theorem r_X6_evenReadings : zYr kX6_evenReadings = some (FieldType.int) := rfl
def kX3_begin : zY := (3, yX3_begin, cX3_begin, 2, none)
theorem o_X3_begin : zYo kX3_begin = 3 := rfl
theorem r_X3_begin : zYr kX3_begin = none := rfl
def kX0_begin : zY := (0, yX0_begin, cX0_begin, 10, none)
theorem o_X0_begin : zYo kX0_begin = 0 := rfl
theorem r_X0_begin : zYr kX0_begin = none := rfl
def kX0_addDigit : zY := (0, yX0_addDigit, cX0_addDigit, 3, none)
theorem o_X0_addDigit : zYo kX0_addDigit = 0 := rfl
theorem r_X0_addDigit : zYr kX0_addDigit = none := rfl
def kX3_next : zY := (3, yX3_next, cX3_next, 3, some (FieldType.boolean))
theorem o_X3_next : zYo kX3_next = 3 := rfl
theorem r_X3_next : zYr kX3_next = some (FieldType.boolean) := rfl
def kX0_isOver : zY := (0, yX0_isOver, cX0_isOver, 1, some (FieldType.boolean))
theorem o_X0_isOver : zYo kX0_isOver = 0 := rfl
theorem r_X0_isOver : zYr kX0_isOver = some (FieldType.boolean) := rfl
def kX3_orderOfEnds : zY := (3, yX3_orderOfEnds, cX3_orderOfEnds, 2, some (FieldType.int))
theorem o_X3_orderOfEnds : zYo kX3_orderOfEnds = 3 := rfl
theorem r_X3_orderOfEnds : zYr kX3_orderOfEnds = some (FieldType.int) := rfl
def kX0_step : zY := (0, yX0_step, cX0_step, 3, none)
theorem o_X0_step : zYo kX0_step = 0 := rfl
theorem r_X0_step : zYr kX0_step = none := rfl
def kX6_idleSeams : zY := (6, yX6_idleSeams, cX6_idleSeams, 4, some (FieldType.int))
theorem o_X6_idleSeams : zYo kX6_idleSeams = 6 := rfl
theorem r_X6_idleSeams : zYr kX6_idleSeams = some (FieldType.int) := rfl
def kX6_tellTheSame : zY := (6, yX6_tellTheSame, cX6_tellTheSame, 4, some (FieldType.boolean))
theorem o_X6_tellTheSame : zYo kX6_tellTheSame = 6 := rfl
theorem r_X6_tellTheSame : zYr kX6_tellTheSame = some (FieldType.boolean) := rfl
def kX6_readingsOfBoth : zY := (6, yX6_readingsOfBoth, cX6_readingsOfBoth, 5, some (FieldType.int))
theorem o_X6_readingsOfBoth : zYo kX6_readingsOfBoth = 6 := rfl
theorem r_X6_readingsOfBoth : zYr kX6_readingsOfBoth = some (FieldType.int) := rfl
def kX4_tells : zY := (4, yX4_tells, cX4_tells, 3, some (FieldType.boolean))
theorem o_X4_tells : zYo kX4_tells = 4 := rfl
theorem r_X4_tells : zYr kX4_tells = some (FieldType.boolean) := rfl
def kX6_patch : zY := (6, yX6_patch, cX6_patch, 4, some (FieldType.int))
theorem o_X6_patch : zYo kX6_patch = 6 := rfl
theorem r_X6_patch : zYr kX6_patch = some (FieldType.int) := rfl
def kX6_letter : zY := (6, yX6_letter, cX6_letter, 5, some (FieldType.int))
theorem o_X6_letter : zYo kX6_letter = 6 := rfl
theorem r_X6_letter : zYr kX6_letter = some (FieldType.int) := rfl
def kX6_reading : zY := (6, yX6_reading, cX6_reading, 6, some (FieldType.int))
theorem o_X6_reading : zYo kX6_reading = 6 := rfl
theorem r_X6_reading : zYr kX6_reading = some (FieldType.int) := rfl
def kX3_letterAt : zY := (3, yX3_letterAt, cX3_letterAt, 2, some (FieldType.int))
theorem o_X3_letterAt : zYo kX3_letterAt = 3 := rfl
theorem r_X3_letterAt : zYr kX3_letterAt = some (FieldType.int) := rfl
def kX6_find : zY := (6, yX6_find, cX6_find, 4, some (FieldType.int))
theorem o_X6_find : zYo kX6_find = 6 := rfl
theorem r_X6_find : zYr kX6_find = some (FieldType.int) := rfl
def kX2_isWord : zY := (2, yX2_isWord, cX2_isWord, 2, some (FieldType.boolean))
theorem o_X2_isWord : zYo kX2_isWord = 2 := rfl
theorem r_X2_isWord : zYr kX2_isWord = some (FieldType.boolean) := rfl
def kX6_findWord : zY := (6, yX6_findWord, cX6_findWord, 9, some (FieldType.int))
theorem o_X6_findWord : zYo kX6_findWord = 6 := rfl
theorem r_X6_findWord : zYr kX6_findWord = some (FieldType.int) := rfl
def kX2_placeIn : zY := (2, yX2_placeIn, cX2_placeIn, 4, some (FieldType.int))
theorem o_X2_placeIn : zYo kX2_placeIn = 2 := rfl
theorem r_X2_placeIn : zYr kX2_placeIn = some (FieldType.int) := rfl
def kX2_standsAt : zY := (2, yX2_standsAt, cX2_standsAt, 4, some (FieldType.boolean))
theorem o_X2_standsAt : zYo kX2_standsAt = 2 := rfl
theorem r_X2_standsAt : zYr kX2_standsAt = some (FieldType.boolean) := rfl
def kX6_shared : zY := (6, yX6_shared, cX6_shared, 5, some (FieldType.int))
theorem o_X6_shared : zYo kX6_shared = 6 := rfl
theorem r_X6_shared : zYr kX6_shared = some (FieldType.int) := rfl
def kX6_compare : zY := (6, yX6_compare, cX6_compare, 8, some (FieldType.int))
theorem o_X6_compare : zYo kX6_compare = 6 := rfl
theorem r_X6_compare : zYr kX6_compare = some (FieldType.int) := rfl
def kX6_count : zY := (6, yX6_count, cX6_count, 2, some (FieldType.int))
theorem o_X6_count : zYo kX6_count = 6 := rfl
theorem r_X6_count : zYr kX6_count = some (FieldType.int) := rfl
def kX5_patchesOfAll : zY := (5, yX5_patchesOfAll, cX5_patchesOfAll, 4, some (FieldType.int))
theorem o_X5_patchesOfAll : zYo kX5_patchesOfAll = 5 := rfl
theorem r_X5_patchesOfAll : zYr kX5_patchesOfAll = some (FieldType.int) := rfl
def kX5_lettersOfAll : zY := (5, yX5_lettersOfAll, cX5_lettersOfAll, 4, some (FieldType.int))
theorem o_X5_lettersOfAll : zYo kX5_lettersOfAll = 5 := rfl
theorem r_X5_lettersOfAll : zYr kX5_lettersOfAll = some (FieldType.int) := rfl
def kX6_readingsOfAll : zY := (6, yX6_readingsOfAll, cX6_readingsOfAll, 4, some (FieldType.int))
theorem o_X6_readingsOfAll : zYo kX6_readingsOfAll = 6 := rfl
theorem r_X6_readingsOfAll : zYr kX6_readingsOfAll = some (FieldType.int) := rfl
def kX6_readingsNotToldBefore : zY := (6, yX6_readingsNotToldBefore, cX6_readingsNotToldBefore, 5, some (FieldType.int))
theorem o_X6_readingsNotToldBefore : zYo kX6_readingsNotToldBefore = 6 := rfl
theorem r_X6_readingsNotToldBefore : zYr kX6_readingsNotToldBefore = some (FieldType.int) := rfl
def kX5_tellsBefore : zY := (5, yX5_tellsBefore, cX5_tellsBefore, 6, some (FieldType.boolean))
theorem o_X5_tellsBefore : zYo kX5_tellsBefore = 5 := rfl
theorem r_X5_tellsBefore : zYr kX5_tellsBefore = some (FieldType.boolean) := rfl
def kX6_pairsOfTheSame : zY := (6, yX6_pairsOfTheSame, cX6_pairsOfTheSame, 6, some (FieldType.int))
theorem o_X6_pairsOfTheSame : zYo kX6_pairsOfTheSame = 6 := rfl
theorem r_X6_pairsOfTheSame : zYr kX6_pairsOfTheSame = some (FieldType.int) := rfl
def kX6_ifCut : zY := (6, yX6_ifCut, cX6_ifCut, 5, some (FieldType.int))
theorem o_X6_ifCut : zYo kX6_ifCut = 6 := rfl
theorem r_X6_ifCut : zYr kX6_ifCut = some (FieldType.int) := rfl
def kX6_readingsWithCut : zY := (6, yX6_readingsWithCut, cX6_readingsWithCut, 4, some (FieldType.int))
theorem o_X6_readingsWithCut : zYo kX6_readingsWithCut = 6 := rfl
theorem r_X6_readingsWithCut : zYr kX6_readingsWithCut = some (FieldType.int) := rfl
def kX6_bestCut : zY := (6, yX6_bestCut, cX6_bestCut, 10, some (FieldType.int))
theorem o_X6_bestCut : zYo kX6_bestCut = 6 := rfl
theorem r_X6_bestCut : zYr kX6_bestCut = some (FieldType.int) := rfl
def kX6_put : zY := (6, yX6_put, cX6_put, 5, some (FieldType.int))
theorem o_X6_put : zYo kX6_put = 6 := rfl
theorem r_X6_put : zYr kX6_put = some (FieldType.int) := rfl
def kX6_charactersIn : zY := (6, yX6_charactersIn, cX6_charactersIn, 5, some (FieldType.int))
theorem o_X6_charactersIn : zYo kX6_charactersIn = 6 := rfl
theorem r_X6_charactersIn : zYr kX6_charactersIn = some (FieldType.int) := rfl
def kX6_codeIn : zY := (6, yX6_codeIn, cX6_codeIn, 3, some (FieldType.int))
theorem o_X6_codeIn : zYo kX6_codeIn = 6 := rfl
theorem r_X6_codeIn : zYr kX6_codeIn = some (FieldType.int) := rfl
def kX2_append : zY := (2, yX2_append, cX2_append, 2, none)
theorem o_X2_append : zYo kX2_append = 2 := rfl
theorem r_X2_append : zYr kX2_append = none := rfl
def kX6_wipe : zY := (6, yX6_wipe, cX6_wipe, 2, some (FieldType.int))
theorem o_X6_wipe : zYo kX6_wipe = 6 := rfl
theorem r_X6_wipe : zYr kX6_wipe = some (FieldType.int) := rfl
def kX6_fault : zY := (6, yX6_fault, cX6_fault, 1, some (FieldType.int))
theorem o_X6_fault : zYo kX6_fault = 6 := rfl
theorem r_X6_fault : zYr kX6_fault = some (FieldType.int) := rfl
def kX6_undo : zY := (6, yX6_undo, cX6_undo, 1, some (FieldType.int))
theorem o_X6_undo : zYo kX6_undo = 6 := rfl
theorem r_X6_undo : zYr kX6_undo = some (FieldType.int) := rfl
def kX1_takeBack : zY := (1, yX1_takeBack, cX1_takeBack, 3, some (FieldType.boolean))
theorem o_X1_takeBack : zYo kX1_takeBack = 1 := rfl
theorem r_X1_takeBack : zYr kX1_takeBack = some (FieldType.boolean) := rfl
def kX6_save : zY := (6, yX6_save, cX6_save, 3, some (FieldType.int))
theorem o_X6_save : zYo kX6_save = 6 := rfl
theorem r_X6_save : zYr kX6_save = some (FieldType.int) := rfl
def kX6_restore : zY := (6, yX6_restore, cX6_restore, 3, some (FieldType.int))
theorem o_X6_restore : zYo kX6_restore = 6 := rfl
theorem r_X6_restore : zYr kX6_restore = some (FieldType.int) := rfl
def kX7_init : zY := (7, yX7_init, cX7_init, 1, none)
theorem o_X7_init : zYo kX7_init = 7 := rfl
theorem r_X7_init : zYr kX7_init = none := rfl
theorem i_X7_init : zYi kX7_init = true := rfl
def kX7_sew : zY := (7, yX7_sew, cX7_sew, 2, some (FieldType.int))
theorem o_X7_sew : zYo kX7_sew = 7 := rfl
theorem r_X7_sew : zYr kX7_sew = some (FieldType.int) := rfl
def kX7_findFault : zY := (7, yX7_findFault, cX7_findFault, 9, some (FieldType.int))
theorem o_X7_findFault : zYo kX7_findFault = 7 := rfl
theorem r_X7_findFault : zYr kX7_findFault = some (FieldType.int) := rfl
def kX7_within : zY := (7, yX7_within, cX7_within, 3, some (FieldType.boolean))
theorem o_X7_within : zYo kX7_within = 7 := rfl
theorem r_X7_within : zYr kX7_within = some (FieldType.boolean) := rfl
def kX7_toldMany : zY := (7, yX7_toldMany, cX7_toldMany, 3, some (FieldType.int))
theorem o_X7_toldMany : zYo kX7_toldMany = 7 := rfl
theorem r_X7_toldMany : zYr kX7_toldMany = some (FieldType.int) := rfl
def kX7_record : zY := (7, yX7_record, cX7_record, 2, none)
theorem o_X7_record : zYo kX7_record = 7 := rfl
theorem r_X7_record : zYr kX7_record = none := rfl
def kX7_moves : zY := (7, yX7_moves, cX7_moves, 5, none)
theorem o_X7_moves : zYo kX7_moves = 7 := rfl
theorem r_X7_moves : zYr kX7_moves = none := rfl
def kX7_readScroll : zY := (7, yX7_readScroll, cX7_readScroll, 4, some (FieldType.int))
theorem o_X7_readScroll : zYo kX7_readScroll = 7 := rfl
theorem r_X7_readScroll : zYr kX7_readScroll = some (FieldType.int) := rfl
def kX7_give : zY := (7, yX7_give, cX7_give, 4, none)
theorem o_X7_give : zYo kX7_give = 7 := rfl
theorem r_X7_give : zYr kX7_give = none := rfl
def kX7_burn : zY := (7, yX7_burn, cX7_burn, 3, some (FieldType.int))
theorem o_X7_burn : zYo kX7_burn = 7 := rfl
theorem r_X7_burn : zYr kX7_burn = some (FieldType.int) := rfl
def kX7_isScroll : zY := (7, yX7_isScroll, cX7_isScroll, 2, some (FieldType.boolean))
theorem o_X7_isScroll : zYo kX7_isScroll = 7 := rfl
theorem r_X7_isScroll : zYr kX7_isScroll = some (FieldType.boolean) := rfl
def kX7_lettersOf : zY := (7, yX7_lettersOf, cX7_lettersOf, 2, some (FieldType.int))
theorem o_X7_lettersOf : zYo kX7_lettersOf = 7 := rfl
theorem r_X7_lettersOf : zYr kX7_lettersOf = some (FieldType.int) := rfl
def kX7_part : zY := (7, yX7_part, cX7_part, 3, some (FieldType.int))
theorem o_X7_part : zYo kX7_part = 7 := rfl
theorem r_X7_part : zYr kX7_part = some (FieldType.int) := rfl
def kX7_goes : zY := (7, yX7_goes, cX7_goes, 3, none)
theorem o_X7_goes : zYo kX7_goes = 7 := rfl
theorem r_X7_goes : zYr kX7_goes = none := rfl
def kX7_cut : zY := (7, yX7_cut, cX7_cut, 4, some (FieldType.int))
theorem o_X7_cut : zYo kX7_cut = 7 := rfl
theorem r_X7_cut : zYr kX7_cut = some (FieldType.int) := rfl
def kX7_isPatch : zY := (7, yX7_isPatch, cX7_isPatch, 3, some (FieldType.boolean))
theorem o_X7_isPatch : zYo kX7_isPatch = 7 := rfl
theorem r_X7_isPatch : zYr kX7_isPatch = some (FieldType.boolean) := rfl
def kX7_sizeOf : zY := (7, yX7_sizeOf, cX7_sizeOf, 3, some (FieldType.int))
theorem o_X7_sizeOf : zYo kX7_sizeOf = 7 := rfl
theorem r_X7_sizeOf : zYr kX7_sizeOf = some (FieldType.int) := rfl
def kX7_take : zY := (7, yX7_take, cX7_take, 3, none)
theorem o_X7_take : zYo kX7_take = 7 := rfl
theorem r_X7_take : zYr kX7_take = none := rfl
def kX7_cutNow : zY := (7, yX7_cutNow, cX7_cutNow, 4, none)
theorem o_X7_cutNow : zYo kX7_cutNow = 7 := rfl
theorem r_X7_cutNow : zYr kX7_cutNow = none := rfl
def kX7_undoSeam : zY := (7, yX7_undoSeam, cX7_undoSeam, 3, some (FieldType.int))
theorem o_X7_undoSeam : zYo kX7_undoSeam = 7 := rfl
theorem r_X7_undoSeam : zYr kX7_undoSeam = some (FieldType.int) := rfl
def kX7_isSeam : zY := (7, yX7_isSeam, cX7_isSeam, 3, some (FieldType.boolean))
theorem o_X7_isSeam : zYo kX7_isSeam = 7 := rfl
theorem r_X7_isSeam : zYr kX7_isSeam = some (FieldType.boolean) := rfl
def kX7_undoNow : zY := (7, yX7_undoNow, cX7_undoNow, 3, none)
theorem o_X7_undoNow : zYo kX7_undoNow = 7 := rfl
theorem r_X7_undoNow : zYr kX7_undoNow = none := rfl
def kX7_turn : zY := (7, yX7_turn, cX7_turn, 6, some (FieldType.int))
theorem o_X7_turn : zYo kX7_turn = 7 := rfl
theorem r_X7_turn : zYr kX7_turn = some (FieldType.int) := rfl
def kX7_exchange : zY := (7, yX7_exchange, cX7_exchange, 7, some (FieldType.int))
theorem o_X7_exchange : zYo kX7_exchange = 7 := rfl
theorem r_X7_exchange : zYr kX7_exchange = some (FieldType.int) := rfl
def kX7_search : zY := (7, yX7_search, cX7_search, 4, none)
theorem o_X7_search : zYo kX7_search = 7 := rfl
theorem r_X7_search : zYr kX7_search = none := rfl
def kX7_layDown : zY := (7, yX7_layDown, cX7_layDown, 8, none)
theorem o_X7_layDown : zYo kX7_layDown = 7 := rfl
theorem r_X7_layDown : zYr kX7_layDown = none := rfl
def kX7_takeIn : zY := (7, yX7_takeIn, cX7_takeIn, 5, none)
theorem o_X7_takeIn : zYo kX7_takeIn = 7 := rfl
theorem r_X7_takeIn : zYr kX7_takeIn = none := rfl
def kX7_compared : zY := (7, yX7_compared, cX7_compared, 6, some (FieldType.int))
theorem o_X7_compared : zYo kX7_compared = 7 := rfl
theorem r_X7_compared : zYr kX7_compared = some (FieldType.int) := rfl
def kX7_join : zY := (7, yX7_join, cX7_join, 5, some (FieldType.int))
theorem o_X7_join : zYo kX7_join = 7 := rfl
theorem r_X7_join : zYr kX7_join = some (FieldType.int) := rfl
def kX7_scroll : zY := (7, yX7_scroll, cX7_scroll, 3, some (FieldType.int))
theorem o_X7_scroll : zYo kX7_scroll = 7 := rfl
theorem r_X7_scroll : zYr kX7_scroll = some (FieldType.int) := rfl
def kX7_findOf : zY := (7, yX7_findOf, cX7_findOf, 2, none)
theorem o_X7_findOf : zYo kX7_findOf = 7 := rfl
theorem r_X7_findOf : zYr kX7_findOf = none := rfl
def kX7_sameBothWays : zY := (7, yX7_sameBothWays, cX7_sameBothWays, 7, some (FieldType.int))
theorem o_X7_sameBothWays : zYo kX7_sameBothWays = 7 := rfl
theorem r_X7_sameBothWays : zYr kX7_sameBothWays = some (FieldType.int) := rfl
def kX7_sameFromEnds : zY := (7, yX7_sameFromEnds, cX7_sameFromEnds, 5, some (FieldType.int))
theorem o_X7_sameFromEnds : zYo kX7_sameFromEnds = 7 := rfl
theorem r_X7_sameFromEnds : zYr kX7_sameFromEnds = some (FieldType.int) := rfl
def kX7_letterOf : zY := (7, yX7_letterOf, cX7_letterOf, 3, some (FieldType.int))
theorem o_X7_letterOf : zYo kX7_letterOf = 7 := rfl
theorem r_X7_letterOf : zYr kX7_letterOf = some (FieldType.int) := rfl
def kX7_needlessSeams : zY := (7, yX7_needlessSeams, cX7_needlessSeams, 4, some (FieldType.int))
theorem o_X7_needlessSeams : zYo kX7_needlessSeams = 7 := rfl
theorem r_X7_needlessSeams : zYr kX7_needlessSeams = some (FieldType.int) := rfl
def kX7_keepOther : zY := (7, yX7_keepOther, cX7_keepOther, 3, none)
theorem o_X7_keepOther : zYo kX7_keepOther = 7 := rfl
theorem r_X7_keepOther : zYr kX7_keepOther = none := rfl
def kX7_meet : zY := (7, yX7_meet, cX7_meet, 5, some (FieldType.int))
theorem o_X7_meet : zYo kX7_meet = 7 := rfl
theorem r_X7_meet : zYr kX7_meet = some (FieldType.int) := rfl
def kX7_patch : zY := (7, yX7_patch, cX7_patch, 3, some (FieldType.int))
theorem o_X7_patch : zYo kX7_patch = 7 := rfl
theorem r_X7_patch : zYr kX7_patch = some (FieldType.int) := rfl
def kX7_letter : zY := (7, yX7_letter, cX7_letter, 4, some (FieldType.int))
theorem o_X7_letter : zYo kX7_letter = 7 := rfl
theorem r_X7_letter : zYr kX7_letter = some (FieldType.int) := rfl
def kX7_reading : zY := (7, yX7_reading, cX7_reading, 4, some (FieldType.int))
theorem o_X7_reading : zYo kX7_reading = 7 := rfl
theorem r_X7_reading : zYr kX7_reading = some (FieldType.int) := rfl
def kX7_find : zY := (7, yX7_find, cX7_find, 7, some (FieldType.int))
theorem o_X7_find : zYo kX7_find = 7 := rfl
theorem r_X7_find : zYr kX7_find = some (FieldType.int) := rfl
def kX7_isWord : zY := (7, yX7_isWord, cX7_isWord, 3, some (FieldType.boolean))
theorem o_X7_isWord : zYo kX7_isWord = 7 := rfl
theorem r_X7_isWord : zYr kX7_isWord = some (FieldType.boolean) := rfl
def kX7_placeIn : zY := (7, yX7_placeIn, cX7_placeIn, 5, some (FieldType.int))
theorem o_X7_placeIn : zYo kX7_placeIn = 7 := rfl
theorem r_X7_placeIn : zYr kX7_placeIn = some (FieldType.int) := rfl
def kX7_shared : zY := (7, yX7_shared, cX7_shared, 3, some (FieldType.int))
theorem o_X7_shared : zYo kX7_shared = 7 := rfl
theorem r_X7_shared : zYr kX7_shared = some (FieldType.int) := rfl
def kX7_sharedBy : zY := (7, yX7_sharedBy, cX7_sharedBy, 3, some (FieldType.int))
theorem o_X7_sharedBy : zYo kX7_sharedBy = 7 := rfl
theorem r_X7_sharedBy : zYr kX7_sharedBy = some (FieldType.int) := rfl
def kX7_compare : zY := (7, yX7_compare, cX7_compare, 3, some (FieldType.int))
theorem o_X7_compare : zYo kX7_compare = 7 := rfl
theorem r_X7_compare : zYr kX7_compare = some (FieldType.int) := rfl
def kX7_howTheyStand : zY := (7, yX7_howTheyStand, cX7_howTheyStand, 4, some (FieldType.int))
theorem o_X7_howTheyStand : zYo kX7_howTheyStand = 7 := rfl
theorem r_X7_howTheyStand : zYr kX7_howTheyStand = some (FieldType.int) := rfl
def kX7_count : zY := (7, yX7_count, cX7_count, 2, some (FieldType.int))
theorem o_X7_count : zYo kX7_count = 7 := rfl
theorem r_X7_count : zYr kX7_count = some (FieldType.int) := rfl
def kX7_allPatches : zY := (7, yX7_allPatches, cX7_allPatches, 3, some (FieldType.int))
theorem o_X7_allPatches : zYo kX7_allPatches = 7 := rfl
theorem r_X7_allPatches : zYr kX7_allPatches = some (FieldType.int) := rfl
def kX7_allLetters : zY := (7, yX7_allLetters, cX7_allLetters, 3, some (FieldType.int))
theorem o_X7_allLetters : zYo kX7_allLetters = 7 := rfl
theorem r_X7_allLetters : zYr kX7_allLetters = some (FieldType.int) := rfl
def kX7_allReadings : zY := (7, yX7_allReadings, cX7_allReadings, 4, some (FieldType.int))
theorem o_X7_allReadings : zYo kX7_allReadings = 7 := rfl
theorem r_X7_allReadings : zYr kX7_allReadings = some (FieldType.int) := rfl
def kX7_samePairs : zY := (7, yX7_samePairs, cX7_samePairs, 4, some (FieldType.int))
theorem o_X7_samePairs : zYo kX7_samePairs = 7 := rfl
theorem r_X7_samePairs : zYr kX7_samePairs = some (FieldType.int) := rfl
def kX7_ifCut : zY := (7, yX7_ifCut, cX7_ifCut, 4, some (FieldType.int))
theorem o_X7_ifCut : zYo kX7_ifCut = 7 := rfl
theorem r_X7_ifCut : zYr kX7_ifCut = some (FieldType.int) := rfl
def kX7_readingsIfCut : zY := (7, yX7_readingsIfCut, cX7_readingsIfCut, 4, some (FieldType.int))
theorem o_X7_readingsIfCut : zYo kX7_readingsIfCut = 7 := rfl
theorem r_X7_readingsIfCut : zYr kX7_readingsIfCut = some (FieldType.int) := rfl
def kX7_bestCut : zY := (7, yX7_bestCut, cX7_bestCut, 9, some (FieldType.int))
theorem o_X7_bestCut : zYo kX7_bestCut = 7 := rfl
theorem r_X7_bestCut : zYr kX7_bestCut = some (FieldType.int) := rfl
def kX7_put : zY := (7, yX7_put, cX7_put, 8, some (FieldType.int))
theorem o_X7_put : zYo kX7_put = 7 := rfl
theorem r_X7_put : zYr kX7_put = some (FieldType.int) := rfl
def kX7_wipe : zY := (7, yX7_wipe, cX7_wipe, 2, some (FieldType.int))
theorem o_X7_wipe : zYo kX7_wipe = 7 := rfl
theorem r_X7_wipe : zYr kX7_wipe = some (FieldType.int) := rfl
def kX7_fault : zY := (7, yX7_fault, cX7_fault, 1, some (FieldType.int))
theorem o_X7_fault : zYo kX7_fault = 7 := rfl
theorem r_X7_fault : zYr kX7_fault = some (FieldType.int) := rfl
def kX7_undo : zY := (7, yX7_undo, cX7_undo, 1, some (FieldType.int))
theorem o_X7_undo : zYo kX7_undo = 7 := rfl
theorem r_X7_undo : zYr kX7_undo = some (FieldType.int) := rfl
def kX7_save : zY := (7, yX7_save, cX7_save, 2, some (FieldType.int))
theorem o_X7_save : zYo kX7_save = 7 := rfl
theorem r_X7_save : zYr kX7_save = some (FieldType.int) := rfl
def kX7_restore : zY := (7, yX7_restore, cX7_restore, 2, some (FieldType.int))
theorem o_X7_restore : zYo kX7_restore = 7 := rfl
theorem r_X7_restore : zYr kX7_restore = some (FieldType.int) := rfl
def kL_law : zY := (8, yL_law, cL_law, 4, some (FieldType.boolean))
theorem o_L_law : zYo kL_law = 8 := rfl
/-- field links: (own class, pool number), (class of the object, slot, 0 an int or 1 a final reference), (nest mate, place in the tables) -/
def zFt : List ((Nat × Nat) × (Nat × Nat × Nat) × (Nat × Nat)) := [((4, 9), (4, 0, 1), (0, 81)), ((4, 15), (4, 1, 1), (0, 82)), ((4, 18), (4, 2, 0), (0, 83)), ((0, 28), (4, 2, 0), (1, 84)), ((6, 96), (4, 2, 0), (1, 85)), ((5, 33), (4, 2, 0), (1, 86)), ((5, 11), (5, 0, 1), (0, 95)), ((5, 18), (5, 1, 0), (0, 96)), ((6, 60), (5, 1, 0), (1, 97)), ((2, 9), (2, 0, 1), (0, 109)), ((2, 15), (2, 1, 0), (0, 110)), ((6, 179), (2, 1, 0), (1, 111)), ((1, 11), (1, 0, 1), (0, 126)), ((1, 18), (1, 1, 0), (0, 127)), ((6, 181), (1, 1, 0), (1, 128)), ((0, 9), (0, 0, 1), (0, 146)), ((3, 45), (0, 0, 1), (1, 147)), ((0, 15), (0, 1, 1), (0, 148)), ((0, 18), (0, 2, 1), (0, 149)), ((0, 21), (0, 3, 0), (0, 150)), ((0, 25), (0, 4, 0), (0, 151)), ((3, 12), (3, 0, 1), (0, 164)), ((3, 18), (3, 1, 1), (0, 165)), ((3, 21), (3, 2, 1), (0, 166)), ((6, 239), (3, 2, 1), (1, 167)), ((3, 31), (3, 3, 0), (0, 168)), ((6, 242), (3, 3, 0), (1, 169)), ((6, 10), (6, 0, 1), (0, 181)), ((6, 19), (6, 1, 1), (0, 182)), ((6, 26), (6, 2, 1), (0, 183)), ((6, 30), (6, 3, 1), (0, 184)), ((6, 34), (6, 4, 1), (0, 185)), ((6, 41), (6, 5, 1), (0, 186)), ((6, 48), (6, 6, 1), (0, 187)), ((6, 52), (6, 7, 1), (0, 188)), ((7, 7), (7, 0, 1), (0, 599)), ((7, 13), (7, 1, 1), (0, 600)), ((7, 46), (7, 2, 0), (0, 601)), ((7, 16), (7, 3, 1), (0, 602)), ((7, 19), (7, 4, 1), (0, 603)), ((7, 22), (7, 5, 1), (0, 604)), ((7, 109), (7, 6, 0), (0, 605)), ((7, 66), (7, 7, 0), (0, 606)), ((7, 25), (7, 8, 1), (0, 607)), ((7, 28), (7, 9, 1), (0, 608)), ((7, 31), (7, 10, 1), (0, 609)), ((7, 34), (7, 11, 1), (0, 610)), ((7, 69), (7, 12, 0), (0, 611)), ((7, 72), (7, 13, 0), (0, 612)), ((7, 37), (7, 14, 1), (0, 613)), ((7, 40), (7, 15, 1), (0, 614)), ((7, 43), (7, 16, 1), (0, 615)), ((7, 93), (7, 17, 0), (0, 616)), ((7, 96), (7, 18, 0), (0, 617))]
def zF (o i : Nat) : Option (Nat × Nat × Nat) := (zFt.find? (fun x => x.1 == (o, i))).map (fun x => x.2.1)
theorem zF_4_9 : zF 4 9 = some (4, 0, 1) := by decide +kernel
theorem zF_4_15 : zF 4 15 = some (4, 1, 1) := by decide +kernel
theorem zF_4_18 : zF 4 18 = some (4, 2, 0) := by decide +kernel
theorem zF_0_28 : zF 0 28 = some (4, 2, 0) := by decide +kernel
theorem zF_6_96 : zF 6 96 = some (4, 2, 0) := by decide +kernel
theorem zF_5_33 : zF 5 33 = some (4, 2, 0) := by decide +kernel
theorem zF_5_11 : zF 5 11 = some (5, 0, 1) := by decide +kernel
theorem zF_5_18 : zF 5 18 = some (5, 1, 0) := by decide +kernel
theorem zF_6_60 : zF 6 60 = some (5, 1, 0) := by decide +kernel
theorem zF_2_9 : zF 2 9 = some (2, 0, 1) := by decide +kernel
theorem zF_2_15 : zF 2 15 = some (2, 1, 0) := by decide +kernel
theorem zF_6_179 : zF 6 179 = some (2, 1, 0) := by decide +kernel
theorem zF_1_11 : zF 1 11 = some (1, 0, 1) := by decide +kernel
theorem zF_1_18 : zF 1 18 = some (1, 1, 0) := by decide +kernel
theorem zF_6_181 : zF 6 181 = some (1, 1, 0) := by decide +kernel
theorem zF_0_9 : zF 0 9 = some (0, 0, 1) := by decide +kernel
theorem zF_3_45 : zF 3 45 = some (0, 0, 1) := by decide +kernel
theorem zF_0_15 : zF 0 15 = some (0, 1, 1) := by decide +kernel
theorem zF_0_18 : zF 0 18 = some (0, 2, 1) := by decide +kernel
theorem zF_0_21 : zF 0 21 = some (0, 3, 0) := by decide +kernel
theorem zF_0_25 : zF 0 25 = some (0, 4, 0) := by decide +kernel
theorem zF_3_12 : zF 3 12 = some (3, 0, 1) := by decide +kernel
theorem zF_3_18 : zF 3 18 = some (3, 1, 1) := by decide +kernel
theorem zF_3_21 : zF 3 21 = some (3, 2, 1) := by decide +kernel
theorem zF_6_239 : zF 6 239 = some (3, 2, 1) := by decide +kernel
theorem zF_3_31 : zF 3 31 = some (3, 3, 0) := by decide +kernel
theorem zF_6_242 : zF 6 242 = some (3, 3, 0) := by decide +kernel
theorem zF_6_10 : zF 6 10 = some (6, 0, 1) := by decide +kernel
theorem zF_6_19 : zF 6 19 = some (6, 1, 1) := by decide +kernel
theorem zF_6_26 : zF 6 26 = some (6, 2, 1) := by decide +kernel
theorem zF_6_30 : zF 6 30 = some (6, 3, 1) := by decide +kernel
theorem zF_6_34 : zF 6 34 = some (6, 4, 1) := by decide +kernel
theorem zF_6_41 : zF 6 41 = some (6, 5, 1) := by decide +kernel
theorem zF_6_48 : zF 6 48 = some (6, 6, 1) := by decide +kernel
theorem zF_6_52 : zF 6 52 = some (6, 7, 1) := by decide +kernel
theorem zF_7_7 : zF 7 7 = some (7, 0, 1) := by decide +kernel
theorem zF_7_13 : zF 7 13 = some (7, 1, 1) := by decide +kernel
theorem zF_7_46 : zF 7 46 = some (7, 2, 0) := by decide +kernel
theorem zF_7_16 : zF 7 16 = some (7, 3, 1) := by decide +kernel
theorem zF_7_19 : zF 7 19 = some (7, 4, 1) := by decide +kernel
theorem zF_7_22 : zF 7 22 = some (7, 5, 1) := by decide +kernel
theorem zF_7_109 : zF 7 109 = some (7, 6, 0) := by decide +kernel
theorem zF_7_66 : zF 7 66 = some (7, 7, 0) := by decide +kernel
theorem zF_7_25 : zF 7 25 = some (7, 8, 1) := by decide +kernel
theorem zF_7_28 : zF 7 28 = some (7, 9, 1) := by decide +kernel
theorem zF_7_31 : zF 7 31 = some (7, 10, 1) := by decide +kernel
theorem zF_7_34 : zF 7 34 = some (7, 11, 1) := by decide +kernel
theorem zF_7_69 : zF 7 69 = some (7, 12, 0) := by decide +kernel
theorem zF_7_72 : zF 7 72 = some (7, 13, 0) := by decide +kernel
theorem zF_7_37 : zF 7 37 = some (7, 14, 1) := by decide +kernel
theorem zF_7_40 : zF 7 40 = some (7, 15, 1) := by decide +kernel
theorem zF_7_43 : zF 7 43 = some (7, 16, 1) := by decide +kernel
theorem zF_7_93 : zF 7 93 = some (7, 17, 0) := by decide +kernel
theorem zF_7_96 : zF 7 96 = some (7, 18, 0) := by decide +kernel
set_option maxRecDepth 100000 in
theorem kc_X6_init : Cond.code (zYn kX6_init) (zYb kX6_init) (zYl kX6_init) (zYr kX6_init) ∈ lw_tbl := List.mem_of_getElem? (i := 64) rfl
set_option maxRecDepth 100000 in
theorem kc_X5_init : Cond.code (zYn kX5_init) (zYb kX5_init) (zYl kX5_init) (zYr kX5_init) ∈ lw_tbl := List.mem_of_getElem? (i := 72) rfl
set_option maxRecDepth 100000 in
theorem kc_X4_init : Cond.code (zYn kX4_init) (zYb kX4_init) (zYl kX4_init) (zYr kX4_init) ∈ lw_tbl := List.mem_of_getElem? (i := 79) rfl
set_option maxRecDepth 100000 in
theorem kc_X2_init : Cond.code (zYn kX2_init) (zYb kX2_init) (zYl kX2_init) (zYr kX2_init) ∈ lw_tbl := List.mem_of_getElem? (i := 107) rfl
set_option maxRecDepth 100000 in
theorem kc_X1_init : Cond.code (zYn kX1_init) (zYb kX1_init) (zYl kX1_init) (zYr kX1_init) ∈ lw_tbl := List.mem_of_getElem? (i := 121) rfl
set_option maxRecDepth 100000 in
theorem kc_X3_init : Cond.code (zYn kX3_init) (zYb kX3_init) (zYl kX3_init) (zYr kX3_init) ∈ lw_tbl := List.mem_of_getElem? (i := 138) rfl
set_option maxRecDepth 100000 in
theorem kc_X0_init : Cond.code (zYn kX0_init) (zYb kX0_init) (zYl kX0_init) (zYr kX0_init) ∈ lw_tbl := List.mem_of_getElem? (i := 144) rfl
set_option maxRecDepth 100000 in
theorem kc_X6_sew : Cond.code (zYn kX6_sew) (zYb kX6_sew) (zYl kX6_sew) (zYr kX6_sew) ∈ lw_tbl := List.mem_of_getElem? (i := 209) rfl
set_option maxRecDepth 100000 in
theorem kc_X2_firstFault : Cond.code (zYn kX2_firstFault) (zYb kX2_firstFault) (zYl kX2_firstFault) (zYr kX2_firstFault) ∈ lw_tbl := List.mem_of_getElem? (i := 213) rfl
set_option maxRecDepth 100000 in
theorem kc_X2_codeAt : Cond.code (zYn kX2_codeAt) (zYb kX2_codeAt) (zYl kX2_codeAt) (zYr kX2_codeAt) ∈ lw_tbl := List.mem_of_getElem? (i := 217) rfl
set_option maxRecDepth 100000 in
theorem kc_X6_isLetter : Cond.code (zYn kX6_isLetter) (zYb kX6_isLetter) (zYl kX6_isLetter) (zYr kX6_isLetter) ∈ lw_tbl := List.mem_of_getElem? (i := 220) rfl
set_option maxRecDepth 100000 in
theorem kc_X2_scrollsOfText : Cond.code (zYn kX2_scrollsOfText) (zYb kX2_scrollsOfText) (zYl kX2_scrollsOfText) (zYr kX2_scrollsOfText) ∈ lw_tbl := List.mem_of_getElem? (i := 224) rfl
set_option maxRecDepth 100000 in
theorem kc_X1_record : Cond.code (zYn kX1_record) (zYb kX1_record) (zYl kX1_record) (zYr kX1_record) ∈ lw_tbl := List.mem_of_getElem? (i := 228) rfl
set_option maxRecDepth 100000 in
theorem kc_X1_dropOldest : Cond.code (zYn kX1_dropOldest) (zYb kX1_dropOldest) (zYl kX1_dropOldest) (zYr kX1_dropOldest) ∈ lw_tbl := List.mem_of_getElem? (i := 232) rfl
set_option maxRecDepth 100000 in
theorem kc_X5_copyFrom : Cond.code (zYn kX5_copyFrom) (zYb kX5_copyFrom) (zYl kX5_copyFrom) (zYr kX5_copyFrom) ∈ lw_tbl := List.mem_of_getElem? (i := 236) rfl
set_option maxRecDepth 100000 in
theorem kc_X5_at : Cond.code (zYn kX5_at) (zYb kX5_at) (zYl kX5_at) (zYr kX5_at) ∈ lw_tbl := List.mem_of_getElem? (i := 240) rfl
set_option maxRecDepth 100000 in
theorem kc_X4_copyFrom : Cond.code (zYn kX4_copyFrom) (zYb kX4_copyFrom) (zYl kX4_copyFrom) (zYr kX4_copyFrom) ∈ lw_tbl := List.mem_of_getElem? (i := 244) rfl
set_option maxRecDepth 100000 in
theorem kc_X6_sewText : Cond.code (zYn kX6_sewText) (zYb kX6_sewText) (zYl kX6_sewText) (zYr kX6_sewText) ∈ lw_tbl := List.mem_of_getElem? (i := 251) rfl
set_option maxRecDepth 100000 in
theorem kc_X5_addScroll : Cond.code (zYn kX5_addScroll) (zYb kX5_addScroll) (zYl kX5_addScroll) (zYr kX5_addScroll) ∈ lw_tbl := List.mem_of_getElem? (i := 255) rfl
set_option maxRecDepth 100000 in
theorem kc_X4_startAnew : Cond.code (zYn kX4_startAnew) (zYb kX4_startAnew) (zYl kX4_startAnew) (zYr kX4_startAnew) ∈ lw_tbl := List.mem_of_getElem? (i := 259) rfl
set_option maxRecDepth 100000 in
theorem kc_X4_addPatch : Cond.code (zYn kX4_addPatch) (zYb kX4_addPatch) (zYl kX4_addPatch) (zYr kX4_addPatch) ∈ lw_tbl := List.mem_of_getElem? (i := 263) rfl
set_option maxRecDepth 100000 in
theorem kc_X4_length : Cond.code (zYn kX4_length) (zYb kX4_length) (zYl kX4_length) (zYr kX4_length) ∈ lw_tbl := List.mem_of_getElem? (i := 267) rfl
set_option maxRecDepth 100000 in
theorem kc_X4_startOf : Cond.code (zYn kX4_startOf) (zYb kX4_startOf) (zYl kX4_startOf) (zYr kX4_startOf) ∈ lw_tbl := List.mem_of_getElem? (i := 271) rfl
set_option maxRecDepth 100000 in
theorem kc_X4_addLetter : Cond.code (zYn kX4_addLetter) (zYb kX4_addLetter) (zYl kX4_addLetter) (zYr kX4_addLetter) ∈ lw_tbl := List.mem_of_getElem? (i := 277) rfl
set_option maxRecDepth 100000 in
theorem kc_X2_empty : Cond.code (zYn kX2_empty) (zYb kX2_empty) (zYl kX2_empty) (zYr kX2_empty) ∈ lw_tbl := List.mem_of_getElem? (i := 281) rfl
set_option maxRecDepth 100000 in
theorem kc_X6_burn : Cond.code (zYn kX6_burn) (zYb kX6_burn) (zYl kX6_burn) (zYr kX6_burn) ∈ lw_tbl := List.mem_of_getElem? (i := 285) rfl
set_option maxRecDepth 100000 in
theorem kc_X5_remove : Cond.code (zYn kX5_remove) (zYb kX5_remove) (zYl kX5_remove) (zYr kX5_remove) ∈ lw_tbl := List.mem_of_getElem? (i := 291) rfl
set_option maxRecDepth 100000 in
theorem kc_X6_cut : Cond.code (zYn kX6_cut) (zYb kX6_cut) (zYl kX6_cut) (zYr kX6_cut) ∈ lw_tbl := List.mem_of_getElem? (i := 295) rfl
set_option maxRecDepth 100000 in
theorem kc_X4_hasPatch : Cond.code (zYn kX4_hasPatch) (zYb kX4_hasPatch) (zYl kX4_hasPatch) (zYr kX4_hasPatch) ∈ lw_tbl := List.mem_of_getElem? (i := 299) rfl
set_option maxRecDepth 100000 in
theorem kc_X4_canBeCut : Cond.code (zYn kX4_canBeCut) (zYb kX4_canBeCut) (zYl kX4_canBeCut) (zYr kX4_canBeCut) ∈ lw_tbl := List.mem_of_getElem? (i := 303) rfl
set_option maxRecDepth 100000 in
theorem kc_X4_sizeOf : Cond.code (zYn kX4_sizeOf) (zYb kX4_sizeOf) (zYl kX4_sizeOf) (zYr kX4_sizeOf) ∈ lw_tbl := List.mem_of_getElem? (i := 307) rfl
set_option maxRecDepth 100000 in
theorem kc_X4_endOf : Cond.code (zYn kX4_endOf) (zYb kX4_endOf) (zYl kX4_endOf) (zYr kX4_endOf) ∈ lw_tbl := List.mem_of_getElem? (i := 311) rfl
set_option maxRecDepth 100000 in
theorem kc_X4_split : Cond.code (zYn kX4_split) (zYb kX4_split) (zYl kX4_split) (zYr kX4_split) ∈ lw_tbl := List.mem_of_getElem? (i := 315) rfl
set_option maxRecDepth 100000 in
theorem kc_X6_undoSeam : Cond.code (zYn kX6_undoSeam) (zYb kX6_undoSeam) (zYl kX6_undoSeam) (zYr kX6_undoSeam) ∈ lw_tbl := List.mem_of_getElem? (i := 320) rfl
set_option maxRecDepth 100000 in
theorem kc_X4_hasSeam : Cond.code (zYn kX4_hasSeam) (zYb kX4_hasSeam) (zYl kX4_hasSeam) (zYr kX4_hasSeam) ∈ lw_tbl := List.mem_of_getElem? (i := 324) rfl
set_option maxRecDepth 100000 in
theorem kc_X4_merge : Cond.code (zYn kX4_merge) (zYb kX4_merge) (zYl kX4_merge) (zYr kX4_merge) ∈ lw_tbl := List.mem_of_getElem? (i := 329) rfl
set_option maxRecDepth 100000 in
theorem kc_X6_turn : Cond.code (zYn kX6_turn) (zYb kX6_turn) (zYl kX6_turn) (zYr kX6_turn) ∈ lw_tbl := List.mem_of_getElem? (i := 334) rfl
set_option maxRecDepth 100000 in
theorem kc_X4_unlikeTurned : Cond.code (zYn kX4_unlikeTurned) (zYb kX4_unlikeTurned) (zYl kX4_unlikeTurned) (zYr kX4_unlikeTurned) ∈ lw_tbl := List.mem_of_getElem? (i := 338) rfl
set_option maxRecDepth 100000 in
theorem kc_X4_letterAt : Cond.code (zYn kX4_letterAt) (zYb kX4_letterAt) (zYl kX4_letterAt) (zYr kX4_letterAt) ∈ lw_tbl := List.mem_of_getElem? (i := 342) rfl
set_option maxRecDepth 100000 in
theorem kc_X4_turnRound : Cond.code (zYn kX4_turnRound) (zYb kX4_turnRound) (zYl kX4_turnRound) (zYr kX4_turnRound) ∈ lw_tbl := List.mem_of_getElem? (i := 346) rfl
set_option maxRecDepth 100000 in
theorem kc_X6_turnPart : Cond.code (zYn kX6_turnPart) (zYb kX6_turnPart) (zYl kX6_turnPart) (zYr kX6_turnPart) ∈ lw_tbl := List.mem_of_getElem? (i := 349) rfl
set_option maxRecDepth 100000 in
theorem kc_X6_exchange : Cond.code (zYn kX6_exchange) (zYb kX6_exchange) (zYl kX6_exchange) (zYr kX6_exchange) ∈ lw_tbl := List.mem_of_getElem? (i := 353) rfl
set_option maxRecDepth 100000 in
theorem kc_X4_swapBeside : Cond.code (zYn kX4_swapBeside) (zYb kX4_swapBeside) (zYl kX4_swapBeside) (zYr kX4_swapBeside) ∈ lw_tbl := List.mem_of_getElem? (i := 357) rfl
set_option maxRecDepth 100000 in
theorem kc_X6_readingsOf : Cond.code (zYn kX6_readingsOf) (zYb kX6_readingsOf) (zYl kX6_readingsOf) (zYr kX6_readingsOf) ∈ lw_tbl := List.mem_of_getElem? (i := 361) rfl
set_option maxRecDepth 100000 in
theorem kc_X4_waysFromFirst : Cond.code (zYn kX4_waysFromFirst) (zYb kX4_waysFromFirst) (zYl kX4_waysFromFirst) (zYr kX4_waysFromFirst) ∈ lw_tbl := List.mem_of_getElem? (i := 365) rfl
set_option maxRecDepth 100000 in
theorem kc_X4_isEven : Cond.code (zYn kX4_isEven) (zYb kX4_isEven) (zYl kX4_isEven) (zYr kX4_isEven) ∈ lw_tbl := List.mem_of_getElem? (i := 369) rfl
set_option maxRecDepth 100000 in
theorem kc_X6_orderTurned : Cond.code (zYn kX6_orderTurned) (zYb kX6_orderTurned) (zYl kX6_orderTurned) (zYr kX6_orderTurned) ∈ lw_tbl := List.mem_of_getElem? (i := 372) rfl
set_option maxRecDepth 100000 in
theorem kc_X6_toldFromBothEnds : Cond.code (zYn kX6_toldFromBothEnds) (zYb kX6_toldFromBothEnds) (zYl kX6_toldFromBothEnds) (zYr kX6_toldFromBothEnds) ∈ lw_tbl := List.mem_of_getElem? (i := 375) rfl
set_option maxRecDepth 100000 in
theorem kc_X4_lay : Cond.code (zYn kX4_lay) (zYb kX4_lay) (zYl kX4_lay) (zYr kX4_lay) ∈ lw_tbl := List.mem_of_getElem? (i := 382) rfl
set_option maxRecDepth 100000 in
theorem kc_X4_beginsWith : Cond.code (zYn kX4_beginsWith) (zYb kX4_beginsWith) (zYl kX4_beginsWith) (zYr kX4_beginsWith) ∈ lw_tbl := List.mem_of_getElem? (i := 386) rfl
set_option maxRecDepth 100000 in
theorem kc_X4_standsAt : Cond.code (zYn kX4_standsAt) (zYb kX4_standsAt) (zYl kX4_standsAt) (zYr kX4_standsAt) ∈ lw_tbl := List.mem_of_getElem? (i := 390) rfl
set_option maxRecDepth 100000 in
theorem kc_X6_join : Cond.code (zYn kX6_join) (zYb kX6_join) (zYl kX6_join) (zYr kX6_join) ∈ lw_tbl := List.mem_of_getElem? (i := 394) rfl
set_option maxRecDepth 100000 in
theorem kc_X4_sewOn : Cond.code (zYn kX4_sewOn) (zYb kX4_sewOn) (zYl kX4_sewOn) (zYr kX4_sewOn) ∈ lw_tbl := List.mem_of_getElem? (i := 398) rfl
set_option maxRecDepth 100000 in
theorem kc_X6_scroll : Cond.code (zYn kX6_scroll) (zYb kX6_scroll) (zYl kX6_scroll) (zYr kX6_scroll) ∈ lw_tbl := List.mem_of_getElem? (i := 403) rfl
set_option maxRecDepth 100000 in
theorem kc_X4_evenPatches : Cond.code (zYn kX4_evenPatches) (zYb kX4_evenPatches) (zYl kX4_evenPatches) (zYr kX4_evenPatches) ∈ lw_tbl := List.mem_of_getElem? (i := 407) rfl
set_option maxRecDepth 100000 in
theorem kc_X6_evenReadings : Cond.code (zYn kX6_evenReadings) (zYb kX6_evenReadings) (zYl kX6_evenReadings) (zYr kX6_evenReadings) ∈ lw_tbl := List.mem_of_getElem? (i := 411) rfl
set_option maxRecDepth 100000 in
theorem kc_X3_begin : Cond.code (zYn kX3_begin) (zYb kX3_begin) (zYl kX3_begin) (zYr kX3_begin) ∈ lw_tbl := List.mem_of_getElem? (i := 415) rfl
set_option maxRecDepth 100000 in
theorem kc_X0_begin : Cond.code (zYn kX0_begin) (zYb kX0_begin) (zYl kX0_begin) (zYr kX0_begin) ∈ lw_tbl := List.mem_of_getElem? (i := 420) rfl
set_option maxRecDepth 100000 in
theorem kc_X0_addDigit : Cond.code (zYn kX0_addDigit) (zYb kX0_addDigit) (zYl kX0_addDigit) (zYr kX0_addDigit) ∈ lw_tbl := List.mem_of_getElem? (i := 429) rfl
set_option maxRecDepth 100000 in
theorem kc_X3_next : Cond.code (zYn kX3_next) (zYb kX3_next) (zYl kX3_next) (zYr kX3_next) ∈ lw_tbl := List.mem_of_getElem? (i := 433) rfl
set_option maxRecDepth 100000 in
theorem kc_X0_isOver : Cond.code (zYn kX0_isOver) (zYb kX0_isOver) (zYl kX0_isOver) (zYr kX0_isOver) ∈ lw_tbl := List.mem_of_getElem? (i := 437) rfl
set_option maxRecDepth 100000 in
theorem kc_X3_orderOfEnds : Cond.code (zYn kX3_orderOfEnds) (zYb kX3_orderOfEnds) (zYl kX3_orderOfEnds) (zYr kX3_orderOfEnds) ∈ lw_tbl := List.mem_of_getElem? (i := 441) rfl
set_option maxRecDepth 100000 in
theorem kc_X0_step : Cond.code (zYn kX0_step) (zYb kX0_step) (zYl kX0_step) (zYr kX0_step) ∈ lw_tbl := List.mem_of_getElem? (i := 446) rfl
set_option maxRecDepth 100000 in
theorem kc_X6_idleSeams : Cond.code (zYn kX6_idleSeams) (zYb kX6_idleSeams) (zYl kX6_idleSeams) (zYr kX6_idleSeams) ∈ lw_tbl := List.mem_of_getElem? (i := 451) rfl
set_option maxRecDepth 100000 in
theorem kc_X6_tellTheSame : Cond.code (zYn kX6_tellTheSame) (zYb kX6_tellTheSame) (zYl kX6_tellTheSame) (zYr kX6_tellTheSame) ∈ lw_tbl := List.mem_of_getElem? (i := 456) rfl
set_option maxRecDepth 100000 in
theorem kc_X6_readingsOfBoth : Cond.code (zYn kX6_readingsOfBoth) (zYb kX6_readingsOfBoth) (zYl kX6_readingsOfBoth) (zYr kX6_readingsOfBoth) ∈ lw_tbl := List.mem_of_getElem? (i := 460) rfl
set_option maxRecDepth 100000 in
theorem kc_X4_tells : Cond.code (zYn kX4_tells) (zYb kX4_tells) (zYl kX4_tells) (zYr kX4_tells) ∈ lw_tbl := List.mem_of_getElem? (i := 464) rfl
set_option maxRecDepth 100000 in
theorem kc_X6_patch : Cond.code (zYn kX6_patch) (zYb kX6_patch) (zYl kX6_patch) (zYr kX6_patch) ∈ lw_tbl := List.mem_of_getElem? (i := 469) rfl
set_option maxRecDepth 100000 in
theorem kc_X6_letter : Cond.code (zYn kX6_letter) (zYb kX6_letter) (zYl kX6_letter) (zYr kX6_letter) ∈ lw_tbl := List.mem_of_getElem? (i := 473) rfl
set_option maxRecDepth 100000 in
theorem kc_X6_reading : Cond.code (zYn kX6_reading) (zYb kX6_reading) (zYl kX6_reading) (zYr kX6_reading) ∈ lw_tbl := List.mem_of_getElem? (i := 478) rfl
set_option maxRecDepth 100000 in
theorem kc_X3_letterAt : Cond.code (zYn kX3_letterAt) (zYb kX3_letterAt) (zYl kX3_letterAt) (zYr kX3_letterAt) ∈ lw_tbl := List.mem_of_getElem? (i := 482) rfl
set_option maxRecDepth 100000 in
theorem kc_X6_find : Cond.code (zYn kX6_find) (zYb kX6_find) (zYl kX6_find) (zYr kX6_find) ∈ lw_tbl := List.mem_of_getElem? (i := 486) rfl
set_option maxRecDepth 100000 in
theorem kc_X2_isWord : Cond.code (zYn kX2_isWord) (zYb kX2_isWord) (zYl kX2_isWord) (zYr kX2_isWord) ∈ lw_tbl := List.mem_of_getElem? (i := 490) rfl
set_option maxRecDepth 100000 in
theorem kc_X6_findWord : Cond.code (zYn kX6_findWord) (zYb kX6_findWord) (zYl kX6_findWord) (zYr kX6_findWord) ∈ lw_tbl := List.mem_of_getElem? (i := 494) rfl
set_option maxRecDepth 100000 in
theorem kc_X2_placeIn : Cond.code (zYn kX2_placeIn) (zYb kX2_placeIn) (zYl kX2_placeIn) (zYr kX2_placeIn) ∈ lw_tbl := List.mem_of_getElem? (i := 498) rfl
set_option maxRecDepth 100000 in
theorem kc_X2_standsAt : Cond.code (zYn kX2_standsAt) (zYb kX2_standsAt) (zYl kX2_standsAt) (zYr kX2_standsAt) ∈ lw_tbl := List.mem_of_getElem? (i := 502) rfl
set_option maxRecDepth 100000 in
theorem kc_X6_shared : Cond.code (zYn kX6_shared) (zYb kX6_shared) (zYl kX6_shared) (zYr kX6_shared) ∈ lw_tbl := List.mem_of_getElem? (i := 506) rfl
set_option maxRecDepth 100000 in
theorem kc_X6_compare : Cond.code (zYn kX6_compare) (zYb kX6_compare) (zYl kX6_compare) (zYr kX6_compare) ∈ lw_tbl := List.mem_of_getElem? (i := 510) rfl
set_option maxRecDepth 100000 in
theorem kc_X6_count : Cond.code (zYn kX6_count) (zYb kX6_count) (zYl kX6_count) (zYr kX6_count) ∈ lw_tbl := List.mem_of_getElem? (i := 514) rfl
set_option maxRecDepth 100000 in
theorem kc_X5_patchesOfAll : Cond.code (zYn kX5_patchesOfAll) (zYb kX5_patchesOfAll) (zYl kX5_patchesOfAll) (zYr kX5_patchesOfAll) ∈ lw_tbl := List.mem_of_getElem? (i := 518) rfl
set_option maxRecDepth 100000 in
theorem kc_X5_lettersOfAll : Cond.code (zYn kX5_lettersOfAll) (zYb kX5_lettersOfAll) (zYl kX5_lettersOfAll) (zYr kX5_lettersOfAll) ∈ lw_tbl := List.mem_of_getElem? (i := 522) rfl
set_option maxRecDepth 100000 in
theorem kc_X6_readingsOfAll : Cond.code (zYn kX6_readingsOfAll) (zYb kX6_readingsOfAll) (zYl kX6_readingsOfAll) (zYr kX6_readingsOfAll) ∈ lw_tbl := List.mem_of_getElem? (i := 527) rfl
set_option maxRecDepth 100000 in
theorem kc_X6_readingsNotToldBefore : Cond.code (zYn kX6_readingsNotToldBefore) (zYb kX6_readingsNotToldBefore) (zYl kX6_readingsNotToldBefore) (zYr kX6_readingsNotToldBefore) ∈ lw_tbl := List.mem_of_getElem? (i := 531) rfl
set_option maxRecDepth 100000 in
theorem kc_X5_tellsBefore : Cond.code (zYn kX5_tellsBefore) (zYb kX5_tellsBefore) (zYl kX5_tellsBefore) (zYr kX5_tellsBefore) ∈ lw_tbl := List.mem_of_getElem? (i := 535) rfl
set_option maxRecDepth 100000 in
theorem kc_X6_pairsOfTheSame : Cond.code (zYn kX6_pairsOfTheSame) (zYb kX6_pairsOfTheSame) (zYl kX6_pairsOfTheSame) (zYr kX6_pairsOfTheSame) ∈ lw_tbl := List.mem_of_getElem? (i := 540) rfl
set_option maxRecDepth 100000 in
theorem kc_X6_ifCut : Cond.code (zYn kX6_ifCut) (zYb kX6_ifCut) (zYl kX6_ifCut) (zYr kX6_ifCut) ∈ lw_tbl := List.mem_of_getElem? (i := 544) rfl
set_option maxRecDepth 100000 in
theorem kc_X6_readingsWithCut : Cond.code (zYn kX6_readingsWithCut) (zYb kX6_readingsWithCut) (zYl kX6_readingsWithCut) (zYr kX6_readingsWithCut) ∈ lw_tbl := List.mem_of_getElem? (i := 548) rfl
set_option maxRecDepth 100000 in
theorem kc_X6_bestCut : Cond.code (zYn kX6_bestCut) (zYb kX6_bestCut) (zYl kX6_bestCut) (zYr kX6_bestCut) ∈ lw_tbl := List.mem_of_getElem? (i := 552) rfl
set_option maxRecDepth 100000 in
theorem kc_X6_put : Cond.code (zYn kX6_put) (zYb kX6_put) (zYl kX6_put) (zYr kX6_put) ∈ lw_tbl := List.mem_of_getElem? (i := 556) rfl
set_option maxRecDepth 100000 in
theorem kc_X6_charactersIn : Cond.code (zYn kX6_charactersIn) (zYb kX6_charactersIn) (zYl kX6_charactersIn) (zYr kX6_charactersIn) ∈ lw_tbl := List.mem_of_getElem? (i := 559) rfl
set_option maxRecDepth 100000 in
theorem kc_X6_codeIn : Cond.code (zYn kX6_codeIn) (zYb kX6_codeIn) (zYl kX6_codeIn) (zYr kX6_codeIn) ∈ lw_tbl := List.mem_of_getElem? (i := 562) rfl
set_option maxRecDepth 100000 in
theorem kc_X2_append : Cond.code (zYn kX2_append) (zYb kX2_append) (zYl kX2_append) (zYr kX2_append) ∈ lw_tbl := List.mem_of_getElem? (i := 567) rfl
set_option maxRecDepth 100000 in
theorem kc_X6_wipe : Cond.code (zYn kX6_wipe) (zYb kX6_wipe) (zYl kX6_wipe) (zYr kX6_wipe) ∈ lw_tbl := List.mem_of_getElem? (i := 571) rfl
set_option maxRecDepth 100000 in
theorem kc_X6_fault : Cond.code (zYn kX6_fault) (zYb kX6_fault) (zYl kX6_fault) (zYr kX6_fault) ∈ lw_tbl := List.mem_of_getElem? (i := 575) rfl
set_option maxRecDepth 100000 in
theorem kc_X6_undo : Cond.code (zYn kX6_undo) (zYb kX6_undo) (zYl kX6_undo) (zYr kX6_undo) ∈ lw_tbl := List.mem_of_getElem? (i := 579) rfl
set_option maxRecDepth 100000 in
theorem kc_X1_takeBack : Cond.code (zYn kX1_takeBack) (zYb kX1_takeBack) (zYl kX1_takeBack) (zYr kX1_takeBack) ∈ lw_tbl := List.mem_of_getElem? (i := 583) rfl
set_option maxRecDepth 100000 in
theorem kc_X6_save : Cond.code (zYn kX6_save) (zYb kX6_save) (zYl kX6_save) (zYr kX6_save) ∈ lw_tbl := List.mem_of_getElem? (i := 587) rfl
set_option maxRecDepth 100000 in
theorem kc_X6_restore : Cond.code (zYn kX6_restore) (zYb kX6_restore) (zYl kX6_restore) (zYr kX6_restore) ∈ lw_tbl := List.mem_of_getElem? (i := 592) rfl
set_option maxRecDepth 100000 in
theorem kc_X7_init : Cond.code (zYn kX7_init) (zYb kX7_init) (zYl kX7_init) (zYr kX7_init) ∈ lw_tbl := List.mem_of_getElem? (i := 597) rfl
set_option maxRecDepth 100000 in
theorem kc_X7_sew : Cond.code (zYn kX7_sew) (zYb kX7_sew) (zYl kX7_sew) (zYr kX7_sew) ∈ lw_tbl := List.mem_of_getElem? (i := 660) rfl
set_option maxRecDepth 100000 in
theorem kc_X7_findFault : Cond.code (zYn kX7_findFault) (zYb kX7_findFault) (zYl kX7_findFault) (zYr kX7_findFault) ∈ lw_tbl := List.mem_of_getElem? (i := 664) rfl
set_option maxRecDepth 100000 in
theorem kc_X7_within : Cond.code (zYn kX7_within) (zYb kX7_within) (zYl kX7_within) (zYr kX7_within) ∈ lw_tbl := List.mem_of_getElem? (i := 667) rfl
set_option maxRecDepth 100000 in
theorem kc_X7_toldMany : Cond.code (zYn kX7_toldMany) (zYb kX7_toldMany) (zYl kX7_toldMany) (zYr kX7_toldMany) ∈ lw_tbl := List.mem_of_getElem? (i := 671) rfl
set_option maxRecDepth 100000 in
theorem kc_X7_record : Cond.code (zYn kX7_record) (zYb kX7_record) (zYl kX7_record) (zYr kX7_record) ∈ lw_tbl := List.mem_of_getElem? (i := 675) rfl
set_option maxRecDepth 100000 in
theorem kc_X7_moves : Cond.code (zYn kX7_moves) (zYb kX7_moves) (zYl kX7_moves) (zYr kX7_moves) ∈ lw_tbl := List.mem_of_getElem? (i := 678) rfl
set_option maxRecDepth 100000 in
theorem kc_X7_readScroll : Cond.code (zYn kX7_readScroll) (zYb kX7_readScroll) (zYl kX7_readScroll) (zYr kX7_readScroll) ∈ lw_tbl := List.mem_of_getElem? (i := 682) rfl
set_option maxRecDepth 100000 in
theorem kc_X7_give : Cond.code (zYn kX7_give) (zYb kX7_give) (zYl kX7_give) (zYr kX7_give) ∈ lw_tbl := List.mem_of_getElem? (i := 686) rfl
set_option maxRecDepth 100000 in
theorem kc_X7_burn : Cond.code (zYn kX7_burn) (zYb kX7_burn) (zYl kX7_burn) (zYr kX7_burn) ∈ lw_tbl := List.mem_of_getElem? (i := 690) rfl
set_option maxRecDepth 100000 in
theorem kc_X7_isScroll : Cond.code (zYn kX7_isScroll) (zYb kX7_isScroll) (zYl kX7_isScroll) (zYr kX7_isScroll) ∈ lw_tbl := List.mem_of_getElem? (i := 694) rfl
set_option maxRecDepth 100000 in
theorem kc_X7_lettersOf : Cond.code (zYn kX7_lettersOf) (zYb kX7_lettersOf) (zYl kX7_lettersOf) (zYr kX7_lettersOf) ∈ lw_tbl := List.mem_of_getElem? (i := 698) rfl
set_option maxRecDepth 100000 in
theorem kc_X7_part : Cond.code (zYn kX7_part) (zYb kX7_part) (zYl kX7_part) (zYr kX7_part) ∈ lw_tbl := List.mem_of_getElem? (i := 702) rfl
set_option maxRecDepth 100000 in
theorem kc_X7_goes : Cond.code (zYn kX7_goes) (zYb kX7_goes) (zYl kX7_goes) (zYr kX7_goes) ∈ lw_tbl := List.mem_of_getElem? (i := 706) rfl
set_option maxRecDepth 100000 in
theorem kc_X7_cut : Cond.code (zYn kX7_cut) (zYb kX7_cut) (zYl kX7_cut) (zYr kX7_cut) ∈ lw_tbl := List.mem_of_getElem? (i := 710) rfl
set_option maxRecDepth 100000 in
theorem kc_X7_isPatch : Cond.code (zYn kX7_isPatch) (zYb kX7_isPatch) (zYl kX7_isPatch) (zYr kX7_isPatch) ∈ lw_tbl := List.mem_of_getElem? (i := 714) rfl
set_option maxRecDepth 100000 in
theorem kc_X7_sizeOf : Cond.code (zYn kX7_sizeOf) (zYb kX7_sizeOf) (zYl kX7_sizeOf) (zYr kX7_sizeOf) ∈ lw_tbl := List.mem_of_getElem? (i := 718) rfl
set_option maxRecDepth 100000 in
theorem kc_X7_take : Cond.code (zYn kX7_take) (zYb kX7_take) (zYl kX7_take) (zYr kX7_take) ∈ lw_tbl := List.mem_of_getElem? (i := 722) rfl
set_option maxRecDepth 100000 in
theorem kc_X7_cutNow : Cond.code (zYn kX7_cutNow) (zYb kX7_cutNow) (zYl kX7_cutNow) (zYr kX7_cutNow) ∈ lw_tbl := List.mem_of_getElem? (i := 726) rfl
set_option maxRecDepth 100000 in
theorem kc_X7_undoSeam : Cond.code (zYn kX7_undoSeam) (zYb kX7_undoSeam) (zYl kX7_undoSeam) (zYr kX7_undoSeam) ∈ lw_tbl := List.mem_of_getElem? (i := 730) rfl
set_option maxRecDepth 100000 in
theorem kc_X7_isSeam : Cond.code (zYn kX7_isSeam) (zYb kX7_isSeam) (zYl kX7_isSeam) (zYr kX7_isSeam) ∈ lw_tbl := List.mem_of_getElem? (i := 734) rfl
set_option maxRecDepth 100000 in
theorem kc_X7_undoNow : Cond.code (zYn kX7_undoNow) (zYb kX7_undoNow) (zYl kX7_undoNow) (zYr kX7_undoNow) ∈ lw_tbl := List.mem_of_getElem? (i := 738) rfl
set_option maxRecDepth 100000 in
theorem kc_X7_turn : Cond.code (zYn kX7_turn) (zYb kX7_turn) (zYl kX7_turn) (zYr kX7_turn) ∈ lw_tbl := List.mem_of_getElem? (i := 742) rfl
set_option maxRecDepth 100000 in
theorem kc_X7_exchange : Cond.code (zYn kX7_exchange) (zYb kX7_exchange) (zYl kX7_exchange) (zYr kX7_exchange) ∈ lw_tbl := List.mem_of_getElem? (i := 746) rfl
set_option maxRecDepth 100000 in
theorem kc_X7_search : Cond.code (zYn kX7_search) (zYb kX7_search) (zYl kX7_search) (zYr kX7_search) ∈ lw_tbl := List.mem_of_getElem? (i := 750) rfl
set_option maxRecDepth 100000 in
theorem kc_X7_layDown : Cond.code (zYn kX7_layDown) (zYb kX7_layDown) (zYl kX7_layDown) (zYr kX7_layDown) ∈ lw_tbl := List.mem_of_getElem? (i := 754) rfl
set_option maxRecDepth 100000 in
theorem kc_X7_takeIn : Cond.code (zYn kX7_takeIn) (zYb kX7_takeIn) (zYl kX7_takeIn) (zYr kX7_takeIn) ∈ lw_tbl := List.mem_of_getElem? (i := 758) rfl
set_option maxRecDepth 100000 in
theorem kc_X7_compared : Cond.code (zYn kX7_compared) (zYb kX7_compared) (zYl kX7_compared) (zYr kX7_compared) ∈ lw_tbl := List.mem_of_getElem? (i := 761) rfl
set_option maxRecDepth 100000 in
theorem kc_X7_join : Cond.code (zYn kX7_join) (zYb kX7_join) (zYl kX7_join) (zYr kX7_join) ∈ lw_tbl := List.mem_of_getElem? (i := 765) rfl
set_option maxRecDepth 100000 in
theorem kc_X7_scroll : Cond.code (zYn kX7_scroll) (zYb kX7_scroll) (zYl kX7_scroll) (zYr kX7_scroll) ∈ lw_tbl := List.mem_of_getElem? (i := 769) rfl
set_option maxRecDepth 100000 in
theorem kc_X7_findOf : Cond.code (zYn kX7_findOf) (zYb kX7_findOf) (zYl kX7_findOf) (zYr kX7_findOf) ∈ lw_tbl := List.mem_of_getElem? (i := 773) rfl
set_option maxRecDepth 100000 in
theorem kc_X7_sameBothWays : Cond.code (zYn kX7_sameBothWays) (zYb kX7_sameBothWays) (zYl kX7_sameBothWays) (zYr kX7_sameBothWays) ∈ lw_tbl := List.mem_of_getElem? (i := 777) rfl
set_option maxRecDepth 100000 in
theorem kc_X7_sameFromEnds : Cond.code (zYn kX7_sameFromEnds) (zYb kX7_sameFromEnds) (zYl kX7_sameFromEnds) (zYr kX7_sameFromEnds) ∈ lw_tbl := List.mem_of_getElem? (i := 781) rfl
set_option maxRecDepth 100000 in
theorem kc_X7_letterOf : Cond.code (zYn kX7_letterOf) (zYb kX7_letterOf) (zYl kX7_letterOf) (zYr kX7_letterOf) ∈ lw_tbl := List.mem_of_getElem? (i := 785) rfl
set_option maxRecDepth 100000 in
theorem kc_X7_needlessSeams : Cond.code (zYn kX7_needlessSeams) (zYb kX7_needlessSeams) (zYl kX7_needlessSeams) (zYr kX7_needlessSeams) ∈ lw_tbl := List.mem_of_getElem? (i := 789) rfl
set_option maxRecDepth 100000 in
theorem kc_X7_keepOther : Cond.code (zYn kX7_keepOther) (zYb kX7_keepOther) (zYl kX7_keepOther) (zYr kX7_keepOther) ∈ lw_tbl := List.mem_of_getElem? (i := 793) rfl
set_option maxRecDepth 100000 in
theorem kc_X7_meet : Cond.code (zYn kX7_meet) (zYb kX7_meet) (zYl kX7_meet) (zYr kX7_meet) ∈ lw_tbl := List.mem_of_getElem? (i := 797) rfl
set_option maxRecDepth 100000 in
theorem kc_X7_patch : Cond.code (zYn kX7_patch) (zYb kX7_patch) (zYl kX7_patch) (zYr kX7_patch) ∈ lw_tbl := List.mem_of_getElem? (i := 801) rfl
set_option maxRecDepth 100000 in
theorem kc_X7_letter : Cond.code (zYn kX7_letter) (zYb kX7_letter) (zYl kX7_letter) (zYr kX7_letter) ∈ lw_tbl := List.mem_of_getElem? (i := 805) rfl
set_option maxRecDepth 100000 in
theorem kc_X7_reading : Cond.code (zYn kX7_reading) (zYb kX7_reading) (zYl kX7_reading) (zYr kX7_reading) ∈ lw_tbl := List.mem_of_getElem? (i := 809) rfl
set_option maxRecDepth 100000 in
theorem kc_X7_find : Cond.code (zYn kX7_find) (zYb kX7_find) (zYl kX7_find) (zYr kX7_find) ∈ lw_tbl := List.mem_of_getElem? (i := 813) rfl
set_option maxRecDepth 100000 in
theorem kc_X7_isWord : Cond.code (zYn kX7_isWord) (zYb kX7_isWord) (zYl kX7_isWord) (zYr kX7_isWord) ∈ lw_tbl := List.mem_of_getElem? (i := 817) rfl
set_option maxRecDepth 100000 in
theorem kc_X7_placeIn : Cond.code (zYn kX7_placeIn) (zYb kX7_placeIn) (zYl kX7_placeIn) (zYr kX7_placeIn) ∈ lw_tbl := List.mem_of_getElem? (i := 821) rfl
set_option maxRecDepth 100000 in
theorem kc_X7_shared : Cond.code (zYn kX7_shared) (zYb kX7_shared) (zYl kX7_shared) (zYr kX7_shared) ∈ lw_tbl := List.mem_of_getElem? (i := 825) rfl
set_option maxRecDepth 100000 in
theorem kc_X7_sharedBy : Cond.code (zYn kX7_sharedBy) (zYb kX7_sharedBy) (zYl kX7_sharedBy) (zYr kX7_sharedBy) ∈ lw_tbl := List.mem_of_getElem? (i := 829) rfl
set_option maxRecDepth 100000 in
theorem kc_X7_compare : Cond.code (zYn kX7_compare) (zYb kX7_compare) (zYl kX7_compare) (zYr kX7_compare) ∈ lw_tbl := List.mem_of_getElem? (i := 833) rfl
set_option maxRecDepth 100000 in
theorem kc_X7_howTheyStand : Cond.code (zYn kX7_howTheyStand) (zYb kX7_howTheyStand) (zYl kX7_howTheyStand) (zYr kX7_howTheyStand) ∈ lw_tbl := List.mem_of_getElem? (i := 837) rfl
set_option maxRecDepth 100000 in
theorem kc_X7_count : Cond.code (zYn kX7_count) (zYb kX7_count) (zYl kX7_count) (zYr kX7_count) ∈ lw_tbl := List.mem_of_getElem? (i := 841) rfl
set_option maxRecDepth 100000 in
theorem kc_X7_allPatches : Cond.code (zYn kX7_allPatches) (zYb kX7_allPatches) (zYl kX7_allPatches) (zYr kX7_allPatches) ∈ lw_tbl := List.mem_of_getElem? (i := 845) rfl
set_option maxRecDepth 100000 in
theorem kc_X7_allLetters : Cond.code (zYn kX7_allLetters) (zYb kX7_allLetters) (zYl kX7_allLetters) (zYr kX7_allLetters) ∈ lw_tbl := List.mem_of_getElem? (i := 849) rfl
set_option maxRecDepth 100000 in
theorem kc_X7_allReadings : Cond.code (zYn kX7_allReadings) (zYb kX7_allReadings) (zYl kX7_allReadings) (zYr kX7_allReadings) ∈ lw_tbl := List.mem_of_getElem? (i := 853) rfl
set_option maxRecDepth 100000 in
theorem kc_X7_samePairs : Cond.code (zYn kX7_samePairs) (zYb kX7_samePairs) (zYl kX7_samePairs) (zYr kX7_samePairs) ∈ lw_tbl := List.mem_of_getElem? (i := 857) rfl
set_option maxRecDepth 100000 in
theorem kc_X7_ifCut : Cond.code (zYn kX7_ifCut) (zYb kX7_ifCut) (zYl kX7_ifCut) (zYr kX7_ifCut) ∈ lw_tbl := List.mem_of_getElem? (i := 861) rfl
set_option maxRecDepth 100000 in
theorem kc_X7_readingsIfCut : Cond.code (zYn kX7_readingsIfCut) (zYb kX7_readingsIfCut) (zYl kX7_readingsIfCut) (zYr kX7_readingsIfCut) ∈ lw_tbl := List.mem_of_getElem? (i := 865) rfl
set_option maxRecDepth 100000 in
theorem kc_X7_bestCut : Cond.code (zYn kX7_bestCut) (zYb kX7_bestCut) (zYl kX7_bestCut) (zYr kX7_bestCut) ∈ lw_tbl := List.mem_of_getElem? (i := 869) rfl
set_option maxRecDepth 100000 in
theorem kc_X7_put : Cond.code (zYn kX7_put) (zYb kX7_put) (zYl kX7_put) (zYr kX7_put) ∈ lw_tbl := List.mem_of_getElem? (i := 873) rfl
set_option maxRecDepth 100000 in
theorem kc_X7_wipe : Cond.code (zYn kX7_wipe) (zYb kX7_wipe) (zYl kX7_wipe) (zYr kX7_wipe) ∈ lw_tbl := List.mem_of_getElem? (i := 878) rfl
set_option maxRecDepth 100000 in
theorem kc_X7_fault : Cond.code (zYn kX7_fault) (zYb kX7_fault) (zYl kX7_fault) (zYr kX7_fault) ∈ lw_tbl := List.mem_of_getElem? (i := 882) rfl
set_option maxRecDepth 100000 in
theorem kc_X7_undo : Cond.code (zYn kX7_undo) (zYb kX7_undo) (zYl kX7_undo) (zYr kX7_undo) ∈ lw_tbl := List.mem_of_getElem? (i := 886) rfl
set_option maxRecDepth 100000 in
theorem kc_X7_save : Cond.code (zYn kX7_save) (zYb kX7_save) (zYl kX7_save) (zYr kX7_save) ∈ lw_tbl := List.mem_of_getElem? (i := 890) rfl
set_option maxRecDepth 100000 in
theorem kc_X7_restore : Cond.code (zYn kX7_restore) (zYb kX7_restore) (zYl kX7_restore) (zYr kX7_restore) ∈ lw_tbl := List.mem_of_getElem? (i := 894) rfl
def zKs0 : List zY := [kX6_init, kX5_init, kX4_init, kX2_init, kX1_init, kX3_init, kX0_init, kX6_sew, kX2_firstFault, kX2_codeAt, kX6_isLetter, kX2_scrollsOfText, kX1_record, kX1_dropOldest, kX5_copyFrom, kX5_at, kX4_copyFrom, kX6_sewText, kX5_addScroll, kX4_startAnew]
theorem zKs0_ok : ∀ k ∈ zKs0, Cond.code (zYn k) (zYb k) (zYl k) (zYr k) ∈ lw_tbl := List.forall_mem_cons.mpr ⟨kc_X6_init, List.forall_mem_cons.mpr ⟨kc_X5_init, List.forall_mem_cons.mpr ⟨kc_X4_init, List.forall_mem_cons.mpr ⟨kc_X2_init, List.forall_mem_cons.mpr ⟨kc_X1_init, List.forall_mem_cons.mpr ⟨kc_X3_init, List.forall_mem_cons.mpr ⟨kc_X0_init, List.forall_mem_cons.mpr ⟨kc_X6_sew, List.forall_mem_cons.mpr ⟨kc_X2_firstFault, List.forall_mem_cons.mpr ⟨kc_X2_codeAt, List.forall_mem_cons.mpr ⟨kc_X6_isLetter, List.forall_mem_cons.mpr ⟨kc_X2_scrollsOfText, List.forall_mem_cons.mpr ⟨kc_X1_record, List.forall_mem_cons.mpr ⟨kc_X1_dropOldest, List.forall_mem_cons.mpr ⟨kc_X5_copyFrom, List.forall_mem_cons.mpr ⟨kc_X5_at, List.forall_mem_cons.mpr ⟨kc_X4_copyFrom, List.forall_mem_cons.mpr ⟨kc_X6_sewText, List.forall_mem_cons.mpr ⟨kc_X5_addScroll, List.forall_mem_cons.mpr ⟨kc_X4_startAnew, fun _ h => absurd h List.not_mem_nil⟩⟩⟩⟩⟩⟩⟩⟩⟩⟩⟩⟩⟩⟩⟩⟩⟩⟩⟩⟩
def zKs1 : List zY := [kX4_addPatch, kX4_length, kX4_startOf, kX4_addLetter, kX2_empty, kX6_burn, kX5_remove, kX6_cut, kX4_hasPatch, kX4_canBeCut, kX4_sizeOf, kX4_endOf, kX4_split, kX6_undoSeam, kX4_hasSeam, kX4_merge, kX6_turn, kX4_unlikeTurned, kX4_letterAt, kX4_turnRound]
theorem zKs1_ok : ∀ k ∈ zKs1, Cond.code (zYn k) (zYb k) (zYl k) (zYr k) ∈ lw_tbl := List.forall_mem_cons.mpr ⟨kc_X4_addPatch, List.forall_mem_cons.mpr ⟨kc_X4_length, List.forall_mem_cons.mpr ⟨kc_X4_startOf, List.forall_mem_cons.mpr ⟨kc_X4_addLetter, List.forall_mem_cons.mpr ⟨kc_X2_empty, List.forall_mem_cons.mpr ⟨kc_X6_burn, List.forall_mem_cons.mpr ⟨kc_X5_remove, List.forall_mem_cons.mpr ⟨kc_X6_cut, List.forall_mem_cons.mpr ⟨kc_X4_hasPatch, List.forall_mem_cons.mpr ⟨kc_X4_canBeCut, List.forall_mem_cons.mpr ⟨kc_X4_sizeOf, List.forall_mem_cons.mpr ⟨kc_X4_endOf, List.forall_mem_cons.mpr ⟨kc_X4_split, List.forall_mem_cons.mpr ⟨kc_X6_undoSeam, List.forall_mem_cons.mpr ⟨kc_X4_hasSeam, List.forall_mem_cons.mpr ⟨kc_X4_merge, List.forall_mem_cons.mpr ⟨kc_X6_turn, List.forall_mem_cons.mpr ⟨kc_X4_unlikeTurned, List.forall_mem_cons.mpr ⟨kc_X4_letterAt, List.forall_mem_cons.mpr ⟨kc_X4_turnRound, fun _ h => absurd h List.not_mem_nil⟩⟩⟩⟩⟩⟩⟩⟩⟩⟩⟩⟩⟩⟩⟩⟩⟩⟩⟩⟩
def zKs2 : List zY := [kX6_turnPart, kX6_exchange, kX4_swapBeside, kX6_readingsOf, kX4_waysFromFirst, kX4_isEven, kX6_orderTurned, kX6_toldFromBothEnds, kX4_lay, kX4_beginsWith, kX4_standsAt, kX6_join, kX4_sewOn, kX6_scroll, kX4_evenPatches, kX6_evenReadings, kX3_begin, kX0_begin, kX0_addDigit, kX3_next]
theorem zKs2_ok : ∀ k ∈ zKs2, Cond.code (zYn k) (zYb k) (zYl k) (zYr k) ∈ lw_tbl := List.forall_mem_cons.mpr ⟨kc_X6_turnPart, List.forall_mem_cons.mpr ⟨kc_X6_exchange, List.forall_mem_cons.mpr ⟨kc_X4_swapBeside, List.forall_mem_cons.mpr ⟨kc_X6_readingsOf, List.forall_mem_cons.mpr ⟨kc_X4_waysFromFirst, List.forall_mem_cons.mpr ⟨kc_X4_isEven, List.forall_mem_cons.mpr ⟨kc_X6_orderTurned, List.forall_mem_cons.mpr ⟨kc_X6_toldFromBothEnds, List.forall_mem_cons.mpr ⟨kc_X4_lay, List.forall_mem_cons.mpr ⟨kc_X4_beginsWith, List.forall_mem_cons.mpr ⟨kc_X4_standsAt, List.forall_mem_cons.mpr ⟨kc_X6_join, List.forall_mem_cons.mpr ⟨kc_X4_sewOn, List.forall_mem_cons.mpr ⟨kc_X6_scroll, List.forall_mem_cons.mpr ⟨kc_X4_evenPatches, List.forall_mem_cons.mpr ⟨kc_X6_evenReadings, List.forall_mem_cons.mpr ⟨kc_X3_begin, List.forall_mem_cons.mpr ⟨kc_X0_begin, List.forall_mem_cons.mpr ⟨kc_X0_addDigit, List.forall_mem_cons.mpr ⟨kc_X3_next, fun _ h => absurd h List.not_mem_nil⟩⟩⟩⟩⟩⟩⟩⟩⟩⟩⟩⟩⟩⟩⟩⟩⟩⟩⟩⟩
def zKs3 : List zY := [kX0_isOver, kX3_orderOfEnds, kX0_step, kX6_idleSeams, kX6_tellTheSame, kX6_readingsOfBoth, kX4_tells, kX6_patch, kX6_letter, kX6_reading, kX3_letterAt, kX6_find, kX2_isWord, kX6_findWord, kX2_placeIn, kX2_standsAt, kX6_shared, kX6_compare, kX6_count, kX5_patchesOfAll]
theorem zKs3_ok : ∀ k ∈ zKs3, Cond.code (zYn k) (zYb k) (zYl k) (zYr k) ∈ lw_tbl := List.forall_mem_cons.mpr ⟨kc_X0_isOver, List.forall_mem_cons.mpr ⟨kc_X3_orderOfEnds, List.forall_mem_cons.mpr ⟨kc_X0_step, List.forall_mem_cons.mpr ⟨kc_X6_idleSeams, List.forall_mem_cons.mpr ⟨kc_X6_tellTheSame, List.forall_mem_cons.mpr ⟨kc_X6_readingsOfBoth, List.forall_mem_cons.mpr ⟨kc_X4_tells, List.forall_mem_cons.mpr ⟨kc_X6_patch, List.forall_mem_cons.mpr ⟨kc_X6_letter, List.forall_mem_cons.mpr ⟨kc_X6_reading, List.forall_mem_cons.mpr ⟨kc_X3_letterAt, List.forall_mem_cons.mpr ⟨kc_X6_find, List.forall_mem_cons.mpr ⟨kc_X2_isWord, List.forall_mem_cons.mpr ⟨kc_X6_findWord, List.forall_mem_cons.mpr ⟨kc_X2_placeIn, List.forall_mem_cons.mpr ⟨kc_X2_standsAt, List.forall_mem_cons.mpr ⟨kc_X6_shared, List.forall_mem_cons.mpr ⟨kc_X6_compare, List.forall_mem_cons.mpr ⟨kc_X6_count, List.forall_mem_cons.mpr ⟨kc_X5_patchesOfAll, fun _ h => absurd h List.not_mem_nil⟩⟩⟩⟩⟩⟩⟩⟩⟩⟩⟩⟩⟩⟩⟩⟩⟩⟩⟩⟩
def zKs4 : List zY := [kX5_lettersOfAll, kX6_readingsOfAll, kX6_readingsNotToldBefore, kX5_tellsBefore, kX6_pairsOfTheSame, kX6_ifCut, kX6_readingsWithCut, kX6_bestCut, kX6_put, kX6_charactersIn, kX6_codeIn, kX2_append, kX6_wipe, kX6_fault, kX6_undo, kX1_takeBack, kX6_save, kX6_restore, kX7_init, kX7_sew]
theorem zKs4_ok : ∀ k ∈ zKs4, Cond.code (zYn k) (zYb k) (zYl k) (zYr k) ∈ lw_tbl := List.forall_mem_cons.mpr ⟨kc_X5_lettersOfAll, List.forall_mem_cons.mpr ⟨kc_X6_readingsOfAll, List.forall_mem_cons.mpr ⟨kc_X6_readingsNotToldBefore, List.forall_mem_cons.mpr ⟨kc_X5_tellsBefore, List.forall_mem_cons.mpr ⟨kc_X6_pairsOfTheSame, List.forall_mem_cons.mpr ⟨kc_X6_ifCut, List.forall_mem_cons.mpr ⟨kc_X6_readingsWithCut, List.forall_mem_cons.mpr ⟨kc_X6_bestCut, List.forall_mem_cons.mpr ⟨kc_X6_put, List.forall_mem_cons.mpr ⟨kc_X6_charactersIn, List.forall_mem_cons.mpr ⟨kc_X6_codeIn, List.forall_mem_cons.mpr ⟨kc_X2_append, List.forall_mem_cons.mpr ⟨kc_X6_wipe, List.forall_mem_cons.mpr ⟨kc_X6_fault, List.forall_mem_cons.mpr ⟨kc_X6_undo, List.forall_mem_cons.mpr ⟨kc_X1_takeBack, List.forall_mem_cons.mpr ⟨kc_X6_save, List.forall_mem_cons.mpr ⟨kc_X6_restore, List.forall_mem_cons.mpr ⟨kc_X7_init, List.forall_mem_cons.mpr ⟨kc_X7_sew, fun _ h => absurd h List.not_mem_nil⟩⟩⟩⟩⟩⟩⟩⟩⟩⟩⟩⟩⟩⟩⟩⟩⟩⟩⟩⟩
def zKs5 : List zY := [kX7_findFault, kX7_within, kX7_toldMany, kX7_record, kX7_moves, kX7_readScroll, kX7_give, kX7_burn, kX7_isScroll, kX7_lettersOf, kX7_part, kX7_goes, kX7_cut, kX7_isPatch, kX7_sizeOf, kX7_take, kX7_cutNow, kX7_undoSeam, kX7_isSeam, kX7_undoNow]
theorem zKs5_ok : ∀ k ∈ zKs5, Cond.code (zYn k) (zYb k) (zYl k) (zYr k) ∈ lw_tbl := List.forall_mem_cons.mpr ⟨kc_X7_findFault, List.forall_mem_cons.mpr ⟨kc_X7_within, List.forall_mem_cons.mpr ⟨kc_X7_toldMany, List.forall_mem_cons.mpr ⟨kc_X7_record, List.forall_mem_cons.mpr ⟨kc_X7_moves, List.forall_mem_cons.mpr ⟨kc_X7_readScroll, List.forall_mem_cons.mpr ⟨kc_X7_give, List.forall_mem_cons.mpr ⟨kc_X7_burn, List.forall_mem_cons.mpr ⟨kc_X7_isScroll, List.forall_mem_cons.mpr ⟨kc_X7_lettersOf, List.forall_mem_cons.mpr ⟨kc_X7_part, List.forall_mem_cons.mpr ⟨kc_X7_goes, List.forall_mem_cons.mpr ⟨kc_X7_cut, List.forall_mem_cons.mpr ⟨kc_X7_isPatch, List.forall_mem_cons.mpr ⟨kc_X7_sizeOf, List.forall_mem_cons.mpr ⟨kc_X7_take, List.forall_mem_cons.mpr ⟨kc_X7_cutNow, List.forall_mem_cons.mpr ⟨kc_X7_undoSeam, List.forall_mem_cons.mpr ⟨kc_X7_isSeam, List.forall_mem_cons.mpr ⟨kc_X7_undoNow, fun _ h => absurd h List.not_mem_nil⟩⟩⟩⟩⟩⟩⟩⟩⟩⟩⟩⟩⟩⟩⟩⟩⟩⟩⟩⟩
def zKs6 : List zY := [kX7_turn, kX7_exchange, kX7_search, kX7_layDown, kX7_takeIn, kX7_compared, kX7_join, kX7_scroll, kX7_findOf, kX7_sameBothWays, kX7_sameFromEnds, kX7_letterOf, kX7_needlessSeams, kX7_keepOther, kX7_meet, kX7_patch, kX7_letter, kX7_reading, kX7_find, kX7_isWord]
theorem zKs6_ok : ∀ k ∈ zKs6, Cond.code (zYn k) (zYb k) (zYl k) (zYr k) ∈ lw_tbl := List.forall_mem_cons.mpr ⟨kc_X7_turn, List.forall_mem_cons.mpr ⟨kc_X7_exchange, List.forall_mem_cons.mpr ⟨kc_X7_search, List.forall_mem_cons.mpr ⟨kc_X7_layDown, List.forall_mem_cons.mpr ⟨kc_X7_takeIn, List.forall_mem_cons.mpr ⟨kc_X7_compared, List.forall_mem_cons.mpr ⟨kc_X7_join, List.forall_mem_cons.mpr ⟨kc_X7_scroll, List.forall_mem_cons.mpr ⟨kc_X7_findOf, List.forall_mem_cons.mpr ⟨kc_X7_sameBothWays, List.forall_mem_cons.mpr ⟨kc_X7_sameFromEnds, List.forall_mem_cons.mpr ⟨kc_X7_letterOf, List.forall_mem_cons.mpr ⟨kc_X7_needlessSeams, List.forall_mem_cons.mpr ⟨kc_X7_keepOther, List.forall_mem_cons.mpr ⟨kc_X7_meet, List.forall_mem_cons.mpr ⟨kc_X7_patch, List.forall_mem_cons.mpr ⟨kc_X7_letter, List.forall_mem_cons.mpr ⟨kc_X7_reading, List.forall_mem_cons.mpr ⟨kc_X7_find, List.forall_mem_cons.mpr ⟨kc_X7_isWord, fun _ h => absurd h List.not_mem_nil⟩⟩⟩⟩⟩⟩⟩⟩⟩⟩⟩⟩⟩⟩⟩⟩⟩⟩⟩⟩
def zKs7 : List zY := [kX7_placeIn, kX7_shared, kX7_sharedBy, kX7_compare, kX7_howTheyStand, kX7_count, kX7_allPatches, kX7_allLetters, kX7_allReadings, kX7_samePairs, kX7_ifCut, kX7_readingsIfCut, kX7_bestCut, kX7_put, kX7_wipe, kX7_fault, kX7_undo, kX7_save, kX7_restore]
theorem zKs7_ok : ∀ k ∈ zKs7, Cond.code (zYn k) (zYb k) (zYl k) (zYr k) ∈ lw_tbl := List.forall_mem_cons.mpr ⟨kc_X7_placeIn, List.forall_mem_cons.mpr ⟨kc_X7_shared, List.forall_mem_cons.mpr ⟨kc_X7_sharedBy, List.forall_mem_cons.mpr ⟨kc_X7_compare, List.forall_mem_cons.mpr ⟨kc_X7_howTheyStand, List.forall_mem_cons.mpr ⟨kc_X7_count, List.forall_mem_cons.mpr ⟨kc_X7_allPatches, List.forall_mem_cons.mpr ⟨kc_X7_allLetters, List.forall_mem_cons.mpr ⟨kc_X7_allReadings, List.forall_mem_cons.mpr ⟨kc_X7_samePairs, List.forall_mem_cons.mpr ⟨kc_X7_ifCut, List.forall_mem_cons.mpr ⟨kc_X7_readingsIfCut, List.forall_mem_cons.mpr ⟨kc_X7_bestCut, List.forall_mem_cons.mpr ⟨kc_X7_put, List.forall_mem_cons.mpr ⟨kc_X7_wipe, List.forall_mem_cons.mpr ⟨kc_X7_fault, List.forall_mem_cons.mpr ⟨kc_X7_undo, List.forall_mem_cons.mpr ⟨kc_X7_save, List.forall_mem_cons.mpr ⟨kc_X7_restore, fun _ h => absurd h List.not_mem_nil⟩⟩⟩⟩⟩⟩⟩⟩⟩⟩⟩⟩⟩⟩⟩⟩⟩⟩⟩
def zKs : List zY := zKs0 ++ (zKs1 ++ (zKs2 ++ (zKs3 ++ (zKs4 ++ (zKs5 ++ (zKs6 ++ (zKs7)))))))
theorem zKs_ok : ∀ k ∈ zKs, Cond.code (zYn k) (zYb k) (zYl k) (zYr k) ∈ lw_tbl := List.forall_mem_append.mpr ⟨zKs0_ok, List.forall_mem_append.mpr ⟨zKs1_ok, List.forall_mem_append.mpr ⟨zKs2_ok, List.forall_mem_append.mpr ⟨zKs3_ok, List.forall_mem_append.mpr ⟨zKs4_ok, List.forall_mem_append.mpr ⟨zKs5_ok, List.forall_mem_append.mpr ⟨zKs6_ok, zKs7_ok⟩⟩⟩⟩⟩⟩⟩
def zKey (n : Nat) : zY := zKs.getD n kX6_init
/-- calls: (own class, pool number), kind (0 virtual, 1 static, 2 constructor), nest mate, callee (its number), arguments, its cells and slots, places in the tables -/
abbrev zCE : Type := (Nat × Nat) × Nat × Nat × Nat × Nat × (Nat × Nat) × (Nat × Nat × Nat × Nat)
def zCt0 : List zCE := [((8, 9), 2, 0, 0, 0, (173, 3593), (62, 63, 0, 51)), ((6, 9), 2, 0, 1, 0, (16, 350), (70, 71, 0, 52)), ((5, 17), 2, 1, 2, 0, (2, 66), (77, 78, 0, 53)), ((6, 18), 2, 1, 3, 0, (1, 64), (105, 106, 0, 54)), ((6, 25), 2, 0, 4, 0, (103, 2118), (119, 120, 0, 55)), ((1, 17), 2, 0, 1, 0, (16, 350), (125, 71, 0, 52)), ((6, 40), 2, 1, 5, 0, (9, 214), (136, 137, 0, 56)), ((3, 11), 2, 1, 6, 0, (3, 72), (142, 143, 0, 57)), ((6, 47), 2, 1, 2, 0, (2, 66), (180, 78, 0, 53)), ((8, 13), 0, 0, 7, 0, (0, 0), (206, 207, 208, 51)), ((6, 56), 0, 0, 8, 0, (0, 0), (210, 211, 212, 54)), ((2, 19), 0, 0, 9, 1, (0, 0), (214, 215, 216, 54)), ((2, 23), 1, 1, 10, 1, (0, 0), (218, 219, 0, 51)), ((6, 64), 0, 0, 11, 0, (0, 0), (221, 222, 223, 54)), ((6, 67), 0, 0, 12, 1, (0, 0), (225, 226, 227, 55)), ((1, 22), 0, 0, 13, 0, (0, 0), (229, 231, 0, 55)), ((1, 25), 0, 0, 14, 1, (0, 0), (233, 234, 235, 52)), ((5, 22), 0, 0, 15, 1, (0, 0), (237, 238, 239, 52)), ((5, 29), 0, 0, 16, 1, (0, 0), (241, 242, 243, 53)), ((6, 71), 0, 0, 17, 0, (0, 0), (248, 250, 1, 51)), ((6, 206), 0, 0, 18, 0, (0, 0), (252, 253, 254, 52)), ((5, 26), 0, 0, 19, 0, (0, 0), (256, 257, 258, 53)), ((4, 22), 0, 0, 20, 0, (0, 0), (260, 261, 262, 53)), ((4, 25), 0, 0, 21, 0, (0, 0), (264, 265, 266, 53))]
def zCt1 : List zCE := [((4, 42), 0, 0, 22, 1, (0, 0), (268, 269, 270, 53)), ((6, 210), 0, 0, 9, 1, (0, 0), (272, 215, 216, 54)), ((6, 213), 0, 0, 20, 0, (0, 0), (273, 261, 262, 53)), ((6, 216), 0, 0, 23, 1, (0, 0), (274, 275, 276, 53)), ((6, 74), 0, 0, 24, 0, (0, 0), (278, 279, 280, 54)), ((8, 18), 0, 0, 25, 1, (0, 0), (282, 283, 284, 51)), ((6, 77), 0, 0, 15, 1, (0, 0), (286, 238, 239, 52)), ((6, 81), 0, 0, 21, 0, (0, 0), (287, 265, 266, 53)), ((6, 84), 0, 0, 26, 1, (0, 0), (288, 289, 290, 52)), ((8, 23), 0, 0, 27, 3, (0, 0), (292, 293, 294, 51)), ((6, 88), 0, 0, 28, 1, (0, 0), (296, 297, 298, 53)), ((6, 92), 0, 0, 29, 2, (0, 0), (300, 301, 302, 53)), ((4, 35), 0, 0, 30, 1, (0, 0), (304, 305, 306, 53)), ((4, 39), 0, 0, 31, 1, (0, 0), (308, 309, 310, 53)), ((6, 99), 0, 0, 32, 2, (0, 0), (312, 313, 314, 53)), ((4, 45), 0, 0, 28, 1, (0, 0), (316, 297, 298, 53)), ((8, 28), 0, 0, 33, 2, (0, 0), (317, 318, 319, 51)), ((6, 103), 0, 0, 34, 1, (0, 0), (321, 322, 323, 53)), ((6, 106), 0, 0, 30, 1, (0, 0), (325, 305, 306, 53)), ((6, 110), 0, 0, 35, 1, (0, 0), (326, 327, 328, 53)), ((4, 49), 0, 0, 34, 1, (0, 0), (330, 322, 323, 53)), ((8, 33), 0, 0, 36, 2, (0, 0), (331, 332, 333, 51)), ((6, 113), 0, 0, 37, 1, (0, 0), (335, 336, 337, 53)), ((4, 52), 0, 0, 38, 1, (0, 0), (339, 340, 341, 53))]
def zCt2 : List zCE := [((6, 116), 0, 0, 39, 1, (0, 0), (343, 344, 345, 53)), ((4, 55), 1, 1, 40, 3, (0, 0), (347, 348, 0, 51)), ((8, 37), 0, 0, 41, 2, (0, 0), (350, 351, 352, 51)), ((6, 119), 0, 0, 42, 1, (0, 0), (354, 355, 356, 53)), ((6, 122), 0, 0, 43, 1, (0, 0), (358, 360, 2, 51)), ((6, 130), 0, 0, 44, 0, (0, 0), (362, 363, 364, 53)), ((4, 67), 0, 0, 45, 1, (0, 0), (366, 367, 368, 53)), ((4, 63), 1, 1, 46, 3, (0, 0), (370, 371, 0, 51)), ((6, 219), 1, 0, 47, 3, (0, 0), (373, 374, 0, 51)), ((6, 223), 0, 0, 45, 1, (0, 0), (376, 367, 368, 53)), ((6, 142), 0, 0, 22, 1, (0, 0), (377, 269, 270, 53)), ((6, 226), 0, 0, 31, 1, (0, 0), (378, 309, 310, 53)), ((6, 229), 0, 0, 48, 5, (0, 0), (379, 380, 381, 53)), ((6, 233), 0, 0, 49, 3, (0, 0), (383, 384, 385, 53)), ((4, 74), 0, 0, 50, 6, (0, 0), (387, 389, 3, 53)), ((8, 41), 0, 0, 51, 2, (0, 0), (391, 392, 393, 51)), ((6, 126), 0, 0, 52, 1, (0, 0), (395, 396, 397, 53)), ((4, 59), 0, 0, 23, 1, (0, 0), (399, 275, 276, 53)), ((8, 45), 0, 0, 53, 2, (0, 0), (400, 401, 402, 51)), ((6, 133), 0, 0, 54, 0, (0, 0), (404, 405, 406, 53)), ((6, 136), 0, 0, 55, 1, (0, 0), (408, 410, 4, 51)), ((6, 148), 0, 0, 56, 1, (0, 0), (412, 413, 414, 56)), ((3, 25), 0, 0, 21, 0, (0, 0), (416, 265, 266, 53)), ((3, 34), 0, 0, 57, 2, (0, 0), (417, 418, 419, 57))]
def zCt3 : List zCE := [((0, 33), 0, 0, 22, 1, (0, 0), (421, 269, 270, 53)), ((0, 37), 0, 0, 31, 1, (0, 0), (422, 309, 310, 53)), ((0, 40), 0, 0, 48, 5, (0, 0), (423, 380, 381, 53)), ((0, 44), 1, 1, 46, 3, (0, 0), (424, 371, 0, 51)), ((0, 48), 1, 1, 40, 3, (0, 0), (425, 348, 0, 51)), ((0, 52), 0, 0, 58, 2, (0, 0), (426, 428, 5, 57)), ((6, 151), 0, 0, 59, 0, (0, 0), (430, 431, 432, 56)), ((3, 38), 0, 0, 60, 0, (0, 0), (434, 435, 436, 57)), ((3, 42), 0, 0, 61, 0, (0, 0), (438, 440, 6, 56)), ((3, 52), 0, 0, 62, 0, (0, 0), (443, 444, 445, 57)), ((6, 247), 1, 0, 46, 3, (0, 0), (447, 371, 0, 51)), ((6, 139), 0, 0, 63, 1, (0, 0), (448, 450, 7, 51)), ((6, 237), 0, 0, 16, 1, (0, 0), (452, 242, 243, 53)), ((6, 251), 0, 0, 64, 2, (0, 0), (453, 455, 8, 51)), ((6, 163), 0, 0, 65, 2, (0, 0), (457, 459, 9, 51)), ((6, 243), 0, 0, 66, 2, (0, 0), (461, 462, 463, 53)), ((4, 70), 0, 0, 49, 3, (0, 0), (465, 384, 385, 53)), ((8, 49), 0, 0, 67, 2, (0, 0), (466, 467, 468, 51)), ((8, 53), 0, 0, 68, 3, (0, 0), (470, 471, 472, 51)), ((6, 145), 0, 0, 38, 1, (0, 0), (474, 340, 341, 53)), ((8, 57), 0, 0, 69, 3, (0, 0), (475, 476, 477, 51)), ((6, 155), 0, 0, 70, 1, (0, 0), (479, 480, 481, 56)), ((8, 61), 0, 0, 71, 2, (0, 0), (483, 484, 485, 51)), ((6, 156), 0, 0, 72, 0, (0, 0), (487, 488, 489, 54))]
def zCt4 : List zCE := [((6, 159), 0, 0, 73, 2, (0, 0), (491, 493, 10, 51)), ((6, 255), 0, 0, 74, 2, (0, 0), (495, 496, 497, 54)), ((2, 27), 0, 0, 75, 2, (0, 0), (499, 501, 11, 54)), ((8, 65), 0, 0, 76, 2, (0, 0), (503, 504, 505, 51)), ((8, 69), 0, 0, 77, 2, (0, 0), (507, 508, 509, 51)), ((8, 73), 0, 0, 78, 1, (0, 0), (511, 512, 513, 51)), ((6, 167), 0, 0, 79, 0, (0, 0), (515, 516, 517, 52)), ((6, 170), 0, 0, 80, 0, (0, 0), (519, 520, 521, 52)), ((5, 36), 0, 0, 21, 0, (0, 0), (523, 265, 266, 53)), ((6, 173), 0, 0, 81, 0, (0, 0), (524, 526, 12, 51)), ((6, 259), 0, 0, 82, 2, (0, 0), (528, 530, 13, 51)), ((6, 262), 0, 0, 83, 3, (0, 0), (532, 533, 534, 52)), ((5, 40), 0, 0, 66, 2, (0, 0), (536, 462, 463, 53)), ((6, 176), 0, 0, 84, 0, (0, 0), (537, 539, 14, 51)), ((8, 77), 0, 0, 85, 3, (0, 0), (541, 542, 543, 51)), ((6, 182), 0, 0, 86, 3, (0, 0), (545, 547, 15, 51)), ((8, 81), 0, 0, 87, 2, (0, 0), (549, 550, 551, 51)), ((8, 87), 0, 0, 88, 1, (0, 0), (553, 554, 555, 51)), ((6, 186), 1, 0, 89, 1, (0, 0), (557, 558, 0, 51)), ((6, 190), 1, 0, 90, 2, (0, 0), (560, 561, 0, 51)), ((6, 194), 0, 0, 91, 1, (0, 0), (564, 565, 566, 54)), ((8, 92), 0, 0, 92, 0, (0, 0), (568, 569, 570, 51)), ((8, 96), 0, 0, 93, 0, (0, 0), (572, 573, 574, 51)), ((8, 100), 0, 0, 94, 0, (0, 0), (576, 577, 578, 51))]
def zCt5 : List zCE := [((6, 197), 0, 0, 95, 1, (0, 0), (580, 581, 582, 55)), ((8, 104), 0, 0, 96, 1, (0, 0), (584, 585, 586, 51)), ((6, 201), 0, 0, 14, 1, (0, 0), (588, 234, 235, 52)), ((8, 108), 0, 0, 97, 1, (0, 0), (589, 590, 591, 51)), ((8, 12), 2, 0, 98, 0, (12, 18902), (595, 596, 0, 58)), ((8, 17), 0, 0, 99, 0, (0, 0), (657, 658, 659, 58)), ((7, 112), 0, 0, 100, 0, (0, 0), (661, 663, 16, 58)), ((7, 54), 1, 0, 101, 3, (0, 0), (665, 666, 0, 58)), ((7, 115), 0, 0, 102, 0, (0, 0), (668, 670, 17, 58)), ((7, 118), 0, 0, 103, 0, (0, 0), (672, 674, 18, 58)), ((7, 50), 1, 0, 104, 4, (0, 0), (676, 677, 0, 58)), ((7, 121), 0, 0, 105, 1, (0, 0), (679, 681, 19, 58)), ((7, 125), 0, 0, 106, 1, (0, 0), (683, 685, 20, 58)), ((8, 22), 0, 0, 107, 1, (0, 0), (687, 688, 689, 58)), ((7, 58), 0, 0, 108, 1, (0, 0), (691, 693, 21, 58)), ((7, 128), 0, 0, 109, 1, (0, 0), (695, 697, 22, 58)), ((7, 62), 0, 0, 110, 2, (0, 0), (699, 701, 23, 58)), ((7, 131), 0, 0, 111, 1, (0, 0), (703, 705, 24, 58)), ((8, 27), 0, 0, 112, 3, (0, 0), (707, 708, 709, 58)), ((7, 134), 0, 0, 113, 2, (0, 0), (711, 713, 25, 58)), ((7, 138), 0, 0, 114, 2, (0, 0), (715, 717, 26, 58)), ((7, 86), 0, 0, 115, 1, (0, 0), (719, 721, 27, 58)), ((7, 141), 0, 0, 116, 2, (0, 0), (723, 725, 28, 58)), ((8, 32), 0, 0, 117, 2, (0, 0), (727, 728, 729, 58))]
def zCt6 : List zCE := [((7, 145), 0, 0, 118, 2, (0, 0), (731, 733, 29, 58)), ((7, 148), 0, 0, 119, 1, (0, 0), (735, 737, 30, 58)), ((8, 36), 0, 0, 120, 2, (0, 0), (739, 740, 741, 58)), ((8, 40), 0, 0, 121, 2, (0, 0), (743, 744, 745, 58)), ((7, 89), 0, 0, 122, 1, (0, 0), (747, 749, 31, 58)), ((7, 79), 0, 0, 123, 1, (0, 0), (751, 753, 32, 58)), ((7, 83), 0, 0, 124, 1, (0, 0), (755, 757, 33, 58)), ((7, 75), 1, 0, 125, 5, (0, 0), (759, 760, 0, 58)), ((8, 44), 0, 0, 126, 2, (0, 0), (762, 763, 764, 58)), ((8, 48), 0, 0, 127, 2, (0, 0), (766, 767, 768, 58)), ((7, 99), 0, 0, 128, 1, (0, 0), (770, 772, 34, 58)), ((7, 154), 0, 0, 129, 1, (0, 0), (774, 776, 35, 58)), ((7, 157), 0, 0, 130, 0, (0, 0), (778, 780, 36, 58)), ((7, 151), 0, 0, 131, 2, (0, 0), (782, 784, 37, 58)), ((7, 160), 0, 0, 132, 1, (0, 0), (786, 788, 38, 58)), ((7, 102), 0, 0, 133, 0, (0, 0), (790, 792, 39, 58)), ((7, 105), 0, 0, 134, 0, (0, 0), (794, 796, 40, 58)), ((8, 52), 0, 0, 135, 2, (0, 0), (798, 799, 800, 58)), ((8, 56), 0, 0, 136, 3, (0, 0), (802, 803, 804, 58)), ((8, 60), 0, 0, 137, 3, (0, 0), (806, 807, 808, 58)), ((8, 64), 0, 0, 138, 2, (0, 0), (810, 811, 812, 58)), ((7, 163), 0, 0, 139, 0, (0, 0), (814, 816, 41, 58)), ((7, 167), 0, 0, 140, 1, (0, 0), (818, 820, 42, 58)), ((8, 68), 0, 0, 141, 2, (0, 0), (822, 823, 824, 58))]
def zCt7 : List zCE := [((7, 170), 0, 0, 142, 2, (0, 0), (826, 828, 43, 58)), ((8, 72), 0, 0, 143, 2, (0, 0), (830, 831, 832, 58)), ((7, 173), 0, 0, 144, 2, (0, 0), (834, 836, 44, 58)), ((8, 76), 0, 0, 145, 1, (0, 0), (838, 839, 840, 58)), ((7, 176), 0, 0, 146, 0, (0, 0), (842, 844, 45, 58)), ((7, 179), 0, 0, 147, 0, (0, 0), (846, 848, 46, 58)), ((7, 182), 0, 0, 148, 0, (0, 0), (850, 852, 47, 58)), ((7, 185), 0, 0, 149, 0, (0, 0), (854, 856, 48, 58)), ((8, 80), 0, 0, 150, 3, (0, 0), (858, 859, 860, 58)), ((7, 188), 0, 0, 151, 3, (0, 0), (862, 864, 49, 58)), ((8, 84), 0, 0, 152, 2, (0, 0), (866, 867, 868, 58)), ((8, 91), 0, 0, 153, 1, (0, 0), (870, 871, 872, 58)), ((8, 95), 0, 0, 154, 0, (0, 0), (875, 876, 877, 58)), ((8, 99), 0, 0, 155, 0, (0, 0), (879, 880, 881, 58)), ((8, 103), 0, 0, 156, 0, (0, 0), (883, 884, 885, 58)), ((8, 107), 0, 0, 157, 1, (0, 0), (887, 888, 889, 58)), ((8, 111), 0, 0, 158, 1, (0, 0), (891, 892, 893, 58))]
def zCtA : List zCE := zCt0 ++ (zCt1 ++ (zCt2 ++ (zCt3 ++ (zCt4 ++ (zCt5 ++ (zCt6 ++ (zCt7)))))))
/-- kind, callee, arguments, cells, slots -/
abbrev zCR : Type := Nat × zY × Nat × Nat × Nat
def zCl (o i : Nat) : Option zCR := (zCtA.find? (fun x => x.1 == (o, i))).map (fun x => (x.2.1, zKey x.2.2.2.1, x.2.2.2.2.1, x.2.2.2.2.2.1.1, x.2.2.2.2.2.1.2))
set_option maxRecDepth 100000 in
theorem zC_8_9 : zCl 8 9 = some (2, kX6_init, 0, 173, 3593) := rfl
set_option maxRecDepth 100000 in
theorem zC_6_9 : zCl 6 9 = some (2, kX5_init, 0, 16, 350) := rfl
set_option maxRecDepth 100000 in
theorem zC_5_17 : zCl 5 17 = some (2, kX4_init, 0, 2, 66) := rfl
set_option maxRecDepth 100000 in
theorem zC_6_18 : zCl 6 18 = some (2, kX2_init, 0, 1, 64) := rfl
set_option maxRecDepth 100000 in
theorem zC_6_25 : zCl 6 25 = some (2, kX1_init, 0, 103, 2118) := rfl
set_option maxRecDepth 100000 in
theorem zC_1_17 : zCl 1 17 = some (2, kX5_init, 0, 16, 350) := rfl
set_option maxRecDepth 100000 in
theorem zC_6_40 : zCl 6 40 = some (2, kX3_init, 0, 9, 214) := rfl
set_option maxRecDepth 100000 in
theorem zC_3_11 : zCl 3 11 = some (2, kX0_init, 0, 3, 72) := rfl
set_option maxRecDepth 100000 in
theorem zC_6_47 : zCl 6 47 = some (2, kX4_init, 0, 2, 66) := rfl
set_option maxRecDepth 100000 in
theorem zC_8_13 : zCl 8 13 = some (0, kX6_sew, 0, 0, 0) := rfl
set_option maxRecDepth 100000 in
theorem zC_6_56 : zCl 6 56 = some (0, kX2_firstFault, 0, 0, 0) := rfl
set_option maxRecDepth 100000 in
theorem zC_2_19 : zCl 2 19 = some (0, kX2_codeAt, 1, 0, 0) := rfl
set_option maxRecDepth 100000 in
theorem zC_2_23 : zCl 2 23 = some (1, kX6_isLetter, 1, 0, 0) := rfl
set_option maxRecDepth 100000 in
theorem zC_6_64 : zCl 6 64 = some (0, kX2_scrollsOfText, 0, 0, 0) := rfl
set_option maxRecDepth 100000 in
theorem zC_6_67 : zCl 6 67 = some (0, kX1_record, 1, 0, 0) := rfl
set_option maxRecDepth 100000 in
theorem zC_1_22 : zCl 1 22 = some (0, kX1_dropOldest, 0, 0, 0) := rfl
set_option maxRecDepth 100000 in
theorem zC_1_25 : zCl 1 25 = some (0, kX5_copyFrom, 1, 0, 0) := rfl
set_option maxRecDepth 100000 in
theorem zC_5_22 : zCl 5 22 = some (0, kX5_at, 1, 0, 0) := rfl
set_option maxRecDepth 100000 in
theorem zC_5_29 : zCl 5 29 = some (0, kX4_copyFrom, 1, 0, 0) := rfl
set_option maxRecDepth 100000 in
theorem zC_6_71 : zCl 6 71 = some (0, kX6_sewText, 0, 0, 0) := rfl
set_option maxRecDepth 100000 in
theorem zC_6_206 : zCl 6 206 = some (0, kX5_addScroll, 0, 0, 0) := rfl
set_option maxRecDepth 100000 in
theorem zC_5_26 : zCl 5 26 = some (0, kX4_startAnew, 0, 0, 0) := rfl
set_option maxRecDepth 100000 in
theorem zC_4_22 : zCl 4 22 = some (0, kX4_addPatch, 0, 0, 0) := rfl
set_option maxRecDepth 100000 in
theorem zC_4_25 : zCl 4 25 = some (0, kX4_length, 0, 0, 0) := rfl
set_option maxRecDepth 100000 in
theorem zC_4_42 : zCl 4 42 = some (0, kX4_startOf, 1, 0, 0) := rfl
set_option maxRecDepth 100000 in
theorem zC_6_210 : zCl 6 210 = some (0, kX2_codeAt, 1, 0, 0) := rfl
set_option maxRecDepth 100000 in
theorem zC_6_213 : zCl 6 213 = some (0, kX4_addPatch, 0, 0, 0) := rfl
set_option maxRecDepth 100000 in
theorem zC_6_216 : zCl 6 216 = some (0, kX4_addLetter, 1, 0, 0) := rfl
set_option maxRecDepth 100000 in
theorem zC_6_74 : zCl 6 74 = some (0, kX2_empty, 0, 0, 0) := rfl
set_option maxRecDepth 100000 in
theorem zC_8_18 : zCl 8 18 = some (0, kX6_burn, 1, 0, 0) := rfl
set_option maxRecDepth 100000 in
theorem zC_6_77 : zCl 6 77 = some (0, kX5_at, 1, 0, 0) := rfl
set_option maxRecDepth 100000 in
theorem zC_6_81 : zCl 6 81 = some (0, kX4_length, 0, 0, 0) := rfl
set_option maxRecDepth 100000 in
theorem zC_6_84 : zCl 6 84 = some (0, kX5_remove, 1, 0, 0) := rfl
set_option maxRecDepth 100000 in
theorem zC_8_23 : zCl 8 23 = some (0, kX6_cut, 3, 0, 0) := rfl
set_option maxRecDepth 100000 in
theorem zC_6_88 : zCl 6 88 = some (0, kX4_hasPatch, 1, 0, 0) := rfl
set_option maxRecDepth 100000 in
theorem zC_6_92 : zCl 6 92 = some (0, kX4_canBeCut, 2, 0, 0) := rfl
set_option maxRecDepth 100000 in
theorem zC_4_35 : zCl 4 35 = some (0, kX4_sizeOf, 1, 0, 0) := rfl
set_option maxRecDepth 100000 in
theorem zC_4_39 : zCl 4 39 = some (0, kX4_endOf, 1, 0, 0) := rfl
set_option maxRecDepth 100000 in
theorem zC_6_99 : zCl 6 99 = some (0, kX4_split, 2, 0, 0) := rfl
set_option maxRecDepth 100000 in
theorem zC_4_45 : zCl 4 45 = some (0, kX4_hasPatch, 1, 0, 0) := rfl
set_option maxRecDepth 100000 in
theorem zC_8_28 : zCl 8 28 = some (0, kX6_undoSeam, 2, 0, 0) := rfl
set_option maxRecDepth 100000 in
theorem zC_6_103 : zCl 6 103 = some (0, kX4_hasSeam, 1, 0, 0) := rfl
set_option maxRecDepth 100000 in
theorem zC_6_106 : zCl 6 106 = some (0, kX4_sizeOf, 1, 0, 0) := rfl
set_option maxRecDepth 100000 in
theorem zC_6_110 : zCl 6 110 = some (0, kX4_merge, 1, 0, 0) := rfl
set_option maxRecDepth 100000 in
theorem zC_4_49 : zCl 4 49 = some (0, kX4_hasSeam, 1, 0, 0) := rfl
set_option maxRecDepth 100000 in
theorem zC_8_33 : zCl 8 33 = some (0, kX6_turn, 2, 0, 0) := rfl
set_option maxRecDepth 100000 in
theorem zC_6_113 : zCl 6 113 = some (0, kX4_unlikeTurned, 1, 0, 0) := rfl
set_option maxRecDepth 100000 in
theorem zC_4_52 : zCl 4 52 = some (0, kX4_letterAt, 1, 0, 0) := rfl
set_option maxRecDepth 100000 in
theorem zC_6_116 : zCl 6 116 = some (0, kX4_turnRound, 1, 0, 0) := rfl
set_option maxRecDepth 100000 in
theorem zC_4_55 : zCl 4 55 = some (1, kX6_turnPart, 3, 0, 0) := rfl
set_option maxRecDepth 100000 in
theorem zC_8_37 : zCl 8 37 = some (0, kX6_exchange, 2, 0, 0) := rfl
set_option maxRecDepth 100000 in
theorem zC_6_119 : zCl 6 119 = some (0, kX4_swapBeside, 1, 0, 0) := rfl
set_option maxRecDepth 100000 in
theorem zC_6_122 : zCl 6 122 = some (0, kX6_readingsOf, 1, 0, 0) := rfl
set_option maxRecDepth 100000 in
theorem zC_6_130 : zCl 6 130 = some (0, kX4_waysFromFirst, 0, 0, 0) := rfl
set_option maxRecDepth 100000 in
theorem zC_4_67 : zCl 4 67 = some (0, kX4_isEven, 1, 0, 0) := rfl
set_option maxRecDepth 100000 in
theorem zC_4_63 : zCl 4 63 = some (1, kX6_orderTurned, 3, 0, 0) := rfl
set_option maxRecDepth 100000 in
theorem zC_6_219 : zCl 6 219 = some (1, kX6_toldFromBothEnds, 3, 0, 0) := rfl
set_option maxRecDepth 100000 in
theorem zC_6_223 : zCl 6 223 = some (0, kX4_isEven, 1, 0, 0) := rfl
set_option maxRecDepth 100000 in
theorem zC_6_142 : zCl 6 142 = some (0, kX4_startOf, 1, 0, 0) := rfl
set_option maxRecDepth 100000 in
theorem zC_6_226 : zCl 6 226 = some (0, kX4_endOf, 1, 0, 0) := rfl
set_option maxRecDepth 100000 in
theorem zC_6_229 : zCl 6 229 = some (0, kX4_lay, 5, 0, 0) := rfl
set_option maxRecDepth 100000 in
theorem zC_6_233 : zCl 6 233 = some (0, kX4_beginsWith, 3, 0, 0) := rfl
set_option maxRecDepth 100000 in
theorem zC_4_74 : zCl 4 74 = some (0, kX4_standsAt, 6, 0, 0) := rfl
set_option maxRecDepth 100000 in
theorem zC_8_41 : zCl 8 41 = some (0, kX6_join, 2, 0, 0) := rfl
set_option maxRecDepth 100000 in
theorem zC_6_126 : zCl 6 126 = some (0, kX4_sewOn, 1, 0, 0) := rfl
set_option maxRecDepth 100000 in
theorem zC_4_59 : zCl 4 59 = some (0, kX4_addLetter, 1, 0, 0) := rfl
set_option maxRecDepth 100000 in
theorem zC_8_45 : zCl 8 45 = some (0, kX6_scroll, 2, 0, 0) := rfl
set_option maxRecDepth 100000 in
theorem zC_6_133 : zCl 6 133 = some (0, kX4_evenPatches, 0, 0, 0) := rfl
set_option maxRecDepth 100000 in
theorem zC_6_136 : zCl 6 136 = some (0, kX6_evenReadings, 1, 0, 0) := rfl
set_option maxRecDepth 100000 in
theorem zC_6_148 : zCl 6 148 = some (0, kX3_begin, 1, 0, 0) := rfl
set_option maxRecDepth 100000 in
theorem zC_3_25 : zCl 3 25 = some (0, kX4_length, 0, 0, 0) := rfl
set_option maxRecDepth 100000 in
theorem zC_3_34 : zCl 3 34 = some (0, kX0_begin, 2, 0, 0) := rfl
set_option maxRecDepth 100000 in
theorem zC_0_33 : zCl 0 33 = some (0, kX4_startOf, 1, 0, 0) := rfl
set_option maxRecDepth 100000 in
theorem zC_0_37 : zCl 0 37 = some (0, kX4_endOf, 1, 0, 0) := rfl
set_option maxRecDepth 100000 in
theorem zC_0_40 : zCl 0 40 = some (0, kX4_lay, 5, 0, 0) := rfl
set_option maxRecDepth 100000 in
theorem zC_0_44 : zCl 0 44 = some (1, kX6_orderTurned, 3, 0, 0) := rfl
set_option maxRecDepth 100000 in
theorem zC_0_48 : zCl 0 48 = some (1, kX6_turnPart, 3, 0, 0) := rfl
set_option maxRecDepth 100000 in
theorem zC_0_52 : zCl 0 52 = some (0, kX0_addDigit, 2, 0, 0) := rfl
set_option maxRecDepth 100000 in
theorem zC_6_151 : zCl 6 151 = some (0, kX3_next, 0, 0, 0) := rfl
set_option maxRecDepth 100000 in
theorem zC_3_38 : zCl 3 38 = some (0, kX0_isOver, 0, 0, 0) := rfl
set_option maxRecDepth 100000 in
theorem zC_3_42 : zCl 3 42 = some (0, kX3_orderOfEnds, 0, 0, 0) := rfl
set_option maxRecDepth 100000 in
theorem zC_3_52 : zCl 3 52 = some (0, kX0_step, 0, 0, 0) := rfl
set_option maxRecDepth 100000 in
theorem zC_6_247 : zCl 6 247 = some (1, kX6_orderTurned, 3, 0, 0) := rfl
set_option maxRecDepth 100000 in
theorem zC_6_139 : zCl 6 139 = some (0, kX6_idleSeams, 1, 0, 0) := rfl
set_option maxRecDepth 100000 in
theorem zC_6_237 : zCl 6 237 = some (0, kX4_copyFrom, 1, 0, 0) := rfl
set_option maxRecDepth 100000 in
theorem zC_6_251 : zCl 6 251 = some (0, kX6_tellTheSame, 2, 0, 0) := rfl
set_option maxRecDepth 100000 in
theorem zC_6_163 : zCl 6 163 = some (0, kX6_readingsOfBoth, 2, 0, 0) := rfl
set_option maxRecDepth 100000 in
theorem zC_6_243 : zCl 6 243 = some (0, kX4_tells, 2, 0, 0) := rfl
set_option maxRecDepth 100000 in
theorem zC_4_70 : zCl 4 70 = some (0, kX4_beginsWith, 3, 0, 0) := rfl
set_option maxRecDepth 100000 in
theorem zC_8_49 : zCl 8 49 = some (0, kX6_patch, 2, 0, 0) := rfl
set_option maxRecDepth 100000 in
theorem zC_8_53 : zCl 8 53 = some (0, kX6_letter, 3, 0, 0) := rfl
set_option maxRecDepth 100000 in
theorem zC_6_145 : zCl 6 145 = some (0, kX4_letterAt, 1, 0, 0) := rfl
set_option maxRecDepth 100000 in
theorem zC_8_57 : zCl 8 57 = some (0, kX6_reading, 3, 0, 0) := rfl
set_option maxRecDepth 100000 in
theorem zC_6_155 : zCl 6 155 = some (0, kX3_letterAt, 1, 0, 0) := rfl
set_option maxRecDepth 100000 in
theorem zC_8_61 : zCl 8 61 = some (0, kX6_find, 2, 0, 0) := rfl
set_option maxRecDepth 100000 in
theorem zC_6_156 : zCl 6 156 = some (0, kX2_isWord, 0, 0, 0) := rfl
set_option maxRecDepth 100000 in
theorem zC_6_159 : zCl 6 159 = some (0, kX6_findWord, 2, 0, 0) := rfl
set_option maxRecDepth 100000 in
theorem zC_6_255 : zCl 6 255 = some (0, kX2_placeIn, 2, 0, 0) := rfl
set_option maxRecDepth 100000 in
theorem zC_2_27 : zCl 2 27 = some (0, kX2_standsAt, 2, 0, 0) := rfl
set_option maxRecDepth 100000 in
theorem zC_8_65 : zCl 8 65 = some (0, kX6_shared, 2, 0, 0) := rfl
set_option maxRecDepth 100000 in
theorem zC_8_69 : zCl 8 69 = some (0, kX6_compare, 2, 0, 0) := rfl
set_option maxRecDepth 100000 in
theorem zC_8_73 : zCl 8 73 = some (0, kX6_count, 1, 0, 0) := rfl
set_option maxRecDepth 100000 in
theorem zC_6_167 : zCl 6 167 = some (0, kX5_patchesOfAll, 0, 0, 0) := rfl
set_option maxRecDepth 100000 in
theorem zC_6_170 : zCl 6 170 = some (0, kX5_lettersOfAll, 0, 0, 0) := rfl
set_option maxRecDepth 100000 in
theorem zC_5_36 : zCl 5 36 = some (0, kX4_length, 0, 0, 0) := rfl
set_option maxRecDepth 100000 in
theorem zC_6_173 : zCl 6 173 = some (0, kX6_readingsOfAll, 0, 0, 0) := rfl
set_option maxRecDepth 100000 in
theorem zC_6_259 : zCl 6 259 = some (0, kX6_readingsNotToldBefore, 2, 0, 0) := rfl
set_option maxRecDepth 100000 in
theorem zC_6_262 : zCl 6 262 = some (0, kX5_tellsBefore, 3, 0, 0) := rfl
set_option maxRecDepth 100000 in
theorem zC_5_40 : zCl 5 40 = some (0, kX4_tells, 2, 0, 0) := rfl
set_option maxRecDepth 100000 in
theorem zC_6_176 : zCl 6 176 = some (0, kX6_pairsOfTheSame, 0, 0, 0) := rfl
set_option maxRecDepth 100000 in
theorem zC_8_77 : zCl 8 77 = some (0, kX6_ifCut, 3, 0, 0) := rfl
set_option maxRecDepth 100000 in
theorem zC_6_182 : zCl 6 182 = some (0, kX6_readingsWithCut, 3, 0, 0) := rfl
set_option maxRecDepth 100000 in
theorem zC_8_81 : zCl 8 81 = some (0, kX6_bestCut, 2, 0, 0) := rfl
set_option maxRecDepth 100000 in
theorem zC_8_87 : zCl 8 87 = some (0, kX6_put, 1, 0, 0) := rfl
set_option maxRecDepth 100000 in
theorem zC_6_186 : zCl 6 186 = some (1, kX6_charactersIn, 1, 0, 0) := rfl
set_option maxRecDepth 100000 in
theorem zC_6_190 : zCl 6 190 = some (1, kX6_codeIn, 2, 0, 0) := rfl
set_option maxRecDepth 100000 in
theorem zC_6_194 : zCl 6 194 = some (0, kX2_append, 1, 0, 0) := rfl
set_option maxRecDepth 100000 in
theorem zC_8_92 : zCl 8 92 = some (0, kX6_wipe, 0, 0, 0) := rfl
set_option maxRecDepth 100000 in
theorem zC_8_96 : zCl 8 96 = some (0, kX6_fault, 0, 0, 0) := rfl
set_option maxRecDepth 100000 in
theorem zC_8_100 : zCl 8 100 = some (0, kX6_undo, 0, 0, 0) := rfl
set_option maxRecDepth 100000 in
theorem zC_6_197 : zCl 6 197 = some (0, kX1_takeBack, 1, 0, 0) := rfl
set_option maxRecDepth 100000 in
theorem zC_8_104 : zCl 8 104 = some (0, kX6_save, 1, 0, 0) := rfl
set_option maxRecDepth 100000 in
theorem zC_6_201 : zCl 6 201 = some (0, kX5_copyFrom, 1, 0, 0) := rfl
set_option maxRecDepth 100000 in
theorem zC_8_108 : zCl 8 108 = some (0, kX6_restore, 1, 0, 0) := rfl
set_option maxRecDepth 100000 in
theorem zC_8_12 : zCl 8 12 = some (2, kX7_init, 0, 12, 18902) := rfl
set_option maxRecDepth 100000 in
theorem zC_8_17 : zCl 8 17 = some (0, kX7_sew, 0, 0, 0) := rfl
set_option maxRecDepth 100000 in
theorem zC_7_112 : zCl 7 112 = some (0, kX7_findFault, 0, 0, 0) := rfl
set_option maxRecDepth 100000 in
theorem zC_7_54 : zCl 7 54 = some (1, kX7_within, 3, 0, 0) := rfl
set_option maxRecDepth 100000 in
theorem zC_7_115 : zCl 7 115 = some (0, kX7_toldMany, 0, 0, 0) := rfl
set_option maxRecDepth 100000 in
theorem zC_7_118 : zCl 7 118 = some (0, kX7_record, 0, 0, 0) := rfl
set_option maxRecDepth 100000 in
theorem zC_7_50 : zCl 7 50 = some (1, kX7_moves, 4, 0, 0) := rfl
set_option maxRecDepth 100000 in
theorem zC_7_121 : zCl 7 121 = some (0, kX7_readScroll, 1, 0, 0) := rfl
set_option maxRecDepth 100000 in
theorem zC_7_125 : zCl 7 125 = some (0, kX7_give, 1, 0, 0) := rfl
set_option maxRecDepth 100000 in
theorem zC_8_22 : zCl 8 22 = some (0, kX7_burn, 1, 0, 0) := rfl
set_option maxRecDepth 100000 in
theorem zC_7_58 : zCl 7 58 = some (0, kX7_isScroll, 1, 0, 0) := rfl
set_option maxRecDepth 100000 in
theorem zC_7_128 : zCl 7 128 = some (0, kX7_lettersOf, 1, 0, 0) := rfl
set_option maxRecDepth 100000 in
theorem zC_7_62 : zCl 7 62 = some (0, kX7_part, 2, 0, 0) := rfl
set_option maxRecDepth 100000 in
theorem zC_7_131 : zCl 7 131 = some (0, kX7_goes, 1, 0, 0) := rfl
set_option maxRecDepth 100000 in
theorem zC_8_27 : zCl 8 27 = some (0, kX7_cut, 3, 0, 0) := rfl
set_option maxRecDepth 100000 in
theorem zC_7_134 : zCl 7 134 = some (0, kX7_isPatch, 2, 0, 0) := rfl
set_option maxRecDepth 100000 in
theorem zC_7_138 : zCl 7 138 = some (0, kX7_sizeOf, 2, 0, 0) := rfl
set_option maxRecDepth 100000 in
theorem zC_7_86 : zCl 7 86 = some (0, kX7_take, 1, 0, 0) := rfl
set_option maxRecDepth 100000 in
theorem zC_7_141 : zCl 7 141 = some (0, kX7_cutNow, 2, 0, 0) := rfl
set_option maxRecDepth 100000 in
theorem zC_8_32 : zCl 8 32 = some (0, kX7_undoSeam, 2, 0, 0) := rfl
set_option maxRecDepth 100000 in
theorem zC_7_145 : zCl 7 145 = some (0, kX7_isSeam, 2, 0, 0) := rfl
set_option maxRecDepth 100000 in
theorem zC_7_148 : zCl 7 148 = some (0, kX7_undoNow, 1, 0, 0) := rfl
set_option maxRecDepth 100000 in
theorem zC_8_36 : zCl 8 36 = some (0, kX7_turn, 2, 0, 0) := rfl
set_option maxRecDepth 100000 in
theorem zC_8_40 : zCl 8 40 = some (0, kX7_exchange, 2, 0, 0) := rfl
set_option maxRecDepth 100000 in
theorem zC_7_89 : zCl 7 89 = some (0, kX7_search, 1, 0, 0) := rfl
set_option maxRecDepth 100000 in
theorem zC_7_79 : zCl 7 79 = some (0, kX7_layDown, 1, 0, 0) := rfl
set_option maxRecDepth 100000 in
theorem zC_7_83 : zCl 7 83 = some (0, kX7_takeIn, 1, 0, 0) := rfl
set_option maxRecDepth 100000 in
theorem zC_7_75 : zCl 7 75 = some (1, kX7_compared, 5, 0, 0) := rfl
set_option maxRecDepth 100000 in
theorem zC_8_44 : zCl 8 44 = some (0, kX7_join, 2, 0, 0) := rfl
set_option maxRecDepth 100000 in
theorem zC_8_48 : zCl 8 48 = some (0, kX7_scroll, 2, 0, 0) := rfl
set_option maxRecDepth 100000 in
theorem zC_7_99 : zCl 7 99 = some (0, kX7_findOf, 1, 0, 0) := rfl
set_option maxRecDepth 100000 in
theorem zC_7_154 : zCl 7 154 = some (0, kX7_sameBothWays, 1, 0, 0) := rfl
set_option maxRecDepth 100000 in
theorem zC_7_157 : zCl 7 157 = some (0, kX7_sameFromEnds, 0, 0, 0) := rfl
set_option maxRecDepth 100000 in
theorem zC_7_151 : zCl 7 151 = some (0, kX7_letterOf, 2, 0, 0) := rfl
set_option maxRecDepth 100000 in
theorem zC_7_160 : zCl 7 160 = some (0, kX7_needlessSeams, 1, 0, 0) := rfl
set_option maxRecDepth 100000 in
theorem zC_7_102 : zCl 7 102 = some (0, kX7_keepOther, 0, 0, 0) := rfl
set_option maxRecDepth 100000 in
theorem zC_7_105 : zCl 7 105 = some (0, kX7_meet, 0, 0, 0) := rfl
set_option maxRecDepth 100000 in
theorem zC_8_52 : zCl 8 52 = some (0, kX7_patch, 2, 0, 0) := rfl
set_option maxRecDepth 100000 in
theorem zC_8_56 : zCl 8 56 = some (0, kX7_letter, 3, 0, 0) := rfl
set_option maxRecDepth 100000 in
theorem zC_8_60 : zCl 8 60 = some (0, kX7_reading, 3, 0, 0) := rfl
set_option maxRecDepth 100000 in
theorem zC_8_64 : zCl 8 64 = some (0, kX7_find, 2, 0, 0) := rfl
set_option maxRecDepth 100000 in
theorem zC_7_163 : zCl 7 163 = some (0, kX7_isWord, 0, 0, 0) := rfl
set_option maxRecDepth 100000 in
theorem zC_7_167 : zCl 7 167 = some (0, kX7_placeIn, 1, 0, 0) := rfl
set_option maxRecDepth 100000 in
theorem zC_8_68 : zCl 8 68 = some (0, kX7_shared, 2, 0, 0) := rfl
set_option maxRecDepth 100000 in
theorem zC_7_170 : zCl 7 170 = some (0, kX7_sharedBy, 2, 0, 0) := rfl
set_option maxRecDepth 100000 in
theorem zC_8_72 : zCl 8 72 = some (0, kX7_compare, 2, 0, 0) := rfl
set_option maxRecDepth 100000 in
theorem zC_7_173 : zCl 7 173 = some (0, kX7_howTheyStand, 2, 0, 0) := rfl
set_option maxRecDepth 100000 in
theorem zC_8_76 : zCl 8 76 = some (0, kX7_count, 1, 0, 0) := rfl
set_option maxRecDepth 100000 in
theorem zC_7_176 : zCl 7 176 = some (0, kX7_allPatches, 0, 0, 0) := rfl
set_option maxRecDepth 100000 in
theorem zC_7_179 : zCl 7 179 = some (0, kX7_allLetters, 0, 0, 0) := rfl
set_option maxRecDepth 100000 in
theorem zC_7_182 : zCl 7 182 = some (0, kX7_allReadings, 0, 0, 0) := rfl
set_option maxRecDepth 100000 in
theorem zC_7_185 : zCl 7 185 = some (0, kX7_samePairs, 0, 0, 0) := rfl
set_option maxRecDepth 100000 in
theorem zC_8_80 : zCl 8 80 = some (0, kX7_ifCut, 3, 0, 0) := rfl
set_option maxRecDepth 100000 in
theorem zC_7_188 : zCl 7 188 = some (0, kX7_readingsIfCut, 3, 0, 0) := rfl
set_option maxRecDepth 100000 in
theorem zC_8_84 : zCl 8 84 = some (0, kX7_bestCut, 2, 0, 0) := rfl
set_option maxRecDepth 100000 in
theorem zC_8_91 : zCl 8 91 = some (0, kX7_put, 1, 0, 0) := rfl
set_option maxRecDepth 100000 in
theorem zC_8_95 : zCl 8 95 = some (0, kX7_wipe, 0, 0, 0) := rfl
set_option maxRecDepth 100000 in
theorem zC_8_99 : zCl 8 99 = some (0, kX7_fault, 0, 0, 0) := rfl
set_option maxRecDepth 100000 in
theorem zC_8_103 : zCl 8 103 = some (0, kX7_undo, 0, 0, 0) := rfl
set_option maxRecDepth 100000 in
theorem zC_8_107 : zCl 8 107 = some (0, kX7_save, 1, 0, 0) := rfl
set_option maxRecDepth 100000 in
theorem zC_8_111 : zCl 8 111 = some (0, kX7_restore, 1, 0, 0) := rfl
/-- Object.<init>: (own class, pool number), place of the link -/
def zOt : List ((Nat × Nat) × Nat) := [((6, 1), 65), ((5, 3), 73), ((4, 3), 80), ((2, 3), 108), ((1, 3), 122), ((3, 3), 139), ((0, 3), 145), ((7, 1), 598)]
def zOk (o i : Nat) : Bool := (zOt.find? (fun x => x.1 == (o, i))).isSome
theorem zO_6_1 : zOk 6 1 = true := rfl
theorem zO_5_3 : zOk 5 3 = true := rfl
theorem zO_4_3 : zOk 4 3 = true := rfl
theorem zO_2_3 : zOk 2 3 = true := rfl
theorem zO_1_3 : zOk 1 3 = true := rfl
theorem zO_3_3 : zOk 3 3 = true := rfl
theorem zO_0_3 : zOk 0 3 = true := rfl
theorem zO_7_1 : zOk 7 1 = true := rfl
def zOp : Nat × Nat := (66, 67)
/-- System.arraycopy -/
def zAt : List ((Nat × Nat) × Nat) := [((4, 29), 245), ((3, 46), 442)]
def zAk (o i : Nat) : Bool := (zAt.find? (fun x => x.1 == (o, i))).isSome
theorem zA_4_29 : zAk 4 29 = true := rfl
theorem zA_3_46 : zAk 3 46 = true := rfl
theorem zC_4_29 : zCl 4 29 = none := rfl
theorem zC_3_46 : zCl 3 46 = none := rfl
theorem zC_6_1 : zCl 6 1 = none := rfl
theorem zC_5_3 : zCl 5 3 = none := rfl
theorem zC_4_3 : zCl 4 3 = none := rfl
theorem zC_2_3 : zCl 2 3 = none := rfl
theorem zC_1_3 : zCl 1 3 = none := rfl
theorem zC_3_3 : zCl 3 3 = none := rfl
theorem zC_0_3 : zCl 0 3 = none := rfl
theorem zC_7_1 : zCl 7 1 = none := rfl
theorem zO_8_9 : zOk 8 9 = false := rfl
theorem zO_6_9 : zOk 6 9 = false := rfl
theorem zO_5_17 : zOk 5 17 = false := rfl
theorem zO_6_18 : zOk 6 18 = false := rfl
theorem zO_6_25 : zOk 6 25 = false := rfl
theorem zO_1_17 : zOk 1 17 = false := rfl
theorem zO_6_40 : zOk 6 40 = false := rfl
theorem zO_3_11 : zOk 3 11 = false := rfl
theorem zO_6_47 : zOk 6 47 = false := rfl
theorem zO_8_12 : zOk 8 12 = false := rfl
def zAp : Nat × Nat × Nat := (247, 246, 59)
/-- class links: (own class, pool number), class, places (link, instantiable, initialized) -/
def zNt : List ((Nat × Nat) × Nat × (Nat × Nat × Nat)) := [((8, 7), 6, (60, 61, 51)), ((6, 7), 5, (68, 69, 52)), ((5, 9), 4, (74, 76, 53)), ((6, 16), 2, (103, 104, 54)), ((6, 23), 1, (117, 118, 55)), ((1, 9), 5, (123, 69, 52)), ((6, 38), 3, (134, 135, 56)), ((3, 9), 0, (140, 141, 57)), ((6, 45), 4, (179, 76, 53)), ((8, 10), 7, (593, 594, 58))]
def zNc (o i : Nat) : Option Nat := (zNt.find? (fun x => x.1 == (o, i))).map (fun x => x.2.1)
theorem zN_8_7 : zNc 8 7 = some 6 := rfl
theorem zN_6_7 : zNc 6 7 = some 5 := rfl
theorem zN_5_9 : zNc 5 9 = some 4 := rfl
theorem zN_6_16 : zNc 6 16 = some 2 := rfl
theorem zN_6_23 : zNc 6 23 = some 1 := rfl
theorem zN_1_9 : zNc 1 9 = some 5 := rfl
theorem zN_6_38 : zNc 6 38 = some 3 := rfl
theorem zN_3_9 : zNc 3 9 = some 0 := rfl
theorem zN_6_45 : zNc 6 45 = some 4 := rfl
theorem zN_8_10 : zNc 8 10 = some 7 := rfl
/-- a new object: its fields; how many -/
def zDf (ci : Nat) : List (Int ⊕ (Option Nat ⊕ Int64)) := match ci with
  | 0 => [.inr (.inl none), .inr (.inl none), .inr (.inl none), .inl 0, .inl 0]
  | 1 => [.inr (.inl none), .inl 0]
  | 2 => [.inr (.inl none), .inl 0]
  | 3 => [.inr (.inl none), .inr (.inl none), .inr (.inl none), .inl 0]
  | 4 => [.inr (.inl none), .inr (.inl none), .inl 0]
  | 5 => [.inr (.inl none), .inl 0]
  | 6 => [.inr (.inl none), .inr (.inl none), .inr (.inl none), .inr (.inl none), .inr (.inl none), .inr (.inl none), .inr (.inl none), .inr (.inl none)]
  | 7 => [.inr (.inl none), .inr (.inl none), .inl 0, .inr (.inl none), .inr (.inl none), .inr (.inl none), .inl 0, .inl 0, .inr (.inl none), .inr (.inl none), .inr (.inl none), .inr (.inl none), .inl 0, .inl 0, .inr (.inl none), .inr (.inl none), .inr (.inl none), .inl 0, .inl 0]
  | _ => []
def zNf (ci : Nat) : Nat := match ci with
  | 0 => 5
  | 1 => 2
  | 2 => 2
  | 3 => 4
  | 4 => 3
  | 5 => 2
  | 6 => 8
  | 7 => 19
  | _ => 0
/-- long constants -/
def zLt : List ((Nat × Nat) × Int64 × Nat) := [((6, 204), 255, 563), ((7, 192), 255, 874), ((8, 85), 4294967295, 895)]
def zLc (o i : Nat) : Option Int64 := (zLt.find? (fun x => x.1 == (o, i))).map (fun x => x.2.1)
theorem zL_6_204 : zLc 6 204 = some (255) := rfl
theorem zL_7_192 : zLc 7 192 = some (255) := rfl
theorem zL_8_85 : zLc 8 85 = some (4294967295) := rfl
def zArr : Nat × Nat × Nat × Nat := (94, 163, 75, 124)
