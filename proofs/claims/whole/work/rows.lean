section
-- PART A of the skeleton (a starting text), then names out of the printed NAMES (a starting text), then tables of our own
/-- a private method of a class that the tables say can be made, by its rows of tables_1 -/
def lw_okq (q : MethodName × Nat) : Prop := (q.1.cls ≠ "java/lang/invoke/MethodHandle" ∧ q.1.cls ≠ "java/lang/invoke/VarHandle") ∧ Cond.instantiable q.1.cls q.2 ∈ tables_1 ∧ Cond.privateMethod q.1 ∈ tables_1 ∧ Cond.instanceMethod q.1 ∈ tables_1
theorem lw_p0 : lw_okq (⟨"SeamReadings$History", "dropOldest", "()V"⟩, 2) := ⟨⟨by decide +kernel, by decide +kernel⟩, List.mem_of_getElem? (i := 68) (by decide +kernel), List.mem_of_getElem? (i := 180) (by decide +kernel), List.mem_of_getElem? (i := 181) (by decide +kernel)⟩
theorem lw_p1 : lw_okq (⟨"SeamReadings", "sewText", "()V"⟩, 8) := ⟨⟨by decide +kernel, by decide +kernel⟩, List.mem_of_getElem? (i := 11) (by decide +kernel), List.mem_of_getElem? (i := 199) (by decide +kernel), List.mem_of_getElem? (i := 200) (by decide +kernel)⟩
theorem lw_p2 : lw_okq (⟨"SeamReadings", "readingsOf", "(LSeamReadings$Scroll;)I"⟩, 8) := ⟨⟨by decide +kernel, by decide +kernel⟩, List.mem_of_getElem? (i := 11) (by decide +kernel), List.mem_of_getElem? (i := 309) (by decide +kernel), List.mem_of_getElem? (i := 310) (by decide +kernel)⟩
theorem lw_p3 : lw_okq (⟨"SeamReadings$Scroll", "standsAt", "([IIIIIZ)Z"⟩, 3) := ⟨⟨by decide +kernel, by decide +kernel⟩, List.mem_of_getElem? (i := 26) (by decide +kernel), List.mem_of_getElem? (i := 338) (by decide +kernel), List.mem_of_getElem? (i := 339) (by decide +kernel)⟩
theorem lw_p4 : lw_okq (⟨"SeamReadings", "evenReadings", "(LSeamReadings$Scroll;)I"⟩, 8) := ⟨⟨by decide +kernel, by decide +kernel⟩, List.mem_of_getElem? (i := 11) (by decide +kernel), List.mem_of_getElem? (i := 359) (by decide +kernel), List.mem_of_getElem? (i := 360) (by decide +kernel)⟩
theorem lw_p5 : lw_okq (⟨"SeamReadings$End", "addDigit", "(II)V"⟩, 5) := ⟨⟨by decide +kernel, by decide +kernel⟩, List.mem_of_getElem? (i := 91) (by decide +kernel), List.mem_of_getElem? (i := 377) (by decide +kernel), List.mem_of_getElem? (i := 378) (by decide +kernel)⟩
theorem lw_p6 : lw_okq (⟨"SeamReadings$Readings", "orderOfEnds", "()I"⟩, 4) := ⟨⟨by decide +kernel, by decide +kernel⟩, List.mem_of_getElem? (i := 85) (by decide +kernel), List.mem_of_getElem? (i := 389) (by decide +kernel), List.mem_of_getElem? (i := 390) (by decide +kernel)⟩
theorem lw_p7 : lw_okq (⟨"SeamReadings", "idleSeams", "(LSeamReadings$Scroll;)I"⟩, 8) := ⟨⟨by decide +kernel, by decide +kernel⟩, List.mem_of_getElem? (i := 11) (by decide +kernel), List.mem_of_getElem? (i := 399) (by decide +kernel), List.mem_of_getElem? (i := 400) (by decide +kernel)⟩
theorem lw_p8 : lw_okq (⟨"SeamReadings", "tellTheSame", "(LSeamReadings$Scroll;LSeamReadings$Scroll;)Z"⟩, 8) := ⟨⟨by decide +kernel, by decide +kernel⟩, List.mem_of_getElem? (i := 11) (by decide +kernel), List.mem_of_getElem? (i := 404) (by decide +kernel), List.mem_of_getElem? (i := 405) (by decide +kernel)⟩
theorem lw_p9 : lw_okq (⟨"SeamReadings", "readingsOfBoth", "(LSeamReadings$Scroll;LSeamReadings$Scroll;)I"⟩, 8) := ⟨⟨by decide +kernel, by decide +kernel⟩, List.mem_of_getElem? (i := 11) (by decide +kernel), List.mem_of_getElem? (i := 408) (by decide +kernel), List.mem_of_getElem? (i := 409) (by decide +kernel)⟩
theorem lw_p10 : lw_okq (⟨"SeamReadings", "findWord", "(LSeamReadings$Scroll;I)I"⟩, 8) := ⟨⟨by decide +kernel, by decide +kernel⟩, List.mem_of_getElem? (i := 11) (by decide +kernel), List.mem_of_getElem? (i := 442) (by decide +kernel), List.mem_of_getElem? (i := 443) (by decide +kernel)⟩
theorem lw_p11 : lw_okq (⟨"SeamReadings$Pad", "standsAt", "([II)Z"⟩, 2) := ⟨⟨by decide +kernel, by decide +kernel⟩, List.mem_of_getElem? (i := 54) (by decide +kernel), List.mem_of_getElem? (i := 450) (by decide +kernel), List.mem_of_getElem? (i := 451) (by decide +kernel)⟩
theorem lw_p12 : lw_okq (⟨"SeamReadings", "readingsOfAll", "()I"⟩, 8) := ⟨⟨by decide +kernel, by decide +kernel⟩, List.mem_of_getElem? (i := 11) (by decide +kernel), List.mem_of_getElem? (i := 475) (by decide +kernel), List.mem_of_getElem? (i := 476) (by decide +kernel)⟩
theorem lw_p13 : lw_okq (⟨"SeamReadings", "readingsNotToldBefore", "(LSeamReadings$Scroll;I)I"⟩, 8) := ⟨⟨by decide +kernel, by decide +kernel⟩, List.mem_of_getElem? (i := 11) (by decide +kernel), List.mem_of_getElem? (i := 479) (by decide +kernel), List.mem_of_getElem? (i := 480) (by decide +kernel)⟩
theorem lw_p14 : lw_okq (⟨"SeamReadings", "pairsOfTheSame", "()I"⟩, 8) := ⟨⟨by decide +kernel, by decide +kernel⟩, List.mem_of_getElem? (i := 11) (by decide +kernel), List.mem_of_getElem? (i := 488) (by decide +kernel), List.mem_of_getElem? (i := 489) (by decide +kernel)⟩
theorem lw_p15 : lw_okq (⟨"SeamReadings", "readingsWithCut", "(LSeamReadings$Scroll;II)I"⟩, 8) := ⟨⟨by decide +kernel, by decide +kernel⟩, List.mem_of_getElem? (i := 11) (by decide +kernel), List.mem_of_getElem? (i := 496) (by decide +kernel), List.mem_of_getElem? (i := 497) (by decide +kernel)⟩
def lw_privs_1 : List (MethodName × Nat) := [(⟨"SeamReadings$History", "dropOldest", "()V"⟩, 2), (⟨"SeamReadings", "sewText", "()V"⟩, 8), (⟨"SeamReadings", "readingsOf", "(LSeamReadings$Scroll;)I"⟩, 8), (⟨"SeamReadings$Scroll", "standsAt", "([IIIIIZ)Z"⟩, 3), (⟨"SeamReadings", "evenReadings", "(LSeamReadings$Scroll;)I"⟩, 8), (⟨"SeamReadings$End", "addDigit", "(II)V"⟩, 5), (⟨"SeamReadings$Readings", "orderOfEnds", "()I"⟩, 4), (⟨"SeamReadings", "idleSeams", "(LSeamReadings$Scroll;)I"⟩, 8), (⟨"SeamReadings", "tellTheSame", "(LSeamReadings$Scroll;LSeamReadings$Scroll;)Z"⟩, 8), (⟨"SeamReadings", "readingsOfBoth", "(LSeamReadings$Scroll;LSeamReadings$Scroll;)I"⟩, 8), (⟨"SeamReadings", "findWord", "(LSeamReadings$Scroll;I)I"⟩, 8), (⟨"SeamReadings$Pad", "standsAt", "([II)Z"⟩, 2), (⟨"SeamReadings", "readingsOfAll", "()I"⟩, 8), (⟨"SeamReadings", "readingsNotToldBefore", "(LSeamReadings$Scroll;I)I"⟩, 8), (⟨"SeamReadings", "pairsOfTheSame", "()I"⟩, 8), (⟨"SeamReadings", "readingsWithCut", "(LSeamReadings$Scroll;II)I"⟩, 8)]
theorem lw_r1 : ∀ q ∈ lw_privs_1, lw_okq q := List.forall_mem_cons.mpr ⟨lw_p0, List.forall_mem_cons.mpr ⟨lw_p1, List.forall_mem_cons.mpr ⟨lw_p2, List.forall_mem_cons.mpr ⟨lw_p3, List.forall_mem_cons.mpr ⟨lw_p4, List.forall_mem_cons.mpr ⟨lw_p5, List.forall_mem_cons.mpr ⟨lw_p6, List.forall_mem_cons.mpr ⟨lw_p7, List.forall_mem_cons.mpr ⟨lw_p8, List.forall_mem_cons.mpr ⟨lw_p9, List.forall_mem_cons.mpr ⟨lw_p10, List.forall_mem_cons.mpr ⟨lw_p11, List.forall_mem_cons.mpr ⟨lw_p12, List.forall_mem_cons.mpr ⟨lw_p13, List.forall_mem_cons.mpr ⟨lw_p14, List.forall_mem_cons.mpr ⟨lw_p15, fun _ h => absurd h List.not_mem_nil⟩⟩⟩⟩⟩⟩⟩⟩⟩⟩⟩⟩⟩⟩⟩⟩
theorem lw_p16 : lw_okq (⟨"SeamReadingsModel", "findFault", "()I"⟩, 19) := ⟨⟨by decide +kernel, by decide +kernel⟩, List.mem_of_getElem? (i := 544) (by decide +kernel), List.mem_of_getElem? (i := 612) (by decide +kernel), List.mem_of_getElem? (i := 613) (by decide +kernel)⟩
theorem lw_p17 : lw_okq (⟨"SeamReadingsModel", "toldMany", "()I"⟩, 19) := ⟨⟨by decide +kernel, by decide +kernel⟩, List.mem_of_getElem? (i := 544) (by decide +kernel), List.mem_of_getElem? (i := 619) (by decide +kernel), List.mem_of_getElem? (i := 620) (by decide +kernel)⟩
theorem lw_p18 : lw_okq (⟨"SeamReadingsModel", "record", "()V"⟩, 19) := ⟨⟨by decide +kernel, by decide +kernel⟩, List.mem_of_getElem? (i := 544) (by decide +kernel), List.mem_of_getElem? (i := 623) (by decide +kernel), List.mem_of_getElem? (i := 624) (by decide +kernel)⟩
theorem lw_p19 : lw_okq (⟨"SeamReadingsModel", "readScroll", "(I)I"⟩, 19) := ⟨⟨by decide +kernel, by decide +kernel⟩, List.mem_of_getElem? (i := 544) (by decide +kernel), List.mem_of_getElem? (i := 630) (by decide +kernel), List.mem_of_getElem? (i := 631) (by decide +kernel)⟩
theorem lw_p20 : lw_okq (⟨"SeamReadingsModel", "give", "(I)V"⟩, 19) := ⟨⟨by decide +kernel, by decide +kernel⟩, List.mem_of_getElem? (i := 544) (by decide +kernel), List.mem_of_getElem? (i := 634) (by decide +kernel), List.mem_of_getElem? (i := 635) (by decide +kernel)⟩
theorem lw_p21 : lw_okq (⟨"SeamReadingsModel", "isScroll", "(I)Z"⟩, 19) := ⟨⟨by decide +kernel, by decide +kernel⟩, List.mem_of_getElem? (i := 544) (by decide +kernel), List.mem_of_getElem? (i := 642) (by decide +kernel), List.mem_of_getElem? (i := 643) (by decide +kernel)⟩
theorem lw_p22 : lw_okq (⟨"SeamReadingsModel", "lettersOf", "(I)I"⟩, 19) := ⟨⟨by decide +kernel, by decide +kernel⟩, List.mem_of_getElem? (i := 544) (by decide +kernel), List.mem_of_getElem? (i := 646) (by decide +kernel), List.mem_of_getElem? (i := 647) (by decide +kernel)⟩
theorem lw_p23 : lw_okq (⟨"SeamReadingsModel", "part", "(II)I"⟩, 19) := ⟨⟨by decide +kernel, by decide +kernel⟩, List.mem_of_getElem? (i := 544) (by decide +kernel), List.mem_of_getElem? (i := 650) (by decide +kernel), List.mem_of_getElem? (i := 651) (by decide +kernel)⟩
theorem lw_p24 : lw_okq (⟨"SeamReadingsModel", "goes", "(I)V"⟩, 19) := ⟨⟨by decide +kernel, by decide +kernel⟩, List.mem_of_getElem? (i := 544) (by decide +kernel), List.mem_of_getElem? (i := 654) (by decide +kernel), List.mem_of_getElem? (i := 655) (by decide +kernel)⟩
theorem lw_p25 : lw_okq (⟨"SeamReadingsModel", "isPatch", "(II)Z"⟩, 19) := ⟨⟨by decide +kernel, by decide +kernel⟩, List.mem_of_getElem? (i := 544) (by decide +kernel), List.mem_of_getElem? (i := 662) (by decide +kernel), List.mem_of_getElem? (i := 663) (by decide +kernel)⟩
theorem lw_p26 : lw_okq (⟨"SeamReadingsModel", "sizeOf", "(II)I"⟩, 19) := ⟨⟨by decide +kernel, by decide +kernel⟩, List.mem_of_getElem? (i := 544) (by decide +kernel), List.mem_of_getElem? (i := 666) (by decide +kernel), List.mem_of_getElem? (i := 667) (by decide +kernel)⟩
theorem lw_p27 : lw_okq (⟨"SeamReadingsModel", "take", "(I)V"⟩, 19) := ⟨⟨by decide +kernel, by decide +kernel⟩, List.mem_of_getElem? (i := 544) (by decide +kernel), List.mem_of_getElem? (i := 670) (by decide +kernel), List.mem_of_getElem? (i := 671) (by decide +kernel)⟩
theorem lw_p28 : lw_okq (⟨"SeamReadingsModel", "cutNow", "(II)V"⟩, 19) := ⟨⟨by decide +kernel, by decide +kernel⟩, List.mem_of_getElem? (i := 544) (by decide +kernel), List.mem_of_getElem? (i := 674) (by decide +kernel), List.mem_of_getElem? (i := 675) (by decide +kernel)⟩
theorem lw_p29 : lw_okq (⟨"SeamReadingsModel", "isSeam", "(II)Z"⟩, 19) := ⟨⟨by decide +kernel, by decide +kernel⟩, List.mem_of_getElem? (i := 544) (by decide +kernel), List.mem_of_getElem? (i := 682) (by decide +kernel), List.mem_of_getElem? (i := 683) (by decide +kernel)⟩
theorem lw_p30 : lw_okq (⟨"SeamReadingsModel", "undoNow", "(I)V"⟩, 19) := ⟨⟨by decide +kernel, by decide +kernel⟩, List.mem_of_getElem? (i := 544) (by decide +kernel), List.mem_of_getElem? (i := 686) (by decide +kernel), List.mem_of_getElem? (i := 687) (by decide +kernel)⟩
theorem lw_p31 : lw_okq (⟨"SeamReadingsModel", "search", "(Z)V"⟩, 19) := ⟨⟨by decide +kernel, by decide +kernel⟩, List.mem_of_getElem? (i := 544) (by decide +kernel), List.mem_of_getElem? (i := 698) (by decide +kernel), List.mem_of_getElem? (i := 699) (by decide +kernel)⟩
def lw_privs_2 : List (MethodName × Nat) := [(⟨"SeamReadingsModel", "findFault", "()I"⟩, 19), (⟨"SeamReadingsModel", "toldMany", "()I"⟩, 19), (⟨"SeamReadingsModel", "record", "()V"⟩, 19), (⟨"SeamReadingsModel", "readScroll", "(I)I"⟩, 19), (⟨"SeamReadingsModel", "give", "(I)V"⟩, 19), (⟨"SeamReadingsModel", "isScroll", "(I)Z"⟩, 19), (⟨"SeamReadingsModel", "lettersOf", "(I)I"⟩, 19), (⟨"SeamReadingsModel", "part", "(II)I"⟩, 19), (⟨"SeamReadingsModel", "goes", "(I)V"⟩, 19), (⟨"SeamReadingsModel", "isPatch", "(II)Z"⟩, 19), (⟨"SeamReadingsModel", "sizeOf", "(II)I"⟩, 19), (⟨"SeamReadingsModel", "take", "(I)V"⟩, 19), (⟨"SeamReadingsModel", "cutNow", "(II)V"⟩, 19), (⟨"SeamReadingsModel", "isSeam", "(II)Z"⟩, 19), (⟨"SeamReadingsModel", "undoNow", "(I)V"⟩, 19), (⟨"SeamReadingsModel", "search", "(Z)V"⟩, 19)]
theorem lw_r2 : ∀ q ∈ lw_privs_2, lw_okq q := List.forall_mem_cons.mpr ⟨lw_p16, List.forall_mem_cons.mpr ⟨lw_p17, List.forall_mem_cons.mpr ⟨lw_p18, List.forall_mem_cons.mpr ⟨lw_p19, List.forall_mem_cons.mpr ⟨lw_p20, List.forall_mem_cons.mpr ⟨lw_p21, List.forall_mem_cons.mpr ⟨lw_p22, List.forall_mem_cons.mpr ⟨lw_p23, List.forall_mem_cons.mpr ⟨lw_p24, List.forall_mem_cons.mpr ⟨lw_p25, List.forall_mem_cons.mpr ⟨lw_p26, List.forall_mem_cons.mpr ⟨lw_p27, List.forall_mem_cons.mpr ⟨lw_p28, List.forall_mem_cons.mpr ⟨lw_p29, List.forall_mem_cons.mpr ⟨lw_p30, List.forall_mem_cons.mpr ⟨lw_p31, fun _ h => absurd h List.not_mem_nil⟩⟩⟩⟩⟩⟩⟩⟩⟩⟩⟩⟩⟩⟩⟩⟩
theorem lw_p32 : lw_okq (⟨"SeamReadingsModel", "layDown", "(I)V"⟩, 19) := ⟨⟨by decide +kernel, by decide +kernel⟩, List.mem_of_getElem? (i := 544) (by decide +kernel), List.mem_of_getElem? (i := 702) (by decide +kernel), List.mem_of_getElem? (i := 703) (by decide +kernel)⟩
theorem lw_p33 : lw_okq (⟨"SeamReadingsModel", "takeIn", "(I)V"⟩, 19) := ⟨⟨by decide +kernel, by decide +kernel⟩, List.mem_of_getElem? (i := 544) (by decide +kernel), List.mem_of_getElem? (i := 706) (by decide +kernel), List.mem_of_getElem? (i := 707) (by decide +kernel)⟩
theorem lw_p34 : lw_okq (⟨"SeamReadingsModel", "findOf", "(I)V"⟩, 19) := ⟨⟨by decide +kernel, by decide +kernel⟩, List.mem_of_getElem? (i := 544) (by decide +kernel), List.mem_of_getElem? (i := 721) (by decide +kernel), List.mem_of_getElem? (i := 722) (by decide +kernel)⟩
theorem lw_p35 : lw_okq (⟨"SeamReadingsModel", "sameBothWays", "(I)I"⟩, 19) := ⟨⟨by decide +kernel, by decide +kernel⟩, List.mem_of_getElem? (i := 544) (by decide +kernel), List.mem_of_getElem? (i := 725) (by decide +kernel), List.mem_of_getElem? (i := 726) (by decide +kernel)⟩
theorem lw_p36 : lw_okq (⟨"SeamReadingsModel", "sameFromEnds", "()I"⟩, 19) := ⟨⟨by decide +kernel, by decide +kernel⟩, List.mem_of_getElem? (i := 544) (by decide +kernel), List.mem_of_getElem? (i := 729) (by decide +kernel), List.mem_of_getElem? (i := 730) (by decide +kernel)⟩
theorem lw_p37 : lw_okq (⟨"SeamReadingsModel", "letterOf", "(II)I"⟩, 19) := ⟨⟨by decide +kernel, by decide +kernel⟩, List.mem_of_getElem? (i := 544) (by decide +kernel), List.mem_of_getElem? (i := 733) (by decide +kernel), List.mem_of_getElem? (i := 734) (by decide +kernel)⟩
theorem lw_p38 : lw_okq (⟨"SeamReadingsModel", "needlessSeams", "(I)I"⟩, 19) := ⟨⟨by decide +kernel, by decide +kernel⟩, List.mem_of_getElem? (i := 544) (by decide +kernel), List.mem_of_getElem? (i := 737) (by decide +kernel), List.mem_of_getElem? (i := 738) (by decide +kernel)⟩
theorem lw_p39 : lw_okq (⟨"SeamReadingsModel", "keepOther", "()V"⟩, 19) := ⟨⟨by decide +kernel, by decide +kernel⟩, List.mem_of_getElem? (i := 544) (by decide +kernel), List.mem_of_getElem? (i := 741) (by decide +kernel), List.mem_of_getElem? (i := 742) (by decide +kernel)⟩
theorem lw_p40 : lw_okq (⟨"SeamReadingsModel", "meet", "()I"⟩, 19) := ⟨⟨by decide +kernel, by decide +kernel⟩, List.mem_of_getElem? (i := 544) (by decide +kernel), List.mem_of_getElem? (i := 745) (by decide +kernel), List.mem_of_getElem? (i := 746) (by decide +kernel)⟩
theorem lw_p41 : lw_okq (⟨"SeamReadingsModel", "isWord", "()Z"⟩, 19) := ⟨⟨by decide +kernel, by decide +kernel⟩, List.mem_of_getElem? (i := 544) (by decide +kernel), List.mem_of_getElem? (i := 765) (by decide +kernel), List.mem_of_getElem? (i := 766) (by decide +kernel)⟩
theorem lw_p42 : lw_okq (⟨"SeamReadingsModel", "placeIn", "(I)I"⟩, 19) := ⟨⟨by decide +kernel, by decide +kernel⟩, List.mem_of_getElem? (i := 544) (by decide +kernel), List.mem_of_getElem? (i := 769) (by decide +kernel), List.mem_of_getElem? (i := 770) (by decide +kernel)⟩
theorem lw_p43 : lw_okq (⟨"SeamReadingsModel", "sharedBy", "(II)I"⟩, 19) := ⟨⟨by decide +kernel, by decide +kernel⟩, List.mem_of_getElem? (i := 544) (by decide +kernel), List.mem_of_getElem? (i := 777) (by decide +kernel), List.mem_of_getElem? (i := 778) (by decide +kernel)⟩
theorem lw_p44 : lw_okq (⟨"SeamReadingsModel", "howTheyStand", "(II)I"⟩, 19) := ⟨⟨by decide +kernel, by decide +kernel⟩, List.mem_of_getElem? (i := 544) (by decide +kernel), List.mem_of_getElem? (i := 785) (by decide +kernel), List.mem_of_getElem? (i := 786) (by decide +kernel)⟩
theorem lw_p45 : lw_okq (⟨"SeamReadingsModel", "allPatches", "()I"⟩, 19) := ⟨⟨by decide +kernel, by decide +kernel⟩, List.mem_of_getElem? (i := 544) (by decide +kernel), List.mem_of_getElem? (i := 793) (by decide +kernel), List.mem_of_getElem? (i := 794) (by decide +kernel)⟩
theorem lw_p46 : lw_okq (⟨"SeamReadingsModel", "allLetters", "()I"⟩, 19) := ⟨⟨by decide +kernel, by decide +kernel⟩, List.mem_of_getElem? (i := 544) (by decide +kernel), List.mem_of_getElem? (i := 797) (by decide +kernel), List.mem_of_getElem? (i := 798) (by decide +kernel)⟩
theorem lw_p47 : lw_okq (⟨"SeamReadingsModel", "allReadings", "()I"⟩, 19) := ⟨⟨by decide +kernel, by decide +kernel⟩, List.mem_of_getElem? (i := 544) (by decide +kernel), List.mem_of_getElem? (i := 801) (by decide +kernel), List.mem_of_getElem? (i := 802) (by decide +kernel)⟩
def lw_privs_3 : List (MethodName × Nat) := [(⟨"SeamReadingsModel", "layDown", "(I)V"⟩, 19), (⟨"SeamReadingsModel", "takeIn", "(I)V"⟩, 19), (⟨"SeamReadingsModel", "findOf", "(I)V"⟩, 19), (⟨"SeamReadingsModel", "sameBothWays", "(I)I"⟩, 19), (⟨"SeamReadingsModel", "sameFromEnds", "()I"⟩, 19), (⟨"SeamReadingsModel", "letterOf", "(II)I"⟩, 19), (⟨"SeamReadingsModel", "needlessSeams", "(I)I"⟩, 19), (⟨"SeamReadingsModel", "keepOther", "()V"⟩, 19), (⟨"SeamReadingsModel", "meet", "()I"⟩, 19), (⟨"SeamReadingsModel", "isWord", "()Z"⟩, 19), (⟨"SeamReadingsModel", "placeIn", "(I)I"⟩, 19), (⟨"SeamReadingsModel", "sharedBy", "(II)I"⟩, 19), (⟨"SeamReadingsModel", "howTheyStand", "(II)I"⟩, 19), (⟨"SeamReadingsModel", "allPatches", "()I"⟩, 19), (⟨"SeamReadingsModel", "allLetters", "()I"⟩, 19), (⟨"SeamReadingsModel", "allReadings", "()I"⟩, 19)]
theorem lw_r3 : ∀ q ∈ lw_privs_3, lw_okq q := List.forall_mem_cons.mpr ⟨lw_p32, List.forall_mem_cons.mpr ⟨lw_p33, List.forall_mem_cons.mpr ⟨lw_p34, List.forall_mem_cons.mpr ⟨lw_p35, List.forall_mem_cons.mpr ⟨lw_p36, List.forall_mem_cons.mpr ⟨lw_p37, List.forall_mem_cons.mpr ⟨lw_p38, List.forall_mem_cons.mpr ⟨lw_p39, List.forall_mem_cons.mpr ⟨lw_p40, List.forall_mem_cons.mpr ⟨lw_p41, List.forall_mem_cons.mpr ⟨lw_p42, List.forall_mem_cons.mpr ⟨lw_p43, List.forall_mem_cons.mpr ⟨lw_p44, List.forall_mem_cons.mpr ⟨lw_p45, List.forall_mem_cons.mpr ⟨lw_p46, List.forall_mem_cons.mpr ⟨lw_p47, fun _ h => absurd h List.not_mem_nil⟩⟩⟩⟩⟩⟩⟩⟩⟩⟩⟩⟩⟩⟩⟩⟩
theorem lw_p48 : lw_okq (⟨"SeamReadingsModel", "samePairs", "()I"⟩, 19) := ⟨⟨by decide +kernel, by decide +kernel⟩, List.mem_of_getElem? (i := 544) (by decide +kernel), List.mem_of_getElem? (i := 805) (by decide +kernel), List.mem_of_getElem? (i := 806) (by decide +kernel)⟩
theorem lw_p49 : lw_okq (⟨"SeamReadingsModel", "readingsIfCut", "(III)I"⟩, 19) := ⟨⟨by decide +kernel, by decide +kernel⟩, List.mem_of_getElem? (i := 544) (by decide +kernel), List.mem_of_getElem? (i := 813) (by decide +kernel), List.mem_of_getElem? (i := 814) (by decide +kernel)⟩
def lw_privs_4 : List (MethodName × Nat) := [(⟨"SeamReadingsModel", "samePairs", "()I"⟩, 19), (⟨"SeamReadingsModel", "readingsIfCut", "(III)I"⟩, 19)]
theorem lw_r4 : ∀ q ∈ lw_privs_4, lw_okq q := List.forall_mem_cons.mpr ⟨lw_p48, List.forall_mem_cons.mpr ⟨lw_p49, fun _ h => absurd h List.not_mem_nil⟩⟩
def lw_privs : List (MethodName × Nat) := lw_privs_1 ++ (lw_privs_2 ++ (lw_privs_3 ++ (lw_privs_4)))
def lw_tbl : List Cond := k2_sels lw_privs ++ tables_1
theorem lw_privs_ok : ∀ q ∈ lw_privs, lw_okq q := by
  show ∀ q ∈ lw_privs_1 ++ (lw_privs_2 ++ (lw_privs_3 ++ (lw_privs_4))), lw_okq q
  exact List.forall_mem_append.mpr ⟨lw_r1, List.forall_mem_append.mpr ⟨lw_r2, List.forall_mem_append.mpr ⟨lw_r3, lw_r4⟩⟩⟩

def RX0 : String := "SeamReadings$End"
def TX0 : u_T := fun k => match k with
  | 0 => ("SeamReadings$End", "row", "[I", true)
  | 1 => ("SeamReadings$End", "starts", "[I", true)
  | 2 => ("SeamReadings$End", "ends", "[I", true)
  | 3 => ("SeamReadings$End", "digits", "I", false)
  | _ => ("SeamReadings$End", "number", "I", false)
def tyX0 : Nat → FieldType := fun k => match k with
  | 0 => .array .int
  | 1 => .array .int
  | 2 => .array .int
  | 3 => .int
  | _ => .int
abbrev wsX00 : List Cond := u_ws RX0 TX0 5
theorem nmX0 : ∀ a, a < 5 → ∀ b, b < 5 → a ≠ b → (TX0 a).2.1 ≠ (TX0 b).2.1 := by decide +kernel
theorem tyX0_ok : ∀ k, k < 5 → parseFieldDescriptor (TX0 k).2.2.1 = some (tyX0 k) := by decide +kernel
abbrev cX0_init : ByteArray := prog_2_method_1_code
def yX0_init : MethodName := ⟨RX0, "<init>", "()V"⟩
abbrev cX0_begin : ByteArray := prog_2_method_2_code
def yX0_begin : MethodName := ⟨RX0, "begin", "(LSeamReadings$Scroll;Z)V"⟩
abbrev cX0_addDigit : ByteArray := prog_2_method_3_code
def yX0_addDigit : MethodName := ⟨RX0, "addDigit", "(II)V"⟩
abbrev cX0_isOver : ByteArray := prog_2_method_4_code
def yX0_isOver : MethodName := ⟨RX0, "isOver", "()Z"⟩
abbrev cX0_step : ByteArray := prog_2_method_5_code
def yX0_step : MethodName := ⟨RX0, "step", "()V"⟩
def RX1 : String := "SeamReadings$History"
def TX1 : u_T := fun k => match k with
  | 0 => ("SeamReadings$History", "states", "[LSeamReadings$Shelf;", true)
  | _ => ("SeamReadings$History", "size", "I", false)
def tyX1 : Nat → FieldType := fun k => match k with
  | 0 => .array (.object "SeamReadings$Shelf")
  | _ => .int
abbrev wsX10 : List Cond := u_ws RX1 TX1 2
theorem nmX1 : ∀ a, a < 2 → ∀ b, b < 2 → a ≠ b → (TX1 a).2.1 ≠ (TX1 b).2.1 := by decide +kernel
theorem tyX1_ok : ∀ k, k < 2 → parseFieldDescriptor (TX1 k).2.2.1 = some (tyX1 k) := by decide +kernel
abbrev cX1_init : ByteArray := prog_3_method_1_code
def yX1_init : MethodName := ⟨RX1, "<init>", "()V"⟩
abbrev cX1_record : ByteArray := prog_3_method_2_code
def yX1_record : MethodName := ⟨RX1, "record", "(LSeamReadings$Shelf;)V"⟩
abbrev cX1_dropOldest : ByteArray := prog_3_method_3_code
def yX1_dropOldest : MethodName := ⟨RX1, "dropOldest", "()V"⟩
abbrev cX1_takeBack : ByteArray := prog_3_method_4_code
def yX1_takeBack : MethodName := ⟨RX1, "takeBack", "(LSeamReadings$Shelf;)Z"⟩
def RX2 : String := "SeamReadings$Pad"
def TX2 : u_T := fun k => match k with
  | 0 => ("SeamReadings$Pad", "codes", "[I", true)
  | _ => ("SeamReadings$Pad", "length", "I", false)
def tyX2 : Nat → FieldType := fun k => match k with
  | 0 => .array .int
  | _ => .int
abbrev wsX20 : List Cond := u_ws RX2 TX2 2
theorem nmX2 : ∀ a, a < 2 → ∀ b, b < 2 → a ≠ b → (TX2 a).2.1 ≠ (TX2 b).2.1 := by decide +kernel
theorem tyX2_ok : ∀ k, k < 2 → parseFieldDescriptor (TX2 k).2.2.1 = some (tyX2 k) := by decide +kernel
abbrev cX2_init : ByteArray := prog_4_method_1_code
def yX2_init : MethodName := ⟨RX2, "<init>", "()V"⟩
abbrev cX2_empty : ByteArray := prog_4_method_2_code
def yX2_empty : MethodName := ⟨RX2, "empty", "()V"⟩
abbrev cX2_append : ByteArray := prog_4_method_3_code
def yX2_append : MethodName := ⟨RX2, "append", "(I)V"⟩
abbrev cX2_codeAt : ByteArray := prog_4_method_4_code
def yX2_codeAt : MethodName := ⟨RX2, "codeAt", "(I)I"⟩
abbrev cX2_scrollsOfText : ByteArray := prog_4_method_5_code
def yX2_scrollsOfText : MethodName := ⟨RX2, "scrollsOfText", "()I"⟩
abbrev cX2_firstFault : ByteArray := prog_4_method_6_code
def yX2_firstFault : MethodName := ⟨RX2, "firstFault", "()I"⟩
abbrev cX2_isWord : ByteArray := prog_4_method_7_code
def yX2_isWord : MethodName := ⟨RX2, "isWord", "()Z"⟩
abbrev cX2_placeIn : ByteArray := prog_4_method_8_code
def yX2_placeIn : MethodName := ⟨RX2, "placeIn", "([II)I"⟩
abbrev cX2_standsAt : ByteArray := prog_4_method_9_code
def yX2_standsAt : MethodName := ⟨RX2, "standsAt", "([II)Z"⟩
def RX3 : String := "SeamReadings$Readings"
def TX3 : u_T := fun k => match k with
  | 0 => ("SeamReadings$Readings", "first", "LSeamReadings$End;", true)
  | 1 => ("SeamReadings$Readings", "last", "LSeamReadings$End;", true)
  | 2 => ("SeamReadings$Readings", "row", "[I", true)
  | _ => ("SeamReadings$Readings", "length", "I", false)
def tyX3 : Nat → FieldType := fun k => match k with
  | 0 => .object "SeamReadings$End"
  | 1 => .object "SeamReadings$End"
  | 2 => .array .int
  | _ => .int
abbrev wsX30 : List Cond := u_ws RX3 TX3 4
theorem nmX3 : ∀ a, a < 4 → ∀ b, b < 4 → a ≠ b → (TX3 a).2.1 ≠ (TX3 b).2.1 := by decide +kernel
theorem tyX3_ok : ∀ k, k < 4 → parseFieldDescriptor (TX3 k).2.2.1 = some (tyX3 k) := by decide +kernel
abbrev cX3_init : ByteArray := prog_5_method_1_code
def yX3_init : MethodName := ⟨RX3, "<init>", "()V"⟩
abbrev cX3_begin : ByteArray := prog_5_method_2_code
def yX3_begin : MethodName := ⟨RX3, "begin", "(LSeamReadings$Scroll;)V"⟩
abbrev cX3_next : ByteArray := prog_5_method_3_code
def yX3_next : MethodName := ⟨RX3, "next", "()Z"⟩
abbrev cX3_orderOfEnds : ByteArray := prog_5_method_4_code
def yX3_orderOfEnds : MethodName := ⟨RX3, "orderOfEnds", "()I"⟩
abbrev cX3_letterAt : ByteArray := prog_5_method_5_code
def yX3_letterAt : MethodName := ⟨RX3, "letterAt", "(I)I"⟩
def RX4 : String := "SeamReadings$Scroll"
def TX4 : u_T := fun k => match k with
  | 0 => ("SeamReadings$Scroll", "letters", "[I", true)
  | 1 => ("SeamReadings$Scroll", "ends", "[I", true)
  | _ => ("SeamReadings$Scroll", "patches", "I", false)
def tyX4 : Nat → FieldType := fun k => match k with
  | 0 => .array .int
  | 1 => .array .int
  | _ => .int
abbrev wsX40 : List Cond := u_ws RX4 TX4 3
theorem nmX4 : ∀ a, a < 3 → ∀ b, b < 3 → a ≠ b → (TX4 a).2.1 ≠ (TX4 b).2.1 := by decide +kernel
theorem tyX4_ok : ∀ k, k < 3 → parseFieldDescriptor (TX4 k).2.2.1 = some (tyX4 k) := by decide +kernel
abbrev cX4_init : ByteArray := prog_6_method_1_code
def yX4_init : MethodName := ⟨RX4, "<init>", "()V"⟩
abbrev cX4_startAnew : ByteArray := prog_6_method_2_code
def yX4_startAnew : MethodName := ⟨RX4, "startAnew", "()V"⟩
abbrev cX4_addPatch : ByteArray := prog_6_method_3_code
def yX4_addPatch : MethodName := ⟨RX4, "addPatch", "()V"⟩
abbrev cX4_addLetter : ByteArray := prog_6_method_4_code
def yX4_addLetter : MethodName := ⟨RX4, "addLetter", "(I)V"⟩
abbrev cX4_copyFrom : ByteArray := prog_6_method_5_code
def yX4_copyFrom : MethodName := ⟨RX4, "copyFrom", "(LSeamReadings$Scroll;)V"⟩
abbrev cX4_hasPatch : ByteArray := prog_6_method_6_code
def yX4_hasPatch : MethodName := ⟨RX4, "hasPatch", "(I)Z"⟩
abbrev cX4_hasSeam : ByteArray := prog_6_method_7_code
def yX4_hasSeam : MethodName := ⟨RX4, "hasSeam", "(I)Z"⟩
abbrev cX4_canBeCut : ByteArray := prog_6_method_8_code
def yX4_canBeCut : MethodName := ⟨RX4, "canBeCut", "(II)Z"⟩
abbrev cX4_endOf : ByteArray := prog_6_method_9_code
def yX4_endOf : MethodName := ⟨RX4, "endOf", "(I)I"⟩
abbrev cX4_startOf : ByteArray := prog_6_method_10_code
def yX4_startOf : MethodName := ⟨RX4, "startOf", "(I)I"⟩
abbrev cX4_sizeOf : ByteArray := prog_6_method_11_code
def yX4_sizeOf : MethodName := ⟨RX4, "sizeOf", "(I)I"⟩
abbrev cX4_length : ByteArray := prog_6_method_12_code
def yX4_length : MethodName := ⟨RX4, "length", "()I"⟩
abbrev cX4_letterAt : ByteArray := prog_6_method_13_code
def yX4_letterAt : MethodName := ⟨RX4, "letterAt", "(I)I"⟩
abbrev cX4_split : ByteArray := prog_6_method_14_code
def yX4_split : MethodName := ⟨RX4, "split", "(II)V"⟩
abbrev cX4_merge : ByteArray := prog_6_method_15_code
def yX4_merge : MethodName := ⟨RX4, "merge", "(I)V"⟩
abbrev cX4_unlikeTurned : ByteArray := prog_6_method_16_code
def yX4_unlikeTurned : MethodName := ⟨RX4, "unlikeTurned", "(I)I"⟩
abbrev cX4_turnRound : ByteArray := prog_6_method_17_code
def yX4_turnRound : MethodName := ⟨RX4, "turnRound", "(I)V"⟩
abbrev cX4_swapBeside : ByteArray := prog_6_method_18_code
def yX4_swapBeside : MethodName := ⟨RX4, "swapBeside", "(I)V"⟩
abbrev cX4_sewOn : ByteArray := prog_6_method_19_code
def yX4_sewOn : MethodName := ⟨RX4, "sewOn", "(LSeamReadings$Scroll;)V"⟩
abbrev cX4_isEven : ByteArray := prog_6_method_20_code
def yX4_isEven : MethodName := ⟨RX4, "isEven", "(I)Z"⟩
abbrev cX4_evenPatches : ByteArray := prog_6_method_21_code
def yX4_evenPatches : MethodName := ⟨RX4, "evenPatches", "()I"⟩
abbrev cX4_waysFromFirst : ByteArray := prog_6_method_22_code
def yX4_waysFromFirst : MethodName := ⟨RX4, "waysFromFirst", "()I"⟩
abbrev cX4_lay : ByteArray := prog_6_method_23_code
def yX4_lay : MethodName := ⟨RX4, "lay", "(IIZ[II)V"⟩
abbrev cX4_tells : ByteArray := prog_6_method_24_code
def yX4_tells : MethodName := ⟨RX4, "tells", "([II)Z"⟩
abbrev cX4_beginsWith : ByteArray := prog_6_method_25_code
def yX4_beginsWith : MethodName := ⟨RX4, "beginsWith", "([IIZ)Z"⟩
abbrev cX4_standsAt : ByteArray := prog_6_method_26_code
def yX4_standsAt : MethodName := ⟨RX4, "standsAt", "([IIIIIZ)Z"⟩
def RX5 : String := "SeamReadings$Shelf"
def TX5 : u_T := fun k => match k with
  | 0 => ("SeamReadings$Shelf", "scrolls", "[LSeamReadings$Scroll;", true)
  | _ => ("SeamReadings$Shelf", "size", "I", false)
def tyX5 : Nat → FieldType := fun k => match k with
  | 0 => .array (.object "SeamReadings$Scroll")
  | _ => .int
abbrev wsX50 : List Cond := u_ws RX5 TX5 2
theorem nmX5 : ∀ a, a < 2 → ∀ b, b < 2 → a ≠ b → (TX5 a).2.1 ≠ (TX5 b).2.1 := by decide +kernel
theorem tyX5_ok : ∀ k, k < 2 → parseFieldDescriptor (TX5 k).2.2.1 = some (tyX5 k) := by decide +kernel
abbrev cX5_init : ByteArray := prog_7_method_1_code
def yX5_init : MethodName := ⟨RX5, "<init>", "()V"⟩
abbrev cX5_at : ByteArray := prog_7_method_2_code
def yX5_at : MethodName := ⟨RX5, "at", "(I)LSeamReadings$Scroll;"⟩
abbrev cX5_addScroll : ByteArray := prog_7_method_3_code
def yX5_addScroll : MethodName := ⟨RX5, "addScroll", "()LSeamReadings$Scroll;"⟩
abbrev cX5_remove : ByteArray := prog_7_method_4_code
def yX5_remove : MethodName := ⟨RX5, "remove", "(I)V"⟩
abbrev cX5_copyFrom : ByteArray := prog_7_method_5_code
def yX5_copyFrom : MethodName := ⟨RX5, "copyFrom", "(LSeamReadings$Shelf;)V"⟩
abbrev cX5_patchesOfAll : ByteArray := prog_7_method_6_code
def yX5_patchesOfAll : MethodName := ⟨RX5, "patchesOfAll", "()I"⟩
abbrev cX5_lettersOfAll : ByteArray := prog_7_method_7_code
def yX5_lettersOfAll : MethodName := ⟨RX5, "lettersOfAll", "()I"⟩
abbrev cX5_tellsBefore : ByteArray := prog_7_method_8_code
def yX5_tellsBefore : MethodName := ⟨RX5, "tellsBefore", "(I[II)Z"⟩
def RX6 : String := "SeamReadings"
def TX6 : u_T := fun k => match k with
  | 0 => ("SeamReadings", "shelf", "LSeamReadings$Shelf;", true)
  | 1 => ("SeamReadings", "pad", "LSeamReadings$Pad;", true)
  | 2 => ("SeamReadings", "history", "LSeamReadings$History;", true)
  | 3 => ("SeamReadings", "slots", "[LSeamReadings$Shelf;", true)
  | 4 => ("SeamReadings", "saved", "[Z", true)
  | 5 => ("SeamReadings", "readings", "LSeamReadings$Readings;", true)
  | 6 => ("SeamReadings", "trial", "LSeamReadings$Scroll;", true)
  | _ => ("SeamReadings", "trialRow", "[I", true)
def tyX6 : Nat → FieldType := fun k => match k with
  | 0 => .object "SeamReadings$Shelf"
  | 1 => .object "SeamReadings$Pad"
  | 2 => .object "SeamReadings$History"
  | 3 => .array (.object "SeamReadings$Shelf")
  | 4 => .array .boolean
  | 5 => .object "SeamReadings$Readings"
  | 6 => .object "SeamReadings$Scroll"
  | _ => .array .int
abbrev wsX60 : List Cond := u_ws RX6 TX6 8
theorem nmX6 : ∀ a, a < 8 → ∀ b, b < 8 → a ≠ b → (TX6 a).2.1 ≠ (TX6 b).2.1 := by decide +kernel
theorem tyX6_ok : ∀ k, k < 8 → parseFieldDescriptor (TX6 k).2.2.1 = some (tyX6 k) := by decide +kernel
abbrev cX6_init : ByteArray := prog_1_method_1_code
def yX6_init : MethodName := ⟨RX6, "<init>", "()V"⟩
abbrev cX6_sew : ByteArray := prog_1_method_2_code
def yX6_sew : MethodName := ⟨RX6, "sew", "()I"⟩
abbrev cX6_burn : ByteArray := prog_1_method_3_code
def yX6_burn : MethodName := ⟨RX6, "burn", "(I)I"⟩
abbrev cX6_cut : ByteArray := prog_1_method_4_code
def yX6_cut : MethodName := ⟨RX6, "cut", "(III)I"⟩
abbrev cX6_undoSeam : ByteArray := prog_1_method_5_code
def yX6_undoSeam : MethodName := ⟨RX6, "undoSeam", "(II)I"⟩
abbrev cX6_turn : ByteArray := prog_1_method_6_code
def yX6_turn : MethodName := ⟨RX6, "turn", "(II)I"⟩
abbrev cX6_exchange : ByteArray := prog_1_method_7_code
def yX6_exchange : MethodName := ⟨RX6, "exchange", "(II)I"⟩
abbrev cX6_join : ByteArray := prog_1_method_8_code
def yX6_join : MethodName := ⟨RX6, "join", "(II)I"⟩
abbrev cX6_scroll : ByteArray := prog_1_method_9_code
def yX6_scroll : MethodName := ⟨RX6, "scroll", "(II)I"⟩
abbrev cX6_patch : ByteArray := prog_1_method_10_code
def yX6_patch : MethodName := ⟨RX6, "patch", "(II)I"⟩
abbrev cX6_letter : ByteArray := prog_1_method_11_code
def yX6_letter : MethodName := ⟨RX6, "letter", "(III)I"⟩
abbrev cX6_reading : ByteArray := prog_1_method_12_code
def yX6_reading : MethodName := ⟨RX6, "reading", "(III)I"⟩
abbrev cX6_find : ByteArray := prog_1_method_13_code
def yX6_find : MethodName := ⟨RX6, "find", "(II)I"⟩
abbrev cX6_shared : ByteArray := prog_1_method_14_code
def yX6_shared : MethodName := ⟨RX6, "shared", "(II)I"⟩
abbrev cX6_compare : ByteArray := prog_1_method_15_code
def yX6_compare : MethodName := ⟨RX6, "compare", "(II)I"⟩
abbrev cX6_count : ByteArray := prog_1_method_16_code
def yX6_count : MethodName := ⟨RX6, "count", "(I)I"⟩
abbrev cX6_ifCut : ByteArray := prog_1_method_17_code
def yX6_ifCut : MethodName := ⟨RX6, "ifCut", "(III)I"⟩
abbrev cX6_bestCut : ByteArray := prog_1_method_18_code
def yX6_bestCut : MethodName := ⟨RX6, "bestCut", "(II)I"⟩
abbrev cX6_put : ByteArray := prog_1_method_19_code
def yX6_put : MethodName := ⟨RX6, "put", "(J)I"⟩
abbrev cX6_wipe : ByteArray := prog_1_method_20_code
def yX6_wipe : MethodName := ⟨RX6, "wipe", "()I"⟩
abbrev cX6_fault : ByteArray := prog_1_method_21_code
def yX6_fault : MethodName := ⟨RX6, "fault", "()I"⟩
abbrev cX6_undo : ByteArray := prog_1_method_22_code
def yX6_undo : MethodName := ⟨RX6, "undo", "()I"⟩
abbrev cX6_save : ByteArray := prog_1_method_23_code
def yX6_save : MethodName := ⟨RX6, "save", "(I)I"⟩
abbrev cX6_restore : ByteArray := prog_1_method_24_code
def yX6_restore : MethodName := ⟨RX6, "restore", "(I)I"⟩
abbrev cX6_codeIn : ByteArray := prog_1_method_25_code
def yX6_codeIn : MethodName := ⟨RX6, "codeIn", "(JI)I"⟩
abbrev cX6_charactersIn : ByteArray := prog_1_method_26_code
def yX6_charactersIn : MethodName := ⟨RX6, "charactersIn", "(J)I"⟩
abbrev cX6_isLetter : ByteArray := prog_1_method_27_code
def yX6_isLetter : MethodName := ⟨RX6, "isLetter", "(I)Z"⟩
abbrev cX6_sewText : ByteArray := prog_1_method_28_code
def yX6_sewText : MethodName := ⟨RX6, "sewText", "()V"⟩
abbrev cX6_readingsOf : ByteArray := prog_1_method_29_code
def yX6_readingsOf : MethodName := ⟨RX6, "readingsOf", "(LSeamReadings$Scroll;)I"⟩
abbrev cX6_toldFromBothEnds : ByteArray := prog_1_method_30_code
def yX6_toldFromBothEnds : MethodName := ⟨RX6, "toldFromBothEnds", "(LSeamReadings$Scroll;[II)I"⟩
abbrev cX6_readingsWithCut : ByteArray := prog_1_method_31_code
def yX6_readingsWithCut : MethodName := ⟨RX6, "readingsWithCut", "(LSeamReadings$Scroll;II)I"⟩
abbrev cX6_readingsOfBoth : ByteArray := prog_1_method_32_code
def yX6_readingsOfBoth : MethodName := ⟨RX6, "readingsOfBoth", "(LSeamReadings$Scroll;LSeamReadings$Scroll;)I"⟩
abbrev cX6_tellTheSame : ByteArray := prog_1_method_33_code
def yX6_tellTheSame : MethodName := ⟨RX6, "tellTheSame", "(LSeamReadings$Scroll;LSeamReadings$Scroll;)Z"⟩
abbrev cX6_evenReadings : ByteArray := prog_1_method_34_code
def yX6_evenReadings : MethodName := ⟨RX6, "evenReadings", "(LSeamReadings$Scroll;)I"⟩
abbrev cX6_idleSeams : ByteArray := prog_1_method_35_code
def yX6_idleSeams : MethodName := ⟨RX6, "idleSeams", "(LSeamReadings$Scroll;)I"⟩
abbrev cX6_findWord : ByteArray := prog_1_method_36_code
def yX6_findWord : MethodName := ⟨RX6, "findWord", "(LSeamReadings$Scroll;I)I"⟩
abbrev cX6_readingsOfAll : ByteArray := prog_1_method_37_code
def yX6_readingsOfAll : MethodName := ⟨RX6, "readingsOfAll", "()I"⟩
abbrev cX6_readingsNotToldBefore : ByteArray := prog_1_method_38_code
def yX6_readingsNotToldBefore : MethodName := ⟨RX6, "readingsNotToldBefore", "(LSeamReadings$Scroll;I)I"⟩
abbrev cX6_pairsOfTheSame : ByteArray := prog_1_method_39_code
def yX6_pairsOfTheSame : MethodName := ⟨RX6, "pairsOfTheSame", "()I"⟩
abbrev cX6_turnPart : ByteArray := prog_1_method_40_code
def yX6_turnPart : MethodName := ⟨RX6, "turnPart", "([III)V"⟩
abbrev cX6_orderTurned : ByteArray := prog_1_method_41_code
def yX6_orderTurned : MethodName := ⟨RX6, "orderTurned", "([III)I"⟩
def RX7 : String := "SeamReadingsModel"
def TX7 : u_T := fun k => match k with
  | 0 => ("SeamReadingsModel", "state", "[I", true)
  | 1 => ("SeamReadingsModel", "history", "[I", true)
  | 2 => ("SeamReadingsModel", "recorded", "I", false)
  | 3 => ("SeamReadingsModel", "slots", "[I", true)
  | 4 => ("SeamReadingsModel", "isSaved", "[I", true)
  | 5 => ("SeamReadingsModel", "pad", "[I", true)
  | 6 => ("SeamReadingsModel", "padLength", "I", false)
  | 7 => ("SeamReadingsModel", "patches", "I", false)
  | 8 => ("SeamReadingsModel", "bounds", "[I", true)
  | 9 => ("SeamReadingsModel", "letters", "[I", true)
  | 10 => ("SeamReadingsModel", "rows", "[I", true)
  | 11 => ("SeamReadingsModel", "order", "[I", true)
  | 12 => ("SeamReadingsModel", "many", "I", false)
  | 13 => ("SeamReadingsModel", "length", "I", false)
  | 14 => ("SeamReadingsModel", "isMet", "[I", true)
  | 15 => ("SeamReadingsModel", "otherRows", "[I", true)
  | 16 => ("SeamReadingsModel", "otherOrder", "[I", true)
  | 17 => ("SeamReadingsModel", "otherMany", "I", false)
  | _ => ("SeamReadingsModel", "otherLength", "I", false)
def tyX7 : Nat → FieldType := fun k => match k with
  | 0 => .array .int
  | 1 => .array .int
  | 2 => .int
  | 3 => .array .int
  | 4 => .array .int
  | 5 => .array .int
  | 6 => .int
  | 7 => .int
  | 8 => .array .int
  | 9 => .array .int
  | 10 => .array .int
  | 11 => .array .int
  | 12 => .int
  | 13 => .int
  | 14 => .array .int
  | 15 => .array .int
  | 16 => .array .int
  | 17 => .int
  | _ => .int
abbrev wsX70 : List Cond := u_ws RX7 TX7 19
theorem nmX7 : ∀ a, a < 19 → ∀ b, b < 19 → a ≠ b → (TX7 a).2.1 ≠ (TX7 b).2.1 := by decide +kernel
theorem tyX7_ok : ∀ k, k < 19 → parseFieldDescriptor (TX7 k).2.2.1 = some (tyX7 k) := by decide +kernel
abbrev cX7_init : ByteArray := prog_9_method_1_code
def yX7_init : MethodName := ⟨RX7, "<init>", "()V"⟩
abbrev cX7_moves : ByteArray := prog_9_method_3_code
def yX7_moves : MethodName := ⟨RX7, "moves", "([II[II)V"⟩
abbrev cX7_within : ByteArray := prog_9_method_4_code
def yX7_within : MethodName := ⟨RX7, "within", "(III)Z"⟩
abbrev cX7_record : ByteArray := prog_9_method_5_code
def yX7_record : MethodName := ⟨RX7, "record", "()V"⟩
abbrev cX7_isScroll : ByteArray := prog_9_method_6_code
def yX7_isScroll : MethodName := ⟨RX7, "isScroll", "(I)Z"⟩
abbrev cX7_part : ByteArray := prog_9_method_7_code
def yX7_part : MethodName := ⟨RX7, "part", "(II)I"⟩
abbrev cX7_isPatch : ByteArray := prog_9_method_8_code
def yX7_isPatch : MethodName := ⟨RX7, "isPatch", "(II)Z"⟩
abbrev cX7_isSeam : ByteArray := prog_9_method_9_code
def yX7_isSeam : MethodName := ⟨RX7, "isSeam", "(II)Z"⟩
abbrev cX7_sizeOf : ByteArray := prog_9_method_10_code
def yX7_sizeOf : MethodName := ⟨RX7, "sizeOf", "(II)I"⟩
abbrev cX7_lettersOf : ByteArray := prog_9_method_11_code
def yX7_lettersOf : MethodName := ⟨RX7, "lettersOf", "(I)I"⟩
abbrev cX7_take : ByteArray := prog_9_method_12_code
def yX7_take : MethodName := ⟨RX7, "take", "(I)V"⟩
abbrev cX7_give : ByteArray := prog_9_method_13_code
def yX7_give : MethodName := ⟨RX7, "give", "(I)V"⟩
abbrev cX7_goes : ByteArray := prog_9_method_14_code
def yX7_goes : MethodName := ⟨RX7, "goes", "(I)V"⟩
abbrev cX7_cutNow : ByteArray := prog_9_method_15_code
def yX7_cutNow : MethodName := ⟨RX7, "cutNow", "(II)V"⟩
abbrev cX7_undoNow : ByteArray := prog_9_method_16_code
def yX7_undoNow : MethodName := ⟨RX7, "undoNow", "(I)V"⟩
abbrev cX7_layDown : ByteArray := prog_9_method_17_code
def yX7_layDown : MethodName := ⟨RX7, "layDown", "(I)V"⟩
abbrev cX7_compared : ByteArray := prog_9_method_18_code
def yX7_compared : MethodName := ⟨RX7, "compared", "([II[III)I"⟩
abbrev cX7_takeIn : ByteArray := prog_9_method_19_code
def yX7_takeIn : MethodName := ⟨RX7, "takeIn", "(I)V"⟩
abbrev cX7_search : ByteArray := prog_9_method_20_code
def yX7_search : MethodName := ⟨RX7, "search", "(Z)V"⟩
abbrev cX7_findOf : ByteArray := prog_9_method_21_code
def yX7_findOf : MethodName := ⟨RX7, "findOf", "(I)V"⟩
abbrev cX7_keepOther : ByteArray := prog_9_method_22_code
def yX7_keepOther : MethodName := ⟨RX7, "keepOther", "()V"⟩
abbrev cX7_meet : ByteArray := prog_9_method_23_code
def yX7_meet : MethodName := ⟨RX7, "meet", "()I"⟩
abbrev cX7_sharedBy : ByteArray := prog_9_method_24_code
def yX7_sharedBy : MethodName := ⟨RX7, "sharedBy", "(II)I"⟩
abbrev cX7_letterOf : ByteArray := prog_9_method_25_code
def yX7_letterOf : MethodName := ⟨RX7, "letterOf", "(II)I"⟩
abbrev cX7_toldMany : ByteArray := prog_9_method_26_code
def yX7_toldMany : MethodName := ⟨RX7, "toldMany", "()I"⟩
abbrev cX7_readScroll : ByteArray := prog_9_method_27_code
def yX7_readScroll : MethodName := ⟨RX7, "readScroll", "(I)I"⟩
abbrev cX7_sew : ByteArray := prog_9_method_28_code
def yX7_sew : MethodName := ⟨RX7, "sew", "()I"⟩
abbrev cX7_burn : ByteArray := prog_9_method_29_code
def yX7_burn : MethodName := ⟨RX7, "burn", "(I)I"⟩
abbrev cX7_cut : ByteArray := prog_9_method_30_code
def yX7_cut : MethodName := ⟨RX7, "cut", "(III)I"⟩
abbrev cX7_undoSeam : ByteArray := prog_9_method_31_code
def yX7_undoSeam : MethodName := ⟨RX7, "undoSeam", "(II)I"⟩
abbrev cX7_turn : ByteArray := prog_9_method_32_code
def yX7_turn : MethodName := ⟨RX7, "turn", "(II)I"⟩
abbrev cX7_exchange : ByteArray := prog_9_method_33_code
def yX7_exchange : MethodName := ⟨RX7, "exchange", "(II)I"⟩
abbrev cX7_join : ByteArray := prog_9_method_34_code
def yX7_join : MethodName := ⟨RX7, "join", "(II)I"⟩
abbrev cX7_sameBothWays : ByteArray := prog_9_method_35_code
def yX7_sameBothWays : MethodName := ⟨RX7, "sameBothWays", "(I)I"⟩
abbrev cX7_sameFromEnds : ByteArray := prog_9_method_36_code
def yX7_sameFromEnds : MethodName := ⟨RX7, "sameFromEnds", "()I"⟩
abbrev cX7_needlessSeams : ByteArray := prog_9_method_37_code
def yX7_needlessSeams : MethodName := ⟨RX7, "needlessSeams", "(I)I"⟩
abbrev cX7_scroll : ByteArray := prog_9_method_38_code
def yX7_scroll : MethodName := ⟨RX7, "scroll", "(II)I"⟩
abbrev cX7_patch : ByteArray := prog_9_method_39_code
def yX7_patch : MethodName := ⟨RX7, "patch", "(II)I"⟩
abbrev cX7_letter : ByteArray := prog_9_method_40_code
def yX7_letter : MethodName := ⟨RX7, "letter", "(III)I"⟩
abbrev cX7_reading : ByteArray := prog_9_method_41_code
def yX7_reading : MethodName := ⟨RX7, "reading", "(III)I"⟩
abbrev cX7_isWord : ByteArray := prog_9_method_42_code
def yX7_isWord : MethodName := ⟨RX7, "isWord", "()Z"⟩
abbrev cX7_placeIn : ByteArray := prog_9_method_43_code
def yX7_placeIn : MethodName := ⟨RX7, "placeIn", "(I)I"⟩
abbrev cX7_find : ByteArray := prog_9_method_44_code
def yX7_find : MethodName := ⟨RX7, "find", "(II)I"⟩
abbrev cX7_shared : ByteArray := prog_9_method_45_code
def yX7_shared : MethodName := ⟨RX7, "shared", "(II)I"⟩
abbrev cX7_howTheyStand : ByteArray := prog_9_method_46_code
def yX7_howTheyStand : MethodName := ⟨RX7, "howTheyStand", "(II)I"⟩
abbrev cX7_compare : ByteArray := prog_9_method_47_code
def yX7_compare : MethodName := ⟨RX7, "compare", "(II)I"⟩
abbrev cX7_allPatches : ByteArray := prog_9_method_48_code
def yX7_allPatches : MethodName := ⟨RX7, "allPatches", "()I"⟩
abbrev cX7_allLetters : ByteArray := prog_9_method_49_code
def yX7_allLetters : MethodName := ⟨RX7, "allLetters", "()I"⟩
abbrev cX7_allReadings : ByteArray := prog_9_method_50_code
def yX7_allReadings : MethodName := ⟨RX7, "allReadings", "()I"⟩
abbrev cX7_samePairs : ByteArray := prog_9_method_51_code
def yX7_samePairs : MethodName := ⟨RX7, "samePairs", "()I"⟩
abbrev cX7_count : ByteArray := prog_9_method_52_code
def yX7_count : MethodName := ⟨RX7, "count", "(I)I"⟩
abbrev cX7_readingsIfCut : ByteArray := prog_9_method_53_code
def yX7_readingsIfCut : MethodName := ⟨RX7, "readingsIfCut", "(III)I"⟩
abbrev cX7_ifCut : ByteArray := prog_9_method_54_code
def yX7_ifCut : MethodName := ⟨RX7, "ifCut", "(III)I"⟩
abbrev cX7_bestCut : ByteArray := prog_9_method_55_code
def yX7_bestCut : MethodName := ⟨RX7, "bestCut", "(II)I"⟩
abbrev cX7_put : ByteArray := prog_9_method_56_code
def yX7_put : MethodName := ⟨RX7, "put", "(J)I"⟩
abbrev cX7_wipe : ByteArray := prog_9_method_57_code
def yX7_wipe : MethodName := ⟨RX7, "wipe", "()I"⟩
abbrev cX7_findFault : ByteArray := prog_9_method_58_code
def yX7_findFault : MethodName := ⟨RX7, "findFault", "()I"⟩
abbrev cX7_fault : ByteArray := prog_9_method_59_code
def yX7_fault : MethodName := ⟨RX7, "fault", "()I"⟩
abbrev cX7_undo : ByteArray := prog_9_method_60_code
def yX7_undo : MethodName := ⟨RX7, "undo", "()I"⟩
abbrev cX7_save : ByteArray := prog_9_method_61_code
def yX7_save : MethodName := ⟨RX7, "save", "(I)I"⟩
abbrev cX7_restore : ByteArray := prog_9_method_62_code
def yX7_restore : MethodName := ⟨RX7, "restore", "(I)I"⟩
def RL : String := "SeamReadingsLaw"
abbrev cL_law : ByteArray := code
def yL_law : MethodName := ⟨RL, "law", "([I)Z"⟩
/-- the classes of the worlds -/
abbrev vwCl : List vw_C := [(RX0, TX0, 5), (RX1, TX1, 2), (RX2, TX2, 2), (RX3, TX3, 4), (RX4, TX4, 3), (RX5, TX5, 2), (RX6, TX6, 8), (RX7, TX7, 19)]
def zCn (o : Nat) : String := match o with
  | 0 => RX0
  | 1 => RX1
  | 2 => RX2
  | 3 => RX3
  | 4 => RX4
  | 5 => RX5
  | 6 => RX6
  | 7 => RX7
  | _ => RL
/-- a method: its class, its name, its bytes, its locals, its answer -/
abbrev zY : Type := Nat × MethodName × ByteArray × Nat × Option FieldType
def zYo (k : zY) : Nat := k.1
def zYn (k : zY) : MethodName := k.2.1
def zYb (k : zY) : ByteArray := k.2.2.1
def zYl (k : zY) : Nat := k.2.2.2.1
def zYr (k : zY) : Option FieldType := k.2.2.2.2
def zYi (k : zY) : Bool := (zYn k).name == "<init>"
def kX6_init : zY := (6, yX6_init, cX6_init, 2, none)
theorem o_X6_init : zYo kX6_init = 6 := rfl
theorem r_X6_init : zYr kX6_init = none := rfl
theorem i_X6_init : zYi kX6_init = true := rfl
def kX5_init : zY := (5, yX5_init, cX5_init, 2, none)
theorem o_X5_init : zYo kX5_init = 5 := rfl
theorem r_X5_init : zYr kX5_init = none := rfl
theorem i_X5_init : zYi kX5_init = true := rfl
def kX4_init : zY := (4, yX4_init, cX4_init, 1, none)
theorem o_X4_init : zYo kX4_init = 4 := rfl
theorem r_X4_init : zYr kX4_init = none := rfl
theorem i_X4_init : zYi kX4_init = true := rfl
def kX2_init : zY := (2, yX2_init, cX2_init, 1, none)
theorem o_X2_init : zYo kX2_init = 2 := rfl
theorem r_X2_init : zYr kX2_init = none := rfl
theorem i_X2_init : zYi kX2_init = true := rfl
def kX1_init : zY := (1, yX1_init, cX1_init, 2, none)
theorem o_X1_init : zYo kX1_init = 1 := rfl
theorem r_X1_init : zYr kX1_init = none := rfl
theorem i_X1_init : zYi kX1_init = true := rfl
def kX3_init : zY := (3, yX3_init, cX3_init, 1, none)
theorem o_X3_init : zYo kX3_init = 3 := rfl
theorem r_X3_init : zYr kX3_init = none := rfl
theorem i_X3_init : zYi kX3_init = true := rfl
def kX0_init : zY := (0, yX0_init, cX0_init, 1, none)
theorem o_X0_init : zYo kX0_init = 0 := rfl
theorem r_X0_init : zYr kX0_init = none := rfl
theorem i_X0_init : zYi kX0_init = true := rfl
def kX6_sew : zY := (6, yX6_sew, cX6_sew, 1, some (FieldType.int))
theorem o_X6_sew : zYo kX6_sew = 6 := rfl
theorem r_X6_sew : zYr kX6_sew = some (FieldType.int) := rfl
def kX2_firstFault : zY := (2, yX2_firstFault, cX2_firstFault, 6, some (FieldType.int))
theorem o_X2_firstFault : zYo kX2_firstFault = 2 := rfl
theorem r_X2_firstFault : zYr kX2_firstFault = some (FieldType.int) := rfl
def kX2_codeAt : zY := (2, yX2_codeAt, cX2_codeAt, 2, some (FieldType.int))
theorem o_X2_codeAt : zYo kX2_codeAt = 2 := rfl
theorem r_X2_codeAt : zYr kX2_codeAt = some (FieldType.int) := rfl
def kX6_isLetter : zY := (6, yX6_isLetter, cX6_isLetter, 1, some (FieldType.boolean))
theorem o_X6_isLetter : zYo kX6_isLetter = 6 := rfl
theorem r_X6_isLetter : zYr kX6_isLetter = some (FieldType.boolean) := rfl
def kX2_scrollsOfText : zY := (2, yX2_scrollsOfText, cX2_scrollsOfText, 3, some (FieldType.int))
theorem o_X2_scrollsOfText : zYo kX2_scrollsOfText = 2 := rfl
theorem r_X2_scrollsOfText : zYr kX2_scrollsOfText = some (FieldType.int) := rfl
def kX1_record : zY := (1, yX1_record, cX1_record, 3, none)
theorem o_X1_record : zYo kX1_record = 1 := rfl
theorem r_X1_record : zYr kX1_record = none := rfl
def kX1_dropOldest : zY := (1, yX1_dropOldest, cX1_dropOldest, 3, none)
theorem o_X1_dropOldest : zYo kX1_dropOldest = 1 := rfl
theorem r_X1_dropOldest : zYr kX1_dropOldest = none := rfl
def kX5_copyFrom : zY := (5, yX5_copyFrom, cX5_copyFrom, 5, none)
theorem o_X5_copyFrom : zYo kX5_copyFrom = 5 := rfl
theorem r_X5_copyFrom : zYr kX5_copyFrom = none := rfl
def kX5_at : zY := (5, yX5_at, cX5_at, 2, some (FieldType.object "SeamReadings$Scroll"))
theorem o_X5_at : zYo kX5_at = 5 := rfl
theorem r_X5_at : zYr kX5_at = some (FieldType.object "SeamReadings$Scroll") := rfl
def kX4_copyFrom : zY := (4, yX4_copyFrom, cX4_copyFrom, 2, none)
theorem o_X4_copyFrom : zYo kX4_copyFrom = 4 := rfl
theorem r_X4_copyFrom : zYr kX4_copyFrom = none := rfl
def kX6_sewText : zY := (6, yX6_sewText, cX6_sewText, 4, none)
theorem o_X6_sewText : zYo kX6_sewText = 6 := rfl
theorem r_X6_sewText : zYr kX6_sewText = none := rfl
def kX5_addScroll : zY := (5, yX5_addScroll, cX5_addScroll, 2, some (FieldType.object "SeamReadings$Scroll"))
theorem o_X5_addScroll : zYo kX5_addScroll = 5 := rfl
theorem r_X5_addScroll : zYr kX5_addScroll = some (FieldType.object "SeamReadings$Scroll") := rfl
def kX4_startAnew : zY := (4, yX4_startAnew, cX4_startAnew, 1, none)
theorem o_X4_startAnew : zYo kX4_startAnew = 4 := rfl
theorem r_X4_startAnew : zYr kX4_startAnew = none := rfl
def kX4_addPatch : zY := (4, yX4_addPatch, cX4_addPatch, 1, none)
theorem o_X4_addPatch : zYo kX4_addPatch = 4 := rfl
theorem r_X4_addPatch : zYr kX4_addPatch = none := rfl
def kX4_length : zY := (4, yX4_length, cX4_length, 1, some (FieldType.int))
theorem o_X4_length : zYo kX4_length = 4 := rfl
theorem r_X4_length : zYr kX4_length = some (FieldType.int) := rfl
def kX4_startOf : zY := (4, yX4_startOf, cX4_startOf, 2, some (FieldType.int))
theorem o_X4_startOf : zYo kX4_startOf = 4 := rfl
theorem r_X4_startOf : zYr kX4_startOf = some (FieldType.int) := rfl
def kX4_addLetter : zY := (4, yX4_addLetter, cX4_addLetter, 4, none)
theorem o_X4_addLetter : zYo kX4_addLetter = 4 := rfl
theorem r_X4_addLetter : zYr kX4_addLetter = none := rfl
def kX2_empty : zY := (2, yX2_empty, cX2_empty, 1, none)
theorem o_X2_empty : zYo kX2_empty = 2 := rfl
theorem r_X2_empty : zYr kX2_empty = none := rfl
def kX6_burn : zY := (6, yX6_burn, cX6_burn, 4, some (FieldType.int))
theorem o_X6_burn : zYo kX6_burn = 6 := rfl
theorem r_X6_burn : zYr kX6_burn = some (FieldType.int) := rfl
def kX5_remove : zY := (5, yX5_remove, cX5_remove, 4, none)
theorem o_X5_remove : zYo kX5_remove = 5 := rfl
theorem r_X5_remove : zYr kX5_remove = none := rfl
def kX6_cut : zY := (6, yX6_cut, cX6_cut, 5, some (FieldType.int))
theorem o_X6_cut : zYo kX6_cut = 6 := rfl
theorem r_X6_cut : zYr kX6_cut = some (FieldType.int) := rfl
def kX4_hasPatch : zY := (4, yX4_hasPatch, cX4_hasPatch, 2, some (FieldType.boolean))
theorem o_X4_hasPatch : zYo kX4_hasPatch = 4 := rfl
theorem r_X4_hasPatch : zYr kX4_hasPatch = some (FieldType.boolean) := rfl
def kX4_canBeCut : zY := (4, yX4_canBeCut, cX4_canBeCut, 3, some (FieldType.boolean))
theorem o_X4_canBeCut : zYo kX4_canBeCut = 4 := rfl
theorem r_X4_canBeCut : zYr kX4_canBeCut = some (FieldType.boolean) := rfl
def kX4_sizeOf : zY := (4, yX4_sizeOf, cX4_sizeOf, 2, some (FieldType.int))
theorem o_X4_sizeOf : zYo kX4_sizeOf = 4 := rfl
theorem r_X4_sizeOf : zYr kX4_sizeOf = some (FieldType.int) := rfl
def kX4_endOf : zY := (4, yX4_endOf, cX4_endOf, 2, some (FieldType.int))
theorem o_X4_endOf : zYo kX4_endOf = 4 := rfl
theorem r_X4_endOf : zYr kX4_endOf = some (FieldType.int) := rfl
def kX4_split : zY := (4, yX4_split, cX4_split, 5, none)
theorem o_X4_split : zYo kX4_split = 4 := rfl
theorem r_X4_split : zYr kX4_split = none := rfl
def kX6_undoSeam : zY := (6, yX6_undoSeam, cX6_undoSeam, 4, some (FieldType.int))
theorem o_X6_undoSeam : zYo kX6_undoSeam = 6 := rfl
theorem r_X6_undoSeam : zYr kX6_undoSeam = some (FieldType.int) := rfl
def kX4_hasSeam : zY := (4, yX4_hasSeam, cX4_hasSeam, 2, some (FieldType.boolean))
theorem o_X4_hasSeam : zYo kX4_hasSeam = 4 := rfl
theorem r_X4_hasSeam : zYr kX4_hasSeam = some (FieldType.boolean) := rfl
def kX4_merge : zY := (4, yX4_merge, cX4_merge, 3, none)
theorem o_X4_merge : zYo kX4_merge = 4 := rfl
theorem r_X4_merge : zYr kX4_merge = none := rfl
def kX6_turn : zY := (6, yX6_turn, cX6_turn, 5, some (FieldType.int))
theorem o_X6_turn : zYo kX6_turn = 6 := rfl
theorem r_X6_turn : zYr kX6_turn = some (FieldType.int) := rfl
def kX4_unlikeTurned : zY := (4, yX4_unlikeTurned, cX4_unlikeTurned, 6, some (FieldType.int))
theorem o_X4_unlikeTurned : zYo kX4_unlikeTurned = 4 := rfl
theorem r_X4_unlikeTurned : zYr kX4_unlikeTurned = some (FieldType.int) := rfl
def kX4_letterAt : zY := (4, yX4_letterAt, cX4_letterAt, 2, some (FieldType.int))
theorem o_X4_letterAt : zYo kX4_letterAt = 4 := rfl
theorem r_X4_letterAt : zYr kX4_letterAt = some (FieldType.int) := rfl
def kX4_turnRound : zY := (4, yX4_turnRound, cX4_turnRound, 2, none)
theorem o_X4_turnRound : zYo kX4_turnRound = 4 := rfl
theorem r_X4_turnRound : zYr kX4_turnRound = none := rfl
def kX6_turnPart : zY := (6, yX6_turnPart, cX6_turnPart, 6, none)
theorem o_X6_turnPart : zYo kX6_turnPart = 6 := rfl
theorem r_X6_turnPart : zYr kX6_turnPart = none := rfl
def kX6_exchange : zY := (6, yX6_exchange, cX6_exchange, 4, some (FieldType.int))
theorem o_X6_exchange : zYo kX6_exchange = 6 := rfl
theorem r_X6_exchange : zYr kX6_exchange = some (FieldType.int) := rfl
def kX4_swapBeside : zY := (4, yX4_swapBeside, cX4_swapBeside, 5, none)
theorem o_X4_swapBeside : zYo kX4_swapBeside = 4 := rfl
theorem r_X4_swapBeside : zYr kX4_swapBeside = none := rfl
def kX6_readingsOf : zY := (6, yX6_readingsOf, cX6_readingsOf, 2, some (FieldType.int))
theorem o_X6_readingsOf : zYo kX6_readingsOf = 6 := rfl
theorem r_X6_readingsOf : zYr kX6_readingsOf = some (FieldType.int) := rfl
def kX4_waysFromFirst : zY := (4, yX4_waysFromFirst, cX4_waysFromFirst, 3, some (FieldType.int))
theorem o_X4_waysFromFirst : zYo kX4_waysFromFirst = 4 := rfl
theorem r_X4_waysFromFirst : zYr kX4_waysFromFirst = some (FieldType.int) := rfl
def kX4_isEven : zY := (4, yX4_isEven, cX4_isEven, 2, some (FieldType.boolean))
theorem o_X4_isEven : zYo kX4_isEven = 4 := rfl
theorem r_X4_isEven : zYr kX4_isEven = some (FieldType.boolean) := rfl
def kX6_orderTurned : zY := (6, yX6_orderTurned, cX6_orderTurned, 5, some (FieldType.int))
theorem o_X6_orderTurned : zYo kX6_orderTurned = 6 := rfl
theorem r_X6_orderTurned : zYr kX6_orderTurned = some (FieldType.int) := rfl
def kX6_toldFromBothEnds : zY := (6, yX6_toldFromBothEnds, cX6_toldFromBothEnds, 8, some (FieldType.int))
theorem o_X6_toldFromBothEnds : zYo kX6_toldFromBothEnds = 6 := rfl
theorem r_X6_toldFromBothEnds : zYr kX6_toldFromBothEnds = some (FieldType.int) := rfl
def kX4_lay : zY := (4, yX4_lay, cX4_lay, 7, none)
theorem o_X4_lay : zYo kX4_lay = 4 := rfl
theorem r_X4_lay : zYr kX4_lay = none := rfl
def kX4_beginsWith : zY := (4, yX4_beginsWith, cX4_beginsWith, 9, some (FieldType.boolean))
theorem o_X4_beginsWith : zYo kX4_beginsWith = 4 := rfl
theorem r_X4_beginsWith : zYr kX4_beginsWith = some (FieldType.boolean) := rfl
def kX4_standsAt : zY := (4, yX4_standsAt, cX4_standsAt, 8, some (FieldType.boolean))
theorem o_X4_standsAt : zYo kX4_standsAt = 4 := rfl
theorem r_X4_standsAt : zYr kX4_standsAt = some (FieldType.boolean) := rfl
def kX6_join : zY := (6, yX6_join, cX6_join, 5, some (FieldType.int))
theorem o_X6_join : zYo kX6_join = 6 := rfl
theorem r_X6_join : zYr kX6_join = some (FieldType.int) := rfl
def kX4_sewOn : zY := (4, yX4_sewOn, cX4_sewOn, 4, none)
theorem o_X4_sewOn : zYo kX4_sewOn = 4 := rfl
theorem r_X4_sewOn : zYr kX4_sewOn = none := rfl
def kX6_scroll : zY := (6, yX6_scroll, cX6_scroll, 4, some (FieldType.int))
theorem o_X6_scroll : zYo kX6_scroll = 6 := rfl
theorem r_X6_scroll : zYr kX6_scroll = some (FieldType.int) := rfl
def kX4_evenPatches : zY := (4, yX4_evenPatches, cX4_evenPatches, 3, some (FieldType.int))
theorem o_X4_evenPatches : zYo kX4_evenPatches = 4 := rfl
theorem r_X4_evenPatches : zYr kX4_evenPatches = some (FieldType.int) := rfl
def kX6_evenReadings : zY := (6, yX6_evenReadings, cX6_evenReadings, 4, some (FieldType.int))
theorem o_X6_evenReadings : zYo kX6_evenReadings = 6 := rfl
theorem r_X6_evenReadings : zYr kX6_evenReadings = some (FieldType.int) := rfl
def kX3_begin : zY := (3, yX3_begin, cX3_begin, 2, none)
theorem o_X3_begin : zYo kX3_begin = 3 := rfl
theorem r_X3_begin : zYr kX3_begin = none := rfl
def kX0_begin : zY := (0, yX0_begin, cX0_begin, 10, none)
theorem o_X0_begin : zYo kX0_begin = 0 := rfl
theorem r_X0_begin : zYr kX0_begin = none := rfl
def kX0_addDigit : zY := (0, yX0_addDigit, cX0_addDigit, 3, none)
theorem o_X0_addDigit : zYo kX0_addDigit = 0 := rfl
theorem r_X0_addDigit : zYr kX0_addDigit = none := rfl
def kX3_next : zY := (3, yX3_next, cX3_next, 3, some (FieldType.boolean))
theorem o_X3_next : zYo kX3_next = 3 := rfl
theorem r_X3_next : zYr kX3_next = some (FieldType.boolean) := rfl
def kX0_isOver : zY := (0, yX0_isOver, cX0_isOver, 1, some (FieldType.boolean))
theorem o_X0_isOver : zYo kX0_isOver = 0 := rfl
theorem r_X0_isOver : zYr kX0_isOver = some (FieldType.boolean) := rfl
def kX3_orderOfEnds : zY := (3, yX3_orderOfEnds, cX3_orderOfEnds, 2, some (FieldType.int))
theorem o_X3_orderOfEnds : zYo kX3_orderOfEnds = 3 := rfl
theorem r_X3_orderOfEnds : zYr kX3_orderOfEnds = some (FieldType.int) := rfl
def kX0_step : zY := (0, yX0_step, cX0_step, 3, none)
theorem o_X0_step : zYo kX0_step = 0 := rfl
theorem r_X0_step : zYr kX0_step = none := rfl
def kX6_idleSeams : zY := (6, yX6_idleSeams, cX6_idleSeams, 4, some (FieldType.int))
theorem o_X6_idleSeams : zYo kX6_idleSeams = 6 := rfl
theorem r_X6_idleSeams : zYr kX6_idleSeams = some (FieldType.int) := rfl
def kX6_tellTheSame : zY := (6, yX6_tellTheSame, cX6_tellTheSame, 4, some (FieldType.boolean))
theorem o_X6_tellTheSame : zYo kX6_tellTheSame = 6 := rfl
theorem r_X6_tellTheSame : zYr kX6_tellTheSame = some (FieldType.boolean) := rfl
def kX6_readingsOfBoth : zY := (6, yX6_readingsOfBoth, cX6_readingsOfBoth, 5, some (FieldType.int))
theorem o_X6_readingsOfBoth : zYo kX6_readingsOfBoth = 6 := rfl
theorem r_X6_readingsOfBoth : zYr kX6_readingsOfBoth = some (FieldType.int) := rfl
def kX4_tells : zY := (4, yX4_tells, cX4_tells, 3, some (FieldType.boolean))
theorem o_X4_tells : zYo kX4_tells = 4 := rfl
theorem r_X4_tells : zYr kX4_tells = some (FieldType.boolean) := rfl
def kX6_patch : zY := (6, yX6_patch, cX6_patch, 4, some (FieldType.int))
theorem o_X6_patch : zYo kX6_patch = 6 := rfl
theorem r_X6_patch : zYr kX6_patch = some (FieldType.int) := rfl
def kX6_letter : zY := (6, yX6_letter, cX6_letter, 5, some (FieldType.int))
theorem o_X6_letter : zYo kX6_letter = 6 := rfl
theorem r_X6_letter : zYr kX6_letter = some (FieldType.int) := rfl
def kX6_reading : zY := (6, yX6_reading, cX6_reading, 6, some (FieldType.int))
theorem o_X6_reading : zYo kX6_reading = 6 := rfl
theorem r_X6_reading : zYr kX6_reading = some (FieldType.int) := rfl
def kX3_letterAt : zY := (3, yX3_letterAt, cX3_letterAt, 2, some (FieldType.int))
theorem o_X3_letterAt : zYo kX3_letterAt = 3 := rfl
theorem r_X3_letterAt : zYr kX3_letterAt = some (FieldType.int) := rfl
def kX6_find : zY := (6, yX6_find, cX6_find, 4, some (FieldType.int))
theorem o_X6_find : zYo kX6_find = 6 := rfl
theorem r_X6_find : zYr kX6_find = some (FieldType.int) := rfl
def kX2_isWord : zY := (2, yX2_isWord, cX2_isWord, 2, some (FieldType.boolean))
theorem o_X2_isWord : zYo kX2_isWord = 2 := rfl
theorem r_X2_isWord : zYr kX2_isWord = some (FieldType.boolean) := rfl
def kX6_findWord : zY := (6, yX6_findWord, cX6_findWord, 9, some (FieldType.int))
theorem o_X6_findWord : zYo kX6_findWord = 6 := rfl
theorem r_X6_findWord : zYr kX6_findWord = some (FieldType.int) := rfl
def kX2_placeIn : zY := (2, yX2_placeIn, cX2_placeIn, 4, some (FieldType.int))
theorem o_X2_placeIn : zYo kX2_placeIn = 2 := rfl
theorem r_X2_placeIn : zYr kX2_placeIn = some (FieldType.int) := rfl
def kX2_standsAt : zY := (2, yX2_standsAt, cX2_standsAt, 4, some (FieldType.boolean))
theorem o_X2_standsAt : zYo kX2_standsAt = 2 := rfl
theorem r_X2_standsAt : zYr kX2_standsAt = some (FieldType.boolean) := rfl
def kX6_shared : zY := (6, yX6_shared, cX6_shared, 5, some (FieldType.int))
theorem o_X6_shared : zYo kX6_shared = 6 := rfl
theorem r_X6_shared : zYr kX6_shared = some (FieldType.int) := rfl
def kX6_compare : zY := (6, yX6_compare, cX6_compare, 8, some (FieldType.int))
theorem o_X6_compare : zYo kX6_compare = 6 := rfl
theorem r_X6_compare : zYr kX6_compare = some (FieldType.int) := rfl
def kX6_count : zY := (6, yX6_count, cX6_count, 2, some (FieldType.int))
theorem o_X6_count : zYo kX6_count = 6 := rfl
theorem r_X6_count : zYr kX6_count = some (FieldType.int) := rfl
def kX5_patchesOfAll : zY := (5, yX5_patchesOfAll, cX5_patchesOfAll, 4, some (FieldType.int))
theorem o_X5_patchesOfAll : zYo kX5_patchesOfAll = 5 := rfl
theorem r_X5_patchesOfAll : zYr kX5_patchesOfAll = some (FieldType.int) := rfl
def kX5_lettersOfAll : zY := (5, yX5_lettersOfAll, cX5_lettersOfAll, 4, some (FieldType.int))
theorem o_X5_lettersOfAll : zYo kX5_lettersOfAll = 5 := rfl
theorem r_X5_lettersOfAll : zYr kX5_lettersOfAll = some (FieldType.int) := rfl
def kX6_readingsOfAll : zY := (6, yX6_readingsOfAll, cX6_readingsOfAll, 4, some (FieldType.int))
theorem o_X6_readingsOfAll : zYo kX6_readingsOfAll = 6 := rfl
theorem r_X6_readingsOfAll : zYr kX6_readingsOfAll = some (FieldType.int) := rfl
def kX6_readingsNotToldBefore : zY := (6, yX6_readingsNotToldBefore, cX6_readingsNotToldBefore, 5, some (FieldType.int))
theorem o_X6_readingsNotToldBefore : zYo kX6_readingsNotToldBefore = 6 := rfl
theorem r_X6_readingsNotToldBefore : zYr kX6_readingsNotToldBefore = some (FieldType.int) := rfl
def kX5_tellsBefore : zY := (5, yX5_tellsBefore, cX5_tellsBefore, 6, some (FieldType.boolean))
theorem o_X5_tellsBefore : zYo kX5_tellsBefore = 5 := rfl
theorem r_X5_tellsBefore : zYr kX5_tellsBefore = some (FieldType.boolean) := rfl
def kX6_pairsOfTheSame : zY := (6, yX6_pairsOfTheSame, cX6_pairsOfTheSame, 6, some (FieldType.int))
theorem o_X6_pairsOfTheSame : zYo kX6_pairsOfTheSame = 6 := rfl
theorem r_X6_pairsOfTheSame : zYr kX6_pairsOfTheSame = some (FieldType.int) := rfl
def kX6_ifCut : zY := (6, yX6_ifCut, cX6_ifCut, 5, some (FieldType.int))
theorem o_X6_ifCut : zYo kX6_ifCut = 6 := rfl
theorem r_X6_ifCut : zYr kX6_ifCut = some (FieldType.int) := rfl
def kX6_readingsWithCut : zY := (6, yX6_readingsWithCut, cX6_readingsWithCut, 4, some (FieldType.int))
theorem o_X6_readingsWithCut : zYo kX6_readingsWithCut = 6 := rfl
theorem r_X6_readingsWithCut : zYr kX6_readingsWithCut = some (FieldType.int) := rfl
def kX6_bestCut : zY := (6, yX6_bestCut, cX6_bestCut, 10, some (FieldType.int))
theorem o_X6_bestCut : zYo kX6_bestCut = 6 := rfl
theorem r_X6_bestCut : zYr kX6_bestCut = some (FieldType.int) := rfl
def kX6_put : zY := (6, yX6_put, cX6_put, 5, some (FieldType.int))
theorem o_X6_put : zYo kX6_put = 6 := rfl
theorem r_X6_put : zYr kX6_put = some (FieldType.int) := rfl
def kX6_charactersIn : zY := (6, yX6_charactersIn, cX6_charactersIn, 5, some (FieldType.int))
theorem o_X6_charactersIn : zYo kX6_charactersIn = 6 := rfl
theorem r_X6_charactersIn : zYr kX6_charactersIn = some (FieldType.int) := rfl
def kX6_codeIn : zY := (6, yX6_codeIn, cX6_codeIn, 3, some (FieldType.int))
theorem o_X6_codeIn : zYo kX6_codeIn = 6 := rfl
theorem r_X6_codeIn : zYr kX6_codeIn = some (FieldType.int) := rfl
def kX2_append : zY := (2, yX2_append, cX2_append, 2, none)
theorem o_X2_append : zYo kX2_append = 2 := rfl
theorem r_X2_append : zYr kX2_append = none := rfl
def kX6_wipe : zY := (6, yX6_wipe, cX6_wipe, 2, some (FieldType.int))
theorem o_X6_wipe : zYo kX6_wipe = 6 := rfl
theorem r_X6_wipe : zYr kX6_wipe = some (FieldType.int) := rfl
def kX6_fault : zY := (6, yX6_fault, cX6_fault, 1, some (FieldType.int))
theorem o_X6_fault : zYo kX6_fault = 6 := rfl
theorem r_X6_fault : zYr kX6_fault = some (FieldType.int) := rfl
def kX6_undo : zY := (6, yX6_undo, cX6_undo, 1, some (FieldType.int))
theorem o_X6_undo : zYo kX6_undo = 6 := rfl
theorem r_X6_undo : zYr kX6_undo = some (FieldType.int) := rfl
def kX1_takeBack : zY := (1, yX1_takeBack, cX1_takeBack, 3, some (FieldType.boolean))
theorem o_X1_takeBack : zYo kX1_takeBack = 1 := rfl
theorem r_X1_takeBack : zYr kX1_takeBack = some (FieldType.boolean) := rfl
def kX6_save : zY := (6, yX6_save, cX6_save, 3, some (FieldType.int))
theorem o_X6_save : zYo kX6_save = 6 := rfl
theorem r_X6_save : zYr kX6_save = some (FieldType.int) := rfl
def kX6_restore : zY := (6, yX6_restore, cX6_restore, 3, some (FieldType.int))
theorem o_X6_restore : zYo kX6_restore = 6 := rfl
theorem r_X6_restore : zYr kX6_restore = some (FieldType.int) := rfl
def kX7_init : zY := (7, yX7_init, cX7_init, 1, none)
theorem o_X7_init : zYo kX7_init = 7 := rfl
theorem r_X7_init : zYr kX7_init = none := rfl
theorem i_X7_init : zYi kX7_init = true := rfl
def kX7_sew : zY := (7, yX7_sew, cX7_sew, 2, some (FieldType.int))
theorem o_X7_sew : zYo kX7_sew = 7 := rfl
theorem r_X7_sew : zYr kX7_sew = some (FieldType.int) := rfl
def kX7_findFault : zY := (7, yX7_findFault, cX7_findFault, 9, some (FieldType.int))
theorem o_X7_findFault : zYo kX7_findFault = 7 := rfl
theorem r_X7_findFault : zYr kX7_findFault = some (FieldType.int) := rfl
def kX7_within : zY := (7, yX7_within, cX7_within, 3, some (FieldType.boolean))
theorem o_X7_within : zYo kX7_within = 7 := rfl
theorem r_X7_within : zYr kX7_within = some (FieldType.boolean) := rfl
def kX7_toldMany : zY := (7, yX7_toldMany, cX7_toldMany, 3, some (FieldType.int))
theorem o_X7_toldMany : zYo kX7_toldMany = 7 := rfl
theorem r_X7_toldMany : zYr kX7_toldMany = some (FieldType.int) := rfl
def kX7_record : zY := (7, yX7_record, cX7_record, 2, none)
theorem o_X7_record : zYo kX7_record = 7 := rfl
theorem r_X7_record : zYr kX7_record = none := rfl
def kX7_moves : zY := (7, yX7_moves, cX7_moves, 5, none)
theorem o_X7_moves : zYo kX7_moves = 7 := rfl
theorem r_X7_moves : zYr kX7_moves = none := rfl
def kX7_readScroll : zY := (7, yX7_readScroll, cX7_readScroll, 4, some (FieldType.int))
theorem o_X7_readScroll : zYo kX7_readScroll = 7 := rfl
theorem r_X7_readScroll : zYr kX7_readScroll = some (FieldType.int) := rfl
def kX7_give : zY := (7, yX7_give, cX7_give, 4, none)
theorem o_X7_give : zYo kX7_give = 7 := rfl
theorem r_X7_give : zYr kX7_give = none := rfl
def kX7_burn : zY := (7, yX7_burn, cX7_burn, 3, some (FieldType.int))
theorem o_X7_burn : zYo kX7_burn = 7 := rfl
theorem r_X7_burn : zYr kX7_burn = some (FieldType.int) := rfl
def kX7_isScroll : zY := (7, yX7_isScroll, cX7_isScroll, 2, some (FieldType.boolean))
theorem o_X7_isScroll : zYo kX7_isScroll = 7 := rfl
theorem r_X7_isScroll : zYr kX7_isScroll = some (FieldType.boolean) := rfl
def kX7_lettersOf : zY := (7, yX7_lettersOf, cX7_lettersOf, 2, some (FieldType.int))
theorem o_X7_lettersOf : zYo kX7_lettersOf = 7 := rfl
theorem r_X7_lettersOf : zYr kX7_lettersOf = some (FieldType.int) := rfl
def kX7_part : zY := (7, yX7_part, cX7_part, 3, some (FieldType.int))
theorem o_X7_part : zYo kX7_part = 7 := rfl
theorem r_X7_part : zYr kX7_part = some (FieldType.int) := rfl
def kX7_goes : zY := (7, yX7_goes, cX7_goes, 3, none)
theorem o_X7_goes : zYo kX7_goes = 7 := rfl
theorem r_X7_goes : zYr kX7_goes = none := rfl
def kX7_cut : zY := (7, yX7_cut, cX7_cut, 4, some (FieldType.int))
theorem o_X7_cut : zYo kX7_cut = 7 := rfl
theorem r_X7_cut : zYr kX7_cut = some (FieldType.int) := rfl
def kX7_isPatch : zY := (7, yX7_isPatch, cX7_isPatch, 3, some (FieldType.boolean))
theorem o_X7_isPatch : zYo kX7_isPatch = 7 := rfl
theorem r_X7_isPatch : zYr kX7_isPatch = some (FieldType.boolean) := rfl
def kX7_sizeOf : zY := (7, yX7_sizeOf, cX7_sizeOf, 3, some (FieldType.int))
theorem o_X7_sizeOf : zYo kX7_sizeOf = 7 := rfl
theorem r_X7_sizeOf : zYr kX7_sizeOf = some (FieldType.int) := rfl
def kX7_take : zY := (7, yX7_take, cX7_take, 3, none)
theorem o_X7_take : zYo kX7_take = 7 := rfl
theorem r_X7_take : zYr kX7_take = none := rfl
def kX7_cutNow : zY := (7, yX7_cutNow, cX7_cutNow, 4, none)
theorem o_X7_cutNow : zYo kX7_cutNow = 7 := rfl
theorem r_X7_cutNow : zYr kX7_cutNow = none := rfl
def kX7_undoSeam : zY := (7, yX7_undoSeam, cX7_undoSeam, 3, some (FieldType.int))
theorem o_X7_undoSeam : zYo kX7_undoSeam = 7 := rfl
theorem r_X7_undoSeam : zYr kX7_undoSeam = some (FieldType.int) := rfl
def kX7_isSeam : zY := (7, yX7_isSeam, cX7_isSeam, 3, some (FieldType.boolean))
theorem o_X7_isSeam : zYo kX7_isSeam = 7 := rfl
theorem r_X7_isSeam : zYr kX7_isSeam = some (FieldType.boolean) := rfl
def kX7_undoNow : zY := (7, yX7_undoNow, cX7_undoNow, 3, none)
theorem o_X7_undoNow : zYo kX7_undoNow = 7 := rfl
theorem r_X7_undoNow : zYr kX7_undoNow = none := rfl
def kX7_turn : zY := (7, yX7_turn, cX7_turn, 6, some (FieldType.int))
theorem o_X7_turn : zYo kX7_turn = 7 := rfl
theorem r_X7_turn : zYr kX7_turn = some (FieldType.int) := rfl
def kX7_exchange : zY := (7, yX7_exchange, cX7_exchange, 7, some (FieldType.int))
theorem o_X7_exchange : zYo kX7_exchange = 7 := rfl
theorem r_X7_exchange : zYr kX7_exchange = some (FieldType.int) := rfl
def kX7_search : zY := (7, yX7_search, cX7_search, 4, none)
theorem o_X7_search : zYo kX7_search = 7 := rfl
theorem r_X7_search : zYr kX7_search = none := rfl
def kX7_layDown : zY := (7, yX7_layDown, cX7_layDown, 8, none)
theorem o_X7_layDown : zYo kX7_layDown = 7 := rfl
theorem r_X7_layDown : zYr kX7_layDown = none := rfl
def kX7_takeIn : zY := (7, yX7_takeIn, cX7_takeIn, 5, none)
theorem o_X7_takeIn : zYo kX7_takeIn = 7 := rfl
theorem r_X7_takeIn : zYr kX7_takeIn = none := rfl
def kX7_compared : zY := (7, yX7_compared, cX7_compared, 6, some (FieldType.int))
theorem o_X7_compared : zYo kX7_compared = 7 := rfl
theorem r_X7_compared : zYr kX7_compared = some (FieldType.int) := rfl
def kX7_join : zY := (7, yX7_join, cX7_join, 5, some (FieldType.int))
theorem o_X7_join : zYo kX7_join = 7 := rfl
theorem r_X7_join : zYr kX7_join = some (FieldType.int) := rfl
def kX7_scroll : zY := (7, yX7_scroll, cX7_scroll, 3, some (FieldType.int))
theorem o_X7_scroll : zYo kX7_scroll = 7 := rfl
theorem r_X7_scroll : zYr kX7_scroll = some (FieldType.int) := rfl
def kX7_findOf : zY := (7, yX7_findOf, cX7_findOf, 2, none)
theorem o_X7_findOf : zYo kX7_findOf = 7 := rfl
theorem r_X7_findOf : zYr kX7_findOf = none := rfl
def kX7_sameBothWays : zY := (7, yX7_sameBothWays, cX7_sameBothWays, 7, some (FieldType.int))
theorem o_X7_sameBothWays : zYo kX7_sameBothWays = 7 := rfl
theorem r_X7_sameBothWays : zYr kX7_sameBothWays = some (FieldType.int) := rfl
def kX7_sameFromEnds : zY := (7, yX7_sameFromEnds, cX7_sameFromEnds, 5, some (FieldType.int))
theorem o_X7_sameFromEnds : zYo kX7_sameFromEnds = 7 := rfl
theorem r_X7_sameFromEnds : zYr kX7_sameFromEnds = some (FieldType.int) := rfl
def kX7_letterOf : zY := (7, yX7_letterOf, cX7_letterOf, 3, some (FieldType.int))
theorem o_X7_letterOf : zYo kX7_letterOf = 7 := rfl
theorem r_X7_letterOf : zYr kX7_letterOf = some (FieldType.int) := rfl
def kX7_needlessSeams : zY := (7, yX7_needlessSeams, cX7_needlessSeams, 4, some (FieldType.int))
theorem o_X7_needlessSeams : zYo kX7_needlessSeams = 7 := rfl
theorem r_X7_needlessSeams : zYr kX7_needlessSeams = some (FieldType.int) := rfl
def kX7_keepOther : zY := (7, yX7_keepOther, cX7_keepOther, 3, none)
theorem o_X7_keepOther : zYo kX7_keepOther = 7 := rfl
theorem r_X7_keepOther : zYr kX7_keepOther = none := rfl
def kX7_meet : zY := (7, yX7_meet, cX7_meet, 5, some (FieldType.int))
theorem o_X7_meet : zYo kX7_meet = 7 := rfl
theorem r_X7_meet : zYr kX7_meet = some (FieldType.int) := rfl
def kX7_patch : zY := (7, yX7_patch, cX7_patch, 3, some (FieldType.int))
theorem o_X7_patch : zYo kX7_patch = 7 := rfl
theorem r_X7_patch : zYr kX7_patch = some (FieldType.int) := rfl
def kX7_letter : zY := (7, yX7_letter, cX7_letter, 4, some (FieldType.int))
theorem o_X7_letter : zYo kX7_letter = 7 := rfl
theorem r_X7_letter : zYr kX7_letter = some (FieldType.int) := rfl
def kX7_reading : zY := (7, yX7_reading, cX7_reading, 4, some (FieldType.int))
theorem o_X7_reading : zYo kX7_reading = 7 := rfl
theorem r_X7_reading : zYr kX7_reading = some (FieldType.int) := rfl
def kX7_find : zY := (7, yX7_find, cX7_find, 7, some (FieldType.int))
theorem o_X7_find : zYo kX7_find = 7 := rfl
theorem r_X7_find : zYr kX7_find = some (FieldType.int) := rfl
def kX7_isWord : zY := (7, yX7_isWord, cX7_isWord, 3, some (FieldType.boolean))
theorem o_X7_isWord : zYo kX7_isWord = 7 := rfl
theorem r_X7_isWord : zYr kX7_isWord = some (FieldType.boolean) := rfl
def kX7_placeIn : zY := (7, yX7_placeIn, cX7_placeIn, 5, some (FieldType.int))
theorem o_X7_placeIn : zYo kX7_placeIn = 7 := rfl
theorem r_X7_placeIn : zYr kX7_placeIn = some (FieldType.int) := rfl
def kX7_shared : zY := (7, yX7_shared, cX7_shared, 3, some (FieldType.int))
theorem o_X7_shared : zYo kX7_shared = 7 := rfl
theorem r_X7_shared : zYr kX7_shared = some (FieldType.int) := rfl
def kX7_sharedBy : zY := (7, yX7_sharedBy, cX7_sharedBy, 3, some (FieldType.int))
theorem o_X7_sharedBy : zYo kX7_sharedBy = 7 := rfl
theorem r_X7_sharedBy : zYr kX7_sharedBy = some (FieldType.int) := rfl
def kX7_compare : zY := (7, yX7_compare, cX7_compare, 3, some (FieldType.int))
theorem o_X7_compare : zYo kX7_compare = 7 := rfl
theorem r_X7_compare : zYr kX7_compare = some (FieldType.int) := rfl
def kX7_howTheyStand : zY := (7, yX7_howTheyStand, cX7_howTheyStand, 4, some (FieldType.int))
theorem o_X7_howTheyStand : zYo kX7_howTheyStand = 7 := rfl
theorem r_X7_howTheyStand : zYr kX7_howTheyStand = some (FieldType.int) := rfl
def kX7_count : zY := (7, yX7_count, cX7_count, 2, some (FieldType.int))
theorem o_X7_count : zYo kX7_count = 7 := rfl
theorem r_X7_count : zYr kX7_count = some (FieldType.int) := rfl
def kX7_allPatches : zY := (7, yX7_allPatches, cX7_allPatches, 3, some (FieldType.int))
theorem o_X7_allPatches : zYo kX7_allPatches = 7 := rfl
theorem r_X7_allPatches : zYr kX7_allPatches = some (FieldType.int) := rfl
def kX7_allLetters : zY := (7, yX7_allLetters, cX7_allLetters, 3, some (FieldType.int))
theorem o_X7_allLetters : zYo kX7_allLetters = 7 := rfl
theorem r_X7_allLetters : zYr kX7_allLetters = some (FieldType.int) := rfl
def kX7_allReadings : zY := (7, yX7_allReadings, cX7_allReadings, 4, some (FieldType.int))
theorem o_X7_allReadings : zYo kX7_allReadings = 7 := rfl
theorem r_X7_allReadings : zYr kX7_allReadings = some (FieldType.int) := rfl
def kX7_samePairs : zY := (7, yX7_samePairs, cX7_samePairs, 4, some (FieldType.int))
theorem o_X7_samePairs : zYo kX7_samePairs = 7 := rfl
theorem r_X7_samePairs : zYr kX7_samePairs = some (FieldType.int) := rfl
def kX7_ifCut : zY := (7, yX7_ifCut, cX7_ifCut, 4, some (FieldType.int))
theorem o_X7_ifCut : zYo kX7_ifCut = 7 := rfl
theorem r_X7_ifCut : zYr kX7_ifCut = some (FieldType.int) := rfl
def kX7_readingsIfCut : zY := (7, yX7_readingsIfCut, cX7_readingsIfCut, 4, some (FieldType.int))
theorem o_X7_readingsIfCut : zYo kX7_readingsIfCut = 7 := rfl
theorem r_X7_readingsIfCut : zYr kX7_readingsIfCut = some (FieldType.int) := rfl
def kX7_bestCut : zY := (7, yX7_bestCut, cX7_bestCut, 9, some (FieldType.int))
theorem o_X7_bestCut : zYo kX7_bestCut = 7 := rfl
theorem r_X7_bestCut : zYr kX7_bestCut = some (FieldType.int) := rfl
def kX7_put : zY := (7, yX7_put, cX7_put, 8, some (FieldType.int))
theorem o_X7_put : zYo kX7_put = 7 := rfl
theorem r_X7_put : zYr kX7_put = some (FieldType.int) := rfl
def kX7_wipe : zY := (7, yX7_wipe, cX7_wipe, 2, some (FieldType.int))
theorem o_X7_wipe : zYo kX7_wipe = 7 := rfl
theorem r_X7_wipe : zYr kX7_wipe = some (FieldType.int) := rfl
def kX7_fault : zY := (7, yX7_fault, cX7_fault, 1, some (FieldType.int))
theorem o_X7_fault : zYo kX7_fault = 7 := rfl
theorem r_X7_fault : zYr kX7_fault = some (FieldType.int) := rfl
def kX7_undo : zY := (7, yX7_undo, cX7_undo, 1, some (FieldType.int))
theorem o_X7_undo : zYo kX7_undo = 7 := rfl
theorem r_X7_undo : zYr kX7_undo = some (FieldType.int) := rfl
def kX7_save : zY := (7, yX7_save, cX7_save, 2, some (FieldType.int))
theorem o_X7_save : zYo kX7_save = 7 := rfl
theorem r_X7_save : zYr kX7_save = some (FieldType.int) := rfl
def kX7_restore : zY := (7, yX7_restore, cX7_restore, 2, some (FieldType.int))
theorem o_X7_restore : zYo kX7_restore = 7 := rfl
theorem r_X7_restore : zYr kX7_restore = some (FieldType.int) := rfl
def kL_law : zY := (8, yL_law, cL_law, 4, some (FieldType.boolean))
theorem o_L_law : zYo kL_law = 8 := rfl
/-- field links: (own class, pool number), (class of the object, slot, 0 an int or 1 a final reference), (nest mate, place in the tables) -/
def zFt : List ((Nat × Nat) × (Nat × Nat × Nat) × (Nat × Nat)) := [((4, 9), (4, 0, 1), (0, 81)), ((4, 15), (4, 1, 1), (0, 82)), ((4, 18), (4, 2, 0), (0, 83)), ((0, 28), (4, 2, 0), (1, 84)), ((6, 96), (4, 2, 0), (1, 85)), ((5, 33), (4, 2, 0), (1, 86)), ((5, 11), (5, 0, 1), (0, 95)), ((5, 18), (5, 1, 0), (0, 96)), ((6, 60), (5, 1, 0), (1, 97)), ((2, 9), (2, 0, 1), (0, 109)), ((2, 15), (2, 1, 0), (0, 110)), ((6, 179), (2, 1, 0), (1, 111)), ((1, 11), (1, 0, 1), (0, 126)), ((1, 18), (1, 1, 0), (0, 127)), ((6, 181), (1, 1, 0), (1, 128)), ((0, 9), (0, 0, 1), (0, 146)), ((3, 45), (0, 0, 1), (1, 147)), ((0, 15), (0, 1, 1), (0, 148)), ((0, 18), (0, 2, 1), (0, 149)), ((0, 21), (0, 3, 0), (0, 150)), ((0, 25), (0, 4, 0), (0, 151)), ((3, 12), (3, 0, 1), (0, 164)), ((3, 18), (3, 1, 1), (0, 165)), ((3, 21), (3, 2, 1), (0, 166)), ((6, 239), (3, 2, 1), (1, 167)), ((3, 31), (3, 3, 0), (0, 168)), ((6, 242), (3, 3, 0), (1, 169)), ((6, 10), (6, 0, 1), (0, 181)), ((6, 19), (6, 1, 1), (0, 182)), ((6, 26), (6, 2, 1), (0, 183)), ((6, 30), (6, 3, 1), (0, 184)), ((6, 34), (6, 4, 1), (0, 185)), ((6, 41), (6, 5, 1), (0, 186)), ((6, 48), (6, 6, 1), (0, 187)), ((6, 52), (6, 7, 1), (0, 188)), ((7, 7), (7, 0, 1), (0, 599)), ((7, 13), (7, 1, 1), (0, 600)), ((7, 46), (7, 2, 0), (0, 601)), ((7, 16), (7, 3, 1), (0, 602)), ((7, 19), (7, 4, 1), (0, 603)), ((7, 22), (7, 5, 1), (0, 604)), ((7, 109), (7, 6, 0), (0, 605)), ((7, 66), (7, 7, 0), (0, 606)), ((7, 25), (7, 8, 1), (0, 607)), ((7, 28), (7, 9, 1), (0, 608)), ((7, 31), (7, 10, 1), (0, 609)), ((7, 34), (7, 11, 1), (0, 610)), ((7, 69), (7, 12, 0), (0, 611)), ((7, 72), (7, 13, 0), (0, 612)), ((7, 37), (7, 14, 1), (0, 613)), ((7, 40), (7, 15, 1), (0, 614)), ((7, 43), (7, 16, 1), (0, 615)), ((7, 93), (7, 17, 0), (0, 616)), ((7, 96), (7, 18, 0), (0, 617))]
def zF (o i : Nat) : Option (Nat × Nat × Nat) := (zFt.find? (fun x => x.1 == (o, i))).map (fun x => x.2.1)
theorem zF_4_9 : zF 4 9 = some (4, 0, 1) := by decide +kernel
theorem zF_4_15 : zF 4 15 = some (4, 1, 1) := by decide +kernel
theorem zF_4_18 : zF 4 18 = some (4, 2, 0) := by decide +kernel
theorem zF_0_28 : zF 0 28 = some (4, 2, 0) := by decide +kernel
theorem zF_6_96 : zF 6 96 = some (4, 2, 0) := by decide +kernel
theorem zF_5_33 : zF 5 33 = some (4, 2, 0) := by decide +kernel
theorem zF_5_11 : zF 5 11 = some (5, 0, 1) := by decide +kernel
theorem zF_5_18 : zF 5 18 = some (5, 1, 0) := by decide +kernel
theorem zF_6_60 : zF 6 60 = some (5, 1, 0) := by decide +kernel
theorem zF_2_9 : zF 2 9 = some (2, 0, 1) := by decide +kernel
theorem zF_2_15 : zF 2 15 = some (2, 1, 0) := by decide +kernel
theorem zF_6_179 : zF 6 179 = some (2, 1, 0) := by decide +kernel
theorem zF_1_11 : zF 1 11 = some (1, 0, 1) := by decide +kernel
theorem zF_1_18 : zF 1 18 = some (1, 1, 0) := by decide +kernel
theorem zF_6_181 : zF 6 181 = some (1, 1, 0) := by decide +kernel
theorem zF_0_9 : zF 0 9 = some (0, 0, 1) := by decide +kernel
theorem zF_3_45 : zF 3 45 = some (0, 0, 1) := by decide +kernel
theorem zF_0_15 : zF 0 15 = some (0, 1, 1) := by decide +kernel
theorem zF_0_18 : zF 0 18 = some (0, 2, 1) := by decide +kernel
theorem zF_0_21 : zF 0 21 = some (0, 3, 0) := by decide +kernel
theorem zF_0_25 : zF 0 25 = some (0, 4, 0) := by decide +kernel
theorem zF_3_12 : zF 3 12 = some (3, 0, 1) := by decide +kernel
theorem zF_3_18 : zF 3 18 = some (3, 1, 1) := by decide +kernel
theorem zF_3_21 : zF 3 21 = some (3, 2, 1) := by decide +kernel
theorem zF_6_239 : zF 6 239 = some (3, 2, 1) := by decide +kernel
theorem zF_3_31 : zF 3 31 = some (3, 3, 0) := by decide +kernel
theorem zF_6_242 : zF 6 242 = some (3, 3, 0) := by decide +kernel
theorem zF_6_10 : zF 6 10 = some (6, 0, 1) := by decide +kernel
theorem zF_6_19 : zF 6 19 = some (6, 1, 1) := by decide +kernel
theorem zF_6_26 : zF 6 26 = some (6, 2, 1) := by decide +kernel
theorem zF_6_30 : zF 6 30 = some (6, 3, 1) := by decide +kernel
theorem zF_6_34 : zF 6 34 = some (6, 4, 1) := by decide +kernel
theorem zF_6_41 : zF 6 41 = some (6, 5, 1) := by decide +kernel
theorem zF_6_48 : zF 6 48 = some (6, 6, 1) := by decide +kernel
theorem zF_6_52 : zF 6 52 = some (6, 7, 1) := by decide +kernel
theorem zF_7_7 : zF 7 7 = some (7, 0, 1) := by decide +kernel
theorem zF_7_13 : zF 7 13 = some (7, 1, 1) := by decide +kernel
theorem zF_7_46 : zF 7 46 = some (7, 2, 0) := by decide +kernel
theorem zF_7_16 : zF 7 16 = some (7, 3, 1) := by decide +kernel
theorem zF_7_19 : zF 7 19 = some (7, 4, 1) := by decide +kernel
theorem zF_7_22 : zF 7 22 = some (7, 5, 1) := by decide +kernel
theorem zF_7_109 : zF 7 109 = some (7, 6, 0) := by decide +kernel
theorem zF_7_66 : zF 7 66 = some (7, 7, 0) := by decide +kernel
theorem zF_7_25 : zF 7 25 = some (7, 8, 1) := by decide +kernel
theorem zF_7_28 : zF 7 28 = some (7, 9, 1) := by decide +kernel
theorem zF_7_31 : zF 7 31 = some (7, 10, 1) := by decide +kernel
theorem zF_7_34 : zF 7 34 = some (7, 11, 1) := by decide +kernel
theorem zF_7_69 : zF 7 69 = some (7, 12, 0) := by decide +kernel
theorem zF_7_72 : zF 7 72 = some (7, 13, 0) := by decide +kernel
theorem zF_7_37 : zF 7 37 = some (7, 14, 1) := by decide +kernel
theorem zF_7_40 : zF 7 40 = some (7, 15, 1) := by decide +kernel
theorem zF_7_43 : zF 7 43 = some (7, 16, 1) := by decide +kernel
theorem zF_7_93 : zF 7 93 = some (7, 17, 0) := by decide +kernel
theorem zF_7_96 : zF 7 96 = some (7, 18, 0) := by decide +kernel
set_option maxRecDepth 100000 in
theorem kc_X6_init : Cond.code (zYn kX6_init) (zYb kX6_init) (zYl kX6_init) (zYr kX6_init) ∈ lw_tbl := List.mem_of_getElem? (i := 64) rfl
set_option maxRecDepth 100000 in
theorem kc_X5_init : Cond.code (zYn kX5_init) (zYb kX5_init) (zYl kX5_init) (zYr kX5_init) ∈ lw_tbl := List.mem_of_getElem? (i := 72) rfl
set_option maxRecDepth 100000 in
theorem kc_X4_init : Cond.code (zYn kX4_init) (zYb kX4_init) (zYl kX4_init) (zYr kX4_init) ∈ lw_tbl := List.mem_of_getElem? (i := 79) rfl
set_option maxRecDepth 100000 in
theorem kc_X2_init : Cond.code (zYn kX2_init) (zYb kX2_init) (zYl kX2_init) (zYr kX2_init) ∈ lw_tbl := List.mem_of_getElem? (i := 107) rfl
set_option maxRecDepth 100000 in
theorem kc_X1_init : Cond.code (zYn kX1_init) (zYb kX1_init) (zYl kX1_init) (zYr kX1_init) ∈ lw_tbl := List.mem_of_getElem? (i := 121) rfl
set_option maxRecDepth 100000 in
theorem kc_X3_init : Cond.code (zYn kX3_init) (zYb kX3_init) (zYl kX3_init) (zYr kX3_init) ∈ lw_tbl := List.mem_of_getElem? (i := 138) rfl
set_option maxRecDepth 100000 in
theorem kc_X0_init : Cond.code (zYn kX0_init) (zYb kX0_init) (zYl kX0_init) (zYr kX0_init) ∈ lw_tbl := List.mem_of_getElem? (i := 144) rfl
set_option maxRecDepth 100000 in
theorem kc_X6_sew : Cond.code (zYn kX6_sew) (zYb kX6_sew) (zYl kX6_sew) (zYr kX6_sew) ∈ lw_tbl := List.mem_of_getElem? (i := 209) rfl
set_option maxRecDepth 100000 in
theorem kc_X2_firstFault : Cond.code (zYn kX2_firstFault) (zYb kX2_firstFault) (zYl kX2_firstFault) (zYr kX2_firstFault) ∈ lw_tbl := List.mem_of_getElem? (i := 213) rfl
set_option maxRecDepth 100000 in
theorem kc_X2_codeAt : Cond.code (zYn kX2_codeAt) (zYb kX2_codeAt) (zYl kX2_codeAt) (zYr kX2_codeAt) ∈ lw_tbl := List.mem_of_getElem? (i := 217) rfl
set_option maxRecDepth 100000 in
theorem kc_X6_isLetter : Cond.code (zYn kX6_isLetter) (zYb kX6_isLetter) (zYl kX6_isLetter) (zYr kX6_isLetter) ∈ lw_tbl := List.mem_of_getElem? (i := 220) rfl
set_option maxRecDepth 100000 in
theorem kc_X2_scrollsOfText : Cond.code (zYn kX2_scrollsOfText) (zYb kX2_scrollsOfText) (zYl kX2_scrollsOfText) (zYr kX2_scrollsOfText) ∈ lw_tbl := List.mem_of_getElem? (i := 224) rfl
set_option maxRecDepth 100000 in
theorem kc_X1_record : Cond.code (zYn kX1_record) (zYb kX1_record) (zYl kX1_record) (zYr kX1_record) ∈ lw_tbl := List.mem_of_getElem? (i := 228) rfl
set_option maxRecDepth 100000 in
theorem kc_X1_dropOldest : Cond.code (zYn kX1_dropOldest) (zYb kX1_dropOldest) (zYl kX1_dropOldest) (zYr kX1_dropOldest) ∈ lw_tbl := List.mem_of_getElem? (i := 232) rfl
set_option maxRecDepth 100000 in
theorem kc_X5_copyFrom : Cond.code (zYn kX5_copyFrom) (zYb kX5_copyFrom) (zYl kX5_copyFrom) (zYr kX5_copyFrom) ∈ lw_tbl := List.mem_of_getElem? (i := 236) rfl
set_option maxRecDepth 100000 in
theorem kc_X5_at : Cond.code (zYn kX5_at) (zYb kX5_at) (zYl kX5_at) (zYr kX5_at) ∈ lw_tbl := List.mem_of_getElem? (i := 240) rfl
set_option maxRecDepth 100000 in
theorem kc_X4_copyFrom : Cond.code (zYn kX4_copyFrom) (zYb kX4_copyFrom) (zYl kX4_copyFrom) (zYr kX4_copyFrom) ∈ lw_tbl := List.mem_of_getElem? (i := 244) rfl
set_option maxRecDepth 100000 in
theorem kc_X6_sewText : Cond.code (zYn kX6_sewText) (zYb kX6_sewText) (zYl kX6_sewText) (zYr kX6_sewText) ∈ lw_tbl := List.mem_of_getElem? (i := 251) rfl
set_option maxRecDepth 100000 in
theorem kc_X5_addScroll : Cond.code (zYn kX5_addScroll) (zYb kX5_addScroll) (zYl kX5_addScroll) (zYr kX5_addScroll) ∈ lw_tbl := List.mem_of_getElem? (i := 255) rfl
set_option maxRecDepth 100000 in
theorem kc_X4_startAnew : Cond.code (zYn kX4_startAnew) (zYb kX4_startAnew) (zYl kX4_startAnew) (zYr kX4_startAnew) ∈ lw_tbl := List.mem_of_getElem? (i := 259) rfl
set_option maxRecDepth 100000 in
theorem kc_X4_addPatch : Cond.code (zYn kX4_addPatch) (zYb kX4_addPatch) (zYl kX4_addPatch) (zYr kX4_addPatch) ∈ lw_tbl := List.mem_of_getElem? (i := 263) rfl
set_option maxRecDepth 100000 in
theorem kc_X4_length : Cond.code (zYn kX4_length) (zYb kX4_length) (zYl kX4_length) (zYr kX4_length) ∈ lw_tbl := List.mem_of_getElem? (i := 267) rfl
set_option maxRecDepth 100000 in
theorem kc_X4_startOf : Cond.code (zYn kX4_startOf) (zYb kX4_startOf) (zYl kX4_startOf) (zYr kX4_startOf) ∈ lw_tbl := List.mem_of_getElem? (i := 271) rfl
set_option maxRecDepth 100000 in
theorem kc_X4_addLetter : Cond.code (zYn kX4_addLetter) (zYb kX4_addLetter) (zYl kX4_addLetter) (zYr kX4_addLetter) ∈ lw_tbl := List.mem_of_getElem? (i := 277) rfl
set_option maxRecDepth 100000 in
theorem kc_X2_empty : Cond.code (zYn kX2_empty) (zYb kX2_empty) (zYl kX2_empty) (zYr kX2_empty) ∈ lw_tbl := List.mem_of_getElem? (i := 281) rfl
set_option maxRecDepth 100000 in
theorem kc_X6_burn : Cond.code (zYn kX6_burn) (zYb kX6_burn) (zYl kX6_burn) (zYr kX6_burn) ∈ lw_tbl := List.mem_of_getElem? (i := 285) rfl
set_option maxRecDepth 100000 in
theorem kc_X5_remove : Cond.code (zYn kX5_remove) (zYb kX5_remove) (zYl kX5_remove) (zYr kX5_remove) ∈ lw_tbl := List.mem_of_getElem? (i := 291) rfl
set_option maxRecDepth 100000 in
theorem kc_X6_cut : Cond.code (zYn kX6_cut) (zYb kX6_cut) (zYl kX6_cut) (zYr kX6_cut) ∈ lw_tbl := List.mem_of_getElem? (i := 295) rfl
set_option maxRecDepth 100000 in
theorem kc_X4_hasPatch : Cond.code (zYn kX4_hasPatch) (zYb kX4_hasPatch) (zYl kX4_hasPatch) (zYr kX4_hasPatch) ∈ lw_tbl := List.mem_of_getElem? (i := 299) rfl
set_option maxRecDepth 100000 in
theorem kc_X4_canBeCut : Cond.code (zYn kX4_canBeCut) (zYb kX4_canBeCut) (zYl kX4_canBeCut) (zYr kX4_canBeCut) ∈ lw_tbl := List.mem_of_getElem? (i := 303) rfl
set_option maxRecDepth 100000 in
theorem kc_X4_sizeOf : Cond.code (zYn kX4_sizeOf) (zYb kX4_sizeOf) (zYl kX4_sizeOf) (zYr kX4_sizeOf) ∈ lw_tbl := List.mem_of_getElem? (i := 307) rfl
set_option maxRecDepth 100000 in
theorem kc_X4_endOf : Cond.code (zYn kX4_endOf) (zYb kX4_endOf) (zYl kX4_endOf) (zYr kX4_endOf) ∈ lw_tbl := List.mem_of_getElem? (i := 311) rfl
set_option maxRecDepth 100000 in
theorem kc_X4_split : Cond.code (zYn kX4_split) (zYb kX4_split) (zYl kX4_split) (zYr kX4_split) ∈ lw_tbl := List.mem_of_getElem? (i := 315) rfl
set_option maxRecDepth 100000 in
theorem kc_X6_undoSeam : Cond.code (zYn kX6_undoSeam) (zYb kX6_undoSeam) (zYl kX6_undoSeam) (zYr kX6_undoSeam) ∈ lw_tbl := List.mem_of_getElem? (i := 320) rfl
set_option maxRecDepth 100000 in
theorem kc_X4_hasSeam : Cond.code (zYn kX4_hasSeam) (zYb kX4_hasSeam) (zYl kX4_hasSeam) (zYr kX4_hasSeam) ∈ lw_tbl := List.mem_of_getElem? (i := 324) rfl
set_option maxRecDepth 100000 in
theorem kc_X4_merge : Cond.code (zYn kX4_merge) (zYb kX4_merge) (zYl kX4_merge) (zYr kX4_merge) ∈ lw_tbl := List.mem_of_getElem? (i := 329) rfl
set_option maxRecDepth 100000 in
theorem kc_X6_turn : Cond.code (zYn kX6_turn) (zYb kX6_turn) (zYl kX6_turn) (zYr kX6_turn) ∈ lw_tbl := List.mem_of_getElem? (i := 334) rfl
set_option maxRecDepth 100000 in
theorem kc_X4_unlikeTurned : Cond.code (zYn kX4_unlikeTurned) (zYb kX4_unlikeTurned) (zYl kX4_unlikeTurned) (zYr kX4_unlikeTurned) ∈ lw_tbl := List.mem_of_getElem? (i := 338) rfl
set_option maxRecDepth 100000 in
theorem kc_X4_letterAt : Cond.code (zYn kX4_letterAt) (zYb kX4_letterAt) (zYl kX4_letterAt) (zYr kX4_letterAt) ∈ lw_tbl := List.mem_of_getElem? (i := 342) rfl
set_option maxRecDepth 100000 in
theorem kc_X4_turnRound : Cond.code (zYn kX4_turnRound) (zYb kX4_turnRound) (zYl kX4_turnRound) (zYr kX4_turnRound) ∈ lw_tbl := List.mem_of_getElem? (i := 346) rfl
set_option maxRecDepth 100000 in
theorem kc_X6_turnPart : Cond.code (zYn kX6_turnPart) (zYb kX6_turnPart) (zYl kX6_turnPart) (zYr kX6_turnPart) ∈ lw_tbl := List.mem_of_getElem? (i := 349) rfl
set_option maxRecDepth 100000 in
theorem kc_X6_exchange : Cond.code (zYn kX6_exchange) (zYb kX6_exchange) (zYl kX6_exchange) (zYr kX6_exchange) ∈ lw_tbl := List.mem_of_getElem? (i := 353) rfl
set_option maxRecDepth 100000 in
theorem kc_X4_swapBeside : Cond.code (zYn kX4_swapBeside) (zYb kX4_swapBeside) (zYl kX4_swapBeside) (zYr kX4_swapBeside) ∈ lw_tbl := List.mem_of_getElem? (i := 357) rfl
set_option maxRecDepth 100000 in
theorem kc_X6_readingsOf : Cond.code (zYn kX6_readingsOf) (zYb kX6_readingsOf) (zYl kX6_readingsOf) (zYr kX6_readingsOf) ∈ lw_tbl := List.mem_of_getElem? (i := 361) rfl
set_option maxRecDepth 100000 in
theorem kc_X4_waysFromFirst : Cond.code (zYn kX4_waysFromFirst) (zYb kX4_waysFromFirst) (zYl kX4_waysFromFirst) (zYr kX4_waysFromFirst) ∈ lw_tbl := List.mem_of_getElem? (i := 365) rfl
set_option maxRecDepth 100000 in
theorem kc_X4_isEven : Cond.code (zYn kX4_isEven) (zYb kX4_isEven) (zYl kX4_isEven) (zYr kX4_isEven) ∈ lw_tbl := List.mem_of_getElem? (i := 369) rfl
set_option maxRecDepth 100000 in
theorem kc_X6_orderTurned : Cond.code (zYn kX6_orderTurned) (zYb kX6_orderTurned) (zYl kX6_orderTurned) (zYr kX6_orderTurned) ∈ lw_tbl := List.mem_of_getElem? (i := 372) rfl
set_option maxRecDepth 100000 in
theorem kc_X6_toldFromBothEnds : Cond.code (zYn kX6_toldFromBothEnds) (zYb kX6_toldFromBothEnds) (zYl kX6_toldFromBothEnds) (zYr kX6_toldFromBothEnds) ∈ lw_tbl := List.mem_of_getElem? (i := 375) rfl
set_option maxRecDepth 100000 in
theorem kc_X4_lay : Cond.code (zYn kX4_lay) (zYb kX4_lay) (zYl kX4_lay) (zYr kX4_lay) ∈ lw_tbl := List.mem_of_getElem? (i := 382) rfl
set_option maxRecDepth 100000 in
theorem kc_X4_beginsWith : Cond.code (zYn kX4_beginsWith) (zYb kX4_beginsWith) (zYl kX4_beginsWith) (zYr kX4_beginsWith) ∈ lw_tbl := List.mem_of_getElem? (i := 386) rfl
set_option maxRecDepth 100000 in
theorem kc_X4_standsAt : Cond.code (zYn kX4_standsAt) (zYb kX4_standsAt) (zYl kX4_standsAt) (zYr kX4_standsAt) ∈ lw_tbl := List.mem_of_getElem? (i := 390) rfl
set_option maxRecDepth 100000 in
theorem kc_X6_join : Cond.code (zYn kX6_join) (zYb kX6_join) (zYl kX6_join) (zYr kX6_join) ∈ lw_tbl := List.mem_of_getElem? (i := 394) rfl
set_option maxRecDepth 100000 in
theorem kc_X4_sewOn : Cond.code (zYn kX4_sewOn) (zYb kX4_sewOn) (zYl kX4_sewOn) (zYr kX4_sewOn) ∈ lw_tbl := List.mem_of_getElem? (i := 398) rfl
set_option maxRecDepth 100000 in
theorem kc_X6_scroll : Cond.code (zYn kX6_scroll) (zYb kX6_scroll) (zYl kX6_scroll) (zYr kX6_scroll) ∈ lw_tbl := List.mem_of_getElem? (i := 403) rfl
set_option maxRecDepth 100000 in
theorem kc_X4_evenPatches : Cond.code (zYn kX4_evenPatches) (zYb kX4_evenPatches) (zYl kX4_evenPatches) (zYr kX4_evenPatches) ∈ lw_tbl := List.mem_of_getElem? (i := 407) rfl
set_option maxRecDepth 100000 in
theorem kc_X6_evenReadings : Cond.code (zYn kX6_evenReadings) (zYb kX6_evenReadings) (zYl kX6_evenReadings) (zYr kX6_evenReadings) ∈ lw_tbl := List.mem_of_getElem? (i := 411) rfl
set_option maxRecDepth 100000 in
theorem kc_X3_begin : Cond.code (zYn kX3_begin) (zYb kX3_begin) (zYl kX3_begin) (zYr kX3_begin) ∈ lw_tbl := List.mem_of_getElem? (i := 415) rfl
set_option maxRecDepth 100000 in
theorem kc_X0_begin : Cond.code (zYn kX0_begin) (zYb kX0_begin) (zYl kX0_begin) (zYr kX0_begin) ∈ lw_tbl := List.mem_of_getElem? (i := 420) rfl
set_option maxRecDepth 100000 in
theorem kc_X0_addDigit : Cond.code (zYn kX0_addDigit) (zYb kX0_addDigit) (zYl kX0_addDigit) (zYr kX0_addDigit) ∈ lw_tbl := List.mem_of_getElem? (i := 429) rfl
set_option maxRecDepth 100000 in
theorem kc_X3_next : Cond.code (zYn kX3_next) (zYb kX3_next) (zYl kX3_next) (zYr kX3_next) ∈ lw_tbl := List.mem_of_getElem? (i := 433) rfl
set_option maxRecDepth 100000 in
theorem kc_X0_isOver : Cond.code (zYn kX0_isOver) (zYb kX0_isOver) (zYl kX0_isOver) (zYr kX0_isOver) ∈ lw_tbl := List.mem_of_getElem? (i := 437) rfl
set_option maxRecDepth 100000 in
theorem kc_X3_orderOfEnds : Cond.code (zYn kX3_orderOfEnds) (zYb kX3_orderOfEnds) (zYl kX3_orderOfEnds) (zYr kX3_orderOfEnds) ∈ lw_tbl := List.mem_of_getElem? (i := 441) rfl
set_option maxRecDepth 100000 in
theorem kc_X0_step : Cond.code (zYn kX0_step) (zYb kX0_step) (zYl kX0_step) (zYr kX0_step) ∈ lw_tbl := List.mem_of_getElem? (i := 446) rfl
set_option maxRecDepth 100000 in
theorem kc_X6_idleSeams : Cond.code (zYn kX6_idleSeams) (zYb kX6_idleSeams) (zYl kX6_idleSeams) (zYr kX6_idleSeams) ∈ lw_tbl := List.mem_of_getElem? (i := 451) rfl
set_option maxRecDepth 100000 in
theorem kc_X6_tellTheSame : Cond.code (zYn kX6_tellTheSame) (zYb kX6_tellTheSame) (zYl kX6_tellTheSame) (zYr kX6_tellTheSame) ∈ lw_tbl := List.mem_of_getElem? (i := 456) rfl
set_option maxRecDepth 100000 in
theorem kc_X6_readingsOfBoth : Cond.code (zYn kX6_readingsOfBoth) (zYb kX6_readingsOfBoth) (zYl kX6_readingsOfBoth) (zYr kX6_readingsOfBoth) ∈ lw_tbl := List.mem_of_getElem? (i := 460) rfl
set_option maxRecDepth 100000 in
theorem kc_X4_tells : Cond.code (zYn kX4_tells) (zYb kX4_tells) (zYl kX4_tells) (zYr kX4_tells) ∈ lw_tbl := List.mem_of_getElem? (i := 464) rfl
set_option maxRecDepth 100000 in
theorem kc_X6_patch : Cond.code (zYn kX6_patch) (zYb kX6_patch) (zYl kX6_patch) (zYr kX6_patch) ∈ lw_tbl := List.mem_of_getElem? (i := 469) rfl
set_option maxRecDepth 100000 in
theorem kc_X6_letter : Cond.code (zYn kX6_letter) (zYb kX6_letter) (zYl kX6_letter) (zYr kX6_letter) ∈ lw_tbl := List.mem_of_getElem? (i := 473) rfl
set_option maxRecDepth 100000 in
theorem kc_X6_reading : Cond.code (zYn kX6_reading) (zYb kX6_reading) (zYl kX6_reading) (zYr kX6_reading) ∈ lw_tbl := List.mem_of_getElem? (i := 478) rfl
set_option maxRecDepth 100000 in
theorem kc_X3_letterAt : Cond.code (zYn kX3_letterAt) (zYb kX3_letterAt) (zYl kX3_letterAt) (zYr kX3_letterAt) ∈ lw_tbl := List.mem_of_getElem? (i := 482) rfl
set_option maxRecDepth 100000 in
theorem kc_X6_find : Cond.code (zYn kX6_find) (zYb kX6_find) (zYl kX6_find) (zYr kX6_find) ∈ lw_tbl := List.mem_of_getElem? (i := 486) rfl
set_option maxRecDepth 100000 in
theorem kc_X2_isWord : Cond.code (zYn kX2_isWord) (zYb kX2_isWord) (zYl kX2_isWord) (zYr kX2_isWord) ∈ lw_tbl := List.mem_of_getElem? (i := 490) rfl
set_option maxRecDepth 100000 in
theorem kc_X6_findWord : Cond.code (zYn kX6_findWord) (zYb kX6_findWord) (zYl kX6_findWord) (zYr kX6_findWord) ∈ lw_tbl := List.mem_of_getElem? (i := 494) rfl
set_option maxRecDepth 100000 in
theorem kc_X2_placeIn : Cond.code (zYn kX2_placeIn) (zYb kX2_placeIn) (zYl kX2_placeIn) (zYr kX2_placeIn) ∈ lw_tbl := List.mem_of_getElem? (i := 498) rfl
set_option maxRecDepth 100000 in
theorem kc_X2_standsAt : Cond.code (zYn kX2_standsAt) (zYb kX2_standsAt) (zYl kX2_standsAt) (zYr kX2_standsAt) ∈ lw_tbl := List.mem_of_getElem? (i := 502) rfl
set_option maxRecDepth 100000 in
theorem kc_X6_shared : Cond.code (zYn kX6_shared) (zYb kX6_shared) (zYl kX6_shared) (zYr kX6_shared) ∈ lw_tbl := List.mem_of_getElem? (i := 506) rfl
set_option maxRecDepth 100000 in
theorem kc_X6_compare : Cond.code (zYn kX6_compare) (zYb kX6_compare) (zYl kX6_compare) (zYr kX6_compare) ∈ lw_tbl := List.mem_of_getElem? (i := 510) rfl
set_option maxRecDepth 100000 in
theorem kc_X6_count : Cond.code (zYn kX6_count) (zYb kX6_count) (zYl kX6_count) (zYr kX6_count) ∈ lw_tbl := List.mem_of_getElem? (i := 514) rfl
set_option maxRecDepth 100000 in
theorem kc_X5_patchesOfAll : Cond.code (zYn kX5_patchesOfAll) (zYb kX5_patchesOfAll) (zYl kX5_patchesOfAll) (zYr kX5_patchesOfAll) ∈ lw_tbl := List.mem_of_getElem? (i := 518) rfl
set_option maxRecDepth 100000 in
theorem kc_X5_lettersOfAll : Cond.code (zYn kX5_lettersOfAll) (zYb kX5_lettersOfAll) (zYl kX5_lettersOfAll) (zYr kX5_lettersOfAll) ∈ lw_tbl := List.mem_of_getElem? (i := 522) rfl
set_option maxRecDepth 100000 in
theorem kc_X6_readingsOfAll : Cond.code (zYn kX6_readingsOfAll) (zYb kX6_readingsOfAll) (zYl kX6_readingsOfAll) (zYr kX6_readingsOfAll) ∈ lw_tbl := List.mem_of_getElem? (i := 527) rfl
set_option maxRecDepth 100000 in
theorem kc_X6_readingsNotToldBefore : Cond.code (zYn kX6_readingsNotToldBefore) (zYb kX6_readingsNotToldBefore) (zYl kX6_readingsNotToldBefore) (zYr kX6_readingsNotToldBefore) ∈ lw_tbl := List.mem_of_getElem? (i := 531) rfl
set_option maxRecDepth 100000 in
theorem kc_X5_tellsBefore : Cond.code (zYn kX5_tellsBefore) (zYb kX5_tellsBefore) (zYl kX5_tellsBefore) (zYr kX5_tellsBefore) ∈ lw_tbl := List.mem_of_getElem? (i := 535) rfl
set_option maxRecDepth 100000 in
theorem kc_X6_pairsOfTheSame : Cond.code (zYn kX6_pairsOfTheSame) (zYb kX6_pairsOfTheSame) (zYl kX6_pairsOfTheSame) (zYr kX6_pairsOfTheSame) ∈ lw_tbl := List.mem_of_getElem? (i := 540) rfl
set_option maxRecDepth 100000 in
theorem kc_X6_ifCut : Cond.code (zYn kX6_ifCut) (zYb kX6_ifCut) (zYl kX6_ifCut) (zYr kX6_ifCut) ∈ lw_tbl := List.mem_of_getElem? (i := 544) rfl
set_option maxRecDepth 100000 in
theorem kc_X6_readingsWithCut : Cond.code (zYn kX6_readingsWithCut) (zYb kX6_readingsWithCut) (zYl kX6_readingsWithCut) (zYr kX6_readingsWithCut) ∈ lw_tbl := List.mem_of_getElem? (i := 548) rfl
set_option maxRecDepth 100000 in
theorem kc_X6_bestCut : Cond.code (zYn kX6_bestCut) (zYb kX6_bestCut) (zYl kX6_bestCut) (zYr kX6_bestCut) ∈ lw_tbl := List.mem_of_getElem? (i := 552) rfl
set_option maxRecDepth 100000 in
theorem kc_X6_put : Cond.code (zYn kX6_put) (zYb kX6_put) (zYl kX6_put) (zYr kX6_put) ∈ lw_tbl := List.mem_of_getElem? (i := 556) rfl
set_option maxRecDepth 100000 in
theorem kc_X6_charactersIn : Cond.code (zYn kX6_charactersIn) (zYb kX6_charactersIn) (zYl kX6_charactersIn) (zYr kX6_charactersIn) ∈ lw_tbl := List.mem_of_getElem? (i := 559) rfl
set_option maxRecDepth 100000 in
theorem kc_X6_codeIn : Cond.code (zYn kX6_codeIn) (zYb kX6_codeIn) (zYl kX6_codeIn) (zYr kX6_codeIn) ∈ lw_tbl := List.mem_of_getElem? (i := 562) rfl
set_option maxRecDepth 100000 in
theorem kc_X2_append : Cond.code (zYn kX2_append) (zYb kX2_append) (zYl kX2_append) (zYr kX2_append) ∈ lw_tbl := List.mem_of_getElem? (i := 567) rfl
set_option maxRecDepth 100000 in
theorem kc_X6_wipe : Cond.code (zYn kX6_wipe) (zYb kX6_wipe) (zYl kX6_wipe) (zYr kX6_wipe) ∈ lw_tbl := List.mem_of_getElem? (i := 571) rfl
set_option maxRecDepth 100000 in
theorem kc_X6_fault : Cond.code (zYn kX6_fault) (zYb kX6_fault) (zYl kX6_fault) (zYr kX6_fault) ∈ lw_tbl := List.mem_of_getElem? (i := 575) rfl
set_option maxRecDepth 100000 in
theorem kc_X6_undo : Cond.code (zYn kX6_undo) (zYb kX6_undo) (zYl kX6_undo) (zYr kX6_undo) ∈ lw_tbl := List.mem_of_getElem? (i := 579) rfl
set_option maxRecDepth 100000 in
theorem kc_X1_takeBack : Cond.code (zYn kX1_takeBack) (zYb kX1_takeBack) (zYl kX1_takeBack) (zYr kX1_takeBack) ∈ lw_tbl := List.mem_of_getElem? (i := 583) rfl
set_option maxRecDepth 100000 in
theorem kc_X6_save : Cond.code (zYn kX6_save) (zYb kX6_save) (zYl kX6_save) (zYr kX6_save) ∈ lw_tbl := List.mem_of_getElem? (i := 587) rfl
set_option maxRecDepth 100000 in
theorem kc_X6_restore : Cond.code (zYn kX6_restore) (zYb kX6_restore) (zYl kX6_restore) (zYr kX6_restore) ∈ lw_tbl := List.mem_of_getElem? (i := 592) rfl
set_option maxRecDepth 100000 in
theorem kc_X7_init : Cond.code (zYn kX7_init) (zYb kX7_init) (zYl kX7_init) (zYr kX7_init) ∈ lw_tbl := List.mem_of_getElem? (i := 597) rfl
set_option maxRecDepth 100000 in
theorem kc_X7_sew : Cond.code (zYn kX7_sew) (zYb kX7_sew) (zYl kX7_sew) (zYr kX7_sew) ∈ lw_tbl := List.mem_of_getElem? (i := 660) rfl
set_option maxRecDepth 100000 in
theorem kc_X7_findFault : Cond.code (zYn kX7_findFault) (zYb kX7_findFault) (zYl kX7_findFault) (zYr kX7_findFault) ∈ lw_tbl := List.mem_of_getElem? (i := 664) rfl
set_option maxRecDepth 100000 in
theorem kc_X7_within : Cond.code (zYn kX7_within) (zYb kX7_within) (zYl kX7_within) (zYr kX7_within) ∈ lw_tbl := List.mem_of_getElem? (i := 667) rfl
set_option maxRecDepth 100000 in
theorem kc_X7_toldMany : Cond.code (zYn kX7_toldMany) (zYb kX7_toldMany) (zYl kX7_toldMany) (zYr kX7_toldMany) ∈ lw_tbl := List.mem_of_getElem? (i := 671) rfl
set_option maxRecDepth 100000 in
theorem kc_X7_record : Cond.code (zYn kX7_record) (zYb kX7_record) (zYl kX7_record) (zYr kX7_record) ∈ lw_tbl := List.mem_of_getElem? (i := 675) rfl
set_option maxRecDepth 100000 in
theorem kc_X7_moves : Cond.code (zYn kX7_moves) (zYb kX7_moves) (zYl kX7_moves) (zYr kX7_moves) ∈ lw_tbl := List.mem_of_getElem? (i := 678) rfl
set_option maxRecDepth 100000 in
theorem kc_X7_readScroll : Cond.code (zYn kX7_readScroll) (zYb kX7_readScroll) (zYl kX7_readScroll) (zYr kX7_readScroll) ∈ lw_tbl := List.mem_of_getElem? (i := 682) rfl
set_option maxRecDepth 100000 in
theorem kc_X7_give : Cond.code (zYn kX7_give) (zYb kX7_give) (zYl kX7_give) (zYr kX7_give) ∈ lw_tbl := List.mem_of_getElem? (i := 686) rfl
set_option maxRecDepth 100000 in
theorem kc_X7_burn : Cond.code (zYn kX7_burn) (zYb kX7_burn) (zYl kX7_burn) (zYr kX7_burn) ∈ lw_tbl := List.mem_of_getElem? (i := 690) rfl
set_option maxRecDepth 100000 in
theorem kc_X7_isScroll : Cond.code (zYn kX7_isScroll) (zYb kX7_isScroll) (zYl kX7_isScroll) (zYr kX7_isScroll) ∈ lw_tbl := List.mem_of_getElem? (i := 694) rfl
set_option maxRecDepth 100000 in
theorem kc_X7_lettersOf : Cond.code (zYn kX7_lettersOf) (zYb kX7_lettersOf) (zYl kX7_lettersOf) (zYr kX7_lettersOf) ∈ lw_tbl := List.mem_of_getElem? (i := 698) rfl
set_option maxRecDepth 100000 in
theorem kc_X7_part : Cond.code (zYn kX7_part) (zYb kX7_part) (zYl kX7_part) (zYr kX7_part) ∈ lw_tbl := List.mem_of_getElem? (i := 702) rfl
set_option maxRecDepth 100000 in
theorem kc_X7_goes : Cond.code (zYn kX7_goes) (zYb kX7_goes) (zYl kX7_goes) (zYr kX7_goes) ∈ lw_tbl := List.mem_of_getElem? (i := 706) rfl
set_option maxRecDepth 100000 in
theorem kc_X7_cut : Cond.code (zYn kX7_cut) (zYb kX7_cut) (zYl kX7_cut) (zYr kX7_cut) ∈ lw_tbl := List.mem_of_getElem? (i := 710) rfl
set_option maxRecDepth 100000 in
theorem kc_X7_isPatch : Cond.code (zYn kX7_isPatch) (zYb kX7_isPatch) (zYl kX7_isPatch) (zYr kX7_isPatch) ∈ lw_tbl := List.mem_of_getElem? (i := 714) rfl
set_option maxRecDepth 100000 in
theorem kc_X7_sizeOf : Cond.code (zYn kX7_sizeOf) (zYb kX7_sizeOf) (zYl kX7_sizeOf) (zYr kX7_sizeOf) ∈ lw_tbl := List.mem_of_getElem? (i := 718) rfl
set_option maxRecDepth 100000 in
theorem kc_X7_take : Cond.code (zYn kX7_take) (zYb kX7_take) (zYl kX7_take) (zYr kX7_take) ∈ lw_tbl := List.mem_of_getElem? (i := 722) rfl
set_option maxRecDepth 100000 in
theorem kc_X7_cutNow : Cond.code (zYn kX7_cutNow) (zYb kX7_cutNow) (zYl kX7_cutNow) (zYr kX7_cutNow) ∈ lw_tbl := List.mem_of_getElem? (i := 726) rfl
set_option maxRecDepth 100000 in
theorem kc_X7_undoSeam : Cond.code (zYn kX7_undoSeam) (zYb kX7_undoSeam) (zYl kX7_undoSeam) (zYr kX7_undoSeam) ∈ lw_tbl := List.mem_of_getElem? (i := 730) rfl
set_option maxRecDepth 100000 in
theorem kc_X7_isSeam : Cond.code (zYn kX7_isSeam) (zYb kX7_isSeam) (zYl kX7_isSeam) (zYr kX7_isSeam) ∈ lw_tbl := List.mem_of_getElem? (i := 734) rfl
set_option maxRecDepth 100000 in
theorem kc_X7_undoNow : Cond.code (zYn kX7_undoNow) (zYb kX7_undoNow) (zYl kX7_undoNow) (zYr kX7_undoNow) ∈ lw_tbl := List.mem_of_getElem? (i := 738) rfl
set_option maxRecDepth 100000 in
theorem kc_X7_turn : Cond.code (zYn kX7_turn) (zYb kX7_turn) (zYl kX7_turn) (zYr kX7_turn) ∈ lw_tbl := List.mem_of_getElem? (i := 742) rfl
set_option maxRecDepth 100000 in
theorem kc_X7_exchange : Cond.code (zYn kX7_exchange) (zYb kX7_exchange) (zYl kX7_exchange) (zYr kX7_exchange) ∈ lw_tbl := List.mem_of_getElem? (i := 746) rfl
set_option maxRecDepth 100000 in
theorem kc_X7_search : Cond.code (zYn kX7_search) (zYb kX7_search) (zYl kX7_search) (zYr kX7_search) ∈ lw_tbl := List.mem_of_getElem? (i := 750) rfl
set_option maxRecDepth 100000 in
theorem kc_X7_layDown : Cond.code (zYn kX7_layDown) (zYb kX7_layDown) (zYl kX7_layDown) (zYr kX7_layDown) ∈ lw_tbl := List.mem_of_getElem? (i := 754) rfl
set_option maxRecDepth 100000 in
theorem kc_X7_takeIn : Cond.code (zYn kX7_takeIn) (zYb kX7_takeIn) (zYl kX7_takeIn) (zYr kX7_takeIn) ∈ lw_tbl := List.mem_of_getElem? (i := 758) rfl
set_option maxRecDepth 100000 in
theorem kc_X7_compared : Cond.code (zYn kX7_compared) (zYb kX7_compared) (zYl kX7_compared) (zYr kX7_compared) ∈ lw_tbl := List.mem_of_getElem? (i := 761) rfl
set_option maxRecDepth 100000 in
theorem kc_X7_join : Cond.code (zYn kX7_join) (zYb kX7_join) (zYl kX7_join) (zYr kX7_join) ∈ lw_tbl := List.mem_of_getElem? (i := 765) rfl
set_option maxRecDepth 100000 in
theorem kc_X7_scroll : Cond.code (zYn kX7_scroll) (zYb kX7_scroll) (zYl kX7_scroll) (zYr kX7_scroll) ∈ lw_tbl := List.mem_of_getElem? (i := 769) rfl
set_option maxRecDepth 100000 in
theorem kc_X7_findOf : Cond.code (zYn kX7_findOf) (zYb kX7_findOf) (zYl kX7_findOf) (zYr kX7_findOf) ∈ lw_tbl := List.mem_of_getElem? (i := 773) rfl
set_option maxRecDepth 100000 in
theorem kc_X7_sameBothWays : Cond.code (zYn kX7_sameBothWays) (zYb kX7_sameBothWays) (zYl kX7_sameBothWays) (zYr kX7_sameBothWays) ∈ lw_tbl := List.mem_of_getElem? (i := 777) rfl
set_option maxRecDepth 100000 in
theorem kc_X7_sameFromEnds : Cond.code (zYn kX7_sameFromEnds) (zYb kX7_sameFromEnds) (zYl kX7_sameFromEnds) (zYr kX7_sameFromEnds) ∈ lw_tbl := List.mem_of_getElem? (i := 781) rfl
set_option maxRecDepth 100000 in
theorem kc_X7_letterOf : Cond.code (zYn kX7_letterOf) (zYb kX7_letterOf) (zYl kX7_letterOf) (zYr kX7_letterOf) ∈ lw_tbl := List.mem_of_getElem? (i := 785) rfl
set_option maxRecDepth 100000 in
theorem kc_X7_needlessSeams : Cond.code (zYn kX7_needlessSeams) (zYb kX7_needlessSeams) (zYl kX7_needlessSeams) (zYr kX7_needlessSeams) ∈ lw_tbl := List.mem_of_getElem? (i := 789) rfl
set_option maxRecDepth 100000 in
theorem kc_X7_keepOther : Cond.code (zYn kX7_keepOther) (zYb kX7_keepOther) (zYl kX7_keepOther) (zYr kX7_keepOther) ∈ lw_tbl := List.mem_of_getElem? (i := 793) rfl
set_option maxRecDepth 100000 in
theorem kc_X7_meet : Cond.code (zYn kX7_meet) (zYb kX7_meet) (zYl kX7_meet) (zYr kX7_meet) ∈ lw_tbl := List.mem_of_getElem? (i := 797) rfl
set_option maxRecDepth 100000 in
theorem kc_X7_patch : Cond.code (zYn kX7_patch) (zYb kX7_patch) (zYl kX7_patch) (zYr kX7_patch) ∈ lw_tbl := List.mem_of_getElem? (i := 801) rfl
set_option maxRecDepth 100000 in
theorem kc_X7_letter : Cond.code (zYn kX7_letter) (zYb kX7_letter) (zYl kX7_letter) (zYr kX7_letter) ∈ lw_tbl := List.mem_of_getElem? (i := 805) rfl
set_option maxRecDepth 100000 in
theorem kc_X7_reading : Cond.code (zYn kX7_reading) (zYb kX7_reading) (zYl kX7_reading) (zYr kX7_reading) ∈ lw_tbl := List.mem_of_getElem? (i := 809) rfl
set_option maxRecDepth 100000 in
theorem kc_X7_find : Cond.code (zYn kX7_find) (zYb kX7_find) (zYl kX7_find) (zYr kX7_find) ∈ lw_tbl := List.mem_of_getElem? (i := 813) rfl
set_option maxRecDepth 100000 in
theorem kc_X7_isWord : Cond.code (zYn kX7_isWord) (zYb kX7_isWord) (zYl kX7_isWord) (zYr kX7_isWord) ∈ lw_tbl := List.mem_of_getElem? (i := 817) rfl
set_option maxRecDepth 100000 in
theorem kc_X7_placeIn : Cond.code (zYn kX7_placeIn) (zYb kX7_placeIn) (zYl kX7_placeIn) (zYr kX7_placeIn) ∈ lw_tbl := List.mem_of_getElem? (i := 821) rfl
set_option maxRecDepth 100000 in
theorem kc_X7_shared : Cond.code (zYn kX7_shared) (zYb kX7_shared) (zYl kX7_shared) (zYr kX7_shared) ∈ lw_tbl := List.mem_of_getElem? (i := 825) rfl
set_option maxRecDepth 100000 in
theorem kc_X7_sharedBy : Cond.code (zYn kX7_sharedBy) (zYb kX7_sharedBy) (zYl kX7_sharedBy) (zYr kX7_sharedBy) ∈ lw_tbl := List.mem_of_getElem? (i := 829) rfl
set_option maxRecDepth 100000 in
theorem kc_X7_compare : Cond.code (zYn kX7_compare) (zYb kX7_compare) (zYl kX7_compare) (zYr kX7_compare) ∈ lw_tbl := List.mem_of_getElem? (i := 833) rfl
set_option maxRecDepth 100000 in
theorem kc_X7_howTheyStand : Cond.code (zYn kX7_howTheyStand) (zYb kX7_howTheyStand) (zYl kX7_howTheyStand) (zYr kX7_howTheyStand) ∈ lw_tbl := List.mem_of_getElem? (i := 837) rfl
set_option maxRecDepth 100000 in
theorem kc_X7_count : Cond.code (zYn kX7_count) (zYb kX7_count) (zYl kX7_count) (zYr kX7_count) ∈ lw_tbl := List.mem_of_getElem? (i := 841) rfl
set_option maxRecDepth 100000 in
theorem kc_X7_allPatches : Cond.code (zYn kX7_allPatches) (zYb kX7_allPatches) (zYl kX7_allPatches) (zYr kX7_allPatches) ∈ lw_tbl := List.mem_of_getElem? (i := 845) rfl
set_option maxRecDepth 100000 in
theorem kc_X7_allLetters : Cond.code (zYn kX7_allLetters) (zYb kX7_allLetters) (zYl kX7_allLetters) (zYr kX7_allLetters) ∈ lw_tbl := List.mem_of_getElem? (i := 849) rfl
set_option maxRecDepth 100000 in
theorem kc_X7_allReadings : Cond.code (zYn kX7_allReadings) (zYb kX7_allReadings) (zYl kX7_allReadings) (zYr kX7_allReadings) ∈ lw_tbl := List.mem_of_getElem? (i := 853) rfl
set_option maxRecDepth 100000 in
theorem kc_X7_samePairs : Cond.code (zYn kX7_samePairs) (zYb kX7_samePairs) (zYl kX7_samePairs) (zYr kX7_samePairs) ∈ lw_tbl := List.mem_of_getElem? (i := 857) rfl
set_option maxRecDepth 100000 in
theorem kc_X7_ifCut : Cond.code (zYn kX7_ifCut) (zYb kX7_ifCut) (zYl kX7_ifCut) (zYr kX7_ifCut) ∈ lw_tbl := List.mem_of_getElem? (i := 861) rfl
set_option maxRecDepth 100000 in
theorem kc_X7_readingsIfCut : Cond.code (zYn kX7_readingsIfCut) (zYb kX7_readingsIfCut) (zYl kX7_readingsIfCut) (zYr kX7_readingsIfCut) ∈ lw_tbl := List.mem_of_getElem? (i := 865) rfl
set_option maxRecDepth 100000 in
theorem kc_X7_bestCut : Cond.code (zYn kX7_bestCut) (zYb kX7_bestCut) (zYl kX7_bestCut) (zYr kX7_bestCut) ∈ lw_tbl := List.mem_of_getElem? (i := 869) rfl
set_option maxRecDepth 100000 in
theorem kc_X7_put : Cond.code (zYn kX7_put) (zYb kX7_put) (zYl kX7_put) (zYr kX7_put) ∈ lw_tbl := List.mem_of_getElem? (i := 873) rfl
set_option maxRecDepth 100000 in
theorem kc_X7_wipe : Cond.code (zYn kX7_wipe) (zYb kX7_wipe) (zYl kX7_wipe) (zYr kX7_wipe) ∈ lw_tbl := List.mem_of_getElem? (i := 878) rfl
set_option maxRecDepth 100000 in
theorem kc_X7_fault : Cond.code (zYn kX7_fault) (zYb kX7_fault) (zYl kX7_fault) (zYr kX7_fault) ∈ lw_tbl := List.mem_of_getElem? (i := 882) rfl
set_option maxRecDepth 100000 in
theorem kc_X7_undo : Cond.code (zYn kX7_undo) (zYb kX7_undo) (zYl kX7_undo) (zYr kX7_undo) ∈ lw_tbl := List.mem_of_getElem? (i := 886) rfl
set_option maxRecDepth 100000 in
theorem kc_X7_save : Cond.code (zYn kX7_save) (zYb kX7_save) (zYl kX7_save) (zYr kX7_save) ∈ lw_tbl := List.mem_of_getElem? (i := 890) rfl
set_option maxRecDepth 100000 in
theorem kc_X7_restore : Cond.code (zYn kX7_restore) (zYb kX7_restore) (zYl kX7_restore) (zYr kX7_restore) ∈ lw_tbl := List.mem_of_getElem? (i := 894) rfl
def zKs0 : List zY := [kX6_init, kX5_init, kX4_init, kX2_init, kX1_init, kX3_init, kX0_init, kX6_sew, kX2_firstFault, kX2_codeAt, kX6_isLetter, kX2_scrollsOfText, kX1_record, kX1_dropOldest, kX5_copyFrom, kX5_at, kX4_copyFrom, kX6_sewText, kX5_addScroll, kX4_startAnew]
theorem zKs0_ok : ∀ k ∈ zKs0, Cond.code (zYn k) (zYb k) (zYl k) (zYr k) ∈ lw_tbl := List.forall_mem_cons.mpr ⟨kc_X6_init, List.forall_mem_cons.mpr ⟨kc_X5_init, List.forall_mem_cons.mpr ⟨kc_X4_init, List.forall_mem_cons.mpr ⟨kc_X2_init, List.forall_mem_cons.mpr ⟨kc_X1_init, List.forall_mem_cons.mpr ⟨kc_X3_init, List.forall_mem_cons.mpr ⟨kc_X0_init, List.forall_mem_cons.mpr ⟨kc_X6_sew, List.forall_mem_cons.mpr ⟨kc_X2_firstFault, List.forall_mem_cons.mpr ⟨kc_X2_codeAt, List.forall_mem_cons.mpr ⟨kc_X6_isLetter, List.forall_mem_cons.mpr ⟨kc_X2_scrollsOfText, List.forall_mem_cons.mpr ⟨kc_X1_record, List.forall_mem_cons.mpr ⟨kc_X1_dropOldest, List.forall_mem_cons.mpr ⟨kc_X5_copyFrom, List.forall_mem_cons.mpr ⟨kc_X5_at, List.forall_mem_cons.mpr ⟨kc_X4_copyFrom, List.forall_mem_cons.mpr ⟨kc_X6_sewText, List.forall_mem_cons.mpr ⟨kc_X5_addScroll, List.forall_mem_cons.mpr ⟨kc_X4_startAnew, fun _ h => absurd h List.not_mem_nil⟩⟩⟩⟩⟩⟩⟩⟩⟩⟩⟩⟩⟩⟩⟩⟩⟩⟩⟩⟩
def zKs1 : List zY := [kX4_addPatch, kX4_length, kX4_startOf, kX4_addLetter, kX2_empty, kX6_burn, kX5_remove, kX6_cut, kX4_hasPatch, kX4_canBeCut, kX4_sizeOf, kX4_endOf, kX4_split, kX6_undoSeam, kX4_hasSeam, kX4_merge, kX6_turn, kX4_unlikeTurned, kX4_letterAt, kX4_turnRound]
theorem zKs1_ok : ∀ k ∈ zKs1, Cond.code (zYn k) (zYb k) (zYl k) (zYr k) ∈ lw_tbl := List.forall_mem_cons.mpr ⟨kc_X4_addPatch, List.forall_mem_cons.mpr ⟨kc_X4_length, List.forall_mem_cons.mpr ⟨kc_X4_startOf, List.forall_mem_cons.mpr ⟨kc_X4_addLetter, List.forall_mem_cons.mpr ⟨kc_X2_empty, List.forall_mem_cons.mpr ⟨kc_X6_burn, List.forall_mem_cons.mpr ⟨kc_X5_remove, List.forall_mem_cons.mpr ⟨kc_X6_cut, List.forall_mem_cons.mpr ⟨kc_X4_hasPatch, List.forall_mem_cons.mpr ⟨kc_X4_canBeCut, List.forall_mem_cons.mpr ⟨kc_X4_sizeOf, List.forall_mem_cons.mpr ⟨kc_X4_endOf, List.forall_mem_cons.mpr ⟨kc_X4_split, List.forall_mem_cons.mpr ⟨kc_X6_undoSeam, List.forall_mem_cons.mpr ⟨kc_X4_hasSeam, List.forall_mem_cons.mpr ⟨kc_X4_merge, List.forall_mem_cons.mpr ⟨kc_X6_turn, List.forall_mem_cons.mpr ⟨kc_X4_unlikeTurned, List.forall_mem_cons.mpr ⟨kc_X4_letterAt, List.forall_mem_cons.mpr ⟨kc_X4_turnRound, fun _ h => absurd h List.not_mem_nil⟩⟩⟩⟩⟩⟩⟩⟩⟩⟩⟩⟩⟩⟩⟩⟩⟩⟩⟩⟩
def zKs2 : List zY := [kX6_turnPart, kX6_exchange, kX4_swapBeside, kX6_readingsOf, kX4_waysFromFirst, kX4_isEven, kX6_orderTurned, kX6_toldFromBothEnds, kX4_lay, kX4_beginsWith, kX4_standsAt, kX6_join, kX4_sewOn, kX6_scroll, kX4_evenPatches, kX6_evenReadings, kX3_begin, kX0_begin, kX0_addDigit, kX3_next]
theorem zKs2_ok : ∀ k ∈ zKs2, Cond.code (zYn k) (zYb k) (zYl k) (zYr k) ∈ lw_tbl := List.forall_mem_cons.mpr ⟨kc_X6_turnPart, List.forall_mem_cons.mpr ⟨kc_X6_exchange, List.forall_mem_cons.mpr ⟨kc_X4_swapBeside, List.forall_mem_cons.mpr ⟨kc_X6_readingsOf, List.forall_mem_cons.mpr ⟨kc_X4_waysFromFirst, List.forall_mem_cons.mpr ⟨kc_X4_isEven, List.forall_mem_cons.mpr ⟨kc_X6_orderTurned, List.forall_mem_cons.mpr ⟨kc_X6_toldFromBothEnds, List.forall_mem_cons.mpr ⟨kc_X4_lay, List.forall_mem_cons.mpr ⟨kc_X4_beginsWith, List.forall_mem_cons.mpr ⟨kc_X4_standsAt, List.forall_mem_cons.mpr ⟨kc_X6_join, List.forall_mem_cons.mpr ⟨kc_X4_sewOn, List.forall_mem_cons.mpr ⟨kc_X6_scroll, List.forall_mem_cons.mpr ⟨kc_X4_evenPatches, List.forall_mem_cons.mpr ⟨kc_X6_evenReadings, List.forall_mem_cons.mpr ⟨kc_X3_begin, List.forall_mem_cons.mpr ⟨kc_X0_begin, List.forall_mem_cons.mpr ⟨kc_X0_addDigit, List.forall_mem_cons.mpr ⟨kc_X3_next, fun _ h => absurd h List.not_mem_nil⟩⟩⟩⟩⟩⟩⟩⟩⟩⟩⟩⟩⟩⟩⟩⟩⟩⟩⟩⟩
def zKs3 : List zY := [kX0_isOver, kX3_orderOfEnds, kX0_step, kX6_idleSeams, kX6_tellTheSame, kX6_readingsOfBoth, kX4_tells, kX6_patch, kX6_letter, kX6_reading, kX3_letterAt, kX6_find, kX2_isWord, kX6_findWord, kX2_placeIn, kX2_standsAt, kX6_shared, kX6_compare, kX6_count, kX5_patchesOfAll]
theorem zKs3_ok : ∀ k ∈ zKs3, Cond.code (zYn k) (zYb k) (zYl k) (zYr k) ∈ lw_tbl := List.forall_mem_cons.mpr ⟨kc_X0_isOver, List.forall_mem_cons.mpr ⟨kc_X3_orderOfEnds, List.forall_mem_cons.mpr ⟨kc_X0_step, List.forall_mem_cons.mpr ⟨kc_X6_idleSeams, List.forall_mem_cons.mpr ⟨kc_X6_tellTheSame, List.forall_mem_cons.mpr ⟨kc_X6_readingsOfBoth, List.forall_mem_cons.mpr ⟨kc_X4_tells, List.forall_mem_cons.mpr ⟨kc_X6_patch, List.forall_mem_cons.mpr ⟨kc_X6_letter, List.forall_mem_cons.mpr ⟨kc_X6_reading, List.forall_mem_cons.mpr ⟨kc_X3_letterAt, List.forall_mem_cons.mpr ⟨kc_X6_find, List.forall_mem_cons.mpr ⟨kc_X2_isWord, List.forall_mem_cons.mpr ⟨kc_X6_findWord, List.forall_mem_cons.mpr ⟨kc_X2_placeIn, List.forall_mem_cons.mpr ⟨kc_X2_standsAt, List.forall_mem_cons.mpr ⟨kc_X6_shared, List.forall_mem_cons.mpr ⟨kc_X6_compare, List.forall_mem_cons.mpr ⟨kc_X6_count, List.forall_mem_cons.mpr ⟨kc_X5_patchesOfAll, fun _ h => absurd h List.not_mem_nil⟩⟩⟩⟩⟩⟩⟩⟩⟩⟩⟩⟩⟩⟩⟩⟩⟩⟩⟩⟩
def zKs4 : List zY := [kX5_lettersOfAll, kX6_readingsOfAll, kX6_readingsNotToldBefore, kX5_tellsBefore, kX6_pairsOfTheSame, kX6_ifCut, kX6_readingsWithCut, kX6_bestCut, kX6_put, kX6_charactersIn, kX6_codeIn, kX2_append, kX6_wipe, kX6_fault, kX6_undo, kX1_takeBack, kX6_save, kX6_restore, kX7_init, kX7_sew]
theorem zKs4_ok : ∀ k ∈ zKs4, Cond.code (zYn k) (zYb k) (zYl k) (zYr k) ∈ lw_tbl := List.forall_mem_cons.mpr ⟨kc_X5_lettersOfAll, List.forall_mem_cons.mpr ⟨kc_X6_readingsOfAll, List.forall_mem_cons.mpr ⟨kc_X6_readingsNotToldBefore, List.forall_mem_cons.mpr ⟨kc_X5_tellsBefore, List.forall_mem_cons.mpr ⟨kc_X6_pairsOfTheSame, List.forall_mem_cons.mpr ⟨kc_X6_ifCut, List.forall_mem_cons.mpr ⟨kc_X6_readingsWithCut, List.forall_mem_cons.mpr ⟨kc_X6_bestCut, List.forall_mem_cons.mpr ⟨kc_X6_put, List.forall_mem_cons.mpr ⟨kc_X6_charactersIn, List.forall_mem_cons.mpr ⟨kc_X6_codeIn, List.forall_mem_cons.mpr ⟨kc_X2_append, List.forall_mem_cons.mpr ⟨kc_X6_wipe, List.forall_mem_cons.mpr ⟨kc_X6_fault, List.forall_mem_cons.mpr ⟨kc_X6_undo, List.forall_mem_cons.mpr ⟨kc_X1_takeBack, List.forall_mem_cons.mpr ⟨kc_X6_save, List.forall_mem_cons.mpr ⟨kc_X6_restore, List.forall_mem_cons.mpr ⟨kc_X7_init, List.forall_mem_cons.mpr ⟨kc_X7_sew, fun _ h => absurd h List.not_mem_nil⟩⟩⟩⟩⟩⟩⟩⟩⟩⟩⟩⟩⟩⟩⟩⟩⟩⟩⟩⟩
def zKs5 : List zY := [kX7_findFault, kX7_within, kX7_toldMany, kX7_record, kX7_moves, kX7_readScroll, kX7_give, kX7_burn, kX7_isScroll, kX7_lettersOf, kX7_part, kX7_goes, kX7_cut, kX7_isPatch, kX7_sizeOf, kX7_take, kX7_cutNow, kX7_undoSeam, kX7_isSeam, kX7_undoNow]
theorem zKs5_ok : ∀ k ∈ zKs5, Cond.code (zYn k) (zYb k) (zYl k) (zYr k) ∈ lw_tbl := List.forall_mem_cons.mpr ⟨kc_X7_findFault, List.forall_mem_cons.mpr ⟨kc_X7_within, List.forall_mem_cons.mpr ⟨kc_X7_toldMany, List.forall_mem_cons.mpr ⟨kc_X7_record, List.forall_mem_cons.mpr ⟨kc_X7_moves, List.forall_mem_cons.mpr ⟨kc_X7_readScroll, List.forall_mem_cons.mpr ⟨kc_X7_give, List.forall_mem_cons.mpr ⟨kc_X7_burn, List.forall_mem_cons.mpr ⟨kc_X7_isScroll, List.forall_mem_cons.mpr ⟨kc_X7_lettersOf, List.forall_mem_cons.mpr ⟨kc_X7_part, List.forall_mem_cons.mpr ⟨kc_X7_goes, List.forall_mem_cons.mpr ⟨kc_X7_cut, List.forall_mem_cons.mpr ⟨kc_X7_isPatch, List.forall_mem_cons.mpr ⟨kc_X7_sizeOf, List.forall_mem_cons.mpr ⟨kc_X7_take, List.forall_mem_cons.mpr ⟨kc_X7_cutNow, List.forall_mem_cons.mpr ⟨kc_X7_undoSeam, List.forall_mem_cons.mpr ⟨kc_X7_isSeam, List.forall_mem_cons.mpr ⟨kc_X7_undoNow, fun _ h => absurd h List.not_mem_nil⟩⟩⟩⟩⟩⟩⟩⟩⟩⟩⟩⟩⟩⟩⟩⟩⟩⟩⟩⟩
def zKs6 : List zY := [kX7_turn, kX7_exchange, kX7_search, kX7_layDown, kX7_takeIn, kX7_compared, kX7_join, kX7_scroll, kX7_findOf, kX7_sameBothWays, kX7_sameFromEnds, kX7_letterOf, kX7_needlessSeams, kX7_keepOther, kX7_meet, kX7_patch, kX7_letter, kX7_reading, kX7_find, kX7_isWord]
theorem zKs6_ok : ∀ k ∈ zKs6, Cond.code (zYn k) (zYb k) (zYl k) (zYr k) ∈ lw_tbl := List.forall_mem_cons.mpr ⟨kc_X7_turn, List.forall_mem_cons.mpr ⟨kc_X7_exchange, List.forall_mem_cons.mpr ⟨kc_X7_search, List.forall_mem_cons.mpr ⟨kc_X7_layDown, List.forall_mem_cons.mpr ⟨kc_X7_takeIn, List.forall_mem_cons.mpr ⟨kc_X7_compared, List.forall_mem_cons.mpr ⟨kc_X7_join, List.forall_mem_cons.mpr ⟨kc_X7_scroll, List.forall_mem_cons.mpr ⟨kc_X7_findOf, List.forall_mem_cons.mpr ⟨kc_X7_sameBothWays, List.forall_mem_cons.mpr ⟨kc_X7_sameFromEnds, List.forall_mem_cons.mpr ⟨kc_X7_letterOf, List.forall_mem_cons.mpr ⟨kc_X7_needlessSeams, List.forall_mem_cons.mpr ⟨kc_X7_keepOther, List.forall_mem_cons.mpr ⟨kc_X7_meet, List.forall_mem_cons.mpr ⟨kc_X7_patch, List.forall_mem_cons.mpr ⟨kc_X7_letter, List.forall_mem_cons.mpr ⟨kc_X7_reading, List.forall_mem_cons.mpr ⟨kc_X7_find, List.forall_mem_cons.mpr ⟨kc_X7_isWord, fun _ h => absurd h List.not_mem_nil⟩⟩⟩⟩⟩⟩⟩⟩⟩⟩⟩⟩⟩⟩⟩⟩⟩⟩⟩⟩
def zKs7 : List zY := [kX7_placeIn, kX7_shared, kX7_sharedBy, kX7_compare, kX7_howTheyStand, kX7_count, kX7_allPatches, kX7_allLetters, kX7_allReadings, kX7_samePairs, kX7_ifCut, kX7_readingsIfCut, kX7_bestCut, kX7_put, kX7_wipe, kX7_fault, kX7_undo, kX7_save, kX7_restore]
theorem zKs7_ok : ∀ k ∈ zKs7, Cond.code (zYn k) (zYb k) (zYl k) (zYr k) ∈ lw_tbl := List.forall_mem_cons.mpr ⟨kc_X7_placeIn, List.forall_mem_cons.mpr ⟨kc_X7_shared, List.forall_mem_cons.mpr ⟨kc_X7_sharedBy, List.forall_mem_cons.mpr ⟨kc_X7_compare, List.forall_mem_cons.mpr ⟨kc_X7_howTheyStand, List.forall_mem_cons.mpr ⟨kc_X7_count, List.forall_mem_cons.mpr ⟨kc_X7_allPatches, List.forall_mem_cons.mpr ⟨kc_X7_allLetters, List.forall_mem_cons.mpr ⟨kc_X7_allReadings, List.forall_mem_cons.mpr ⟨kc_X7_samePairs, List.forall_mem_cons.mpr ⟨kc_X7_ifCut, List.forall_mem_cons.mpr ⟨kc_X7_readingsIfCut, List.forall_mem_cons.mpr ⟨kc_X7_bestCut, List.forall_mem_cons.mpr ⟨kc_X7_put, List.forall_mem_cons.mpr ⟨kc_X7_wipe, List.forall_mem_cons.mpr ⟨kc_X7_fault, List.forall_mem_cons.mpr ⟨kc_X7_undo, List.forall_mem_cons.mpr ⟨kc_X7_save, List.forall_mem_cons.mpr ⟨kc_X7_restore, fun _ h => absurd h List.not_mem_nil⟩⟩⟩⟩⟩⟩⟩⟩⟩⟩⟩⟩⟩⟩⟩⟩⟩⟩⟩
def zKs : List zY := zKs0 ++ (zKs1 ++ (zKs2 ++ (zKs3 ++ (zKs4 ++ (zKs5 ++ (zKs6 ++ (zKs7)))))))
theorem zKs_ok : ∀ k ∈ zKs, Cond.code (zYn k) (zYb k) (zYl k) (zYr k) ∈ lw_tbl := List.forall_mem_append.mpr ⟨zKs0_ok, List.forall_mem_append.mpr ⟨zKs1_ok, List.forall_mem_append.mpr ⟨zKs2_ok, List.forall_mem_append.mpr ⟨zKs3_ok, List.forall_mem_append.mpr ⟨zKs4_ok, List.forall_mem_append.mpr ⟨zKs5_ok, List.forall_mem_append.mpr ⟨zKs6_ok, zKs7_ok⟩⟩⟩⟩⟩⟩⟩
def zKey (n : Nat) : zY := zKs.getD n kX6_init
/-- calls: (own class, pool number), kind (0 virtual, 1 static, 2 constructor), nest mate, callee (its number), arguments, its cells and slots, places in the tables -/
abbrev zCE : Type := (Nat × Nat) × Nat × Nat × Nat × Nat × (Nat × Nat) × (Nat × Nat × Nat × Nat)
def zCt0 : List zCE := [((8, 9), 2, 0, 0, 0, (173, 3593), (62, 63, 0, 51)), ((6, 9), 2, 0, 1, 0, (16, 350), (70, 71, 0, 52)), ((5, 17), 2, 1, 2, 0, (2, 66), (77, 78, 0, 53)), ((6, 18), 2, 1, 3, 0, (1, 64), (105, 106, 0, 54)), ((6, 25), 2, 0, 4, 0, (103, 2118), (119, 120, 0, 55)), ((1, 17), 2, 0, 1, 0, (16, 350), (125, 71, 0, 52)), ((6, 40), 2, 1, 5, 0, (9, 214), (136, 137, 0, 56)), ((3, 11), 2, 1, 6, 0, (3, 72), (142, 143, 0, 57)), ((6, 47), 2, 1, 2, 0, (2, 66), (180, 78, 0, 53)), ((8, 13), 0, 0, 7, 0, (0, 0), (206, 207, 208, 51)), ((6, 56), 0, 0, 8, 0, (0, 0), (210, 211, 212, 54)), ((2, 19), 0, 0, 9, 1, (0, 0), (214, 215, 216, 54)), ((2, 23), 1, 1, 10, 1, (0, 0), (218, 219, 0, 51)), ((6, 64), 0, 0, 11, 0, (0, 0), (221, 222, 223, 54)), ((6, 67), 0, 0, 12, 1, (0, 0), (225, 226, 227, 55)), ((1, 22), 0, 0, 13, 0, (0, 0), (229, 231, 0, 55)), ((1, 25), 0, 0, 14, 1, (0, 0), (233, 234, 235, 52)), ((5, 22), 0, 0, 15, 1, (0, 0), (237, 238, 239, 52)), ((5, 29), 0, 0, 16, 1, (0, 0), (241, 242, 243, 53)), ((6, 71), 0, 0, 17, 0, (0, 0), (248, 250, 1, 51)), ((6, 206), 0, 0, 18, 0, (0, 0), (252, 253, 254, 52)), ((5, 26), 0, 0, 19, 0, (0, 0), (256, 257, 258, 53)), ((4, 22), 0, 0, 20, 0, (0, 0), (260, 261, 262, 53)), ((4, 25), 0, 0, 21, 0, (0, 0), (264, 265, 266, 53))]
def zCt1 : List zCE := [((4, 42), 0, 0, 22, 1, (0, 0), (268, 269, 270, 53)), ((6, 210), 0, 0, 9, 1, (0, 0), (272, 215, 216, 54)), ((6, 213), 0, 0, 20, 0, (0, 0), (273, 261, 262, 53)), ((6, 216), 0, 0, 23, 1, (0, 0), (274, 275, 276, 53)), ((6, 74), 0, 0, 24, 0, (0, 0), (278, 279, 280, 54)), ((8, 18), 0, 0, 25, 1, (0, 0), (282, 283, 284, 51)), ((6, 77), 0, 0, 15, 1, (0, 0), (286, 238, 239, 52)), ((6, 81), 0, 0, 21, 0, (0, 0), (287, 265, 266, 53)), ((6, 84), 0, 0, 26, 1, (0, 0), (288, 289, 290, 52)), ((8, 23), 0, 0, 27, 3, (0, 0), (292, 293, 294, 51)), ((6, 88), 0, 0, 28, 1, (0, 0), (296, 297, 298, 53)), ((6, 92), 0, 0, 29, 2, (0, 0), (300, 301, 302, 53)), ((4, 35), 0, 0, 30, 1, (0, 0), (304, 305, 306, 53)), ((4, 39), 0, 0, 31, 1, (0, 0), (308, 309, 310, 53)), ((6, 99), 0, 0, 32, 2, (0, 0), (312, 313, 314, 53)), ((4, 45), 0, 0, 28, 1, (0, 0), (316, 297, 298, 53)), ((8, 28), 0, 0, 33, 2, (0, 0), (317, 318, 319, 51)), ((6, 103), 0, 0, 34, 1, (0, 0), (321, 322, 323, 53)), ((6, 106), 0, 0, 30, 1, (0, 0), (325, 305, 306, 53)), ((6, 110), 0, 0, 35, 1, (0, 0), (326, 327, 328, 53)), ((4, 49), 0, 0, 34, 1, (0, 0), (330, 322, 323, 53)), ((8, 33), 0, 0, 36, 2, (0, 0), (331, 332, 333, 51)), ((6, 113), 0, 0, 37, 1, (0, 0), (335, 336, 337, 53)), ((4, 52), 0, 0, 38, 1, (0, 0), (339, 340, 341, 53))]
def zCt2 : List zCE := [((6, 116), 0, 0, 39, 1, (0, 0), (343, 344, 345, 53)), ((4, 55), 1, 1, 40, 3, (0, 0), (347, 348, 0, 51)), ((8, 37), 0, 0, 41, 2, (0, 0), (350, 351, 352, 51)), ((6, 119), 0, 0, 42, 1, (0, 0), (354, 355, 356, 53)), ((6, 122), 0, 0, 43, 1, (0, 0), (358, 360, 2, 51)), ((6, 130), 0, 0, 44, 0, (0, 0), (362, 363, 364, 53)), ((4, 67), 0, 0, 45, 1, (0, 0), (366, 367, 368, 53)), ((4, 63), 1, 1, 46, 3, (0, 0), (370, 371, 0, 51)), ((6, 219), 1, 0, 47, 3, (0, 0), (373, 374, 0, 51)), ((6, 223), 0, 0, 45, 1, (0, 0), (376, 367, 368, 53)), ((6, 142), 0, 0, 22, 1, (0, 0), (377, 269, 270, 53)), ((6, 226), 0, 0, 31, 1, (0, 0), (378, 309, 310, 53)), ((6, 229), 0, 0, 48, 5, (0, 0), (379, 380, 381, 53)), ((6, 233), 0, 0, 49, 3, (0, 0), (383, 384, 385, 53)), ((4, 74), 0, 0, 50, 6, (0, 0), (387, 389, 3, 53)), ((8, 41), 0, 0, 51, 2, (0, 0), (391, 392, 393, 51)), ((6, 126), 0, 0, 52, 1, (0, 0), (395, 396, 397, 53)), ((4, 59), 0, 0, 23, 1, (0, 0), (399, 275, 276, 53)), ((8, 45), 0, 0, 53, 2, (0, 0), (400, 401, 402, 51)), ((6, 133), 0, 0, 54, 0, (0, 0), (404, 405, 406, 53)), ((6, 136), 0, 0, 55, 1, (0, 0), (408, 410, 4, 51)), ((6, 148), 0, 0, 56, 1, (0, 0), (412, 413, 414, 56)), ((3, 25), 0, 0, 21, 0, (0, 0), (416, 265, 266, 53)), ((3, 34), 0, 0, 57, 2, (0, 0), (417, 418, 419, 57))]
def zCt3 : List zCE := [((0, 33), 0, 0, 22, 1, (0, 0), (421, 269, 270, 53)), ((0, 37), 0, 0, 31, 1, (0, 0), (422, 309, 310, 53)), ((0, 40), 0, 0, 48, 5, (0, 0), (423, 380, 381, 53)), ((0, 44), 1, 1, 46, 3, (0, 0), (424, 371, 0, 51)), ((0, 48), 1, 1, 40, 3, (0, 0), (425, 348, 0, 51)), ((0, 52), 0, 0, 58, 2, (0, 0), (426, 428, 5, 57)), ((6, 151), 0, 0, 59, 0, (0, 0), (430, 431, 432, 56)), ((3, 38), 0, 0, 60, 0, (0, 0), (434, 435, 436, 57)), ((3, 42), 0, 0, 61, 0, (0, 0), (438, 440, 6, 56)), ((3, 52), 0, 0, 62, 0, (0, 0), (443, 444, 445, 57)), ((6, 247), 1, 0, 46, 3, (0, 0), (447, 371, 0, 51)), ((6, 139), 0, 0, 63, 1, (0, 0), (448, 450, 7, 51)), ((6, 237), 0, 0, 16, 1, (0, 0), (452, 242, 243, 53)), ((6, 251), 0, 0, 64, 2, (0, 0), (453, 455, 8, 51)), ((6, 163), 0, 0, 65, 2, (0, 0), (457, 459, 9, 51)), ((6, 243), 0, 0, 66, 2, (0, 0), (461, 462, 463, 53)), ((4, 70), 0, 0, 49, 3, (0, 0), (465, 384, 385, 53)), ((8, 49), 0, 0, 67, 2, (0, 0), (466, 467, 468, 51)), ((8, 53), 0, 0, 68, 3, (0, 0), (470, 471, 472, 51)), ((6, 145), 0, 0, 38, 1, (0, 0), (474, 340, 341, 53)), ((8, 57), 0, 0, 69, 3, (0, 0), (475, 476, 477, 51)), ((6, 155), 0, 0, 70, 1, (0, 0), (479, 480, 481, 56)), ((8, 61), 0, 0, 71, 2, (0, 0), (483, 484, 485, 51)), ((6, 156), 0, 0, 72, 0, (0, 0), (487, 488, 489, 54))]
def zCt4 : List zCE := [((6, 159), 0, 0, 73, 2, (0, 0), (491, 493, 10, 51)), ((6, 255), 0, 0, 74, 2, (0, 0), (495, 496, 497, 54)), ((2, 27), 0, 0, 75, 2, (0, 0), (499, 501, 11, 54)), ((8, 65), 0, 0, 76, 2, (0, 0), (503, 504, 505, 51)), ((8, 69), 0, 0, 77, 2, (0, 0), (507, 508, 509, 51)), ((8, 73), 0, 0, 78, 1, (0, 0), (511, 512, 513, 51)), ((6, 167), 0, 0, 79, 0, (0, 0), (515, 516, 517, 52)), ((6, 170), 0, 0, 80, 0, (0, 0), (519, 520, 521, 52)), ((5, 36), 0, 0, 21, 0, (0, 0), (523, 265, 266, 53)), ((6, 173), 0, 0, 81, 0, (0, 0), (524, 526, 12, 51)), ((6, 259), 0, 0, 82, 2, (0, 0), (528, 530, 13, 51)), ((6, 262), 0, 0, 83, 3, (0, 0), (532, 533, 534, 52)), ((5, 40), 0, 0, 66, 2, (0, 0), (536, 462, 463, 53)), ((6, 176), 0, 0, 84, 0, (0, 0), (537, 539, 14, 51)), ((8, 77), 0, 0, 85, 3, (0, 0), (541, 542, 543, 51)), ((6, 182), 0, 0, 86, 3, (0, 0), (545, 547, 15, 51)), ((8, 81), 0, 0, 87, 2, (0, 0), (549, 550, 551, 51)), ((8, 87), 0, 0, 88, 1, (0, 0), (553, 554, 555, 51)), ((6, 186), 1, 0, 89, 1, (0, 0), (557, 558, 0, 51)), ((6, 190), 1, 0, 90, 2, (0, 0), (560, 561, 0, 51)), ((6, 194), 0, 0, 91, 1, (0, 0), (564, 565, 566, 54)), ((8, 92), 0, 0, 92, 0, (0, 0), (568, 569, 570, 51)), ((8, 96), 0, 0, 93, 0, (0, 0), (572, 573, 574, 51)), ((8, 100), 0, 0, 94, 0, (0, 0), (576, 577, 578, 51))]
def zCt5 : List zCE := [((6, 197), 0, 0, 95, 1, (0, 0), (580, 581, 582, 55)), ((8, 104), 0, 0, 96, 1, (0, 0), (584, 585, 586, 51)), ((6, 201), 0, 0, 14, 1, (0, 0), (588, 234, 235, 52)), ((8, 108), 0, 0, 97, 1, (0, 0), (589, 590, 591, 51)), ((8, 12), 2, 0, 98, 0, (12, 18902), (595, 596, 0, 58)), ((8, 17), 0, 0, 99, 0, (0, 0), (657, 658, 659, 58)), ((7, 112), 0, 0, 100, 0, (0, 0), (661, 663, 16, 58)), ((7, 54), 1, 0, 101, 3, (0, 0), (665, 666, 0, 58)), ((7, 115), 0, 0, 102, 0, (0, 0), (668, 670, 17, 58)), ((7, 118), 0, 0, 103, 0, (0, 0), (672, 674, 18, 58)), ((7, 50), 1, 0, 104, 4, (0, 0), (676, 677, 0, 58)), ((7, 121), 0, 0, 105, 1, (0, 0), (679, 681, 19, 58)), ((7, 125), 0, 0, 106, 1, (0, 0), (683, 685, 20, 58)), ((8, 22), 0, 0, 107, 1, (0, 0), (687, 688, 689, 58)), ((7, 58), 0, 0, 108, 1, (0, 0), (691, 693, 21, 58)), ((7, 128), 0, 0, 109, 1, (0, 0), (695, 697, 22, 58)), ((7, 62), 0, 0, 110, 2, (0, 0), (699, 701, 23, 58)), ((7, 131), 0, 0, 111, 1, (0, 0), (703, 705, 24, 58)), ((8, 27), 0, 0, 112, 3, (0, 0), (707, 708, 709, 58)), ((7, 134), 0, 0, 113, 2, (0, 0), (711, 713, 25, 58)), ((7, 138), 0, 0, 114, 2, (0, 0), (715, 717, 26, 58)), ((7, 86), 0, 0, 115, 1, (0, 0), (719, 721, 27, 58)), ((7, 141), 0, 0, 116, 2, (0, 0), (723, 725, 28, 58)), ((8, 32), 0, 0, 117, 2, (0, 0), (727, 728, 729, 58))]
def zCt6 : List zCE := [((7, 145), 0, 0, 118, 2, (0, 0), (731, 733, 29, 58)), ((7, 148), 0, 0, 119, 1, (0, 0), (735, 737, 30, 58)), ((8, 36), 0, 0, 120, 2, (0, 0), (739, 740, 741, 58)), ((8, 40), 0, 0, 121, 2, (0, 0), (743, 744, 745, 58)), ((7, 89), 0, 0, 122, 1, (0, 0), (747, 749, 31, 58)), ((7, 79), 0, 0, 123, 1, (0, 0), (751, 753, 32, 58)), ((7, 83), 0, 0, 124, 1, (0, 0), (755, 757, 33, 58)), ((7, 75), 1, 0, 125, 5, (0, 0), (759, 760, 0, 58)), ((8, 44), 0, 0, 126, 2, (0, 0), (762, 763, 764, 58)), ((8, 48), 0, 0, 127, 2, (0, 0), (766, 767, 768, 58)), ((7, 99), 0, 0, 128, 1, (0, 0), (770, 772, 34, 58)), ((7, 154), 0, 0, 129, 1, (0, 0), (774, 776, 35, 58)), ((7, 157), 0, 0, 130, 0, (0, 0), (778, 780, 36, 58)), ((7, 151), 0, 0, 131, 2, (0, 0), (782, 784, 37, 58)), ((7, 160), 0, 0, 132, 1, (0, 0), (786, 788, 38, 58)), ((7, 102), 0, 0, 133, 0, (0, 0), (790, 792, 39, 58)), ((7, 105), 0, 0, 134, 0, (0, 0), (794, 796, 40, 58)), ((8, 52), 0, 0, 135, 2, (0, 0), (798, 799, 800, 58)), ((8, 56), 0, 0, 136, 3, (0, 0), (802, 803, 804, 58)), ((8, 60), 0, 0, 137, 3, (0, 0), (806, 807, 808, 58)), ((8, 64), 0, 0, 138, 2, (0, 0), (810, 811, 812, 58)), ((7, 163), 0, 0, 139, 0, (0, 0), (814, 816, 41, 58)), ((7, 167), 0, 0, 140, 1, (0, 0), (818, 820, 42, 58)), ((8, 68), 0, 0, 141, 2, (0, 0), (822, 823, 824, 58))]
def zCt7 : List zCE := [((7, 170), 0, 0, 142, 2, (0, 0), (826, 828, 43, 58)), ((8, 72), 0, 0, 143, 2, (0, 0), (830, 831, 832, 58)), ((7, 173), 0, 0, 144, 2, (0, 0), (834, 836, 44, 58)), ((8, 76), 0, 0, 145, 1, (0, 0), (838, 839, 840, 58)), ((7, 176), 0, 0, 146, 0, (0, 0), (842, 844, 45, 58)), ((7, 179), 0, 0, 147, 0, (0, 0), (846, 848, 46, 58)), ((7, 182), 0, 0, 148, 0, (0, 0), (850, 852, 47, 58)), ((7, 185), 0, 0, 149, 0, (0, 0), (854, 856, 48, 58)), ((8, 80), 0, 0, 150, 3, (0, 0), (858, 859, 860, 58)), ((7, 188), 0, 0, 151, 3, (0, 0), (862, 864, 49, 58)), ((8, 84), 0, 0, 152, 2, (0, 0), (866, 867, 868, 58)), ((8, 91), 0, 0, 153, 1, (0, 0), (870, 871, 872, 58)), ((8, 95), 0, 0, 154, 0, (0, 0), (875, 876, 877, 58)), ((8, 99), 0, 0, 155, 0, (0, 0), (879, 880, 881, 58)), ((8, 103), 0, 0, 156, 0, (0, 0), (883, 884, 885, 58)), ((8, 107), 0, 0, 157, 1, (0, 0), (887, 888, 889, 58)), ((8, 111), 0, 0, 158, 1, (0, 0), (891, 892, 893, 58))]
def zCtA : List zCE := zCt0 ++ (zCt1 ++ (zCt2 ++ (zCt3 ++ (zCt4 ++ (zCt5 ++ (zCt6 ++ (zCt7)))))))
/-- kind, callee, arguments, cells, slots -/
abbrev zCR : Type := Nat × zY × Nat × Nat × Nat
def zCl (o i : Nat) : Option zCR := (zCtA.find? (fun x => x.1 == (o, i))).map (fun x => (x.2.1, zKey x.2.2.2.1, x.2.2.2.2.1, x.2.2.2.2.2.1.1, x.2.2.2.2.2.1.2))
set_option maxRecDepth 100000 in
theorem zC_8_9 : zCl 8 9 = some (2, kX6_init, 0, 173, 3593) := rfl
set_option maxRecDepth 100000 in
theorem zC_6_9 : zCl 6 9 = some (2, kX5_init, 0, 16, 350) := rfl
set_option maxRecDepth 100000 in
theorem zC_5_17 : zCl 5 17 = some (2, kX4_init, 0, 2, 66) := rfl
set_option maxRecDepth 100000 in
theorem zC_6_18 : zCl 6 18 = some (2, kX2_init, 0, 1, 64) := rfl
set_option maxRecDepth 100000 in
theorem zC_6_25 : zCl 6 25 = some (2, kX1_init, 0, 103, 2118) := rfl
set_option maxRecDepth 100000 in
theorem zC_1_17 : zCl 1 17 = some (2, kX5_init, 0, 16, 350) := rfl
set_option maxRecDepth 100000 in
theorem zC_6_40 : zCl 6 40 = some (2, kX3_init, 0, 9, 214) := rfl
set_option maxRecDepth 100000 in
theorem zC_3_11 : zCl 3 11 = some (2, kX0_init, 0, 3, 72) := rfl
set_option maxRecDepth 100000 in
theorem zC_6_47 : zCl 6 47 = some (2, kX4_init, 0, 2, 66) := rfl
set_option maxRecDepth 100000 in
theorem zC_8_13 : zCl 8 13 = some (0, kX6_sew, 0, 0, 0) := rfl
set_option maxRecDepth 100000 in
theorem zC_6_56 : zCl 6 56 = some (0, kX2_firstFault, 0, 0, 0) := rfl
set_option maxRecDepth 100000 in
theorem zC_2_19 : zCl 2 19 = some (0, kX2_codeAt, 1, 0, 0) := rfl
set_option maxRecDepth 100000 in
theorem zC_2_23 : zCl 2 23 = some (1, kX6_isLetter, 1, 0, 0) := rfl
set_option maxRecDepth 100000 in
theorem zC_6_64 : zCl 6 64 = some (0, kX2_scrollsOfText, 0, 0, 0) := rfl
set_option maxRecDepth 100000 in
theorem zC_6_67 : zCl 6 67 = some (0, kX1_record, 1, 0, 0) := rfl
set_option maxRecDepth 100000 in
theorem zC_1_22 : zCl 1 22 = some (0, kX1_dropOldest, 0, 0, 0) := rfl
set_option maxRecDepth 100000 in
theorem zC_1_25 : zCl 1 25 = some (0, kX5_copyFrom, 1, 0, 0) := rfl
set_option maxRecDepth 100000 in
theorem zC_5_22 : zCl 5 22 = some (0, kX5_at, 1, 0, 0) := rfl
set_option maxRecDepth 100000 in
theorem zC_5_29 : zCl 5 29 = some (0, kX4_copyFrom, 1, 0, 0) := rfl
set_option maxRecDepth 100000 in
theorem zC_6_71 : zCl 6 71 = some (0, kX6_sewText, 0, 0, 0) := rfl
set_option maxRecDepth 100000 in
theorem zC_6_206 : zCl 6 206 = some (0, kX5_addScroll, 0, 0, 0) := rfl
set_option maxRecDepth 100000 in
theorem zC_5_26 : zCl 5 26 = some (0, kX4_startAnew, 0, 0, 0) := rfl
set_option maxRecDepth 100000 in
theorem zC_4_22 : zCl 4 22 = some (0, kX4_addPatch, 0, 0, 0) := rfl
set_option maxRecDepth 100000 in
theorem zC_4_25 : zCl 4 25 = some (0, kX4_length, 0, 0, 0) := rfl
set_option maxRecDepth 100000 in
theorem zC_4_42 : zCl 4 42 = some (0, kX4_startOf, 1, 0, 0) := rfl
set_option maxRecDepth 100000 in
theorem zC_6_210 : zCl 6 210 = some (0, kX2_codeAt, 1, 0, 0) := rfl
set_option maxRecDepth 100000 in
theorem zC_6_213 : zCl 6 213 = some (0, kX4_addPatch, 0, 0, 0) := rfl
set_option maxRecDepth 100000 in
theorem zC_6_216 : zCl 6 216 = some (0, kX4_addLetter, 1, 0, 0) := rfl
set_option maxRecDepth 100000 in
theorem zC_6_74 : zCl 6 74 = some (0, kX2_empty, 0, 0, 0) := rfl
set_option maxRecDepth 100000 in
theorem zC_8_18 : zCl 8 18 = some (0, kX6_burn, 1, 0, 0) := rfl
set_option maxRecDepth 100000 in
theorem zC_6_77 : zCl 6 77 = some (0, kX5_at, 1, 0, 0) := rfl
set_option maxRecDepth 100000 in
theorem zC_6_81 : zCl 6 81 = some (0, kX4_length, 0, 0, 0) := rfl
set_option maxRecDepth 100000 in
theorem zC_6_84 : zCl 6 84 = some (0, kX5_remove, 1, 0, 0) := rfl
set_option maxRecDepth 100000 in
theorem zC_8_23 : zCl 8 23 = some (0, kX6_cut, 3, 0, 0) := rfl
set_option maxRecDepth 100000 in
theorem zC_6_88 : zCl 6 88 = some (0, kX4_hasPatch, 1, 0, 0) := rfl
set_option maxRecDepth 100000 in
theorem zC_6_92 : zCl 6 92 = some (0, kX4_canBeCut, 2, 0, 0) := rfl
set_option maxRecDepth 100000 in
theorem zC_4_35 : zCl 4 35 = some (0, kX4_sizeOf, 1, 0, 0) := rfl
set_option maxRecDepth 100000 in
theorem zC_4_39 : zCl 4 39 = some (0, kX4_endOf, 1, 0, 0) := rfl
set_option maxRecDepth 100000 in
theorem zC_6_99 : zCl 6 99 = some (0, kX4_split, 2, 0, 0) := rfl
set_option maxRecDepth 100000 in
theorem zC_4_45 : zCl 4 45 = some (0, kX4_hasPatch, 1, 0, 0) := rfl
set_option maxRecDepth 100000 in
theorem zC_8_28 : zCl 8 28 = some (0, kX6_undoSeam, 2, 0, 0) := rfl
set_option maxRecDepth 100000 in
theorem zC_6_103 : zCl 6 103 = some (0, kX4_hasSeam, 1, 0, 0) := rfl
set_option maxRecDepth 100000 in
theorem zC_6_106 : zCl 6 106 = some (0, kX4_sizeOf, 1, 0, 0) := rfl
set_option maxRecDepth 100000 in
theorem zC_6_110 : zCl 6 110 = some (0, kX4_merge, 1, 0, 0) := rfl
set_option maxRecDepth 100000 in
theorem zC_4_49 : zCl 4 49 = some (0, kX4_hasSeam, 1, 0, 0) := rfl
set_option maxRecDepth 100000 in
theorem zC_8_33 : zCl 8 33 = some (0, kX6_turn, 2, 0, 0) := rfl
set_option maxRecDepth 100000 in
theorem zC_6_113 : zCl 6 113 = some (0, kX4_unlikeTurned, 1, 0, 0) := rfl
set_option maxRecDepth 100000 in
theorem zC_4_52 : zCl 4 52 = some (0, kX4_letterAt, 1, 0, 0) := rfl
set_option maxRecDepth 100000 in
theorem zC_6_116 : zCl 6 116 = some (0, kX4_turnRound, 1, 0, 0) := rfl
set_option maxRecDepth 100000 in
theorem zC_4_55 : zCl 4 55 = some (1, kX6_turnPart, 3, 0, 0) := rfl
set_option maxRecDepth 100000 in
theorem zC_8_37 : zCl 8 37 = some (0, kX6_exchange, 2, 0, 0) := rfl
set_option maxRecDepth 100000 in
theorem zC_6_119 : zCl 6 119 = some (0, kX4_swapBeside, 1, 0, 0) := rfl
set_option maxRecDepth 100000 in
theorem zC_6_122 : zCl 6 122 = some (0, kX6_readingsOf, 1, 0, 0) := rfl
set_option maxRecDepth 100000 in
theorem zC_6_130 : zCl 6 130 = some (0, kX4_waysFromFirst, 0, 0, 0) := rfl
set_option maxRecDepth 100000 in
theorem zC_4_67 : zCl 4 67 = some (0, kX4_isEven, 1, 0, 0) := rfl
set_option maxRecDepth 100000 in
theorem zC_4_63 : zCl 4 63 = some (1, kX6_orderTurned, 3, 0, 0) := rfl
set_option maxRecDepth 100000 in
theorem zC_6_219 : zCl 6 219 = some (1, kX6_toldFromBothEnds, 3, 0, 0) := rfl
set_option maxRecDepth 100000 in
theorem zC_6_223 : zCl 6 223 = some (0, kX4_isEven, 1, 0, 0) := rfl
set_option maxRecDepth 100000 in
theorem zC_6_142 : zCl 6 142 = some (0, kX4_startOf, 1, 0, 0) := rfl
set_option maxRecDepth 100000 in
theorem zC_6_226 : zCl 6 226 = some (0, kX4_endOf, 1, 0, 0) := rfl
set_option maxRecDepth 100000 in
theorem zC_6_229 : zCl 6 229 = some (0, kX4_lay, 5, 0, 0) := rfl
set_option maxRecDepth 100000 in
theorem zC_6_233 : zCl 6 233 = some (0, kX4_beginsWith, 3, 0, 0) := rfl
set_option maxRecDepth 100000 in
theorem zC_4_74 : zCl 4 74 = some (0, kX4_standsAt, 6, 0, 0) := rfl
set_option maxRecDepth 100000 in
theorem zC_8_41 : zCl 8 41 = some (0, kX6_join, 2, 0, 0) := rfl
set_option maxRecDepth 100000 in
theorem zC_6_126 : zCl 6 126 = some (0, kX4_sewOn, 1, 0, 0) := rfl
set_option maxRecDepth 100000 in
theorem zC_4_59 : zCl 4 59 = some (0, kX4_addLetter, 1, 0, 0) := rfl
set_option maxRecDepth 100000 in
theorem zC_8_45 : zCl 8 45 = some (0, kX6_scroll, 2, 0, 0) := rfl
set_option maxRecDepth 100000 in
theorem zC_6_133 : zCl 6 133 = some (0, kX4_evenPatches, 0, 0, 0) := rfl
set_option maxRecDepth 100000 in
theorem zC_6_136 : zCl 6 136 = some (0, kX6_evenReadings, 1, 0, 0) := rfl
set_option maxRecDepth 100000 in
theorem zC_6_148 : zCl 6 148 = some (0, kX3_begin, 1, 0, 0) := rfl
set_option maxRecDepth 100000 in
theorem zC_3_25 : zCl 3 25 = some (0, kX4_length, 0, 0, 0) := rfl
set_option maxRecDepth 100000 in
theorem zC_3_34 : zCl 3 34 = some (0, kX0_begin, 2, 0, 0) := rfl
set_option maxRecDepth 100000 in
theorem zC_0_33 : zCl 0 33 = some (0, kX4_startOf, 1, 0, 0) := rfl
set_option maxRecDepth 100000 in
theorem zC_0_37 : zCl 0 37 = some (0, kX4_endOf, 1, 0, 0) := rfl
set_option maxRecDepth 100000 in
theorem zC_0_40 : zCl 0 40 = some (0, kX4_lay, 5, 0, 0) := rfl
set_option maxRecDepth 100000 in
theorem zC_0_44 : zCl 0 44 = some (1, kX6_orderTurned, 3, 0, 0) := rfl
set_option maxRecDepth 100000 in
theorem zC_0_48 : zCl 0 48 = some (1, kX6_turnPart, 3, 0, 0) := rfl
set_option maxRecDepth 100000 in
theorem zC_0_52 : zCl 0 52 = some (0, kX0_addDigit, 2, 0, 0) := rfl
set_option maxRecDepth 100000 in
theorem zC_6_151 : zCl 6 151 = some (0, kX3_next, 0, 0, 0) := rfl
set_option maxRecDepth 100000 in
theorem zC_3_38 : zCl 3 38 = some (0, kX0_isOver, 0, 0, 0) := rfl
set_option maxRecDepth 100000 in
theorem zC_3_42 : zCl 3 42 = some (0, kX3_orderOfEnds, 0, 0, 0) := rfl
set_option maxRecDepth 100000 in
theorem zC_3_52 : zCl 3 52 = some (0, kX0_step, 0, 0, 0) := rfl
set_option maxRecDepth 100000 in
theorem zC_6_247 : zCl 6 247 = some (1, kX6_orderTurned, 3, 0, 0) := rfl
set_option maxRecDepth 100000 in
theorem zC_6_139 : zCl 6 139 = some (0, kX6_idleSeams, 1, 0, 0) := rfl
set_option maxRecDepth 100000 in
theorem zC_6_237 : zCl 6 237 = some (0, kX4_copyFrom, 1, 0, 0) := rfl
set_option maxRecDepth 100000 in
theorem zC_6_251 : zCl 6 251 = some (0, kX6_tellTheSame, 2, 0, 0) := rfl
set_option maxRecDepth 100000 in
theorem zC_6_163 : zCl 6 163 = some (0, kX6_readingsOfBoth, 2, 0, 0) := rfl
set_option maxRecDepth 100000 in
theorem zC_6_243 : zCl 6 243 = some (0, kX4_tells, 2, 0, 0) := rfl
set_option maxRecDepth 100000 in
theorem zC_4_70 : zCl 4 70 = some (0, kX4_beginsWith, 3, 0, 0) := rfl
set_option maxRecDepth 100000 in
theorem zC_8_49 : zCl 8 49 = some (0, kX6_patch, 2, 0, 0) := rfl
set_option maxRecDepth 100000 in
theorem zC_8_53 : zCl 8 53 = some (0, kX6_letter, 3, 0, 0) := rfl
set_option maxRecDepth 100000 in
theorem zC_6_145 : zCl 6 145 = some (0, kX4_letterAt, 1, 0, 0) := rfl
set_option maxRecDepth 100000 in
theorem zC_8_57 : zCl 8 57 = some (0, kX6_reading, 3, 0, 0) := rfl
set_option maxRecDepth 100000 in
theorem zC_6_155 : zCl 6 155 = some (0, kX3_letterAt, 1, 0, 0) := rfl
set_option maxRecDepth 100000 in
theorem zC_8_61 : zCl 8 61 = some (0, kX6_find, 2, 0, 0) := rfl
set_option maxRecDepth 100000 in
theorem zC_6_156 : zCl 6 156 = some (0, kX2_isWord, 0, 0, 0) := rfl
set_option maxRecDepth 100000 in
theorem zC_6_159 : zCl 6 159 = some (0, kX6_findWord, 2, 0, 0) := rfl
set_option maxRecDepth 100000 in
theorem zC_6_255 : zCl 6 255 = some (0, kX2_placeIn, 2, 0, 0) := rfl
set_option maxRecDepth 100000 in
theorem zC_2_27 : zCl 2 27 = some (0, kX2_standsAt, 2, 0, 0) := rfl
set_option maxRecDepth 100000 in
theorem zC_8_65 : zCl 8 65 = some (0, kX6_shared, 2, 0, 0) := rfl
set_option maxRecDepth 100000 in
theorem zC_8_69 : zCl 8 69 = some (0, kX6_compare, 2, 0, 0) := rfl
set_option maxRecDepth 100000 in
theorem zC_8_73 : zCl 8 73 = some (0, kX6_count, 1, 0, 0) := rfl
set_option maxRecDepth 100000 in
theorem zC_6_167 : zCl 6 167 = some (0, kX5_patchesOfAll, 0, 0, 0) := rfl
set_option maxRecDepth 100000 in
theorem zC_6_170 : zCl 6 170 = some (0, kX5_lettersOfAll, 0, 0, 0) := rfl
set_option maxRecDepth 100000 in
theorem zC_5_36 : zCl 5 36 = some (0, kX4_length, 0, 0, 0) := rfl
set_option maxRecDepth 100000 in
theorem zC_6_173 : zCl 6 173 = some (0, kX6_readingsOfAll, 0, 0, 0) := rfl
set_option maxRecDepth 100000 in
theorem zC_6_259 : zCl 6 259 = some (0, kX6_readingsNotToldBefore, 2, 0, 0) := rfl
set_option maxRecDepth 100000 in
theorem zC_6_262 : zCl 6 262 = some (0, kX5_tellsBefore, 3, 0, 0) := rfl
set_option maxRecDepth 100000 in
theorem zC_5_40 : zCl 5 40 = some (0, kX4_tells, 2, 0, 0) := rfl
set_option maxRecDepth 100000 in
theorem zC_6_176 : zCl 6 176 = some (0, kX6_pairsOfTheSame, 0, 0, 0) := rfl
set_option maxRecDepth 100000 in
theorem zC_8_77 : zCl 8 77 = some (0, kX6_ifCut, 3, 0, 0) := rfl
set_option maxRecDepth 100000 in
theorem zC_6_182 : zCl 6 182 = some (0, kX6_readingsWithCut, 3, 0, 0) := rfl
set_option maxRecDepth 100000 in
theorem zC_8_81 : zCl 8 81 = some (0, kX6_bestCut, 2, 0, 0) := rfl
set_option maxRecDepth 100000 in
theorem zC_8_87 : zCl 8 87 = some (0, kX6_put, 1, 0, 0) := rfl
set_option maxRecDepth 100000 in
theorem zC_6_186 : zCl 6 186 = some (1, kX6_charactersIn, 1, 0, 0) := rfl
set_option maxRecDepth 100000 in
theorem zC_6_190 : zCl 6 190 = some (1, kX6_codeIn, 2, 0, 0) := rfl
set_option maxRecDepth 100000 in
theorem zC_6_194 : zCl 6 194 = some (0, kX2_append, 1, 0, 0) := rfl
set_option maxRecDepth 100000 in
theorem zC_8_92 : zCl 8 92 = some (0, kX6_wipe, 0, 0, 0) := rfl
set_option maxRecDepth 100000 in
theorem zC_8_96 : zCl 8 96 = some (0, kX6_fault, 0, 0, 0) := rfl
set_option maxRecDepth 100000 in
theorem zC_8_100 : zCl 8 100 = some (0, kX6_undo, 0, 0, 0) := rfl
set_option maxRecDepth 100000 in
theorem zC_6_197 : zCl 6 197 = some (0, kX1_takeBack, 1, 0, 0) := rfl
set_option maxRecDepth 100000 in
theorem zC_8_104 : zCl 8 104 = some (0, kX6_save, 1, 0, 0) := rfl
set_option maxRecDepth 100000 in
theorem zC_6_201 : zCl 6 201 = some (0, kX5_copyFrom, 1, 0, 0) := rfl
set_option maxRecDepth 100000 in
theorem zC_8_108 : zCl 8 108 = some (0, kX6_restore, 1, 0, 0) := rfl
set_option maxRecDepth 100000 in
theorem zC_8_12 : zCl 8 12 = some (2, kX7_init, 0, 12, 18902) := rfl
set_option maxRecDepth 100000 in
theorem zC_8_17 : zCl 8 17 = some (0, kX7_sew, 0, 0, 0) := rfl
set_option maxRecDepth 100000 in
theorem zC_7_112 : zCl 7 112 = some (0, kX7_findFault, 0, 0, 0) := rfl
set_option maxRecDepth 100000 in
theorem zC_7_54 : zCl 7 54 = some (1, kX7_within, 3, 0, 0) := rfl
set_option maxRecDepth 100000 in
theorem zC_7_115 : zCl 7 115 = some (0, kX7_toldMany, 0, 0, 0) := rfl
set_option maxRecDepth 100000 in
theorem zC_7_118 : zCl 7 118 = some (0, kX7_record, 0, 0, 0) := rfl
set_option maxRecDepth 100000 in
theorem zC_7_50 : zCl 7 50 = some (1, kX7_moves, 4, 0, 0) := rfl
set_option maxRecDepth 100000 in
theorem zC_7_121 : zCl 7 121 = some (0, kX7_readScroll, 1, 0, 0) := rfl
set_option maxRecDepth 100000 in
theorem zC_7_125 : zCl 7 125 = some (0, kX7_give, 1, 0, 0) := rfl
set_option maxRecDepth 100000 in
theorem zC_8_22 : zCl 8 22 = some (0, kX7_burn, 1, 0, 0) := rfl
set_option maxRecDepth 100000 in
theorem zC_7_58 : zCl 7 58 = some (0, kX7_isScroll, 1, 0, 0) := rfl
set_option maxRecDepth 100000 in
theorem zC_7_128 : zCl 7 128 = some (0, kX7_lettersOf, 1, 0, 0) := rfl
set_option maxRecDepth 100000 in
theorem zC_7_62 : zCl 7 62 = some (0, kX7_part, 2, 0, 0) := rfl
set_option maxRecDepth 100000 in
theorem zC_7_131 : zCl 7 131 = some (0, kX7_goes, 1, 0, 0) := rfl
set_option maxRecDepth 100000 in
theorem zC_8_27 : zCl 8 27 = some (0, kX7_cut, 3, 0, 0) := rfl
set_option maxRecDepth 100000 in
theorem zC_7_134 : zCl 7 134 = some (0, kX7_isPatch, 2, 0, 0) := rfl
set_option maxRecDepth 100000 in
theorem zC_7_138 : zCl 7 138 = some (0, kX7_sizeOf, 2, 0, 0) := rfl
set_option maxRecDepth 100000 in
theorem zC_7_86 : zCl 7 86 = some (0, kX7_take, 1, 0, 0) := rfl
set_option maxRecDepth 100000 in
theorem zC_7_141 : zCl 7 141 = some (0, kX7_cutNow, 2, 0, 0) := rfl
set_option maxRecDepth 100000 in
theorem zC_8_32 : zCl 8 32 = some (0, kX7_undoSeam, 2, 0, 0) := rfl
set_option maxRecDepth 100000 in
theorem zC_7_145 : zCl 7 145 = some (0, kX7_isSeam, 2, 0, 0) := rfl
set_option maxRecDepth 100000 in
theorem zC_7_148 : zCl 7 148 = some (0, kX7_undoNow, 1, 0, 0) := rfl
set_option maxRecDepth 100000 in
theorem zC_8_36 : zCl 8 36 = some (0, kX7_turn, 2, 0, 0) := rfl
set_option maxRecDepth 100000 in
theorem zC_8_40 : zCl 8 40 = some (0, kX7_exchange, 2, 0, 0) := rfl
set_option maxRecDepth 100000 in
theorem zC_7_89 : zCl 7 89 = some (0, kX7_search, 1, 0, 0) := rfl
set_option maxRecDepth 100000 in
theorem zC_7_79 : zCl 7 79 = some (0, kX7_layDown, 1, 0, 0) := rfl
set_option maxRecDepth 100000 in
theorem zC_7_83 : zCl 7 83 = some (0, kX7_takeIn, 1, 0, 0) := rfl
set_option maxRecDepth 100000 in
theorem zC_7_75 : zCl 7 75 = some (1, kX7_compared, 5, 0, 0) := rfl
set_option maxRecDepth 100000 in
theorem zC_8_44 : zCl 8 44 = some (0, kX7_join, 2, 0, 0) := rfl
set_option maxRecDepth 100000 in
theorem zC_8_48 : zCl 8 48 = some (0, kX7_scroll, 2, 0, 0) := rfl
set_option maxRecDepth 100000 in
theorem zC_7_99 : zCl 7 99 = some (0, kX7_findOf, 1, 0, 0) := rfl
set_option maxRecDepth 100000 in
theorem zC_7_154 : zCl 7 154 = some (0, kX7_sameBothWays, 1, 0, 0) := rfl
set_option maxRecDepth 100000 in
theorem zC_7_157 : zCl 7 157 = some (0, kX7_sameFromEnds, 0, 0, 0) := rfl
set_option maxRecDepth 100000 in
theorem zC_7_151 : zCl 7 151 = some (0, kX7_letterOf, 2, 0, 0) := rfl
set_option maxRecDepth 100000 in
theorem zC_7_160 : zCl 7 160 = some (0, kX7_needlessSeams, 1, 0, 0) := rfl
set_option maxRecDepth 100000 in
theorem zC_7_102 : zCl 7 102 = some (0, kX7_keepOther, 0, 0, 0) := rfl
set_option maxRecDepth 100000 in
theorem zC_7_105 : zCl 7 105 = some (0, kX7_meet, 0, 0, 0) := rfl
set_option maxRecDepth 100000 in
theorem zC_8_52 : zCl 8 52 = some (0, kX7_patch, 2, 0, 0) := rfl
set_option maxRecDepth 100000 in
theorem zC_8_56 : zCl 8 56 = some (0, kX7_letter, 3, 0, 0) := rfl
set_option maxRecDepth 100000 in
theorem zC_8_60 : zCl 8 60 = some (0, kX7_reading, 3, 0, 0) := rfl
set_option maxRecDepth 100000 in
theorem zC_8_64 : zCl 8 64 = some (0, kX7_find, 2, 0, 0) := rfl
set_option maxRecDepth 100000 in
theorem zC_7_163 : zCl 7 163 = some (0, kX7_isWord, 0, 0, 0) := rfl
set_option maxRecDepth 100000 in
theorem zC_7_167 : zCl 7 167 = some (0, kX7_placeIn, 1, 0, 0) := rfl
set_option maxRecDepth 100000 in
theorem zC_8_68 : zCl 8 68 = some (0, kX7_shared, 2, 0, 0) := rfl
set_option maxRecDepth 100000 in
theorem zC_7_170 : zCl 7 170 = some (0, kX7_sharedBy, 2, 0, 0) := rfl
set_option maxRecDepth 100000 in
theorem zC_8_72 : zCl 8 72 = some (0, kX7_compare, 2, 0, 0) := rfl
set_option maxRecDepth 100000 in
theorem zC_7_173 : zCl 7 173 = some (0, kX7_howTheyStand, 2, 0, 0) := rfl
set_option maxRecDepth 100000 in
theorem zC_8_76 : zCl 8 76 = some (0, kX7_count, 1, 0, 0) := rfl
set_option maxRecDepth 100000 in
theorem zC_7_176 : zCl 7 176 = some (0, kX7_allPatches, 0, 0, 0) := rfl
set_option maxRecDepth 100000 in
theorem zC_7_179 : zCl 7 179 = some (0, kX7_allLetters, 0, 0, 0) := rfl
set_option maxRecDepth 100000 in
theorem zC_7_182 : zCl 7 182 = some (0, kX7_allReadings, 0, 0, 0) := rfl
set_option maxRecDepth 100000 in
theorem zC_7_185 : zCl 7 185 = some (0, kX7_samePairs, 0, 0, 0) := rfl
set_option maxRecDepth 100000 in
theorem zC_8_80 : zCl 8 80 = some (0, kX7_ifCut, 3, 0, 0) := rfl
set_option maxRecDepth 100000 in
theorem zC_7_188 : zCl 7 188 = some (0, kX7_readingsIfCut, 3, 0, 0) := rfl
set_option maxRecDepth 100000 in
theorem zC_8_84 : zCl 8 84 = some (0, kX7_bestCut, 2, 0, 0) := rfl
set_option maxRecDepth 100000 in
theorem zC_8_91 : zCl 8 91 = some (0, kX7_put, 1, 0, 0) := rfl
set_option maxRecDepth 100000 in
theorem zC_8_95 : zCl 8 95 = some (0, kX7_wipe, 0, 0, 0) := rfl
set_option maxRecDepth 100000 in
theorem zC_8_99 : zCl 8 99 = some (0, kX7_fault, 0, 0, 0) := rfl
set_option maxRecDepth 100000 in
theorem zC_8_103 : zCl 8 103 = some (0, kX7_undo, 0, 0, 0) := rfl
set_option maxRecDepth 100000 in
theorem zC_8_107 : zCl 8 107 = some (0, kX7_save, 1, 0, 0) := rfl
set_option maxRecDepth 100000 in
theorem zC_8_111 : zCl 8 111 = some (0, kX7_restore, 1, 0, 0) := rfl
/-- Object.<init>: (own class, pool number), place of the link -/
def zOt : List ((Nat × Nat) × Nat) := [((6, 1), 65), ((5, 3), 73), ((4, 3), 80), ((2, 3), 108), ((1, 3), 122), ((3, 3), 139), ((0, 3), 145), ((7, 1), 598)]
def zOk (o i : Nat) : Bool := (zOt.find? (fun x => x.1 == (o, i))).isSome
theorem zO_6_1 : zOk 6 1 = true := rfl
theorem zO_5_3 : zOk 5 3 = true := rfl
theorem zO_4_3 : zOk 4 3 = true := rfl
theorem zO_2_3 : zOk 2 3 = true := rfl
theorem zO_1_3 : zOk 1 3 = true := rfl
theorem zO_3_3 : zOk 3 3 = true := rfl
theorem zO_0_3 : zOk 0 3 = true := rfl
theorem zO_7_1 : zOk 7 1 = true := rfl
def zOp : Nat × Nat := (66, 67)
/-- System.arraycopy -/
def zAt : List ((Nat × Nat) × Nat) := [((4, 29), 245), ((3, 46), 442)]
def zAk (o i : Nat) : Bool := (zAt.find? (fun x => x.1 == (o, i))).isSome
theorem zA_4_29 : zAk 4 29 = true := rfl
theorem zA_3_46 : zAk 3 46 = true := rfl
theorem zC_4_29 : zCl 4 29 = none := rfl
theorem zC_3_46 : zCl 3 46 = none := rfl
theorem zC_6_1 : zCl 6 1 = none := rfl
theorem zC_5_3 : zCl 5 3 = none := rfl
theorem zC_4_3 : zCl 4 3 = none := rfl
theorem zC_2_3 : zCl 2 3 = none := rfl
theorem zC_1_3 : zCl 1 3 = none := rfl
theorem zC_3_3 : zCl 3 3 = none := rfl
theorem zC_0_3 : zCl 0 3 = none := rfl
theorem zC_7_1 : zCl 7 1 = none := rfl
theorem zO_8_9 : zOk 8 9 = false := rfl
theorem zO_6_9 : zOk 6 9 = false := rfl
theorem zO_5_17 : zOk 5 17 = false := rfl
theorem zO_6_18 : zOk 6 18 = false := rfl
theorem zO_6_25 : zOk 6 25 = false := rfl
theorem zO_1_17 : zOk 1 17 = false := rfl
theorem zO_6_40 : zOk 6 40 = false := rfl
theorem zO_3_11 : zOk 3 11 = false := rfl
theorem zO_6_47 : zOk 6 47 = false := rfl
theorem zO_8_12 : zOk 8 12 = false := rfl
def zAp : Nat × Nat × Nat := (247, 246, 59)
/-- class links: (own class, pool number), class, places (link, instantiable, initialized) -/
def zNt : List ((Nat × Nat) × Nat × (Nat × Nat × Nat)) := [((8, 7), 6, (60, 61, 51)), ((6, 7), 5, (68, 69, 52)), ((5, 9), 4, (74, 76, 53)), ((6, 16), 2, (103, 104, 54)), ((6, 23), 1, (117, 118, 55)), ((1, 9), 5, (123, 69, 52)), ((6, 38), 3, (134, 135, 56)), ((3, 9), 0, (140, 141, 57)), ((6, 45), 4, (179, 76, 53)), ((8, 10), 7, (593, 594, 58))]
def zNc (o i : Nat) : Option Nat := (zNt.find? (fun x => x.1 == (o, i))).map (fun x => x.2.1)
theorem zN_8_7 : zNc 8 7 = some 6 := rfl
theorem zN_6_7 : zNc 6 7 = some 5 := rfl
theorem zN_5_9 : zNc 5 9 = some 4 := rfl
theorem zN_6_16 : zNc 6 16 = some 2 := rfl
theorem zN_6_23 : zNc 6 23 = some 1 := rfl
theorem zN_1_9 : zNc 1 9 = some 5 := rfl
theorem zN_6_38 : zNc 6 38 = some 3 := rfl
theorem zN_3_9 : zNc 3 9 = some 0 := rfl
theorem zN_6_45 : zNc 6 45 = some 4 := rfl
theorem zN_8_10 : zNc 8 10 = some 7 := rfl
/-- a new object: its fields; how many -/
def zDf (ci : Nat) : List (Int ⊕ (Option Nat ⊕ Int64)) := match ci with
  | 0 => [.inr (.inl none), .inr (.inl none), .inr (.inl none), .inl 0, .inl 0]
  | 1 => [.inr (.inl none), .inl 0]
  | 2 => [.inr (.inl none), .inl 0]
  | 3 => [.inr (.inl none), .inr (.inl none), .inr (.inl none), .inl 0]
  | 4 => [.inr (.inl none), .inr (.inl none), .inl 0]
  | 5 => [.inr (.inl none), .inl 0]
  | 6 => [.inr (.inl none), .inr (.inl none), .inr (.inl none), .inr (.inl none), .inr (.inl none), .inr (.inl none), .inr (.inl none), .inr (.inl none)]
  | 7 => [.inr (.inl none), .inr (.inl none), .inl 0, .inr (.inl none), .inr (.inl none), .inr (.inl none), .inl 0, .inl 0, .inr (.inl none), .inr (.inl none), .inr (.inl none), .inr (.inl none), .inl 0, .inl 0, .inr (.inl none), .inr (.inl none), .inr (.inl none), .inl 0, .inl 0]
  | _ => []
def zNf (ci : Nat) : Nat := match ci with
  | 0 => 5
  | 1 => 2
  | 2 => 2
  | 3 => 4
  | 4 => 3
  | 5 => 2
  | 6 => 8
  | 7 => 19
  | _ => 0
/-- long constants -/
def zLt : List ((Nat × Nat) × Int64 × Nat) := [((6, 204), 255, 563), ((7, 192), 255, 874), ((8, 85), 4294967295, 895)]
def zLc (o i : Nat) : Option Int64 := (zLt.find? (fun x => x.1 == (o, i))).map (fun x => x.2.1)
theorem zL_6_204 : zLc 6 204 = some (255) := rfl
theorem zL_7_192 : zLc 7 192 = some (255) := rfl
theorem zL_8_85 : zLc 8 85 = some (4294967295) := rfl
def zArr : Nat × Nat × Nat × Nat := (94, 163, 75, 124)
end
section
theorem eX0_init_0 : decode (zYb kX0_init) 0 = .ok (.aload_n 0, 1) := by decide +kernel
theorem eX0_init_1 : decode (zYb kX0_init) 1 = .ok (.invokespecial 3, 3) := by decide +kernel
theorem eX0_init_4 : decode (zYb kX0_init) 4 = .ok (.aload_n 0, 1) := by decide +kernel
theorem eX0_init_5 : decode (zYb kX0_init) 5 = .ok (.bipush 60, 2) := by decide +kernel
theorem eX0_init_7 : decode (zYb kX0_init) 7 = .ok (.newarray .int, 2) := by decide +kernel
theorem eX0_init_9 : decode (zYb kX0_init) 9 = .ok (.putfield 9, 3) := by decide +kernel
theorem eX0_init_12 : decode (zYb kX0_init) 12 = .ok (.aload_n 0, 1) := by decide +kernel
theorem eX0_init_13 : decode (zYb kX0_init) 13 = .ok (.bipush 6, 2) := by decide +kernel
theorem eX0_init_15 : decode (zYb kX0_init) 15 = .ok (.newarray .int, 2) := by decide +kernel
theorem eX0_init_17 : decode (zYb kX0_init) 17 = .ok (.putfield 15, 3) := by decide +kernel
theorem eX0_init_20 : decode (zYb kX0_init) 20 = .ok (.aload_n 0, 1) := by decide +kernel
theorem eX0_init_21 : decode (zYb kX0_init) 21 = .ok (.bipush 6, 2) := by decide +kernel
theorem eX0_init_23 : decode (zYb kX0_init) 23 = .ok (.newarray .int, 2) := by decide +kernel
theorem eX0_init_25 : decode (zYb kX0_init) 25 = .ok (.putfield 18, 3) := by decide +kernel
theorem eX0_init_28 : decode (zYb kX0_init) 28 = .ok (.return_, 1) := by decide +kernel
theorem eX0_begin_0 : decode (zYb kX0_begin) 0 = .ok (.aload_n 0, 1) := by decide +kernel
theorem eX0_begin_1 : decode (zYb kX0_begin) 1 = .ok (.iconst 0, 1) := by decide +kernel
theorem eX0_begin_2 : decode (zYb kX0_begin) 2 = .ok (.putfield 21, 3) := by decide +kernel
theorem eX0_begin_5 : decode (zYb kX0_begin) 5 = .ok (.aload_n 0, 1) := by decide +kernel
theorem eX0_begin_6 : decode (zYb kX0_begin) 6 = .ok (.iconst 0, 1) := by decide +kernel
theorem eX0_begin_7 : decode (zYb kX0_begin) 7 = .ok (.putfield 25, 3) := by decide +kernel
theorem eX0_begin_10 : decode (zYb kX0_begin) 10 = .ok (.iconst 0, 1) := by decide +kernel
theorem eX0_begin_11 : decode (zYb kX0_begin) 11 = .ok (.istore_n 3, 1) := by decide +kernel
theorem eX0_begin_12 : decode (zYb kX0_begin) 12 = .ok (.iconst 0, 1) := by decide +kernel
theorem eX0_begin_13 : decode (zYb kX0_begin) 13 = .ok (.istore 4, 2) := by decide +kernel
theorem eX0_begin_15 : decode (zYb kX0_begin) 15 = .ok (.iload 4, 2) := by decide +kernel
theorem eX0_begin_17 : decode (zYb kX0_begin) 17 = .ok (.aload_n 1, 1) := by decide +kernel
theorem eX0_begin_18 : decode (zYb kX0_begin) 18 = .ok (.getfield 28, 3) := by decide +kernel
theorem eX0_begin_21 : decode (zYb kX0_begin) 21 = .ok (.if_icmp .ge 110, 3) := by decide +kernel
theorem eX0_begin_24 : decode (zYb kX0_begin) 24 = .ok (.iload_n 2, 1) := by decide +kernel
theorem eX0_begin_25 : decode (zYb kX0_begin) 25 = .ok (.ifCond .eq 15, 3) := by decide +kernel
theorem eX0_begin_28 : decode (zYb kX0_begin) 28 = .ok (.aload_n 1, 1) := by decide +kernel
theorem eX0_begin_29 : decode (zYb kX0_begin) 29 = .ok (.getfield 28, 3) := by decide +kernel
theorem eX0_begin_32 : decode (zYb kX0_begin) 32 = .ok (.iconst 1, 1) := by decide +kernel
theorem eX0_begin_33 : decode (zYb kX0_begin) 33 = .ok (.isub, 1) := by decide +kernel
theorem eX0_begin_34 : decode (zYb kX0_begin) 34 = .ok (.iload 4, 2) := by decide +kernel
theorem eX0_begin_36 : decode (zYb kX0_begin) 36 = .ok (.isub, 1) := by decide +kernel
theorem eX0_begin_37 : decode (zYb kX0_begin) 37 = .ok (.goto 5, 3) := by decide +kernel
theorem eX0_begin_40 : decode (zYb kX0_begin) 40 = .ok (.iload 4, 2) := by decide +kernel
theorem eX0_begin_42 : decode (zYb kX0_begin) 42 = .ok (.istore 5, 2) := by decide +kernel
theorem eX0_begin_44 : decode (zYb kX0_begin) 44 = .ok (.aload_n 1, 1) := by decide +kernel
theorem eX0_begin_45 : decode (zYb kX0_begin) 45 = .ok (.iload 5, 2) := by decide +kernel
theorem eX0_begin_47 : decode (zYb kX0_begin) 47 = .ok (.invokevirtual 33, 3) := by decide +kernel
theorem eX0_begin_50 : decode (zYb kX0_begin) 50 = .ok (.istore 6, 2) := by decide +kernel
theorem eX0_begin_52 : decode (zYb kX0_begin) 52 = .ok (.aload_n 1, 1) := by decide +kernel
theorem eX0_begin_53 : decode (zYb kX0_begin) 53 = .ok (.iload 5, 2) := by decide +kernel
theorem eX0_begin_55 : decode (zYb kX0_begin) 55 = .ok (.invokevirtual 37, 3) := by decide +kernel
theorem eX0_begin_58 : decode (zYb kX0_begin) 58 = .ok (.istore 7, 2) := by decide +kernel
theorem eX0_begin_60 : decode (zYb kX0_begin) 60 = .ok (.iload_n 3, 1) := by decide +kernel
theorem eX0_begin_61 : decode (zYb kX0_begin) 61 = .ok (.iload 7, 2) := by decide +kernel
theorem eX0_begin_63 : decode (zYb kX0_begin) 63 = .ok (.iadd, 1) := by decide +kernel
theorem eX0_begin_64 : decode (zYb kX0_begin) 64 = .ok (.iload 6, 2) := by decide +kernel
theorem eX0_begin_66 : decode (zYb kX0_begin) 66 = .ok (.isub, 1) := by decide +kernel
theorem eX0_begin_67 : decode (zYb kX0_begin) 67 = .ok (.istore 8, 2) := by decide +kernel
theorem eX0_begin_69 : decode (zYb kX0_begin) 69 = .ok (.aload_n 1, 1) := by decide +kernel
theorem eX0_begin_70 : decode (zYb kX0_begin) 70 = .ok (.iload 6, 2) := by decide +kernel
theorem eX0_begin_72 : decode (zYb kX0_begin) 72 = .ok (.iload 7, 2) := by decide +kernel
theorem eX0_begin_74 : decode (zYb kX0_begin) 74 = .ok (.iconst 0, 1) := by decide +kernel
theorem eX0_begin_75 : decode (zYb kX0_begin) 75 = .ok (.aload_n 0, 1) := by decide +kernel
theorem eX0_begin_76 : decode (zYb kX0_begin) 76 = .ok (.getfield 9, 3) := by decide +kernel
theorem eX0_begin_79 : decode (zYb kX0_begin) 79 = .ok (.iload_n 3, 1) := by decide +kernel
theorem eX0_begin_80 : decode (zYb kX0_begin) 80 = .ok (.invokevirtual 40, 3) := by decide +kernel
theorem eX0_begin_83 : decode (zYb kX0_begin) 83 = .ok (.aload_n 0, 1) := by decide +kernel
theorem eX0_begin_84 : decode (zYb kX0_begin) 84 = .ok (.getfield 9, 3) := by decide +kernel
theorem eX0_begin_87 : decode (zYb kX0_begin) 87 = .ok (.iload_n 3, 1) := by decide +kernel
theorem eX0_begin_88 : decode (zYb kX0_begin) 88 = .ok (.iload 8, 2) := by decide +kernel
theorem eX0_begin_90 : decode (zYb kX0_begin) 90 = .ok (.invokestatic 44, 3) := by decide +kernel
theorem eX0_begin_93 : decode (zYb kX0_begin) 93 = .ok (.istore 9, 2) := by decide +kernel
theorem eX0_begin_95 : decode (zYb kX0_begin) 95 = .ok (.iload 9, 2) := by decide +kernel
theorem eX0_begin_97 : decode (zYb kX0_begin) 97 = .ok (.ifCond .le 13, 3) := by decide +kernel
theorem eX0_begin_100 : decode (zYb kX0_begin) 100 = .ok (.aload_n 0, 1) := by decide +kernel
theorem eX0_begin_101 : decode (zYb kX0_begin) 101 = .ok (.getfield 9, 3) := by decide +kernel
theorem eX0_begin_104 : decode (zYb kX0_begin) 104 = .ok (.iload_n 3, 1) := by decide +kernel
theorem eX0_begin_105 : decode (zYb kX0_begin) 105 = .ok (.iload 8, 2) := by decide +kernel
theorem eX0_begin_107 : decode (zYb kX0_begin) 107 = .ok (.invokestatic 48, 3) := by decide +kernel
theorem eX0_begin_110 : decode (zYb kX0_begin) 110 = .ok (.iload 9, 2) := by decide +kernel
theorem eX0_begin_112 : decode (zYb kX0_begin) 112 = .ok (.ifCond .eq 10, 3) := by decide +kernel
theorem eX0_begin_115 : decode (zYb kX0_begin) 115 = .ok (.aload_n 0, 1) := by decide +kernel
theorem eX0_begin_116 : decode (zYb kX0_begin) 116 = .ok (.iload_n 3, 1) := by decide +kernel
theorem eX0_begin_117 : decode (zYb kX0_begin) 117 = .ok (.iload 8, 2) := by decide +kernel
theorem eX0_begin_119 : decode (zYb kX0_begin) 119 = .ok (.invokevirtual 52, 3) := by decide +kernel
theorem eX0_begin_122 : decode (zYb kX0_begin) 122 = .ok (.iload 8, 2) := by decide +kernel
theorem eX0_begin_124 : decode (zYb kX0_begin) 124 = .ok (.istore_n 3, 1) := by decide +kernel
theorem eX0_begin_125 : decode (zYb kX0_begin) 125 = .ok (.iinc 4 1, 3) := by decide +kernel
theorem eX0_begin_128 : decode (zYb kX0_begin) 128 = .ok (.goto (-113), 3) := by decide +kernel
theorem eX0_begin_131 : decode (zYb kX0_begin) 131 = .ok (.return_, 1) := by decide +kernel
theorem eX0_addDigit_0 : decode (zYb kX0_addDigit) 0 = .ok (.aload_n 0, 1) := by decide +kernel
theorem eX0_addDigit_1 : decode (zYb kX0_addDigit) 1 = .ok (.getfield 21, 3) := by decide +kernel
theorem eX0_addDigit_4 : decode (zYb kX0_addDigit) 4 = .ok (.bipush 6, 2) := by decide +kernel
theorem eX0_addDigit_6 : decode (zYb kX0_addDigit) 6 = .ok (.if_icmp .ge 33, 3) := by decide +kernel
theorem eX0_addDigit_9 : decode (zYb kX0_addDigit) 9 = .ok (.aload_n 0, 1) := by decide +kernel
theorem eX0_addDigit_10 : decode (zYb kX0_addDigit) 10 = .ok (.getfield 15, 3) := by decide +kernel
theorem eX0_addDigit_13 : decode (zYb kX0_addDigit) 13 = .ok (.aload_n 0, 1) := by decide +kernel
theorem eX0_addDigit_14 : decode (zYb kX0_addDigit) 14 = .ok (.getfield 21, 3) := by decide +kernel
theorem eX0_addDigit_17 : decode (zYb kX0_addDigit) 17 = .ok (.iload_n 1, 1) := by decide +kernel
theorem eX0_addDigit_18 : decode (zYb kX0_addDigit) 18 = .ok (.iastore, 1) := by decide +kernel
theorem eX0_addDigit_19 : decode (zYb kX0_addDigit) 19 = .ok (.aload_n 0, 1) := by decide +kernel
theorem eX0_addDigit_20 : decode (zYb kX0_addDigit) 20 = .ok (.getfield 18, 3) := by decide +kernel
theorem eX0_addDigit_23 : decode (zYb kX0_addDigit) 23 = .ok (.aload_n 0, 1) := by decide +kernel
theorem eX0_addDigit_24 : decode (zYb kX0_addDigit) 24 = .ok (.getfield 21, 3) := by decide +kernel
theorem eX0_addDigit_27 : decode (zYb kX0_addDigit) 27 = .ok (.iload_n 2, 1) := by decide +kernel
theorem eX0_addDigit_28 : decode (zYb kX0_addDigit) 28 = .ok (.iastore, 1) := by decide +kernel
theorem eX0_addDigit_29 : decode (zYb kX0_addDigit) 29 = .ok (.aload_n 0, 1) := by decide +kernel
theorem eX0_addDigit_30 : decode (zYb kX0_addDigit) 30 = .ok (.dup, 1) := by decide +kernel
theorem eX0_addDigit_31 : decode (zYb kX0_addDigit) 31 = .ok (.getfield 21, 3) := by decide +kernel
theorem eX0_addDigit_34 : decode (zYb kX0_addDigit) 34 = .ok (.iconst 1, 1) := by decide +kernel
theorem eX0_addDigit_35 : decode (zYb kX0_addDigit) 35 = .ok (.iadd, 1) := by decide +kernel
theorem eX0_addDigit_36 : decode (zYb kX0_addDigit) 36 = .ok (.putfield 21, 3) := by decide +kernel
theorem eX0_addDigit_39 : decode (zYb kX0_addDigit) 39 = .ok (.return_, 1) := by decide +kernel
theorem eX0_isOver_0 : decode (zYb kX0_isOver) 0 = .ok (.aload_n 0, 1) := by decide +kernel
theorem eX0_isOver_1 : decode (zYb kX0_isOver) 1 = .ok (.getfield 25, 3) := by decide +kernel
theorem eX0_isOver_4 : decode (zYb kX0_isOver) 4 = .ok (.iconst 1, 1) := by decide +kernel
theorem eX0_isOver_5 : decode (zYb kX0_isOver) 5 = .ok (.aload_n 0, 1) := by decide +kernel
theorem eX0_isOver_6 : decode (zYb kX0_isOver) 6 = .ok (.getfield 21, 3) := by decide +kernel
theorem eX0_isOver_9 : decode (zYb kX0_isOver) 9 = .ok (.ishl, 1) := by decide +kernel
theorem eX0_isOver_10 : decode (zYb kX0_isOver) 10 = .ok (.if_icmp .lt 7, 3) := by decide +kernel
theorem eX0_isOver_13 : decode (zYb kX0_isOver) 13 = .ok (.iconst 1, 1) := by decide +kernel
theorem eX0_isOver_14 : decode (zYb kX0_isOver) 14 = .ok (.goto 4, 3) := by decide +kernel
theorem eX0_isOver_17 : decode (zYb kX0_isOver) 17 = .ok (.iconst 0, 1) := by decide +kernel
theorem eX0_isOver_18 : decode (zYb kX0_isOver) 18 = .ok (.ireturn, 1) := by decide +kernel
theorem eX0_step_0 : decode (zYb kX0_step) 0 = .ok (.aload_n 0, 1) := by decide +kernel
theorem eX0_step_1 : decode (zYb kX0_step) 1 = .ok (.dup, 1) := by decide +kernel
theorem eX0_step_2 : decode (zYb kX0_step) 2 = .ok (.getfield 25, 3) := by decide +kernel
theorem eX0_step_5 : decode (zYb kX0_step) 5 = .ok (.iconst 1, 1) := by decide +kernel
theorem eX0_step_6 : decode (zYb kX0_step) 6 = .ok (.iadd, 1) := by decide +kernel
theorem eX0_step_7 : decode (zYb kX0_step) 7 = .ok (.putfield 25, 3) := by decide +kernel
theorem eX0_step_10 : decode (zYb kX0_step) 10 = .ok (.iconst 1, 1) := by decide +kernel
theorem eX0_step_11 : decode (zYb kX0_step) 11 = .ok (.istore_n 1, 1) := by decide +kernel
theorem eX0_step_12 : decode (zYb kX0_step) 12 = .ok (.aload_n 0, 1) := by decide +kernel
theorem eX0_step_13 : decode (zYb kX0_step) 13 = .ok (.getfield 21, 3) := by decide +kernel
theorem eX0_step_16 : decode (zYb kX0_step) 16 = .ok (.iconst 1, 1) := by decide +kernel
theorem eX0_step_17 : decode (zYb kX0_step) 17 = .ok (.isub, 1) := by decide +kernel
theorem eX0_step_18 : decode (zYb kX0_step) 18 = .ok (.istore_n 2, 1) := by decide +kernel
theorem eX0_step_19 : decode (zYb kX0_step) 19 = .ok (.iload_n 2, 1) := by decide +kernel
theorem eX0_step_20 : decode (zYb kX0_step) 20 = .ok (.ifCond .lt 48, 3) := by decide +kernel
theorem eX0_step_23 : decode (zYb kX0_step) 23 = .ok (.iload_n 2, 1) := by decide +kernel
theorem eX0_step_24 : decode (zYb kX0_step) 24 = .ok (.bipush 6, 2) := by decide +kernel
theorem eX0_step_26 : decode (zYb kX0_step) 26 = .ok (.if_icmp .ge 42, 3) := by decide +kernel
theorem eX0_step_29 : decode (zYb kX0_step) 29 = .ok (.aload_n 0, 1) := by decide +kernel
theorem eX0_step_30 : decode (zYb kX0_step) 30 = .ok (.getfield 9, 3) := by decide +kernel
theorem eX0_step_33 : decode (zYb kX0_step) 33 = .ok (.aload_n 0, 1) := by decide +kernel
theorem eX0_step_34 : decode (zYb kX0_step) 34 = .ok (.getfield 15, 3) := by decide +kernel
theorem eX0_step_37 : decode (zYb kX0_step) 37 = .ok (.iload_n 2, 1) := by decide +kernel
theorem eX0_step_38 : decode (zYb kX0_step) 38 = .ok (.iaload, 1) := by decide +kernel
theorem eX0_step_39 : decode (zYb kX0_step) 39 = .ok (.aload_n 0, 1) := by decide +kernel
theorem eX0_step_40 : decode (zYb kX0_step) 40 = .ok (.getfield 18, 3) := by decide +kernel
theorem eX0_step_43 : decode (zYb kX0_step) 43 = .ok (.iload_n 2, 1) := by decide +kernel
theorem eX0_step_44 : decode (zYb kX0_step) 44 = .ok (.iaload, 1) := by decide +kernel
theorem eX0_step_45 : decode (zYb kX0_step) 45 = .ok (.invokestatic 48, 3) := by decide +kernel
theorem eX0_step_48 : decode (zYb kX0_step) 48 = .ok (.aload_n 0, 1) := by decide +kernel
theorem eX0_step_49 : decode (zYb kX0_step) 49 = .ok (.getfield 25, 3) := by decide +kernel
theorem eX0_step_52 : decode (zYb kX0_step) 52 = .ok (.iload_n 1, 1) := by decide +kernel
theorem eX0_step_53 : decode (zYb kX0_step) 53 = .ok (.iand, 1) := by decide +kernel
theorem eX0_step_54 : decode (zYb kX0_step) 54 = .ok (.ifCond .eq 4, 3) := by decide +kernel
theorem eX0_step_57 : decode (zYb kX0_step) 57 = .ok (.return_, 1) := by decide +kernel
theorem eX0_step_58 : decode (zYb kX0_step) 58 = .ok (.iload_n 1, 1) := by decide +kernel
theorem eX0_step_59 : decode (zYb kX0_step) 59 = .ok (.iconst 2, 1) := by decide +kernel
theorem eX0_step_60 : decode (zYb kX0_step) 60 = .ok (.imul, 1) := by decide +kernel
theorem eX0_step_61 : decode (zYb kX0_step) 61 = .ok (.istore_n 1, 1) := by decide +kernel
theorem eX0_step_62 : decode (zYb kX0_step) 62 = .ok (.iinc 2 (-1), 3) := by decide +kernel
theorem eX0_step_65 : decode (zYb kX0_step) 65 = .ok (.goto (-46), 3) := by decide +kernel
theorem eX0_step_68 : decode (zYb kX0_step) 68 = .ok (.return_, 1) := by decide +kernel
theorem eX1_init_0 : decode (zYb kX1_init) 0 = .ok (.aload_n 0, 1) := by decide +kernel
theorem eX1_init_1 : decode (zYb kX1_init) 1 = .ok (.invokespecial 3, 3) := by decide +kernel
theorem eX1_init_4 : decode (zYb kX1_init) 4 = .ok (.aload_n 0, 1) := by decide +kernel
theorem eX1_init_5 : decode (zYb kX1_init) 5 = .ok (.bipush 6, 2) := by decide +kernel
theorem eX1_init_7 : decode (zYb kX1_init) 7 = .ok (.anewarray 9, 3) := by decide +kernel
theorem eX1_init_10 : decode (zYb kX1_init) 10 = .ok (.putfield 11, 3) := by decide +kernel
theorem eX1_init_13 : decode (zYb kX1_init) 13 = .ok (.iconst 0, 1) := by decide +kernel
theorem eX1_init_14 : decode (zYb kX1_init) 14 = .ok (.istore_n 1, 1) := by decide +kernel
theorem eX1_init_15 : decode (zYb kX1_init) 15 = .ok (.iload_n 1, 1) := by decide +kernel
theorem eX1_init_16 : decode (zYb kX1_init) 16 = .ok (.bipush 6, 2) := by decide +kernel
theorem eX1_init_18 : decode (zYb kX1_init) 18 = .ok (.if_icmp .ge 22, 3) := by decide +kernel
theorem eX1_init_21 : decode (zYb kX1_init) 21 = .ok (.aload_n 0, 1) := by decide +kernel
theorem eX1_init_22 : decode (zYb kX1_init) 22 = .ok (.getfield 11, 3) := by decide +kernel
theorem eX1_init_25 : decode (zYb kX1_init) 25 = .ok (.iload_n 1, 1) := by decide +kernel
theorem eX1_init_26 : decode (zYb kX1_init) 26 = .ok (.new 9, 3) := by decide +kernel
theorem eX1_init_29 : decode (zYb kX1_init) 29 = .ok (.dup, 1) := by decide +kernel
theorem eX1_init_30 : decode (zYb kX1_init) 30 = .ok (.invokespecial 17, 3) := by decide +kernel
theorem eX1_init_33 : decode (zYb kX1_init) 33 = .ok (.aastore, 1) := by decide +kernel
theorem eX1_init_34 : decode (zYb kX1_init) 34 = .ok (.iinc 1 1, 3) := by decide +kernel
theorem eX1_init_37 : decode (zYb kX1_init) 37 = .ok (.goto (-22), 3) := by decide +kernel
theorem eX1_init_40 : decode (zYb kX1_init) 40 = .ok (.return_, 1) := by decide +kernel
theorem eX1_record_0 : decode (zYb kX1_record) 0 = .ok (.aload_n 0, 1) := by decide +kernel
theorem eX1_record_1 : decode (zYb kX1_record) 1 = .ok (.getfield 18, 3) := by decide +kernel
theorem eX1_record_4 : decode (zYb kX1_record) 4 = .ok (.bipush 6, 2) := by decide +kernel
theorem eX1_record_6 : decode (zYb kX1_record) 6 = .ok (.if_icmp .lt 7, 3) := by decide +kernel
theorem eX1_record_9 : decode (zYb kX1_record) 9 = .ok (.aload_n 0, 1) := by decide +kernel
theorem eX1_record_10 : decode (zYb kX1_record) 10 = .ok (.invokevirtual 22, 3) := by decide +kernel
theorem eX1_record_13 : decode (zYb kX1_record) 13 = .ok (.aload_n 0, 1) := by decide +kernel
theorem eX1_record_14 : decode (zYb kX1_record) 14 = .ok (.getfield 18, 3) := by decide +kernel
theorem eX1_record_17 : decode (zYb kX1_record) 17 = .ok (.ifCond .lt 12, 3) := by decide +kernel
theorem eX1_record_20 : decode (zYb kX1_record) 20 = .ok (.aload_n 0, 1) := by decide +kernel
theorem eX1_record_21 : decode (zYb kX1_record) 21 = .ok (.getfield 18, 3) := by decide +kernel
theorem eX1_record_24 : decode (zYb kX1_record) 24 = .ok (.bipush 6, 2) := by decide +kernel
theorem eX1_record_26 : decode (zYb kX1_record) 26 = .ok (.if_icmp .lt 4, 3) := by decide +kernel
theorem eX1_record_29 : decode (zYb kX1_record) 29 = .ok (.return_, 1) := by decide +kernel
theorem eX1_record_30 : decode (zYb kX1_record) 30 = .ok (.aload_n 0, 1) := by decide +kernel
theorem eX1_record_31 : decode (zYb kX1_record) 31 = .ok (.getfield 11, 3) := by decide +kernel
theorem eX1_record_34 : decode (zYb kX1_record) 34 = .ok (.aload_n 0, 1) := by decide +kernel
theorem eX1_record_35 : decode (zYb kX1_record) 35 = .ok (.getfield 18, 3) := by decide +kernel
theorem eX1_record_38 : decode (zYb kX1_record) 38 = .ok (.aaload, 1) := by decide +kernel
theorem eX1_record_39 : decode (zYb kX1_record) 39 = .ok (.astore_n 2, 1) := by decide +kernel
theorem eX1_record_40 : decode (zYb kX1_record) 40 = .ok (.aload_n 2, 1) := by decide +kernel
theorem eX1_record_41 : decode (zYb kX1_record) 41 = .ok (.ifnull 18, 3) := by decide +kernel
theorem eX1_record_44 : decode (zYb kX1_record) 44 = .ok (.aload_n 2, 1) := by decide +kernel
theorem eX1_record_45 : decode (zYb kX1_record) 45 = .ok (.aload_n 1, 1) := by decide +kernel
theorem eX1_record_46 : decode (zYb kX1_record) 46 = .ok (.invokevirtual 25, 3) := by decide +kernel
theorem eX1_record_49 : decode (zYb kX1_record) 49 = .ok (.aload_n 0, 1) := by decide +kernel
theorem eX1_record_50 : decode (zYb kX1_record) 50 = .ok (.dup, 1) := by decide +kernel
theorem eX1_record_51 : decode (zYb kX1_record) 51 = .ok (.getfield 18, 3) := by decide +kernel
theorem eX1_record_54 : decode (zYb kX1_record) 54 = .ok (.iconst 1, 1) := by decide +kernel
theorem eX1_record_55 : decode (zYb kX1_record) 55 = .ok (.iadd, 1) := by decide +kernel
theorem eX1_record_56 : decode (zYb kX1_record) 56 = .ok (.putfield 18, 3) := by decide +kernel
theorem eX1_record_59 : decode (zYb kX1_record) 59 = .ok (.return_, 1) := by decide +kernel
theorem eX1_dropOldest_0 : decode (zYb kX1_dropOldest) 0 = .ok (.aload_n 0, 1) := by decide +kernel
theorem eX1_dropOldest_1 : decode (zYb kX1_dropOldest) 1 = .ok (.getfield 11, 3) := by decide +kernel
theorem eX1_dropOldest_4 : decode (zYb kX1_dropOldest) 4 = .ok (.iconst 0, 1) := by decide +kernel
theorem eX1_dropOldest_5 : decode (zYb kX1_dropOldest) 5 = .ok (.aaload, 1) := by decide +kernel
theorem eX1_dropOldest_6 : decode (zYb kX1_dropOldest) 6 = .ok (.astore_n 1, 1) := by decide +kernel
theorem eX1_dropOldest_7 : decode (zYb kX1_dropOldest) 7 = .ok (.iconst 0, 1) := by decide +kernel
theorem eX1_dropOldest_8 : decode (zYb kX1_dropOldest) 8 = .ok (.istore_n 2, 1) := by decide +kernel
theorem eX1_dropOldest_9 : decode (zYb kX1_dropOldest) 9 = .ok (.iload_n 2, 1) := by decide +kernel
theorem eX1_dropOldest_10 : decode (zYb kX1_dropOldest) 10 = .ok (.iconst 1, 1) := by decide +kernel
theorem eX1_dropOldest_11 : decode (zYb kX1_dropOldest) 11 = .ok (.iadd, 1) := by decide +kernel
theorem eX1_dropOldest_12 : decode (zYb kX1_dropOldest) 12 = .ok (.bipush 6, 2) := by decide +kernel
theorem eX1_dropOldest_14 : decode (zYb kX1_dropOldest) 14 = .ok (.if_icmp .ge 23, 3) := by decide +kernel
theorem eX1_dropOldest_17 : decode (zYb kX1_dropOldest) 17 = .ok (.aload_n 0, 1) := by decide +kernel
theorem eX1_dropOldest_18 : decode (zYb kX1_dropOldest) 18 = .ok (.getfield 11, 3) := by decide +kernel
theorem eX1_dropOldest_21 : decode (zYb kX1_dropOldest) 21 = .ok (.iload_n 2, 1) := by decide +kernel
theorem eX1_dropOldest_22 : decode (zYb kX1_dropOldest) 22 = .ok (.aload_n 0, 1) := by decide +kernel
theorem eX1_dropOldest_23 : decode (zYb kX1_dropOldest) 23 = .ok (.getfield 11, 3) := by decide +kernel
theorem eX1_dropOldest_26 : decode (zYb kX1_dropOldest) 26 = .ok (.iload_n 2, 1) := by decide +kernel
theorem eX1_dropOldest_27 : decode (zYb kX1_dropOldest) 27 = .ok (.iconst 1, 1) := by decide +kernel
theorem eX1_dropOldest_28 : decode (zYb kX1_dropOldest) 28 = .ok (.iadd, 1) := by decide +kernel
theorem eX1_dropOldest_29 : decode (zYb kX1_dropOldest) 29 = .ok (.aaload, 1) := by decide +kernel
theorem eX1_dropOldest_30 : decode (zYb kX1_dropOldest) 30 = .ok (.aastore, 1) := by decide +kernel
theorem eX1_dropOldest_31 : decode (zYb kX1_dropOldest) 31 = .ok (.iinc 2 1, 3) := by decide +kernel
theorem eX1_dropOldest_34 : decode (zYb kX1_dropOldest) 34 = .ok (.goto (-25), 3) := by decide +kernel
theorem eX1_dropOldest_37 : decode (zYb kX1_dropOldest) 37 = .ok (.aload_n 0, 1) := by decide +kernel
theorem eX1_dropOldest_38 : decode (zYb kX1_dropOldest) 38 = .ok (.getfield 11, 3) := by decide +kernel
theorem eX1_dropOldest_41 : decode (zYb kX1_dropOldest) 41 = .ok (.iconst 5, 1) := by decide +kernel
theorem eX1_dropOldest_42 : decode (zYb kX1_dropOldest) 42 = .ok (.aload_n 1, 1) := by decide +kernel
theorem eX1_dropOldest_43 : decode (zYb kX1_dropOldest) 43 = .ok (.aastore, 1) := by decide +kernel
theorem eX1_dropOldest_44 : decode (zYb kX1_dropOldest) 44 = .ok (.aload_n 0, 1) := by decide +kernel
theorem eX1_dropOldest_45 : decode (zYb kX1_dropOldest) 45 = .ok (.iconst 5, 1) := by decide +kernel
theorem eX1_dropOldest_46 : decode (zYb kX1_dropOldest) 46 = .ok (.putfield 18, 3) := by decide +kernel
theorem eX1_dropOldest_49 : decode (zYb kX1_dropOldest) 49 = .ok (.return_, 1) := by decide +kernel
theorem eX1_takeBack_0 : decode (zYb kX1_takeBack) 0 = .ok (.aload_n 0, 1) := by decide +kernel
theorem eX1_takeBack_1 : decode (zYb kX1_takeBack) 1 = .ok (.getfield 18, 3) := by decide +kernel
theorem eX1_takeBack_4 : decode (zYb kX1_takeBack) 4 = .ok (.iconst 1, 1) := by decide +kernel
theorem eX1_takeBack_5 : decode (zYb kX1_takeBack) 5 = .ok (.if_icmp .lt 12, 3) := by decide +kernel
theorem eX1_takeBack_8 : decode (zYb kX1_takeBack) 8 = .ok (.aload_n 0, 1) := by decide +kernel
theorem eX1_takeBack_9 : decode (zYb kX1_takeBack) 9 = .ok (.getfield 18, 3) := by decide +kernel
theorem eX1_takeBack_12 : decode (zYb kX1_takeBack) 12 = .ok (.bipush 6, 2) := by decide +kernel
theorem eX1_takeBack_14 : decode (zYb kX1_takeBack) 14 = .ok (.if_icmp .le 5, 3) := by decide +kernel
theorem eX1_takeBack_17 : decode (zYb kX1_takeBack) 17 = .ok (.iconst 0, 1) := by decide +kernel
theorem eX1_takeBack_18 : decode (zYb kX1_takeBack) 18 = .ok (.ireturn, 1) := by decide +kernel
theorem eX1_takeBack_19 : decode (zYb kX1_takeBack) 19 = .ok (.aload_n 0, 1) := by decide +kernel
theorem eX1_takeBack_20 : decode (zYb kX1_takeBack) 20 = .ok (.getfield 11, 3) := by decide +kernel
theorem eX1_takeBack_23 : decode (zYb kX1_takeBack) 23 = .ok (.aload_n 0, 1) := by decide +kernel
theorem eX1_takeBack_24 : decode (zYb kX1_takeBack) 24 = .ok (.getfield 18, 3) := by decide +kernel
theorem eX1_takeBack_27 : decode (zYb kX1_takeBack) 27 = .ok (.iconst 1, 1) := by decide +kernel
theorem eX1_takeBack_28 : decode (zYb kX1_takeBack) 28 = .ok (.isub, 1) := by decide +kernel
theorem eX1_takeBack_29 : decode (zYb kX1_takeBack) 29 = .ok (.aaload, 1) := by decide +kernel
theorem eX1_takeBack_30 : decode (zYb kX1_takeBack) 30 = .ok (.astore_n 2, 1) := by decide +kernel
theorem eX1_takeBack_31 : decode (zYb kX1_takeBack) 31 = .ok (.aload_n 2, 1) := by decide +kernel
theorem eX1_takeBack_32 : decode (zYb kX1_takeBack) 32 = .ok (.ifnonnull 5, 3) := by decide +kernel
theorem eX1_takeBack_35 : decode (zYb kX1_takeBack) 35 = .ok (.iconst 0, 1) := by decide +kernel
theorem eX1_takeBack_36 : decode (zYb kX1_takeBack) 36 = .ok (.ireturn, 1) := by decide +kernel
theorem eX1_takeBack_37 : decode (zYb kX1_takeBack) 37 = .ok (.aload_n 0, 1) := by decide +kernel
theorem eX1_takeBack_38 : decode (zYb kX1_takeBack) 38 = .ok (.dup, 1) := by decide +kernel
theorem eX1_takeBack_39 : decode (zYb kX1_takeBack) 39 = .ok (.getfield 18, 3) := by decide +kernel
theorem eX1_takeBack_42 : decode (zYb kX1_takeBack) 42 = .ok (.iconst 1, 1) := by decide +kernel
theorem eX1_takeBack_43 : decode (zYb kX1_takeBack) 43 = .ok (.isub, 1) := by decide +kernel
theorem eX1_takeBack_44 : decode (zYb kX1_takeBack) 44 = .ok (.putfield 18, 3) := by decide +kernel
theorem eX1_takeBack_47 : decode (zYb kX1_takeBack) 47 = .ok (.aload_n 1, 1) := by decide +kernel
theorem eX1_takeBack_48 : decode (zYb kX1_takeBack) 48 = .ok (.aload_n 2, 1) := by decide +kernel
theorem eX1_takeBack_49 : decode (zYb kX1_takeBack) 49 = .ok (.invokevirtual 25, 3) := by decide +kernel
theorem eX1_takeBack_52 : decode (zYb kX1_takeBack) 52 = .ok (.iconst 1, 1) := by decide +kernel
theorem eX1_takeBack_53 : decode (zYb kX1_takeBack) 53 = .ok (.ireturn, 1) := by decide +kernel
theorem eX2_init_0 : decode (zYb kX2_init) 0 = .ok (.aload_n 0, 1) := by decide +kernel
theorem eX2_init_1 : decode (zYb kX2_init) 1 = .ok (.invokespecial 3, 3) := by decide +kernel
theorem eX2_init_4 : decode (zYb kX2_init) 4 = .ok (.aload_n 0, 1) := by decide +kernel
theorem eX2_init_5 : decode (zYb kX2_init) 5 = .ok (.bipush 64, 2) := by decide +kernel
theorem eX2_init_7 : decode (zYb kX2_init) 7 = .ok (.newarray .int, 2) := by decide +kernel
theorem eX2_init_9 : decode (zYb kX2_init) 9 = .ok (.putfield 9, 3) := by decide +kernel
theorem eX2_init_12 : decode (zYb kX2_init) 12 = .ok (.return_, 1) := by decide +kernel
theorem eX2_empty_0 : decode (zYb kX2_empty) 0 = .ok (.aload_n 0, 1) := by decide +kernel
theorem eX2_empty_1 : decode (zYb kX2_empty) 1 = .ok (.iconst 0, 1) := by decide +kernel
theorem eX2_empty_2 : decode (zYb kX2_empty) 2 = .ok (.putfield 15, 3) := by decide +kernel
theorem eX2_empty_5 : decode (zYb kX2_empty) 5 = .ok (.return_, 1) := by decide +kernel
theorem eX2_append_0 : decode (zYb kX2_append) 0 = .ok (.aload_n 0, 1) := by decide +kernel
theorem eX2_append_1 : decode (zYb kX2_append) 1 = .ok (.getfield 15, 3) := by decide +kernel
theorem eX2_append_4 : decode (zYb kX2_append) 4 = .ok (.ifCond .lt 32, 3) := by decide +kernel
theorem eX2_append_7 : decode (zYb kX2_append) 7 = .ok (.aload_n 0, 1) := by decide +kernel
theorem eX2_append_8 : decode (zYb kX2_append) 8 = .ok (.getfield 15, 3) := by decide +kernel
theorem eX2_append_11 : decode (zYb kX2_append) 11 = .ok (.bipush 64, 2) := by decide +kernel
theorem eX2_append_13 : decode (zYb kX2_append) 13 = .ok (.if_icmp .ge 23, 3) := by decide +kernel
theorem eX2_append_16 : decode (zYb kX2_append) 16 = .ok (.aload_n 0, 1) := by decide +kernel
theorem eX2_append_17 : decode (zYb kX2_append) 17 = .ok (.getfield 9, 3) := by decide +kernel
theorem eX2_append_20 : decode (zYb kX2_append) 20 = .ok (.aload_n 0, 1) := by decide +kernel
theorem eX2_append_21 : decode (zYb kX2_append) 21 = .ok (.getfield 15, 3) := by decide +kernel
theorem eX2_append_24 : decode (zYb kX2_append) 24 = .ok (.iload_n 1, 1) := by decide +kernel
theorem eX2_append_25 : decode (zYb kX2_append) 25 = .ok (.iastore, 1) := by decide +kernel
theorem eX2_append_26 : decode (zYb kX2_append) 26 = .ok (.aload_n 0, 1) := by decide +kernel
theorem eX2_append_27 : decode (zYb kX2_append) 27 = .ok (.dup, 1) := by decide +kernel
theorem eX2_append_28 : decode (zYb kX2_append) 28 = .ok (.getfield 15, 3) := by decide +kernel
theorem eX2_append_31 : decode (zYb kX2_append) 31 = .ok (.iconst 1, 1) := by decide +kernel
theorem eX2_append_32 : decode (zYb kX2_append) 32 = .ok (.iadd, 1) := by decide +kernel
theorem eX2_append_33 : decode (zYb kX2_append) 33 = .ok (.putfield 15, 3) := by decide +kernel
theorem eX2_append_36 : decode (zYb kX2_append) 36 = .ok (.return_, 1) := by decide +kernel
theorem eX2_codeAt_0 : decode (zYb kX2_codeAt) 0 = .ok (.iload_n 1, 1) := by decide +kernel
theorem eX2_codeAt_1 : decode (zYb kX2_codeAt) 1 = .ok (.ifCond .lt 26, 3) := by decide +kernel
theorem eX2_codeAt_4 : decode (zYb kX2_codeAt) 4 = .ok (.iload_n 1, 1) := by decide +kernel
theorem eX2_codeAt_5 : decode (zYb kX2_codeAt) 5 = .ok (.aload_n 0, 1) := by decide +kernel
theorem eX2_codeAt_6 : decode (zYb kX2_codeAt) 6 = .ok (.getfield 15, 3) := by decide +kernel
theorem eX2_codeAt_9 : decode (zYb kX2_codeAt) 9 = .ok (.if_icmp .ge 18, 3) := by decide +kernel
theorem eX2_codeAt_12 : decode (zYb kX2_codeAt) 12 = .ok (.iload_n 1, 1) := by decide +kernel
theorem eX2_codeAt_13 : decode (zYb kX2_codeAt) 13 = .ok (.bipush 64, 2) := by decide +kernel
theorem eX2_codeAt_15 : decode (zYb kX2_codeAt) 15 = .ok (.if_icmp .ge 12, 3) := by decide +kernel
theorem eX2_codeAt_18 : decode (zYb kX2_codeAt) 18 = .ok (.aload_n 0, 1) := by decide +kernel
theorem eX2_codeAt_19 : decode (zYb kX2_codeAt) 19 = .ok (.getfield 9, 3) := by decide +kernel
theorem eX2_codeAt_22 : decode (zYb kX2_codeAt) 22 = .ok (.iload_n 1, 1) := by decide +kernel
theorem eX2_codeAt_23 : decode (zYb kX2_codeAt) 23 = .ok (.iaload, 1) := by decide +kernel
theorem eX2_codeAt_24 : decode (zYb kX2_codeAt) 24 = .ok (.goto 4, 3) := by decide +kernel
theorem eX2_codeAt_27 : decode (zYb kX2_codeAt) 27 = .ok (.iconst 0, 1) := by decide +kernel
theorem eX2_codeAt_28 : decode (zYb kX2_codeAt) 28 = .ok (.ireturn, 1) := by decide +kernel
theorem eX2_scrollsOfText_0 : decode (zYb kX2_scrollsOfText) 0 = .ok (.iconst 1, 1) := by decide +kernel
theorem eX2_scrollsOfText_1 : decode (zYb kX2_scrollsOfText) 1 = .ok (.istore_n 1, 1) := by decide +kernel
theorem eX2_scrollsOfText_2 : decode (zYb kX2_scrollsOfText) 2 = .ok (.iconst 0, 1) := by decide +kernel
theorem eX2_scrollsOfText_3 : decode (zYb kX2_scrollsOfText) 3 = .ok (.istore_n 2, 1) := by decide +kernel
theorem eX2_scrollsOfText_4 : decode (zYb kX2_scrollsOfText) 4 = .ok (.iload_n 2, 1) := by decide +kernel
theorem eX2_scrollsOfText_5 : decode (zYb kX2_scrollsOfText) 5 = .ok (.aload_n 0, 1) := by decide +kernel
theorem eX2_scrollsOfText_6 : decode (zYb kX2_scrollsOfText) 6 = .ok (.getfield 15, 3) := by decide +kernel
theorem eX2_scrollsOfText_9 : decode (zYb kX2_scrollsOfText) 9 = .ok (.if_icmp .ge 22, 3) := by decide +kernel
theorem eX2_scrollsOfText_12 : decode (zYb kX2_scrollsOfText) 12 = .ok (.aload_n 0, 1) := by decide +kernel
theorem eX2_scrollsOfText_13 : decode (zYb kX2_scrollsOfText) 13 = .ok (.iload_n 2, 1) := by decide +kernel
theorem eX2_scrollsOfText_14 : decode (zYb kX2_scrollsOfText) 14 = .ok (.invokevirtual 19, 3) := by decide +kernel
theorem eX2_scrollsOfText_17 : decode (zYb kX2_scrollsOfText) 17 = .ok (.bipush 59, 2) := by decide +kernel
theorem eX2_scrollsOfText_19 : decode (zYb kX2_scrollsOfText) 19 = .ok (.if_icmp .ne 6, 3) := by decide +kernel
theorem eX2_scrollsOfText_22 : decode (zYb kX2_scrollsOfText) 22 = .ok (.iinc 1 1, 3) := by decide +kernel
theorem eX2_scrollsOfText_25 : decode (zYb kX2_scrollsOfText) 25 = .ok (.iinc 2 1, 3) := by decide +kernel
theorem eX2_scrollsOfText_28 : decode (zYb kX2_scrollsOfText) 28 = .ok (.goto (-24), 3) := by decide +kernel
theorem eX2_scrollsOfText_31 : decode (zYb kX2_scrollsOfText) 31 = .ok (.iload_n 1, 1) := by decide +kernel
theorem eX2_scrollsOfText_32 : decode (zYb kX2_scrollsOfText) 32 = .ok (.ireturn, 1) := by decide +kernel
theorem eX2_firstFault_0 : decode (zYb kX2_firstFault) 0 = .ok (.iconst 1, 1) := by decide +kernel
theorem eX2_firstFault_1 : decode (zYb kX2_firstFault) 1 = .ok (.istore_n 1, 1) := by decide +kernel
theorem eX2_firstFault_2 : decode (zYb kX2_firstFault) 2 = .ok (.iconst 1, 1) := by decide +kernel
theorem eX2_firstFault_3 : decode (zYb kX2_firstFault) 3 = .ok (.istore_n 2, 1) := by decide +kernel
theorem eX2_firstFault_4 : decode (zYb kX2_firstFault) 4 = .ok (.iconst 0, 1) := by decide +kernel
theorem eX2_firstFault_5 : decode (zYb kX2_firstFault) 5 = .ok (.istore_n 3, 1) := by decide +kernel
theorem eX2_firstFault_6 : decode (zYb kX2_firstFault) 6 = .ok (.iconst 0, 1) := by decide +kernel
theorem eX2_firstFault_7 : decode (zYb kX2_firstFault) 7 = .ok (.istore 4, 2) := by decide +kernel
theorem eX2_firstFault_9 : decode (zYb kX2_firstFault) 9 = .ok (.iload 4, 2) := by decide +kernel
theorem eX2_firstFault_11 : decode (zYb kX2_firstFault) 11 = .ok (.aload_n 0, 1) := by decide +kernel
theorem eX2_firstFault_12 : decode (zYb kX2_firstFault) 12 = .ok (.getfield 15, 3) := by decide +kernel
theorem eX2_firstFault_15 : decode (zYb kX2_firstFault) 15 = .ok (.if_icmp .ge 90, 3) := by decide +kernel
theorem eX2_firstFault_18 : decode (zYb kX2_firstFault) 18 = .ok (.aload_n 0, 1) := by decide +kernel
theorem eX2_firstFault_19 : decode (zYb kX2_firstFault) 19 = .ok (.iload 4, 2) := by decide +kernel
theorem eX2_firstFault_21 : decode (zYb kX2_firstFault) 21 = .ok (.invokevirtual 19, 3) := by decide +kernel
theorem eX2_firstFault_24 : decode (zYb kX2_firstFault) 24 = .ok (.istore 5, 2) := by decide +kernel
theorem eX2_firstFault_26 : decode (zYb kX2_firstFault) 26 = .ok (.iload 5, 2) := by decide +kernel
theorem eX2_firstFault_28 : decode (zYb kX2_firstFault) 28 = .ok (.invokestatic 23, 3) := by decide +kernel
theorem eX2_firstFault_31 : decode (zYb kX2_firstFault) 31 = .ok (.ifCond .eq 15, 3) := by decide +kernel
theorem eX2_firstFault_34 : decode (zYb kX2_firstFault) 34 = .ok (.iload_n 3, 1) := by decide +kernel
theorem eX2_firstFault_35 : decode (zYb kX2_firstFault) 35 = .ok (.bipush 12, 2) := by decide +kernel
theorem eX2_firstFault_37 : decode (zYb kX2_firstFault) 37 = .ok (.if_icmp .ge 9, 3) := by decide +kernel
theorem eX2_firstFault_40 : decode (zYb kX2_firstFault) 40 = .ok (.iinc 3 1, 3) := by decide +kernel
theorem eX2_firstFault_43 : decode (zYb kX2_firstFault) 43 = .ok (.goto 56, 3) := by decide +kernel
theorem eX2_firstFault_46 : decode (zYb kX2_firstFault) 46 = .ok (.iload 5, 2) := by decide +kernel
theorem eX2_firstFault_48 : decode (zYb kX2_firstFault) 48 = .ok (.bipush 124, 2) := by decide +kernel
theorem eX2_firstFault_50 : decode (zYb kX2_firstFault) 50 = .ok (.if_icmp .ne 20, 3) := by decide +kernel
theorem eX2_firstFault_53 : decode (zYb kX2_firstFault) 53 = .ok (.iload_n 3, 1) := by decide +kernel
theorem eX2_firstFault_54 : decode (zYb kX2_firstFault) 54 = .ok (.ifCond .le 16, 3) := by decide +kernel
theorem eX2_firstFault_57 : decode (zYb kX2_firstFault) 57 = .ok (.iload_n 2, 1) := by decide +kernel
theorem eX2_firstFault_58 : decode (zYb kX2_firstFault) 58 = .ok (.iconst 5, 1) := by decide +kernel
theorem eX2_firstFault_59 : decode (zYb kX2_firstFault) 59 = .ok (.if_icmp .ge 11, 3) := by decide +kernel
theorem eX2_firstFault_62 : decode (zYb kX2_firstFault) 62 = .ok (.iinc 2 1, 3) := by decide +kernel
theorem eX2_firstFault_65 : decode (zYb kX2_firstFault) 65 = .ok (.iconst 0, 1) := by decide +kernel
theorem eX2_firstFault_66 : decode (zYb kX2_firstFault) 66 = .ok (.istore_n 3, 1) := by decide +kernel
theorem eX2_firstFault_67 : decode (zYb kX2_firstFault) 67 = .ok (.goto 32, 3) := by decide +kernel
theorem eX2_firstFault_70 : decode (zYb kX2_firstFault) 70 = .ok (.iload 5, 2) := by decide +kernel
theorem eX2_firstFault_72 : decode (zYb kX2_firstFault) 72 = .ok (.bipush 59, 2) := by decide +kernel
theorem eX2_firstFault_74 : decode (zYb kX2_firstFault) 74 = .ok (.if_icmp .ne 22, 3) := by decide +kernel
theorem eX2_firstFault_77 : decode (zYb kX2_firstFault) 77 = .ok (.iload_n 3, 1) := by decide +kernel
theorem eX2_firstFault_78 : decode (zYb kX2_firstFault) 78 = .ok (.ifCond .le 18, 3) := by decide +kernel
theorem eX2_firstFault_81 : decode (zYb kX2_firstFault) 81 = .ok (.iload_n 1, 1) := by decide +kernel
theorem eX2_firstFault_82 : decode (zYb kX2_firstFault) 82 = .ok (.iconst 5, 1) := by decide +kernel
theorem eX2_firstFault_83 : decode (zYb kX2_firstFault) 83 = .ok (.if_icmp .ge 13, 3) := by decide +kernel
theorem eX2_firstFault_86 : decode (zYb kX2_firstFault) 86 = .ok (.iinc 1 1, 3) := by decide +kernel
theorem eX2_firstFault_89 : decode (zYb kX2_firstFault) 89 = .ok (.iconst 1, 1) := by decide +kernel
theorem eX2_firstFault_90 : decode (zYb kX2_firstFault) 90 = .ok (.istore_n 2, 1) := by decide +kernel
theorem eX2_firstFault_91 : decode (zYb kX2_firstFault) 91 = .ok (.iconst 0, 1) := by decide +kernel
theorem eX2_firstFault_92 : decode (zYb kX2_firstFault) 92 = .ok (.istore_n 3, 1) := by decide +kernel
theorem eX2_firstFault_93 : decode (zYb kX2_firstFault) 93 = .ok (.goto 6, 3) := by decide +kernel
theorem eX2_firstFault_96 : decode (zYb kX2_firstFault) 96 = .ok (.iload 4, 2) := by decide +kernel
theorem eX2_firstFault_98 : decode (zYb kX2_firstFault) 98 = .ok (.ireturn, 1) := by decide +kernel
theorem eX2_firstFault_99 : decode (zYb kX2_firstFault) 99 = .ok (.iinc 4 1, 3) := by decide +kernel
theorem eX2_firstFault_102 : decode (zYb kX2_firstFault) 102 = .ok (.goto (-93), 3) := by decide +kernel
theorem eX2_firstFault_105 : decode (zYb kX2_firstFault) 105 = .ok (.iload_n 3, 1) := by decide +kernel
theorem eX2_firstFault_106 : decode (zYb kX2_firstFault) 106 = .ok (.ifCond .ne 10, 3) := by decide +kernel
theorem eX2_firstFault_109 : decode (zYb kX2_firstFault) 109 = .ok (.aload_n 0, 1) := by decide +kernel
theorem eX2_firstFault_110 : decode (zYb kX2_firstFault) 110 = .ok (.getfield 15, 3) := by decide +kernel
theorem eX2_firstFault_113 : decode (zYb kX2_firstFault) 113 = .ok (.goto 5, 3) := by decide +kernel
theorem eX2_firstFault_116 : decode (zYb kX2_firstFault) 116 = .ok (.bipush (-6), 2) := by decide +kernel
theorem eX2_firstFault_118 : decode (zYb kX2_firstFault) 118 = .ok (.ireturn, 1) := by decide +kernel
theorem eX2_isWord_0 : decode (zYb kX2_isWord) 0 = .ok (.aload_n 0, 1) := by decide +kernel
theorem eX2_isWord_1 : decode (zYb kX2_isWord) 1 = .ok (.getfield 15, 3) := by decide +kernel
theorem eX2_isWord_4 : decode (zYb kX2_isWord) 4 = .ok (.iconst 1, 1) := by decide +kernel
theorem eX2_isWord_5 : decode (zYb kX2_isWord) 5 = .ok (.if_icmp .lt 12, 3) := by decide +kernel
theorem eX2_isWord_8 : decode (zYb kX2_isWord) 8 = .ok (.aload_n 0, 1) := by decide +kernel
theorem eX2_isWord_9 : decode (zYb kX2_isWord) 9 = .ok (.getfield 15, 3) := by decide +kernel
theorem eX2_isWord_12 : decode (zYb kX2_isWord) 12 = .ok (.bipush 12, 2) := by decide +kernel
theorem eX2_isWord_14 : decode (zYb kX2_isWord) 14 = .ok (.if_icmp .le 5, 3) := by decide +kernel
theorem eX2_isWord_17 : decode (zYb kX2_isWord) 17 = .ok (.iconst 0, 1) := by decide +kernel
theorem eX2_isWord_18 : decode (zYb kX2_isWord) 18 = .ok (.ireturn, 1) := by decide +kernel
theorem eX2_isWord_19 : decode (zYb kX2_isWord) 19 = .ok (.iconst 0, 1) := by decide +kernel
theorem eX2_isWord_20 : decode (zYb kX2_isWord) 20 = .ok (.istore_n 1, 1) := by decide +kernel
theorem eX2_isWord_21 : decode (zYb kX2_isWord) 21 = .ok (.iload_n 1, 1) := by decide +kernel
theorem eX2_isWord_22 : decode (zYb kX2_isWord) 22 = .ok (.aload_n 0, 1) := by decide +kernel
theorem eX2_isWord_23 : decode (zYb kX2_isWord) 23 = .ok (.getfield 15, 3) := by decide +kernel
theorem eX2_isWord_26 : decode (zYb kX2_isWord) 26 = .ok (.if_icmp .ge 22, 3) := by decide +kernel
theorem eX2_isWord_29 : decode (zYb kX2_isWord) 29 = .ok (.aload_n 0, 1) := by decide +kernel
theorem eX2_isWord_30 : decode (zYb kX2_isWord) 30 = .ok (.iload_n 1, 1) := by decide +kernel
theorem eX2_isWord_31 : decode (zYb kX2_isWord) 31 = .ok (.invokevirtual 19, 3) := by decide +kernel
theorem eX2_isWord_34 : decode (zYb kX2_isWord) 34 = .ok (.invokestatic 23, 3) := by decide +kernel
theorem eX2_isWord_37 : decode (zYb kX2_isWord) 37 = .ok (.ifCond .ne 5, 3) := by decide +kernel
theorem eX2_isWord_40 : decode (zYb kX2_isWord) 40 = .ok (.iconst 0, 1) := by decide +kernel
theorem eX2_isWord_41 : decode (zYb kX2_isWord) 41 = .ok (.ireturn, 1) := by decide +kernel
theorem eX2_isWord_42 : decode (zYb kX2_isWord) 42 = .ok (.iinc 1 1, 3) := by decide +kernel
theorem eX2_isWord_45 : decode (zYb kX2_isWord) 45 = .ok (.goto (-24), 3) := by decide +kernel
theorem eX2_isWord_48 : decode (zYb kX2_isWord) 48 = .ok (.iconst 1, 1) := by decide +kernel
theorem eX2_isWord_49 : decode (zYb kX2_isWord) 49 = .ok (.ireturn, 1) := by decide +kernel
theorem eX2_placeIn_0 : decode (zYb kX2_placeIn) 0 = .ok (.iconst 0, 1) := by decide +kernel
theorem eX2_placeIn_1 : decode (zYb kX2_placeIn) 1 = .ok (.istore_n 3, 1) := by decide +kernel
theorem eX2_placeIn_2 : decode (zYb kX2_placeIn) 2 = .ok (.iload_n 3, 1) := by decide +kernel
theorem eX2_placeIn_3 : decode (zYb kX2_placeIn) 3 = .ok (.aload_n 0, 1) := by decide +kernel
theorem eX2_placeIn_4 : decode (zYb kX2_placeIn) 4 = .ok (.getfield 15, 3) := by decide +kernel
theorem eX2_placeIn_7 : decode (zYb kX2_placeIn) 7 = .ok (.iadd, 1) := by decide +kernel
theorem eX2_placeIn_8 : decode (zYb kX2_placeIn) 8 = .ok (.iload_n 2, 1) := by decide +kernel
theorem eX2_placeIn_9 : decode (zYb kX2_placeIn) 9 = .ok (.if_icmp .gt 20, 3) := by decide +kernel
theorem eX2_placeIn_12 : decode (zYb kX2_placeIn) 12 = .ok (.aload_n 0, 1) := by decide +kernel
theorem eX2_placeIn_13 : decode (zYb kX2_placeIn) 13 = .ok (.aload_n 1, 1) := by decide +kernel
theorem eX2_placeIn_14 : decode (zYb kX2_placeIn) 14 = .ok (.iload_n 3, 1) := by decide +kernel
theorem eX2_placeIn_15 : decode (zYb kX2_placeIn) 15 = .ok (.invokevirtual 27, 3) := by decide +kernel
theorem eX2_placeIn_18 : decode (zYb kX2_placeIn) 18 = .ok (.ifCond .eq 5, 3) := by decide +kernel
theorem eX2_placeIn_21 : decode (zYb kX2_placeIn) 21 = .ok (.iload_n 3, 1) := by decide +kernel
theorem eX2_placeIn_22 : decode (zYb kX2_placeIn) 22 = .ok (.ireturn, 1) := by decide +kernel
theorem eX2_placeIn_23 : decode (zYb kX2_placeIn) 23 = .ok (.iinc 3 1, 3) := by decide +kernel
theorem eX2_placeIn_26 : decode (zYb kX2_placeIn) 26 = .ok (.goto (-24), 3) := by decide +kernel
theorem eX2_placeIn_29 : decode (zYb kX2_placeIn) 29 = .ok (.bipush (-6), 2) := by decide +kernel
theorem eX2_placeIn_31 : decode (zYb kX2_placeIn) 31 = .ok (.ireturn, 1) := by decide +kernel
theorem eX2_standsAt_0 : decode (zYb kX2_standsAt) 0 = .ok (.iload_n 2, 1) := by decide +kernel
theorem eX2_standsAt_1 : decode (zYb kX2_standsAt) 1 = .ok (.ifCond .lt 14, 3) := by decide +kernel
theorem eX2_standsAt_4 : decode (zYb kX2_standsAt) 4 = .ok (.iload_n 2, 1) := by decide +kernel
theorem eX2_standsAt_5 : decode (zYb kX2_standsAt) 5 = .ok (.aload_n 0, 1) := by decide +kernel
theorem eX2_standsAt_6 : decode (zYb kX2_standsAt) 6 = .ok (.getfield 15, 3) := by decide +kernel
theorem eX2_standsAt_9 : decode (zYb kX2_standsAt) 9 = .ok (.iadd, 1) := by decide +kernel
theorem eX2_standsAt_10 : decode (zYb kX2_standsAt) 10 = .ok (.aload_n 1, 1) := by decide +kernel
theorem eX2_standsAt_11 : decode (zYb kX2_standsAt) 11 = .ok (.arraylength, 1) := by decide +kernel
theorem eX2_standsAt_12 : decode (zYb kX2_standsAt) 12 = .ok (.if_icmp .le 5, 3) := by decide +kernel
theorem eX2_standsAt_15 : decode (zYb kX2_standsAt) 15 = .ok (.iconst 0, 1) := by decide +kernel
theorem eX2_standsAt_16 : decode (zYb kX2_standsAt) 16 = .ok (.ireturn, 1) := by decide +kernel
theorem eX2_standsAt_17 : decode (zYb kX2_standsAt) 17 = .ok (.iconst 0, 1) := by decide +kernel
theorem eX2_standsAt_18 : decode (zYb kX2_standsAt) 18 = .ok (.istore_n 3, 1) := by decide +kernel
theorem eX2_standsAt_19 : decode (zYb kX2_standsAt) 19 = .ok (.iload_n 3, 1) := by decide +kernel
theorem eX2_standsAt_20 : decode (zYb kX2_standsAt) 20 = .ok (.aload_n 0, 1) := by decide +kernel
theorem eX2_standsAt_21 : decode (zYb kX2_standsAt) 21 = .ok (.getfield 15, 3) := by decide +kernel
theorem eX2_standsAt_24 : decode (zYb kX2_standsAt) 24 = .ok (.if_icmp .ge 27, 3) := by decide +kernel
theorem eX2_standsAt_27 : decode (zYb kX2_standsAt) 27 = .ok (.aload_n 1, 1) := by decide +kernel
theorem eX2_standsAt_28 : decode (zYb kX2_standsAt) 28 = .ok (.iload_n 2, 1) := by decide +kernel
theorem eX2_standsAt_29 : decode (zYb kX2_standsAt) 29 = .ok (.iload_n 3, 1) := by decide +kernel
theorem eX2_standsAt_30 : decode (zYb kX2_standsAt) 30 = .ok (.iadd, 1) := by decide +kernel
theorem eX2_standsAt_31 : decode (zYb kX2_standsAt) 31 = .ok (.iaload, 1) := by decide +kernel
theorem eX2_standsAt_32 : decode (zYb kX2_standsAt) 32 = .ok (.aload_n 0, 1) := by decide +kernel
theorem eX2_standsAt_33 : decode (zYb kX2_standsAt) 33 = .ok (.iload_n 3, 1) := by decide +kernel
theorem eX2_standsAt_34 : decode (zYb kX2_standsAt) 34 = .ok (.invokevirtual 19, 3) := by decide +kernel
theorem eX2_standsAt_37 : decode (zYb kX2_standsAt) 37 = .ok (.bipush 97, 2) := by decide +kernel
theorem eX2_standsAt_39 : decode (zYb kX2_standsAt) 39 = .ok (.isub, 1) := by decide +kernel
theorem eX2_standsAt_40 : decode (zYb kX2_standsAt) 40 = .ok (.if_icmp .eq 5, 3) := by decide +kernel
theorem eX2_standsAt_43 : decode (zYb kX2_standsAt) 43 = .ok (.iconst 0, 1) := by decide +kernel
theorem eX2_standsAt_44 : decode (zYb kX2_standsAt) 44 = .ok (.ireturn, 1) := by decide +kernel
theorem eX2_standsAt_45 : decode (zYb kX2_standsAt) 45 = .ok (.iinc 3 1, 3) := by decide +kernel
theorem eX2_standsAt_48 : decode (zYb kX2_standsAt) 48 = .ok (.goto (-29), 3) := by decide +kernel
theorem eX2_standsAt_51 : decode (zYb kX2_standsAt) 51 = .ok (.iconst 1, 1) := by decide +kernel
theorem eX2_standsAt_52 : decode (zYb kX2_standsAt) 52 = .ok (.ireturn, 1) := by decide +kernel
theorem eX3_init_0 : decode (zYb kX3_init) 0 = .ok (.aload_n 0, 1) := by decide +kernel
theorem eX3_init_1 : decode (zYb kX3_init) 1 = .ok (.invokespecial 3, 3) := by decide +kernel
theorem eX3_init_4 : decode (zYb kX3_init) 4 = .ok (.aload_n 0, 1) := by decide +kernel
theorem eX3_init_5 : decode (zYb kX3_init) 5 = .ok (.new 9, 3) := by decide +kernel
theorem eX3_init_8 : decode (zYb kX3_init) 8 = .ok (.dup, 1) := by decide +kernel
theorem eX3_init_9 : decode (zYb kX3_init) 9 = .ok (.invokespecial 11, 3) := by decide +kernel
theorem eX3_init_12 : decode (zYb kX3_init) 12 = .ok (.putfield 12, 3) := by decide +kernel
theorem eX3_init_15 : decode (zYb kX3_init) 15 = .ok (.aload_n 0, 1) := by decide +kernel
theorem eX3_init_16 : decode (zYb kX3_init) 16 = .ok (.new 9, 3) := by decide +kernel
theorem eX3_init_19 : decode (zYb kX3_init) 19 = .ok (.dup, 1) := by decide +kernel
theorem eX3_init_20 : decode (zYb kX3_init) 20 = .ok (.invokespecial 11, 3) := by decide +kernel
theorem eX3_init_23 : decode (zYb kX3_init) 23 = .ok (.putfield 18, 3) := by decide +kernel
theorem eX3_init_26 : decode (zYb kX3_init) 26 = .ok (.aload_n 0, 1) := by decide +kernel
theorem eX3_init_27 : decode (zYb kX3_init) 27 = .ok (.bipush 60, 2) := by decide +kernel
theorem eX3_init_29 : decode (zYb kX3_init) 29 = .ok (.newarray .int, 2) := by decide +kernel
theorem eX3_init_31 : decode (zYb kX3_init) 31 = .ok (.putfield 21, 3) := by decide +kernel
theorem eX3_init_34 : decode (zYb kX3_init) 34 = .ok (.return_, 1) := by decide +kernel
theorem eX3_begin_0 : decode (zYb kX3_begin) 0 = .ok (.aload_n 0, 1) := by decide +kernel
theorem eX3_begin_1 : decode (zYb kX3_begin) 1 = .ok (.aload_n 1, 1) := by decide +kernel
theorem eX3_begin_2 : decode (zYb kX3_begin) 2 = .ok (.invokevirtual 25, 3) := by decide +kernel
theorem eX3_begin_5 : decode (zYb kX3_begin) 5 = .ok (.putfield 31, 3) := by decide +kernel
theorem eX3_begin_8 : decode (zYb kX3_begin) 8 = .ok (.aload_n 0, 1) := by decide +kernel
theorem eX3_begin_9 : decode (zYb kX3_begin) 9 = .ok (.getfield 12, 3) := by decide +kernel
theorem eX3_begin_12 : decode (zYb kX3_begin) 12 = .ok (.aload_n 1, 1) := by decide +kernel
theorem eX3_begin_13 : decode (zYb kX3_begin) 13 = .ok (.iconst 0, 1) := by decide +kernel
theorem eX3_begin_14 : decode (zYb kX3_begin) 14 = .ok (.invokevirtual 34, 3) := by decide +kernel
theorem eX3_begin_17 : decode (zYb kX3_begin) 17 = .ok (.aload_n 0, 1) := by decide +kernel
theorem eX3_begin_18 : decode (zYb kX3_begin) 18 = .ok (.getfield 18, 3) := by decide +kernel
theorem eX3_begin_21 : decode (zYb kX3_begin) 21 = .ok (.aload_n 1, 1) := by decide +kernel
theorem eX3_begin_22 : decode (zYb kX3_begin) 22 = .ok (.iconst 1, 1) := by decide +kernel
theorem eX3_begin_23 : decode (zYb kX3_begin) 23 = .ok (.invokevirtual 34, 3) := by decide +kernel
theorem eX3_begin_26 : decode (zYb kX3_begin) 26 = .ok (.return_, 1) := by decide +kernel
theorem eX3_next_0 : decode (zYb kX3_next) 0 = .ok (.aload_n 0, 1) := by decide +kernel
theorem eX3_next_1 : decode (zYb kX3_next) 1 = .ok (.getfield 12, 3) := by decide +kernel
theorem eX3_next_4 : decode (zYb kX3_next) 4 = .ok (.invokevirtual 38, 3) := by decide +kernel
theorem eX3_next_7 : decode (zYb kX3_next) 7 = .ok (.ifCond .eq 15, 3) := by decide +kernel
theorem eX3_next_10 : decode (zYb kX3_next) 10 = .ok (.aload_n 0, 1) := by decide +kernel
theorem eX3_next_11 : decode (zYb kX3_next) 11 = .ok (.getfield 18, 3) := by decide +kernel
theorem eX3_next_14 : decode (zYb kX3_next) 14 = .ok (.invokevirtual 38, 3) := by decide +kernel
theorem eX3_next_17 : decode (zYb kX3_next) 17 = .ok (.ifCond .eq 5, 3) := by decide +kernel
theorem eX3_next_20 : decode (zYb kX3_next) 20 = .ok (.iconst 0, 1) := by decide +kernel
theorem eX3_next_21 : decode (zYb kX3_next) 21 = .ok (.ireturn, 1) := by decide +kernel
theorem eX3_next_22 : decode (zYb kX3_next) 22 = .ok (.aload_n 0, 1) := by decide +kernel
theorem eX3_next_23 : decode (zYb kX3_next) 23 = .ok (.invokevirtual 42, 3) := by decide +kernel
theorem eX3_next_26 : decode (zYb kX3_next) 26 = .ok (.istore_n 1, 1) := by decide +kernel
theorem eX3_next_27 : decode (zYb kX3_next) 27 = .ok (.iload_n 1, 1) := by decide +kernel
theorem eX3_next_28 : decode (zYb kX3_next) 28 = .ok (.ifCond .gt 10, 3) := by decide +kernel
theorem eX3_next_31 : decode (zYb kX3_next) 31 = .ok (.aload_n 0, 1) := by decide +kernel
theorem eX3_next_32 : decode (zYb kX3_next) 32 = .ok (.getfield 12, 3) := by decide +kernel
theorem eX3_next_35 : decode (zYb kX3_next) 35 = .ok (.goto 7, 3) := by decide +kernel
theorem eX3_next_38 : decode (zYb kX3_next) 38 = .ok (.aload_n 0, 1) := by decide +kernel
theorem eX3_next_39 : decode (zYb kX3_next) 39 = .ok (.getfield 18, 3) := by decide +kernel
theorem eX3_next_42 : decode (zYb kX3_next) 42 = .ok (.astore_n 2, 1) := by decide +kernel
theorem eX3_next_43 : decode (zYb kX3_next) 43 = .ok (.aload_n 2, 1) := by decide +kernel
theorem eX3_next_44 : decode (zYb kX3_next) 44 = .ok (.getfield 45, 3) := by decide +kernel
theorem eX3_next_47 : decode (zYb kX3_next) 47 = .ok (.iconst 0, 1) := by decide +kernel
theorem eX3_next_48 : decode (zYb kX3_next) 48 = .ok (.aload_n 0, 1) := by decide +kernel
theorem eX3_next_49 : decode (zYb kX3_next) 49 = .ok (.getfield 21, 3) := by decide +kernel
theorem eX3_next_52 : decode (zYb kX3_next) 52 = .ok (.iconst 0, 1) := by decide +kernel
theorem eX3_next_53 : decode (zYb kX3_next) 53 = .ok (.bipush 60, 2) := by decide +kernel
theorem eX3_next_55 : decode (zYb kX3_next) 55 = .ok (.invokestatic 46, 3) := by decide +kernel
theorem eX3_next_58 : decode (zYb kX3_next) 58 = .ok (.iload_n 1, 1) := by decide +kernel
theorem eX3_next_59 : decode (zYb kX3_next) 59 = .ok (.ifCond .gt 10, 3) := by decide +kernel
theorem eX3_next_62 : decode (zYb kX3_next) 62 = .ok (.aload_n 0, 1) := by decide +kernel
theorem eX3_next_63 : decode (zYb kX3_next) 63 = .ok (.getfield 12, 3) := by decide +kernel
theorem eX3_next_66 : decode (zYb kX3_next) 66 = .ok (.invokevirtual 52, 3) := by decide +kernel
theorem eX3_next_69 : decode (zYb kX3_next) 69 = .ok (.iload_n 1, 1) := by decide +kernel
theorem eX3_next_70 : decode (zYb kX3_next) 70 = .ok (.ifCond .lt 10, 3) := by decide +kernel
theorem eX3_next_73 : decode (zYb kX3_next) 73 = .ok (.aload_n 0, 1) := by decide +kernel
theorem eX3_next_74 : decode (zYb kX3_next) 74 = .ok (.getfield 18, 3) := by decide +kernel
theorem eX3_next_77 : decode (zYb kX3_next) 77 = .ok (.invokevirtual 52, 3) := by decide +kernel
theorem eX3_next_80 : decode (zYb kX3_next) 80 = .ok (.iconst 1, 1) := by decide +kernel
theorem eX3_next_81 : decode (zYb kX3_next) 81 = .ok (.ireturn, 1) := by decide +kernel
theorem eX3_orderOfEnds_0 : decode (zYb kX3_orderOfEnds) 0 = .ok (.aload_n 0, 1) := by decide +kernel
theorem eX3_orderOfEnds_1 : decode (zYb kX3_orderOfEnds) 1 = .ok (.getfield 12, 3) := by decide +kernel
theorem eX3_orderOfEnds_4 : decode (zYb kX3_orderOfEnds) 4 = .ok (.invokevirtual 38, 3) := by decide +kernel
theorem eX3_orderOfEnds_7 : decode (zYb kX3_orderOfEnds) 7 = .ok (.ifCond .eq 5, 3) := by decide +kernel
theorem eX3_orderOfEnds_10 : decode (zYb kX3_orderOfEnds) 10 = .ok (.iconst 1, 1) := by decide +kernel
theorem eX3_orderOfEnds_11 : decode (zYb kX3_orderOfEnds) 11 = .ok (.ireturn, 1) := by decide +kernel
theorem eX3_orderOfEnds_12 : decode (zYb kX3_orderOfEnds) 12 = .ok (.aload_n 0, 1) := by decide +kernel
theorem eX3_orderOfEnds_13 : decode (zYb kX3_orderOfEnds) 13 = .ok (.getfield 18, 3) := by decide +kernel
theorem eX3_orderOfEnds_16 : decode (zYb kX3_orderOfEnds) 16 = .ok (.invokevirtual 38, 3) := by decide +kernel
theorem eX3_orderOfEnds_19 : decode (zYb kX3_orderOfEnds) 19 = .ok (.ifCond .eq 5, 3) := by decide +kernel
theorem eX3_orderOfEnds_22 : decode (zYb kX3_orderOfEnds) 22 = .ok (.iconst (-1), 1) := by decide +kernel
theorem eX3_orderOfEnds_23 : decode (zYb kX3_orderOfEnds) 23 = .ok (.ireturn, 1) := by decide +kernel
theorem eX3_orderOfEnds_24 : decode (zYb kX3_orderOfEnds) 24 = .ok (.iconst 0, 1) := by decide +kernel
theorem eX3_orderOfEnds_25 : decode (zYb kX3_orderOfEnds) 25 = .ok (.istore_n 1, 1) := by decide +kernel
theorem eX3_orderOfEnds_26 : decode (zYb kX3_orderOfEnds) 26 = .ok (.iload_n 1, 1) := by decide +kernel
theorem eX3_orderOfEnds_27 : decode (zYb kX3_orderOfEnds) 27 = .ok (.aload_n 0, 1) := by decide +kernel
theorem eX3_orderOfEnds_28 : decode (zYb kX3_orderOfEnds) 28 = .ok (.getfield 31, 3) := by decide +kernel
theorem eX3_orderOfEnds_31 : decode (zYb kX3_orderOfEnds) 31 = .ok (.if_icmp .ge 56, 3) := by decide +kernel
theorem eX3_orderOfEnds_34 : decode (zYb kX3_orderOfEnds) 34 = .ok (.iload_n 1, 1) := by decide +kernel
theorem eX3_orderOfEnds_35 : decode (zYb kX3_orderOfEnds) 35 = .ok (.bipush 60, 2) := by decide +kernel
theorem eX3_orderOfEnds_37 : decode (zYb kX3_orderOfEnds) 37 = .ok (.if_icmp .ge 50, 3) := by decide +kernel
theorem eX3_orderOfEnds_40 : decode (zYb kX3_orderOfEnds) 40 = .ok (.aload_n 0, 1) := by decide +kernel
theorem eX3_orderOfEnds_41 : decode (zYb kX3_orderOfEnds) 41 = .ok (.getfield 12, 3) := by decide +kernel
theorem eX3_orderOfEnds_44 : decode (zYb kX3_orderOfEnds) 44 = .ok (.getfield 45, 3) := by decide +kernel
theorem eX3_orderOfEnds_47 : decode (zYb kX3_orderOfEnds) 47 = .ok (.iload_n 1, 1) := by decide +kernel
theorem eX3_orderOfEnds_48 : decode (zYb kX3_orderOfEnds) 48 = .ok (.iaload, 1) := by decide +kernel
theorem eX3_orderOfEnds_49 : decode (zYb kX3_orderOfEnds) 49 = .ok (.aload_n 0, 1) := by decide +kernel
theorem eX3_orderOfEnds_50 : decode (zYb kX3_orderOfEnds) 50 = .ok (.getfield 18, 3) := by decide +kernel
theorem eX3_orderOfEnds_53 : decode (zYb kX3_orderOfEnds) 53 = .ok (.getfield 45, 3) := by decide +kernel
theorem eX3_orderOfEnds_56 : decode (zYb kX3_orderOfEnds) 56 = .ok (.iload_n 1, 1) := by decide +kernel
theorem eX3_orderOfEnds_57 : decode (zYb kX3_orderOfEnds) 57 = .ok (.iaload, 1) := by decide +kernel
theorem eX3_orderOfEnds_58 : decode (zYb kX3_orderOfEnds) 58 = .ok (.if_icmp .eq 23, 3) := by decide +kernel
theorem eX3_orderOfEnds_61 : decode (zYb kX3_orderOfEnds) 61 = .ok (.aload_n 0, 1) := by decide +kernel
theorem eX3_orderOfEnds_62 : decode (zYb kX3_orderOfEnds) 62 = .ok (.getfield 12, 3) := by decide +kernel
theorem eX3_orderOfEnds_65 : decode (zYb kX3_orderOfEnds) 65 = .ok (.getfield 45, 3) := by decide +kernel
theorem eX3_orderOfEnds_68 : decode (zYb kX3_orderOfEnds) 68 = .ok (.iload_n 1, 1) := by decide +kernel
theorem eX3_orderOfEnds_69 : decode (zYb kX3_orderOfEnds) 69 = .ok (.iaload, 1) := by decide +kernel
theorem eX3_orderOfEnds_70 : decode (zYb kX3_orderOfEnds) 70 = .ok (.aload_n 0, 1) := by decide +kernel
theorem eX3_orderOfEnds_71 : decode (zYb kX3_orderOfEnds) 71 = .ok (.getfield 18, 3) := by decide +kernel
theorem eX3_orderOfEnds_74 : decode (zYb kX3_orderOfEnds) 74 = .ok (.getfield 45, 3) := by decide +kernel
theorem eX3_orderOfEnds_77 : decode (zYb kX3_orderOfEnds) 77 = .ok (.iload_n 1, 1) := by decide +kernel
theorem eX3_orderOfEnds_78 : decode (zYb kX3_orderOfEnds) 78 = .ok (.iaload, 1) := by decide +kernel
theorem eX3_orderOfEnds_79 : decode (zYb kX3_orderOfEnds) 79 = .ok (.isub, 1) := by decide +kernel
theorem eX3_orderOfEnds_80 : decode (zYb kX3_orderOfEnds) 80 = .ok (.ireturn, 1) := by decide +kernel
theorem eX3_orderOfEnds_81 : decode (zYb kX3_orderOfEnds) 81 = .ok (.iinc 1 1, 3) := by decide +kernel
theorem eX3_orderOfEnds_84 : decode (zYb kX3_orderOfEnds) 84 = .ok (.goto (-58), 3) := by decide +kernel
theorem eX3_orderOfEnds_87 : decode (zYb kX3_orderOfEnds) 87 = .ok (.iconst 0, 1) := by decide +kernel
theorem eX3_orderOfEnds_88 : decode (zYb kX3_orderOfEnds) 88 = .ok (.ireturn, 1) := by decide +kernel
theorem eX3_letterAt_0 : decode (zYb kX3_letterAt) 0 = .ok (.iload_n 1, 1) := by decide +kernel
theorem eX3_letterAt_1 : decode (zYb kX3_letterAt) 1 = .ok (.ifCond .lt 18, 3) := by decide +kernel
theorem eX3_letterAt_4 : decode (zYb kX3_letterAt) 4 = .ok (.iload_n 1, 1) := by decide +kernel
theorem eX3_letterAt_5 : decode (zYb kX3_letterAt) 5 = .ok (.bipush 60, 2) := by decide +kernel
theorem eX3_letterAt_7 : decode (zYb kX3_letterAt) 7 = .ok (.if_icmp .ge 12, 3) := by decide +kernel
theorem eX3_letterAt_10 : decode (zYb kX3_letterAt) 10 = .ok (.aload_n 0, 1) := by decide +kernel
theorem eX3_letterAt_11 : decode (zYb kX3_letterAt) 11 = .ok (.getfield 21, 3) := by decide +kernel
theorem eX3_letterAt_14 : decode (zYb kX3_letterAt) 14 = .ok (.iload_n 1, 1) := by decide +kernel
theorem eX3_letterAt_15 : decode (zYb kX3_letterAt) 15 = .ok (.iaload, 1) := by decide +kernel
theorem eX3_letterAt_16 : decode (zYb kX3_letterAt) 16 = .ok (.goto 4, 3) := by decide +kernel
theorem eX3_letterAt_19 : decode (zYb kX3_letterAt) 19 = .ok (.iconst 0, 1) := by decide +kernel
theorem eX3_letterAt_20 : decode (zYb kX3_letterAt) 20 = .ok (.ireturn, 1) := by decide +kernel
theorem eX4_init_0 : decode (zYb kX4_init) 0 = .ok (.aload_n 0, 1) := by decide +kernel
theorem eX4_init_1 : decode (zYb kX4_init) 1 = .ok (.invokespecial 3, 3) := by decide +kernel
theorem eX4_init_4 : decode (zYb kX4_init) 4 = .ok (.aload_n 0, 1) := by decide +kernel
theorem eX4_init_5 : decode (zYb kX4_init) 5 = .ok (.bipush 60, 2) := by decide +kernel
theorem eX4_init_7 : decode (zYb kX4_init) 7 = .ok (.newarray .int, 2) := by decide +kernel
theorem eX4_init_9 : decode (zYb kX4_init) 9 = .ok (.putfield 9, 3) := by decide +kernel
theorem eX4_init_12 : decode (zYb kX4_init) 12 = .ok (.aload_n 0, 1) := by decide +kernel
theorem eX4_init_13 : decode (zYb kX4_init) 13 = .ok (.bipush 6, 2) := by decide +kernel
theorem eX4_init_15 : decode (zYb kX4_init) 15 = .ok (.newarray .int, 2) := by decide +kernel
theorem eX4_init_17 : decode (zYb kX4_init) 17 = .ok (.putfield 15, 3) := by decide +kernel
theorem eX4_init_20 : decode (zYb kX4_init) 20 = .ok (.return_, 1) := by decide +kernel
theorem eX4_startAnew_0 : decode (zYb kX4_startAnew) 0 = .ok (.aload_n 0, 1) := by decide +kernel
theorem eX4_startAnew_1 : decode (zYb kX4_startAnew) 1 = .ok (.iconst 0, 1) := by decide +kernel
theorem eX4_startAnew_2 : decode (zYb kX4_startAnew) 2 = .ok (.putfield 18, 3) := by decide +kernel
theorem eX4_startAnew_5 : decode (zYb kX4_startAnew) 5 = .ok (.aload_n 0, 1) := by decide +kernel
theorem eX4_startAnew_6 : decode (zYb kX4_startAnew) 6 = .ok (.invokevirtual 22, 3) := by decide +kernel
theorem eX4_startAnew_9 : decode (zYb kX4_startAnew) 9 = .ok (.return_, 1) := by decide +kernel
theorem eX4_addPatch_0 : decode (zYb kX4_addPatch) 0 = .ok (.aload_n 0, 1) := by decide +kernel
theorem eX4_addPatch_1 : decode (zYb kX4_addPatch) 1 = .ok (.getfield 18, 3) := by decide +kernel
theorem eX4_addPatch_4 : decode (zYb kX4_addPatch) 4 = .ok (.bipush 6, 2) := by decide +kernel
theorem eX4_addPatch_6 : decode (zYb kX4_addPatch) 6 = .ok (.if_icmp .ge 26, 3) := by decide +kernel
theorem eX4_addPatch_9 : decode (zYb kX4_addPatch) 9 = .ok (.aload_n 0, 1) := by decide +kernel
theorem eX4_addPatch_10 : decode (zYb kX4_addPatch) 10 = .ok (.getfield 15, 3) := by decide +kernel
theorem eX4_addPatch_13 : decode (zYb kX4_addPatch) 13 = .ok (.aload_n 0, 1) := by decide +kernel
theorem eX4_addPatch_14 : decode (zYb kX4_addPatch) 14 = .ok (.getfield 18, 3) := by decide +kernel
theorem eX4_addPatch_17 : decode (zYb kX4_addPatch) 17 = .ok (.aload_n 0, 1) := by decide +kernel
theorem eX4_addPatch_18 : decode (zYb kX4_addPatch) 18 = .ok (.invokevirtual 25, 3) := by decide +kernel
theorem eX4_addPatch_21 : decode (zYb kX4_addPatch) 21 = .ok (.iastore, 1) := by decide +kernel
theorem eX4_addPatch_22 : decode (zYb kX4_addPatch) 22 = .ok (.aload_n 0, 1) := by decide +kernel
theorem eX4_addPatch_23 : decode (zYb kX4_addPatch) 23 = .ok (.dup, 1) := by decide +kernel
theorem eX4_addPatch_24 : decode (zYb kX4_addPatch) 24 = .ok (.getfield 18, 3) := by decide +kernel
theorem eX4_addPatch_27 : decode (zYb kX4_addPatch) 27 = .ok (.iconst 1, 1) := by decide +kernel
theorem eX4_addPatch_28 : decode (zYb kX4_addPatch) 28 = .ok (.iadd, 1) := by decide +kernel
theorem eX4_addPatch_29 : decode (zYb kX4_addPatch) 29 = .ok (.putfield 18, 3) := by decide +kernel
theorem eX4_addPatch_32 : decode (zYb kX4_addPatch) 32 = .ok (.return_, 1) := by decide +kernel
theorem eX4_addLetter_0 : decode (zYb kX4_addLetter) 0 = .ok (.aload_n 0, 1) := by decide +kernel
theorem eX4_addLetter_1 : decode (zYb kX4_addLetter) 1 = .ok (.invokevirtual 25, 3) := by decide +kernel
theorem eX4_addLetter_4 : decode (zYb kX4_addLetter) 4 = .ok (.istore_n 2, 1) := by decide +kernel
theorem eX4_addLetter_5 : decode (zYb kX4_addLetter) 5 = .ok (.aload_n 0, 1) := by decide +kernel
theorem eX4_addLetter_6 : decode (zYb kX4_addLetter) 6 = .ok (.getfield 18, 3) := by decide +kernel
theorem eX4_addLetter_9 : decode (zYb kX4_addLetter) 9 = .ok (.iconst 1, 1) := by decide +kernel
theorem eX4_addLetter_10 : decode (zYb kX4_addLetter) 10 = .ok (.isub, 1) := by decide +kernel
theorem eX4_addLetter_11 : decode (zYb kX4_addLetter) 11 = .ok (.istore_n 3, 1) := by decide +kernel
theorem eX4_addLetter_12 : decode (zYb kX4_addLetter) 12 = .ok (.iload_n 3, 1) := by decide +kernel
theorem eX4_addLetter_13 : decode (zYb kX4_addLetter) 13 = .ok (.ifCond .lt 31, 3) := by decide +kernel
theorem eX4_addLetter_16 : decode (zYb kX4_addLetter) 16 = .ok (.iload_n 3, 1) := by decide +kernel
theorem eX4_addLetter_17 : decode (zYb kX4_addLetter) 17 = .ok (.bipush 6, 2) := by decide +kernel
theorem eX4_addLetter_19 : decode (zYb kX4_addLetter) 19 = .ok (.if_icmp .ge 25, 3) := by decide +kernel
theorem eX4_addLetter_22 : decode (zYb kX4_addLetter) 22 = .ok (.iload_n 2, 1) := by decide +kernel
theorem eX4_addLetter_23 : decode (zYb kX4_addLetter) 23 = .ok (.bipush 60, 2) := by decide +kernel
theorem eX4_addLetter_25 : decode (zYb kX4_addLetter) 25 = .ok (.if_icmp .ge 19, 3) := by decide +kernel
theorem eX4_addLetter_28 : decode (zYb kX4_addLetter) 28 = .ok (.aload_n 0, 1) := by decide +kernel
theorem eX4_addLetter_29 : decode (zYb kX4_addLetter) 29 = .ok (.getfield 9, 3) := by decide +kernel
theorem eX4_addLetter_32 : decode (zYb kX4_addLetter) 32 = .ok (.iload_n 2, 1) := by decide +kernel
theorem eX4_addLetter_33 : decode (zYb kX4_addLetter) 33 = .ok (.iload_n 1, 1) := by decide +kernel
theorem eX4_addLetter_34 : decode (zYb kX4_addLetter) 34 = .ok (.iastore, 1) := by decide +kernel
theorem eX4_addLetter_35 : decode (zYb kX4_addLetter) 35 = .ok (.aload_n 0, 1) := by decide +kernel
theorem eX4_addLetter_36 : decode (zYb kX4_addLetter) 36 = .ok (.getfield 15, 3) := by decide +kernel
theorem eX4_addLetter_39 : decode (zYb kX4_addLetter) 39 = .ok (.iload_n 3, 1) := by decide +kernel
theorem eX4_addLetter_40 : decode (zYb kX4_addLetter) 40 = .ok (.iload_n 2, 1) := by decide +kernel
theorem eX4_addLetter_41 : decode (zYb kX4_addLetter) 41 = .ok (.iconst 1, 1) := by decide +kernel
theorem eX4_addLetter_42 : decode (zYb kX4_addLetter) 42 = .ok (.iadd, 1) := by decide +kernel
theorem eX4_addLetter_43 : decode (zYb kX4_addLetter) 43 = .ok (.iastore, 1) := by decide +kernel
theorem eX4_addLetter_44 : decode (zYb kX4_addLetter) 44 = .ok (.return_, 1) := by decide +kernel
theorem eX4_copyFrom_0 : decode (zYb kX4_copyFrom) 0 = .ok (.aload_n 1, 1) := by decide +kernel
theorem eX4_copyFrom_1 : decode (zYb kX4_copyFrom) 1 = .ok (.getfield 9, 3) := by decide +kernel
theorem eX4_copyFrom_4 : decode (zYb kX4_copyFrom) 4 = .ok (.iconst 0, 1) := by decide +kernel
theorem eX4_copyFrom_5 : decode (zYb kX4_copyFrom) 5 = .ok (.aload_n 0, 1) := by decide +kernel
theorem eX4_copyFrom_6 : decode (zYb kX4_copyFrom) 6 = .ok (.getfield 9, 3) := by decide +kernel
theorem eX4_copyFrom_9 : decode (zYb kX4_copyFrom) 9 = .ok (.iconst 0, 1) := by decide +kernel
theorem eX4_copyFrom_10 : decode (zYb kX4_copyFrom) 10 = .ok (.bipush 60, 2) := by decide +kernel
theorem eX4_copyFrom_12 : decode (zYb kX4_copyFrom) 12 = .ok (.invokestatic 29, 3) := by decide +kernel
theorem eX4_copyFrom_15 : decode (zYb kX4_copyFrom) 15 = .ok (.aload_n 1, 1) := by decide +kernel
theorem eX4_copyFrom_16 : decode (zYb kX4_copyFrom) 16 = .ok (.getfield 15, 3) := by decide +kernel
theorem eX4_copyFrom_19 : decode (zYb kX4_copyFrom) 19 = .ok (.iconst 0, 1) := by decide +kernel
theorem eX4_copyFrom_20 : decode (zYb kX4_copyFrom) 20 = .ok (.aload_n 0, 1) := by decide +kernel
theorem eX4_copyFrom_21 : decode (zYb kX4_copyFrom) 21 = .ok (.getfield 15, 3) := by decide +kernel
theorem eX4_copyFrom_24 : decode (zYb kX4_copyFrom) 24 = .ok (.iconst 0, 1) := by decide +kernel
theorem eX4_copyFrom_25 : decode (zYb kX4_copyFrom) 25 = .ok (.bipush 6, 2) := by decide +kernel
theorem eX4_copyFrom_27 : decode (zYb kX4_copyFrom) 27 = .ok (.invokestatic 29, 3) := by decide +kernel
theorem eX4_copyFrom_30 : decode (zYb kX4_copyFrom) 30 = .ok (.aload_n 0, 1) := by decide +kernel
theorem eX4_copyFrom_31 : decode (zYb kX4_copyFrom) 31 = .ok (.aload_n 1, 1) := by decide +kernel
theorem eX4_copyFrom_32 : decode (zYb kX4_copyFrom) 32 = .ok (.getfield 18, 3) := by decide +kernel
theorem eX4_copyFrom_35 : decode (zYb kX4_copyFrom) 35 = .ok (.putfield 18, 3) := by decide +kernel
theorem eX4_copyFrom_38 : decode (zYb kX4_copyFrom) 38 = .ok (.return_, 1) := by decide +kernel
theorem eX4_hasPatch_0 : decode (zYb kX4_hasPatch) 0 = .ok (.iload_n 1, 1) := by decide +kernel
theorem eX4_hasPatch_1 : decode (zYb kX4_hasPatch) 1 = .ok (.ifCond .lt 15, 3) := by decide +kernel
theorem eX4_hasPatch_4 : decode (zYb kX4_hasPatch) 4 = .ok (.iload_n 1, 1) := by decide +kernel
theorem eX4_hasPatch_5 : decode (zYb kX4_hasPatch) 5 = .ok (.aload_n 0, 1) := by decide +kernel
theorem eX4_hasPatch_6 : decode (zYb kX4_hasPatch) 6 = .ok (.getfield 18, 3) := by decide +kernel
theorem eX4_hasPatch_9 : decode (zYb kX4_hasPatch) 9 = .ok (.if_icmp .ge 7, 3) := by decide +kernel
theorem eX4_hasPatch_12 : decode (zYb kX4_hasPatch) 12 = .ok (.iconst 1, 1) := by decide +kernel
theorem eX4_hasPatch_13 : decode (zYb kX4_hasPatch) 13 = .ok (.goto 4, 3) := by decide +kernel
theorem eX4_hasPatch_16 : decode (zYb kX4_hasPatch) 16 = .ok (.iconst 0, 1) := by decide +kernel
theorem eX4_hasPatch_17 : decode (zYb kX4_hasPatch) 17 = .ok (.ireturn, 1) := by decide +kernel
theorem eX4_hasSeam_0 : decode (zYb kX4_hasSeam) 0 = .ok (.iload_n 1, 1) := by decide +kernel
theorem eX4_hasSeam_1 : decode (zYb kX4_hasSeam) 1 = .ok (.ifCond .lt 17, 3) := by decide +kernel
theorem eX4_hasSeam_4 : decode (zYb kX4_hasSeam) 4 = .ok (.iload_n 1, 1) := by decide +kernel
theorem eX4_hasSeam_5 : decode (zYb kX4_hasSeam) 5 = .ok (.aload_n 0, 1) := by decide +kernel
theorem eX4_hasSeam_6 : decode (zYb kX4_hasSeam) 6 = .ok (.getfield 18, 3) := by decide +kernel
theorem eX4_hasSeam_9 : decode (zYb kX4_hasSeam) 9 = .ok (.iconst 1, 1) := by decide +kernel
theorem eX4_hasSeam_10 : decode (zYb kX4_hasSeam) 10 = .ok (.isub, 1) := by decide +kernel
theorem eX4_hasSeam_11 : decode (zYb kX4_hasSeam) 11 = .ok (.if_icmp .ge 7, 3) := by decide +kernel
theorem eX4_hasSeam_14 : decode (zYb kX4_hasSeam) 14 = .ok (.iconst 1, 1) := by decide +kernel
theorem eX4_hasSeam_15 : decode (zYb kX4_hasSeam) 15 = .ok (.goto 4, 3) := by decide +kernel
theorem eX4_hasSeam_18 : decode (zYb kX4_hasSeam) 18 = .ok (.iconst 0, 1) := by decide +kernel
theorem eX4_hasSeam_19 : decode (zYb kX4_hasSeam) 19 = .ok (.ireturn, 1) := by decide +kernel
theorem eX4_canBeCut_0 : decode (zYb kX4_canBeCut) 0 = .ok (.iload_n 2, 1) := by decide +kernel
theorem eX4_canBeCut_1 : decode (zYb kX4_canBeCut) 1 = .ok (.iconst 1, 1) := by decide +kernel
theorem eX4_canBeCut_2 : decode (zYb kX4_canBeCut) 2 = .ok (.if_icmp .lt 16, 3) := by decide +kernel
theorem eX4_canBeCut_5 : decode (zYb kX4_canBeCut) 5 = .ok (.iload_n 2, 1) := by decide +kernel
theorem eX4_canBeCut_6 : decode (zYb kX4_canBeCut) 6 = .ok (.aload_n 0, 1) := by decide +kernel
theorem eX4_canBeCut_7 : decode (zYb kX4_canBeCut) 7 = .ok (.iload_n 1, 1) := by decide +kernel
theorem eX4_canBeCut_8 : decode (zYb kX4_canBeCut) 8 = .ok (.invokevirtual 35, 3) := by decide +kernel
theorem eX4_canBeCut_11 : decode (zYb kX4_canBeCut) 11 = .ok (.if_icmp .ge 7, 3) := by decide +kernel
theorem eX4_canBeCut_14 : decode (zYb kX4_canBeCut) 14 = .ok (.iconst 1, 1) := by decide +kernel
theorem eX4_canBeCut_15 : decode (zYb kX4_canBeCut) 15 = .ok (.goto 4, 3) := by decide +kernel
theorem eX4_canBeCut_18 : decode (zYb kX4_canBeCut) 18 = .ok (.iconst 0, 1) := by decide +kernel
theorem eX4_canBeCut_19 : decode (zYb kX4_canBeCut) 19 = .ok (.ireturn, 1) := by decide +kernel
theorem eX4_endOf_0 : decode (zYb kX4_endOf) 0 = .ok (.iload_n 1, 1) := by decide +kernel
theorem eX4_endOf_1 : decode (zYb kX4_endOf) 1 = .ok (.ifCond .lt 18, 3) := by decide +kernel
theorem eX4_endOf_4 : decode (zYb kX4_endOf) 4 = .ok (.iload_n 1, 1) := by decide +kernel
theorem eX4_endOf_5 : decode (zYb kX4_endOf) 5 = .ok (.bipush 6, 2) := by decide +kernel
theorem eX4_endOf_7 : decode (zYb kX4_endOf) 7 = .ok (.if_icmp .ge 12, 3) := by decide +kernel
theorem eX4_endOf_10 : decode (zYb kX4_endOf) 10 = .ok (.aload_n 0, 1) := by decide +kernel
theorem eX4_endOf_11 : decode (zYb kX4_endOf) 11 = .ok (.getfield 15, 3) := by decide +kernel
theorem eX4_endOf_14 : decode (zYb kX4_endOf) 14 = .ok (.iload_n 1, 1) := by decide +kernel
theorem eX4_endOf_15 : decode (zYb kX4_endOf) 15 = .ok (.iaload, 1) := by decide +kernel
theorem eX4_endOf_16 : decode (zYb kX4_endOf) 16 = .ok (.goto 4, 3) := by decide +kernel
theorem eX4_endOf_19 : decode (zYb kX4_endOf) 19 = .ok (.iconst 0, 1) := by decide +kernel
theorem eX4_endOf_20 : decode (zYb kX4_endOf) 20 = .ok (.ireturn, 1) := by decide +kernel
theorem eX4_startOf_0 : decode (zYb kX4_startOf) 0 = .ok (.iload_n 1, 1) := by decide +kernel
theorem eX4_startOf_1 : decode (zYb kX4_startOf) 1 = .ok (.iconst 1, 1) := by decide +kernel
theorem eX4_startOf_2 : decode (zYb kX4_startOf) 2 = .ok (.if_icmp .lt 20, 3) := by decide +kernel
theorem eX4_startOf_5 : decode (zYb kX4_startOf) 5 = .ok (.iload_n 1, 1) := by decide +kernel
theorem eX4_startOf_6 : decode (zYb kX4_startOf) 6 = .ok (.bipush 6, 2) := by decide +kernel
theorem eX4_startOf_8 : decode (zYb kX4_startOf) 8 = .ok (.if_icmp .gt 14, 3) := by decide +kernel
theorem eX4_startOf_11 : decode (zYb kX4_startOf) 11 = .ok (.aload_n 0, 1) := by decide +kernel
theorem eX4_startOf_12 : decode (zYb kX4_startOf) 12 = .ok (.getfield 15, 3) := by decide +kernel
theorem eX4_startOf_15 : decode (zYb kX4_startOf) 15 = .ok (.iload_n 1, 1) := by decide +kernel
theorem eX4_startOf_16 : decode (zYb kX4_startOf) 16 = .ok (.iconst 1, 1) := by decide +kernel
theorem eX4_startOf_17 : decode (zYb kX4_startOf) 17 = .ok (.isub, 1) := by decide +kernel
theorem eX4_startOf_18 : decode (zYb kX4_startOf) 18 = .ok (.iaload, 1) := by decide +kernel
theorem eX4_startOf_19 : decode (zYb kX4_startOf) 19 = .ok (.goto 4, 3) := by decide +kernel
theorem eX4_startOf_22 : decode (zYb kX4_startOf) 22 = .ok (.iconst 0, 1) := by decide +kernel
theorem eX4_startOf_23 : decode (zYb kX4_startOf) 23 = .ok (.ireturn, 1) := by decide +kernel
theorem eX4_sizeOf_0 : decode (zYb kX4_sizeOf) 0 = .ok (.aload_n 0, 1) := by decide +kernel
theorem eX4_sizeOf_1 : decode (zYb kX4_sizeOf) 1 = .ok (.iload_n 1, 1) := by decide +kernel
theorem eX4_sizeOf_2 : decode (zYb kX4_sizeOf) 2 = .ok (.invokevirtual 39, 3) := by decide +kernel
theorem eX4_sizeOf_5 : decode (zYb kX4_sizeOf) 5 = .ok (.aload_n 0, 1) := by decide +kernel
theorem eX4_sizeOf_6 : decode (zYb kX4_sizeOf) 6 = .ok (.iload_n 1, 1) := by decide +kernel
theorem eX4_sizeOf_7 : decode (zYb kX4_sizeOf) 7 = .ok (.invokevirtual 42, 3) := by decide +kernel
theorem eX4_sizeOf_10 : decode (zYb kX4_sizeOf) 10 = .ok (.isub, 1) := by decide +kernel
theorem eX4_sizeOf_11 : decode (zYb kX4_sizeOf) 11 = .ok (.ireturn, 1) := by decide +kernel
theorem eX4_length_0 : decode (zYb kX4_length) 0 = .ok (.aload_n 0, 1) := by decide +kernel
theorem eX4_length_1 : decode (zYb kX4_length) 1 = .ok (.aload_n 0, 1) := by decide +kernel
theorem eX4_length_2 : decode (zYb kX4_length) 2 = .ok (.getfield 18, 3) := by decide +kernel
theorem eX4_length_5 : decode (zYb kX4_length) 5 = .ok (.invokevirtual 42, 3) := by decide +kernel
theorem eX4_length_8 : decode (zYb kX4_length) 8 = .ok (.ireturn, 1) := by decide +kernel
theorem eX4_letterAt_0 : decode (zYb kX4_letterAt) 0 = .ok (.iload_n 1, 1) := by decide +kernel
theorem eX4_letterAt_1 : decode (zYb kX4_letterAt) 1 = .ok (.ifCond .lt 18, 3) := by decide +kernel
theorem eX4_letterAt_4 : decode (zYb kX4_letterAt) 4 = .ok (.iload_n 1, 1) := by decide +kernel
theorem eX4_letterAt_5 : decode (zYb kX4_letterAt) 5 = .ok (.bipush 60, 2) := by decide +kernel
theorem eX4_letterAt_7 : decode (zYb kX4_letterAt) 7 = .ok (.if_icmp .ge 12, 3) := by decide +kernel
theorem eX4_letterAt_10 : decode (zYb kX4_letterAt) 10 = .ok (.aload_n 0, 1) := by decide +kernel
theorem eX4_letterAt_11 : decode (zYb kX4_letterAt) 11 = .ok (.getfield 9, 3) := by decide +kernel
theorem eX4_letterAt_14 : decode (zYb kX4_letterAt) 14 = .ok (.iload_n 1, 1) := by decide +kernel
theorem eX4_letterAt_15 : decode (zYb kX4_letterAt) 15 = .ok (.iaload, 1) := by decide +kernel
theorem eX4_letterAt_16 : decode (zYb kX4_letterAt) 16 = .ok (.goto 4, 3) := by decide +kernel
theorem eX4_letterAt_19 : decode (zYb kX4_letterAt) 19 = .ok (.iconst 0, 1) := by decide +kernel
theorem eX4_letterAt_20 : decode (zYb kX4_letterAt) 20 = .ok (.ireturn, 1) := by decide +kernel
theorem eX4_split_0 : decode (zYb kX4_split) 0 = .ok (.aload_n 0, 1) := by decide +kernel
theorem eX4_split_1 : decode (zYb kX4_split) 1 = .ok (.iload_n 1, 1) := by decide +kernel
theorem eX4_split_2 : decode (zYb kX4_split) 2 = .ok (.invokevirtual 45, 3) := by decide +kernel
theorem eX4_split_5 : decode (zYb kX4_split) 5 = .ok (.ifCond .eq 12, 3) := by decide +kernel
theorem eX4_split_8 : decode (zYb kX4_split) 8 = .ok (.aload_n 0, 1) := by decide +kernel
theorem eX4_split_9 : decode (zYb kX4_split) 9 = .ok (.getfield 18, 3) := by decide +kernel
theorem eX4_split_12 : decode (zYb kX4_split) 12 = .ok (.bipush 6, 2) := by decide +kernel
theorem eX4_split_14 : decode (zYb kX4_split) 14 = .ok (.if_icmp .lt 4, 3) := by decide +kernel
theorem eX4_split_17 : decode (zYb kX4_split) 17 = .ok (.return_, 1) := by decide +kernel
theorem eX4_split_18 : decode (zYb kX4_split) 18 = .ok (.aload_n 0, 1) := by decide +kernel
theorem eX4_split_19 : decode (zYb kX4_split) 19 = .ok (.iload_n 1, 1) := by decide +kernel
theorem eX4_split_20 : decode (zYb kX4_split) 20 = .ok (.invokevirtual 42, 3) := by decide +kernel
theorem eX4_split_23 : decode (zYb kX4_split) 23 = .ok (.iload_n 2, 1) := by decide +kernel
theorem eX4_split_24 : decode (zYb kX4_split) 24 = .ok (.iadd, 1) := by decide +kernel
theorem eX4_split_25 : decode (zYb kX4_split) 25 = .ok (.istore_n 3, 1) := by decide +kernel
theorem eX4_split_26 : decode (zYb kX4_split) 26 = .ok (.aload_n 0, 1) := by decide +kernel
theorem eX4_split_27 : decode (zYb kX4_split) 27 = .ok (.getfield 18, 3) := by decide +kernel
theorem eX4_split_30 : decode (zYb kX4_split) 30 = .ok (.istore 4, 2) := by decide +kernel
theorem eX4_split_32 : decode (zYb kX4_split) 32 = .ok (.iload 4, 2) := by decide +kernel
theorem eX4_split_34 : decode (zYb kX4_split) 34 = .ok (.iload_n 1, 1) := by decide +kernel
theorem eX4_split_35 : decode (zYb kX4_split) 35 = .ok (.if_icmp .le 25, 3) := by decide +kernel
theorem eX4_split_38 : decode (zYb kX4_split) 38 = .ok (.aload_n 0, 1) := by decide +kernel
theorem eX4_split_39 : decode (zYb kX4_split) 39 = .ok (.getfield 15, 3) := by decide +kernel
theorem eX4_split_42 : decode (zYb kX4_split) 42 = .ok (.iload 4, 2) := by decide +kernel
theorem eX4_split_44 : decode (zYb kX4_split) 44 = .ok (.aload_n 0, 1) := by decide +kernel
theorem eX4_split_45 : decode (zYb kX4_split) 45 = .ok (.getfield 15, 3) := by decide +kernel
theorem eX4_split_48 : decode (zYb kX4_split) 48 = .ok (.iload 4, 2) := by decide +kernel
theorem eX4_split_50 : decode (zYb kX4_split) 50 = .ok (.iconst 1, 1) := by decide +kernel
theorem eX4_split_51 : decode (zYb kX4_split) 51 = .ok (.isub, 1) := by decide +kernel
theorem eX4_split_52 : decode (zYb kX4_split) 52 = .ok (.iaload, 1) := by decide +kernel
theorem eX4_split_53 : decode (zYb kX4_split) 53 = .ok (.iastore, 1) := by decide +kernel
theorem eX4_split_54 : decode (zYb kX4_split) 54 = .ok (.iinc 4 (-1), 3) := by decide +kernel
theorem eX4_split_57 : decode (zYb kX4_split) 57 = .ok (.goto (-25), 3) := by decide +kernel
theorem eX4_split_60 : decode (zYb kX4_split) 60 = .ok (.aload_n 0, 1) := by decide +kernel
theorem eX4_split_61 : decode (zYb kX4_split) 61 = .ok (.getfield 15, 3) := by decide +kernel
theorem eX4_split_64 : decode (zYb kX4_split) 64 = .ok (.iload_n 1, 1) := by decide +kernel
theorem eX4_split_65 : decode (zYb kX4_split) 65 = .ok (.iload_n 3, 1) := by decide +kernel
theorem eX4_split_66 : decode (zYb kX4_split) 66 = .ok (.iastore, 1) := by decide +kernel
theorem eX4_split_67 : decode (zYb kX4_split) 67 = .ok (.aload_n 0, 1) := by decide +kernel
theorem eX4_split_68 : decode (zYb kX4_split) 68 = .ok (.dup, 1) := by decide +kernel
theorem eX4_split_69 : decode (zYb kX4_split) 69 = .ok (.getfield 18, 3) := by decide +kernel
theorem eX4_split_72 : decode (zYb kX4_split) 72 = .ok (.iconst 1, 1) := by decide +kernel
theorem eX4_split_73 : decode (zYb kX4_split) 73 = .ok (.iadd, 1) := by decide +kernel
theorem eX4_split_74 : decode (zYb kX4_split) 74 = .ok (.putfield 18, 3) := by decide +kernel
theorem eX4_split_77 : decode (zYb kX4_split) 77 = .ok (.return_, 1) := by decide +kernel
theorem eX4_merge_0 : decode (zYb kX4_merge) 0 = .ok (.aload_n 0, 1) := by decide +kernel
theorem eX4_merge_1 : decode (zYb kX4_merge) 1 = .ok (.iload_n 1, 1) := by decide +kernel
theorem eX4_merge_2 : decode (zYb kX4_merge) 2 = .ok (.invokevirtual 49, 3) := by decide +kernel
theorem eX4_merge_5 : decode (zYb kX4_merge) 5 = .ok (.ifCond .eq 12, 3) := by decide +kernel
theorem eX4_merge_8 : decode (zYb kX4_merge) 8 = .ok (.aload_n 0, 1) := by decide +kernel
theorem eX4_merge_9 : decode (zYb kX4_merge) 9 = .ok (.getfield 18, 3) := by decide +kernel
theorem eX4_merge_12 : decode (zYb kX4_merge) 12 = .ok (.bipush 6, 2) := by decide +kernel
theorem eX4_merge_14 : decode (zYb kX4_merge) 14 = .ok (.if_icmp .le 4, 3) := by decide +kernel
theorem eX4_merge_17 : decode (zYb kX4_merge) 17 = .ok (.return_, 1) := by decide +kernel
theorem eX4_merge_18 : decode (zYb kX4_merge) 18 = .ok (.iload_n 1, 1) := by decide +kernel
theorem eX4_merge_19 : decode (zYb kX4_merge) 19 = .ok (.istore_n 2, 1) := by decide +kernel
theorem eX4_merge_20 : decode (zYb kX4_merge) 20 = .ok (.iload_n 2, 1) := by decide +kernel
theorem eX4_merge_21 : decode (zYb kX4_merge) 21 = .ok (.iconst 1, 1) := by decide +kernel
theorem eX4_merge_22 : decode (zYb kX4_merge) 22 = .ok (.iadd, 1) := by decide +kernel
theorem eX4_merge_23 : decode (zYb kX4_merge) 23 = .ok (.aload_n 0, 1) := by decide +kernel
theorem eX4_merge_24 : decode (zYb kX4_merge) 24 = .ok (.getfield 18, 3) := by decide +kernel
theorem eX4_merge_27 : decode (zYb kX4_merge) 27 = .ok (.if_icmp .ge 23, 3) := by decide +kernel
theorem eX4_merge_30 : decode (zYb kX4_merge) 30 = .ok (.aload_n 0, 1) := by decide +kernel
theorem eX4_merge_31 : decode (zYb kX4_merge) 31 = .ok (.getfield 15, 3) := by decide +kernel
theorem eX4_merge_34 : decode (zYb kX4_merge) 34 = .ok (.iload_n 2, 1) := by decide +kernel
theorem eX4_merge_35 : decode (zYb kX4_merge) 35 = .ok (.aload_n 0, 1) := by decide +kernel
theorem eX4_merge_36 : decode (zYb kX4_merge) 36 = .ok (.getfield 15, 3) := by decide +kernel
theorem eX4_merge_39 : decode (zYb kX4_merge) 39 = .ok (.iload_n 2, 1) := by decide +kernel
theorem eX4_merge_40 : decode (zYb kX4_merge) 40 = .ok (.iconst 1, 1) := by decide +kernel
theorem eX4_merge_41 : decode (zYb kX4_merge) 41 = .ok (.iadd, 1) := by decide +kernel
theorem eX4_merge_42 : decode (zYb kX4_merge) 42 = .ok (.iaload, 1) := by decide +kernel
theorem eX4_merge_43 : decode (zYb kX4_merge) 43 = .ok (.iastore, 1) := by decide +kernel
theorem eX4_merge_44 : decode (zYb kX4_merge) 44 = .ok (.iinc 2 1, 3) := by decide +kernel
theorem eX4_merge_47 : decode (zYb kX4_merge) 47 = .ok (.goto (-27), 3) := by decide +kernel
theorem eX4_merge_50 : decode (zYb kX4_merge) 50 = .ok (.aload_n 0, 1) := by decide +kernel
theorem eX4_merge_51 : decode (zYb kX4_merge) 51 = .ok (.dup, 1) := by decide +kernel
theorem eX4_merge_52 : decode (zYb kX4_merge) 52 = .ok (.getfield 18, 3) := by decide +kernel
theorem eX4_merge_55 : decode (zYb kX4_merge) 55 = .ok (.iconst 1, 1) := by decide +kernel
theorem eX4_merge_56 : decode (zYb kX4_merge) 56 = .ok (.isub, 1) := by decide +kernel
theorem eX4_merge_57 : decode (zYb kX4_merge) 57 = .ok (.putfield 18, 3) := by decide +kernel
theorem eX4_merge_60 : decode (zYb kX4_merge) 60 = .ok (.return_, 1) := by decide +kernel
theorem eX4_unlikeTurned_0 : decode (zYb kX4_unlikeTurned) 0 = .ok (.aload_n 0, 1) := by decide +kernel
theorem eX4_unlikeTurned_1 : decode (zYb kX4_unlikeTurned) 1 = .ok (.iload_n 1, 1) := by decide +kernel
theorem eX4_unlikeTurned_2 : decode (zYb kX4_unlikeTurned) 2 = .ok (.invokevirtual 42, 3) := by decide +kernel
theorem eX4_unlikeTurned_5 : decode (zYb kX4_unlikeTurned) 5 = .ok (.istore_n 2, 1) := by decide +kernel
theorem eX4_unlikeTurned_6 : decode (zYb kX4_unlikeTurned) 6 = .ok (.aload_n 0, 1) := by decide +kernel
theorem eX4_unlikeTurned_7 : decode (zYb kX4_unlikeTurned) 7 = .ok (.iload_n 1, 1) := by decide +kernel
theorem eX4_unlikeTurned_8 : decode (zYb kX4_unlikeTurned) 8 = .ok (.invokevirtual 39, 3) := by decide +kernel
theorem eX4_unlikeTurned_11 : decode (zYb kX4_unlikeTurned) 11 = .ok (.istore_n 3, 1) := by decide +kernel
theorem eX4_unlikeTurned_12 : decode (zYb kX4_unlikeTurned) 12 = .ok (.iconst 0, 1) := by decide +kernel
theorem eX4_unlikeTurned_13 : decode (zYb kX4_unlikeTurned) 13 = .ok (.istore 4, 2) := by decide +kernel
theorem eX4_unlikeTurned_15 : decode (zYb kX4_unlikeTurned) 15 = .ok (.iconst 0, 1) := by decide +kernel
theorem eX4_unlikeTurned_16 : decode (zYb kX4_unlikeTurned) 16 = .ok (.istore 5, 2) := by decide +kernel
theorem eX4_unlikeTurned_18 : decode (zYb kX4_unlikeTurned) 18 = .ok (.iload 5, 2) := by decide +kernel
theorem eX4_unlikeTurned_20 : decode (zYb kX4_unlikeTurned) 20 = .ok (.iload_n 3, 1) := by decide +kernel
theorem eX4_unlikeTurned_21 : decode (zYb kX4_unlikeTurned) 21 = .ok (.iload_n 2, 1) := by decide +kernel
theorem eX4_unlikeTurned_22 : decode (zYb kX4_unlikeTurned) 22 = .ok (.isub, 1) := by decide +kernel
theorem eX4_unlikeTurned_23 : decode (zYb kX4_unlikeTurned) 23 = .ok (.if_icmp .ge 33, 3) := by decide +kernel
theorem eX4_unlikeTurned_26 : decode (zYb kX4_unlikeTurned) 26 = .ok (.aload_n 0, 1) := by decide +kernel
theorem eX4_unlikeTurned_27 : decode (zYb kX4_unlikeTurned) 27 = .ok (.iload_n 2, 1) := by decide +kernel
theorem eX4_unlikeTurned_28 : decode (zYb kX4_unlikeTurned) 28 = .ok (.iload 5, 2) := by decide +kernel
theorem eX4_unlikeTurned_30 : decode (zYb kX4_unlikeTurned) 30 = .ok (.iadd, 1) := by decide +kernel
theorem eX4_unlikeTurned_31 : decode (zYb kX4_unlikeTurned) 31 = .ok (.invokevirtual 52, 3) := by decide +kernel
theorem eX4_unlikeTurned_34 : decode (zYb kX4_unlikeTurned) 34 = .ok (.aload_n 0, 1) := by decide +kernel
theorem eX4_unlikeTurned_35 : decode (zYb kX4_unlikeTurned) 35 = .ok (.iload_n 3, 1) := by decide +kernel
theorem eX4_unlikeTurned_36 : decode (zYb kX4_unlikeTurned) 36 = .ok (.iconst 1, 1) := by decide +kernel
theorem eX4_unlikeTurned_37 : decode (zYb kX4_unlikeTurned) 37 = .ok (.isub, 1) := by decide +kernel
theorem eX4_unlikeTurned_38 : decode (zYb kX4_unlikeTurned) 38 = .ok (.iload 5, 2) := by decide +kernel
theorem eX4_unlikeTurned_40 : decode (zYb kX4_unlikeTurned) 40 = .ok (.isub, 1) := by decide +kernel
theorem eX4_unlikeTurned_41 : decode (zYb kX4_unlikeTurned) 41 = .ok (.invokevirtual 52, 3) := by decide +kernel
theorem eX4_unlikeTurned_44 : decode (zYb kX4_unlikeTurned) 44 = .ok (.if_icmp .eq 6, 3) := by decide +kernel
theorem eX4_unlikeTurned_47 : decode (zYb kX4_unlikeTurned) 47 = .ok (.iinc 4 1, 3) := by decide +kernel
theorem eX4_unlikeTurned_50 : decode (zYb kX4_unlikeTurned) 50 = .ok (.iinc 5 1, 3) := by decide +kernel
theorem eX4_unlikeTurned_53 : decode (zYb kX4_unlikeTurned) 53 = .ok (.goto (-35), 3) := by decide +kernel
theorem eX4_unlikeTurned_56 : decode (zYb kX4_unlikeTurned) 56 = .ok (.iload 4, 2) := by decide +kernel
theorem eX4_unlikeTurned_58 : decode (zYb kX4_unlikeTurned) 58 = .ok (.ireturn, 1) := by decide +kernel
theorem eX4_turnRound_0 : decode (zYb kX4_turnRound) 0 = .ok (.aload_n 0, 1) := by decide +kernel
theorem eX4_turnRound_1 : decode (zYb kX4_turnRound) 1 = .ok (.getfield 9, 3) := by decide +kernel
theorem eX4_turnRound_4 : decode (zYb kX4_turnRound) 4 = .ok (.aload_n 0, 1) := by decide +kernel
theorem eX4_turnRound_5 : decode (zYb kX4_turnRound) 5 = .ok (.iload_n 1, 1) := by decide +kernel
theorem eX4_turnRound_6 : decode (zYb kX4_turnRound) 6 = .ok (.invokevirtual 42, 3) := by decide +kernel
theorem eX4_turnRound_9 : decode (zYb kX4_turnRound) 9 = .ok (.aload_n 0, 1) := by decide +kernel
theorem eX4_turnRound_10 : decode (zYb kX4_turnRound) 10 = .ok (.iload_n 1, 1) := by decide +kernel
theorem eX4_turnRound_11 : decode (zYb kX4_turnRound) 11 = .ok (.invokevirtual 39, 3) := by decide +kernel
theorem eX4_turnRound_14 : decode (zYb kX4_turnRound) 14 = .ok (.invokestatic 55, 3) := by decide +kernel
theorem eX4_turnRound_17 : decode (zYb kX4_turnRound) 17 = .ok (.return_, 1) := by decide +kernel
theorem eX4_swapBeside_0 : decode (zYb kX4_swapBeside) 0 = .ok (.aload_n 0, 1) := by decide +kernel
theorem eX4_swapBeside_1 : decode (zYb kX4_swapBeside) 1 = .ok (.iload_n 1, 1) := by decide +kernel
theorem eX4_swapBeside_2 : decode (zYb kX4_swapBeside) 2 = .ok (.invokevirtual 49, 3) := by decide +kernel
theorem eX4_swapBeside_5 : decode (zYb kX4_swapBeside) 5 = .ok (.ifCond .eq 9, 3) := by decide +kernel
theorem eX4_swapBeside_8 : decode (zYb kX4_swapBeside) 8 = .ok (.iload_n 1, 1) := by decide +kernel
theorem eX4_swapBeside_9 : decode (zYb kX4_swapBeside) 9 = .ok (.bipush 6, 2) := by decide +kernel
theorem eX4_swapBeside_11 : decode (zYb kX4_swapBeside) 11 = .ok (.if_icmp .lt 4, 3) := by decide +kernel
theorem eX4_swapBeside_14 : decode (zYb kX4_swapBeside) 14 = .ok (.return_, 1) := by decide +kernel
theorem eX4_swapBeside_15 : decode (zYb kX4_swapBeside) 15 = .ok (.aload_n 0, 1) := by decide +kernel
theorem eX4_swapBeside_16 : decode (zYb kX4_swapBeside) 16 = .ok (.iload_n 1, 1) := by decide +kernel
theorem eX4_swapBeside_17 : decode (zYb kX4_swapBeside) 17 = .ok (.invokevirtual 42, 3) := by decide +kernel
theorem eX4_swapBeside_20 : decode (zYb kX4_swapBeside) 20 = .ok (.istore_n 2, 1) := by decide +kernel
theorem eX4_swapBeside_21 : decode (zYb kX4_swapBeside) 21 = .ok (.aload_n 0, 1) := by decide +kernel
theorem eX4_swapBeside_22 : decode (zYb kX4_swapBeside) 22 = .ok (.iload_n 1, 1) := by decide +kernel
theorem eX4_swapBeside_23 : decode (zYb kX4_swapBeside) 23 = .ok (.iconst 1, 1) := by decide +kernel
theorem eX4_swapBeside_24 : decode (zYb kX4_swapBeside) 24 = .ok (.iadd, 1) := by decide +kernel
theorem eX4_swapBeside_25 : decode (zYb kX4_swapBeside) 25 = .ok (.invokevirtual 39, 3) := by decide +kernel
theorem eX4_swapBeside_28 : decode (zYb kX4_swapBeside) 28 = .ok (.istore_n 3, 1) := by decide +kernel
theorem eX4_swapBeside_29 : decode (zYb kX4_swapBeside) 29 = .ok (.iload_n 2, 1) := by decide +kernel
theorem eX4_swapBeside_30 : decode (zYb kX4_swapBeside) 30 = .ok (.aload_n 0, 1) := by decide +kernel
theorem eX4_swapBeside_31 : decode (zYb kX4_swapBeside) 31 = .ok (.iload_n 1, 1) := by decide +kernel
theorem eX4_swapBeside_32 : decode (zYb kX4_swapBeside) 32 = .ok (.iconst 1, 1) := by decide +kernel
theorem eX4_swapBeside_33 : decode (zYb kX4_swapBeside) 33 = .ok (.iadd, 1) := by decide +kernel
theorem eX4_swapBeside_34 : decode (zYb kX4_swapBeside) 34 = .ok (.invokevirtual 35, 3) := by decide +kernel
theorem eX4_swapBeside_37 : decode (zYb kX4_swapBeside) 37 = .ok (.iadd, 1) := by decide +kernel
theorem eX4_swapBeside_38 : decode (zYb kX4_swapBeside) 38 = .ok (.istore 4, 2) := by decide +kernel
theorem eX4_swapBeside_40 : decode (zYb kX4_swapBeside) 40 = .ok (.aload_n 0, 1) := by decide +kernel
theorem eX4_swapBeside_41 : decode (zYb kX4_swapBeside) 41 = .ok (.getfield 9, 3) := by decide +kernel
theorem eX4_swapBeside_44 : decode (zYb kX4_swapBeside) 44 = .ok (.iload_n 2, 1) := by decide +kernel
theorem eX4_swapBeside_45 : decode (zYb kX4_swapBeside) 45 = .ok (.iload_n 3, 1) := by decide +kernel
theorem eX4_swapBeside_46 : decode (zYb kX4_swapBeside) 46 = .ok (.invokestatic 55, 3) := by decide +kernel
theorem eX4_swapBeside_49 : decode (zYb kX4_swapBeside) 49 = .ok (.aload_n 0, 1) := by decide +kernel
theorem eX4_swapBeside_50 : decode (zYb kX4_swapBeside) 50 = .ok (.getfield 9, 3) := by decide +kernel
theorem eX4_swapBeside_53 : decode (zYb kX4_swapBeside) 53 = .ok (.iload_n 2, 1) := by decide +kernel
theorem eX4_swapBeside_54 : decode (zYb kX4_swapBeside) 54 = .ok (.iload 4, 2) := by decide +kernel
theorem eX4_swapBeside_56 : decode (zYb kX4_swapBeside) 56 = .ok (.invokestatic 55, 3) := by decide +kernel
theorem eX4_swapBeside_59 : decode (zYb kX4_swapBeside) 59 = .ok (.aload_n 0, 1) := by decide +kernel
theorem eX4_swapBeside_60 : decode (zYb kX4_swapBeside) 60 = .ok (.getfield 9, 3) := by decide +kernel
theorem eX4_swapBeside_63 : decode (zYb kX4_swapBeside) 63 = .ok (.iload 4, 2) := by decide +kernel
theorem eX4_swapBeside_65 : decode (zYb kX4_swapBeside) 65 = .ok (.iload_n 3, 1) := by decide +kernel
theorem eX4_swapBeside_66 : decode (zYb kX4_swapBeside) 66 = .ok (.invokestatic 55, 3) := by decide +kernel
theorem eX4_swapBeside_69 : decode (zYb kX4_swapBeside) 69 = .ok (.aload_n 0, 1) := by decide +kernel
theorem eX4_swapBeside_70 : decode (zYb kX4_swapBeside) 70 = .ok (.getfield 15, 3) := by decide +kernel
theorem eX4_swapBeside_73 : decode (zYb kX4_swapBeside) 73 = .ok (.iload_n 1, 1) := by decide +kernel
theorem eX4_swapBeside_74 : decode (zYb kX4_swapBeside) 74 = .ok (.iload 4, 2) := by decide +kernel
theorem eX4_swapBeside_76 : decode (zYb kX4_swapBeside) 76 = .ok (.iastore, 1) := by decide +kernel
theorem eX4_swapBeside_77 : decode (zYb kX4_swapBeside) 77 = .ok (.return_, 1) := by decide +kernel
theorem eX4_sewOn_0 : decode (zYb kX4_sewOn) 0 = .ok (.iconst 0, 1) := by decide +kernel
theorem eX4_sewOn_1 : decode (zYb kX4_sewOn) 1 = .ok (.istore_n 2, 1) := by decide +kernel
theorem eX4_sewOn_2 : decode (zYb kX4_sewOn) 2 = .ok (.iload_n 2, 1) := by decide +kernel
theorem eX4_sewOn_3 : decode (zYb kX4_sewOn) 3 = .ok (.aload_n 1, 1) := by decide +kernel
theorem eX4_sewOn_4 : decode (zYb kX4_sewOn) 4 = .ok (.getfield 18, 3) := by decide +kernel
theorem eX4_sewOn_7 : decode (zYb kX4_sewOn) 7 = .ok (.if_icmp .ge 43, 3) := by decide +kernel
theorem eX4_sewOn_10 : decode (zYb kX4_sewOn) 10 = .ok (.aload_n 0, 1) := by decide +kernel
theorem eX4_sewOn_11 : decode (zYb kX4_sewOn) 11 = .ok (.invokevirtual 22, 3) := by decide +kernel
theorem eX4_sewOn_14 : decode (zYb kX4_sewOn) 14 = .ok (.aload_n 1, 1) := by decide +kernel
theorem eX4_sewOn_15 : decode (zYb kX4_sewOn) 15 = .ok (.iload_n 2, 1) := by decide +kernel
theorem eX4_sewOn_16 : decode (zYb kX4_sewOn) 16 = .ok (.invokevirtual 42, 3) := by decide +kernel
theorem eX4_sewOn_19 : decode (zYb kX4_sewOn) 19 = .ok (.istore_n 3, 1) := by decide +kernel
theorem eX4_sewOn_20 : decode (zYb kX4_sewOn) 20 = .ok (.iload_n 3, 1) := by decide +kernel
theorem eX4_sewOn_21 : decode (zYb kX4_sewOn) 21 = .ok (.aload_n 1, 1) := by decide +kernel
theorem eX4_sewOn_22 : decode (zYb kX4_sewOn) 22 = .ok (.iload_n 2, 1) := by decide +kernel
theorem eX4_sewOn_23 : decode (zYb kX4_sewOn) 23 = .ok (.invokevirtual 39, 3) := by decide +kernel
theorem eX4_sewOn_26 : decode (zYb kX4_sewOn) 26 = .ok (.if_icmp .ge 18, 3) := by decide +kernel
theorem eX4_sewOn_29 : decode (zYb kX4_sewOn) 29 = .ok (.aload_n 0, 1) := by decide +kernel
theorem eX4_sewOn_30 : decode (zYb kX4_sewOn) 30 = .ok (.aload_n 1, 1) := by decide +kernel
theorem eX4_sewOn_31 : decode (zYb kX4_sewOn) 31 = .ok (.iload_n 3, 1) := by decide +kernel
theorem eX4_sewOn_32 : decode (zYb kX4_sewOn) 32 = .ok (.invokevirtual 52, 3) := by decide +kernel
theorem eX4_sewOn_35 : decode (zYb kX4_sewOn) 35 = .ok (.invokevirtual 59, 3) := by decide +kernel
theorem eX4_sewOn_38 : decode (zYb kX4_sewOn) 38 = .ok (.iinc 3 1, 3) := by decide +kernel
theorem eX4_sewOn_41 : decode (zYb kX4_sewOn) 41 = .ok (.goto (-21), 3) := by decide +kernel
theorem eX4_sewOn_44 : decode (zYb kX4_sewOn) 44 = .ok (.iinc 2 1, 3) := by decide +kernel
theorem eX4_sewOn_47 : decode (zYb kX4_sewOn) 47 = .ok (.goto (-45), 3) := by decide +kernel
theorem eX4_sewOn_50 : decode (zYb kX4_sewOn) 50 = .ok (.return_, 1) := by decide +kernel
theorem eX4_isEven_0 : decode (zYb kX4_isEven) 0 = .ok (.aload_n 0, 1) := by decide +kernel
theorem eX4_isEven_1 : decode (zYb kX4_isEven) 1 = .ok (.getfield 9, 3) := by decide +kernel
theorem eX4_isEven_4 : decode (zYb kX4_isEven) 4 = .ok (.aload_n 0, 1) := by decide +kernel
theorem eX4_isEven_5 : decode (zYb kX4_isEven) 5 = .ok (.iload_n 1, 1) := by decide +kernel
theorem eX4_isEven_6 : decode (zYb kX4_isEven) 6 = .ok (.invokevirtual 42, 3) := by decide +kernel
theorem eX4_isEven_9 : decode (zYb kX4_isEven) 9 = .ok (.aload_n 0, 1) := by decide +kernel
theorem eX4_isEven_10 : decode (zYb kX4_isEven) 10 = .ok (.iload_n 1, 1) := by decide +kernel
theorem eX4_isEven_11 : decode (zYb kX4_isEven) 11 = .ok (.invokevirtual 39, 3) := by decide +kernel
theorem eX4_isEven_14 : decode (zYb kX4_isEven) 14 = .ok (.invokestatic 63, 3) := by decide +kernel
theorem eX4_isEven_17 : decode (zYb kX4_isEven) 17 = .ok (.ifCond .ne 7, 3) := by decide +kernel
theorem eX4_isEven_20 : decode (zYb kX4_isEven) 20 = .ok (.iconst 1, 1) := by decide +kernel
theorem eX4_isEven_21 : decode (zYb kX4_isEven) 21 = .ok (.goto 4, 3) := by decide +kernel
theorem eX4_isEven_24 : decode (zYb kX4_isEven) 24 = .ok (.iconst 0, 1) := by decide +kernel
theorem eX4_isEven_25 : decode (zYb kX4_isEven) 25 = .ok (.ireturn, 1) := by decide +kernel
theorem eX4_evenPatches_0 : decode (zYb kX4_evenPatches) 0 = .ok (.iconst 0, 1) := by decide +kernel
theorem eX4_evenPatches_1 : decode (zYb kX4_evenPatches) 1 = .ok (.istore_n 1, 1) := by decide +kernel
theorem eX4_evenPatches_2 : decode (zYb kX4_evenPatches) 2 = .ok (.iconst 0, 1) := by decide +kernel
theorem eX4_evenPatches_3 : decode (zYb kX4_evenPatches) 3 = .ok (.istore_n 2, 1) := by decide +kernel
theorem eX4_evenPatches_4 : decode (zYb kX4_evenPatches) 4 = .ok (.iload_n 2, 1) := by decide +kernel
theorem eX4_evenPatches_5 : decode (zYb kX4_evenPatches) 5 = .ok (.aload_n 0, 1) := by decide +kernel
theorem eX4_evenPatches_6 : decode (zYb kX4_evenPatches) 6 = .ok (.getfield 18, 3) := by decide +kernel
theorem eX4_evenPatches_9 : decode (zYb kX4_evenPatches) 9 = .ok (.if_icmp .ge 20, 3) := by decide +kernel
theorem eX4_evenPatches_12 : decode (zYb kX4_evenPatches) 12 = .ok (.aload_n 0, 1) := by decide +kernel
theorem eX4_evenPatches_13 : decode (zYb kX4_evenPatches) 13 = .ok (.iload_n 2, 1) := by decide +kernel
theorem eX4_evenPatches_14 : decode (zYb kX4_evenPatches) 14 = .ok (.invokevirtual 67, 3) := by decide +kernel
theorem eX4_evenPatches_17 : decode (zYb kX4_evenPatches) 17 = .ok (.ifCond .eq 6, 3) := by decide +kernel
theorem eX4_evenPatches_20 : decode (zYb kX4_evenPatches) 20 = .ok (.iinc 1 1, 3) := by decide +kernel
theorem eX4_evenPatches_23 : decode (zYb kX4_evenPatches) 23 = .ok (.iinc 2 1, 3) := by decide +kernel
theorem eX4_evenPatches_26 : decode (zYb kX4_evenPatches) 26 = .ok (.goto (-22), 3) := by decide +kernel
theorem eX4_evenPatches_29 : decode (zYb kX4_evenPatches) 29 = .ok (.iload_n 1, 1) := by decide +kernel
theorem eX4_evenPatches_30 : decode (zYb kX4_evenPatches) 30 = .ok (.ireturn, 1) := by decide +kernel
theorem eX4_waysFromFirst_0 : decode (zYb kX4_waysFromFirst) 0 = .ok (.iconst 1, 1) := by decide +kernel
theorem eX4_waysFromFirst_1 : decode (zYb kX4_waysFromFirst) 1 = .ok (.istore_n 1, 1) := by decide +kernel
theorem eX4_waysFromFirst_2 : decode (zYb kX4_waysFromFirst) 2 = .ok (.iconst 0, 1) := by decide +kernel
theorem eX4_waysFromFirst_3 : decode (zYb kX4_waysFromFirst) 3 = .ok (.istore_n 2, 1) := by decide +kernel
theorem eX4_waysFromFirst_4 : decode (zYb kX4_waysFromFirst) 4 = .ok (.iload_n 2, 1) := by decide +kernel
theorem eX4_waysFromFirst_5 : decode (zYb kX4_waysFromFirst) 5 = .ok (.aload_n 0, 1) := by decide +kernel
theorem eX4_waysFromFirst_6 : decode (zYb kX4_waysFromFirst) 6 = .ok (.getfield 18, 3) := by decide +kernel
theorem eX4_waysFromFirst_9 : decode (zYb kX4_waysFromFirst) 9 = .ok (.if_icmp .ge 21, 3) := by decide +kernel
theorem eX4_waysFromFirst_12 : decode (zYb kX4_waysFromFirst) 12 = .ok (.aload_n 0, 1) := by decide +kernel
theorem eX4_waysFromFirst_13 : decode (zYb kX4_waysFromFirst) 13 = .ok (.iload_n 2, 1) := by decide +kernel
theorem eX4_waysFromFirst_14 : decode (zYb kX4_waysFromFirst) 14 = .ok (.invokevirtual 67, 3) := by decide +kernel
theorem eX4_waysFromFirst_17 : decode (zYb kX4_waysFromFirst) 17 = .ok (.ifCond .ne 7, 3) := by decide +kernel
theorem eX4_waysFromFirst_20 : decode (zYb kX4_waysFromFirst) 20 = .ok (.iload_n 1, 1) := by decide +kernel
theorem eX4_waysFromFirst_21 : decode (zYb kX4_waysFromFirst) 21 = .ok (.iconst 2, 1) := by decide +kernel
theorem eX4_waysFromFirst_22 : decode (zYb kX4_waysFromFirst) 22 = .ok (.imul, 1) := by decide +kernel
theorem eX4_waysFromFirst_23 : decode (zYb kX4_waysFromFirst) 23 = .ok (.istore_n 1, 1) := by decide +kernel
theorem eX4_waysFromFirst_24 : decode (zYb kX4_waysFromFirst) 24 = .ok (.iinc 2 1, 3) := by decide +kernel
theorem eX4_waysFromFirst_27 : decode (zYb kX4_waysFromFirst) 27 = .ok (.goto (-23), 3) := by decide +kernel
theorem eX4_waysFromFirst_30 : decode (zYb kX4_waysFromFirst) 30 = .ok (.iload_n 1, 1) := by decide +kernel
theorem eX4_waysFromFirst_31 : decode (zYb kX4_waysFromFirst) 31 = .ok (.ireturn, 1) := by decide +kernel
theorem eX4_lay_0 : decode (zYb kX4_lay) 0 = .ok (.iload_n 1, 1) := by decide +kernel
theorem eX4_lay_1 : decode (zYb kX4_lay) 1 = .ok (.ifCond .lt 26, 3) := by decide +kernel
theorem eX4_lay_4 : decode (zYb kX4_lay) 4 = .ok (.iload_n 2, 1) := by decide +kernel
theorem eX4_lay_5 : decode (zYb kX4_lay) 5 = .ok (.bipush 60, 2) := by decide +kernel
theorem eX4_lay_7 : decode (zYb kX4_lay) 7 = .ok (.if_icmp .gt 20, 3) := by decide +kernel
theorem eX4_lay_10 : decode (zYb kX4_lay) 10 = .ok (.iload 5, 2) := by decide +kernel
theorem eX4_lay_12 : decode (zYb kX4_lay) 12 = .ok (.ifCond .lt 15, 3) := by decide +kernel
theorem eX4_lay_15 : decode (zYb kX4_lay) 15 = .ok (.iload 5, 2) := by decide +kernel
theorem eX4_lay_17 : decode (zYb kX4_lay) 17 = .ok (.iload_n 2, 1) := by decide +kernel
theorem eX4_lay_18 : decode (zYb kX4_lay) 18 = .ok (.iadd, 1) := by decide +kernel
theorem eX4_lay_19 : decode (zYb kX4_lay) 19 = .ok (.iload_n 1, 1) := by decide +kernel
theorem eX4_lay_20 : decode (zYb kX4_lay) 20 = .ok (.isub, 1) := by decide +kernel
theorem eX4_lay_21 : decode (zYb kX4_lay) 21 = .ok (.aload 4, 2) := by decide +kernel
theorem eX4_lay_23 : decode (zYb kX4_lay) 23 = .ok (.arraylength, 1) := by decide +kernel
theorem eX4_lay_24 : decode (zYb kX4_lay) 24 = .ok (.if_icmp .le 4, 3) := by decide +kernel
theorem eX4_lay_27 : decode (zYb kX4_lay) 27 = .ok (.return_, 1) := by decide +kernel
theorem eX4_lay_28 : decode (zYb kX4_lay) 28 = .ok (.iconst 0, 1) := by decide +kernel
theorem eX4_lay_29 : decode (zYb kX4_lay) 29 = .ok (.istore 6, 2) := by decide +kernel
theorem eX4_lay_31 : decode (zYb kX4_lay) 31 = .ok (.iload 6, 2) := by decide +kernel
theorem eX4_lay_33 : decode (zYb kX4_lay) 33 = .ok (.iload_n 2, 1) := by decide +kernel
theorem eX4_lay_34 : decode (zYb kX4_lay) 34 = .ok (.iload_n 1, 1) := by decide +kernel
theorem eX4_lay_35 : decode (zYb kX4_lay) 35 = .ok (.isub, 1) := by decide +kernel
theorem eX4_lay_36 : decode (zYb kX4_lay) 36 = .ok (.if_icmp .ge 39, 3) := by decide +kernel
theorem eX4_lay_39 : decode (zYb kX4_lay) 39 = .ok (.aload 4, 2) := by decide +kernel
theorem eX4_lay_41 : decode (zYb kX4_lay) 41 = .ok (.iload 5, 2) := by decide +kernel
theorem eX4_lay_43 : decode (zYb kX4_lay) 43 = .ok (.iload 6, 2) := by decide +kernel
theorem eX4_lay_45 : decode (zYb kX4_lay) 45 = .ok (.iadd, 1) := by decide +kernel
theorem eX4_lay_46 : decode (zYb kX4_lay) 46 = .ok (.aload_n 0, 1) := by decide +kernel
theorem eX4_lay_47 : decode (zYb kX4_lay) 47 = .ok (.getfield 9, 3) := by decide +kernel
theorem eX4_lay_50 : decode (zYb kX4_lay) 50 = .ok (.iload_n 3, 1) := by decide +kernel
theorem eX4_lay_51 : decode (zYb kX4_lay) 51 = .ok (.ifCond .eq 12, 3) := by decide +kernel
theorem eX4_lay_54 : decode (zYb kX4_lay) 54 = .ok (.iload_n 2, 1) := by decide +kernel
theorem eX4_lay_55 : decode (zYb kX4_lay) 55 = .ok (.iconst 1, 1) := by decide +kernel
theorem eX4_lay_56 : decode (zYb kX4_lay) 56 = .ok (.isub, 1) := by decide +kernel
theorem eX4_lay_57 : decode (zYb kX4_lay) 57 = .ok (.iload 6, 2) := by decide +kernel
theorem eX4_lay_59 : decode (zYb kX4_lay) 59 = .ok (.isub, 1) := by decide +kernel
theorem eX4_lay_60 : decode (zYb kX4_lay) 60 = .ok (.goto 7, 3) := by decide +kernel
theorem eX4_lay_63 : decode (zYb kX4_lay) 63 = .ok (.iload_n 1, 1) := by decide +kernel
theorem eX4_lay_64 : decode (zYb kX4_lay) 64 = .ok (.iload 6, 2) := by decide +kernel
theorem eX4_lay_66 : decode (zYb kX4_lay) 66 = .ok (.iadd, 1) := by decide +kernel
theorem eX4_lay_67 : decode (zYb kX4_lay) 67 = .ok (.iaload, 1) := by decide +kernel
theorem eX4_lay_68 : decode (zYb kX4_lay) 68 = .ok (.iastore, 1) := by decide +kernel
theorem eX4_lay_69 : decode (zYb kX4_lay) 69 = .ok (.iinc 6 1, 3) := by decide +kernel
theorem eX4_lay_72 : decode (zYb kX4_lay) 72 = .ok (.goto (-41), 3) := by decide +kernel
theorem eX4_lay_75 : decode (zYb kX4_lay) 75 = .ok (.return_, 1) := by decide +kernel
theorem eX4_tells_0 : decode (zYb kX4_tells) 0 = .ok (.iload_n 2, 1) := by decide +kernel
theorem eX4_tells_1 : decode (zYb kX4_tells) 1 = .ok (.aload_n 0, 1) := by decide +kernel
theorem eX4_tells_2 : decode (zYb kX4_tells) 2 = .ok (.invokevirtual 25, 3) := by decide +kernel
theorem eX4_tells_5 : decode (zYb kX4_tells) 5 = .ok (.if_icmp .ne 27, 3) := by decide +kernel
theorem eX4_tells_8 : decode (zYb kX4_tells) 8 = .ok (.aload_n 0, 1) := by decide +kernel
theorem eX4_tells_9 : decode (zYb kX4_tells) 9 = .ok (.aload_n 1, 1) := by decide +kernel
theorem eX4_tells_10 : decode (zYb kX4_tells) 10 = .ok (.iload_n 2, 1) := by decide +kernel
theorem eX4_tells_11 : decode (zYb kX4_tells) 11 = .ok (.iconst 0, 1) := by decide +kernel
theorem eX4_tells_12 : decode (zYb kX4_tells) 12 = .ok (.invokevirtual 70, 3) := by decide +kernel
theorem eX4_tells_15 : decode (zYb kX4_tells) 15 = .ok (.ifCond .ne 13, 3) := by decide +kernel
theorem eX4_tells_18 : decode (zYb kX4_tells) 18 = .ok (.aload_n 0, 1) := by decide +kernel
theorem eX4_tells_19 : decode (zYb kX4_tells) 19 = .ok (.aload_n 1, 1) := by decide +kernel
theorem eX4_tells_20 : decode (zYb kX4_tells) 20 = .ok (.iload_n 2, 1) := by decide +kernel
theorem eX4_tells_21 : decode (zYb kX4_tells) 21 = .ok (.iconst 1, 1) := by decide +kernel
theorem eX4_tells_22 : decode (zYb kX4_tells) 22 = .ok (.invokevirtual 70, 3) := by decide +kernel
theorem eX4_tells_25 : decode (zYb kX4_tells) 25 = .ok (.ifCond .eq 7, 3) := by decide +kernel
theorem eX4_tells_28 : decode (zYb kX4_tells) 28 = .ok (.iconst 1, 1) := by decide +kernel
theorem eX4_tells_29 : decode (zYb kX4_tells) 29 = .ok (.goto 4, 3) := by decide +kernel
theorem eX4_tells_32 : decode (zYb kX4_tells) 32 = .ok (.iconst 0, 1) := by decide +kernel
theorem eX4_tells_33 : decode (zYb kX4_tells) 33 = .ok (.ireturn, 1) := by decide +kernel
theorem eX4_beginsWith_0 : decode (zYb kX4_beginsWith) 0 = .ok (.iconst 0, 1) := by decide +kernel
theorem eX4_beginsWith_1 : decode (zYb kX4_beginsWith) 1 = .ok (.istore 4, 2) := by decide +kernel
theorem eX4_beginsWith_3 : decode (zYb kX4_beginsWith) 3 = .ok (.iconst 0, 1) := by decide +kernel
theorem eX4_beginsWith_4 : decode (zYb kX4_beginsWith) 4 = .ok (.istore 5, 2) := by decide +kernel
theorem eX4_beginsWith_6 : decode (zYb kX4_beginsWith) 6 = .ok (.iload 5, 2) := by decide +kernel
theorem eX4_beginsWith_8 : decode (zYb kX4_beginsWith) 8 = .ok (.aload_n 0, 1) := by decide +kernel
theorem eX4_beginsWith_9 : decode (zYb kX4_beginsWith) 9 = .ok (.getfield 18, 3) := by decide +kernel
theorem eX4_beginsWith_12 : decode (zYb kX4_beginsWith) 12 = .ok (.if_icmp .ge 95, 3) := by decide +kernel
theorem eX4_beginsWith_15 : decode (zYb kX4_beginsWith) 15 = .ok (.iload 4, 2) := by decide +kernel
theorem eX4_beginsWith_17 : decode (zYb kX4_beginsWith) 17 = .ok (.iload_n 2, 1) := by decide +kernel
theorem eX4_beginsWith_18 : decode (zYb kX4_beginsWith) 18 = .ok (.if_icmp .ge 89, 3) := by decide +kernel
theorem eX4_beginsWith_21 : decode (zYb kX4_beginsWith) 21 = .ok (.iload_n 3, 1) := by decide +kernel
theorem eX4_beginsWith_22 : decode (zYb kX4_beginsWith) 22 = .ok (.ifCond .eq 15, 3) := by decide +kernel
theorem eX4_beginsWith_25 : decode (zYb kX4_beginsWith) 25 = .ok (.aload_n 0, 1) := by decide +kernel
theorem eX4_beginsWith_26 : decode (zYb kX4_beginsWith) 26 = .ok (.getfield 18, 3) := by decide +kernel
theorem eX4_beginsWith_29 : decode (zYb kX4_beginsWith) 29 = .ok (.iconst 1, 1) := by decide +kernel
theorem eX4_beginsWith_30 : decode (zYb kX4_beginsWith) 30 = .ok (.isub, 1) := by decide +kernel
theorem eX4_beginsWith_31 : decode (zYb kX4_beginsWith) 31 = .ok (.iload 5, 2) := by decide +kernel
theorem eX4_beginsWith_33 : decode (zYb kX4_beginsWith) 33 = .ok (.isub, 1) := by decide +kernel
theorem eX4_beginsWith_34 : decode (zYb kX4_beginsWith) 34 = .ok (.goto 5, 3) := by decide +kernel
theorem eX4_beginsWith_37 : decode (zYb kX4_beginsWith) 37 = .ok (.iload 5, 2) := by decide +kernel
theorem eX4_beginsWith_39 : decode (zYb kX4_beginsWith) 39 = .ok (.istore 6, 2) := by decide +kernel
theorem eX4_beginsWith_41 : decode (zYb kX4_beginsWith) 41 = .ok (.aload_n 0, 1) := by decide +kernel
theorem eX4_beginsWith_42 : decode (zYb kX4_beginsWith) 42 = .ok (.iload 6, 2) := by decide +kernel
theorem eX4_beginsWith_44 : decode (zYb kX4_beginsWith) 44 = .ok (.invokevirtual 42, 3) := by decide +kernel
theorem eX4_beginsWith_47 : decode (zYb kX4_beginsWith) 47 = .ok (.istore 7, 2) := by decide +kernel
theorem eX4_beginsWith_49 : decode (zYb kX4_beginsWith) 49 = .ok (.aload_n 0, 1) := by decide +kernel
theorem eX4_beginsWith_50 : decode (zYb kX4_beginsWith) 50 = .ok (.iload 6, 2) := by decide +kernel
theorem eX4_beginsWith_52 : decode (zYb kX4_beginsWith) 52 = .ok (.invokevirtual 39, 3) := by decide +kernel
theorem eX4_beginsWith_55 : decode (zYb kX4_beginsWith) 55 = .ok (.istore 8, 2) := by decide +kernel
theorem eX4_beginsWith_57 : decode (zYb kX4_beginsWith) 57 = .ok (.aload_n 0, 1) := by decide +kernel
theorem eX4_beginsWith_58 : decode (zYb kX4_beginsWith) 58 = .ok (.aload_n 1, 1) := by decide +kernel
theorem eX4_beginsWith_59 : decode (zYb kX4_beginsWith) 59 = .ok (.iload 4, 2) := by decide +kernel
theorem eX4_beginsWith_61 : decode (zYb kX4_beginsWith) 61 = .ok (.iload_n 2, 1) := by decide +kernel
theorem eX4_beginsWith_62 : decode (zYb kX4_beginsWith) 62 = .ok (.iload 7, 2) := by decide +kernel
theorem eX4_beginsWith_64 : decode (zYb kX4_beginsWith) 64 = .ok (.iload 8, 2) := by decide +kernel
theorem eX4_beginsWith_66 : decode (zYb kX4_beginsWith) 66 = .ok (.iconst 0, 1) := by decide +kernel
theorem eX4_beginsWith_67 : decode (zYb kX4_beginsWith) 67 = .ok (.invokevirtual 74, 3) := by decide +kernel
theorem eX4_beginsWith_70 : decode (zYb kX4_beginsWith) 70 = .ok (.ifCond .ne 21, 3) := by decide +kernel
theorem eX4_beginsWith_73 : decode (zYb kX4_beginsWith) 73 = .ok (.aload_n 0, 1) := by decide +kernel
theorem eX4_beginsWith_74 : decode (zYb kX4_beginsWith) 74 = .ok (.aload_n 1, 1) := by decide +kernel
theorem eX4_beginsWith_75 : decode (zYb kX4_beginsWith) 75 = .ok (.iload 4, 2) := by decide +kernel
theorem eX4_beginsWith_77 : decode (zYb kX4_beginsWith) 77 = .ok (.iload_n 2, 1) := by decide +kernel
theorem eX4_beginsWith_78 : decode (zYb kX4_beginsWith) 78 = .ok (.iload 7, 2) := by decide +kernel
theorem eX4_beginsWith_80 : decode (zYb kX4_beginsWith) 80 = .ok (.iload 8, 2) := by decide +kernel
theorem eX4_beginsWith_82 : decode (zYb kX4_beginsWith) 82 = .ok (.iconst 1, 1) := by decide +kernel
theorem eX4_beginsWith_83 : decode (zYb kX4_beginsWith) 83 = .ok (.invokevirtual 74, 3) := by decide +kernel
theorem eX4_beginsWith_86 : decode (zYb kX4_beginsWith) 86 = .ok (.ifCond .ne 5, 3) := by decide +kernel
theorem eX4_beginsWith_89 : decode (zYb kX4_beginsWith) 89 = .ok (.iconst 0, 1) := by decide +kernel
theorem eX4_beginsWith_90 : decode (zYb kX4_beginsWith) 90 = .ok (.ireturn, 1) := by decide +kernel
theorem eX4_beginsWith_91 : decode (zYb kX4_beginsWith) 91 = .ok (.iload 4, 2) := by decide +kernel
theorem eX4_beginsWith_93 : decode (zYb kX4_beginsWith) 93 = .ok (.iload 8, 2) := by decide +kernel
theorem eX4_beginsWith_95 : decode (zYb kX4_beginsWith) 95 = .ok (.iload 7, 2) := by decide +kernel
theorem eX4_beginsWith_97 : decode (zYb kX4_beginsWith) 97 = .ok (.isub, 1) := by decide +kernel
theorem eX4_beginsWith_98 : decode (zYb kX4_beginsWith) 98 = .ok (.iadd, 1) := by decide +kernel
theorem eX4_beginsWith_99 : decode (zYb kX4_beginsWith) 99 = .ok (.istore 4, 2) := by decide +kernel
theorem eX4_beginsWith_101 : decode (zYb kX4_beginsWith) 101 = .ok (.iinc 5 1, 3) := by decide +kernel
theorem eX4_beginsWith_104 : decode (zYb kX4_beginsWith) 104 = .ok (.goto (-98), 3) := by decide +kernel
theorem eX4_beginsWith_107 : decode (zYb kX4_beginsWith) 107 = .ok (.iconst 1, 1) := by decide +kernel
theorem eX4_beginsWith_108 : decode (zYb kX4_beginsWith) 108 = .ok (.ireturn, 1) := by decide +kernel
theorem eX4_standsAt_0 : decode (zYb kX4_standsAt) 0 = .ok (.iload_n 2, 1) := by decide +kernel
theorem eX4_standsAt_1 : decode (zYb kX4_standsAt) 1 = .ok (.ifCond .lt 21, 3) := by decide +kernel
theorem eX4_standsAt_4 : decode (zYb kX4_standsAt) 4 = .ok (.iload_n 3, 1) := by decide +kernel
theorem eX4_standsAt_5 : decode (zYb kX4_standsAt) 5 = .ok (.aload_n 1, 1) := by decide +kernel
theorem eX4_standsAt_6 : decode (zYb kX4_standsAt) 6 = .ok (.arraylength, 1) := by decide +kernel
theorem eX4_standsAt_7 : decode (zYb kX4_standsAt) 7 = .ok (.if_icmp .gt 15, 3) := by decide +kernel
theorem eX4_standsAt_10 : decode (zYb kX4_standsAt) 10 = .ok (.iload 4, 2) := by decide +kernel
theorem eX4_standsAt_12 : decode (zYb kX4_standsAt) 12 = .ok (.ifCond .lt 10, 3) := by decide +kernel
theorem eX4_standsAt_15 : decode (zYb kX4_standsAt) 15 = .ok (.iload 5, 2) := by decide +kernel
theorem eX4_standsAt_17 : decode (zYb kX4_standsAt) 17 = .ok (.bipush 60, 2) := by decide +kernel
theorem eX4_standsAt_19 : decode (zYb kX4_standsAt) 19 = .ok (.if_icmp .le 5, 3) := by decide +kernel
theorem eX4_standsAt_22 : decode (zYb kX4_standsAt) 22 = .ok (.iconst 0, 1) := by decide +kernel
theorem eX4_standsAt_23 : decode (zYb kX4_standsAt) 23 = .ok (.ireturn, 1) := by decide +kernel
theorem eX4_standsAt_24 : decode (zYb kX4_standsAt) 24 = .ok (.iconst 0, 1) := by decide +kernel
theorem eX4_standsAt_25 : decode (zYb kX4_standsAt) 25 = .ok (.istore 7, 2) := by decide +kernel
theorem eX4_standsAt_27 : decode (zYb kX4_standsAt) 27 = .ok (.iload 7, 2) := by decide +kernel
theorem eX4_standsAt_29 : decode (zYb kX4_standsAt) 29 = .ok (.iload 5, 2) := by decide +kernel
theorem eX4_standsAt_31 : decode (zYb kX4_standsAt) 31 = .ok (.iload 4, 2) := by decide +kernel
theorem eX4_standsAt_33 : decode (zYb kX4_standsAt) 33 = .ok (.isub, 1) := by decide +kernel
theorem eX4_standsAt_34 : decode (zYb kX4_standsAt) 34 = .ok (.if_icmp .ge 53, 3) := by decide +kernel
theorem eX4_standsAt_37 : decode (zYb kX4_standsAt) 37 = .ok (.iload_n 2, 1) := by decide +kernel
theorem eX4_standsAt_38 : decode (zYb kX4_standsAt) 38 = .ok (.iload 7, 2) := by decide +kernel
theorem eX4_standsAt_40 : decode (zYb kX4_standsAt) 40 = .ok (.iadd, 1) := by decide +kernel
theorem eX4_standsAt_41 : decode (zYb kX4_standsAt) 41 = .ok (.iload_n 3, 1) := by decide +kernel
theorem eX4_standsAt_42 : decode (zYb kX4_standsAt) 42 = .ok (.if_icmp .ge 45, 3) := by decide +kernel
theorem eX4_standsAt_45 : decode (zYb kX4_standsAt) 45 = .ok (.aload_n 1, 1) := by decide +kernel
theorem eX4_standsAt_46 : decode (zYb kX4_standsAt) 46 = .ok (.iload_n 2, 1) := by decide +kernel
theorem eX4_standsAt_47 : decode (zYb kX4_standsAt) 47 = .ok (.iload 7, 2) := by decide +kernel
theorem eX4_standsAt_49 : decode (zYb kX4_standsAt) 49 = .ok (.iadd, 1) := by decide +kernel
theorem eX4_standsAt_50 : decode (zYb kX4_standsAt) 50 = .ok (.iaload, 1) := by decide +kernel
theorem eX4_standsAt_51 : decode (zYb kX4_standsAt) 51 = .ok (.aload_n 0, 1) := by decide +kernel
theorem eX4_standsAt_52 : decode (zYb kX4_standsAt) 52 = .ok (.getfield 9, 3) := by decide +kernel
theorem eX4_standsAt_55 : decode (zYb kX4_standsAt) 55 = .ok (.iload 6, 2) := by decide +kernel
theorem eX4_standsAt_57 : decode (zYb kX4_standsAt) 57 = .ok (.ifCond .eq 13, 3) := by decide +kernel
theorem eX4_standsAt_60 : decode (zYb kX4_standsAt) 60 = .ok (.iload 5, 2) := by decide +kernel
theorem eX4_standsAt_62 : decode (zYb kX4_standsAt) 62 = .ok (.iconst 1, 1) := by decide +kernel
theorem eX4_standsAt_63 : decode (zYb kX4_standsAt) 63 = .ok (.isub, 1) := by decide +kernel
theorem eX4_standsAt_64 : decode (zYb kX4_standsAt) 64 = .ok (.iload 7, 2) := by decide +kernel
theorem eX4_standsAt_66 : decode (zYb kX4_standsAt) 66 = .ok (.isub, 1) := by decide +kernel
theorem eX4_standsAt_67 : decode (zYb kX4_standsAt) 67 = .ok (.goto 8, 3) := by decide +kernel
theorem eX4_standsAt_70 : decode (zYb kX4_standsAt) 70 = .ok (.iload 4, 2) := by decide +kernel
theorem eX4_standsAt_72 : decode (zYb kX4_standsAt) 72 = .ok (.iload 7, 2) := by decide +kernel
theorem eX4_standsAt_74 : decode (zYb kX4_standsAt) 74 = .ok (.iadd, 1) := by decide +kernel
theorem eX4_standsAt_75 : decode (zYb kX4_standsAt) 75 = .ok (.iaload, 1) := by decide +kernel
theorem eX4_standsAt_76 : decode (zYb kX4_standsAt) 76 = .ok (.if_icmp .eq 5, 3) := by decide +kernel
theorem eX4_standsAt_79 : decode (zYb kX4_standsAt) 79 = .ok (.iconst 0, 1) := by decide +kernel
theorem eX4_standsAt_80 : decode (zYb kX4_standsAt) 80 = .ok (.ireturn, 1) := by decide +kernel
theorem eX4_standsAt_81 : decode (zYb kX4_standsAt) 81 = .ok (.iinc 7 1, 3) := by decide +kernel
theorem eX4_standsAt_84 : decode (zYb kX4_standsAt) 84 = .ok (.goto (-57), 3) := by decide +kernel
theorem eX4_standsAt_87 : decode (zYb kX4_standsAt) 87 = .ok (.iconst 1, 1) := by decide +kernel
theorem eX4_standsAt_88 : decode (zYb kX4_standsAt) 88 = .ok (.ireturn, 1) := by decide +kernel
theorem eX5_init_0 : decode (zYb kX5_init) 0 = .ok (.aload_n 0, 1) := by decide +kernel
theorem eX5_init_1 : decode (zYb kX5_init) 1 = .ok (.invokespecial 3, 3) := by decide +kernel
theorem eX5_init_4 : decode (zYb kX5_init) 4 = .ok (.aload_n 0, 1) := by decide +kernel
theorem eX5_init_5 : decode (zYb kX5_init) 5 = .ok (.iconst 5, 1) := by decide +kernel
theorem eX5_init_6 : decode (zYb kX5_init) 6 = .ok (.anewarray 9, 3) := by decide +kernel
theorem eX5_init_9 : decode (zYb kX5_init) 9 = .ok (.putfield 11, 3) := by decide +kernel
theorem eX5_init_12 : decode (zYb kX5_init) 12 = .ok (.iconst 0, 1) := by decide +kernel
theorem eX5_init_13 : decode (zYb kX5_init) 13 = .ok (.istore_n 1, 1) := by decide +kernel
theorem eX5_init_14 : decode (zYb kX5_init) 14 = .ok (.iload_n 1, 1) := by decide +kernel
theorem eX5_init_15 : decode (zYb kX5_init) 15 = .ok (.iconst 5, 1) := by decide +kernel
theorem eX5_init_16 : decode (zYb kX5_init) 16 = .ok (.if_icmp .ge 22, 3) := by decide +kernel
theorem eX5_init_19 : decode (zYb kX5_init) 19 = .ok (.aload_n 0, 1) := by decide +kernel
theorem eX5_init_20 : decode (zYb kX5_init) 20 = .ok (.getfield 11, 3) := by decide +kernel
theorem eX5_init_23 : decode (zYb kX5_init) 23 = .ok (.iload_n 1, 1) := by decide +kernel
theorem eX5_init_24 : decode (zYb kX5_init) 24 = .ok (.new 9, 3) := by decide +kernel
theorem eX5_init_27 : decode (zYb kX5_init) 27 = .ok (.dup, 1) := by decide +kernel
theorem eX5_init_28 : decode (zYb kX5_init) 28 = .ok (.invokespecial 17, 3) := by decide +kernel
theorem eX5_init_31 : decode (zYb kX5_init) 31 = .ok (.aastore, 1) := by decide +kernel
theorem eX5_init_32 : decode (zYb kX5_init) 32 = .ok (.iinc 1 1, 3) := by decide +kernel
theorem eX5_init_35 : decode (zYb kX5_init) 35 = .ok (.goto (-21), 3) := by decide +kernel
theorem eX5_init_38 : decode (zYb kX5_init) 38 = .ok (.return_, 1) := by decide +kernel
theorem eX5_at_0 : decode (zYb kX5_at) 0 = .ok (.iload_n 1, 1) := by decide +kernel
theorem eX5_at_1 : decode (zYb kX5_at) 1 = .ok (.ifCond .lt 25, 3) := by decide +kernel
theorem eX5_at_4 : decode (zYb kX5_at) 4 = .ok (.iload_n 1, 1) := by decide +kernel
theorem eX5_at_5 : decode (zYb kX5_at) 5 = .ok (.aload_n 0, 1) := by decide +kernel
theorem eX5_at_6 : decode (zYb kX5_at) 6 = .ok (.getfield 18, 3) := by decide +kernel
theorem eX5_at_9 : decode (zYb kX5_at) 9 = .ok (.if_icmp .ge 17, 3) := by decide +kernel
theorem eX5_at_12 : decode (zYb kX5_at) 12 = .ok (.iload_n 1, 1) := by decide +kernel
theorem eX5_at_13 : decode (zYb kX5_at) 13 = .ok (.iconst 5, 1) := by decide +kernel
theorem eX5_at_14 : decode (zYb kX5_at) 14 = .ok (.if_icmp .ge 12, 3) := by decide +kernel
theorem eX5_at_17 : decode (zYb kX5_at) 17 = .ok (.aload_n 0, 1) := by decide +kernel
theorem eX5_at_18 : decode (zYb kX5_at) 18 = .ok (.getfield 11, 3) := by decide +kernel
theorem eX5_at_21 : decode (zYb kX5_at) 21 = .ok (.iload_n 1, 1) := by decide +kernel
theorem eX5_at_22 : decode (zYb kX5_at) 22 = .ok (.aaload, 1) := by decide +kernel
theorem eX5_at_23 : decode (zYb kX5_at) 23 = .ok (.goto 4, 3) := by decide +kernel
theorem eX5_at_26 : decode (zYb kX5_at) 26 = .ok (.aconst_null, 1) := by decide +kernel
theorem eX5_at_27 : decode (zYb kX5_at) 27 = .ok (.areturn, 1) := by decide +kernel
theorem eX5_addScroll_0 : decode (zYb kX5_addScroll) 0 = .ok (.aload_n 0, 1) := by decide +kernel
theorem eX5_addScroll_1 : decode (zYb kX5_addScroll) 1 = .ok (.getfield 18, 3) := by decide +kernel
theorem eX5_addScroll_4 : decode (zYb kX5_addScroll) 4 = .ok (.iconst 5, 1) := by decide +kernel
theorem eX5_addScroll_5 : decode (zYb kX5_addScroll) 5 = .ok (.if_icmp .lt 5, 3) := by decide +kernel
theorem eX5_addScroll_8 : decode (zYb kX5_addScroll) 8 = .ok (.aconst_null, 1) := by decide +kernel
theorem eX5_addScroll_9 : decode (zYb kX5_addScroll) 9 = .ok (.areturn, 1) := by decide +kernel
theorem eX5_addScroll_10 : decode (zYb kX5_addScroll) 10 = .ok (.aload_n 0, 1) := by decide +kernel
theorem eX5_addScroll_11 : decode (zYb kX5_addScroll) 11 = .ok (.dup, 1) := by decide +kernel
theorem eX5_addScroll_12 : decode (zYb kX5_addScroll) 12 = .ok (.getfield 18, 3) := by decide +kernel
theorem eX5_addScroll_15 : decode (zYb kX5_addScroll) 15 = .ok (.iconst 1, 1) := by decide +kernel
theorem eX5_addScroll_16 : decode (zYb kX5_addScroll) 16 = .ok (.iadd, 1) := by decide +kernel
theorem eX5_addScroll_17 : decode (zYb kX5_addScroll) 17 = .ok (.putfield 18, 3) := by decide +kernel
theorem eX5_addScroll_20 : decode (zYb kX5_addScroll) 20 = .ok (.aload_n 0, 1) := by decide +kernel
theorem eX5_addScroll_21 : decode (zYb kX5_addScroll) 21 = .ok (.aload_n 0, 1) := by decide +kernel
theorem eX5_addScroll_22 : decode (zYb kX5_addScroll) 22 = .ok (.getfield 18, 3) := by decide +kernel
theorem eX5_addScroll_25 : decode (zYb kX5_addScroll) 25 = .ok (.iconst 1, 1) := by decide +kernel
theorem eX5_addScroll_26 : decode (zYb kX5_addScroll) 26 = .ok (.isub, 1) := by decide +kernel
theorem eX5_addScroll_27 : decode (zYb kX5_addScroll) 27 = .ok (.invokevirtual 22, 3) := by decide +kernel
theorem eX5_addScroll_30 : decode (zYb kX5_addScroll) 30 = .ok (.astore_n 1, 1) := by decide +kernel
theorem eX5_addScroll_31 : decode (zYb kX5_addScroll) 31 = .ok (.aload_n 1, 1) := by decide +kernel
theorem eX5_addScroll_32 : decode (zYb kX5_addScroll) 32 = .ok (.ifnull 7, 3) := by decide +kernel
theorem eX5_addScroll_35 : decode (zYb kX5_addScroll) 35 = .ok (.aload_n 1, 1) := by decide +kernel
theorem eX5_addScroll_36 : decode (zYb kX5_addScroll) 36 = .ok (.invokevirtual 26, 3) := by decide +kernel
theorem eX5_addScroll_39 : decode (zYb kX5_addScroll) 39 = .ok (.aload_n 1, 1) := by decide +kernel
theorem eX5_addScroll_40 : decode (zYb kX5_addScroll) 40 = .ok (.areturn, 1) := by decide +kernel
theorem eX5_remove_0 : decode (zYb kX5_remove) 0 = .ok (.iload_n 1, 1) := by decide +kernel
theorem eX5_remove_1 : decode (zYb kX5_remove) 1 = .ok (.ifCond .lt 19, 3) := by decide +kernel
theorem eX5_remove_4 : decode (zYb kX5_remove) 4 = .ok (.iload_n 1, 1) := by decide +kernel
theorem eX5_remove_5 : decode (zYb kX5_remove) 5 = .ok (.aload_n 0, 1) := by decide +kernel
theorem eX5_remove_6 : decode (zYb kX5_remove) 6 = .ok (.getfield 18, 3) := by decide +kernel
theorem eX5_remove_9 : decode (zYb kX5_remove) 9 = .ok (.if_icmp .ge 11, 3) := by decide +kernel
theorem eX5_remove_12 : decode (zYb kX5_remove) 12 = .ok (.aload_n 0, 1) := by decide +kernel
theorem eX5_remove_13 : decode (zYb kX5_remove) 13 = .ok (.getfield 18, 3) := by decide +kernel
theorem eX5_remove_16 : decode (zYb kX5_remove) 16 = .ok (.iconst 5, 1) := by decide +kernel
theorem eX5_remove_17 : decode (zYb kX5_remove) 17 = .ok (.if_icmp .le 4, 3) := by decide +kernel
theorem eX5_remove_20 : decode (zYb kX5_remove) 20 = .ok (.return_, 1) := by decide +kernel
theorem eX5_remove_21 : decode (zYb kX5_remove) 21 = .ok (.aload_n 0, 1) := by decide +kernel
theorem eX5_remove_22 : decode (zYb kX5_remove) 22 = .ok (.getfield 11, 3) := by decide +kernel
theorem eX5_remove_25 : decode (zYb kX5_remove) 25 = .ok (.iload_n 1, 1) := by decide +kernel
theorem eX5_remove_26 : decode (zYb kX5_remove) 26 = .ok (.aaload, 1) := by decide +kernel
theorem eX5_remove_27 : decode (zYb kX5_remove) 27 = .ok (.astore_n 2, 1) := by decide +kernel
theorem eX5_remove_28 : decode (zYb kX5_remove) 28 = .ok (.iload_n 1, 1) := by decide +kernel
theorem eX5_remove_29 : decode (zYb kX5_remove) 29 = .ok (.istore_n 3, 1) := by decide +kernel
theorem eX5_remove_30 : decode (zYb kX5_remove) 30 = .ok (.iload_n 3, 1) := by decide +kernel
theorem eX5_remove_31 : decode (zYb kX5_remove) 31 = .ok (.iconst 1, 1) := by decide +kernel
theorem eX5_remove_32 : decode (zYb kX5_remove) 32 = .ok (.iadd, 1) := by decide +kernel
theorem eX5_remove_33 : decode (zYb kX5_remove) 33 = .ok (.aload_n 0, 1) := by decide +kernel
theorem eX5_remove_34 : decode (zYb kX5_remove) 34 = .ok (.getfield 18, 3) := by decide +kernel
theorem eX5_remove_37 : decode (zYb kX5_remove) 37 = .ok (.if_icmp .ge 23, 3) := by decide +kernel
theorem eX5_remove_40 : decode (zYb kX5_remove) 40 = .ok (.aload_n 0, 1) := by decide +kernel
theorem eX5_remove_41 : decode (zYb kX5_remove) 41 = .ok (.getfield 11, 3) := by decide +kernel
theorem eX5_remove_44 : decode (zYb kX5_remove) 44 = .ok (.iload_n 3, 1) := by decide +kernel
theorem eX5_remove_45 : decode (zYb kX5_remove) 45 = .ok (.aload_n 0, 1) := by decide +kernel
theorem eX5_remove_46 : decode (zYb kX5_remove) 46 = .ok (.getfield 11, 3) := by decide +kernel
theorem eX5_remove_49 : decode (zYb kX5_remove) 49 = .ok (.iload_n 3, 1) := by decide +kernel
theorem eX5_remove_50 : decode (zYb kX5_remove) 50 = .ok (.iconst 1, 1) := by decide +kernel
theorem eX5_remove_51 : decode (zYb kX5_remove) 51 = .ok (.iadd, 1) := by decide +kernel
theorem eX5_remove_52 : decode (zYb kX5_remove) 52 = .ok (.aaload, 1) := by decide +kernel
theorem eX5_remove_53 : decode (zYb kX5_remove) 53 = .ok (.aastore, 1) := by decide +kernel
theorem eX5_remove_54 : decode (zYb kX5_remove) 54 = .ok (.iinc 3 1, 3) := by decide +kernel
theorem eX5_remove_57 : decode (zYb kX5_remove) 57 = .ok (.goto (-27), 3) := by decide +kernel
theorem eX5_remove_60 : decode (zYb kX5_remove) 60 = .ok (.aload_n 0, 1) := by decide +kernel
theorem eX5_remove_61 : decode (zYb kX5_remove) 61 = .ok (.getfield 11, 3) := by decide +kernel
theorem eX5_remove_64 : decode (zYb kX5_remove) 64 = .ok (.aload_n 0, 1) := by decide +kernel
theorem eX5_remove_65 : decode (zYb kX5_remove) 65 = .ok (.getfield 18, 3) := by decide +kernel
theorem eX5_remove_68 : decode (zYb kX5_remove) 68 = .ok (.iconst 1, 1) := by decide +kernel
theorem eX5_remove_69 : decode (zYb kX5_remove) 69 = .ok (.isub, 1) := by decide +kernel
theorem eX5_remove_70 : decode (zYb kX5_remove) 70 = .ok (.aload_n 2, 1) := by decide +kernel
theorem eX5_remove_71 : decode (zYb kX5_remove) 71 = .ok (.aastore, 1) := by decide +kernel
theorem eX5_remove_72 : decode (zYb kX5_remove) 72 = .ok (.aload_n 0, 1) := by decide +kernel
theorem eX5_remove_73 : decode (zYb kX5_remove) 73 = .ok (.dup, 1) := by decide +kernel
theorem eX5_remove_74 : decode (zYb kX5_remove) 74 = .ok (.getfield 18, 3) := by decide +kernel
theorem eX5_remove_77 : decode (zYb kX5_remove) 77 = .ok (.iconst 1, 1) := by decide +kernel
theorem eX5_remove_78 : decode (zYb kX5_remove) 78 = .ok (.isub, 1) := by decide +kernel
theorem eX5_remove_79 : decode (zYb kX5_remove) 79 = .ok (.putfield 18, 3) := by decide +kernel
theorem eX5_remove_82 : decode (zYb kX5_remove) 82 = .ok (.return_, 1) := by decide +kernel
theorem eX5_copyFrom_0 : decode (zYb kX5_copyFrom) 0 = .ok (.aload_n 0, 1) := by decide +kernel
theorem eX5_copyFrom_1 : decode (zYb kX5_copyFrom) 1 = .ok (.aload_n 1, 1) := by decide +kernel
theorem eX5_copyFrom_2 : decode (zYb kX5_copyFrom) 2 = .ok (.getfield 18, 3) := by decide +kernel
theorem eX5_copyFrom_5 : decode (zYb kX5_copyFrom) 5 = .ok (.putfield 18, 3) := by decide +kernel
theorem eX5_copyFrom_8 : decode (zYb kX5_copyFrom) 8 = .ok (.iconst 0, 1) := by decide +kernel
theorem eX5_copyFrom_9 : decode (zYb kX5_copyFrom) 9 = .ok (.istore_n 2, 1) := by decide +kernel
theorem eX5_copyFrom_10 : decode (zYb kX5_copyFrom) 10 = .ok (.iload_n 2, 1) := by decide +kernel
theorem eX5_copyFrom_11 : decode (zYb kX5_copyFrom) 11 = .ok (.aload_n 0, 1) := by decide +kernel
theorem eX5_copyFrom_12 : decode (zYb kX5_copyFrom) 12 = .ok (.getfield 18, 3) := by decide +kernel
theorem eX5_copyFrom_15 : decode (zYb kX5_copyFrom) 15 = .ok (.if_icmp .ge 37, 3) := by decide +kernel
theorem eX5_copyFrom_18 : decode (zYb kX5_copyFrom) 18 = .ok (.aload_n 1, 1) := by decide +kernel
theorem eX5_copyFrom_19 : decode (zYb kX5_copyFrom) 19 = .ok (.iload_n 2, 1) := by decide +kernel
theorem eX5_copyFrom_20 : decode (zYb kX5_copyFrom) 20 = .ok (.invokevirtual 22, 3) := by decide +kernel
theorem eX5_copyFrom_23 : decode (zYb kX5_copyFrom) 23 = .ok (.astore_n 3, 1) := by decide +kernel
theorem eX5_copyFrom_24 : decode (zYb kX5_copyFrom) 24 = .ok (.aload_n 0, 1) := by decide +kernel
theorem eX5_copyFrom_25 : decode (zYb kX5_copyFrom) 25 = .ok (.iload_n 2, 1) := by decide +kernel
theorem eX5_copyFrom_26 : decode (zYb kX5_copyFrom) 26 = .ok (.invokevirtual 22, 3) := by decide +kernel
theorem eX5_copyFrom_29 : decode (zYb kX5_copyFrom) 29 = .ok (.astore 4, 2) := by decide +kernel
theorem eX5_copyFrom_31 : decode (zYb kX5_copyFrom) 31 = .ok (.aload_n 3, 1) := by decide +kernel
theorem eX5_copyFrom_32 : decode (zYb kX5_copyFrom) 32 = .ok (.ifnull 14, 3) := by decide +kernel
theorem eX5_copyFrom_35 : decode (zYb kX5_copyFrom) 35 = .ok (.aload 4, 2) := by decide +kernel
theorem eX5_copyFrom_37 : decode (zYb kX5_copyFrom) 37 = .ok (.ifnull 9, 3) := by decide +kernel
theorem eX5_copyFrom_40 : decode (zYb kX5_copyFrom) 40 = .ok (.aload 4, 2) := by decide +kernel
theorem eX5_copyFrom_42 : decode (zYb kX5_copyFrom) 42 = .ok (.aload_n 3, 1) := by decide +kernel
theorem eX5_copyFrom_43 : decode (zYb kX5_copyFrom) 43 = .ok (.invokevirtual 29, 3) := by decide +kernel
theorem eX5_copyFrom_46 : decode (zYb kX5_copyFrom) 46 = .ok (.iinc 2 1, 3) := by decide +kernel
theorem eX5_copyFrom_49 : decode (zYb kX5_copyFrom) 49 = .ok (.goto (-39), 3) := by decide +kernel
theorem eX5_copyFrom_52 : decode (zYb kX5_copyFrom) 52 = .ok (.return_, 1) := by decide +kernel
theorem eX5_patchesOfAll_0 : decode (zYb kX5_patchesOfAll) 0 = .ok (.iconst 0, 1) := by decide +kernel
theorem eX5_patchesOfAll_1 : decode (zYb kX5_patchesOfAll) 1 = .ok (.istore_n 1, 1) := by decide +kernel
theorem eX5_patchesOfAll_2 : decode (zYb kX5_patchesOfAll) 2 = .ok (.iconst 0, 1) := by decide +kernel
theorem eX5_patchesOfAll_3 : decode (zYb kX5_patchesOfAll) 3 = .ok (.istore_n 2, 1) := by decide +kernel
theorem eX5_patchesOfAll_4 : decode (zYb kX5_patchesOfAll) 4 = .ok (.iload_n 2, 1) := by decide +kernel
theorem eX5_patchesOfAll_5 : decode (zYb kX5_patchesOfAll) 5 = .ok (.aload_n 0, 1) := by decide +kernel
theorem eX5_patchesOfAll_6 : decode (zYb kX5_patchesOfAll) 6 = .ok (.getfield 18, 3) := by decide +kernel
theorem eX5_patchesOfAll_9 : decode (zYb kX5_patchesOfAll) 9 = .ok (.if_icmp .ge 30, 3) := by decide +kernel
theorem eX5_patchesOfAll_12 : decode (zYb kX5_patchesOfAll) 12 = .ok (.aload_n 0, 1) := by decide +kernel
theorem eX5_patchesOfAll_13 : decode (zYb kX5_patchesOfAll) 13 = .ok (.iload_n 2, 1) := by decide +kernel
theorem eX5_patchesOfAll_14 : decode (zYb kX5_patchesOfAll) 14 = .ok (.invokevirtual 22, 3) := by decide +kernel
theorem eX5_patchesOfAll_17 : decode (zYb kX5_patchesOfAll) 17 = .ok (.astore_n 3, 1) := by decide +kernel
theorem eX5_patchesOfAll_18 : decode (zYb kX5_patchesOfAll) 18 = .ok (.iload_n 1, 1) := by decide +kernel
theorem eX5_patchesOfAll_19 : decode (zYb kX5_patchesOfAll) 19 = .ok (.aload_n 3, 1) := by decide +kernel
theorem eX5_patchesOfAll_20 : decode (zYb kX5_patchesOfAll) 20 = .ok (.ifnonnull 7, 3) := by decide +kernel
theorem eX5_patchesOfAll_23 : decode (zYb kX5_patchesOfAll) 23 = .ok (.iconst 0, 1) := by decide +kernel
theorem eX5_patchesOfAll_24 : decode (zYb kX5_patchesOfAll) 24 = .ok (.goto 7, 3) := by decide +kernel
theorem eX5_patchesOfAll_27 : decode (zYb kX5_patchesOfAll) 27 = .ok (.aload_n 3, 1) := by decide +kernel
theorem eX5_patchesOfAll_28 : decode (zYb kX5_patchesOfAll) 28 = .ok (.getfield 33, 3) := by decide +kernel
theorem eX5_patchesOfAll_31 : decode (zYb kX5_patchesOfAll) 31 = .ok (.iadd, 1) := by decide +kernel
theorem eX5_patchesOfAll_32 : decode (zYb kX5_patchesOfAll) 32 = .ok (.istore_n 1, 1) := by decide +kernel
theorem eX5_patchesOfAll_33 : decode (zYb kX5_patchesOfAll) 33 = .ok (.iinc 2 1, 3) := by decide +kernel
theorem eX5_patchesOfAll_36 : decode (zYb kX5_patchesOfAll) 36 = .ok (.goto (-32), 3) := by decide +kernel
theorem eX5_patchesOfAll_39 : decode (zYb kX5_patchesOfAll) 39 = .ok (.iload_n 1, 1) := by decide +kernel
theorem eX5_patchesOfAll_40 : decode (zYb kX5_patchesOfAll) 40 = .ok (.ireturn, 1) := by decide +kernel
theorem eX5_lettersOfAll_0 : decode (zYb kX5_lettersOfAll) 0 = .ok (.iconst 0, 1) := by decide +kernel
theorem eX5_lettersOfAll_1 : decode (zYb kX5_lettersOfAll) 1 = .ok (.istore_n 1, 1) := by decide +kernel
theorem eX5_lettersOfAll_2 : decode (zYb kX5_lettersOfAll) 2 = .ok (.iconst 0, 1) := by decide +kernel
theorem eX5_lettersOfAll_3 : decode (zYb kX5_lettersOfAll) 3 = .ok (.istore_n 2, 1) := by decide +kernel
theorem eX5_lettersOfAll_4 : decode (zYb kX5_lettersOfAll) 4 = .ok (.iload_n 2, 1) := by decide +kernel
theorem eX5_lettersOfAll_5 : decode (zYb kX5_lettersOfAll) 5 = .ok (.aload_n 0, 1) := by decide +kernel
theorem eX5_lettersOfAll_6 : decode (zYb kX5_lettersOfAll) 6 = .ok (.getfield 18, 3) := by decide +kernel
theorem eX5_lettersOfAll_9 : decode (zYb kX5_lettersOfAll) 9 = .ok (.if_icmp .ge 30, 3) := by decide +kernel
theorem eX5_lettersOfAll_12 : decode (zYb kX5_lettersOfAll) 12 = .ok (.aload_n 0, 1) := by decide +kernel
theorem eX5_lettersOfAll_13 : decode (zYb kX5_lettersOfAll) 13 = .ok (.iload_n 2, 1) := by decide +kernel
theorem eX5_lettersOfAll_14 : decode (zYb kX5_lettersOfAll) 14 = .ok (.invokevirtual 22, 3) := by decide +kernel
theorem eX5_lettersOfAll_17 : decode (zYb kX5_lettersOfAll) 17 = .ok (.astore_n 3, 1) := by decide +kernel
theorem eX5_lettersOfAll_18 : decode (zYb kX5_lettersOfAll) 18 = .ok (.iload_n 1, 1) := by decide +kernel
theorem eX5_lettersOfAll_19 : decode (zYb kX5_lettersOfAll) 19 = .ok (.aload_n 3, 1) := by decide +kernel
theorem eX5_lettersOfAll_20 : decode (zYb kX5_lettersOfAll) 20 = .ok (.ifnonnull 7, 3) := by decide +kernel
theorem eX5_lettersOfAll_23 : decode (zYb kX5_lettersOfAll) 23 = .ok (.iconst 0, 1) := by decide +kernel
theorem eX5_lettersOfAll_24 : decode (zYb kX5_lettersOfAll) 24 = .ok (.goto 7, 3) := by decide +kernel
theorem eX5_lettersOfAll_27 : decode (zYb kX5_lettersOfAll) 27 = .ok (.aload_n 3, 1) := by decide +kernel
theorem eX5_lettersOfAll_28 : decode (zYb kX5_lettersOfAll) 28 = .ok (.invokevirtual 36, 3) := by decide +kernel
theorem eX5_lettersOfAll_31 : decode (zYb kX5_lettersOfAll) 31 = .ok (.iadd, 1) := by decide +kernel
theorem eX5_lettersOfAll_32 : decode (zYb kX5_lettersOfAll) 32 = .ok (.istore_n 1, 1) := by decide +kernel
theorem eX5_lettersOfAll_33 : decode (zYb kX5_lettersOfAll) 33 = .ok (.iinc 2 1, 3) := by decide +kernel
theorem eX5_lettersOfAll_36 : decode (zYb kX5_lettersOfAll) 36 = .ok (.goto (-32), 3) := by decide +kernel
theorem eX5_lettersOfAll_39 : decode (zYb kX5_lettersOfAll) 39 = .ok (.iload_n 1, 1) := by decide +kernel
theorem eX5_lettersOfAll_40 : decode (zYb kX5_lettersOfAll) 40 = .ok (.ireturn, 1) := by decide +kernel
theorem eX5_tellsBefore_0 : decode (zYb kX5_tellsBefore) 0 = .ok (.iconst 0, 1) := by decide +kernel
theorem eX5_tellsBefore_1 : decode (zYb kX5_tellsBefore) 1 = .ok (.istore 4, 2) := by decide +kernel
theorem eX5_tellsBefore_3 : decode (zYb kX5_tellsBefore) 3 = .ok (.iload 4, 2) := by decide +kernel
theorem eX5_tellsBefore_5 : decode (zYb kX5_tellsBefore) 5 = .ok (.iload_n 1, 1) := by decide +kernel
theorem eX5_tellsBefore_6 : decode (zYb kX5_tellsBefore) 6 = .ok (.if_icmp .ge 34, 3) := by decide +kernel
theorem eX5_tellsBefore_9 : decode (zYb kX5_tellsBefore) 9 = .ok (.aload_n 0, 1) := by decide +kernel
theorem eX5_tellsBefore_10 : decode (zYb kX5_tellsBefore) 10 = .ok (.iload 4, 2) := by decide +kernel
theorem eX5_tellsBefore_12 : decode (zYb kX5_tellsBefore) 12 = .ok (.invokevirtual 22, 3) := by decide +kernel
theorem eX5_tellsBefore_15 : decode (zYb kX5_tellsBefore) 15 = .ok (.astore 5, 2) := by decide +kernel
theorem eX5_tellsBefore_17 : decode (zYb kX5_tellsBefore) 17 = .ok (.aload 5, 2) := by decide +kernel
theorem eX5_tellsBefore_19 : decode (zYb kX5_tellsBefore) 19 = .ok (.ifnull 15, 3) := by decide +kernel
theorem eX5_tellsBefore_22 : decode (zYb kX5_tellsBefore) 22 = .ok (.aload 5, 2) := by decide +kernel
theorem eX5_tellsBefore_24 : decode (zYb kX5_tellsBefore) 24 = .ok (.aload_n 2, 1) := by decide +kernel
theorem eX5_tellsBefore_25 : decode (zYb kX5_tellsBefore) 25 = .ok (.iload_n 3, 1) := by decide +kernel
theorem eX5_tellsBefore_26 : decode (zYb kX5_tellsBefore) 26 = .ok (.invokevirtual 40, 3) := by decide +kernel
theorem eX5_tellsBefore_29 : decode (zYb kX5_tellsBefore) 29 = .ok (.ifCond .eq 5, 3) := by decide +kernel
theorem eX5_tellsBefore_32 : decode (zYb kX5_tellsBefore) 32 = .ok (.iconst 1, 1) := by decide +kernel
theorem eX5_tellsBefore_33 : decode (zYb kX5_tellsBefore) 33 = .ok (.ireturn, 1) := by decide +kernel
theorem eX5_tellsBefore_34 : decode (zYb kX5_tellsBefore) 34 = .ok (.iinc 4 1, 3) := by decide +kernel
theorem eX5_tellsBefore_37 : decode (zYb kX5_tellsBefore) 37 = .ok (.goto (-34), 3) := by decide +kernel
theorem eX5_tellsBefore_40 : decode (zYb kX5_tellsBefore) 40 = .ok (.iconst 0, 1) := by decide +kernel
theorem eX5_tellsBefore_41 : decode (zYb kX5_tellsBefore) 41 = .ok (.ireturn, 1) := by decide +kernel
end
section
theorem eX6_init_0 : decode (zYb kX6_init) 0 = .ok (.aload_n 0, 1) := by decide +kernel
theorem eX6_init_1 : decode (zYb kX6_init) 1 = .ok (.invokespecial 1, 3) := by decide +kernel
theorem eX6_init_4 : decode (zYb kX6_init) 4 = .ok (.aload_n 0, 1) := by decide +kernel
theorem eX6_init_5 : decode (zYb kX6_init) 5 = .ok (.new 7, 3) := by decide +kernel
theorem eX6_init_8 : decode (zYb kX6_init) 8 = .ok (.dup, 1) := by decide +kernel
theorem eX6_init_9 : decode (zYb kX6_init) 9 = .ok (.invokespecial 9, 3) := by decide +kernel
theorem eX6_init_12 : decode (zYb kX6_init) 12 = .ok (.putfield 10, 3) := by decide +kernel
theorem eX6_init_15 : decode (zYb kX6_init) 15 = .ok (.aload_n 0, 1) := by decide +kernel
theorem eX6_init_16 : decode (zYb kX6_init) 16 = .ok (.new 16, 3) := by decide +kernel
theorem eX6_init_19 : decode (zYb kX6_init) 19 = .ok (.dup, 1) := by decide +kernel
theorem eX6_init_20 : decode (zYb kX6_init) 20 = .ok (.invokespecial 18, 3) := by decide +kernel
theorem eX6_init_23 : decode (zYb kX6_init) 23 = .ok (.putfield 19, 3) := by decide +kernel
theorem eX6_init_26 : decode (zYb kX6_init) 26 = .ok (.aload_n 0, 1) := by decide +kernel
theorem eX6_init_27 : decode (zYb kX6_init) 27 = .ok (.new 23, 3) := by decide +kernel
theorem eX6_init_30 : decode (zYb kX6_init) 30 = .ok (.dup, 1) := by decide +kernel
theorem eX6_init_31 : decode (zYb kX6_init) 31 = .ok (.invokespecial 25, 3) := by decide +kernel
theorem eX6_init_34 : decode (zYb kX6_init) 34 = .ok (.putfield 26, 3) := by decide +kernel
theorem eX6_init_37 : decode (zYb kX6_init) 37 = .ok (.aload_n 0, 1) := by decide +kernel
theorem eX6_init_38 : decode (zYb kX6_init) 38 = .ok (.iconst 2, 1) := by decide +kernel
theorem eX6_init_39 : decode (zYb kX6_init) 39 = .ok (.anewarray 7, 3) := by decide +kernel
theorem eX6_init_42 : decode (zYb kX6_init) 42 = .ok (.putfield 30, 3) := by decide +kernel
theorem eX6_init_45 : decode (zYb kX6_init) 45 = .ok (.aload_n 0, 1) := by decide +kernel
theorem eX6_init_46 : decode (zYb kX6_init) 46 = .ok (.iconst 2, 1) := by decide +kernel
theorem eX6_init_47 : decode (zYb kX6_init) 47 = .ok (.newarray .boolean, 2) := by decide +kernel
theorem eX6_init_49 : decode (zYb kX6_init) 49 = .ok (.putfield 34, 3) := by decide +kernel
theorem eX6_init_52 : decode (zYb kX6_init) 52 = .ok (.aload_n 0, 1) := by decide +kernel
theorem eX6_init_53 : decode (zYb kX6_init) 53 = .ok (.new 38, 3) := by decide +kernel
theorem eX6_init_56 : decode (zYb kX6_init) 56 = .ok (.dup, 1) := by decide +kernel
theorem eX6_init_57 : decode (zYb kX6_init) 57 = .ok (.invokespecial 40, 3) := by decide +kernel
theorem eX6_init_60 : decode (zYb kX6_init) 60 = .ok (.putfield 41, 3) := by decide +kernel
theorem eX6_init_63 : decode (zYb kX6_init) 63 = .ok (.aload_n 0, 1) := by decide +kernel
theorem eX6_init_64 : decode (zYb kX6_init) 64 = .ok (.new 45, 3) := by decide +kernel
theorem eX6_init_67 : decode (zYb kX6_init) 67 = .ok (.dup, 1) := by decide +kernel
theorem eX6_init_68 : decode (zYb kX6_init) 68 = .ok (.invokespecial 47, 3) := by decide +kernel
theorem eX6_init_71 : decode (zYb kX6_init) 71 = .ok (.putfield 48, 3) := by decide +kernel
theorem eX6_init_74 : decode (zYb kX6_init) 74 = .ok (.aload_n 0, 1) := by decide +kernel
theorem eX6_init_75 : decode (zYb kX6_init) 75 = .ok (.bipush 60, 2) := by decide +kernel
theorem eX6_init_77 : decode (zYb kX6_init) 77 = .ok (.newarray .int, 2) := by decide +kernel
theorem eX6_init_79 : decode (zYb kX6_init) 79 = .ok (.putfield 52, 3) := by decide +kernel
theorem eX6_init_82 : decode (zYb kX6_init) 82 = .ok (.iconst 0, 1) := by decide +kernel
theorem eX6_init_83 : decode (zYb kX6_init) 83 = .ok (.istore_n 1, 1) := by decide +kernel
theorem eX6_init_84 : decode (zYb kX6_init) 84 = .ok (.iload_n 1, 1) := by decide +kernel
theorem eX6_init_85 : decode (zYb kX6_init) 85 = .ok (.iconst 2, 1) := by decide +kernel
theorem eX6_init_86 : decode (zYb kX6_init) 86 = .ok (.if_icmp .ge 22, 3) := by decide +kernel
theorem eX6_init_89 : decode (zYb kX6_init) 89 = .ok (.aload_n 0, 1) := by decide +kernel
theorem eX6_init_90 : decode (zYb kX6_init) 90 = .ok (.getfield 30, 3) := by decide +kernel
theorem eX6_init_93 : decode (zYb kX6_init) 93 = .ok (.iload_n 1, 1) := by decide +kernel
theorem eX6_init_94 : decode (zYb kX6_init) 94 = .ok (.new 7, 3) := by decide +kernel
theorem eX6_init_97 : decode (zYb kX6_init) 97 = .ok (.dup, 1) := by decide +kernel
theorem eX6_init_98 : decode (zYb kX6_init) 98 = .ok (.invokespecial 9, 3) := by decide +kernel
theorem eX6_init_101 : decode (zYb kX6_init) 101 = .ok (.aastore, 1) := by decide +kernel
theorem eX6_init_102 : decode (zYb kX6_init) 102 = .ok (.iinc 1 1, 3) := by decide +kernel
theorem eX6_init_105 : decode (zYb kX6_init) 105 = .ok (.goto (-21), 3) := by decide +kernel
theorem eX6_init_108 : decode (zYb kX6_init) 108 = .ok (.return_, 1) := by decide +kernel
theorem eX6_sew_0 : decode (zYb kX6_sew) 0 = .ok (.aload_n 0, 1) := by decide +kernel
theorem eX6_sew_1 : decode (zYb kX6_sew) 1 = .ok (.getfield 19, 3) := by decide +kernel
theorem eX6_sew_4 : decode (zYb kX6_sew) 4 = .ok (.invokevirtual 56, 3) := by decide +kernel
theorem eX6_sew_7 : decode (zYb kX6_sew) 7 = .ok (.bipush (-6), 2) := by decide +kernel
theorem eX6_sew_9 : decode (zYb kX6_sew) 9 = .ok (.if_icmp .eq 6, 3) := by decide +kernel
theorem eX6_sew_12 : decode (zYb kX6_sew) 12 = .ok (.bipush (-3), 2) := by decide +kernel
theorem eX6_sew_14 : decode (zYb kX6_sew) 14 = .ok (.ireturn, 1) := by decide +kernel
theorem eX6_sew_15 : decode (zYb kX6_sew) 15 = .ok (.aload_n 0, 1) := by decide +kernel
theorem eX6_sew_16 : decode (zYb kX6_sew) 16 = .ok (.getfield 10, 3) := by decide +kernel
theorem eX6_sew_19 : decode (zYb kX6_sew) 19 = .ok (.getfield 60, 3) := by decide +kernel
theorem eX6_sew_22 : decode (zYb kX6_sew) 22 = .ok (.aload_n 0, 1) := by decide +kernel
theorem eX6_sew_23 : decode (zYb kX6_sew) 23 = .ok (.getfield 19, 3) := by decide +kernel
theorem eX6_sew_26 : decode (zYb kX6_sew) 26 = .ok (.invokevirtual 64, 3) := by decide +kernel
theorem eX6_sew_29 : decode (zYb kX6_sew) 29 = .ok (.iadd, 1) := by decide +kernel
theorem eX6_sew_30 : decode (zYb kX6_sew) 30 = .ok (.iconst 5, 1) := by decide +kernel
theorem eX6_sew_31 : decode (zYb kX6_sew) 31 = .ok (.if_icmp .le 6, 3) := by decide +kernel
theorem eX6_sew_34 : decode (zYb kX6_sew) 34 = .ok (.bipush (-4), 2) := by decide +kernel
theorem eX6_sew_36 : decode (zYb kX6_sew) 36 = .ok (.ireturn, 1) := by decide +kernel
theorem eX6_sew_37 : decode (zYb kX6_sew) 37 = .ok (.aload_n 0, 1) := by decide +kernel
theorem eX6_sew_38 : decode (zYb kX6_sew) 38 = .ok (.getfield 26, 3) := by decide +kernel
theorem eX6_sew_41 : decode (zYb kX6_sew) 41 = .ok (.aload_n 0, 1) := by decide +kernel
theorem eX6_sew_42 : decode (zYb kX6_sew) 42 = .ok (.getfield 10, 3) := by decide +kernel
theorem eX6_sew_45 : decode (zYb kX6_sew) 45 = .ok (.invokevirtual 67, 3) := by decide +kernel
theorem eX6_sew_48 : decode (zYb kX6_sew) 48 = .ok (.aload_n 0, 1) := by decide +kernel
theorem eX6_sew_49 : decode (zYb kX6_sew) 49 = .ok (.invokevirtual 71, 3) := by decide +kernel
theorem eX6_sew_52 : decode (zYb kX6_sew) 52 = .ok (.aload_n 0, 1) := by decide +kernel
theorem eX6_sew_53 : decode (zYb kX6_sew) 53 = .ok (.getfield 19, 3) := by decide +kernel
theorem eX6_sew_56 : decode (zYb kX6_sew) 56 = .ok (.invokevirtual 74, 3) := by decide +kernel
theorem eX6_sew_59 : decode (zYb kX6_sew) 59 = .ok (.aload_n 0, 1) := by decide +kernel
theorem eX6_sew_60 : decode (zYb kX6_sew) 60 = .ok (.getfield 10, 3) := by decide +kernel
theorem eX6_sew_63 : decode (zYb kX6_sew) 63 = .ok (.getfield 60, 3) := by decide +kernel
theorem eX6_sew_66 : decode (zYb kX6_sew) 66 = .ok (.ireturn, 1) := by decide +kernel
theorem eX6_burn_0 : decode (zYb kX6_burn) 0 = .ok (.aload_n 0, 1) := by decide +kernel
theorem eX6_burn_1 : decode (zYb kX6_burn) 1 = .ok (.getfield 10, 3) := by decide +kernel
theorem eX6_burn_4 : decode (zYb kX6_burn) 4 = .ok (.iload_n 1, 1) := by decide +kernel
theorem eX6_burn_5 : decode (zYb kX6_burn) 5 = .ok (.invokevirtual 77, 3) := by decide +kernel
theorem eX6_burn_8 : decode (zYb kX6_burn) 8 = .ok (.astore_n 2, 1) := by decide +kernel
theorem eX6_burn_9 : decode (zYb kX6_burn) 9 = .ok (.aload_n 2, 1) := by decide +kernel
theorem eX6_burn_10 : decode (zYb kX6_burn) 10 = .ok (.ifnonnull 5, 3) := by decide +kernel
theorem eX6_burn_13 : decode (zYb kX6_burn) 13 = .ok (.iconst (-1), 1) := by decide +kernel
theorem eX6_burn_14 : decode (zYb kX6_burn) 14 = .ok (.ireturn, 1) := by decide +kernel
theorem eX6_burn_15 : decode (zYb kX6_burn) 15 = .ok (.aload_n 0, 1) := by decide +kernel
theorem eX6_burn_16 : decode (zYb kX6_burn) 16 = .ok (.getfield 26, 3) := by decide +kernel
theorem eX6_burn_19 : decode (zYb kX6_burn) 19 = .ok (.aload_n 0, 1) := by decide +kernel
theorem eX6_burn_20 : decode (zYb kX6_burn) 20 = .ok (.getfield 10, 3) := by decide +kernel
theorem eX6_burn_23 : decode (zYb kX6_burn) 23 = .ok (.invokevirtual 67, 3) := by decide +kernel
theorem eX6_burn_26 : decode (zYb kX6_burn) 26 = .ok (.aload_n 2, 1) := by decide +kernel
theorem eX6_burn_27 : decode (zYb kX6_burn) 27 = .ok (.invokevirtual 81, 3) := by decide +kernel
theorem eX6_burn_30 : decode (zYb kX6_burn) 30 = .ok (.istore_n 3, 1) := by decide +kernel
theorem eX6_burn_31 : decode (zYb kX6_burn) 31 = .ok (.aload_n 0, 1) := by decide +kernel
theorem eX6_burn_32 : decode (zYb kX6_burn) 32 = .ok (.getfield 10, 3) := by decide +kernel
theorem eX6_burn_35 : decode (zYb kX6_burn) 35 = .ok (.iload_n 1, 1) := by decide +kernel
theorem eX6_burn_36 : decode (zYb kX6_burn) 36 = .ok (.invokevirtual 84, 3) := by decide +kernel
theorem eX6_burn_39 : decode (zYb kX6_burn) 39 = .ok (.iload_n 3, 1) := by decide +kernel
theorem eX6_burn_40 : decode (zYb kX6_burn) 40 = .ok (.ireturn, 1) := by decide +kernel
theorem eX6_cut_0 : decode (zYb kX6_cut) 0 = .ok (.aload_n 0, 1) := by decide +kernel
theorem eX6_cut_1 : decode (zYb kX6_cut) 1 = .ok (.getfield 10, 3) := by decide +kernel
theorem eX6_cut_4 : decode (zYb kX6_cut) 4 = .ok (.iload_n 1, 1) := by decide +kernel
theorem eX6_cut_5 : decode (zYb kX6_cut) 5 = .ok (.invokevirtual 77, 3) := by decide +kernel
theorem eX6_cut_8 : decode (zYb kX6_cut) 8 = .ok (.astore 4, 2) := by decide +kernel
theorem eX6_cut_10 : decode (zYb kX6_cut) 10 = .ok (.aload 4, 2) := by decide +kernel
theorem eX6_cut_12 : decode (zYb kX6_cut) 12 = .ok (.ifnull 12, 3) := by decide +kernel
theorem eX6_cut_15 : decode (zYb kX6_cut) 15 = .ok (.aload 4, 2) := by decide +kernel
theorem eX6_cut_17 : decode (zYb kX6_cut) 17 = .ok (.iload_n 2, 1) := by decide +kernel
theorem eX6_cut_18 : decode (zYb kX6_cut) 18 = .ok (.invokevirtual 88, 3) := by decide +kernel
theorem eX6_cut_21 : decode (zYb kX6_cut) 21 = .ok (.ifCond .ne 5, 3) := by decide +kernel
theorem eX6_cut_24 : decode (zYb kX6_cut) 24 = .ok (.iconst (-1), 1) := by decide +kernel
theorem eX6_cut_25 : decode (zYb kX6_cut) 25 = .ok (.ireturn, 1) := by decide +kernel
theorem eX6_cut_26 : decode (zYb kX6_cut) 26 = .ok (.aload 4, 2) := by decide +kernel
theorem eX6_cut_28 : decode (zYb kX6_cut) 28 = .ok (.iload_n 2, 1) := by decide +kernel
theorem eX6_cut_29 : decode (zYb kX6_cut) 29 = .ok (.iload_n 3, 1) := by decide +kernel
theorem eX6_cut_30 : decode (zYb kX6_cut) 30 = .ok (.invokevirtual 92, 3) := by decide +kernel
theorem eX6_cut_33 : decode (zYb kX6_cut) 33 = .ok (.ifCond .ne 6, 3) := by decide +kernel
theorem eX6_cut_36 : decode (zYb kX6_cut) 36 = .ok (.bipush (-2), 2) := by decide +kernel
theorem eX6_cut_38 : decode (zYb kX6_cut) 38 = .ok (.ireturn, 1) := by decide +kernel
theorem eX6_cut_39 : decode (zYb kX6_cut) 39 = .ok (.aload 4, 2) := by decide +kernel
theorem eX6_cut_41 : decode (zYb kX6_cut) 41 = .ok (.getfield 96, 3) := by decide +kernel
theorem eX6_cut_44 : decode (zYb kX6_cut) 44 = .ok (.iconst 5, 1) := by decide +kernel
theorem eX6_cut_45 : decode (zYb kX6_cut) 45 = .ok (.if_icmp .lt 6, 3) := by decide +kernel
theorem eX6_cut_48 : decode (zYb kX6_cut) 48 = .ok (.bipush (-4), 2) := by decide +kernel
theorem eX6_cut_50 : decode (zYb kX6_cut) 50 = .ok (.ireturn, 1) := by decide +kernel
theorem eX6_cut_51 : decode (zYb kX6_cut) 51 = .ok (.aload_n 0, 1) := by decide +kernel
theorem eX6_cut_52 : decode (zYb kX6_cut) 52 = .ok (.getfield 26, 3) := by decide +kernel
theorem eX6_cut_55 : decode (zYb kX6_cut) 55 = .ok (.aload_n 0, 1) := by decide +kernel
theorem eX6_cut_56 : decode (zYb kX6_cut) 56 = .ok (.getfield 10, 3) := by decide +kernel
theorem eX6_cut_59 : decode (zYb kX6_cut) 59 = .ok (.invokevirtual 67, 3) := by decide +kernel
theorem eX6_cut_62 : decode (zYb kX6_cut) 62 = .ok (.aload 4, 2) := by decide +kernel
theorem eX6_cut_64 : decode (zYb kX6_cut) 64 = .ok (.iload_n 2, 1) := by decide +kernel
theorem eX6_cut_65 : decode (zYb kX6_cut) 65 = .ok (.iload_n 3, 1) := by decide +kernel
theorem eX6_cut_66 : decode (zYb kX6_cut) 66 = .ok (.invokevirtual 99, 3) := by decide +kernel
theorem eX6_cut_69 : decode (zYb kX6_cut) 69 = .ok (.aload 4, 2) := by decide +kernel
theorem eX6_cut_71 : decode (zYb kX6_cut) 71 = .ok (.getfield 96, 3) := by decide +kernel
theorem eX6_cut_74 : decode (zYb kX6_cut) 74 = .ok (.ireturn, 1) := by decide +kernel
theorem eX6_undoSeam_0 : decode (zYb kX6_undoSeam) 0 = .ok (.aload_n 0, 1) := by decide +kernel
theorem eX6_undoSeam_1 : decode (zYb kX6_undoSeam) 1 = .ok (.getfield 10, 3) := by decide +kernel
theorem eX6_undoSeam_4 : decode (zYb kX6_undoSeam) 4 = .ok (.iload_n 1, 1) := by decide +kernel
theorem eX6_undoSeam_5 : decode (zYb kX6_undoSeam) 5 = .ok (.invokevirtual 77, 3) := by decide +kernel
theorem eX6_undoSeam_8 : decode (zYb kX6_undoSeam) 8 = .ok (.astore_n 3, 1) := by decide +kernel
theorem eX6_undoSeam_9 : decode (zYb kX6_undoSeam) 9 = .ok (.aload_n 3, 1) := by decide +kernel
theorem eX6_undoSeam_10 : decode (zYb kX6_undoSeam) 10 = .ok (.ifnull 11, 3) := by decide +kernel
theorem eX6_undoSeam_13 : decode (zYb kX6_undoSeam) 13 = .ok (.aload_n 3, 1) := by decide +kernel
theorem eX6_undoSeam_14 : decode (zYb kX6_undoSeam) 14 = .ok (.iload_n 2, 1) := by decide +kernel
theorem eX6_undoSeam_15 : decode (zYb kX6_undoSeam) 15 = .ok (.invokevirtual 103, 3) := by decide +kernel
theorem eX6_undoSeam_18 : decode (zYb kX6_undoSeam) 18 = .ok (.ifCond .ne 5, 3) := by decide +kernel
theorem eX6_undoSeam_21 : decode (zYb kX6_undoSeam) 21 = .ok (.iconst (-1), 1) := by decide +kernel
theorem eX6_undoSeam_22 : decode (zYb kX6_undoSeam) 22 = .ok (.ireturn, 1) := by decide +kernel
theorem eX6_undoSeam_23 : decode (zYb kX6_undoSeam) 23 = .ok (.aload_n 3, 1) := by decide +kernel
theorem eX6_undoSeam_24 : decode (zYb kX6_undoSeam) 24 = .ok (.iload_n 2, 1) := by decide +kernel
theorem eX6_undoSeam_25 : decode (zYb kX6_undoSeam) 25 = .ok (.invokevirtual 106, 3) := by decide +kernel
theorem eX6_undoSeam_28 : decode (zYb kX6_undoSeam) 28 = .ok (.aload_n 3, 1) := by decide +kernel
theorem eX6_undoSeam_29 : decode (zYb kX6_undoSeam) 29 = .ok (.iload_n 2, 1) := by decide +kernel
theorem eX6_undoSeam_30 : decode (zYb kX6_undoSeam) 30 = .ok (.iconst 1, 1) := by decide +kernel
theorem eX6_undoSeam_31 : decode (zYb kX6_undoSeam) 31 = .ok (.iadd, 1) := by decide +kernel
theorem eX6_undoSeam_32 : decode (zYb kX6_undoSeam) 32 = .ok (.invokevirtual 106, 3) := by decide +kernel
theorem eX6_undoSeam_35 : decode (zYb kX6_undoSeam) 35 = .ok (.iadd, 1) := by decide +kernel
theorem eX6_undoSeam_36 : decode (zYb kX6_undoSeam) 36 = .ok (.bipush 12, 2) := by decide +kernel
theorem eX6_undoSeam_38 : decode (zYb kX6_undoSeam) 38 = .ok (.if_icmp .le 6, 3) := by decide +kernel
theorem eX6_undoSeam_41 : decode (zYb kX6_undoSeam) 41 = .ok (.bipush (-4), 2) := by decide +kernel
theorem eX6_undoSeam_43 : decode (zYb kX6_undoSeam) 43 = .ok (.ireturn, 1) := by decide +kernel
theorem eX6_undoSeam_44 : decode (zYb kX6_undoSeam) 44 = .ok (.aload_n 0, 1) := by decide +kernel
theorem eX6_undoSeam_45 : decode (zYb kX6_undoSeam) 45 = .ok (.getfield 26, 3) := by decide +kernel
theorem eX6_undoSeam_48 : decode (zYb kX6_undoSeam) 48 = .ok (.aload_n 0, 1) := by decide +kernel
theorem eX6_undoSeam_49 : decode (zYb kX6_undoSeam) 49 = .ok (.getfield 10, 3) := by decide +kernel
theorem eX6_undoSeam_52 : decode (zYb kX6_undoSeam) 52 = .ok (.invokevirtual 67, 3) := by decide +kernel
theorem eX6_undoSeam_55 : decode (zYb kX6_undoSeam) 55 = .ok (.aload_n 3, 1) := by decide +kernel
theorem eX6_undoSeam_56 : decode (zYb kX6_undoSeam) 56 = .ok (.iload_n 2, 1) := by decide +kernel
theorem eX6_undoSeam_57 : decode (zYb kX6_undoSeam) 57 = .ok (.invokevirtual 110, 3) := by decide +kernel
theorem eX6_undoSeam_60 : decode (zYb kX6_undoSeam) 60 = .ok (.aload_n 3, 1) := by decide +kernel
theorem eX6_undoSeam_61 : decode (zYb kX6_undoSeam) 61 = .ok (.getfield 96, 3) := by decide +kernel
theorem eX6_undoSeam_64 : decode (zYb kX6_undoSeam) 64 = .ok (.ireturn, 1) := by decide +kernel
theorem eX6_turn_0 : decode (zYb kX6_turn) 0 = .ok (.aload_n 0, 1) := by decide +kernel
theorem eX6_turn_1 : decode (zYb kX6_turn) 1 = .ok (.getfield 10, 3) := by decide +kernel
theorem eX6_turn_4 : decode (zYb kX6_turn) 4 = .ok (.iload_n 1, 1) := by decide +kernel
theorem eX6_turn_5 : decode (zYb kX6_turn) 5 = .ok (.invokevirtual 77, 3) := by decide +kernel
theorem eX6_turn_8 : decode (zYb kX6_turn) 8 = .ok (.astore_n 3, 1) := by decide +kernel
theorem eX6_turn_9 : decode (zYb kX6_turn) 9 = .ok (.aload_n 3, 1) := by decide +kernel
theorem eX6_turn_10 : decode (zYb kX6_turn) 10 = .ok (.ifnull 11, 3) := by decide +kernel
theorem eX6_turn_13 : decode (zYb kX6_turn) 13 = .ok (.aload_n 3, 1) := by decide +kernel
theorem eX6_turn_14 : decode (zYb kX6_turn) 14 = .ok (.iload_n 2, 1) := by decide +kernel
theorem eX6_turn_15 : decode (zYb kX6_turn) 15 = .ok (.invokevirtual 88, 3) := by decide +kernel
theorem eX6_turn_18 : decode (zYb kX6_turn) 18 = .ok (.ifCond .ne 5, 3) := by decide +kernel
theorem eX6_turn_21 : decode (zYb kX6_turn) 21 = .ok (.iconst (-1), 1) := by decide +kernel
theorem eX6_turn_22 : decode (zYb kX6_turn) 22 = .ok (.ireturn, 1) := by decide +kernel
theorem eX6_turn_23 : decode (zYb kX6_turn) 23 = .ok (.aload_n 0, 1) := by decide +kernel
theorem eX6_turn_24 : decode (zYb kX6_turn) 24 = .ok (.getfield 26, 3) := by decide +kernel
theorem eX6_turn_27 : decode (zYb kX6_turn) 27 = .ok (.aload_n 0, 1) := by decide +kernel
theorem eX6_turn_28 : decode (zYb kX6_turn) 28 = .ok (.getfield 10, 3) := by decide +kernel
theorem eX6_turn_31 : decode (zYb kX6_turn) 31 = .ok (.invokevirtual 67, 3) := by decide +kernel
theorem eX6_turn_34 : decode (zYb kX6_turn) 34 = .ok (.aload_n 3, 1) := by decide +kernel
theorem eX6_turn_35 : decode (zYb kX6_turn) 35 = .ok (.iload_n 2, 1) := by decide +kernel
theorem eX6_turn_36 : decode (zYb kX6_turn) 36 = .ok (.invokevirtual 113, 3) := by decide +kernel
theorem eX6_turn_39 : decode (zYb kX6_turn) 39 = .ok (.istore 4, 2) := by decide +kernel
theorem eX6_turn_41 : decode (zYb kX6_turn) 41 = .ok (.aload_n 3, 1) := by decide +kernel
theorem eX6_turn_42 : decode (zYb kX6_turn) 42 = .ok (.iload_n 2, 1) := by decide +kernel
theorem eX6_turn_43 : decode (zYb kX6_turn) 43 = .ok (.invokevirtual 116, 3) := by decide +kernel
theorem eX6_turn_46 : decode (zYb kX6_turn) 46 = .ok (.iload 4, 2) := by decide +kernel
theorem eX6_turn_48 : decode (zYb kX6_turn) 48 = .ok (.ireturn, 1) := by decide +kernel
theorem eX6_exchange_0 : decode (zYb kX6_exchange) 0 = .ok (.aload_n 0, 1) := by decide +kernel
theorem eX6_exchange_1 : decode (zYb kX6_exchange) 1 = .ok (.getfield 10, 3) := by decide +kernel
theorem eX6_exchange_4 : decode (zYb kX6_exchange) 4 = .ok (.iload_n 1, 1) := by decide +kernel
theorem eX6_exchange_5 : decode (zYb kX6_exchange) 5 = .ok (.invokevirtual 77, 3) := by decide +kernel
theorem eX6_exchange_8 : decode (zYb kX6_exchange) 8 = .ok (.astore_n 3, 1) := by decide +kernel
theorem eX6_exchange_9 : decode (zYb kX6_exchange) 9 = .ok (.aload_n 3, 1) := by decide +kernel
theorem eX6_exchange_10 : decode (zYb kX6_exchange) 10 = .ok (.ifnull 11, 3) := by decide +kernel
theorem eX6_exchange_13 : decode (zYb kX6_exchange) 13 = .ok (.aload_n 3, 1) := by decide +kernel
theorem eX6_exchange_14 : decode (zYb kX6_exchange) 14 = .ok (.iload_n 2, 1) := by decide +kernel
theorem eX6_exchange_15 : decode (zYb kX6_exchange) 15 = .ok (.invokevirtual 103, 3) := by decide +kernel
theorem eX6_exchange_18 : decode (zYb kX6_exchange) 18 = .ok (.ifCond .ne 5, 3) := by decide +kernel
theorem eX6_exchange_21 : decode (zYb kX6_exchange) 21 = .ok (.iconst (-1), 1) := by decide +kernel
theorem eX6_exchange_22 : decode (zYb kX6_exchange) 22 = .ok (.ireturn, 1) := by decide +kernel
theorem eX6_exchange_23 : decode (zYb kX6_exchange) 23 = .ok (.aload_n 0, 1) := by decide +kernel
theorem eX6_exchange_24 : decode (zYb kX6_exchange) 24 = .ok (.getfield 26, 3) := by decide +kernel
theorem eX6_exchange_27 : decode (zYb kX6_exchange) 27 = .ok (.aload_n 0, 1) := by decide +kernel
theorem eX6_exchange_28 : decode (zYb kX6_exchange) 28 = .ok (.getfield 10, 3) := by decide +kernel
theorem eX6_exchange_31 : decode (zYb kX6_exchange) 31 = .ok (.invokevirtual 67, 3) := by decide +kernel
theorem eX6_exchange_34 : decode (zYb kX6_exchange) 34 = .ok (.aload_n 3, 1) := by decide +kernel
theorem eX6_exchange_35 : decode (zYb kX6_exchange) 35 = .ok (.iload_n 2, 1) := by decide +kernel
theorem eX6_exchange_36 : decode (zYb kX6_exchange) 36 = .ok (.invokevirtual 119, 3) := by decide +kernel
theorem eX6_exchange_39 : decode (zYb kX6_exchange) 39 = .ok (.aload_n 0, 1) := by decide +kernel
theorem eX6_exchange_40 : decode (zYb kX6_exchange) 40 = .ok (.aload_n 3, 1) := by decide +kernel
theorem eX6_exchange_41 : decode (zYb kX6_exchange) 41 = .ok (.invokevirtual 122, 3) := by decide +kernel
theorem eX6_exchange_44 : decode (zYb kX6_exchange) 44 = .ok (.ireturn, 1) := by decide +kernel
theorem eX6_join_0 : decode (zYb kX6_join) 0 = .ok (.aload_n 0, 1) := by decide +kernel
theorem eX6_join_1 : decode (zYb kX6_join) 1 = .ok (.getfield 10, 3) := by decide +kernel
theorem eX6_join_4 : decode (zYb kX6_join) 4 = .ok (.iload_n 1, 1) := by decide +kernel
theorem eX6_join_5 : decode (zYb kX6_join) 5 = .ok (.invokevirtual 77, 3) := by decide +kernel
theorem eX6_join_8 : decode (zYb kX6_join) 8 = .ok (.astore_n 3, 1) := by decide +kernel
theorem eX6_join_9 : decode (zYb kX6_join) 9 = .ok (.aload_n 0, 1) := by decide +kernel
theorem eX6_join_10 : decode (zYb kX6_join) 10 = .ok (.getfield 10, 3) := by decide +kernel
theorem eX6_join_13 : decode (zYb kX6_join) 13 = .ok (.iload_n 2, 1) := by decide +kernel
theorem eX6_join_14 : decode (zYb kX6_join) 14 = .ok (.invokevirtual 77, 3) := by decide +kernel
theorem eX6_join_17 : decode (zYb kX6_join) 17 = .ok (.astore 4, 2) := by decide +kernel
theorem eX6_join_19 : decode (zYb kX6_join) 19 = .ok (.aload_n 3, 1) := by decide +kernel
theorem eX6_join_20 : decode (zYb kX6_join) 20 = .ok (.ifnull 8, 3) := by decide +kernel
theorem eX6_join_23 : decode (zYb kX6_join) 23 = .ok (.aload 4, 2) := by decide +kernel
theorem eX6_join_25 : decode (zYb kX6_join) 25 = .ok (.ifnonnull 5, 3) := by decide +kernel
theorem eX6_join_28 : decode (zYb kX6_join) 28 = .ok (.iconst (-1), 1) := by decide +kernel
theorem eX6_join_29 : decode (zYb kX6_join) 29 = .ok (.ireturn, 1) := by decide +kernel
theorem eX6_join_30 : decode (zYb kX6_join) 30 = .ok (.iload_n 1, 1) := by decide +kernel
theorem eX6_join_31 : decode (zYb kX6_join) 31 = .ok (.iload_n 2, 1) := by decide +kernel
theorem eX6_join_32 : decode (zYb kX6_join) 32 = .ok (.if_icmp .ne 6, 3) := by decide +kernel
theorem eX6_join_35 : decode (zYb kX6_join) 35 = .ok (.bipush (-2), 2) := by decide +kernel
theorem eX6_join_37 : decode (zYb kX6_join) 37 = .ok (.ireturn, 1) := by decide +kernel
theorem eX6_join_38 : decode (zYb kX6_join) 38 = .ok (.aload 4, 2) := by decide +kernel
theorem eX6_join_40 : decode (zYb kX6_join) 40 = .ok (.getfield 96, 3) := by decide +kernel
theorem eX6_join_43 : decode (zYb kX6_join) 43 = .ok (.aload_n 3, 1) := by decide +kernel
theorem eX6_join_44 : decode (zYb kX6_join) 44 = .ok (.getfield 96, 3) := by decide +kernel
theorem eX6_join_47 : decode (zYb kX6_join) 47 = .ok (.iadd, 1) := by decide +kernel
theorem eX6_join_48 : decode (zYb kX6_join) 48 = .ok (.iconst 5, 1) := by decide +kernel
theorem eX6_join_49 : decode (zYb kX6_join) 49 = .ok (.if_icmp .le 6, 3) := by decide +kernel
theorem eX6_join_52 : decode (zYb kX6_join) 52 = .ok (.bipush (-4), 2) := by decide +kernel
theorem eX6_join_54 : decode (zYb kX6_join) 54 = .ok (.ireturn, 1) := by decide +kernel
theorem eX6_join_55 : decode (zYb kX6_join) 55 = .ok (.aload_n 0, 1) := by decide +kernel
theorem eX6_join_56 : decode (zYb kX6_join) 56 = .ok (.getfield 26, 3) := by decide +kernel
theorem eX6_join_59 : decode (zYb kX6_join) 59 = .ok (.aload_n 0, 1) := by decide +kernel
theorem eX6_join_60 : decode (zYb kX6_join) 60 = .ok (.getfield 10, 3) := by decide +kernel
theorem eX6_join_63 : decode (zYb kX6_join) 63 = .ok (.invokevirtual 67, 3) := by decide +kernel
theorem eX6_join_66 : decode (zYb kX6_join) 66 = .ok (.aload 4, 2) := by decide +kernel
theorem eX6_join_68 : decode (zYb kX6_join) 68 = .ok (.aload_n 3, 1) := by decide +kernel
theorem eX6_join_69 : decode (zYb kX6_join) 69 = .ok (.invokevirtual 126, 3) := by decide +kernel
theorem eX6_join_72 : decode (zYb kX6_join) 72 = .ok (.aload_n 0, 1) := by decide +kernel
theorem eX6_join_73 : decode (zYb kX6_join) 73 = .ok (.getfield 10, 3) := by decide +kernel
theorem eX6_join_76 : decode (zYb kX6_join) 76 = .ok (.iload_n 1, 1) := by decide +kernel
theorem eX6_join_77 : decode (zYb kX6_join) 77 = .ok (.invokevirtual 84, 3) := by decide +kernel
theorem eX6_join_80 : decode (zYb kX6_join) 80 = .ok (.iload_n 1, 1) := by decide +kernel
theorem eX6_join_81 : decode (zYb kX6_join) 81 = .ok (.iload_n 2, 1) := by decide +kernel
theorem eX6_join_82 : decode (zYb kX6_join) 82 = .ok (.if_icmp .ge 9, 3) := by decide +kernel
theorem eX6_join_85 : decode (zYb kX6_join) 85 = .ok (.iload_n 2, 1) := by decide +kernel
theorem eX6_join_86 : decode (zYb kX6_join) 86 = .ok (.iconst 1, 1) := by decide +kernel
theorem eX6_join_87 : decode (zYb kX6_join) 87 = .ok (.isub, 1) := by decide +kernel
theorem eX6_join_88 : decode (zYb kX6_join) 88 = .ok (.goto 4, 3) := by decide +kernel
theorem eX6_join_91 : decode (zYb kX6_join) 91 = .ok (.iload_n 2, 1) := by decide +kernel
theorem eX6_join_92 : decode (zYb kX6_join) 92 = .ok (.ireturn, 1) := by decide +kernel
theorem eX6_scroll_0 : decode (zYb kX6_scroll) 0 = .ok (.aload_n 0, 1) := by decide +kernel
theorem eX6_scroll_1 : decode (zYb kX6_scroll) 1 = .ok (.getfield 10, 3) := by decide +kernel
theorem eX6_scroll_4 : decode (zYb kX6_scroll) 4 = .ok (.iload_n 1, 1) := by decide +kernel
theorem eX6_scroll_5 : decode (zYb kX6_scroll) 5 = .ok (.invokevirtual 77, 3) := by decide +kernel
theorem eX6_scroll_8 : decode (zYb kX6_scroll) 8 = .ok (.astore_n 3, 1) := by decide +kernel
theorem eX6_scroll_9 : decode (zYb kX6_scroll) 9 = .ok (.aload_n 3, 1) := by decide +kernel
theorem eX6_scroll_10 : decode (zYb kX6_scroll) 10 = .ok (.ifnonnull 5, 3) := by decide +kernel
theorem eX6_scroll_13 : decode (zYb kX6_scroll) 13 = .ok (.iconst (-1), 1) := by decide +kernel
theorem eX6_scroll_14 : decode (zYb kX6_scroll) 14 = .ok (.ireturn, 1) := by decide +kernel
theorem eX6_scroll_15 : decode (zYb kX6_scroll) 15 = .ok (.iload_n 2, 1) := by decide +kernel
theorem eX6_scroll_16 : decode (zYb kX6_scroll) 16 = .ok (.tableswitch 82 0 6 #[44, 49, 54, 60, 65, 70, 76], 44) := by decide +kernel
theorem eX6_scroll_60 : decode (zYb kX6_scroll) 60 = .ok (.aload_n 3, 1) := by decide +kernel
theorem eX6_scroll_61 : decode (zYb kX6_scroll) 61 = .ok (.getfield 96, 3) := by decide +kernel
theorem eX6_scroll_64 : decode (zYb kX6_scroll) 64 = .ok (.ireturn, 1) := by decide +kernel
theorem eX6_scroll_65 : decode (zYb kX6_scroll) 65 = .ok (.aload_n 3, 1) := by decide +kernel
theorem eX6_scroll_66 : decode (zYb kX6_scroll) 66 = .ok (.invokevirtual 81, 3) := by decide +kernel
theorem eX6_scroll_69 : decode (zYb kX6_scroll) 69 = .ok (.ireturn, 1) := by decide +kernel
theorem eX6_scroll_70 : decode (zYb kX6_scroll) 70 = .ok (.aload_n 0, 1) := by decide +kernel
theorem eX6_scroll_71 : decode (zYb kX6_scroll) 71 = .ok (.aload_n 3, 1) := by decide +kernel
theorem eX6_scroll_72 : decode (zYb kX6_scroll) 72 = .ok (.invokevirtual 122, 3) := by decide +kernel
theorem eX6_scroll_75 : decode (zYb kX6_scroll) 75 = .ok (.ireturn, 1) := by decide +kernel
theorem eX6_scroll_76 : decode (zYb kX6_scroll) 76 = .ok (.aload_n 3, 1) := by decide +kernel
theorem eX6_scroll_77 : decode (zYb kX6_scroll) 77 = .ok (.invokevirtual 130, 3) := by decide +kernel
theorem eX6_scroll_80 : decode (zYb kX6_scroll) 80 = .ok (.ireturn, 1) := by decide +kernel
theorem eX6_scroll_81 : decode (zYb kX6_scroll) 81 = .ok (.aload_n 3, 1) := by decide +kernel
theorem eX6_scroll_82 : decode (zYb kX6_scroll) 82 = .ok (.invokevirtual 133, 3) := by decide +kernel
theorem eX6_scroll_85 : decode (zYb kX6_scroll) 85 = .ok (.ireturn, 1) := by decide +kernel
theorem eX6_scroll_86 : decode (zYb kX6_scroll) 86 = .ok (.aload_n 0, 1) := by decide +kernel
theorem eX6_scroll_87 : decode (zYb kX6_scroll) 87 = .ok (.aload_n 3, 1) := by decide +kernel
theorem eX6_scroll_88 : decode (zYb kX6_scroll) 88 = .ok (.invokevirtual 136, 3) := by decide +kernel
theorem eX6_scroll_91 : decode (zYb kX6_scroll) 91 = .ok (.ireturn, 1) := by decide +kernel
theorem eX6_scroll_92 : decode (zYb kX6_scroll) 92 = .ok (.aload_n 0, 1) := by decide +kernel
theorem eX6_scroll_93 : decode (zYb kX6_scroll) 93 = .ok (.aload_n 3, 1) := by decide +kernel
theorem eX6_scroll_94 : decode (zYb kX6_scroll) 94 = .ok (.invokevirtual 139, 3) := by decide +kernel
theorem eX6_scroll_97 : decode (zYb kX6_scroll) 97 = .ok (.ireturn, 1) := by decide +kernel
theorem eX6_scroll_98 : decode (zYb kX6_scroll) 98 = .ok (.bipush (-2), 2) := by decide +kernel
theorem eX6_scroll_100 : decode (zYb kX6_scroll) 100 = .ok (.ireturn, 1) := by decide +kernel
theorem eX6_patch_0 : decode (zYb kX6_patch) 0 = .ok (.aload_n 0, 1) := by decide +kernel
theorem eX6_patch_1 : decode (zYb kX6_patch) 1 = .ok (.getfield 10, 3) := by decide +kernel
theorem eX6_patch_4 : decode (zYb kX6_patch) 4 = .ok (.iload_n 1, 1) := by decide +kernel
theorem eX6_patch_5 : decode (zYb kX6_patch) 5 = .ok (.invokevirtual 77, 3) := by decide +kernel
theorem eX6_patch_8 : decode (zYb kX6_patch) 8 = .ok (.astore_n 3, 1) := by decide +kernel
theorem eX6_patch_9 : decode (zYb kX6_patch) 9 = .ok (.aload_n 3, 1) := by decide +kernel
theorem eX6_patch_10 : decode (zYb kX6_patch) 10 = .ok (.ifnull 11, 3) := by decide +kernel
theorem eX6_patch_13 : decode (zYb kX6_patch) 13 = .ok (.aload_n 3, 1) := by decide +kernel
theorem eX6_patch_14 : decode (zYb kX6_patch) 14 = .ok (.iload_n 2, 1) := by decide +kernel
theorem eX6_patch_15 : decode (zYb kX6_patch) 15 = .ok (.invokevirtual 88, 3) := by decide +kernel
theorem eX6_patch_18 : decode (zYb kX6_patch) 18 = .ok (.ifCond .ne 5, 3) := by decide +kernel
theorem eX6_patch_21 : decode (zYb kX6_patch) 21 = .ok (.iconst (-1), 1) := by decide +kernel
theorem eX6_patch_22 : decode (zYb kX6_patch) 22 = .ok (.ireturn, 1) := by decide +kernel
theorem eX6_patch_23 : decode (zYb kX6_patch) 23 = .ok (.aload_n 3, 1) := by decide +kernel
theorem eX6_patch_24 : decode (zYb kX6_patch) 24 = .ok (.iload_n 2, 1) := by decide +kernel
theorem eX6_patch_25 : decode (zYb kX6_patch) 25 = .ok (.invokevirtual 106, 3) := by decide +kernel
theorem eX6_patch_28 : decode (zYb kX6_patch) 28 = .ok (.ireturn, 1) := by decide +kernel
theorem eX6_letter_0 : decode (zYb kX6_letter) 0 = .ok (.aload_n 0, 1) := by decide +kernel
theorem eX6_letter_1 : decode (zYb kX6_letter) 1 = .ok (.getfield 10, 3) := by decide +kernel
theorem eX6_letter_4 : decode (zYb kX6_letter) 4 = .ok (.iload_n 1, 1) := by decide +kernel
theorem eX6_letter_5 : decode (zYb kX6_letter) 5 = .ok (.invokevirtual 77, 3) := by decide +kernel
theorem eX6_letter_8 : decode (zYb kX6_letter) 8 = .ok (.astore 4, 2) := by decide +kernel
theorem eX6_letter_10 : decode (zYb kX6_letter) 10 = .ok (.aload 4, 2) := by decide +kernel
theorem eX6_letter_12 : decode (zYb kX6_letter) 12 = .ok (.ifnull 12, 3) := by decide +kernel
theorem eX6_letter_15 : decode (zYb kX6_letter) 15 = .ok (.aload 4, 2) := by decide +kernel
theorem eX6_letter_17 : decode (zYb kX6_letter) 17 = .ok (.iload_n 2, 1) := by decide +kernel
theorem eX6_letter_18 : decode (zYb kX6_letter) 18 = .ok (.invokevirtual 88, 3) := by decide +kernel
theorem eX6_letter_21 : decode (zYb kX6_letter) 21 = .ok (.ifCond .ne 5, 3) := by decide +kernel
theorem eX6_letter_24 : decode (zYb kX6_letter) 24 = .ok (.iconst (-1), 1) := by decide +kernel
theorem eX6_letter_25 : decode (zYb kX6_letter) 25 = .ok (.ireturn, 1) := by decide +kernel
theorem eX6_letter_26 : decode (zYb kX6_letter) 26 = .ok (.iload_n 3, 1) := by decide +kernel
theorem eX6_letter_27 : decode (zYb kX6_letter) 27 = .ok (.ifCond .lt 13, 3) := by decide +kernel
theorem eX6_letter_30 : decode (zYb kX6_letter) 30 = .ok (.iload_n 3, 1) := by decide +kernel
theorem eX6_letter_31 : decode (zYb kX6_letter) 31 = .ok (.aload 4, 2) := by decide +kernel
theorem eX6_letter_33 : decode (zYb kX6_letter) 33 = .ok (.iload_n 2, 1) := by decide +kernel
theorem eX6_letter_34 : decode (zYb kX6_letter) 34 = .ok (.invokevirtual 106, 3) := by decide +kernel
theorem eX6_letter_37 : decode (zYb kX6_letter) 37 = .ok (.if_icmp .lt 5, 3) := by decide +kernel
theorem eX6_letter_40 : decode (zYb kX6_letter) 40 = .ok (.iconst (-1), 1) := by decide +kernel
theorem eX6_letter_41 : decode (zYb kX6_letter) 41 = .ok (.ireturn, 1) := by decide +kernel
theorem eX6_letter_42 : decode (zYb kX6_letter) 42 = .ok (.aload 4, 2) := by decide +kernel
theorem eX6_letter_44 : decode (zYb kX6_letter) 44 = .ok (.aload 4, 2) := by decide +kernel
theorem eX6_letter_46 : decode (zYb kX6_letter) 46 = .ok (.iload_n 2, 1) := by decide +kernel
theorem eX6_letter_47 : decode (zYb kX6_letter) 47 = .ok (.invokevirtual 142, 3) := by decide +kernel
theorem eX6_letter_50 : decode (zYb kX6_letter) 50 = .ok (.iload_n 3, 1) := by decide +kernel
theorem eX6_letter_51 : decode (zYb kX6_letter) 51 = .ok (.iadd, 1) := by decide +kernel
theorem eX6_letter_52 : decode (zYb kX6_letter) 52 = .ok (.invokevirtual 145, 3) := by decide +kernel
theorem eX6_letter_55 : decode (zYb kX6_letter) 55 = .ok (.ireturn, 1) := by decide +kernel
theorem eX6_reading_0 : decode (zYb kX6_reading) 0 = .ok (.aload_n 0, 1) := by decide +kernel
theorem eX6_reading_1 : decode (zYb kX6_reading) 1 = .ok (.getfield 10, 3) := by decide +kernel
theorem eX6_reading_4 : decode (zYb kX6_reading) 4 = .ok (.iload_n 1, 1) := by decide +kernel
theorem eX6_reading_5 : decode (zYb kX6_reading) 5 = .ok (.invokevirtual 77, 3) := by decide +kernel
theorem eX6_reading_8 : decode (zYb kX6_reading) 8 = .ok (.astore 4, 2) := by decide +kernel
theorem eX6_reading_10 : decode (zYb kX6_reading) 10 = .ok (.aload 4, 2) := by decide +kernel
theorem eX6_reading_12 : decode (zYb kX6_reading) 12 = .ok (.ifnull 20, 3) := by decide +kernel
theorem eX6_reading_15 : decode (zYb kX6_reading) 15 = .ok (.iload_n 2, 1) := by decide +kernel
theorem eX6_reading_16 : decode (zYb kX6_reading) 16 = .ok (.ifCond .lt 16, 3) := by decide +kernel
theorem eX6_reading_19 : decode (zYb kX6_reading) 19 = .ok (.iload_n 3, 1) := by decide +kernel
theorem eX6_reading_20 : decode (zYb kX6_reading) 20 = .ok (.ifCond .lt 12, 3) := by decide +kernel
theorem eX6_reading_23 : decode (zYb kX6_reading) 23 = .ok (.iload_n 3, 1) := by decide +kernel
theorem eX6_reading_24 : decode (zYb kX6_reading) 24 = .ok (.aload 4, 2) := by decide +kernel
theorem eX6_reading_26 : decode (zYb kX6_reading) 26 = .ok (.invokevirtual 81, 3) := by decide +kernel
theorem eX6_reading_29 : decode (zYb kX6_reading) 29 = .ok (.if_icmp .lt 5, 3) := by decide +kernel
theorem eX6_reading_32 : decode (zYb kX6_reading) 32 = .ok (.iconst (-1), 1) := by decide +kernel
theorem eX6_reading_33 : decode (zYb kX6_reading) 33 = .ok (.ireturn, 1) := by decide +kernel
theorem eX6_reading_34 : decode (zYb kX6_reading) 34 = .ok (.aload_n 0, 1) := by decide +kernel
theorem eX6_reading_35 : decode (zYb kX6_reading) 35 = .ok (.getfield 41, 3) := by decide +kernel
theorem eX6_reading_38 : decode (zYb kX6_reading) 38 = .ok (.aload 4, 2) := by decide +kernel
theorem eX6_reading_40 : decode (zYb kX6_reading) 40 = .ok (.invokevirtual 148, 3) := by decide +kernel
theorem eX6_reading_43 : decode (zYb kX6_reading) 43 = .ok (.iconst 0, 1) := by decide +kernel
theorem eX6_reading_44 : decode (zYb kX6_reading) 44 = .ok (.istore 5, 2) := by decide +kernel
theorem eX6_reading_46 : decode (zYb kX6_reading) 46 = .ok (.iload 5, 2) := by decide +kernel
theorem eX6_reading_48 : decode (zYb kX6_reading) 48 = .ok (.sipush 128, 3) := by decide +kernel
theorem eX6_reading_51 : decode (zYb kX6_reading) 51 = .ok (.if_icmp .ge 34, 3) := by decide +kernel
theorem eX6_reading_54 : decode (zYb kX6_reading) 54 = .ok (.aload_n 0, 1) := by decide +kernel
theorem eX6_reading_55 : decode (zYb kX6_reading) 55 = .ok (.getfield 41, 3) := by decide +kernel
theorem eX6_reading_58 : decode (zYb kX6_reading) 58 = .ok (.invokevirtual 151, 3) := by decide +kernel
theorem eX6_reading_61 : decode (zYb kX6_reading) 61 = .ok (.ifCond .eq 24, 3) := by decide +kernel
theorem eX6_reading_64 : decode (zYb kX6_reading) 64 = .ok (.iload 5, 2) := by decide +kernel
theorem eX6_reading_66 : decode (zYb kX6_reading) 66 = .ok (.iload_n 2, 1) := by decide +kernel
theorem eX6_reading_67 : decode (zYb kX6_reading) 67 = .ok (.if_icmp .ne 12, 3) := by decide +kernel
theorem eX6_reading_70 : decode (zYb kX6_reading) 70 = .ok (.aload_n 0, 1) := by decide +kernel
theorem eX6_reading_71 : decode (zYb kX6_reading) 71 = .ok (.getfield 41, 3) := by decide +kernel
theorem eX6_reading_74 : decode (zYb kX6_reading) 74 = .ok (.iload_n 3, 1) := by decide +kernel
theorem eX6_reading_75 : decode (zYb kX6_reading) 75 = .ok (.invokevirtual 155, 3) := by decide +kernel
theorem eX6_reading_78 : decode (zYb kX6_reading) 78 = .ok (.ireturn, 1) := by decide +kernel
theorem eX6_reading_79 : decode (zYb kX6_reading) 79 = .ok (.iinc 5 1, 3) := by decide +kernel
theorem eX6_reading_82 : decode (zYb kX6_reading) 82 = .ok (.goto (-36), 3) := by decide +kernel
theorem eX6_reading_85 : decode (zYb kX6_reading) 85 = .ok (.iconst (-1), 1) := by decide +kernel
theorem eX6_reading_86 : decode (zYb kX6_reading) 86 = .ok (.ireturn, 1) := by decide +kernel
theorem eX6_find_0 : decode (zYb kX6_find) 0 = .ok (.aload_n 0, 1) := by decide +kernel
theorem eX6_find_1 : decode (zYb kX6_find) 1 = .ok (.getfield 10, 3) := by decide +kernel
theorem eX6_find_4 : decode (zYb kX6_find) 4 = .ok (.iload_n 1, 1) := by decide +kernel
theorem eX6_find_5 : decode (zYb kX6_find) 5 = .ok (.invokevirtual 77, 3) := by decide +kernel
theorem eX6_find_8 : decode (zYb kX6_find) 8 = .ok (.astore_n 3, 1) := by decide +kernel
theorem eX6_find_9 : decode (zYb kX6_find) 9 = .ok (.aload_n 3, 1) := by decide +kernel
theorem eX6_find_10 : decode (zYb kX6_find) 10 = .ok (.ifnonnull 5, 3) := by decide +kernel
theorem eX6_find_13 : decode (zYb kX6_find) 13 = .ok (.iconst (-1), 1) := by decide +kernel
theorem eX6_find_14 : decode (zYb kX6_find) 14 = .ok (.ireturn, 1) := by decide +kernel
theorem eX6_find_15 : decode (zYb kX6_find) 15 = .ok (.iload_n 2, 1) := by decide +kernel
theorem eX6_find_16 : decode (zYb kX6_find) 16 = .ok (.ifCond .lt 8, 3) := by decide +kernel
theorem eX6_find_19 : decode (zYb kX6_find) 19 = .ok (.iload_n 2, 1) := by decide +kernel
theorem eX6_find_20 : decode (zYb kX6_find) 20 = .ok (.iconst 3, 1) := by decide +kernel
theorem eX6_find_21 : decode (zYb kX6_find) 21 = .ok (.if_icmp .le 6, 3) := by decide +kernel
theorem eX6_find_24 : decode (zYb kX6_find) 24 = .ok (.bipush (-2), 2) := by decide +kernel
theorem eX6_find_26 : decode (zYb kX6_find) 26 = .ok (.ireturn, 1) := by decide +kernel
theorem eX6_find_27 : decode (zYb kX6_find) 27 = .ok (.aload_n 0, 1) := by decide +kernel
theorem eX6_find_28 : decode (zYb kX6_find) 28 = .ok (.getfield 19, 3) := by decide +kernel
theorem eX6_find_31 : decode (zYb kX6_find) 31 = .ok (.invokevirtual 156, 3) := by decide +kernel
theorem eX6_find_34 : decode (zYb kX6_find) 34 = .ok (.ifCond .ne 6, 3) := by decide +kernel
theorem eX6_find_37 : decode (zYb kX6_find) 37 = .ok (.bipush (-3), 2) := by decide +kernel
theorem eX6_find_39 : decode (zYb kX6_find) 39 = .ok (.ireturn, 1) := by decide +kernel
theorem eX6_find_40 : decode (zYb kX6_find) 40 = .ok (.aload_n 0, 1) := by decide +kernel
theorem eX6_find_41 : decode (zYb kX6_find) 41 = .ok (.aload_n 3, 1) := by decide +kernel
theorem eX6_find_42 : decode (zYb kX6_find) 42 = .ok (.iload_n 2, 1) := by decide +kernel
theorem eX6_find_43 : decode (zYb kX6_find) 43 = .ok (.invokevirtual 159, 3) := by decide +kernel
theorem eX6_find_46 : decode (zYb kX6_find) 46 = .ok (.ireturn, 1) := by decide +kernel
theorem eX6_shared_0 : decode (zYb kX6_shared) 0 = .ok (.aload_n 0, 1) := by decide +kernel
theorem eX6_shared_1 : decode (zYb kX6_shared) 1 = .ok (.getfield 10, 3) := by decide +kernel
theorem eX6_shared_4 : decode (zYb kX6_shared) 4 = .ok (.iload_n 1, 1) := by decide +kernel
theorem eX6_shared_5 : decode (zYb kX6_shared) 5 = .ok (.invokevirtual 77, 3) := by decide +kernel
theorem eX6_shared_8 : decode (zYb kX6_shared) 8 = .ok (.astore_n 3, 1) := by decide +kernel
theorem eX6_shared_9 : decode (zYb kX6_shared) 9 = .ok (.aload_n 0, 1) := by decide +kernel
theorem eX6_shared_10 : decode (zYb kX6_shared) 10 = .ok (.getfield 10, 3) := by decide +kernel
theorem eX6_shared_13 : decode (zYb kX6_shared) 13 = .ok (.iload_n 2, 1) := by decide +kernel
theorem eX6_shared_14 : decode (zYb kX6_shared) 14 = .ok (.invokevirtual 77, 3) := by decide +kernel
theorem eX6_shared_17 : decode (zYb kX6_shared) 17 = .ok (.astore 4, 2) := by decide +kernel
theorem eX6_shared_19 : decode (zYb kX6_shared) 19 = .ok (.aload_n 3, 1) := by decide +kernel
theorem eX6_shared_20 : decode (zYb kX6_shared) 20 = .ok (.ifnull 8, 3) := by decide +kernel
theorem eX6_shared_23 : decode (zYb kX6_shared) 23 = .ok (.aload 4, 2) := by decide +kernel
theorem eX6_shared_25 : decode (zYb kX6_shared) 25 = .ok (.ifnonnull 5, 3) := by decide +kernel
theorem eX6_shared_28 : decode (zYb kX6_shared) 28 = .ok (.iconst (-1), 1) := by decide +kernel
theorem eX6_shared_29 : decode (zYb kX6_shared) 29 = .ok (.ireturn, 1) := by decide +kernel
theorem eX6_shared_30 : decode (zYb kX6_shared) 30 = .ok (.aload_n 0, 1) := by decide +kernel
theorem eX6_shared_31 : decode (zYb kX6_shared) 31 = .ok (.aload_n 3, 1) := by decide +kernel
theorem eX6_shared_32 : decode (zYb kX6_shared) 32 = .ok (.aload 4, 2) := by decide +kernel
theorem eX6_shared_34 : decode (zYb kX6_shared) 34 = .ok (.invokevirtual 163, 3) := by decide +kernel
theorem eX6_shared_37 : decode (zYb kX6_shared) 37 = .ok (.ireturn, 1) := by decide +kernel
theorem eX6_compare_0 : decode (zYb kX6_compare) 0 = .ok (.aload_n 0, 1) := by decide +kernel
theorem eX6_compare_1 : decode (zYb kX6_compare) 1 = .ok (.getfield 10, 3) := by decide +kernel
theorem eX6_compare_4 : decode (zYb kX6_compare) 4 = .ok (.iload_n 1, 1) := by decide +kernel
theorem eX6_compare_5 : decode (zYb kX6_compare) 5 = .ok (.invokevirtual 77, 3) := by decide +kernel
theorem eX6_compare_8 : decode (zYb kX6_compare) 8 = .ok (.astore_n 3, 1) := by decide +kernel
theorem eX6_compare_9 : decode (zYb kX6_compare) 9 = .ok (.aload_n 0, 1) := by decide +kernel
theorem eX6_compare_10 : decode (zYb kX6_compare) 10 = .ok (.getfield 10, 3) := by decide +kernel
theorem eX6_compare_13 : decode (zYb kX6_compare) 13 = .ok (.iload_n 2, 1) := by decide +kernel
theorem eX6_compare_14 : decode (zYb kX6_compare) 14 = .ok (.invokevirtual 77, 3) := by decide +kernel
theorem eX6_compare_17 : decode (zYb kX6_compare) 17 = .ok (.astore 4, 2) := by decide +kernel
theorem eX6_compare_19 : decode (zYb kX6_compare) 19 = .ok (.aload_n 3, 1) := by decide +kernel
theorem eX6_compare_20 : decode (zYb kX6_compare) 20 = .ok (.ifnull 8, 3) := by decide +kernel
theorem eX6_compare_23 : decode (zYb kX6_compare) 23 = .ok (.aload 4, 2) := by decide +kernel
theorem eX6_compare_25 : decode (zYb kX6_compare) 25 = .ok (.ifnonnull 5, 3) := by decide +kernel
theorem eX6_compare_28 : decode (zYb kX6_compare) 28 = .ok (.iconst (-1), 1) := by decide +kernel
theorem eX6_compare_29 : decode (zYb kX6_compare) 29 = .ok (.ireturn, 1) := by decide +kernel
theorem eX6_compare_30 : decode (zYb kX6_compare) 30 = .ok (.aload_n 0, 1) := by decide +kernel
theorem eX6_compare_31 : decode (zYb kX6_compare) 31 = .ok (.aload_n 3, 1) := by decide +kernel
theorem eX6_compare_32 : decode (zYb kX6_compare) 32 = .ok (.aload 4, 2) := by decide +kernel
theorem eX6_compare_34 : decode (zYb kX6_compare) 34 = .ok (.invokevirtual 163, 3) := by decide +kernel
theorem eX6_compare_37 : decode (zYb kX6_compare) 37 = .ok (.istore 5, 2) := by decide +kernel
theorem eX6_compare_39 : decode (zYb kX6_compare) 39 = .ok (.iload 5, 2) := by decide +kernel
theorem eX6_compare_41 : decode (zYb kX6_compare) 41 = .ok (.ifCond .ne 5, 3) := by decide +kernel
theorem eX6_compare_44 : decode (zYb kX6_compare) 44 = .ok (.iconst 0, 1) := by decide +kernel
theorem eX6_compare_45 : decode (zYb kX6_compare) 45 = .ok (.ireturn, 1) := by decide +kernel
theorem eX6_compare_46 : decode (zYb kX6_compare) 46 = .ok (.iload 5, 2) := by decide +kernel
theorem eX6_compare_48 : decode (zYb kX6_compare) 48 = .ok (.aload_n 0, 1) := by decide +kernel
theorem eX6_compare_49 : decode (zYb kX6_compare) 49 = .ok (.aload_n 3, 1) := by decide +kernel
theorem eX6_compare_50 : decode (zYb kX6_compare) 50 = .ok (.invokevirtual 122, 3) := by decide +kernel
theorem eX6_compare_53 : decode (zYb kX6_compare) 53 = .ok (.if_icmp .ne 7, 3) := by decide +kernel
theorem eX6_compare_56 : decode (zYb kX6_compare) 56 = .ok (.iconst 1, 1) := by decide +kernel
theorem eX6_compare_57 : decode (zYb kX6_compare) 57 = .ok (.goto 4, 3) := by decide +kernel
theorem eX6_compare_60 : decode (zYb kX6_compare) 60 = .ok (.iconst 0, 1) := by decide +kernel
theorem eX6_compare_61 : decode (zYb kX6_compare) 61 = .ok (.istore 6, 2) := by decide +kernel
theorem eX6_compare_63 : decode (zYb kX6_compare) 63 = .ok (.iload 5, 2) := by decide +kernel
theorem eX6_compare_65 : decode (zYb kX6_compare) 65 = .ok (.aload_n 0, 1) := by decide +kernel
theorem eX6_compare_66 : decode (zYb kX6_compare) 66 = .ok (.aload 4, 2) := by decide +kernel
theorem eX6_compare_68 : decode (zYb kX6_compare) 68 = .ok (.invokevirtual 122, 3) := by decide +kernel
theorem eX6_compare_71 : decode (zYb kX6_compare) 71 = .ok (.if_icmp .ne 7, 3) := by decide +kernel
theorem eX6_compare_74 : decode (zYb kX6_compare) 74 = .ok (.iconst 1, 1) := by decide +kernel
theorem eX6_compare_75 : decode (zYb kX6_compare) 75 = .ok (.goto 4, 3) := by decide +kernel
theorem eX6_compare_78 : decode (zYb kX6_compare) 78 = .ok (.iconst 0, 1) := by decide +kernel
theorem eX6_compare_79 : decode (zYb kX6_compare) 79 = .ok (.istore 7, 2) := by decide +kernel
theorem eX6_compare_81 : decode (zYb kX6_compare) 81 = .ok (.iload 6, 2) := by decide +kernel
theorem eX6_compare_83 : decode (zYb kX6_compare) 83 = .ok (.ifCond .eq 10, 3) := by decide +kernel
theorem eX6_compare_86 : decode (zYb kX6_compare) 86 = .ok (.iload 7, 2) := by decide +kernel
theorem eX6_compare_88 : decode (zYb kX6_compare) 88 = .ok (.ifCond .eq 5, 3) := by decide +kernel
theorem eX6_compare_91 : decode (zYb kX6_compare) 91 = .ok (.iconst 4, 1) := by decide +kernel
theorem eX6_compare_92 : decode (zYb kX6_compare) 92 = .ok (.ireturn, 1) := by decide +kernel
theorem eX6_compare_93 : decode (zYb kX6_compare) 93 = .ok (.iload 6, 2) := by decide +kernel
theorem eX6_compare_95 : decode (zYb kX6_compare) 95 = .ok (.ifCond .eq 5, 3) := by decide +kernel
theorem eX6_compare_98 : decode (zYb kX6_compare) 98 = .ok (.iconst 2, 1) := by decide +kernel
theorem eX6_compare_99 : decode (zYb kX6_compare) 99 = .ok (.ireturn, 1) := by decide +kernel
theorem eX6_compare_100 : decode (zYb kX6_compare) 100 = .ok (.iload 7, 2) := by decide +kernel
theorem eX6_compare_102 : decode (zYb kX6_compare) 102 = .ok (.ifCond .eq 7, 3) := by decide +kernel
theorem eX6_compare_105 : decode (zYb kX6_compare) 105 = .ok (.iconst 3, 1) := by decide +kernel
theorem eX6_compare_106 : decode (zYb kX6_compare) 106 = .ok (.goto 4, 3) := by decide +kernel
theorem eX6_compare_109 : decode (zYb kX6_compare) 109 = .ok (.iconst 1, 1) := by decide +kernel
theorem eX6_compare_110 : decode (zYb kX6_compare) 110 = .ok (.ireturn, 1) := by decide +kernel
theorem eX6_count_0 : decode (zYb kX6_count) 0 = .ok (.iload_n 1, 1) := by decide +kernel
theorem eX6_count_1 : decode (zYb kX6_count) 1 = .ok (.tableswitch 93 0 6 #[43, 51, 59, 67, 72, 77, 85], 43) := by decide +kernel
theorem eX6_count_44 : decode (zYb kX6_count) 44 = .ok (.aload_n 0, 1) := by decide +kernel
theorem eX6_count_45 : decode (zYb kX6_count) 45 = .ok (.getfield 10, 3) := by decide +kernel
theorem eX6_count_48 : decode (zYb kX6_count) 48 = .ok (.getfield 60, 3) := by decide +kernel
theorem eX6_count_51 : decode (zYb kX6_count) 51 = .ok (.ireturn, 1) := by decide +kernel
theorem eX6_count_52 : decode (zYb kX6_count) 52 = .ok (.aload_n 0, 1) := by decide +kernel
theorem eX6_count_53 : decode (zYb kX6_count) 53 = .ok (.getfield 10, 3) := by decide +kernel
theorem eX6_count_56 : decode (zYb kX6_count) 56 = .ok (.invokevirtual 167, 3) := by decide +kernel
theorem eX6_count_59 : decode (zYb kX6_count) 59 = .ok (.ireturn, 1) := by decide +kernel
theorem eX6_count_60 : decode (zYb kX6_count) 60 = .ok (.aload_n 0, 1) := by decide +kernel
theorem eX6_count_61 : decode (zYb kX6_count) 61 = .ok (.getfield 10, 3) := by decide +kernel
theorem eX6_count_64 : decode (zYb kX6_count) 64 = .ok (.invokevirtual 170, 3) := by decide +kernel
theorem eX6_count_67 : decode (zYb kX6_count) 67 = .ok (.ireturn, 1) := by decide +kernel
theorem eX6_count_68 : decode (zYb kX6_count) 68 = .ok (.aload_n 0, 1) := by decide +kernel
theorem eX6_count_69 : decode (zYb kX6_count) 69 = .ok (.invokevirtual 173, 3) := by decide +kernel
theorem eX6_count_72 : decode (zYb kX6_count) 72 = .ok (.ireturn, 1) := by decide +kernel
theorem eX6_count_73 : decode (zYb kX6_count) 73 = .ok (.aload_n 0, 1) := by decide +kernel
theorem eX6_count_74 : decode (zYb kX6_count) 74 = .ok (.invokevirtual 176, 3) := by decide +kernel
theorem eX6_count_77 : decode (zYb kX6_count) 77 = .ok (.ireturn, 1) := by decide +kernel
theorem eX6_count_78 : decode (zYb kX6_count) 78 = .ok (.aload_n 0, 1) := by decide +kernel
theorem eX6_count_79 : decode (zYb kX6_count) 79 = .ok (.getfield 19, 3) := by decide +kernel
theorem eX6_count_82 : decode (zYb kX6_count) 82 = .ok (.getfield 179, 3) := by decide +kernel
theorem eX6_count_85 : decode (zYb kX6_count) 85 = .ok (.ireturn, 1) := by decide +kernel
theorem eX6_count_86 : decode (zYb kX6_count) 86 = .ok (.aload_n 0, 1) := by decide +kernel
theorem eX6_count_87 : decode (zYb kX6_count) 87 = .ok (.getfield 26, 3) := by decide +kernel
theorem eX6_count_90 : decode (zYb kX6_count) 90 = .ok (.getfield 181, 3) := by decide +kernel
theorem eX6_count_93 : decode (zYb kX6_count) 93 = .ok (.ireturn, 1) := by decide +kernel
theorem eX6_count_94 : decode (zYb kX6_count) 94 = .ok (.bipush (-2), 2) := by decide +kernel
theorem eX6_count_96 : decode (zYb kX6_count) 96 = .ok (.ireturn, 1) := by decide +kernel
theorem eX6_ifCut_0 : decode (zYb kX6_ifCut) 0 = .ok (.aload_n 0, 1) := by decide +kernel
theorem eX6_ifCut_1 : decode (zYb kX6_ifCut) 1 = .ok (.getfield 10, 3) := by decide +kernel
theorem eX6_ifCut_4 : decode (zYb kX6_ifCut) 4 = .ok (.iload_n 1, 1) := by decide +kernel
theorem eX6_ifCut_5 : decode (zYb kX6_ifCut) 5 = .ok (.invokevirtual 77, 3) := by decide +kernel
theorem eX6_ifCut_8 : decode (zYb kX6_ifCut) 8 = .ok (.astore 4, 2) := by decide +kernel
theorem eX6_ifCut_10 : decode (zYb kX6_ifCut) 10 = .ok (.aload 4, 2) := by decide +kernel
theorem eX6_ifCut_12 : decode (zYb kX6_ifCut) 12 = .ok (.ifnull 12, 3) := by decide +kernel
theorem eX6_ifCut_15 : decode (zYb kX6_ifCut) 15 = .ok (.aload 4, 2) := by decide +kernel
theorem eX6_ifCut_17 : decode (zYb kX6_ifCut) 17 = .ok (.iload_n 2, 1) := by decide +kernel
theorem eX6_ifCut_18 : decode (zYb kX6_ifCut) 18 = .ok (.invokevirtual 88, 3) := by decide +kernel
theorem eX6_ifCut_21 : decode (zYb kX6_ifCut) 21 = .ok (.ifCond .ne 5, 3) := by decide +kernel
theorem eX6_ifCut_24 : decode (zYb kX6_ifCut) 24 = .ok (.iconst (-1), 1) := by decide +kernel
theorem eX6_ifCut_25 : decode (zYb kX6_ifCut) 25 = .ok (.ireturn, 1) := by decide +kernel
theorem eX6_ifCut_26 : decode (zYb kX6_ifCut) 26 = .ok (.aload 4, 2) := by decide +kernel
theorem eX6_ifCut_28 : decode (zYb kX6_ifCut) 28 = .ok (.iload_n 2, 1) := by decide +kernel
theorem eX6_ifCut_29 : decode (zYb kX6_ifCut) 29 = .ok (.iload_n 3, 1) := by decide +kernel
theorem eX6_ifCut_30 : decode (zYb kX6_ifCut) 30 = .ok (.invokevirtual 92, 3) := by decide +kernel
theorem eX6_ifCut_33 : decode (zYb kX6_ifCut) 33 = .ok (.ifCond .ne 6, 3) := by decide +kernel
theorem eX6_ifCut_36 : decode (zYb kX6_ifCut) 36 = .ok (.bipush (-2), 2) := by decide +kernel
theorem eX6_ifCut_38 : decode (zYb kX6_ifCut) 38 = .ok (.ireturn, 1) := by decide +kernel
theorem eX6_ifCut_39 : decode (zYb kX6_ifCut) 39 = .ok (.aload_n 0, 1) := by decide +kernel
theorem eX6_ifCut_40 : decode (zYb kX6_ifCut) 40 = .ok (.aload 4, 2) := by decide +kernel
theorem eX6_ifCut_42 : decode (zYb kX6_ifCut) 42 = .ok (.iload_n 2, 1) := by decide +kernel
theorem eX6_ifCut_43 : decode (zYb kX6_ifCut) 43 = .ok (.iload_n 3, 1) := by decide +kernel
theorem eX6_ifCut_44 : decode (zYb kX6_ifCut) 44 = .ok (.invokevirtual 182, 3) := by decide +kernel
theorem eX6_ifCut_47 : decode (zYb kX6_ifCut) 47 = .ok (.ireturn, 1) := by decide +kernel
theorem eX6_bestCut_0 : decode (zYb kX6_bestCut) 0 = .ok (.aload_n 0, 1) := by decide +kernel
theorem eX6_bestCut_1 : decode (zYb kX6_bestCut) 1 = .ok (.getfield 10, 3) := by decide +kernel
theorem eX6_bestCut_4 : decode (zYb kX6_bestCut) 4 = .ok (.iload_n 1, 1) := by decide +kernel
theorem eX6_bestCut_5 : decode (zYb kX6_bestCut) 5 = .ok (.invokevirtual 77, 3) := by decide +kernel
theorem eX6_bestCut_8 : decode (zYb kX6_bestCut) 8 = .ok (.astore_n 3, 1) := by decide +kernel
theorem eX6_bestCut_9 : decode (zYb kX6_bestCut) 9 = .ok (.aload_n 3, 1) := by decide +kernel
theorem eX6_bestCut_10 : decode (zYb kX6_bestCut) 10 = .ok (.ifnonnull 5, 3) := by decide +kernel
theorem eX6_bestCut_13 : decode (zYb kX6_bestCut) 13 = .ok (.iconst (-1), 1) := by decide +kernel
theorem eX6_bestCut_14 : decode (zYb kX6_bestCut) 14 = .ok (.ireturn, 1) := by decide +kernel
theorem eX6_bestCut_15 : decode (zYb kX6_bestCut) 15 = .ok (.iload_n 2, 1) := by decide +kernel
theorem eX6_bestCut_16 : decode (zYb kX6_bestCut) 16 = .ok (.ifCond .lt 8, 3) := by decide +kernel
theorem eX6_bestCut_19 : decode (zYb kX6_bestCut) 19 = .ok (.iload_n 2, 1) := by decide +kernel
theorem eX6_bestCut_20 : decode (zYb kX6_bestCut) 20 = .ok (.iconst 2, 1) := by decide +kernel
theorem eX6_bestCut_21 : decode (zYb kX6_bestCut) 21 = .ok (.if_icmp .le 6, 3) := by decide +kernel
theorem eX6_bestCut_24 : decode (zYb kX6_bestCut) 24 = .ok (.bipush (-2), 2) := by decide +kernel
theorem eX6_bestCut_26 : decode (zYb kX6_bestCut) 26 = .ok (.ireturn, 1) := by decide +kernel
theorem eX6_bestCut_27 : decode (zYb kX6_bestCut) 27 = .ok (.iconst 0, 1) := by decide +kernel
theorem eX6_bestCut_28 : decode (zYb kX6_bestCut) 28 = .ok (.istore 4, 2) := by decide +kernel
theorem eX6_bestCut_30 : decode (zYb kX6_bestCut) 30 = .ok (.iconst 0, 1) := by decide +kernel
theorem eX6_bestCut_31 : decode (zYb kX6_bestCut) 31 = .ok (.istore 5, 2) := by decide +kernel
theorem eX6_bestCut_33 : decode (zYb kX6_bestCut) 33 = .ok (.bipush (-6), 2) := by decide +kernel
theorem eX6_bestCut_35 : decode (zYb kX6_bestCut) 35 = .ok (.istore 6, 2) := by decide +kernel
theorem eX6_bestCut_37 : decode (zYb kX6_bestCut) 37 = .ok (.iconst 0, 1) := by decide +kernel
theorem eX6_bestCut_38 : decode (zYb kX6_bestCut) 38 = .ok (.istore 7, 2) := by decide +kernel
theorem eX6_bestCut_40 : decode (zYb kX6_bestCut) 40 = .ok (.iload 7, 2) := by decide +kernel
theorem eX6_bestCut_42 : decode (zYb kX6_bestCut) 42 = .ok (.aload_n 3, 1) := by decide +kernel
theorem eX6_bestCut_43 : decode (zYb kX6_bestCut) 43 = .ok (.getfield 96, 3) := by decide +kernel
theorem eX6_bestCut_46 : decode (zYb kX6_bestCut) 46 = .ok (.if_icmp .ge 59, 3) := by decide +kernel
theorem eX6_bestCut_49 : decode (zYb kX6_bestCut) 49 = .ok (.iconst 1, 1) := by decide +kernel
theorem eX6_bestCut_50 : decode (zYb kX6_bestCut) 50 = .ok (.istore 8, 2) := by decide +kernel
theorem eX6_bestCut_52 : decode (zYb kX6_bestCut) 52 = .ok (.iload 8, 2) := by decide +kernel
theorem eX6_bestCut_54 : decode (zYb kX6_bestCut) 54 = .ok (.aload_n 3, 1) := by decide +kernel
theorem eX6_bestCut_55 : decode (zYb kX6_bestCut) 55 = .ok (.iload 7, 2) := by decide +kernel
theorem eX6_bestCut_57 : decode (zYb kX6_bestCut) 57 = .ok (.invokevirtual 106, 3) := by decide +kernel
theorem eX6_bestCut_60 : decode (zYb kX6_bestCut) 60 = .ok (.if_icmp .ge 39, 3) := by decide +kernel
theorem eX6_bestCut_63 : decode (zYb kX6_bestCut) 63 = .ok (.aload_n 0, 1) := by decide +kernel
theorem eX6_bestCut_64 : decode (zYb kX6_bestCut) 64 = .ok (.aload_n 3, 1) := by decide +kernel
theorem eX6_bestCut_65 : decode (zYb kX6_bestCut) 65 = .ok (.iload 7, 2) := by decide +kernel
theorem eX6_bestCut_67 : decode (zYb kX6_bestCut) 67 = .ok (.iload 8, 2) := by decide +kernel
theorem eX6_bestCut_69 : decode (zYb kX6_bestCut) 69 = .ok (.invokevirtual 182, 3) := by decide +kernel
theorem eX6_bestCut_72 : decode (zYb kX6_bestCut) 72 = .ok (.istore 9, 2) := by decide +kernel
theorem eX6_bestCut_74 : decode (zYb kX6_bestCut) 74 = .ok (.iload 9, 2) := by decide +kernel
theorem eX6_bestCut_76 : decode (zYb kX6_bestCut) 76 = .ok (.iload 6, 2) := by decide +kernel
theorem eX6_bestCut_78 : decode (zYb kX6_bestCut) 78 = .ok (.if_icmp .le 15, 3) := by decide +kernel
theorem eX6_bestCut_81 : decode (zYb kX6_bestCut) 81 = .ok (.iload 7, 2) := by decide +kernel
theorem eX6_bestCut_83 : decode (zYb kX6_bestCut) 83 = .ok (.istore 4, 2) := by decide +kernel
theorem eX6_bestCut_85 : decode (zYb kX6_bestCut) 85 = .ok (.iload 8, 2) := by decide +kernel
theorem eX6_bestCut_87 : decode (zYb kX6_bestCut) 87 = .ok (.istore 5, 2) := by decide +kernel
theorem eX6_bestCut_89 : decode (zYb kX6_bestCut) 89 = .ok (.iload 9, 2) := by decide +kernel
theorem eX6_bestCut_91 : decode (zYb kX6_bestCut) 91 = .ok (.istore 6, 2) := by decide +kernel
theorem eX6_bestCut_93 : decode (zYb kX6_bestCut) 93 = .ok (.iinc 8 1, 3) := by decide +kernel
theorem eX6_bestCut_96 : decode (zYb kX6_bestCut) 96 = .ok (.goto (-44), 3) := by decide +kernel
theorem eX6_bestCut_99 : decode (zYb kX6_bestCut) 99 = .ok (.iinc 7 1, 3) := by decide +kernel
theorem eX6_bestCut_102 : decode (zYb kX6_bestCut) 102 = .ok (.goto (-62), 3) := by decide +kernel
theorem eX6_bestCut_105 : decode (zYb kX6_bestCut) 105 = .ok (.iload 6, 2) := by decide +kernel
theorem eX6_bestCut_107 : decode (zYb kX6_bestCut) 107 = .ok (.bipush (-6), 2) := by decide +kernel
theorem eX6_bestCut_109 : decode (zYb kX6_bestCut) 109 = .ok (.if_icmp .eq 8, 3) := by decide +kernel
theorem eX6_bestCut_112 : decode (zYb kX6_bestCut) 112 = .ok (.iload_n 2, 1) := by decide +kernel
theorem eX6_bestCut_113 : decode (zYb kX6_bestCut) 113 = .ok (.iconst 2, 1) := by decide +kernel
theorem eX6_bestCut_114 : decode (zYb kX6_bestCut) 114 = .ok (.if_icmp .ne 6, 3) := by decide +kernel
theorem eX6_bestCut_117 : decode (zYb kX6_bestCut) 117 = .ok (.iload 6, 2) := by decide +kernel
theorem eX6_bestCut_119 : decode (zYb kX6_bestCut) 119 = .ok (.ireturn, 1) := by decide +kernel
theorem eX6_bestCut_120 : decode (zYb kX6_bestCut) 120 = .ok (.iload_n 2, 1) := by decide +kernel
theorem eX6_bestCut_121 : decode (zYb kX6_bestCut) 121 = .ok (.ifCond .ne 8, 3) := by decide +kernel
theorem eX6_bestCut_124 : decode (zYb kX6_bestCut) 124 = .ok (.iload 4, 2) := by decide +kernel
theorem eX6_bestCut_126 : decode (zYb kX6_bestCut) 126 = .ok (.goto 5, 3) := by decide +kernel
theorem eX6_bestCut_129 : decode (zYb kX6_bestCut) 129 = .ok (.iload 5, 2) := by decide +kernel
theorem eX6_bestCut_131 : decode (zYb kX6_bestCut) 131 = .ok (.ireturn, 1) := by decide +kernel
theorem eX6_put_0 : decode (zYb kX6_put) 0 = .ok (.lload_n 1, 1) := by decide +kernel
theorem eX6_put_1 : decode (zYb kX6_put) 1 = .ok (.invokestatic 186, 3) := by decide +kernel
theorem eX6_put_4 : decode (zYb kX6_put) 4 = .ok (.istore_n 3, 1) := by decide +kernel
theorem eX6_put_5 : decode (zYb kX6_put) 5 = .ok (.iload_n 3, 1) := by decide +kernel
theorem eX6_put_6 : decode (zYb kX6_put) 6 = .ok (.ifCond .ne 6, 3) := by decide +kernel
theorem eX6_put_9 : decode (zYb kX6_put) 9 = .ok (.bipush (-2), 2) := by decide +kernel
theorem eX6_put_11 : decode (zYb kX6_put) 11 = .ok (.ireturn, 1) := by decide +kernel
theorem eX6_put_12 : decode (zYb kX6_put) 12 = .ok (.aload_n 0, 1) := by decide +kernel
theorem eX6_put_13 : decode (zYb kX6_put) 13 = .ok (.getfield 19, 3) := by decide +kernel
theorem eX6_put_16 : decode (zYb kX6_put) 16 = .ok (.getfield 179, 3) := by decide +kernel
theorem eX6_put_19 : decode (zYb kX6_put) 19 = .ok (.iload_n 3, 1) := by decide +kernel
theorem eX6_put_20 : decode (zYb kX6_put) 20 = .ok (.iadd, 1) := by decide +kernel
theorem eX6_put_21 : decode (zYb kX6_put) 21 = .ok (.bipush 64, 2) := by decide +kernel
theorem eX6_put_23 : decode (zYb kX6_put) 23 = .ok (.if_icmp .le 6, 3) := by decide +kernel
theorem eX6_put_26 : decode (zYb kX6_put) 26 = .ok (.bipush (-4), 2) := by decide +kernel
theorem eX6_put_28 : decode (zYb kX6_put) 28 = .ok (.ireturn, 1) := by decide +kernel
theorem eX6_put_29 : decode (zYb kX6_put) 29 = .ok (.iload_n 3, 1) := by decide +kernel
theorem eX6_put_30 : decode (zYb kX6_put) 30 = .ok (.iconst 1, 1) := by decide +kernel
theorem eX6_put_31 : decode (zYb kX6_put) 31 = .ok (.isub, 1) := by decide +kernel
theorem eX6_put_32 : decode (zYb kX6_put) 32 = .ok (.istore 4, 2) := by decide +kernel
theorem eX6_put_34 : decode (zYb kX6_put) 34 = .ok (.iload 4, 2) := by decide +kernel
theorem eX6_put_36 : decode (zYb kX6_put) 36 = .ok (.ifCond .lt 22, 3) := by decide +kernel
theorem eX6_put_39 : decode (zYb kX6_put) 39 = .ok (.aload_n 0, 1) := by decide +kernel
theorem eX6_put_40 : decode (zYb kX6_put) 40 = .ok (.getfield 19, 3) := by decide +kernel
theorem eX6_put_43 : decode (zYb kX6_put) 43 = .ok (.lload_n 1, 1) := by decide +kernel
theorem eX6_put_44 : decode (zYb kX6_put) 44 = .ok (.iload 4, 2) := by decide +kernel
theorem eX6_put_46 : decode (zYb kX6_put) 46 = .ok (.invokestatic 190, 3) := by decide +kernel
theorem eX6_put_49 : decode (zYb kX6_put) 49 = .ok (.invokevirtual 194, 3) := by decide +kernel
theorem eX6_put_52 : decode (zYb kX6_put) 52 = .ok (.iinc 4 (-1), 3) := by decide +kernel
theorem eX6_put_55 : decode (zYb kX6_put) 55 = .ok (.goto (-21), 3) := by decide +kernel
theorem eX6_put_58 : decode (zYb kX6_put) 58 = .ok (.aload_n 0, 1) := by decide +kernel
theorem eX6_put_59 : decode (zYb kX6_put) 59 = .ok (.getfield 19, 3) := by decide +kernel
theorem eX6_put_62 : decode (zYb kX6_put) 62 = .ok (.getfield 179, 3) := by decide +kernel
theorem eX6_put_65 : decode (zYb kX6_put) 65 = .ok (.ireturn, 1) := by decide +kernel
theorem eX6_wipe_0 : decode (zYb kX6_wipe) 0 = .ok (.aload_n 0, 1) := by decide +kernel
theorem eX6_wipe_1 : decode (zYb kX6_wipe) 1 = .ok (.getfield 19, 3) := by decide +kernel
theorem eX6_wipe_4 : decode (zYb kX6_wipe) 4 = .ok (.getfield 179, 3) := by decide +kernel
theorem eX6_wipe_7 : decode (zYb kX6_wipe) 7 = .ok (.istore_n 1, 1) := by decide +kernel
theorem eX6_wipe_8 : decode (zYb kX6_wipe) 8 = .ok (.aload_n 0, 1) := by decide +kernel
theorem eX6_wipe_9 : decode (zYb kX6_wipe) 9 = .ok (.getfield 19, 3) := by decide +kernel
theorem eX6_wipe_12 : decode (zYb kX6_wipe) 12 = .ok (.invokevirtual 74, 3) := by decide +kernel
theorem eX6_wipe_15 : decode (zYb kX6_wipe) 15 = .ok (.iload_n 1, 1) := by decide +kernel
theorem eX6_wipe_16 : decode (zYb kX6_wipe) 16 = .ok (.ireturn, 1) := by decide +kernel
theorem eX6_fault_0 : decode (zYb kX6_fault) 0 = .ok (.aload_n 0, 1) := by decide +kernel
theorem eX6_fault_1 : decode (zYb kX6_fault) 1 = .ok (.getfield 19, 3) := by decide +kernel
theorem eX6_fault_4 : decode (zYb kX6_fault) 4 = .ok (.invokevirtual 56, 3) := by decide +kernel
theorem eX6_fault_7 : decode (zYb kX6_fault) 7 = .ok (.ireturn, 1) := by decide +kernel
theorem eX6_undo_0 : decode (zYb kX6_undo) 0 = .ok (.aload_n 0, 1) := by decide +kernel
theorem eX6_undo_1 : decode (zYb kX6_undo) 1 = .ok (.getfield 26, 3) := by decide +kernel
theorem eX6_undo_4 : decode (zYb kX6_undo) 4 = .ok (.aload_n 0, 1) := by decide +kernel
theorem eX6_undo_5 : decode (zYb kX6_undo) 5 = .ok (.getfield 10, 3) := by decide +kernel
theorem eX6_undo_8 : decode (zYb kX6_undo) 8 = .ok (.invokevirtual 197, 3) := by decide +kernel
theorem eX6_undo_11 : decode (zYb kX6_undo) 11 = .ok (.ifCond .ne 6, 3) := by decide +kernel
theorem eX6_undo_14 : decode (zYb kX6_undo) 14 = .ok (.bipush (-5), 2) := by decide +kernel
theorem eX6_undo_16 : decode (zYb kX6_undo) 16 = .ok (.ireturn, 1) := by decide +kernel
theorem eX6_undo_17 : decode (zYb kX6_undo) 17 = .ok (.aload_n 0, 1) := by decide +kernel
theorem eX6_undo_18 : decode (zYb kX6_undo) 18 = .ok (.getfield 26, 3) := by decide +kernel
theorem eX6_undo_21 : decode (zYb kX6_undo) 21 = .ok (.getfield 181, 3) := by decide +kernel
theorem eX6_undo_24 : decode (zYb kX6_undo) 24 = .ok (.ireturn, 1) := by decide +kernel
theorem eX6_save_0 : decode (zYb kX6_save) 0 = .ok (.iload_n 1, 1) := by decide +kernel
theorem eX6_save_1 : decode (zYb kX6_save) 1 = .ok (.ifCond .lt 8, 3) := by decide +kernel
theorem eX6_save_4 : decode (zYb kX6_save) 4 = .ok (.iload_n 1, 1) := by decide +kernel
theorem eX6_save_5 : decode (zYb kX6_save) 5 = .ok (.iconst 2, 1) := by decide +kernel
theorem eX6_save_6 : decode (zYb kX6_save) 6 = .ok (.if_icmp .lt 6, 3) := by decide +kernel
theorem eX6_save_9 : decode (zYb kX6_save) 9 = .ok (.bipush (-2), 2) := by decide +kernel
theorem eX6_save_11 : decode (zYb kX6_save) 11 = .ok (.ireturn, 1) := by decide +kernel
theorem eX6_save_12 : decode (zYb kX6_save) 12 = .ok (.aload_n 0, 1) := by decide +kernel
theorem eX6_save_13 : decode (zYb kX6_save) 13 = .ok (.getfield 30, 3) := by decide +kernel
theorem eX6_save_16 : decode (zYb kX6_save) 16 = .ok (.iload_n 1, 1) := by decide +kernel
theorem eX6_save_17 : decode (zYb kX6_save) 17 = .ok (.aaload, 1) := by decide +kernel
theorem eX6_save_18 : decode (zYb kX6_save) 18 = .ok (.astore_n 2, 1) := by decide +kernel
theorem eX6_save_19 : decode (zYb kX6_save) 19 = .ok (.aload_n 2, 1) := by decide +kernel
theorem eX6_save_20 : decode (zYb kX6_save) 20 = .ok (.ifnonnull 6, 3) := by decide +kernel
theorem eX6_save_23 : decode (zYb kX6_save) 23 = .ok (.bipush (-2), 2) := by decide +kernel
theorem eX6_save_25 : decode (zYb kX6_save) 25 = .ok (.ireturn, 1) := by decide +kernel
theorem eX6_save_26 : decode (zYb kX6_save) 26 = .ok (.aload_n 2, 1) := by decide +kernel
theorem eX6_save_27 : decode (zYb kX6_save) 27 = .ok (.aload_n 0, 1) := by decide +kernel
theorem eX6_save_28 : decode (zYb kX6_save) 28 = .ok (.getfield 10, 3) := by decide +kernel
theorem eX6_save_31 : decode (zYb kX6_save) 31 = .ok (.invokevirtual 201, 3) := by decide +kernel
theorem eX6_save_34 : decode (zYb kX6_save) 34 = .ok (.aload_n 0, 1) := by decide +kernel
theorem eX6_save_35 : decode (zYb kX6_save) 35 = .ok (.getfield 34, 3) := by decide +kernel
theorem eX6_save_38 : decode (zYb kX6_save) 38 = .ok (.iload_n 1, 1) := by decide +kernel
theorem eX6_save_39 : decode (zYb kX6_save) 39 = .ok (.iconst 1, 1) := by decide +kernel
theorem eX6_save_40 : decode (zYb kX6_save) 40 = .ok (.bastore, 1) := by decide +kernel
theorem eX6_save_41 : decode (zYb kX6_save) 41 = .ok (.aload_n 0, 1) := by decide +kernel
theorem eX6_save_42 : decode (zYb kX6_save) 42 = .ok (.getfield 10, 3) := by decide +kernel
theorem eX6_save_45 : decode (zYb kX6_save) 45 = .ok (.getfield 60, 3) := by decide +kernel
theorem eX6_save_48 : decode (zYb kX6_save) 48 = .ok (.ireturn, 1) := by decide +kernel
theorem eX6_restore_0 : decode (zYb kX6_restore) 0 = .ok (.iload_n 1, 1) := by decide +kernel
theorem eX6_restore_1 : decode (zYb kX6_restore) 1 = .ok (.ifCond .lt 8, 3) := by decide +kernel
theorem eX6_restore_4 : decode (zYb kX6_restore) 4 = .ok (.iload_n 1, 1) := by decide +kernel
theorem eX6_restore_5 : decode (zYb kX6_restore) 5 = .ok (.iconst 2, 1) := by decide +kernel
theorem eX6_restore_6 : decode (zYb kX6_restore) 6 = .ok (.if_icmp .lt 6, 3) := by decide +kernel
theorem eX6_restore_9 : decode (zYb kX6_restore) 9 = .ok (.bipush (-2), 2) := by decide +kernel
theorem eX6_restore_11 : decode (zYb kX6_restore) 11 = .ok (.ireturn, 1) := by decide +kernel
theorem eX6_restore_12 : decode (zYb kX6_restore) 12 = .ok (.aload_n 0, 1) := by decide +kernel
theorem eX6_restore_13 : decode (zYb kX6_restore) 13 = .ok (.getfield 30, 3) := by decide +kernel
theorem eX6_restore_16 : decode (zYb kX6_restore) 16 = .ok (.iload_n 1, 1) := by decide +kernel
theorem eX6_restore_17 : decode (zYb kX6_restore) 17 = .ok (.aaload, 1) := by decide +kernel
theorem eX6_restore_18 : decode (zYb kX6_restore) 18 = .ok (.astore_n 2, 1) := by decide +kernel
theorem eX6_restore_19 : decode (zYb kX6_restore) 19 = .ok (.aload_n 2, 1) := by decide +kernel
theorem eX6_restore_20 : decode (zYb kX6_restore) 20 = .ok (.ifnull 12, 3) := by decide +kernel
theorem eX6_restore_23 : decode (zYb kX6_restore) 23 = .ok (.aload_n 0, 1) := by decide +kernel
theorem eX6_restore_24 : decode (zYb kX6_restore) 24 = .ok (.getfield 34, 3) := by decide +kernel
theorem eX6_restore_27 : decode (zYb kX6_restore) 27 = .ok (.iload_n 1, 1) := by decide +kernel
theorem eX6_restore_28 : decode (zYb kX6_restore) 28 = .ok (.baload, 1) := by decide +kernel
theorem eX6_restore_29 : decode (zYb kX6_restore) 29 = .ok (.ifCond .ne 6, 3) := by decide +kernel
theorem eX6_restore_32 : decode (zYb kX6_restore) 32 = .ok (.bipush (-5), 2) := by decide +kernel
theorem eX6_restore_34 : decode (zYb kX6_restore) 34 = .ok (.ireturn, 1) := by decide +kernel
theorem eX6_restore_35 : decode (zYb kX6_restore) 35 = .ok (.aload_n 0, 1) := by decide +kernel
theorem eX6_restore_36 : decode (zYb kX6_restore) 36 = .ok (.getfield 26, 3) := by decide +kernel
theorem eX6_restore_39 : decode (zYb kX6_restore) 39 = .ok (.aload_n 0, 1) := by decide +kernel
theorem eX6_restore_40 : decode (zYb kX6_restore) 40 = .ok (.getfield 10, 3) := by decide +kernel
theorem eX6_restore_43 : decode (zYb kX6_restore) 43 = .ok (.invokevirtual 67, 3) := by decide +kernel
theorem eX6_restore_46 : decode (zYb kX6_restore) 46 = .ok (.aload_n 0, 1) := by decide +kernel
theorem eX6_restore_47 : decode (zYb kX6_restore) 47 = .ok (.getfield 10, 3) := by decide +kernel
theorem eX6_restore_50 : decode (zYb kX6_restore) 50 = .ok (.aload_n 2, 1) := by decide +kernel
theorem eX6_restore_51 : decode (zYb kX6_restore) 51 = .ok (.invokevirtual 201, 3) := by decide +kernel
theorem eX6_restore_54 : decode (zYb kX6_restore) 54 = .ok (.aload_n 0, 1) := by decide +kernel
theorem eX6_restore_55 : decode (zYb kX6_restore) 55 = .ok (.getfield 10, 3) := by decide +kernel
theorem eX6_restore_58 : decode (zYb kX6_restore) 58 = .ok (.getfield 60, 3) := by decide +kernel
theorem eX6_restore_61 : decode (zYb kX6_restore) 61 = .ok (.ireturn, 1) := by decide +kernel
theorem eX6_codeIn_0 : decode (zYb kX6_codeIn) 0 = .ok (.lload_n 0, 1) := by decide +kernel
theorem eX6_codeIn_1 : decode (zYb kX6_codeIn) 1 = .ok (.bipush 8, 2) := by decide +kernel
theorem eX6_codeIn_3 : decode (zYb kX6_codeIn) 3 = .ok (.iload_n 2, 1) := by decide +kernel
theorem eX6_codeIn_4 : decode (zYb kX6_codeIn) 4 = .ok (.imul, 1) := by decide +kernel
theorem eX6_codeIn_5 : decode (zYb kX6_codeIn) 5 = .ok (.lushr, 1) := by decide +kernel
theorem eX6_codeIn_6 : decode (zYb kX6_codeIn) 6 = .ok (.ldc2_w 204, 3) := by decide +kernel
theorem eX6_codeIn_9 : decode (zYb kX6_codeIn) 9 = .ok (.land, 1) := by decide +kernel
theorem eX6_codeIn_10 : decode (zYb kX6_codeIn) 10 = .ok (.l2i, 1) := by decide +kernel
theorem eX6_codeIn_11 : decode (zYb kX6_codeIn) 11 = .ok (.ireturn, 1) := by decide +kernel
theorem eX6_charactersIn_0 : decode (zYb kX6_charactersIn) 0 = .ok (.iconst 0, 1) := by decide +kernel
theorem eX6_charactersIn_1 : decode (zYb kX6_charactersIn) 1 = .ok (.istore_n 2, 1) := by decide +kernel
theorem eX6_charactersIn_2 : decode (zYb kX6_charactersIn) 2 = .ok (.iconst 0, 1) := by decide +kernel
theorem eX6_charactersIn_3 : decode (zYb kX6_charactersIn) 3 = .ok (.istore_n 3, 1) := by decide +kernel
theorem eX6_charactersIn_4 : decode (zYb kX6_charactersIn) 4 = .ok (.iload_n 3, 1) := by decide +kernel
theorem eX6_charactersIn_5 : decode (zYb kX6_charactersIn) 5 = .ok (.bipush 8, 2) := by decide +kernel
theorem eX6_charactersIn_7 : decode (zYb kX6_charactersIn) 7 = .ok (.if_icmp .ge 48, 3) := by decide +kernel
theorem eX6_charactersIn_10 : decode (zYb kX6_charactersIn) 10 = .ok (.lload_n 0, 1) := by decide +kernel
theorem eX6_charactersIn_11 : decode (zYb kX6_charactersIn) 11 = .ok (.iload_n 3, 1) := by decide +kernel
theorem eX6_charactersIn_12 : decode (zYb kX6_charactersIn) 12 = .ok (.invokestatic 190, 3) := by decide +kernel
theorem eX6_charactersIn_15 : decode (zYb kX6_charactersIn) 15 = .ok (.istore 4, 2) := by decide +kernel
theorem eX6_charactersIn_17 : decode (zYb kX6_charactersIn) 17 = .ok (.iload 4, 2) := by decide +kernel
theorem eX6_charactersIn_19 : decode (zYb kX6_charactersIn) 19 = .ok (.ifCond .ne 6, 3) := by decide +kernel
theorem eX6_charactersIn_22 : decode (zYb kX6_charactersIn) 22 = .ok (.goto 27, 3) := by decide +kernel
theorem eX6_charactersIn_25 : decode (zYb kX6_charactersIn) 25 = .ok (.iload 4, 2) := by decide +kernel
theorem eX6_charactersIn_27 : decode (zYb kX6_charactersIn) 27 = .ok (.bipush 33, 2) := by decide +kernel
theorem eX6_charactersIn_29 : decode (zYb kX6_charactersIn) 29 = .ok (.if_icmp .lt 15, 3) := by decide +kernel
theorem eX6_charactersIn_32 : decode (zYb kX6_charactersIn) 32 = .ok (.iload 4, 2) := by decide +kernel
theorem eX6_charactersIn_34 : decode (zYb kX6_charactersIn) 34 = .ok (.bipush 126, 2) := by decide +kernel
theorem eX6_charactersIn_36 : decode (zYb kX6_charactersIn) 36 = .ok (.if_icmp .gt 8, 3) := by decide +kernel
theorem eX6_charactersIn_39 : decode (zYb kX6_charactersIn) 39 = .ok (.iload_n 2, 1) := by decide +kernel
theorem eX6_charactersIn_40 : decode (zYb kX6_charactersIn) 40 = .ok (.iload_n 3, 1) := by decide +kernel
theorem eX6_charactersIn_41 : decode (zYb kX6_charactersIn) 41 = .ok (.if_icmp .eq 5, 3) := by decide +kernel
theorem eX6_charactersIn_44 : decode (zYb kX6_charactersIn) 44 = .ok (.iconst 0, 1) := by decide +kernel
theorem eX6_charactersIn_45 : decode (zYb kX6_charactersIn) 45 = .ok (.ireturn, 1) := by decide +kernel
theorem eX6_charactersIn_46 : decode (zYb kX6_charactersIn) 46 = .ok (.iinc 2 1, 3) := by decide +kernel
theorem eX6_charactersIn_49 : decode (zYb kX6_charactersIn) 49 = .ok (.iinc 3 1, 3) := by decide +kernel
theorem eX6_charactersIn_52 : decode (zYb kX6_charactersIn) 52 = .ok (.goto (-48), 3) := by decide +kernel
theorem eX6_charactersIn_55 : decode (zYb kX6_charactersIn) 55 = .ok (.iload_n 2, 1) := by decide +kernel
theorem eX6_charactersIn_56 : decode (zYb kX6_charactersIn) 56 = .ok (.ireturn, 1) := by decide +kernel
theorem eX6_isLetter_0 : decode (zYb kX6_isLetter) 0 = .ok (.iload_n 0, 1) := by decide +kernel
theorem eX6_isLetter_1 : decode (zYb kX6_isLetter) 1 = .ok (.bipush 97, 2) := by decide +kernel
theorem eX6_isLetter_3 : decode (zYb kX6_isLetter) 3 = .ok (.if_icmp .lt 13, 3) := by decide +kernel
theorem eX6_isLetter_6 : decode (zYb kX6_isLetter) 6 = .ok (.iload_n 0, 1) := by decide +kernel
theorem eX6_isLetter_7 : decode (zYb kX6_isLetter) 7 = .ok (.bipush 122, 2) := by decide +kernel
theorem eX6_isLetter_9 : decode (zYb kX6_isLetter) 9 = .ok (.if_icmp .gt 7, 3) := by decide +kernel
theorem eX6_isLetter_12 : decode (zYb kX6_isLetter) 12 = .ok (.iconst 1, 1) := by decide +kernel
theorem eX6_isLetter_13 : decode (zYb kX6_isLetter) 13 = .ok (.goto 4, 3) := by decide +kernel
theorem eX6_isLetter_16 : decode (zYb kX6_isLetter) 16 = .ok (.iconst 0, 1) := by decide +kernel
theorem eX6_isLetter_17 : decode (zYb kX6_isLetter) 17 = .ok (.ireturn, 1) := by decide +kernel
theorem eX6_sewText_0 : decode (zYb kX6_sewText) 0 = .ok (.aload_n 0, 1) := by decide +kernel
theorem eX6_sewText_1 : decode (zYb kX6_sewText) 1 = .ok (.getfield 10, 3) := by decide +kernel
theorem eX6_sewText_4 : decode (zYb kX6_sewText) 4 = .ok (.invokevirtual 206, 3) := by decide +kernel
theorem eX6_sewText_7 : decode (zYb kX6_sewText) 7 = .ok (.astore_n 1, 1) := by decide +kernel
theorem eX6_sewText_8 : decode (zYb kX6_sewText) 8 = .ok (.iconst 0, 1) := by decide +kernel
theorem eX6_sewText_9 : decode (zYb kX6_sewText) 9 = .ok (.istore_n 2, 1) := by decide +kernel
theorem eX6_sewText_10 : decode (zYb kX6_sewText) 10 = .ok (.iload_n 2, 1) := by decide +kernel
theorem eX6_sewText_11 : decode (zYb kX6_sewText) 11 = .ok (.aload_n 0, 1) := by decide +kernel
theorem eX6_sewText_12 : decode (zYb kX6_sewText) 12 = .ok (.getfield 19, 3) := by decide +kernel
theorem eX6_sewText_15 : decode (zYb kX6_sewText) 15 = .ok (.getfield 179, 3) := by decide +kernel
theorem eX6_sewText_18 : decode (zYb kX6_sewText) 18 = .ok (.if_icmp .ge 64, 3) := by decide +kernel
theorem eX6_sewText_21 : decode (zYb kX6_sewText) 21 = .ok (.aload_n 0, 1) := by decide +kernel
theorem eX6_sewText_22 : decode (zYb kX6_sewText) 22 = .ok (.getfield 19, 3) := by decide +kernel
theorem eX6_sewText_25 : decode (zYb kX6_sewText) 25 = .ok (.iload_n 2, 1) := by decide +kernel
theorem eX6_sewText_26 : decode (zYb kX6_sewText) 26 = .ok (.invokevirtual 210, 3) := by decide +kernel
theorem eX6_sewText_29 : decode (zYb kX6_sewText) 29 = .ok (.istore_n 3, 1) := by decide +kernel
theorem eX6_sewText_30 : decode (zYb kX6_sewText) 30 = .ok (.iload_n 3, 1) := by decide +kernel
theorem eX6_sewText_31 : decode (zYb kX6_sewText) 31 = .ok (.bipush 59, 2) := by decide +kernel
theorem eX6_sewText_33 : decode (zYb kX6_sewText) 33 = .ok (.if_icmp .ne 14, 3) := by decide +kernel
theorem eX6_sewText_36 : decode (zYb kX6_sewText) 36 = .ok (.aload_n 0, 1) := by decide +kernel
theorem eX6_sewText_37 : decode (zYb kX6_sewText) 37 = .ok (.getfield 10, 3) := by decide +kernel
theorem eX6_sewText_40 : decode (zYb kX6_sewText) 40 = .ok (.invokevirtual 206, 3) := by decide +kernel
theorem eX6_sewText_43 : decode (zYb kX6_sewText) 43 = .ok (.astore_n 1, 1) := by decide +kernel
theorem eX6_sewText_44 : decode (zYb kX6_sewText) 44 = .ok (.goto 32, 3) := by decide +kernel
theorem eX6_sewText_47 : decode (zYb kX6_sewText) 47 = .ok (.aload_n 1, 1) := by decide +kernel
theorem eX6_sewText_48 : decode (zYb kX6_sewText) 48 = .ok (.ifnull 16, 3) := by decide +kernel
theorem eX6_sewText_51 : decode (zYb kX6_sewText) 51 = .ok (.iload_n 3, 1) := by decide +kernel
theorem eX6_sewText_52 : decode (zYb kX6_sewText) 52 = .ok (.bipush 124, 2) := by decide +kernel
theorem eX6_sewText_54 : decode (zYb kX6_sewText) 54 = .ok (.if_icmp .ne 10, 3) := by decide +kernel
theorem eX6_sewText_57 : decode (zYb kX6_sewText) 57 = .ok (.aload_n 1, 1) := by decide +kernel
theorem eX6_sewText_58 : decode (zYb kX6_sewText) 58 = .ok (.invokevirtual 213, 3) := by decide +kernel
theorem eX6_sewText_61 : decode (zYb kX6_sewText) 61 = .ok (.goto 15, 3) := by decide +kernel
theorem eX6_sewText_64 : decode (zYb kX6_sewText) 64 = .ok (.aload_n 1, 1) := by decide +kernel
theorem eX6_sewText_65 : decode (zYb kX6_sewText) 65 = .ok (.ifnull 11, 3) := by decide +kernel
theorem eX6_sewText_68 : decode (zYb kX6_sewText) 68 = .ok (.aload_n 1, 1) := by decide +kernel
theorem eX6_sewText_69 : decode (zYb kX6_sewText) 69 = .ok (.iload_n 3, 1) := by decide +kernel
theorem eX6_sewText_70 : decode (zYb kX6_sewText) 70 = .ok (.bipush 97, 2) := by decide +kernel
theorem eX6_sewText_72 : decode (zYb kX6_sewText) 72 = .ok (.isub, 1) := by decide +kernel
theorem eX6_sewText_73 : decode (zYb kX6_sewText) 73 = .ok (.invokevirtual 216, 3) := by decide +kernel
theorem eX6_sewText_76 : decode (zYb kX6_sewText) 76 = .ok (.iinc 2 1, 3) := by decide +kernel
theorem eX6_sewText_79 : decode (zYb kX6_sewText) 79 = .ok (.goto (-69), 3) := by decide +kernel
theorem eX6_sewText_82 : decode (zYb kX6_sewText) 82 = .ok (.return_, 1) := by decide +kernel
theorem eX6_readingsOf_0 : decode (zYb kX6_readingsOf) 0 = .ok (.iconst 2, 1) := by decide +kernel
theorem eX6_readingsOf_1 : decode (zYb kX6_readingsOf) 1 = .ok (.aload_n 1, 1) := by decide +kernel
theorem eX6_readingsOf_2 : decode (zYb kX6_readingsOf) 2 = .ok (.invokevirtual 130, 3) := by decide +kernel
theorem eX6_readingsOf_5 : decode (zYb kX6_readingsOf) 5 = .ok (.imul, 1) := by decide +kernel
theorem eX6_readingsOf_6 : decode (zYb kX6_readingsOf) 6 = .ok (.aload_n 1, 1) := by decide +kernel
theorem eX6_readingsOf_7 : decode (zYb kX6_readingsOf) 7 = .ok (.aload_n 0, 1) := by decide +kernel
theorem eX6_readingsOf_8 : decode (zYb kX6_readingsOf) 8 = .ok (.getfield 52, 3) := by decide +kernel
theorem eX6_readingsOf_11 : decode (zYb kX6_readingsOf) 11 = .ok (.iconst 0, 1) := by decide +kernel
theorem eX6_readingsOf_12 : decode (zYb kX6_readingsOf) 12 = .ok (.invokestatic 219, 3) := by decide +kernel
theorem eX6_readingsOf_15 : decode (zYb kX6_readingsOf) 15 = .ok (.isub, 1) := by decide +kernel
theorem eX6_readingsOf_16 : decode (zYb kX6_readingsOf) 16 = .ok (.ireturn, 1) := by decide +kernel
theorem eX6_toldFromBothEnds_0 : decode (zYb kX6_toldFromBothEnds) 0 = .ok (.iload_n 2, 1) := by decide +kernel
theorem eX6_toldFromBothEnds_1 : decode (zYb kX6_toldFromBothEnds) 1 = .ok (.aload_n 0, 1) := by decide +kernel
theorem eX6_toldFromBothEnds_2 : decode (zYb kX6_toldFromBothEnds) 2 = .ok (.getfield 96, 3) := by decide +kernel
theorem eX6_toldFromBothEnds_5 : decode (zYb kX6_toldFromBothEnds) 5 = .ok (.if_icmp .ge 9, 3) := by decide +kernel
theorem eX6_toldFromBothEnds_8 : decode (zYb kX6_toldFromBothEnds) 8 = .ok (.iload_n 2, 1) := by decide +kernel
theorem eX6_toldFromBothEnds_9 : decode (zYb kX6_toldFromBothEnds) 9 = .ok (.bipush 6, 2) := by decide +kernel
theorem eX6_toldFromBothEnds_11 : decode (zYb kX6_toldFromBothEnds) 11 = .ok (.if_icmp .lt 5, 3) := by decide +kernel
theorem eX6_toldFromBothEnds_14 : decode (zYb kX6_toldFromBothEnds) 14 = .ok (.iconst 1, 1) := by decide +kernel
theorem eX6_toldFromBothEnds_15 : decode (zYb kX6_toldFromBothEnds) 15 = .ok (.ireturn, 1) := by decide +kernel
theorem eX6_toldFromBothEnds_16 : decode (zYb kX6_toldFromBothEnds) 16 = .ok (.iconst 0, 1) := by decide +kernel
theorem eX6_toldFromBothEnds_17 : decode (zYb kX6_toldFromBothEnds) 17 = .ok (.istore_n 3, 1) := by decide +kernel
theorem eX6_toldFromBothEnds_18 : decode (zYb kX6_toldFromBothEnds) 18 = .ok (.aload_n 0, 1) := by decide +kernel
theorem eX6_toldFromBothEnds_19 : decode (zYb kX6_toldFromBothEnds) 19 = .ok (.iload_n 2, 1) := by decide +kernel
theorem eX6_toldFromBothEnds_20 : decode (zYb kX6_toldFromBothEnds) 20 = .ok (.invokevirtual 223, 3) := by decide +kernel
theorem eX6_toldFromBothEnds_23 : decode (zYb kX6_toldFromBothEnds) 23 = .ok (.ifCond .eq 7, 3) := by decide +kernel
theorem eX6_toldFromBothEnds_26 : decode (zYb kX6_toldFromBothEnds) 26 = .ok (.iconst 1, 1) := by decide +kernel
theorem eX6_toldFromBothEnds_27 : decode (zYb kX6_toldFromBothEnds) 27 = .ok (.goto 4, 3) := by decide +kernel
theorem eX6_toldFromBothEnds_30 : decode (zYb kX6_toldFromBothEnds) 30 = .ok (.iconst 2, 1) := by decide +kernel
theorem eX6_toldFromBothEnds_31 : decode (zYb kX6_toldFromBothEnds) 31 = .ok (.istore 4, 2) := by decide +kernel
theorem eX6_toldFromBothEnds_33 : decode (zYb kX6_toldFromBothEnds) 33 = .ok (.iconst 0, 1) := by decide +kernel
theorem eX6_toldFromBothEnds_34 : decode (zYb kX6_toldFromBothEnds) 34 = .ok (.istore 5, 2) := by decide +kernel
theorem eX6_toldFromBothEnds_36 : decode (zYb kX6_toldFromBothEnds) 36 = .ok (.iload 5, 2) := by decide +kernel
theorem eX6_toldFromBothEnds_38 : decode (zYb kX6_toldFromBothEnds) 38 = .ok (.iload 4, 2) := by decide +kernel
theorem eX6_toldFromBothEnds_40 : decode (zYb kX6_toldFromBothEnds) 40 = .ok (.if_icmp .ge 67, 3) := by decide +kernel
theorem eX6_toldFromBothEnds_43 : decode (zYb kX6_toldFromBothEnds) 43 = .ok (.aload_n 0, 1) := by decide +kernel
theorem eX6_toldFromBothEnds_44 : decode (zYb kX6_toldFromBothEnds) 44 = .ok (.iload_n 2, 1) := by decide +kernel
theorem eX6_toldFromBothEnds_45 : decode (zYb kX6_toldFromBothEnds) 45 = .ok (.invokevirtual 142, 3) := by decide +kernel
theorem eX6_toldFromBothEnds_48 : decode (zYb kX6_toldFromBothEnds) 48 = .ok (.istore 6, 2) := by decide +kernel
theorem eX6_toldFromBothEnds_50 : decode (zYb kX6_toldFromBothEnds) 50 = .ok (.aload_n 0, 1) := by decide +kernel
theorem eX6_toldFromBothEnds_51 : decode (zYb kX6_toldFromBothEnds) 51 = .ok (.iload_n 2, 1) := by decide +kernel
theorem eX6_toldFromBothEnds_52 : decode (zYb kX6_toldFromBothEnds) 52 = .ok (.invokevirtual 226, 3) := by decide +kernel
theorem eX6_toldFromBothEnds_55 : decode (zYb kX6_toldFromBothEnds) 55 = .ok (.istore 7, 2) := by decide +kernel
theorem eX6_toldFromBothEnds_57 : decode (zYb kX6_toldFromBothEnds) 57 = .ok (.aload_n 0, 1) := by decide +kernel
theorem eX6_toldFromBothEnds_58 : decode (zYb kX6_toldFromBothEnds) 58 = .ok (.iload 6, 2) := by decide +kernel
theorem eX6_toldFromBothEnds_60 : decode (zYb kX6_toldFromBothEnds) 60 = .ok (.iload 7, 2) := by decide +kernel
theorem eX6_toldFromBothEnds_62 : decode (zYb kX6_toldFromBothEnds) 62 = .ok (.iload 5, 2) := by decide +kernel
theorem eX6_toldFromBothEnds_64 : decode (zYb kX6_toldFromBothEnds) 64 = .ok (.iconst 1, 1) := by decide +kernel
theorem eX6_toldFromBothEnds_65 : decode (zYb kX6_toldFromBothEnds) 65 = .ok (.if_icmp .ne 7, 3) := by decide +kernel
theorem eX6_toldFromBothEnds_68 : decode (zYb kX6_toldFromBothEnds) 68 = .ok (.iconst 1, 1) := by decide +kernel
theorem eX6_toldFromBothEnds_69 : decode (zYb kX6_toldFromBothEnds) 69 = .ok (.goto 4, 3) := by decide +kernel
theorem eX6_toldFromBothEnds_72 : decode (zYb kX6_toldFromBothEnds) 72 = .ok (.iconst 0, 1) := by decide +kernel
theorem eX6_toldFromBothEnds_73 : decode (zYb kX6_toldFromBothEnds) 73 = .ok (.aload_n 1, 1) := by decide +kernel
theorem eX6_toldFromBothEnds_74 : decode (zYb kX6_toldFromBothEnds) 74 = .ok (.iload 6, 2) := by decide +kernel
theorem eX6_toldFromBothEnds_76 : decode (zYb kX6_toldFromBothEnds) 76 = .ok (.invokevirtual 229, 3) := by decide +kernel
theorem eX6_toldFromBothEnds_79 : decode (zYb kX6_toldFromBothEnds) 79 = .ok (.aload_n 0, 1) := by decide +kernel
theorem eX6_toldFromBothEnds_80 : decode (zYb kX6_toldFromBothEnds) 80 = .ok (.aload_n 1, 1) := by decide +kernel
theorem eX6_toldFromBothEnds_81 : decode (zYb kX6_toldFromBothEnds) 81 = .ok (.iload 7, 2) := by decide +kernel
theorem eX6_toldFromBothEnds_83 : decode (zYb kX6_toldFromBothEnds) 83 = .ok (.iconst 1, 1) := by decide +kernel
theorem eX6_toldFromBothEnds_84 : decode (zYb kX6_toldFromBothEnds) 84 = .ok (.invokevirtual 233, 3) := by decide +kernel
theorem eX6_toldFromBothEnds_87 : decode (zYb kX6_toldFromBothEnds) 87 = .ok (.ifCond .eq 14, 3) := by decide +kernel
theorem eX6_toldFromBothEnds_90 : decode (zYb kX6_toldFromBothEnds) 90 = .ok (.iload_n 3, 1) := by decide +kernel
theorem eX6_toldFromBothEnds_91 : decode (zYb kX6_toldFromBothEnds) 91 = .ok (.aload_n 0, 1) := by decide +kernel
theorem eX6_toldFromBothEnds_92 : decode (zYb kX6_toldFromBothEnds) 92 = .ok (.aload_n 1, 1) := by decide +kernel
theorem eX6_toldFromBothEnds_93 : decode (zYb kX6_toldFromBothEnds) 93 = .ok (.iload_n 2, 1) := by decide +kernel
theorem eX6_toldFromBothEnds_94 : decode (zYb kX6_toldFromBothEnds) 94 = .ok (.iconst 1, 1) := by decide +kernel
theorem eX6_toldFromBothEnds_95 : decode (zYb kX6_toldFromBothEnds) 95 = .ok (.iadd, 1) := by decide +kernel
theorem eX6_toldFromBothEnds_96 : decode (zYb kX6_toldFromBothEnds) 96 = .ok (.invokestatic 219, 3) := by decide +kernel
theorem eX6_toldFromBothEnds_99 : decode (zYb kX6_toldFromBothEnds) 99 = .ok (.iadd, 1) := by decide +kernel
theorem eX6_toldFromBothEnds_100 : decode (zYb kX6_toldFromBothEnds) 100 = .ok (.istore_n 3, 1) := by decide +kernel
theorem eX6_toldFromBothEnds_101 : decode (zYb kX6_toldFromBothEnds) 101 = .ok (.iinc 5 1, 3) := by decide +kernel
theorem eX6_toldFromBothEnds_104 : decode (zYb kX6_toldFromBothEnds) 104 = .ok (.goto (-68), 3) := by decide +kernel
theorem eX6_toldFromBothEnds_107 : decode (zYb kX6_toldFromBothEnds) 107 = .ok (.iload_n 3, 1) := by decide +kernel
theorem eX6_toldFromBothEnds_108 : decode (zYb kX6_toldFromBothEnds) 108 = .ok (.ireturn, 1) := by decide +kernel
theorem eX6_readingsWithCut_0 : decode (zYb kX6_readingsWithCut) 0 = .ok (.aload_n 0, 1) := by decide +kernel
theorem eX6_readingsWithCut_1 : decode (zYb kX6_readingsWithCut) 1 = .ok (.getfield 48, 3) := by decide +kernel
theorem eX6_readingsWithCut_4 : decode (zYb kX6_readingsWithCut) 4 = .ok (.aload_n 1, 1) := by decide +kernel
theorem eX6_readingsWithCut_5 : decode (zYb kX6_readingsWithCut) 5 = .ok (.invokevirtual 237, 3) := by decide +kernel
theorem eX6_readingsWithCut_8 : decode (zYb kX6_readingsWithCut) 8 = .ok (.aload_n 0, 1) := by decide +kernel
theorem eX6_readingsWithCut_9 : decode (zYb kX6_readingsWithCut) 9 = .ok (.getfield 48, 3) := by decide +kernel
theorem eX6_readingsWithCut_12 : decode (zYb kX6_readingsWithCut) 12 = .ok (.iload_n 2, 1) := by decide +kernel
theorem eX6_readingsWithCut_13 : decode (zYb kX6_readingsWithCut) 13 = .ok (.iload_n 3, 1) := by decide +kernel
theorem eX6_readingsWithCut_14 : decode (zYb kX6_readingsWithCut) 14 = .ok (.invokevirtual 99, 3) := by decide +kernel
theorem eX6_readingsWithCut_17 : decode (zYb kX6_readingsWithCut) 17 = .ok (.aload_n 0, 1) := by decide +kernel
theorem eX6_readingsWithCut_18 : decode (zYb kX6_readingsWithCut) 18 = .ok (.aload_n 0, 1) := by decide +kernel
theorem eX6_readingsWithCut_19 : decode (zYb kX6_readingsWithCut) 19 = .ok (.getfield 48, 3) := by decide +kernel
theorem eX6_readingsWithCut_22 : decode (zYb kX6_readingsWithCut) 22 = .ok (.invokevirtual 122, 3) := by decide +kernel
theorem eX6_readingsWithCut_25 : decode (zYb kX6_readingsWithCut) 25 = .ok (.ireturn, 1) := by decide +kernel
theorem eX6_readingsOfBoth_0 : decode (zYb kX6_readingsOfBoth) 0 = .ok (.iconst 0, 1) := by decide +kernel
theorem eX6_readingsOfBoth_1 : decode (zYb kX6_readingsOfBoth) 1 = .ok (.istore_n 3, 1) := by decide +kernel
theorem eX6_readingsOfBoth_2 : decode (zYb kX6_readingsOfBoth) 2 = .ok (.aload_n 0, 1) := by decide +kernel
theorem eX6_readingsOfBoth_3 : decode (zYb kX6_readingsOfBoth) 3 = .ok (.getfield 41, 3) := by decide +kernel
theorem eX6_readingsOfBoth_6 : decode (zYb kX6_readingsOfBoth) 6 = .ok (.aload_n 1, 1) := by decide +kernel
theorem eX6_readingsOfBoth_7 : decode (zYb kX6_readingsOfBoth) 7 = .ok (.invokevirtual 148, 3) := by decide +kernel
theorem eX6_readingsOfBoth_10 : decode (zYb kX6_readingsOfBoth) 10 = .ok (.iconst 0, 1) := by decide +kernel
theorem eX6_readingsOfBoth_11 : decode (zYb kX6_readingsOfBoth) 11 = .ok (.istore 4, 2) := by decide +kernel
theorem eX6_readingsOfBoth_13 : decode (zYb kX6_readingsOfBoth) 13 = .ok (.iload 4, 2) := by decide +kernel
theorem eX6_readingsOfBoth_15 : decode (zYb kX6_readingsOfBoth) 15 = .ok (.sipush 128, 3) := by decide +kernel
theorem eX6_readingsOfBoth_18 : decode (zYb kX6_readingsOfBoth) 18 = .ok (.if_icmp .ge 43, 3) := by decide +kernel
theorem eX6_readingsOfBoth_21 : decode (zYb kX6_readingsOfBoth) 21 = .ok (.aload_n 0, 1) := by decide +kernel
theorem eX6_readingsOfBoth_22 : decode (zYb kX6_readingsOfBoth) 22 = .ok (.getfield 41, 3) := by decide +kernel
theorem eX6_readingsOfBoth_25 : decode (zYb kX6_readingsOfBoth) 25 = .ok (.invokevirtual 151, 3) := by decide +kernel
theorem eX6_readingsOfBoth_28 : decode (zYb kX6_readingsOfBoth) 28 = .ok (.ifCond .eq 33, 3) := by decide +kernel
theorem eX6_readingsOfBoth_31 : decode (zYb kX6_readingsOfBoth) 31 = .ok (.aload_n 2, 1) := by decide +kernel
theorem eX6_readingsOfBoth_32 : decode (zYb kX6_readingsOfBoth) 32 = .ok (.aload_n 0, 1) := by decide +kernel
theorem eX6_readingsOfBoth_33 : decode (zYb kX6_readingsOfBoth) 33 = .ok (.getfield 41, 3) := by decide +kernel
theorem eX6_readingsOfBoth_36 : decode (zYb kX6_readingsOfBoth) 36 = .ok (.getfield 239, 3) := by decide +kernel
theorem eX6_readingsOfBoth_39 : decode (zYb kX6_readingsOfBoth) 39 = .ok (.aload_n 0, 1) := by decide +kernel
theorem eX6_readingsOfBoth_40 : decode (zYb kX6_readingsOfBoth) 40 = .ok (.getfield 41, 3) := by decide +kernel
theorem eX6_readingsOfBoth_43 : decode (zYb kX6_readingsOfBoth) 43 = .ok (.getfield 242, 3) := by decide +kernel
theorem eX6_readingsOfBoth_46 : decode (zYb kX6_readingsOfBoth) 46 = .ok (.invokevirtual 243, 3) := by decide +kernel
theorem eX6_readingsOfBoth_49 : decode (zYb kX6_readingsOfBoth) 49 = .ok (.ifCond .eq 6, 3) := by decide +kernel
theorem eX6_readingsOfBoth_52 : decode (zYb kX6_readingsOfBoth) 52 = .ok (.iinc 3 1, 3) := by decide +kernel
theorem eX6_readingsOfBoth_55 : decode (zYb kX6_readingsOfBoth) 55 = .ok (.iinc 4 1, 3) := by decide +kernel
theorem eX6_readingsOfBoth_58 : decode (zYb kX6_readingsOfBoth) 58 = .ok (.goto (-45), 3) := by decide +kernel
theorem eX6_readingsOfBoth_61 : decode (zYb kX6_readingsOfBoth) 61 = .ok (.iload_n 3, 1) := by decide +kernel
theorem eX6_readingsOfBoth_62 : decode (zYb kX6_readingsOfBoth) 62 = .ok (.ireturn, 1) := by decide +kernel
theorem eX6_tellTheSame_0 : decode (zYb kX6_tellTheSame) 0 = .ok (.aload_n 0, 1) := by decide +kernel
theorem eX6_tellTheSame_1 : decode (zYb kX6_tellTheSame) 1 = .ok (.aload_n 1, 1) := by decide +kernel
theorem eX6_tellTheSame_2 : decode (zYb kX6_tellTheSame) 2 = .ok (.invokevirtual 122, 3) := by decide +kernel
theorem eX6_tellTheSame_5 : decode (zYb kX6_tellTheSame) 5 = .ok (.istore_n 3, 1) := by decide +kernel
theorem eX6_tellTheSame_6 : decode (zYb kX6_tellTheSame) 6 = .ok (.iload_n 3, 1) := by decide +kernel
theorem eX6_tellTheSame_7 : decode (zYb kX6_tellTheSame) 7 = .ok (.aload_n 0, 1) := by decide +kernel
theorem eX6_tellTheSame_8 : decode (zYb kX6_tellTheSame) 8 = .ok (.aload_n 2, 1) := by decide +kernel
theorem eX6_tellTheSame_9 : decode (zYb kX6_tellTheSame) 9 = .ok (.invokevirtual 122, 3) := by decide +kernel
theorem eX6_tellTheSame_12 : decode (zYb kX6_tellTheSame) 12 = .ok (.if_icmp .ne 17, 3) := by decide +kernel
theorem eX6_tellTheSame_15 : decode (zYb kX6_tellTheSame) 15 = .ok (.iload_n 3, 1) := by decide +kernel
theorem eX6_tellTheSame_16 : decode (zYb kX6_tellTheSame) 16 = .ok (.aload_n 0, 1) := by decide +kernel
theorem eX6_tellTheSame_17 : decode (zYb kX6_tellTheSame) 17 = .ok (.aload_n 1, 1) := by decide +kernel
theorem eX6_tellTheSame_18 : decode (zYb kX6_tellTheSame) 18 = .ok (.aload_n 2, 1) := by decide +kernel
theorem eX6_tellTheSame_19 : decode (zYb kX6_tellTheSame) 19 = .ok (.invokevirtual 163, 3) := by decide +kernel
theorem eX6_tellTheSame_22 : decode (zYb kX6_tellTheSame) 22 = .ok (.if_icmp .ne 7, 3) := by decide +kernel
theorem eX6_tellTheSame_25 : decode (zYb kX6_tellTheSame) 25 = .ok (.iconst 1, 1) := by decide +kernel
theorem eX6_tellTheSame_26 : decode (zYb kX6_tellTheSame) 26 = .ok (.goto 4, 3) := by decide +kernel
theorem eX6_tellTheSame_29 : decode (zYb kX6_tellTheSame) 29 = .ok (.iconst 0, 1) := by decide +kernel
theorem eX6_tellTheSame_30 : decode (zYb kX6_tellTheSame) 30 = .ok (.ireturn, 1) := by decide +kernel
theorem eX6_evenReadings_0 : decode (zYb kX6_evenReadings) 0 = .ok (.iconst 0, 1) := by decide +kernel
theorem eX6_evenReadings_1 : decode (zYb kX6_evenReadings) 1 = .ok (.istore_n 2, 1) := by decide +kernel
theorem eX6_evenReadings_2 : decode (zYb kX6_evenReadings) 2 = .ok (.aload_n 0, 1) := by decide +kernel
theorem eX6_evenReadings_3 : decode (zYb kX6_evenReadings) 3 = .ok (.getfield 41, 3) := by decide +kernel
theorem eX6_evenReadings_6 : decode (zYb kX6_evenReadings) 6 = .ok (.aload_n 1, 1) := by decide +kernel
theorem eX6_evenReadings_7 : decode (zYb kX6_evenReadings) 7 = .ok (.invokevirtual 148, 3) := by decide +kernel
theorem eX6_evenReadings_10 : decode (zYb kX6_evenReadings) 10 = .ok (.iconst 0, 1) := by decide +kernel
theorem eX6_evenReadings_11 : decode (zYb kX6_evenReadings) 11 = .ok (.istore_n 3, 1) := by decide +kernel
theorem eX6_evenReadings_12 : decode (zYb kX6_evenReadings) 12 = .ok (.iload_n 3, 1) := by decide +kernel
theorem eX6_evenReadings_13 : decode (zYb kX6_evenReadings) 13 = .ok (.sipush 128, 3) := by decide +kernel
theorem eX6_evenReadings_16 : decode (zYb kX6_evenReadings) 16 = .ok (.if_icmp .ge 43, 3) := by decide +kernel
theorem eX6_evenReadings_19 : decode (zYb kX6_evenReadings) 19 = .ok (.aload_n 0, 1) := by decide +kernel
theorem eX6_evenReadings_20 : decode (zYb kX6_evenReadings) 20 = .ok (.getfield 41, 3) := by decide +kernel
theorem eX6_evenReadings_23 : decode (zYb kX6_evenReadings) 23 = .ok (.invokevirtual 151, 3) := by decide +kernel
theorem eX6_evenReadings_26 : decode (zYb kX6_evenReadings) 26 = .ok (.ifCond .eq 33, 3) := by decide +kernel
theorem eX6_evenReadings_29 : decode (zYb kX6_evenReadings) 29 = .ok (.aload_n 0, 1) := by decide +kernel
theorem eX6_evenReadings_30 : decode (zYb kX6_evenReadings) 30 = .ok (.getfield 41, 3) := by decide +kernel
theorem eX6_evenReadings_33 : decode (zYb kX6_evenReadings) 33 = .ok (.getfield 239, 3) := by decide +kernel
theorem eX6_evenReadings_36 : decode (zYb kX6_evenReadings) 36 = .ok (.iconst 0, 1) := by decide +kernel
theorem eX6_evenReadings_37 : decode (zYb kX6_evenReadings) 37 = .ok (.aload_n 0, 1) := by decide +kernel
theorem eX6_evenReadings_38 : decode (zYb kX6_evenReadings) 38 = .ok (.getfield 41, 3) := by decide +kernel
theorem eX6_evenReadings_41 : decode (zYb kX6_evenReadings) 41 = .ok (.getfield 242, 3) := by decide +kernel
theorem eX6_evenReadings_44 : decode (zYb kX6_evenReadings) 44 = .ok (.invokestatic 247, 3) := by decide +kernel
theorem eX6_evenReadings_47 : decode (zYb kX6_evenReadings) 47 = .ok (.ifCond .ne 6, 3) := by decide +kernel
theorem eX6_evenReadings_50 : decode (zYb kX6_evenReadings) 50 = .ok (.iinc 2 1, 3) := by decide +kernel
theorem eX6_evenReadings_53 : decode (zYb kX6_evenReadings) 53 = .ok (.iinc 3 1, 3) := by decide +kernel
theorem eX6_evenReadings_56 : decode (zYb kX6_evenReadings) 56 = .ok (.goto (-44), 3) := by decide +kernel
theorem eX6_evenReadings_59 : decode (zYb kX6_evenReadings) 59 = .ok (.iload_n 2, 1) := by decide +kernel
theorem eX6_evenReadings_60 : decode (zYb kX6_evenReadings) 60 = .ok (.ireturn, 1) := by decide +kernel
theorem eX6_idleSeams_0 : decode (zYb kX6_idleSeams) 0 = .ok (.iconst 0, 1) := by decide +kernel
theorem eX6_idleSeams_1 : decode (zYb kX6_idleSeams) 1 = .ok (.istore_n 2, 1) := by decide +kernel
theorem eX6_idleSeams_2 : decode (zYb kX6_idleSeams) 2 = .ok (.iconst 0, 1) := by decide +kernel
theorem eX6_idleSeams_3 : decode (zYb kX6_idleSeams) 3 = .ok (.istore_n 3, 1) := by decide +kernel
theorem eX6_idleSeams_4 : decode (zYb kX6_idleSeams) 4 = .ok (.iload_n 3, 1) := by decide +kernel
theorem eX6_idleSeams_5 : decode (zYb kX6_idleSeams) 5 = .ok (.iconst 1, 1) := by decide +kernel
theorem eX6_idleSeams_6 : decode (zYb kX6_idleSeams) 6 = .ok (.iadd, 1) := by decide +kernel
theorem eX6_idleSeams_7 : decode (zYb kX6_idleSeams) 7 = .ok (.aload_n 1, 1) := by decide +kernel
theorem eX6_idleSeams_8 : decode (zYb kX6_idleSeams) 8 = .ok (.getfield 96, 3) := by decide +kernel
theorem eX6_idleSeams_11 : decode (zYb kX6_idleSeams) 11 = .ok (.if_icmp .ge 40, 3) := by decide +kernel
theorem eX6_idleSeams_14 : decode (zYb kX6_idleSeams) 14 = .ok (.aload_n 0, 1) := by decide +kernel
theorem eX6_idleSeams_15 : decode (zYb kX6_idleSeams) 15 = .ok (.getfield 48, 3) := by decide +kernel
theorem eX6_idleSeams_18 : decode (zYb kX6_idleSeams) 18 = .ok (.aload_n 1, 1) := by decide +kernel
theorem eX6_idleSeams_19 : decode (zYb kX6_idleSeams) 19 = .ok (.invokevirtual 237, 3) := by decide +kernel
theorem eX6_idleSeams_22 : decode (zYb kX6_idleSeams) 22 = .ok (.aload_n 0, 1) := by decide +kernel
theorem eX6_idleSeams_23 : decode (zYb kX6_idleSeams) 23 = .ok (.getfield 48, 3) := by decide +kernel
theorem eX6_idleSeams_26 : decode (zYb kX6_idleSeams) 26 = .ok (.iload_n 3, 1) := by decide +kernel
theorem eX6_idleSeams_27 : decode (zYb kX6_idleSeams) 27 = .ok (.invokevirtual 110, 3) := by decide +kernel
theorem eX6_idleSeams_30 : decode (zYb kX6_idleSeams) 30 = .ok (.aload_n 0, 1) := by decide +kernel
theorem eX6_idleSeams_31 : decode (zYb kX6_idleSeams) 31 = .ok (.aload_n 1, 1) := by decide +kernel
theorem eX6_idleSeams_32 : decode (zYb kX6_idleSeams) 32 = .ok (.aload_n 0, 1) := by decide +kernel
theorem eX6_idleSeams_33 : decode (zYb kX6_idleSeams) 33 = .ok (.getfield 48, 3) := by decide +kernel
theorem eX6_idleSeams_36 : decode (zYb kX6_idleSeams) 36 = .ok (.invokevirtual 251, 3) := by decide +kernel
theorem eX6_idleSeams_39 : decode (zYb kX6_idleSeams) 39 = .ok (.ifCond .eq 6, 3) := by decide +kernel
theorem eX6_idleSeams_42 : decode (zYb kX6_idleSeams) 42 = .ok (.iinc 2 1, 3) := by decide +kernel
theorem eX6_idleSeams_45 : decode (zYb kX6_idleSeams) 45 = .ok (.iinc 3 1, 3) := by decide +kernel
theorem eX6_idleSeams_48 : decode (zYb kX6_idleSeams) 48 = .ok (.goto (-44), 3) := by decide +kernel
theorem eX6_idleSeams_51 : decode (zYb kX6_idleSeams) 51 = .ok (.iload_n 2, 1) := by decide +kernel
theorem eX6_idleSeams_52 : decode (zYb kX6_idleSeams) 52 = .ok (.ireturn, 1) := by decide +kernel
theorem eX6_findWord_0 : decode (zYb kX6_findWord) 0 = .ok (.iconst 0, 1) := by decide +kernel
theorem eX6_findWord_1 : decode (zYb kX6_findWord) 1 = .ok (.istore_n 3, 1) := by decide +kernel
theorem eX6_findWord_2 : decode (zYb kX6_findWord) 2 = .ok (.iconst 0, 1) := by decide +kernel
theorem eX6_findWord_3 : decode (zYb kX6_findWord) 3 = .ok (.istore 4, 2) := by decide +kernel
theorem eX6_findWord_5 : decode (zYb kX6_findWord) 5 = .ok (.bipush (-6), 2) := by decide +kernel
theorem eX6_findWord_7 : decode (zYb kX6_findWord) 7 = .ok (.istore 5, 2) := by decide +kernel
theorem eX6_findWord_9 : decode (zYb kX6_findWord) 9 = .ok (.bipush (-6), 2) := by decide +kernel
theorem eX6_findWord_11 : decode (zYb kX6_findWord) 11 = .ok (.istore 6, 2) := by decide +kernel
theorem eX6_findWord_13 : decode (zYb kX6_findWord) 13 = .ok (.aload_n 0, 1) := by decide +kernel
theorem eX6_findWord_14 : decode (zYb kX6_findWord) 14 = .ok (.getfield 41, 3) := by decide +kernel
theorem eX6_findWord_17 : decode (zYb kX6_findWord) 17 = .ok (.aload_n 1, 1) := by decide +kernel
theorem eX6_findWord_18 : decode (zYb kX6_findWord) 18 = .ok (.invokevirtual 148, 3) := by decide +kernel
theorem eX6_findWord_21 : decode (zYb kX6_findWord) 21 = .ok (.iconst 0, 1) := by decide +kernel
theorem eX6_findWord_22 : decode (zYb kX6_findWord) 22 = .ok (.istore 7, 2) := by decide +kernel
theorem eX6_findWord_24 : decode (zYb kX6_findWord) 24 = .ok (.iload 7, 2) := by decide +kernel
theorem eX6_findWord_26 : decode (zYb kX6_findWord) 26 = .ok (.sipush 128, 3) := by decide +kernel
theorem eX6_findWord_29 : decode (zYb kX6_findWord) 29 = .ok (.if_icmp .ge 77, 3) := by decide +kernel
theorem eX6_findWord_32 : decode (zYb kX6_findWord) 32 = .ok (.aload_n 0, 1) := by decide +kernel
theorem eX6_findWord_33 : decode (zYb kX6_findWord) 33 = .ok (.getfield 41, 3) := by decide +kernel
theorem eX6_findWord_36 : decode (zYb kX6_findWord) 36 = .ok (.invokevirtual 151, 3) := by decide +kernel
theorem eX6_findWord_39 : decode (zYb kX6_findWord) 39 = .ok (.ifCond .eq 67, 3) := by decide +kernel
theorem eX6_findWord_42 : decode (zYb kX6_findWord) 42 = .ok (.aload_n 0, 1) := by decide +kernel
theorem eX6_findWord_43 : decode (zYb kX6_findWord) 43 = .ok (.getfield 19, 3) := by decide +kernel
theorem eX6_findWord_46 : decode (zYb kX6_findWord) 46 = .ok (.aload_n 0, 1) := by decide +kernel
theorem eX6_findWord_47 : decode (zYb kX6_findWord) 47 = .ok (.getfield 41, 3) := by decide +kernel
theorem eX6_findWord_50 : decode (zYb kX6_findWord) 50 = .ok (.getfield 239, 3) := by decide +kernel
theorem eX6_findWord_53 : decode (zYb kX6_findWord) 53 = .ok (.aload_n 0, 1) := by decide +kernel
theorem eX6_findWord_54 : decode (zYb kX6_findWord) 54 = .ok (.getfield 41, 3) := by decide +kernel
theorem eX6_findWord_57 : decode (zYb kX6_findWord) 57 = .ok (.getfield 242, 3) := by decide +kernel
theorem eX6_findWord_60 : decode (zYb kX6_findWord) 60 = .ok (.invokevirtual 255, 3) := by decide +kernel
theorem eX6_findWord_63 : decode (zYb kX6_findWord) 63 = .ok (.istore 8, 2) := by decide +kernel
theorem eX6_findWord_65 : decode (zYb kX6_findWord) 65 = .ok (.iinc 4 1, 3) := by decide +kernel
theorem eX6_findWord_68 : decode (zYb kX6_findWord) 68 = .ok (.iload 8, 2) := by decide +kernel
theorem eX6_findWord_70 : decode (zYb kX6_findWord) 70 = .ok (.bipush (-6), 2) := by decide +kernel
theorem eX6_findWord_72 : decode (zYb kX6_findWord) 72 = .ok (.if_icmp .eq 6, 3) := by decide +kernel
theorem eX6_findWord_75 : decode (zYb kX6_findWord) 75 = .ok (.iinc 3 1, 3) := by decide +kernel
theorem eX6_findWord_78 : decode (zYb kX6_findWord) 78 = .ok (.iload 8, 2) := by decide +kernel
theorem eX6_findWord_80 : decode (zYb kX6_findWord) 80 = .ok (.bipush (-6), 2) := by decide +kernel
theorem eX6_findWord_82 : decode (zYb kX6_findWord) 82 = .ok (.if_icmp .eq 18, 3) := by decide +kernel
theorem eX6_findWord_85 : decode (zYb kX6_findWord) 85 = .ok (.iload 5, 2) := by decide +kernel
theorem eX6_findWord_87 : decode (zYb kX6_findWord) 87 = .ok (.bipush (-6), 2) := by decide +kernel
theorem eX6_findWord_89 : decode (zYb kX6_findWord) 89 = .ok (.if_icmp .ne 11, 3) := by decide +kernel
theorem eX6_findWord_92 : decode (zYb kX6_findWord) 92 = .ok (.iload 7, 2) := by decide +kernel
theorem eX6_findWord_94 : decode (zYb kX6_findWord) 94 = .ok (.istore 5, 2) := by decide +kernel
theorem eX6_findWord_96 : decode (zYb kX6_findWord) 96 = .ok (.iload 8, 2) := by decide +kernel
theorem eX6_findWord_98 : decode (zYb kX6_findWord) 98 = .ok (.istore 6, 2) := by decide +kernel
theorem eX6_findWord_100 : decode (zYb kX6_findWord) 100 = .ok (.iinc 7 1, 3) := by decide +kernel
theorem eX6_findWord_103 : decode (zYb kX6_findWord) 103 = .ok (.goto (-79), 3) := by decide +kernel
theorem eX6_findWord_106 : decode (zYb kX6_findWord) 106 = .ok (.iload_n 2, 1) := by decide +kernel
theorem eX6_findWord_107 : decode (zYb kX6_findWord) 107 = .ok (.tableswitch 33 0 2 #[25, 27, 30], 25) := by decide +kernel
theorem eX6_findWord_132 : decode (zYb kX6_findWord) 132 = .ok (.iload_n 3, 1) := by decide +kernel
theorem eX6_findWord_133 : decode (zYb kX6_findWord) 133 = .ok (.ireturn, 1) := by decide +kernel
theorem eX6_findWord_134 : decode (zYb kX6_findWord) 134 = .ok (.iload 5, 2) := by decide +kernel
theorem eX6_findWord_136 : decode (zYb kX6_findWord) 136 = .ok (.ireturn, 1) := by decide +kernel
theorem eX6_findWord_137 : decode (zYb kX6_findWord) 137 = .ok (.iload 6, 2) := by decide +kernel
theorem eX6_findWord_139 : decode (zYb kX6_findWord) 139 = .ok (.ireturn, 1) := by decide +kernel
theorem eX6_findWord_140 : decode (zYb kX6_findWord) 140 = .ok (.iload_n 3, 1) := by decide +kernel
theorem eX6_findWord_141 : decode (zYb kX6_findWord) 141 = .ok (.iload 4, 2) := by decide +kernel
theorem eX6_findWord_143 : decode (zYb kX6_findWord) 143 = .ok (.if_icmp .ne 7, 3) := by decide +kernel
theorem eX6_findWord_146 : decode (zYb kX6_findWord) 146 = .ok (.iconst 1, 1) := by decide +kernel
theorem eX6_findWord_147 : decode (zYb kX6_findWord) 147 = .ok (.goto 4, 3) := by decide +kernel
theorem eX6_findWord_150 : decode (zYb kX6_findWord) 150 = .ok (.iconst 0, 1) := by decide +kernel
theorem eX6_findWord_151 : decode (zYb kX6_findWord) 151 = .ok (.ireturn, 1) := by decide +kernel
theorem eX6_readingsOfAll_0 : decode (zYb kX6_readingsOfAll) 0 = .ok (.iconst 0, 1) := by decide +kernel
theorem eX6_readingsOfAll_1 : decode (zYb kX6_readingsOfAll) 1 = .ok (.istore_n 1, 1) := by decide +kernel
theorem eX6_readingsOfAll_2 : decode (zYb kX6_readingsOfAll) 2 = .ok (.iconst 0, 1) := by decide +kernel
theorem eX6_readingsOfAll_3 : decode (zYb kX6_readingsOfAll) 3 = .ok (.istore_n 2, 1) := by decide +kernel
theorem eX6_readingsOfAll_4 : decode (zYb kX6_readingsOfAll) 4 = .ok (.iload_n 2, 1) := by decide +kernel
theorem eX6_readingsOfAll_5 : decode (zYb kX6_readingsOfAll) 5 = .ok (.aload_n 0, 1) := by decide +kernel
theorem eX6_readingsOfAll_6 : decode (zYb kX6_readingsOfAll) 6 = .ok (.getfield 10, 3) := by decide +kernel
theorem eX6_readingsOfAll_9 : decode (zYb kX6_readingsOfAll) 9 = .ok (.getfield 60, 3) := by decide +kernel
theorem eX6_readingsOfAll_12 : decode (zYb kX6_readingsOfAll) 12 = .ok (.if_icmp .ge 31, 3) := by decide +kernel
theorem eX6_readingsOfAll_15 : decode (zYb kX6_readingsOfAll) 15 = .ok (.aload_n 0, 1) := by decide +kernel
theorem eX6_readingsOfAll_16 : decode (zYb kX6_readingsOfAll) 16 = .ok (.getfield 10, 3) := by decide +kernel
theorem eX6_readingsOfAll_19 : decode (zYb kX6_readingsOfAll) 19 = .ok (.iload_n 2, 1) := by decide +kernel
theorem eX6_readingsOfAll_20 : decode (zYb kX6_readingsOfAll) 20 = .ok (.invokevirtual 77, 3) := by decide +kernel
theorem eX6_readingsOfAll_23 : decode (zYb kX6_readingsOfAll) 23 = .ok (.astore_n 3, 1) := by decide +kernel
theorem eX6_readingsOfAll_24 : decode (zYb kX6_readingsOfAll) 24 = .ok (.aload_n 3, 1) := by decide +kernel
theorem eX6_readingsOfAll_25 : decode (zYb kX6_readingsOfAll) 25 = .ok (.ifnull 12, 3) := by decide +kernel
theorem eX6_readingsOfAll_28 : decode (zYb kX6_readingsOfAll) 28 = .ok (.iload_n 1, 1) := by decide +kernel
theorem eX6_readingsOfAll_29 : decode (zYb kX6_readingsOfAll) 29 = .ok (.aload_n 0, 1) := by decide +kernel
theorem eX6_readingsOfAll_30 : decode (zYb kX6_readingsOfAll) 30 = .ok (.aload_n 3, 1) := by decide +kernel
theorem eX6_readingsOfAll_31 : decode (zYb kX6_readingsOfAll) 31 = .ok (.iload_n 2, 1) := by decide +kernel
theorem eX6_readingsOfAll_32 : decode (zYb kX6_readingsOfAll) 32 = .ok (.invokevirtual 259, 3) := by decide +kernel
theorem eX6_readingsOfAll_35 : decode (zYb kX6_readingsOfAll) 35 = .ok (.iadd, 1) := by decide +kernel
theorem eX6_readingsOfAll_36 : decode (zYb kX6_readingsOfAll) 36 = .ok (.istore_n 1, 1) := by decide +kernel
theorem eX6_readingsOfAll_37 : decode (zYb kX6_readingsOfAll) 37 = .ok (.iinc 2 1, 3) := by decide +kernel
theorem eX6_readingsOfAll_40 : decode (zYb kX6_readingsOfAll) 40 = .ok (.goto (-36), 3) := by decide +kernel
theorem eX6_readingsOfAll_43 : decode (zYb kX6_readingsOfAll) 43 = .ok (.iload_n 1, 1) := by decide +kernel
theorem eX6_readingsOfAll_44 : decode (zYb kX6_readingsOfAll) 44 = .ok (.ireturn, 1) := by decide +kernel
theorem eX6_readingsNotToldBefore_0 : decode (zYb kX6_readingsNotToldBefore) 0 = .ok (.iconst 0, 1) := by decide +kernel
theorem eX6_readingsNotToldBefore_1 : decode (zYb kX6_readingsNotToldBefore) 1 = .ok (.istore_n 3, 1) := by decide +kernel
theorem eX6_readingsNotToldBefore_2 : decode (zYb kX6_readingsNotToldBefore) 2 = .ok (.aload_n 0, 1) := by decide +kernel
theorem eX6_readingsNotToldBefore_3 : decode (zYb kX6_readingsNotToldBefore) 3 = .ok (.getfield 41, 3) := by decide +kernel
theorem eX6_readingsNotToldBefore_6 : decode (zYb kX6_readingsNotToldBefore) 6 = .ok (.aload_n 1, 1) := by decide +kernel
theorem eX6_readingsNotToldBefore_7 : decode (zYb kX6_readingsNotToldBefore) 7 = .ok (.invokevirtual 148, 3) := by decide +kernel
theorem eX6_readingsNotToldBefore_10 : decode (zYb kX6_readingsNotToldBefore) 10 = .ok (.iconst 0, 1) := by decide +kernel
theorem eX6_readingsNotToldBefore_11 : decode (zYb kX6_readingsNotToldBefore) 11 = .ok (.istore 4, 2) := by decide +kernel
theorem eX6_readingsNotToldBefore_13 : decode (zYb kX6_readingsNotToldBefore) 13 = .ok (.iload 4, 2) := by decide +kernel
theorem eX6_readingsNotToldBefore_15 : decode (zYb kX6_readingsNotToldBefore) 15 = .ok (.sipush 128, 3) := by decide +kernel
theorem eX6_readingsNotToldBefore_18 : decode (zYb kX6_readingsNotToldBefore) 18 = .ok (.if_icmp .ge 47, 3) := by decide +kernel
theorem eX6_readingsNotToldBefore_21 : decode (zYb kX6_readingsNotToldBefore) 21 = .ok (.aload_n 0, 1) := by decide +kernel
theorem eX6_readingsNotToldBefore_22 : decode (zYb kX6_readingsNotToldBefore) 22 = .ok (.getfield 41, 3) := by decide +kernel
theorem eX6_readingsNotToldBefore_25 : decode (zYb kX6_readingsNotToldBefore) 25 = .ok (.invokevirtual 151, 3) := by decide +kernel
theorem eX6_readingsNotToldBefore_28 : decode (zYb kX6_readingsNotToldBefore) 28 = .ok (.ifCond .eq 37, 3) := by decide +kernel
theorem eX6_readingsNotToldBefore_31 : decode (zYb kX6_readingsNotToldBefore) 31 = .ok (.aload_n 0, 1) := by decide +kernel
theorem eX6_readingsNotToldBefore_32 : decode (zYb kX6_readingsNotToldBefore) 32 = .ok (.getfield 10, 3) := by decide +kernel
theorem eX6_readingsNotToldBefore_35 : decode (zYb kX6_readingsNotToldBefore) 35 = .ok (.iload_n 2, 1) := by decide +kernel
theorem eX6_readingsNotToldBefore_36 : decode (zYb kX6_readingsNotToldBefore) 36 = .ok (.aload_n 0, 1) := by decide +kernel
theorem eX6_readingsNotToldBefore_37 : decode (zYb kX6_readingsNotToldBefore) 37 = .ok (.getfield 41, 3) := by decide +kernel
theorem eX6_readingsNotToldBefore_40 : decode (zYb kX6_readingsNotToldBefore) 40 = .ok (.getfield 239, 3) := by decide +kernel
theorem eX6_readingsNotToldBefore_43 : decode (zYb kX6_readingsNotToldBefore) 43 = .ok (.aload_n 0, 1) := by decide +kernel
theorem eX6_readingsNotToldBefore_44 : decode (zYb kX6_readingsNotToldBefore) 44 = .ok (.getfield 41, 3) := by decide +kernel
theorem eX6_readingsNotToldBefore_47 : decode (zYb kX6_readingsNotToldBefore) 47 = .ok (.getfield 242, 3) := by decide +kernel
theorem eX6_readingsNotToldBefore_50 : decode (zYb kX6_readingsNotToldBefore) 50 = .ok (.invokevirtual 262, 3) := by decide +kernel
theorem eX6_readingsNotToldBefore_53 : decode (zYb kX6_readingsNotToldBefore) 53 = .ok (.ifCond .ne 6, 3) := by decide +kernel
theorem eX6_readingsNotToldBefore_56 : decode (zYb kX6_readingsNotToldBefore) 56 = .ok (.iinc 3 1, 3) := by decide +kernel
theorem eX6_readingsNotToldBefore_59 : decode (zYb kX6_readingsNotToldBefore) 59 = .ok (.iinc 4 1, 3) := by decide +kernel
theorem eX6_readingsNotToldBefore_62 : decode (zYb kX6_readingsNotToldBefore) 62 = .ok (.goto (-49), 3) := by decide +kernel
theorem eX6_readingsNotToldBefore_65 : decode (zYb kX6_readingsNotToldBefore) 65 = .ok (.iload_n 3, 1) := by decide +kernel
theorem eX6_readingsNotToldBefore_66 : decode (zYb kX6_readingsNotToldBefore) 66 = .ok (.ireturn, 1) := by decide +kernel
theorem eX6_pairsOfTheSame_0 : decode (zYb kX6_pairsOfTheSame) 0 = .ok (.iconst 0, 1) := by decide +kernel
theorem eX6_pairsOfTheSame_1 : decode (zYb kX6_pairsOfTheSame) 1 = .ok (.istore_n 1, 1) := by decide +kernel
theorem eX6_pairsOfTheSame_2 : decode (zYb kX6_pairsOfTheSame) 2 = .ok (.iconst 0, 1) := by decide +kernel
theorem eX6_pairsOfTheSame_3 : decode (zYb kX6_pairsOfTheSame) 3 = .ok (.istore_n 2, 1) := by decide +kernel
theorem eX6_pairsOfTheSame_4 : decode (zYb kX6_pairsOfTheSame) 4 = .ok (.iload_n 2, 1) := by decide +kernel
theorem eX6_pairsOfTheSame_5 : decode (zYb kX6_pairsOfTheSame) 5 = .ok (.aload_n 0, 1) := by decide +kernel
theorem eX6_pairsOfTheSame_6 : decode (zYb kX6_pairsOfTheSame) 6 = .ok (.getfield 10, 3) := by decide +kernel
theorem eX6_pairsOfTheSame_9 : decode (zYb kX6_pairsOfTheSame) 9 = .ok (.getfield 60, 3) := by decide +kernel
theorem eX6_pairsOfTheSame_12 : decode (zYb kX6_pairsOfTheSame) 12 = .ok (.if_icmp .ge 66, 3) := by decide +kernel
theorem eX6_pairsOfTheSame_15 : decode (zYb kX6_pairsOfTheSame) 15 = .ok (.iconst 0, 1) := by decide +kernel
theorem eX6_pairsOfTheSame_16 : decode (zYb kX6_pairsOfTheSame) 16 = .ok (.istore_n 3, 1) := by decide +kernel
theorem eX6_pairsOfTheSame_17 : decode (zYb kX6_pairsOfTheSame) 17 = .ok (.iload_n 3, 1) := by decide +kernel
theorem eX6_pairsOfTheSame_18 : decode (zYb kX6_pairsOfTheSame) 18 = .ok (.iload_n 2, 1) := by decide +kernel
theorem eX6_pairsOfTheSame_19 : decode (zYb kX6_pairsOfTheSame) 19 = .ok (.if_icmp .ge 53, 3) := by decide +kernel
theorem eX6_pairsOfTheSame_22 : decode (zYb kX6_pairsOfTheSame) 22 = .ok (.aload_n 0, 1) := by decide +kernel
theorem eX6_pairsOfTheSame_23 : decode (zYb kX6_pairsOfTheSame) 23 = .ok (.getfield 10, 3) := by decide +kernel
theorem eX6_pairsOfTheSame_26 : decode (zYb kX6_pairsOfTheSame) 26 = .ok (.iload_n 2, 1) := by decide +kernel
theorem eX6_pairsOfTheSame_27 : decode (zYb kX6_pairsOfTheSame) 27 = .ok (.invokevirtual 77, 3) := by decide +kernel
theorem eX6_pairsOfTheSame_30 : decode (zYb kX6_pairsOfTheSame) 30 = .ok (.astore 4, 2) := by decide +kernel
theorem eX6_pairsOfTheSame_32 : decode (zYb kX6_pairsOfTheSame) 32 = .ok (.aload_n 0, 1) := by decide +kernel
theorem eX6_pairsOfTheSame_33 : decode (zYb kX6_pairsOfTheSame) 33 = .ok (.getfield 10, 3) := by decide +kernel
theorem eX6_pairsOfTheSame_36 : decode (zYb kX6_pairsOfTheSame) 36 = .ok (.iload_n 3, 1) := by decide +kernel
theorem eX6_pairsOfTheSame_37 : decode (zYb kX6_pairsOfTheSame) 37 = .ok (.invokevirtual 77, 3) := by decide +kernel
theorem eX6_pairsOfTheSame_40 : decode (zYb kX6_pairsOfTheSame) 40 = .ok (.astore 5, 2) := by decide +kernel
theorem eX6_pairsOfTheSame_42 : decode (zYb kX6_pairsOfTheSame) 42 = .ok (.aload 4, 2) := by decide +kernel
theorem eX6_pairsOfTheSame_44 : decode (zYb kX6_pairsOfTheSame) 44 = .ok (.ifnull 22, 3) := by decide +kernel
theorem eX6_pairsOfTheSame_47 : decode (zYb kX6_pairsOfTheSame) 47 = .ok (.aload 5, 2) := by decide +kernel
theorem eX6_pairsOfTheSame_49 : decode (zYb kX6_pairsOfTheSame) 49 = .ok (.ifnull 17, 3) := by decide +kernel
theorem eX6_pairsOfTheSame_52 : decode (zYb kX6_pairsOfTheSame) 52 = .ok (.aload_n 0, 1) := by decide +kernel
theorem eX6_pairsOfTheSame_53 : decode (zYb kX6_pairsOfTheSame) 53 = .ok (.aload 4, 2) := by decide +kernel
theorem eX6_pairsOfTheSame_55 : decode (zYb kX6_pairsOfTheSame) 55 = .ok (.aload 5, 2) := by decide +kernel
theorem eX6_pairsOfTheSame_57 : decode (zYb kX6_pairsOfTheSame) 57 = .ok (.invokevirtual 251, 3) := by decide +kernel
theorem eX6_pairsOfTheSame_60 : decode (zYb kX6_pairsOfTheSame) 60 = .ok (.ifCond .eq 6, 3) := by decide +kernel
theorem eX6_pairsOfTheSame_63 : decode (zYb kX6_pairsOfTheSame) 63 = .ok (.iinc 1 1, 3) := by decide +kernel
theorem eX6_pairsOfTheSame_66 : decode (zYb kX6_pairsOfTheSame) 66 = .ok (.iinc 3 1, 3) := by decide +kernel
theorem eX6_pairsOfTheSame_69 : decode (zYb kX6_pairsOfTheSame) 69 = .ok (.goto (-52), 3) := by decide +kernel
theorem eX6_pairsOfTheSame_72 : decode (zYb kX6_pairsOfTheSame) 72 = .ok (.iinc 2 1, 3) := by decide +kernel
theorem eX6_pairsOfTheSame_75 : decode (zYb kX6_pairsOfTheSame) 75 = .ok (.goto (-71), 3) := by decide +kernel
theorem eX6_pairsOfTheSame_78 : decode (zYb kX6_pairsOfTheSame) 78 = .ok (.iload_n 1, 1) := by decide +kernel
theorem eX6_pairsOfTheSame_79 : decode (zYb kX6_pairsOfTheSame) 79 = .ok (.ireturn, 1) := by decide +kernel
theorem eX6_turnPart_0 : decode (zYb kX6_turnPart) 0 = .ok (.iload_n 1, 1) := by decide +kernel
theorem eX6_turnPart_1 : decode (zYb kX6_turnPart) 1 = .ok (.ifCond .lt 9, 3) := by decide +kernel
theorem eX6_turnPart_4 : decode (zYb kX6_turnPart) 4 = .ok (.iload_n 2, 1) := by decide +kernel
theorem eX6_turnPart_5 : decode (zYb kX6_turnPart) 5 = .ok (.aload_n 0, 1) := by decide +kernel
theorem eX6_turnPart_6 : decode (zYb kX6_turnPart) 6 = .ok (.arraylength, 1) := by decide +kernel
theorem eX6_turnPart_7 : decode (zYb kX6_turnPart) 7 = .ok (.if_icmp .le 4, 3) := by decide +kernel
theorem eX6_turnPart_10 : decode (zYb kX6_turnPart) 10 = .ok (.return_, 1) := by decide +kernel
theorem eX6_turnPart_11 : decode (zYb kX6_turnPart) 11 = .ok (.iload_n 1, 1) := by decide +kernel
theorem eX6_turnPart_12 : decode (zYb kX6_turnPart) 12 = .ok (.istore_n 3, 1) := by decide +kernel
theorem eX6_turnPart_13 : decode (zYb kX6_turnPart) 13 = .ok (.iload_n 2, 1) := by decide +kernel
theorem eX6_turnPart_14 : decode (zYb kX6_turnPart) 14 = .ok (.iconst 1, 1) := by decide +kernel
theorem eX6_turnPart_15 : decode (zYb kX6_turnPart) 15 = .ok (.isub, 1) := by decide +kernel
theorem eX6_turnPart_16 : decode (zYb kX6_turnPart) 16 = .ok (.istore 4, 2) := by decide +kernel
theorem eX6_turnPart_18 : decode (zYb kX6_turnPart) 18 = .ok (.iload_n 3, 1) := by decide +kernel
theorem eX6_turnPart_19 : decode (zYb kX6_turnPart) 19 = .ok (.iload 4, 2) := by decide +kernel
theorem eX6_turnPart_21 : decode (zYb kX6_turnPart) 21 = .ok (.if_icmp .ge 30, 3) := by decide +kernel
theorem eX6_turnPart_24 : decode (zYb kX6_turnPart) 24 = .ok (.aload_n 0, 1) := by decide +kernel
theorem eX6_turnPart_25 : decode (zYb kX6_turnPart) 25 = .ok (.iload_n 3, 1) := by decide +kernel
theorem eX6_turnPart_26 : decode (zYb kX6_turnPart) 26 = .ok (.iaload, 1) := by decide +kernel
theorem eX6_turnPart_27 : decode (zYb kX6_turnPart) 27 = .ok (.istore 5, 2) := by decide +kernel
theorem eX6_turnPart_29 : decode (zYb kX6_turnPart) 29 = .ok (.aload_n 0, 1) := by decide +kernel
theorem eX6_turnPart_30 : decode (zYb kX6_turnPart) 30 = .ok (.iload_n 3, 1) := by decide +kernel
theorem eX6_turnPart_31 : decode (zYb kX6_turnPart) 31 = .ok (.aload_n 0, 1) := by decide +kernel
theorem eX6_turnPart_32 : decode (zYb kX6_turnPart) 32 = .ok (.iload 4, 2) := by decide +kernel
theorem eX6_turnPart_34 : decode (zYb kX6_turnPart) 34 = .ok (.iaload, 1) := by decide +kernel
theorem eX6_turnPart_35 : decode (zYb kX6_turnPart) 35 = .ok (.iastore, 1) := by decide +kernel
theorem eX6_turnPart_36 : decode (zYb kX6_turnPart) 36 = .ok (.aload_n 0, 1) := by decide +kernel
theorem eX6_turnPart_37 : decode (zYb kX6_turnPart) 37 = .ok (.iload 4, 2) := by decide +kernel
theorem eX6_turnPart_39 : decode (zYb kX6_turnPart) 39 = .ok (.iload 5, 2) := by decide +kernel
theorem eX6_turnPart_41 : decode (zYb kX6_turnPart) 41 = .ok (.iastore, 1) := by decide +kernel
theorem eX6_turnPart_42 : decode (zYb kX6_turnPart) 42 = .ok (.iinc 3 1, 3) := by decide +kernel
theorem eX6_turnPart_45 : decode (zYb kX6_turnPart) 45 = .ok (.iinc 4 (-1), 3) := by decide +kernel
theorem eX6_turnPart_48 : decode (zYb kX6_turnPart) 48 = .ok (.goto (-30), 3) := by decide +kernel
theorem eX6_turnPart_51 : decode (zYb kX6_turnPart) 51 = .ok (.return_, 1) := by decide +kernel
theorem eX6_orderTurned_0 : decode (zYb kX6_orderTurned) 0 = .ok (.iload_n 1, 1) := by decide +kernel
theorem eX6_orderTurned_1 : decode (zYb kX6_orderTurned) 1 = .ok (.ifCond .lt 9, 3) := by decide +kernel
theorem eX6_orderTurned_4 : decode (zYb kX6_orderTurned) 4 = .ok (.iload_n 2, 1) := by decide +kernel
theorem eX6_orderTurned_5 : decode (zYb kX6_orderTurned) 5 = .ok (.aload_n 0, 1) := by decide +kernel
theorem eX6_orderTurned_6 : decode (zYb kX6_orderTurned) 6 = .ok (.arraylength, 1) := by decide +kernel
theorem eX6_orderTurned_7 : decode (zYb kX6_orderTurned) 7 = .ok (.if_icmp .le 5, 3) := by decide +kernel
theorem eX6_orderTurned_10 : decode (zYb kX6_orderTurned) 10 = .ok (.iconst 0, 1) := by decide +kernel
theorem eX6_orderTurned_11 : decode (zYb kX6_orderTurned) 11 = .ok (.ireturn, 1) := by decide +kernel
theorem eX6_orderTurned_12 : decode (zYb kX6_orderTurned) 12 = .ok (.iload_n 1, 1) := by decide +kernel
theorem eX6_orderTurned_13 : decode (zYb kX6_orderTurned) 13 = .ok (.istore_n 3, 1) := by decide +kernel
theorem eX6_orderTurned_14 : decode (zYb kX6_orderTurned) 14 = .ok (.iload_n 2, 1) := by decide +kernel
theorem eX6_orderTurned_15 : decode (zYb kX6_orderTurned) 15 = .ok (.iconst 1, 1) := by decide +kernel
theorem eX6_orderTurned_16 : decode (zYb kX6_orderTurned) 16 = .ok (.isub, 1) := by decide +kernel
theorem eX6_orderTurned_17 : decode (zYb kX6_orderTurned) 17 = .ok (.istore 4, 2) := by decide +kernel
theorem eX6_orderTurned_19 : decode (zYb kX6_orderTurned) 19 = .ok (.iload_n 3, 1) := by decide +kernel
theorem eX6_orderTurned_20 : decode (zYb kX6_orderTurned) 20 = .ok (.iload 4, 2) := by decide +kernel
theorem eX6_orderTurned_22 : decode (zYb kX6_orderTurned) 22 = .ok (.if_icmp .ge 31, 3) := by decide +kernel
theorem eX6_orderTurned_25 : decode (zYb kX6_orderTurned) 25 = .ok (.aload_n 0, 1) := by decide +kernel
theorem eX6_orderTurned_26 : decode (zYb kX6_orderTurned) 26 = .ok (.iload_n 3, 1) := by decide +kernel
theorem eX6_orderTurned_27 : decode (zYb kX6_orderTurned) 27 = .ok (.iaload, 1) := by decide +kernel
theorem eX6_orderTurned_28 : decode (zYb kX6_orderTurned) 28 = .ok (.aload_n 0, 1) := by decide +kernel
theorem eX6_orderTurned_29 : decode (zYb kX6_orderTurned) 29 = .ok (.iload 4, 2) := by decide +kernel
theorem eX6_orderTurned_31 : decode (zYb kX6_orderTurned) 31 = .ok (.iaload, 1) := by decide +kernel
theorem eX6_orderTurned_32 : decode (zYb kX6_orderTurned) 32 = .ok (.if_icmp .eq 12, 3) := by decide +kernel
theorem eX6_orderTurned_35 : decode (zYb kX6_orderTurned) 35 = .ok (.aload_n 0, 1) := by decide +kernel
theorem eX6_orderTurned_36 : decode (zYb kX6_orderTurned) 36 = .ok (.iload_n 3, 1) := by decide +kernel
theorem eX6_orderTurned_37 : decode (zYb kX6_orderTurned) 37 = .ok (.iaload, 1) := by decide +kernel
theorem eX6_orderTurned_38 : decode (zYb kX6_orderTurned) 38 = .ok (.aload_n 0, 1) := by decide +kernel
theorem eX6_orderTurned_39 : decode (zYb kX6_orderTurned) 39 = .ok (.iload 4, 2) := by decide +kernel
theorem eX6_orderTurned_41 : decode (zYb kX6_orderTurned) 41 = .ok (.iaload, 1) := by decide +kernel
theorem eX6_orderTurned_42 : decode (zYb kX6_orderTurned) 42 = .ok (.isub, 1) := by decide +kernel
theorem eX6_orderTurned_43 : decode (zYb kX6_orderTurned) 43 = .ok (.ireturn, 1) := by decide +kernel
theorem eX6_orderTurned_44 : decode (zYb kX6_orderTurned) 44 = .ok (.iinc 3 1, 3) := by decide +kernel
theorem eX6_orderTurned_47 : decode (zYb kX6_orderTurned) 47 = .ok (.iinc 4 (-1), 3) := by decide +kernel
theorem eX6_orderTurned_50 : decode (zYb kX6_orderTurned) 50 = .ok (.goto (-31), 3) := by decide +kernel
theorem eX6_orderTurned_53 : decode (zYb kX6_orderTurned) 53 = .ok (.iconst 0, 1) := by decide +kernel
theorem eX6_orderTurned_54 : decode (zYb kX6_orderTurned) 54 = .ok (.ireturn, 1) := by decide +kernel
end
section
theorem eX7_init_0 : decode (zYb kX7_init) 0 = .ok (.aload_n 0, 1) := by decide +kernel
theorem eX7_init_1 : decode (zYb kX7_init) 1 = .ok (.invokespecial 1, 3) := by decide +kernel
theorem eX7_init_4 : decode (zYb kX7_init) 4 = .ok (.aload_n 0, 1) := by decide +kernel
theorem eX7_init_5 : decode (zYb kX7_init) 5 = .ok (.sipush 336, 3) := by decide +kernel
theorem eX7_init_8 : decode (zYb kX7_init) 8 = .ok (.newarray .int, 2) := by decide +kernel
theorem eX7_init_10 : decode (zYb kX7_init) 10 = .ok (.putfield 7, 3) := by decide +kernel
theorem eX7_init_13 : decode (zYb kX7_init) 13 = .ok (.aload_n 0, 1) := by decide +kernel
theorem eX7_init_14 : decode (zYb kX7_init) 14 = .ok (.sipush 2016, 3) := by decide +kernel
theorem eX7_init_17 : decode (zYb kX7_init) 17 = .ok (.newarray .int, 2) := by decide +kernel
theorem eX7_init_19 : decode (zYb kX7_init) 19 = .ok (.putfield 13, 3) := by decide +kernel
theorem eX7_init_22 : decode (zYb kX7_init) 22 = .ok (.aload_n 0, 1) := by decide +kernel
theorem eX7_init_23 : decode (zYb kX7_init) 23 = .ok (.sipush 672, 3) := by decide +kernel
theorem eX7_init_26 : decode (zYb kX7_init) 26 = .ok (.newarray .int, 2) := by decide +kernel
theorem eX7_init_28 : decode (zYb kX7_init) 28 = .ok (.putfield 16, 3) := by decide +kernel
theorem eX7_init_31 : decode (zYb kX7_init) 31 = .ok (.aload_n 0, 1) := by decide +kernel
theorem eX7_init_32 : decode (zYb kX7_init) 32 = .ok (.iconst 2, 1) := by decide +kernel
theorem eX7_init_33 : decode (zYb kX7_init) 33 = .ok (.newarray .int, 2) := by decide +kernel
theorem eX7_init_35 : decode (zYb kX7_init) 35 = .ok (.putfield 19, 3) := by decide +kernel
theorem eX7_init_38 : decode (zYb kX7_init) 38 = .ok (.aload_n 0, 1) := by decide +kernel
theorem eX7_init_39 : decode (zYb kX7_init) 39 = .ok (.bipush 64, 2) := by decide +kernel
theorem eX7_init_41 : decode (zYb kX7_init) 41 = .ok (.newarray .int, 2) := by decide +kernel
theorem eX7_init_43 : decode (zYb kX7_init) 43 = .ok (.putfield 22, 3) := by decide +kernel
theorem eX7_init_46 : decode (zYb kX7_init) 46 = .ok (.aload_n 0, 1) := by decide +kernel
theorem eX7_init_47 : decode (zYb kX7_init) 47 = .ok (.bipush 8, 2) := by decide +kernel
theorem eX7_init_49 : decode (zYb kX7_init) 49 = .ok (.newarray .int, 2) := by decide +kernel
theorem eX7_init_51 : decode (zYb kX7_init) 51 = .ok (.putfield 25, 3) := by decide +kernel
theorem eX7_init_54 : decode (zYb kX7_init) 54 = .ok (.aload_n 0, 1) := by decide +kernel
theorem eX7_init_55 : decode (zYb kX7_init) 55 = .ok (.bipush 60, 2) := by decide +kernel
theorem eX7_init_57 : decode (zYb kX7_init) 57 = .ok (.newarray .int, 2) := by decide +kernel
theorem eX7_init_59 : decode (zYb kX7_init) 59 = .ok (.putfield 28, 3) := by decide +kernel
theorem eX7_init_62 : decode (zYb kX7_init) 62 = .ok (.aload_n 0, 1) := by decide +kernel
theorem eX7_init_63 : decode (zYb kX7_init) 63 = .ok (.sipush 7680, 3) := by decide +kernel
theorem eX7_init_66 : decode (zYb kX7_init) 66 = .ok (.newarray .int, 2) := by decide +kernel
theorem eX7_init_68 : decode (zYb kX7_init) 68 = .ok (.putfield 31, 3) := by decide +kernel
theorem eX7_init_71 : decode (zYb kX7_init) 71 = .ok (.aload_n 0, 1) := by decide +kernel
theorem eX7_init_72 : decode (zYb kX7_init) 72 = .ok (.sipush 128, 3) := by decide +kernel
theorem eX7_init_75 : decode (zYb kX7_init) 75 = .ok (.newarray .int, 2) := by decide +kernel
theorem eX7_init_77 : decode (zYb kX7_init) 77 = .ok (.putfield 34, 3) := by decide +kernel
theorem eX7_init_80 : decode (zYb kX7_init) 80 = .ok (.aload_n 0, 1) := by decide +kernel
theorem eX7_init_81 : decode (zYb kX7_init) 81 = .ok (.sipush 128, 3) := by decide +kernel
theorem eX7_init_84 : decode (zYb kX7_init) 84 = .ok (.newarray .int, 2) := by decide +kernel
theorem eX7_init_86 : decode (zYb kX7_init) 86 = .ok (.putfield 37, 3) := by decide +kernel
theorem eX7_init_89 : decode (zYb kX7_init) 89 = .ok (.aload_n 0, 1) := by decide +kernel
theorem eX7_init_90 : decode (zYb kX7_init) 90 = .ok (.sipush 7680, 3) := by decide +kernel
theorem eX7_init_93 : decode (zYb kX7_init) 93 = .ok (.newarray .int, 2) := by decide +kernel
theorem eX7_init_95 : decode (zYb kX7_init) 95 = .ok (.putfield 40, 3) := by decide +kernel
theorem eX7_init_98 : decode (zYb kX7_init) 98 = .ok (.aload_n 0, 1) := by decide +kernel
theorem eX7_init_99 : decode (zYb kX7_init) 99 = .ok (.sipush 128, 3) := by decide +kernel
theorem eX7_init_102 : decode (zYb kX7_init) 102 = .ok (.newarray .int, 2) := by decide +kernel
theorem eX7_init_104 : decode (zYb kX7_init) 104 = .ok (.putfield 43, 3) := by decide +kernel
theorem eX7_init_107 : decode (zYb kX7_init) 107 = .ok (.aload_n 0, 1) := by decide +kernel
theorem eX7_init_108 : decode (zYb kX7_init) 108 = .ok (.getfield 7, 3) := by decide +kernel
theorem eX7_init_111 : decode (zYb kX7_init) 111 = .ok (.iconst 0, 1) := by decide +kernel
theorem eX7_init_112 : decode (zYb kX7_init) 112 = .ok (.iconst 0, 1) := by decide +kernel
theorem eX7_init_113 : decode (zYb kX7_init) 113 = .ok (.iastore, 1) := by decide +kernel
theorem eX7_init_114 : decode (zYb kX7_init) 114 = .ok (.return_, 1) := by decide +kernel
theorem eX7_moves_0 : decode (zYb kX7_moves) 0 = .ok (.iconst 0, 1) := by decide +kernel
theorem eX7_moves_1 : decode (zYb kX7_moves) 1 = .ok (.istore 4, 2) := by decide +kernel
theorem eX7_moves_3 : decode (zYb kX7_moves) 3 = .ok (.iload 4, 2) := by decide +kernel
theorem eX7_moves_5 : decode (zYb kX7_moves) 5 = .ok (.sipush 336, 3) := by decide +kernel
theorem eX7_moves_8 : decode (zYb kX7_moves) 8 = .ok (.if_icmp .ge 21, 3) := by decide +kernel
theorem eX7_moves_11 : decode (zYb kX7_moves) 11 = .ok (.aload_n 2, 1) := by decide +kernel
theorem eX7_moves_12 : decode (zYb kX7_moves) 12 = .ok (.iload_n 3, 1) := by decide +kernel
theorem eX7_moves_13 : decode (zYb kX7_moves) 13 = .ok (.iload 4, 2) := by decide +kernel
theorem eX7_moves_15 : decode (zYb kX7_moves) 15 = .ok (.iadd, 1) := by decide +kernel
theorem eX7_moves_16 : decode (zYb kX7_moves) 16 = .ok (.aload_n 0, 1) := by decide +kernel
theorem eX7_moves_17 : decode (zYb kX7_moves) 17 = .ok (.iload_n 1, 1) := by decide +kernel
theorem eX7_moves_18 : decode (zYb kX7_moves) 18 = .ok (.iload 4, 2) := by decide +kernel
theorem eX7_moves_20 : decode (zYb kX7_moves) 20 = .ok (.iadd, 1) := by decide +kernel
theorem eX7_moves_21 : decode (zYb kX7_moves) 21 = .ok (.iaload, 1) := by decide +kernel
theorem eX7_moves_22 : decode (zYb kX7_moves) 22 = .ok (.iastore, 1) := by decide +kernel
theorem eX7_moves_23 : decode (zYb kX7_moves) 23 = .ok (.iinc 4 1, 3) := by decide +kernel
theorem eX7_moves_26 : decode (zYb kX7_moves) 26 = .ok (.goto (-23), 3) := by decide +kernel
theorem eX7_moves_29 : decode (zYb kX7_moves) 29 = .ok (.return_, 1) := by decide +kernel
theorem eX7_within_0 : decode (zYb kX7_within) 0 = .ok (.iload_n 0, 1) := by decide +kernel
theorem eX7_within_1 : decode (zYb kX7_within) 1 = .ok (.iload_n 1, 1) := by decide +kernel
theorem eX7_within_2 : decode (zYb kX7_within) 2 = .ok (.if_icmp .lt 12, 3) := by decide +kernel
theorem eX7_within_5 : decode (zYb kX7_within) 5 = .ok (.iload_n 0, 1) := by decide +kernel
theorem eX7_within_6 : decode (zYb kX7_within) 6 = .ok (.iload_n 2, 1) := by decide +kernel
theorem eX7_within_7 : decode (zYb kX7_within) 7 = .ok (.if_icmp .gt 7, 3) := by decide +kernel
theorem eX7_within_10 : decode (zYb kX7_within) 10 = .ok (.iconst 1, 1) := by decide +kernel
theorem eX7_within_11 : decode (zYb kX7_within) 11 = .ok (.goto 4, 3) := by decide +kernel
theorem eX7_within_14 : decode (zYb kX7_within) 14 = .ok (.iconst 0, 1) := by decide +kernel
theorem eX7_within_15 : decode (zYb kX7_within) 15 = .ok (.ireturn, 1) := by decide +kernel
theorem eX7_record_0 : decode (zYb kX7_record) 0 = .ok (.aload_n 0, 1) := by decide +kernel
theorem eX7_record_1 : decode (zYb kX7_record) 1 = .ok (.getfield 46, 3) := by decide +kernel
theorem eX7_record_4 : decode (zYb kX7_record) 4 = .ok (.bipush 6, 2) := by decide +kernel
theorem eX7_record_6 : decode (zYb kX7_record) 6 = .ok (.if_icmp .ne 44, 3) := by decide +kernel
theorem eX7_record_9 : decode (zYb kX7_record) 9 = .ok (.iconst 0, 1) := by decide +kernel
theorem eX7_record_10 : decode (zYb kX7_record) 10 = .ok (.istore_n 1, 1) := by decide +kernel
theorem eX7_record_11 : decode (zYb kX7_record) 11 = .ok (.iload_n 1, 1) := by decide +kernel
theorem eX7_record_12 : decode (zYb kX7_record) 12 = .ok (.sipush 1680, 3) := by decide +kernel
theorem eX7_record_15 : decode (zYb kX7_record) 15 = .ok (.if_icmp .ge 25, 3) := by decide +kernel
theorem eX7_record_18 : decode (zYb kX7_record) 18 = .ok (.aload_n 0, 1) := by decide +kernel
theorem eX7_record_19 : decode (zYb kX7_record) 19 = .ok (.getfield 13, 3) := by decide +kernel
theorem eX7_record_22 : decode (zYb kX7_record) 22 = .ok (.iload_n 1, 1) := by decide +kernel
theorem eX7_record_23 : decode (zYb kX7_record) 23 = .ok (.aload_n 0, 1) := by decide +kernel
theorem eX7_record_24 : decode (zYb kX7_record) 24 = .ok (.getfield 13, 3) := by decide +kernel
theorem eX7_record_27 : decode (zYb kX7_record) 27 = .ok (.iload_n 1, 1) := by decide +kernel
theorem eX7_record_28 : decode (zYb kX7_record) 28 = .ok (.sipush 336, 3) := by decide +kernel
theorem eX7_record_31 : decode (zYb kX7_record) 31 = .ok (.iadd, 1) := by decide +kernel
theorem eX7_record_32 : decode (zYb kX7_record) 32 = .ok (.iaload, 1) := by decide +kernel
theorem eX7_record_33 : decode (zYb kX7_record) 33 = .ok (.iastore, 1) := by decide +kernel
theorem eX7_record_34 : decode (zYb kX7_record) 34 = .ok (.iinc 1 1, 3) := by decide +kernel
theorem eX7_record_37 : decode (zYb kX7_record) 37 = .ok (.goto (-26), 3) := by decide +kernel
theorem eX7_record_40 : decode (zYb kX7_record) 40 = .ok (.aload_n 0, 1) := by decide +kernel
theorem eX7_record_41 : decode (zYb kX7_record) 41 = .ok (.dup, 1) := by decide +kernel
theorem eX7_record_42 : decode (zYb kX7_record) 42 = .ok (.getfield 46, 3) := by decide +kernel
theorem eX7_record_45 : decode (zYb kX7_record) 45 = .ok (.iconst 1, 1) := by decide +kernel
theorem eX7_record_46 : decode (zYb kX7_record) 46 = .ok (.isub, 1) := by decide +kernel
theorem eX7_record_47 : decode (zYb kX7_record) 47 = .ok (.putfield 46, 3) := by decide +kernel
theorem eX7_record_50 : decode (zYb kX7_record) 50 = .ok (.aload_n 0, 1) := by decide +kernel
theorem eX7_record_51 : decode (zYb kX7_record) 51 = .ok (.getfield 7, 3) := by decide +kernel
theorem eX7_record_54 : decode (zYb kX7_record) 54 = .ok (.iconst 0, 1) := by decide +kernel
theorem eX7_record_55 : decode (zYb kX7_record) 55 = .ok (.aload_n 0, 1) := by decide +kernel
theorem eX7_record_56 : decode (zYb kX7_record) 56 = .ok (.getfield 13, 3) := by decide +kernel
theorem eX7_record_59 : decode (zYb kX7_record) 59 = .ok (.aload_n 0, 1) := by decide +kernel
theorem eX7_record_60 : decode (zYb kX7_record) 60 = .ok (.getfield 46, 3) := by decide +kernel
theorem eX7_record_63 : decode (zYb kX7_record) 63 = .ok (.sipush 336, 3) := by decide +kernel
theorem eX7_record_66 : decode (zYb kX7_record) 66 = .ok (.imul, 1) := by decide +kernel
theorem eX7_record_67 : decode (zYb kX7_record) 67 = .ok (.invokestatic 50, 3) := by decide +kernel
theorem eX7_record_70 : decode (zYb kX7_record) 70 = .ok (.aload_n 0, 1) := by decide +kernel
theorem eX7_record_71 : decode (zYb kX7_record) 71 = .ok (.dup, 1) := by decide +kernel
theorem eX7_record_72 : decode (zYb kX7_record) 72 = .ok (.getfield 46, 3) := by decide +kernel
theorem eX7_record_75 : decode (zYb kX7_record) 75 = .ok (.iconst 1, 1) := by decide +kernel
theorem eX7_record_76 : decode (zYb kX7_record) 76 = .ok (.iadd, 1) := by decide +kernel
theorem eX7_record_77 : decode (zYb kX7_record) 77 = .ok (.putfield 46, 3) := by decide +kernel
theorem eX7_record_80 : decode (zYb kX7_record) 80 = .ok (.return_, 1) := by decide +kernel
theorem eX7_isScroll_0 : decode (zYb kX7_isScroll) 0 = .ok (.iload_n 1, 1) := by decide +kernel
theorem eX7_isScroll_1 : decode (zYb kX7_isScroll) 1 = .ok (.iconst 0, 1) := by decide +kernel
theorem eX7_isScroll_2 : decode (zYb kX7_isScroll) 2 = .ok (.aload_n 0, 1) := by decide +kernel
theorem eX7_isScroll_3 : decode (zYb kX7_isScroll) 3 = .ok (.getfield 7, 3) := by decide +kernel
theorem eX7_isScroll_6 : decode (zYb kX7_isScroll) 6 = .ok (.iconst 0, 1) := by decide +kernel
theorem eX7_isScroll_7 : decode (zYb kX7_isScroll) 7 = .ok (.iaload, 1) := by decide +kernel
theorem eX7_isScroll_8 : decode (zYb kX7_isScroll) 8 = .ok (.iconst 1, 1) := by decide +kernel
theorem eX7_isScroll_9 : decode (zYb kX7_isScroll) 9 = .ok (.isub, 1) := by decide +kernel
theorem eX7_isScroll_10 : decode (zYb kX7_isScroll) 10 = .ok (.invokestatic 54, 3) := by decide +kernel
theorem eX7_isScroll_13 : decode (zYb kX7_isScroll) 13 = .ok (.ireturn, 1) := by decide +kernel
theorem eX7_part_0 : decode (zYb kX7_part) 0 = .ok (.aload_n 0, 1) := by decide +kernel
theorem eX7_part_1 : decode (zYb kX7_part) 1 = .ok (.getfield 7, 3) := by decide +kernel
theorem eX7_part_4 : decode (zYb kX7_part) 4 = .ok (.iconst 1, 1) := by decide +kernel
theorem eX7_part_5 : decode (zYb kX7_part) 5 = .ok (.bipush 67, 2) := by decide +kernel
theorem eX7_part_7 : decode (zYb kX7_part) 7 = .ok (.iload_n 1, 1) := by decide +kernel
theorem eX7_part_8 : decode (zYb kX7_part) 8 = .ok (.imul, 1) := by decide +kernel
theorem eX7_part_9 : decode (zYb kX7_part) 9 = .ok (.iadd, 1) := by decide +kernel
theorem eX7_part_10 : decode (zYb kX7_part) 10 = .ok (.iload_n 2, 1) := by decide +kernel
theorem eX7_part_11 : decode (zYb kX7_part) 11 = .ok (.iadd, 1) := by decide +kernel
theorem eX7_part_12 : decode (zYb kX7_part) 12 = .ok (.iaload, 1) := by decide +kernel
theorem eX7_part_13 : decode (zYb kX7_part) 13 = .ok (.ireturn, 1) := by decide +kernel
theorem eX7_isPatch_0 : decode (zYb kX7_isPatch) 0 = .ok (.aload_n 0, 1) := by decide +kernel
theorem eX7_isPatch_1 : decode (zYb kX7_isPatch) 1 = .ok (.iload_n 1, 1) := by decide +kernel
theorem eX7_isPatch_2 : decode (zYb kX7_isPatch) 2 = .ok (.invokevirtual 58, 3) := by decide +kernel
theorem eX7_isPatch_5 : decode (zYb kX7_isPatch) 5 = .ok (.ifCond .eq 23, 3) := by decide +kernel
theorem eX7_isPatch_8 : decode (zYb kX7_isPatch) 8 = .ok (.iload_n 2, 1) := by decide +kernel
theorem eX7_isPatch_9 : decode (zYb kX7_isPatch) 9 = .ok (.iconst 0, 1) := by decide +kernel
theorem eX7_isPatch_10 : decode (zYb kX7_isPatch) 10 = .ok (.aload_n 0, 1) := by decide +kernel
theorem eX7_isPatch_11 : decode (zYb kX7_isPatch) 11 = .ok (.iload_n 1, 1) := by decide +kernel
theorem eX7_isPatch_12 : decode (zYb kX7_isPatch) 12 = .ok (.iconst 0, 1) := by decide +kernel
theorem eX7_isPatch_13 : decode (zYb kX7_isPatch) 13 = .ok (.invokevirtual 62, 3) := by decide +kernel
theorem eX7_isPatch_16 : decode (zYb kX7_isPatch) 16 = .ok (.iconst 1, 1) := by decide +kernel
theorem eX7_isPatch_17 : decode (zYb kX7_isPatch) 17 = .ok (.isub, 1) := by decide +kernel
theorem eX7_isPatch_18 : decode (zYb kX7_isPatch) 18 = .ok (.invokestatic 54, 3) := by decide +kernel
theorem eX7_isPatch_21 : decode (zYb kX7_isPatch) 21 = .ok (.ifCond .eq 7, 3) := by decide +kernel
theorem eX7_isPatch_24 : decode (zYb kX7_isPatch) 24 = .ok (.iconst 1, 1) := by decide +kernel
theorem eX7_isPatch_25 : decode (zYb kX7_isPatch) 25 = .ok (.goto 4, 3) := by decide +kernel
theorem eX7_isPatch_28 : decode (zYb kX7_isPatch) 28 = .ok (.iconst 0, 1) := by decide +kernel
theorem eX7_isPatch_29 : decode (zYb kX7_isPatch) 29 = .ok (.ireturn, 1) := by decide +kernel
theorem eX7_isSeam_0 : decode (zYb kX7_isSeam) 0 = .ok (.aload_n 0, 1) := by decide +kernel
theorem eX7_isSeam_1 : decode (zYb kX7_isSeam) 1 = .ok (.iload_n 1, 1) := by decide +kernel
theorem eX7_isSeam_2 : decode (zYb kX7_isSeam) 2 = .ok (.invokevirtual 58, 3) := by decide +kernel
theorem eX7_isSeam_5 : decode (zYb kX7_isSeam) 5 = .ok (.ifCond .eq 23, 3) := by decide +kernel
theorem eX7_isSeam_8 : decode (zYb kX7_isSeam) 8 = .ok (.iload_n 2, 1) := by decide +kernel
theorem eX7_isSeam_9 : decode (zYb kX7_isSeam) 9 = .ok (.iconst 0, 1) := by decide +kernel
theorem eX7_isSeam_10 : decode (zYb kX7_isSeam) 10 = .ok (.aload_n 0, 1) := by decide +kernel
theorem eX7_isSeam_11 : decode (zYb kX7_isSeam) 11 = .ok (.iload_n 1, 1) := by decide +kernel
theorem eX7_isSeam_12 : decode (zYb kX7_isSeam) 12 = .ok (.iconst 0, 1) := by decide +kernel
theorem eX7_isSeam_13 : decode (zYb kX7_isSeam) 13 = .ok (.invokevirtual 62, 3) := by decide +kernel
theorem eX7_isSeam_16 : decode (zYb kX7_isSeam) 16 = .ok (.iconst 2, 1) := by decide +kernel
theorem eX7_isSeam_17 : decode (zYb kX7_isSeam) 17 = .ok (.isub, 1) := by decide +kernel
theorem eX7_isSeam_18 : decode (zYb kX7_isSeam) 18 = .ok (.invokestatic 54, 3) := by decide +kernel
theorem eX7_isSeam_21 : decode (zYb kX7_isSeam) 21 = .ok (.ifCond .eq 7, 3) := by decide +kernel
theorem eX7_isSeam_24 : decode (zYb kX7_isSeam) 24 = .ok (.iconst 1, 1) := by decide +kernel
theorem eX7_isSeam_25 : decode (zYb kX7_isSeam) 25 = .ok (.goto 4, 3) := by decide +kernel
theorem eX7_isSeam_28 : decode (zYb kX7_isSeam) 28 = .ok (.iconst 0, 1) := by decide +kernel
theorem eX7_isSeam_29 : decode (zYb kX7_isSeam) 29 = .ok (.ireturn, 1) := by decide +kernel
theorem eX7_sizeOf_0 : decode (zYb kX7_sizeOf) 0 = .ok (.aload_n 0, 1) := by decide +kernel
theorem eX7_sizeOf_1 : decode (zYb kX7_sizeOf) 1 = .ok (.iload_n 1, 1) := by decide +kernel
theorem eX7_sizeOf_2 : decode (zYb kX7_sizeOf) 2 = .ok (.iconst 1, 1) := by decide +kernel
theorem eX7_sizeOf_3 : decode (zYb kX7_sizeOf) 3 = .ok (.iload_n 2, 1) := by decide +kernel
theorem eX7_sizeOf_4 : decode (zYb kX7_sizeOf) 4 = .ok (.iadd, 1) := by decide +kernel
theorem eX7_sizeOf_5 : decode (zYb kX7_sizeOf) 5 = .ok (.iconst 1, 1) := by decide +kernel
theorem eX7_sizeOf_6 : decode (zYb kX7_sizeOf) 6 = .ok (.iadd, 1) := by decide +kernel
theorem eX7_sizeOf_7 : decode (zYb kX7_sizeOf) 7 = .ok (.invokevirtual 62, 3) := by decide +kernel
theorem eX7_sizeOf_10 : decode (zYb kX7_sizeOf) 10 = .ok (.aload_n 0, 1) := by decide +kernel
theorem eX7_sizeOf_11 : decode (zYb kX7_sizeOf) 11 = .ok (.iload_n 1, 1) := by decide +kernel
theorem eX7_sizeOf_12 : decode (zYb kX7_sizeOf) 12 = .ok (.iconst 1, 1) := by decide +kernel
theorem eX7_sizeOf_13 : decode (zYb kX7_sizeOf) 13 = .ok (.iload_n 2, 1) := by decide +kernel
theorem eX7_sizeOf_14 : decode (zYb kX7_sizeOf) 14 = .ok (.iadd, 1) := by decide +kernel
theorem eX7_sizeOf_15 : decode (zYb kX7_sizeOf) 15 = .ok (.invokevirtual 62, 3) := by decide +kernel
theorem eX7_sizeOf_18 : decode (zYb kX7_sizeOf) 18 = .ok (.isub, 1) := by decide +kernel
theorem eX7_sizeOf_19 : decode (zYb kX7_sizeOf) 19 = .ok (.ireturn, 1) := by decide +kernel
theorem eX7_lettersOf_0 : decode (zYb kX7_lettersOf) 0 = .ok (.aload_n 0, 1) := by decide +kernel
theorem eX7_lettersOf_1 : decode (zYb kX7_lettersOf) 1 = .ok (.iload_n 1, 1) := by decide +kernel
theorem eX7_lettersOf_2 : decode (zYb kX7_lettersOf) 2 = .ok (.iconst 1, 1) := by decide +kernel
theorem eX7_lettersOf_3 : decode (zYb kX7_lettersOf) 3 = .ok (.aload_n 0, 1) := by decide +kernel
theorem eX7_lettersOf_4 : decode (zYb kX7_lettersOf) 4 = .ok (.iload_n 1, 1) := by decide +kernel
theorem eX7_lettersOf_5 : decode (zYb kX7_lettersOf) 5 = .ok (.iconst 0, 1) := by decide +kernel
theorem eX7_lettersOf_6 : decode (zYb kX7_lettersOf) 6 = .ok (.invokevirtual 62, 3) := by decide +kernel
theorem eX7_lettersOf_9 : decode (zYb kX7_lettersOf) 9 = .ok (.iadd, 1) := by decide +kernel
theorem eX7_lettersOf_10 : decode (zYb kX7_lettersOf) 10 = .ok (.invokevirtual 62, 3) := by decide +kernel
theorem eX7_lettersOf_13 : decode (zYb kX7_lettersOf) 13 = .ok (.ireturn, 1) := by decide +kernel
theorem eX7_take_0 : decode (zYb kX7_take) 0 = .ok (.aload_n 0, 1) := by decide +kernel
theorem eX7_take_1 : decode (zYb kX7_take) 1 = .ok (.aload_n 0, 1) := by decide +kernel
theorem eX7_take_2 : decode (zYb kX7_take) 2 = .ok (.iload_n 1, 1) := by decide +kernel
theorem eX7_take_3 : decode (zYb kX7_take) 3 = .ok (.iconst 0, 1) := by decide +kernel
theorem eX7_take_4 : decode (zYb kX7_take) 4 = .ok (.invokevirtual 62, 3) := by decide +kernel
theorem eX7_take_7 : decode (zYb kX7_take) 7 = .ok (.putfield 66, 3) := by decide +kernel
theorem eX7_take_10 : decode (zYb kX7_take) 10 = .ok (.iconst 0, 1) := by decide +kernel
theorem eX7_take_11 : decode (zYb kX7_take) 11 = .ok (.istore_n 2, 1) := by decide +kernel
theorem eX7_take_12 : decode (zYb kX7_take) 12 = .ok (.iload_n 2, 1) := by decide +kernel
theorem eX7_take_13 : decode (zYb kX7_take) 13 = .ok (.aload_n 0, 1) := by decide +kernel
theorem eX7_take_14 : decode (zYb kX7_take) 14 = .ok (.getfield 66, 3) := by decide +kernel
theorem eX7_take_17 : decode (zYb kX7_take) 17 = .ok (.if_icmp .gt 23, 3) := by decide +kernel
theorem eX7_take_20 : decode (zYb kX7_take) 20 = .ok (.aload_n 0, 1) := by decide +kernel
theorem eX7_take_21 : decode (zYb kX7_take) 21 = .ok (.getfield 25, 3) := by decide +kernel
theorem eX7_take_24 : decode (zYb kX7_take) 24 = .ok (.iload_n 2, 1) := by decide +kernel
theorem eX7_take_25 : decode (zYb kX7_take) 25 = .ok (.aload_n 0, 1) := by decide +kernel
theorem eX7_take_26 : decode (zYb kX7_take) 26 = .ok (.iload_n 1, 1) := by decide +kernel
theorem eX7_take_27 : decode (zYb kX7_take) 27 = .ok (.iconst 1, 1) := by decide +kernel
theorem eX7_take_28 : decode (zYb kX7_take) 28 = .ok (.iload_n 2, 1) := by decide +kernel
theorem eX7_take_29 : decode (zYb kX7_take) 29 = .ok (.iadd, 1) := by decide +kernel
theorem eX7_take_30 : decode (zYb kX7_take) 30 = .ok (.invokevirtual 62, 3) := by decide +kernel
theorem eX7_take_33 : decode (zYb kX7_take) 33 = .ok (.iastore, 1) := by decide +kernel
theorem eX7_take_34 : decode (zYb kX7_take) 34 = .ok (.iinc 2 1, 3) := by decide +kernel
theorem eX7_take_37 : decode (zYb kX7_take) 37 = .ok (.goto (-25), 3) := by decide +kernel
theorem eX7_take_40 : decode (zYb kX7_take) 40 = .ok (.iconst 0, 1) := by decide +kernel
theorem eX7_take_41 : decode (zYb kX7_take) 41 = .ok (.istore_n 2, 1) := by decide +kernel
theorem eX7_take_42 : decode (zYb kX7_take) 42 = .ok (.iload_n 2, 1) := by decide +kernel
theorem eX7_take_43 : decode (zYb kX7_take) 43 = .ok (.bipush 60, 2) := by decide +kernel
theorem eX7_take_45 : decode (zYb kX7_take) 45 = .ok (.if_icmp .ge 24, 3) := by decide +kernel
theorem eX7_take_48 : decode (zYb kX7_take) 48 = .ok (.aload_n 0, 1) := by decide +kernel
theorem eX7_take_49 : decode (zYb kX7_take) 49 = .ok (.getfield 28, 3) := by decide +kernel
theorem eX7_take_52 : decode (zYb kX7_take) 52 = .ok (.iload_n 2, 1) := by decide +kernel
theorem eX7_take_53 : decode (zYb kX7_take) 53 = .ok (.aload_n 0, 1) := by decide +kernel
theorem eX7_take_54 : decode (zYb kX7_take) 54 = .ok (.iload_n 1, 1) := by decide +kernel
theorem eX7_take_55 : decode (zYb kX7_take) 55 = .ok (.bipush 7, 2) := by decide +kernel
theorem eX7_take_57 : decode (zYb kX7_take) 57 = .ok (.iload_n 2, 1) := by decide +kernel
theorem eX7_take_58 : decode (zYb kX7_take) 58 = .ok (.iadd, 1) := by decide +kernel
theorem eX7_take_59 : decode (zYb kX7_take) 59 = .ok (.invokevirtual 62, 3) := by decide +kernel
theorem eX7_take_62 : decode (zYb kX7_take) 62 = .ok (.iastore, 1) := by decide +kernel
theorem eX7_take_63 : decode (zYb kX7_take) 63 = .ok (.iinc 2 1, 3) := by decide +kernel
theorem eX7_take_66 : decode (zYb kX7_take) 66 = .ok (.goto (-24), 3) := by decide +kernel
theorem eX7_take_69 : decode (zYb kX7_take) 69 = .ok (.return_, 1) := by decide +kernel
theorem eX7_give_0 : decode (zYb kX7_give) 0 = .ok (.iconst 1, 1) := by decide +kernel
theorem eX7_give_1 : decode (zYb kX7_give) 1 = .ok (.bipush 67, 2) := by decide +kernel
theorem eX7_give_3 : decode (zYb kX7_give) 3 = .ok (.iload_n 1, 1) := by decide +kernel
theorem eX7_give_4 : decode (zYb kX7_give) 4 = .ok (.imul, 1) := by decide +kernel
theorem eX7_give_5 : decode (zYb kX7_give) 5 = .ok (.iadd, 1) := by decide +kernel
theorem eX7_give_6 : decode (zYb kX7_give) 6 = .ok (.istore_n 2, 1) := by decide +kernel
theorem eX7_give_7 : decode (zYb kX7_give) 7 = .ok (.aload_n 0, 1) := by decide +kernel
theorem eX7_give_8 : decode (zYb kX7_give) 8 = .ok (.getfield 7, 3) := by decide +kernel
theorem eX7_give_11 : decode (zYb kX7_give) 11 = .ok (.iload_n 2, 1) := by decide +kernel
theorem eX7_give_12 : decode (zYb kX7_give) 12 = .ok (.aload_n 0, 1) := by decide +kernel
theorem eX7_give_13 : decode (zYb kX7_give) 13 = .ok (.getfield 66, 3) := by decide +kernel
theorem eX7_give_16 : decode (zYb kX7_give) 16 = .ok (.iastore, 1) := by decide +kernel
theorem eX7_give_17 : decode (zYb kX7_give) 17 = .ok (.iconst 0, 1) := by decide +kernel
theorem eX7_give_18 : decode (zYb kX7_give) 18 = .ok (.istore_n 3, 1) := by decide +kernel
theorem eX7_give_19 : decode (zYb kX7_give) 19 = .ok (.iload_n 3, 1) := by decide +kernel
theorem eX7_give_20 : decode (zYb kX7_give) 20 = .ok (.iconst 5, 1) := by decide +kernel
theorem eX7_give_21 : decode (zYb kX7_give) 21 = .ok (.if_icmp .gt 37, 3) := by decide +kernel
theorem eX7_give_24 : decode (zYb kX7_give) 24 = .ok (.aload_n 0, 1) := by decide +kernel
theorem eX7_give_25 : decode (zYb kX7_give) 25 = .ok (.getfield 7, 3) := by decide +kernel
theorem eX7_give_28 : decode (zYb kX7_give) 28 = .ok (.iload_n 2, 1) := by decide +kernel
theorem eX7_give_29 : decode (zYb kX7_give) 29 = .ok (.iconst 1, 1) := by decide +kernel
theorem eX7_give_30 : decode (zYb kX7_give) 30 = .ok (.iadd, 1) := by decide +kernel
theorem eX7_give_31 : decode (zYb kX7_give) 31 = .ok (.iload_n 3, 1) := by decide +kernel
theorem eX7_give_32 : decode (zYb kX7_give) 32 = .ok (.iadd, 1) := by decide +kernel
theorem eX7_give_33 : decode (zYb kX7_give) 33 = .ok (.iload_n 3, 1) := by decide +kernel
theorem eX7_give_34 : decode (zYb kX7_give) 34 = .ok (.aload_n 0, 1) := by decide +kernel
theorem eX7_give_35 : decode (zYb kX7_give) 35 = .ok (.getfield 66, 3) := by decide +kernel
theorem eX7_give_38 : decode (zYb kX7_give) 38 = .ok (.if_icmp .gt 12, 3) := by decide +kernel
theorem eX7_give_41 : decode (zYb kX7_give) 41 = .ok (.aload_n 0, 1) := by decide +kernel
theorem eX7_give_42 : decode (zYb kX7_give) 42 = .ok (.getfield 25, 3) := by decide +kernel
theorem eX7_give_45 : decode (zYb kX7_give) 45 = .ok (.iload_n 3, 1) := by decide +kernel
theorem eX7_give_46 : decode (zYb kX7_give) 46 = .ok (.iaload, 1) := by decide +kernel
theorem eX7_give_47 : decode (zYb kX7_give) 47 = .ok (.goto 4, 3) := by decide +kernel
theorem eX7_give_50 : decode (zYb kX7_give) 50 = .ok (.iconst 0, 1) := by decide +kernel
theorem eX7_give_51 : decode (zYb kX7_give) 51 = .ok (.iastore, 1) := by decide +kernel
theorem eX7_give_52 : decode (zYb kX7_give) 52 = .ok (.iinc 3 1, 3) := by decide +kernel
theorem eX7_give_55 : decode (zYb kX7_give) 55 = .ok (.goto (-36), 3) := by decide +kernel
theorem eX7_give_58 : decode (zYb kX7_give) 58 = .ok (.iconst 0, 1) := by decide +kernel
theorem eX7_give_59 : decode (zYb kX7_give) 59 = .ok (.istore_n 3, 1) := by decide +kernel
theorem eX7_give_60 : decode (zYb kX7_give) 60 = .ok (.iload_n 3, 1) := by decide +kernel
theorem eX7_give_61 : decode (zYb kX7_give) 61 = .ok (.bipush 60, 2) := by decide +kernel
theorem eX7_give_63 : decode (zYb kX7_give) 63 = .ok (.if_icmp .ge 43, 3) := by decide +kernel
theorem eX7_give_66 : decode (zYb kX7_give) 66 = .ok (.aload_n 0, 1) := by decide +kernel
theorem eX7_give_67 : decode (zYb kX7_give) 67 = .ok (.getfield 7, 3) := by decide +kernel
theorem eX7_give_70 : decode (zYb kX7_give) 70 = .ok (.iload_n 2, 1) := by decide +kernel
theorem eX7_give_71 : decode (zYb kX7_give) 71 = .ok (.bipush 7, 2) := by decide +kernel
theorem eX7_give_73 : decode (zYb kX7_give) 73 = .ok (.iadd, 1) := by decide +kernel
theorem eX7_give_74 : decode (zYb kX7_give) 74 = .ok (.iload_n 3, 1) := by decide +kernel
theorem eX7_give_75 : decode (zYb kX7_give) 75 = .ok (.iadd, 1) := by decide +kernel
theorem eX7_give_76 : decode (zYb kX7_give) 76 = .ok (.iload_n 3, 1) := by decide +kernel
theorem eX7_give_77 : decode (zYb kX7_give) 77 = .ok (.aload_n 0, 1) := by decide +kernel
theorem eX7_give_78 : decode (zYb kX7_give) 78 = .ok (.getfield 25, 3) := by decide +kernel
theorem eX7_give_81 : decode (zYb kX7_give) 81 = .ok (.aload_n 0, 1) := by decide +kernel
theorem eX7_give_82 : decode (zYb kX7_give) 82 = .ok (.getfield 66, 3) := by decide +kernel
theorem eX7_give_85 : decode (zYb kX7_give) 85 = .ok (.iaload, 1) := by decide +kernel
theorem eX7_give_86 : decode (zYb kX7_give) 86 = .ok (.if_icmp .ge 12, 3) := by decide +kernel
theorem eX7_give_89 : decode (zYb kX7_give) 89 = .ok (.aload_n 0, 1) := by decide +kernel
theorem eX7_give_90 : decode (zYb kX7_give) 90 = .ok (.getfield 28, 3) := by decide +kernel
theorem eX7_give_93 : decode (zYb kX7_give) 93 = .ok (.iload_n 3, 1) := by decide +kernel
theorem eX7_give_94 : decode (zYb kX7_give) 94 = .ok (.iaload, 1) := by decide +kernel
theorem eX7_give_95 : decode (zYb kX7_give) 95 = .ok (.goto 4, 3) := by decide +kernel
theorem eX7_give_98 : decode (zYb kX7_give) 98 = .ok (.iconst 0, 1) := by decide +kernel
theorem eX7_give_99 : decode (zYb kX7_give) 99 = .ok (.iastore, 1) := by decide +kernel
theorem eX7_give_100 : decode (zYb kX7_give) 100 = .ok (.iinc 3 1, 3) := by decide +kernel
theorem eX7_give_103 : decode (zYb kX7_give) 103 = .ok (.goto (-43), 3) := by decide +kernel
theorem eX7_give_106 : decode (zYb kX7_give) 106 = .ok (.return_, 1) := by decide +kernel
theorem eX7_goes_0 : decode (zYb kX7_goes) 0 = .ok (.aload_n 0, 1) := by decide +kernel
theorem eX7_goes_1 : decode (zYb kX7_goes) 1 = .ok (.getfield 7, 3) := by decide +kernel
theorem eX7_goes_4 : decode (zYb kX7_goes) 4 = .ok (.iconst 0, 1) := by decide +kernel
theorem eX7_goes_5 : decode (zYb kX7_goes) 5 = .ok (.dup2, 1) := by decide +kernel
theorem eX7_goes_6 : decode (zYb kX7_goes) 6 = .ok (.iaload, 1) := by decide +kernel
theorem eX7_goes_7 : decode (zYb kX7_goes) 7 = .ok (.iconst 1, 1) := by decide +kernel
theorem eX7_goes_8 : decode (zYb kX7_goes) 8 = .ok (.isub, 1) := by decide +kernel
theorem eX7_goes_9 : decode (zYb kX7_goes) 9 = .ok (.iastore, 1) := by decide +kernel
theorem eX7_goes_10 : decode (zYb kX7_goes) 10 = .ok (.iconst 1, 1) := by decide +kernel
theorem eX7_goes_11 : decode (zYb kX7_goes) 11 = .ok (.bipush 67, 2) := by decide +kernel
theorem eX7_goes_13 : decode (zYb kX7_goes) 13 = .ok (.iload_n 1, 1) := by decide +kernel
theorem eX7_goes_14 : decode (zYb kX7_goes) 14 = .ok (.imul, 1) := by decide +kernel
theorem eX7_goes_15 : decode (zYb kX7_goes) 15 = .ok (.iadd, 1) := by decide +kernel
theorem eX7_goes_16 : decode (zYb kX7_goes) 16 = .ok (.istore_n 2, 1) := by decide +kernel
theorem eX7_goes_17 : decode (zYb kX7_goes) 17 = .ok (.iload_n 2, 1) := by decide +kernel
theorem eX7_goes_18 : decode (zYb kX7_goes) 18 = .ok (.iconst 1, 1) := by decide +kernel
theorem eX7_goes_19 : decode (zYb kX7_goes) 19 = .ok (.bipush 67, 2) := by decide +kernel
theorem eX7_goes_21 : decode (zYb kX7_goes) 21 = .ok (.aload_n 0, 1) := by decide +kernel
theorem eX7_goes_22 : decode (zYb kX7_goes) 22 = .ok (.getfield 7, 3) := by decide +kernel
theorem eX7_goes_25 : decode (zYb kX7_goes) 25 = .ok (.iconst 0, 1) := by decide +kernel
theorem eX7_goes_26 : decode (zYb kX7_goes) 26 = .ok (.iaload, 1) := by decide +kernel
theorem eX7_goes_27 : decode (zYb kX7_goes) 27 = .ok (.imul, 1) := by decide +kernel
theorem eX7_goes_28 : decode (zYb kX7_goes) 28 = .ok (.iadd, 1) := by decide +kernel
theorem eX7_goes_29 : decode (zYb kX7_goes) 29 = .ok (.if_icmp .ge 24, 3) := by decide +kernel
theorem eX7_goes_32 : decode (zYb kX7_goes) 32 = .ok (.aload_n 0, 1) := by decide +kernel
theorem eX7_goes_33 : decode (zYb kX7_goes) 33 = .ok (.getfield 7, 3) := by decide +kernel
theorem eX7_goes_36 : decode (zYb kX7_goes) 36 = .ok (.iload_n 2, 1) := by decide +kernel
theorem eX7_goes_37 : decode (zYb kX7_goes) 37 = .ok (.aload_n 0, 1) := by decide +kernel
theorem eX7_goes_38 : decode (zYb kX7_goes) 38 = .ok (.getfield 7, 3) := by decide +kernel
theorem eX7_goes_41 : decode (zYb kX7_goes) 41 = .ok (.iload_n 2, 1) := by decide +kernel
theorem eX7_goes_42 : decode (zYb kX7_goes) 42 = .ok (.bipush 67, 2) := by decide +kernel
theorem eX7_goes_44 : decode (zYb kX7_goes) 44 = .ok (.iadd, 1) := by decide +kernel
theorem eX7_goes_45 : decode (zYb kX7_goes) 45 = .ok (.iaload, 1) := by decide +kernel
theorem eX7_goes_46 : decode (zYb kX7_goes) 46 = .ok (.iastore, 1) := by decide +kernel
theorem eX7_goes_47 : decode (zYb kX7_goes) 47 = .ok (.iinc 2 1, 3) := by decide +kernel
theorem eX7_goes_50 : decode (zYb kX7_goes) 50 = .ok (.goto (-33), 3) := by decide +kernel
theorem eX7_goes_53 : decode (zYb kX7_goes) 53 = .ok (.return_, 1) := by decide +kernel
theorem eX7_cutNow_0 : decode (zYb kX7_cutNow) 0 = .ok (.aload_n 0, 1) := by decide +kernel
theorem eX7_cutNow_1 : decode (zYb kX7_cutNow) 1 = .ok (.getfield 66, 3) := by decide +kernel
theorem eX7_cutNow_4 : decode (zYb kX7_cutNow) 4 = .ok (.istore_n 3, 1) := by decide +kernel
theorem eX7_cutNow_5 : decode (zYb kX7_cutNow) 5 = .ok (.iload_n 3, 1) := by decide +kernel
theorem eX7_cutNow_6 : decode (zYb kX7_cutNow) 6 = .ok (.iload_n 1, 1) := by decide +kernel
theorem eX7_cutNow_7 : decode (zYb kX7_cutNow) 7 = .ok (.if_icmp .le 23, 3) := by decide +kernel
theorem eX7_cutNow_10 : decode (zYb kX7_cutNow) 10 = .ok (.aload_n 0, 1) := by decide +kernel
theorem eX7_cutNow_11 : decode (zYb kX7_cutNow) 11 = .ok (.getfield 25, 3) := by decide +kernel
theorem eX7_cutNow_14 : decode (zYb kX7_cutNow) 14 = .ok (.iload_n 3, 1) := by decide +kernel
theorem eX7_cutNow_15 : decode (zYb kX7_cutNow) 15 = .ok (.iconst 1, 1) := by decide +kernel
theorem eX7_cutNow_16 : decode (zYb kX7_cutNow) 16 = .ok (.iadd, 1) := by decide +kernel
theorem eX7_cutNow_17 : decode (zYb kX7_cutNow) 17 = .ok (.aload_n 0, 1) := by decide +kernel
theorem eX7_cutNow_18 : decode (zYb kX7_cutNow) 18 = .ok (.getfield 25, 3) := by decide +kernel
theorem eX7_cutNow_21 : decode (zYb kX7_cutNow) 21 = .ok (.iload_n 3, 1) := by decide +kernel
theorem eX7_cutNow_22 : decode (zYb kX7_cutNow) 22 = .ok (.iaload, 1) := by decide +kernel
theorem eX7_cutNow_23 : decode (zYb kX7_cutNow) 23 = .ok (.iastore, 1) := by decide +kernel
theorem eX7_cutNow_24 : decode (zYb kX7_cutNow) 24 = .ok (.iinc 3 (-1), 3) := by decide +kernel
theorem eX7_cutNow_27 : decode (zYb kX7_cutNow) 27 = .ok (.goto (-22), 3) := by decide +kernel
theorem eX7_cutNow_30 : decode (zYb kX7_cutNow) 30 = .ok (.aload_n 0, 1) := by decide +kernel
theorem eX7_cutNow_31 : decode (zYb kX7_cutNow) 31 = .ok (.getfield 25, 3) := by decide +kernel
theorem eX7_cutNow_34 : decode (zYb kX7_cutNow) 34 = .ok (.iload_n 1, 1) := by decide +kernel
theorem eX7_cutNow_35 : decode (zYb kX7_cutNow) 35 = .ok (.iconst 1, 1) := by decide +kernel
theorem eX7_cutNow_36 : decode (zYb kX7_cutNow) 36 = .ok (.iadd, 1) := by decide +kernel
theorem eX7_cutNow_37 : decode (zYb kX7_cutNow) 37 = .ok (.aload_n 0, 1) := by decide +kernel
theorem eX7_cutNow_38 : decode (zYb kX7_cutNow) 38 = .ok (.getfield 25, 3) := by decide +kernel
theorem eX7_cutNow_41 : decode (zYb kX7_cutNow) 41 = .ok (.iload_n 1, 1) := by decide +kernel
theorem eX7_cutNow_42 : decode (zYb kX7_cutNow) 42 = .ok (.iaload, 1) := by decide +kernel
theorem eX7_cutNow_43 : decode (zYb kX7_cutNow) 43 = .ok (.iload_n 2, 1) := by decide +kernel
theorem eX7_cutNow_44 : decode (zYb kX7_cutNow) 44 = .ok (.iadd, 1) := by decide +kernel
theorem eX7_cutNow_45 : decode (zYb kX7_cutNow) 45 = .ok (.iastore, 1) := by decide +kernel
theorem eX7_cutNow_46 : decode (zYb kX7_cutNow) 46 = .ok (.aload_n 0, 1) := by decide +kernel
theorem eX7_cutNow_47 : decode (zYb kX7_cutNow) 47 = .ok (.dup, 1) := by decide +kernel
theorem eX7_cutNow_48 : decode (zYb kX7_cutNow) 48 = .ok (.getfield 66, 3) := by decide +kernel
theorem eX7_cutNow_51 : decode (zYb kX7_cutNow) 51 = .ok (.iconst 1, 1) := by decide +kernel
theorem eX7_cutNow_52 : decode (zYb kX7_cutNow) 52 = .ok (.iadd, 1) := by decide +kernel
theorem eX7_cutNow_53 : decode (zYb kX7_cutNow) 53 = .ok (.putfield 66, 3) := by decide +kernel
theorem eX7_cutNow_56 : decode (zYb kX7_cutNow) 56 = .ok (.return_, 1) := by decide +kernel
theorem eX7_undoNow_0 : decode (zYb kX7_undoNow) 0 = .ok (.iload_n 1, 1) := by decide +kernel
theorem eX7_undoNow_1 : decode (zYb kX7_undoNow) 1 = .ok (.iconst 1, 1) := by decide +kernel
theorem eX7_undoNow_2 : decode (zYb kX7_undoNow) 2 = .ok (.iadd, 1) := by decide +kernel
theorem eX7_undoNow_3 : decode (zYb kX7_undoNow) 3 = .ok (.istore_n 2, 1) := by decide +kernel
theorem eX7_undoNow_4 : decode (zYb kX7_undoNow) 4 = .ok (.iload_n 2, 1) := by decide +kernel
theorem eX7_undoNow_5 : decode (zYb kX7_undoNow) 5 = .ok (.aload_n 0, 1) := by decide +kernel
theorem eX7_undoNow_6 : decode (zYb kX7_undoNow) 6 = .ok (.getfield 66, 3) := by decide +kernel
theorem eX7_undoNow_9 : decode (zYb kX7_undoNow) 9 = .ok (.if_icmp .ge 23, 3) := by decide +kernel
theorem eX7_undoNow_12 : decode (zYb kX7_undoNow) 12 = .ok (.aload_n 0, 1) := by decide +kernel
theorem eX7_undoNow_13 : decode (zYb kX7_undoNow) 13 = .ok (.getfield 25, 3) := by decide +kernel
theorem eX7_undoNow_16 : decode (zYb kX7_undoNow) 16 = .ok (.iload_n 2, 1) := by decide +kernel
theorem eX7_undoNow_17 : decode (zYb kX7_undoNow) 17 = .ok (.aload_n 0, 1) := by decide +kernel
theorem eX7_undoNow_18 : decode (zYb kX7_undoNow) 18 = .ok (.getfield 25, 3) := by decide +kernel
theorem eX7_undoNow_21 : decode (zYb kX7_undoNow) 21 = .ok (.iload_n 2, 1) := by decide +kernel
theorem eX7_undoNow_22 : decode (zYb kX7_undoNow) 22 = .ok (.iconst 1, 1) := by decide +kernel
theorem eX7_undoNow_23 : decode (zYb kX7_undoNow) 23 = .ok (.iadd, 1) := by decide +kernel
theorem eX7_undoNow_24 : decode (zYb kX7_undoNow) 24 = .ok (.iaload, 1) := by decide +kernel
theorem eX7_undoNow_25 : decode (zYb kX7_undoNow) 25 = .ok (.iastore, 1) := by decide +kernel
theorem eX7_undoNow_26 : decode (zYb kX7_undoNow) 26 = .ok (.iinc 2 1, 3) := by decide +kernel
theorem eX7_undoNow_29 : decode (zYb kX7_undoNow) 29 = .ok (.goto (-25), 3) := by decide +kernel
theorem eX7_undoNow_32 : decode (zYb kX7_undoNow) 32 = .ok (.aload_n 0, 1) := by decide +kernel
theorem eX7_undoNow_33 : decode (zYb kX7_undoNow) 33 = .ok (.dup, 1) := by decide +kernel
theorem eX7_undoNow_34 : decode (zYb kX7_undoNow) 34 = .ok (.getfield 66, 3) := by decide +kernel
theorem eX7_undoNow_37 : decode (zYb kX7_undoNow) 37 = .ok (.iconst 1, 1) := by decide +kernel
theorem eX7_undoNow_38 : decode (zYb kX7_undoNow) 38 = .ok (.isub, 1) := by decide +kernel
theorem eX7_undoNow_39 : decode (zYb kX7_undoNow) 39 = .ok (.putfield 66, 3) := by decide +kernel
theorem eX7_undoNow_42 : decode (zYb kX7_undoNow) 42 = .ok (.return_, 1) := by decide +kernel
theorem eX7_layDown_0 : decode (zYb kX7_layDown) 0 = .ok (.bipush 60, 2) := by decide +kernel
theorem eX7_layDown_2 : decode (zYb kX7_layDown) 2 = .ok (.iload_n 1, 1) := by decide +kernel
theorem eX7_layDown_3 : decode (zYb kX7_layDown) 3 = .ok (.imul, 1) := by decide +kernel
theorem eX7_layDown_4 : decode (zYb kX7_layDown) 4 = .ok (.istore_n 2, 1) := by decide +kernel
theorem eX7_layDown_5 : decode (zYb kX7_layDown) 5 = .ok (.iload_n 1, 1) := by decide +kernel
theorem eX7_layDown_6 : decode (zYb kX7_layDown) 6 = .ok (.aload_n 0, 1) := by decide +kernel
theorem eX7_layDown_7 : decode (zYb kX7_layDown) 7 = .ok (.getfield 66, 3) := by decide +kernel
theorem eX7_layDown_10 : decode (zYb kX7_layDown) 10 = .ok (.ishr, 1) := by decide +kernel
theorem eX7_layDown_11 : decode (zYb kX7_layDown) 11 = .ok (.iconst 1, 1) := by decide +kernel
theorem eX7_layDown_12 : decode (zYb kX7_layDown) 12 = .ok (.iand, 1) := by decide +kernel
theorem eX7_layDown_13 : decode (zYb kX7_layDown) 13 = .ok (.iconst 1, 1) := by decide +kernel
theorem eX7_layDown_14 : decode (zYb kX7_layDown) 14 = .ok (.if_icmp .ne 7, 3) := by decide +kernel
theorem eX7_layDown_17 : decode (zYb kX7_layDown) 17 = .ok (.iconst 1, 1) := by decide +kernel
theorem eX7_layDown_18 : decode (zYb kX7_layDown) 18 = .ok (.goto 4, 3) := by decide +kernel
theorem eX7_layDown_21 : decode (zYb kX7_layDown) 21 = .ok (.iconst 0, 1) := by decide +kernel
theorem eX7_layDown_22 : decode (zYb kX7_layDown) 22 = .ok (.istore_n 3, 1) := by decide +kernel
theorem eX7_layDown_23 : decode (zYb kX7_layDown) 23 = .ok (.iconst 0, 1) := by decide +kernel
theorem eX7_layDown_24 : decode (zYb kX7_layDown) 24 = .ok (.istore 4, 2) := by decide +kernel
theorem eX7_layDown_26 : decode (zYb kX7_layDown) 26 = .ok (.iload 4, 2) := by decide +kernel
theorem eX7_layDown_28 : decode (zYb kX7_layDown) 28 = .ok (.aload_n 0, 1) := by decide +kernel
theorem eX7_layDown_29 : decode (zYb kX7_layDown) 29 = .ok (.getfield 66, 3) := by decide +kernel
theorem eX7_layDown_32 : decode (zYb kX7_layDown) 32 = .ok (.if_icmp .ge 123, 3) := by decide +kernel
theorem eX7_layDown_35 : decode (zYb kX7_layDown) 35 = .ok (.iload_n 3, 1) := by decide +kernel
theorem eX7_layDown_36 : decode (zYb kX7_layDown) 36 = .ok (.ifCond .eq 15, 3) := by decide +kernel
theorem eX7_layDown_39 : decode (zYb kX7_layDown) 39 = .ok (.aload_n 0, 1) := by decide +kernel
theorem eX7_layDown_40 : decode (zYb kX7_layDown) 40 = .ok (.getfield 66, 3) := by decide +kernel
theorem eX7_layDown_43 : decode (zYb kX7_layDown) 43 = .ok (.iconst 1, 1) := by decide +kernel
theorem eX7_layDown_44 : decode (zYb kX7_layDown) 44 = .ok (.isub, 1) := by decide +kernel
theorem eX7_layDown_45 : decode (zYb kX7_layDown) 45 = .ok (.iload 4, 2) := by decide +kernel
theorem eX7_layDown_47 : decode (zYb kX7_layDown) 47 = .ok (.isub, 1) := by decide +kernel
theorem eX7_layDown_48 : decode (zYb kX7_layDown) 48 = .ok (.goto 5, 3) := by decide +kernel
theorem eX7_layDown_51 : decode (zYb kX7_layDown) 51 = .ok (.iload 4, 2) := by decide +kernel
theorem eX7_layDown_53 : decode (zYb kX7_layDown) 53 = .ok (.istore 5, 2) := by decide +kernel
theorem eX7_layDown_55 : decode (zYb kX7_layDown) 55 = .ok (.iload_n 1, 1) := by decide +kernel
theorem eX7_layDown_56 : decode (zYb kX7_layDown) 56 = .ok (.iload 5, 2) := by decide +kernel
theorem eX7_layDown_58 : decode (zYb kX7_layDown) 58 = .ok (.ishr, 1) := by decide +kernel
theorem eX7_layDown_59 : decode (zYb kX7_layDown) 59 = .ok (.iconst 1, 1) := by decide +kernel
theorem eX7_layDown_60 : decode (zYb kX7_layDown) 60 = .ok (.iand, 1) := by decide +kernel
theorem eX7_layDown_61 : decode (zYb kX7_layDown) 61 = .ok (.iconst 1, 1) := by decide +kernel
theorem eX7_layDown_62 : decode (zYb kX7_layDown) 62 = .ok (.if_icmp .ne 7, 3) := by decide +kernel
theorem eX7_layDown_65 : decode (zYb kX7_layDown) 65 = .ok (.iconst 1, 1) := by decide +kernel
theorem eX7_layDown_66 : decode (zYb kX7_layDown) 66 = .ok (.goto 4, 3) := by decide +kernel
theorem eX7_layDown_69 : decode (zYb kX7_layDown) 69 = .ok (.iconst 0, 1) := by decide +kernel
theorem eX7_layDown_70 : decode (zYb kX7_layDown) 70 = .ok (.istore 6, 2) := by decide +kernel
theorem eX7_layDown_72 : decode (zYb kX7_layDown) 72 = .ok (.iconst 0, 1) := by decide +kernel
theorem eX7_layDown_73 : decode (zYb kX7_layDown) 73 = .ok (.istore 7, 2) := by decide +kernel
theorem eX7_layDown_75 : decode (zYb kX7_layDown) 75 = .ok (.iload 7, 2) := by decide +kernel
theorem eX7_layDown_77 : decode (zYb kX7_layDown) 77 = .ok (.aload_n 0, 1) := by decide +kernel
theorem eX7_layDown_78 : decode (zYb kX7_layDown) 78 = .ok (.getfield 25, 3) := by decide +kernel
theorem eX7_layDown_81 : decode (zYb kX7_layDown) 81 = .ok (.iload 5, 2) := by decide +kernel
theorem eX7_layDown_83 : decode (zYb kX7_layDown) 83 = .ok (.iconst 1, 1) := by decide +kernel
theorem eX7_layDown_84 : decode (zYb kX7_layDown) 84 = .ok (.iadd, 1) := by decide +kernel
theorem eX7_layDown_85 : decode (zYb kX7_layDown) 85 = .ok (.iaload, 1) := by decide +kernel
theorem eX7_layDown_86 : decode (zYb kX7_layDown) 86 = .ok (.aload_n 0, 1) := by decide +kernel
theorem eX7_layDown_87 : decode (zYb kX7_layDown) 87 = .ok (.getfield 25, 3) := by decide +kernel
theorem eX7_layDown_90 : decode (zYb kX7_layDown) 90 = .ok (.iload 5, 2) := by decide +kernel
theorem eX7_layDown_92 : decode (zYb kX7_layDown) 92 = .ok (.iaload, 1) := by decide +kernel
theorem eX7_layDown_93 : decode (zYb kX7_layDown) 93 = .ok (.isub, 1) := by decide +kernel
theorem eX7_layDown_94 : decode (zYb kX7_layDown) 94 = .ok (.if_icmp .ge 55, 3) := by decide +kernel
theorem eX7_layDown_97 : decode (zYb kX7_layDown) 97 = .ok (.aload_n 0, 1) := by decide +kernel
theorem eX7_layDown_98 : decode (zYb kX7_layDown) 98 = .ok (.getfield 31, 3) := by decide +kernel
theorem eX7_layDown_101 : decode (zYb kX7_layDown) 101 = .ok (.iload_n 2, 1) := by decide +kernel
theorem eX7_layDown_102 : decode (zYb kX7_layDown) 102 = .ok (.aload_n 0, 1) := by decide +kernel
theorem eX7_layDown_103 : decode (zYb kX7_layDown) 103 = .ok (.getfield 28, 3) := by decide +kernel
theorem eX7_layDown_106 : decode (zYb kX7_layDown) 106 = .ok (.iload 6, 2) := by decide +kernel
theorem eX7_layDown_108 : decode (zYb kX7_layDown) 108 = .ok (.ifCond .eq 20, 3) := by decide +kernel
theorem eX7_layDown_111 : decode (zYb kX7_layDown) 111 = .ok (.aload_n 0, 1) := by decide +kernel
theorem eX7_layDown_112 : decode (zYb kX7_layDown) 112 = .ok (.getfield 25, 3) := by decide +kernel
theorem eX7_layDown_115 : decode (zYb kX7_layDown) 115 = .ok (.iload 5, 2) := by decide +kernel
theorem eX7_layDown_117 : decode (zYb kX7_layDown) 117 = .ok (.iconst 1, 1) := by decide +kernel
theorem eX7_layDown_118 : decode (zYb kX7_layDown) 118 = .ok (.iadd, 1) := by decide +kernel
theorem eX7_layDown_119 : decode (zYb kX7_layDown) 119 = .ok (.iaload, 1) := by decide +kernel
theorem eX7_layDown_120 : decode (zYb kX7_layDown) 120 = .ok (.iconst 1, 1) := by decide +kernel
theorem eX7_layDown_121 : decode (zYb kX7_layDown) 121 = .ok (.isub, 1) := by decide +kernel
theorem eX7_layDown_122 : decode (zYb kX7_layDown) 122 = .ok (.iload 7, 2) := by decide +kernel
theorem eX7_layDown_124 : decode (zYb kX7_layDown) 124 = .ok (.isub, 1) := by decide +kernel
theorem eX7_layDown_125 : decode (zYb kX7_layDown) 125 = .ok (.goto 13, 3) := by decide +kernel
theorem eX7_layDown_128 : decode (zYb kX7_layDown) 128 = .ok (.aload_n 0, 1) := by decide +kernel
theorem eX7_layDown_129 : decode (zYb kX7_layDown) 129 = .ok (.getfield 25, 3) := by decide +kernel
theorem eX7_layDown_132 : decode (zYb kX7_layDown) 132 = .ok (.iload 5, 2) := by decide +kernel
theorem eX7_layDown_134 : decode (zYb kX7_layDown) 134 = .ok (.iaload, 1) := by decide +kernel
theorem eX7_layDown_135 : decode (zYb kX7_layDown) 135 = .ok (.iload 7, 2) := by decide +kernel
theorem eX7_layDown_137 : decode (zYb kX7_layDown) 137 = .ok (.iadd, 1) := by decide +kernel
theorem eX7_layDown_138 : decode (zYb kX7_layDown) 138 = .ok (.iaload, 1) := by decide +kernel
theorem eX7_layDown_139 : decode (zYb kX7_layDown) 139 = .ok (.iastore, 1) := by decide +kernel
theorem eX7_layDown_140 : decode (zYb kX7_layDown) 140 = .ok (.iinc 2 1, 3) := by decide +kernel
theorem eX7_layDown_143 : decode (zYb kX7_layDown) 143 = .ok (.iinc 7 1, 3) := by decide +kernel
theorem eX7_layDown_146 : decode (zYb kX7_layDown) 146 = .ok (.goto (-71), 3) := by decide +kernel
theorem eX7_layDown_149 : decode (zYb kX7_layDown) 149 = .ok (.iinc 4 1, 3) := by decide +kernel
theorem eX7_layDown_152 : decode (zYb kX7_layDown) 152 = .ok (.goto (-126), 3) := by decide +kernel
theorem eX7_layDown_155 : decode (zYb kX7_layDown) 155 = .ok (.return_, 1) := by decide +kernel
theorem eX7_compared_0 : decode (zYb kX7_compared) 0 = .ok (.iconst 0, 1) := by decide +kernel
theorem eX7_compared_1 : decode (zYb kX7_compared) 1 = .ok (.istore 5, 2) := by decide +kernel
theorem eX7_compared_3 : decode (zYb kX7_compared) 3 = .ok (.iload 5, 2) := by decide +kernel
theorem eX7_compared_5 : decode (zYb kX7_compared) 5 = .ok (.iload 4, 2) := by decide +kernel
theorem eX7_compared_7 : decode (zYb kX7_compared) 7 = .ok (.if_icmp .ge 38, 3) := by decide +kernel
theorem eX7_compared_10 : decode (zYb kX7_compared) 10 = .ok (.aload_n 0, 1) := by decide +kernel
theorem eX7_compared_11 : decode (zYb kX7_compared) 11 = .ok (.iload_n 1, 1) := by decide +kernel
theorem eX7_compared_12 : decode (zYb kX7_compared) 12 = .ok (.iload 5, 2) := by decide +kernel
theorem eX7_compared_14 : decode (zYb kX7_compared) 14 = .ok (.iadd, 1) := by decide +kernel
theorem eX7_compared_15 : decode (zYb kX7_compared) 15 = .ok (.iaload, 1) := by decide +kernel
theorem eX7_compared_16 : decode (zYb kX7_compared) 16 = .ok (.aload_n 2, 1) := by decide +kernel
theorem eX7_compared_17 : decode (zYb kX7_compared) 17 = .ok (.iload_n 3, 1) := by decide +kernel
theorem eX7_compared_18 : decode (zYb kX7_compared) 18 = .ok (.iload 5, 2) := by decide +kernel
theorem eX7_compared_20 : decode (zYb kX7_compared) 20 = .ok (.iadd, 1) := by decide +kernel
theorem eX7_compared_21 : decode (zYb kX7_compared) 21 = .ok (.iaload, 1) := by decide +kernel
theorem eX7_compared_22 : decode (zYb kX7_compared) 22 = .ok (.if_icmp .eq 17, 3) := by decide +kernel
theorem eX7_compared_25 : decode (zYb kX7_compared) 25 = .ok (.aload_n 0, 1) := by decide +kernel
theorem eX7_compared_26 : decode (zYb kX7_compared) 26 = .ok (.iload_n 1, 1) := by decide +kernel
theorem eX7_compared_27 : decode (zYb kX7_compared) 27 = .ok (.iload 5, 2) := by decide +kernel
theorem eX7_compared_29 : decode (zYb kX7_compared) 29 = .ok (.iadd, 1) := by decide +kernel
theorem eX7_compared_30 : decode (zYb kX7_compared) 30 = .ok (.iaload, 1) := by decide +kernel
theorem eX7_compared_31 : decode (zYb kX7_compared) 31 = .ok (.aload_n 2, 1) := by decide +kernel
theorem eX7_compared_32 : decode (zYb kX7_compared) 32 = .ok (.iload_n 3, 1) := by decide +kernel
theorem eX7_compared_33 : decode (zYb kX7_compared) 33 = .ok (.iload 5, 2) := by decide +kernel
theorem eX7_compared_35 : decode (zYb kX7_compared) 35 = .ok (.iadd, 1) := by decide +kernel
theorem eX7_compared_36 : decode (zYb kX7_compared) 36 = .ok (.iaload, 1) := by decide +kernel
theorem eX7_compared_37 : decode (zYb kX7_compared) 37 = .ok (.isub, 1) := by decide +kernel
theorem eX7_compared_38 : decode (zYb kX7_compared) 38 = .ok (.ireturn, 1) := by decide +kernel
theorem eX7_compared_39 : decode (zYb kX7_compared) 39 = .ok (.iinc 5 1, 3) := by decide +kernel
theorem eX7_compared_42 : decode (zYb kX7_compared) 42 = .ok (.goto (-39), 3) := by decide +kernel
theorem eX7_compared_45 : decode (zYb kX7_compared) 45 = .ok (.iconst 0, 1) := by decide +kernel
theorem eX7_compared_46 : decode (zYb kX7_compared) 46 = .ok (.ireturn, 1) := by decide +kernel
theorem eX7_takeIn_0 : decode (zYb kX7_takeIn) 0 = .ok (.aload_n 0, 1) := by decide +kernel
theorem eX7_takeIn_1 : decode (zYb kX7_takeIn) 1 = .ok (.getfield 69, 3) := by decide +kernel
theorem eX7_takeIn_4 : decode (zYb kX7_takeIn) 4 = .ok (.istore_n 2, 1) := by decide +kernel
theorem eX7_takeIn_5 : decode (zYb kX7_takeIn) 5 = .ok (.iconst 1, 1) := by decide +kernel
theorem eX7_takeIn_6 : decode (zYb kX7_takeIn) 6 = .ok (.istore_n 3, 1) := by decide +kernel
theorem eX7_takeIn_7 : decode (zYb kX7_takeIn) 7 = .ok (.iload_n 2, 1) := by decide +kernel
theorem eX7_takeIn_8 : decode (zYb kX7_takeIn) 8 = .ok (.ifCond .le 53, 3) := by decide +kernel
theorem eX7_takeIn_11 : decode (zYb kX7_takeIn) 11 = .ok (.iload_n 3, 1) := by decide +kernel
theorem eX7_takeIn_12 : decode (zYb kX7_takeIn) 12 = .ok (.ifCond .le 49, 3) := by decide +kernel
theorem eX7_takeIn_15 : decode (zYb kX7_takeIn) 15 = .ok (.aload_n 0, 1) := by decide +kernel
theorem eX7_takeIn_16 : decode (zYb kX7_takeIn) 16 = .ok (.getfield 31, 3) := by decide +kernel
theorem eX7_takeIn_19 : decode (zYb kX7_takeIn) 19 = .ok (.bipush 60, 2) := by decide +kernel
theorem eX7_takeIn_21 : decode (zYb kX7_takeIn) 21 = .ok (.aload_n 0, 1) := by decide +kernel
theorem eX7_takeIn_22 : decode (zYb kX7_takeIn) 22 = .ok (.getfield 34, 3) := by decide +kernel
theorem eX7_takeIn_25 : decode (zYb kX7_takeIn) 25 = .ok (.iload_n 2, 1) := by decide +kernel
theorem eX7_takeIn_26 : decode (zYb kX7_takeIn) 26 = .ok (.iconst 1, 1) := by decide +kernel
theorem eX7_takeIn_27 : decode (zYb kX7_takeIn) 27 = .ok (.isub, 1) := by decide +kernel
theorem eX7_takeIn_28 : decode (zYb kX7_takeIn) 28 = .ok (.iaload, 1) := by decide +kernel
theorem eX7_takeIn_29 : decode (zYb kX7_takeIn) 29 = .ok (.imul, 1) := by decide +kernel
theorem eX7_takeIn_30 : decode (zYb kX7_takeIn) 30 = .ok (.aload_n 0, 1) := by decide +kernel
theorem eX7_takeIn_31 : decode (zYb kX7_takeIn) 31 = .ok (.getfield 31, 3) := by decide +kernel
theorem eX7_takeIn_34 : decode (zYb kX7_takeIn) 34 = .ok (.bipush 60, 2) := by decide +kernel
theorem eX7_takeIn_36 : decode (zYb kX7_takeIn) 36 = .ok (.iload_n 1, 1) := by decide +kernel
theorem eX7_takeIn_37 : decode (zYb kX7_takeIn) 37 = .ok (.imul, 1) := by decide +kernel
theorem eX7_takeIn_38 : decode (zYb kX7_takeIn) 38 = .ok (.aload_n 0, 1) := by decide +kernel
theorem eX7_takeIn_39 : decode (zYb kX7_takeIn) 39 = .ok (.getfield 72, 3) := by decide +kernel
theorem eX7_takeIn_42 : decode (zYb kX7_takeIn) 42 = .ok (.invokestatic 75, 3) := by decide +kernel
theorem eX7_takeIn_45 : decode (zYb kX7_takeIn) 45 = .ok (.istore_n 3, 1) := by decide +kernel
theorem eX7_takeIn_46 : decode (zYb kX7_takeIn) 46 = .ok (.iload_n 2, 1) := by decide +kernel
theorem eX7_takeIn_47 : decode (zYb kX7_takeIn) 47 = .ok (.iload_n 3, 1) := by decide +kernel
theorem eX7_takeIn_48 : decode (zYb kX7_takeIn) 48 = .ok (.ifCond .le 7, 3) := by decide +kernel
theorem eX7_takeIn_51 : decode (zYb kX7_takeIn) 51 = .ok (.iconst 1, 1) := by decide +kernel
theorem eX7_takeIn_52 : decode (zYb kX7_takeIn) 52 = .ok (.goto 4, 3) := by decide +kernel
theorem eX7_takeIn_55 : decode (zYb kX7_takeIn) 55 = .ok (.iconst 0, 1) := by decide +kernel
theorem eX7_takeIn_56 : decode (zYb kX7_takeIn) 56 = .ok (.isub, 1) := by decide +kernel
theorem eX7_takeIn_57 : decode (zYb kX7_takeIn) 57 = .ok (.istore_n 2, 1) := by decide +kernel
theorem eX7_takeIn_58 : decode (zYb kX7_takeIn) 58 = .ok (.goto (-51), 3) := by decide +kernel
theorem eX7_takeIn_61 : decode (zYb kX7_takeIn) 61 = .ok (.iload_n 2, 1) := by decide +kernel
theorem eX7_takeIn_62 : decode (zYb kX7_takeIn) 62 = .ok (.ifCond .le 8, 3) := by decide +kernel
theorem eX7_takeIn_65 : decode (zYb kX7_takeIn) 65 = .ok (.iload_n 3, 1) := by decide +kernel
theorem eX7_takeIn_66 : decode (zYb kX7_takeIn) 66 = .ok (.ifCond .ne 4, 3) := by decide +kernel
theorem eX7_takeIn_69 : decode (zYb kX7_takeIn) 69 = .ok (.return_, 1) := by decide +kernel
theorem eX7_takeIn_70 : decode (zYb kX7_takeIn) 70 = .ok (.aload_n 0, 1) := by decide +kernel
theorem eX7_takeIn_71 : decode (zYb kX7_takeIn) 71 = .ok (.getfield 69, 3) := by decide +kernel
theorem eX7_takeIn_74 : decode (zYb kX7_takeIn) 74 = .ok (.istore 4, 2) := by decide +kernel
theorem eX7_takeIn_76 : decode (zYb kX7_takeIn) 76 = .ok (.iload 4, 2) := by decide +kernel
theorem eX7_takeIn_78 : decode (zYb kX7_takeIn) 78 = .ok (.iload_n 2, 1) := by decide +kernel
theorem eX7_takeIn_79 : decode (zYb kX7_takeIn) 79 = .ok (.if_icmp .le 25, 3) := by decide +kernel
theorem eX7_takeIn_82 : decode (zYb kX7_takeIn) 82 = .ok (.aload_n 0, 1) := by decide +kernel
theorem eX7_takeIn_83 : decode (zYb kX7_takeIn) 83 = .ok (.getfield 34, 3) := by decide +kernel
theorem eX7_takeIn_86 : decode (zYb kX7_takeIn) 86 = .ok (.iload 4, 2) := by decide +kernel
theorem eX7_takeIn_88 : decode (zYb kX7_takeIn) 88 = .ok (.aload_n 0, 1) := by decide +kernel
theorem eX7_takeIn_89 : decode (zYb kX7_takeIn) 89 = .ok (.getfield 34, 3) := by decide +kernel
theorem eX7_takeIn_92 : decode (zYb kX7_takeIn) 92 = .ok (.iload 4, 2) := by decide +kernel
theorem eX7_takeIn_94 : decode (zYb kX7_takeIn) 94 = .ok (.iconst 1, 1) := by decide +kernel
theorem eX7_takeIn_95 : decode (zYb kX7_takeIn) 95 = .ok (.isub, 1) := by decide +kernel
theorem eX7_takeIn_96 : decode (zYb kX7_takeIn) 96 = .ok (.iaload, 1) := by decide +kernel
theorem eX7_takeIn_97 : decode (zYb kX7_takeIn) 97 = .ok (.iastore, 1) := by decide +kernel
theorem eX7_takeIn_98 : decode (zYb kX7_takeIn) 98 = .ok (.iinc 4 (-1), 3) := by decide +kernel
theorem eX7_takeIn_101 : decode (zYb kX7_takeIn) 101 = .ok (.goto (-25), 3) := by decide +kernel
theorem eX7_takeIn_104 : decode (zYb kX7_takeIn) 104 = .ok (.aload_n 0, 1) := by decide +kernel
theorem eX7_takeIn_105 : decode (zYb kX7_takeIn) 105 = .ok (.getfield 34, 3) := by decide +kernel
theorem eX7_takeIn_108 : decode (zYb kX7_takeIn) 108 = .ok (.iload_n 2, 1) := by decide +kernel
theorem eX7_takeIn_109 : decode (zYb kX7_takeIn) 109 = .ok (.iload_n 1, 1) := by decide +kernel
theorem eX7_takeIn_110 : decode (zYb kX7_takeIn) 110 = .ok (.iastore, 1) := by decide +kernel
theorem eX7_takeIn_111 : decode (zYb kX7_takeIn) 111 = .ok (.aload_n 0, 1) := by decide +kernel
theorem eX7_takeIn_112 : decode (zYb kX7_takeIn) 112 = .ok (.dup, 1) := by decide +kernel
theorem eX7_takeIn_113 : decode (zYb kX7_takeIn) 113 = .ok (.getfield 69, 3) := by decide +kernel
theorem eX7_takeIn_116 : decode (zYb kX7_takeIn) 116 = .ok (.iconst 1, 1) := by decide +kernel
theorem eX7_takeIn_117 : decode (zYb kX7_takeIn) 117 = .ok (.iadd, 1) := by decide +kernel
theorem eX7_takeIn_118 : decode (zYb kX7_takeIn) 118 = .ok (.putfield 69, 3) := by decide +kernel
theorem eX7_takeIn_121 : decode (zYb kX7_takeIn) 121 = .ok (.return_, 1) := by decide +kernel
theorem eX7_search_0 : decode (zYb kX7_search) 0 = .ok (.aload_n 0, 1) := by decide +kernel
theorem eX7_search_1 : decode (zYb kX7_search) 1 = .ok (.iconst 0, 1) := by decide +kernel
theorem eX7_search_2 : decode (zYb kX7_search) 2 = .ok (.putfield 69, 3) := by decide +kernel
theorem eX7_search_5 : decode (zYb kX7_search) 5 = .ok (.aload_n 0, 1) := by decide +kernel
theorem eX7_search_6 : decode (zYb kX7_search) 6 = .ok (.aload_n 0, 1) := by decide +kernel
theorem eX7_search_7 : decode (zYb kX7_search) 7 = .ok (.getfield 25, 3) := by decide +kernel
theorem eX7_search_10 : decode (zYb kX7_search) 10 = .ok (.aload_n 0, 1) := by decide +kernel
theorem eX7_search_11 : decode (zYb kX7_search) 11 = .ok (.getfield 66, 3) := by decide +kernel
theorem eX7_search_14 : decode (zYb kX7_search) 14 = .ok (.iaload, 1) := by decide +kernel
theorem eX7_search_15 : decode (zYb kX7_search) 15 = .ok (.putfield 72, 3) := by decide +kernel
theorem eX7_search_18 : decode (zYb kX7_search) 18 = .ok (.iconst 1, 1) := by decide +kernel
theorem eX7_search_19 : decode (zYb kX7_search) 19 = .ok (.aload_n 0, 1) := by decide +kernel
theorem eX7_search_20 : decode (zYb kX7_search) 20 = .ok (.getfield 66, 3) := by decide +kernel
theorem eX7_search_23 : decode (zYb kX7_search) 23 = .ok (.ishl, 1) := by decide +kernel
theorem eX7_search_24 : decode (zYb kX7_search) 24 = .ok (.istore_n 2, 1) := by decide +kernel
theorem eX7_search_25 : decode (zYb kX7_search) 25 = .ok (.iconst 0, 1) := by decide +kernel
theorem eX7_search_26 : decode (zYb kX7_search) 26 = .ok (.istore_n 3, 1) := by decide +kernel
theorem eX7_search_27 : decode (zYb kX7_search) 27 = .ok (.iload_n 3, 1) := by decide +kernel
theorem eX7_search_28 : decode (zYb kX7_search) 28 = .ok (.iload_n 1, 1) := by decide +kernel
theorem eX7_search_29 : decode (zYb kX7_search) 29 = .ok (.ifCond .eq 9, 3) := by decide +kernel
theorem eX7_search_32 : decode (zYb kX7_search) 32 = .ok (.iconst 2, 1) := by decide +kernel
theorem eX7_search_33 : decode (zYb kX7_search) 33 = .ok (.iload_n 2, 1) := by decide +kernel
theorem eX7_search_34 : decode (zYb kX7_search) 34 = .ok (.imul, 1) := by decide +kernel
theorem eX7_search_35 : decode (zYb kX7_search) 35 = .ok (.goto 4, 3) := by decide +kernel
theorem eX7_search_38 : decode (zYb kX7_search) 38 = .ok (.iload_n 2, 1) := by decide +kernel
theorem eX7_search_39 : decode (zYb kX7_search) 39 = .ok (.if_icmp .ge 19, 3) := by decide +kernel
theorem eX7_search_42 : decode (zYb kX7_search) 42 = .ok (.aload_n 0, 1) := by decide +kernel
theorem eX7_search_43 : decode (zYb kX7_search) 43 = .ok (.iload_n 3, 1) := by decide +kernel
theorem eX7_search_44 : decode (zYb kX7_search) 44 = .ok (.invokevirtual 79, 3) := by decide +kernel
theorem eX7_search_47 : decode (zYb kX7_search) 47 = .ok (.aload_n 0, 1) := by decide +kernel
theorem eX7_search_48 : decode (zYb kX7_search) 48 = .ok (.iload_n 3, 1) := by decide +kernel
theorem eX7_search_49 : decode (zYb kX7_search) 49 = .ok (.invokevirtual 83, 3) := by decide +kernel
theorem eX7_search_52 : decode (zYb kX7_search) 52 = .ok (.iinc 3 1, 3) := by decide +kernel
theorem eX7_search_55 : decode (zYb kX7_search) 55 = .ok (.goto (-28), 3) := by decide +kernel
theorem eX7_search_58 : decode (zYb kX7_search) 58 = .ok (.return_, 1) := by decide +kernel
theorem eX7_findOf_0 : decode (zYb kX7_findOf) 0 = .ok (.aload_n 0, 1) := by decide +kernel
theorem eX7_findOf_1 : decode (zYb kX7_findOf) 1 = .ok (.iload_n 1, 1) := by decide +kernel
theorem eX7_findOf_2 : decode (zYb kX7_findOf) 2 = .ok (.invokevirtual 86, 3) := by decide +kernel
theorem eX7_findOf_5 : decode (zYb kX7_findOf) 5 = .ok (.aload_n 0, 1) := by decide +kernel
theorem eX7_findOf_6 : decode (zYb kX7_findOf) 6 = .ok (.iconst 1, 1) := by decide +kernel
theorem eX7_findOf_7 : decode (zYb kX7_findOf) 7 = .ok (.invokevirtual 89, 3) := by decide +kernel
theorem eX7_findOf_10 : decode (zYb kX7_findOf) 10 = .ok (.return_, 1) := by decide +kernel
theorem eX7_keepOther_0 : decode (zYb kX7_keepOther) 0 = .ok (.iconst 0, 1) := by decide +kernel
theorem eX7_keepOther_1 : decode (zYb kX7_keepOther) 1 = .ok (.istore_n 1, 1) := by decide +kernel
theorem eX7_keepOther_2 : decode (zYb kX7_keepOther) 2 = .ok (.iload_n 1, 1) := by decide +kernel
theorem eX7_keepOther_3 : decode (zYb kX7_keepOther) 3 = .ok (.aload_n 0, 1) := by decide +kernel
theorem eX7_keepOther_4 : decode (zYb kX7_keepOther) 4 = .ok (.getfield 69, 3) := by decide +kernel
theorem eX7_keepOther_7 : decode (zYb kX7_keepOther) 7 = .ok (.if_icmp .ge 69, 3) := by decide +kernel
theorem eX7_keepOther_10 : decode (zYb kX7_keepOther) 10 = .ok (.aload_n 0, 1) := by decide +kernel
theorem eX7_keepOther_11 : decode (zYb kX7_keepOther) 11 = .ok (.getfield 43, 3) := by decide +kernel
theorem eX7_keepOther_14 : decode (zYb kX7_keepOther) 14 = .ok (.iload_n 1, 1) := by decide +kernel
theorem eX7_keepOther_15 : decode (zYb kX7_keepOther) 15 = .ok (.aload_n 0, 1) := by decide +kernel
theorem eX7_keepOther_16 : decode (zYb kX7_keepOther) 16 = .ok (.getfield 34, 3) := by decide +kernel
theorem eX7_keepOther_19 : decode (zYb kX7_keepOther) 19 = .ok (.iload_n 1, 1) := by decide +kernel
theorem eX7_keepOther_20 : decode (zYb kX7_keepOther) 20 = .ok (.iaload, 1) := by decide +kernel
theorem eX7_keepOther_21 : decode (zYb kX7_keepOther) 21 = .ok (.iastore, 1) := by decide +kernel
theorem eX7_keepOther_22 : decode (zYb kX7_keepOther) 22 = .ok (.iconst 0, 1) := by decide +kernel
theorem eX7_keepOther_23 : decode (zYb kX7_keepOther) 23 = .ok (.istore_n 2, 1) := by decide +kernel
theorem eX7_keepOther_24 : decode (zYb kX7_keepOther) 24 = .ok (.iload_n 2, 1) := by decide +kernel
theorem eX7_keepOther_25 : decode (zYb kX7_keepOther) 25 = .ok (.aload_n 0, 1) := by decide +kernel
theorem eX7_keepOther_26 : decode (zYb kX7_keepOther) 26 = .ok (.getfield 72, 3) := by decide +kernel
theorem eX7_keepOther_29 : decode (zYb kX7_keepOther) 29 = .ok (.if_icmp .ge 41, 3) := by decide +kernel
theorem eX7_keepOther_32 : decode (zYb kX7_keepOther) 32 = .ok (.aload_n 0, 1) := by decide +kernel
theorem eX7_keepOther_33 : decode (zYb kX7_keepOther) 33 = .ok (.getfield 40, 3) := by decide +kernel
theorem eX7_keepOther_36 : decode (zYb kX7_keepOther) 36 = .ok (.bipush 60, 2) := by decide +kernel
theorem eX7_keepOther_38 : decode (zYb kX7_keepOther) 38 = .ok (.aload_n 0, 1) := by decide +kernel
theorem eX7_keepOther_39 : decode (zYb kX7_keepOther) 39 = .ok (.getfield 34, 3) := by decide +kernel
theorem eX7_keepOther_42 : decode (zYb kX7_keepOther) 42 = .ok (.iload_n 1, 1) := by decide +kernel
theorem eX7_keepOther_43 : decode (zYb kX7_keepOther) 43 = .ok (.iaload, 1) := by decide +kernel
theorem eX7_keepOther_44 : decode (zYb kX7_keepOther) 44 = .ok (.imul, 1) := by decide +kernel
theorem eX7_keepOther_45 : decode (zYb kX7_keepOther) 45 = .ok (.iload_n 2, 1) := by decide +kernel
theorem eX7_keepOther_46 : decode (zYb kX7_keepOther) 46 = .ok (.iadd, 1) := by decide +kernel
theorem eX7_keepOther_47 : decode (zYb kX7_keepOther) 47 = .ok (.aload_n 0, 1) := by decide +kernel
theorem eX7_keepOther_48 : decode (zYb kX7_keepOther) 48 = .ok (.getfield 31, 3) := by decide +kernel
theorem eX7_keepOther_51 : decode (zYb kX7_keepOther) 51 = .ok (.bipush 60, 2) := by decide +kernel
theorem eX7_keepOther_53 : decode (zYb kX7_keepOther) 53 = .ok (.aload_n 0, 1) := by decide +kernel
theorem eX7_keepOther_54 : decode (zYb kX7_keepOther) 54 = .ok (.getfield 34, 3) := by decide +kernel
theorem eX7_keepOther_57 : decode (zYb kX7_keepOther) 57 = .ok (.iload_n 1, 1) := by decide +kernel
theorem eX7_keepOther_58 : decode (zYb kX7_keepOther) 58 = .ok (.iaload, 1) := by decide +kernel
theorem eX7_keepOther_59 : decode (zYb kX7_keepOther) 59 = .ok (.imul, 1) := by decide +kernel
theorem eX7_keepOther_60 : decode (zYb kX7_keepOther) 60 = .ok (.iload_n 2, 1) := by decide +kernel
theorem eX7_keepOther_61 : decode (zYb kX7_keepOther) 61 = .ok (.iadd, 1) := by decide +kernel
theorem eX7_keepOther_62 : decode (zYb kX7_keepOther) 62 = .ok (.iaload, 1) := by decide +kernel
theorem eX7_keepOther_63 : decode (zYb kX7_keepOther) 63 = .ok (.iastore, 1) := by decide +kernel
theorem eX7_keepOther_64 : decode (zYb kX7_keepOther) 64 = .ok (.iinc 2 1, 3) := by decide +kernel
theorem eX7_keepOther_67 : decode (zYb kX7_keepOther) 67 = .ok (.goto (-43), 3) := by decide +kernel
theorem eX7_keepOther_70 : decode (zYb kX7_keepOther) 70 = .ok (.iinc 1 1, 3) := by decide +kernel
theorem eX7_keepOther_73 : decode (zYb kX7_keepOther) 73 = .ok (.goto (-71), 3) := by decide +kernel
theorem eX7_keepOther_76 : decode (zYb kX7_keepOther) 76 = .ok (.aload_n 0, 1) := by decide +kernel
theorem eX7_keepOther_77 : decode (zYb kX7_keepOther) 77 = .ok (.aload_n 0, 1) := by decide +kernel
theorem eX7_keepOther_78 : decode (zYb kX7_keepOther) 78 = .ok (.getfield 69, 3) := by decide +kernel
theorem eX7_keepOther_81 : decode (zYb kX7_keepOther) 81 = .ok (.putfield 93, 3) := by decide +kernel
theorem eX7_keepOther_84 : decode (zYb kX7_keepOther) 84 = .ok (.aload_n 0, 1) := by decide +kernel
theorem eX7_keepOther_85 : decode (zYb kX7_keepOther) 85 = .ok (.aload_n 0, 1) := by decide +kernel
theorem eX7_keepOther_86 : decode (zYb kX7_keepOther) 86 = .ok (.getfield 72, 3) := by decide +kernel
theorem eX7_keepOther_89 : decode (zYb kX7_keepOther) 89 = .ok (.putfield 96, 3) := by decide +kernel
theorem eX7_keepOther_92 : decode (zYb kX7_keepOther) 92 = .ok (.return_, 1) := by decide +kernel
theorem eX7_meet_0 : decode (zYb kX7_meet) 0 = .ok (.iconst 0, 1) := by decide +kernel
theorem eX7_meet_1 : decode (zYb kX7_meet) 1 = .ok (.istore_n 1, 1) := by decide +kernel
theorem eX7_meet_2 : decode (zYb kX7_meet) 2 = .ok (.iconst 0, 1) := by decide +kernel
theorem eX7_meet_3 : decode (zYb kX7_meet) 3 = .ok (.istore_n 2, 1) := by decide +kernel
theorem eX7_meet_4 : decode (zYb kX7_meet) 4 = .ok (.iload_n 2, 1) := by decide +kernel
theorem eX7_meet_5 : decode (zYb kX7_meet) 5 = .ok (.aload_n 0, 1) := by decide +kernel
theorem eX7_meet_6 : decode (zYb kX7_meet) 6 = .ok (.getfield 69, 3) := by decide +kernel
theorem eX7_meet_9 : decode (zYb kX7_meet) 9 = .ok (.if_icmp .ge 119, 3) := by decide +kernel
theorem eX7_meet_12 : decode (zYb kX7_meet) 12 = .ok (.iconst 0, 1) := by decide +kernel
theorem eX7_meet_13 : decode (zYb kX7_meet) 13 = .ok (.istore_n 3, 1) := by decide +kernel
theorem eX7_meet_14 : decode (zYb kX7_meet) 14 = .ok (.iconst 0, 1) := by decide +kernel
theorem eX7_meet_15 : decode (zYb kX7_meet) 15 = .ok (.istore 4, 2) := by decide +kernel
theorem eX7_meet_17 : decode (zYb kX7_meet) 17 = .ok (.iload 4, 2) := by decide +kernel
theorem eX7_meet_19 : decode (zYb kX7_meet) 19 = .ok (.aload_n 0, 1) := by decide +kernel
theorem eX7_meet_20 : decode (zYb kX7_meet) 20 = .ok (.getfield 93, 3) := by decide +kernel
theorem eX7_meet_23 : decode (zYb kX7_meet) 23 = .ok (.if_icmp .ge 67, 3) := by decide +kernel
theorem eX7_meet_26 : decode (zYb kX7_meet) 26 = .ok (.aload_n 0, 1) := by decide +kernel
theorem eX7_meet_27 : decode (zYb kX7_meet) 27 = .ok (.getfield 72, 3) := by decide +kernel
theorem eX7_meet_30 : decode (zYb kX7_meet) 30 = .ok (.aload_n 0, 1) := by decide +kernel
theorem eX7_meet_31 : decode (zYb kX7_meet) 31 = .ok (.getfield 96, 3) := by decide +kernel
theorem eX7_meet_34 : decode (zYb kX7_meet) 34 = .ok (.if_icmp .ne 56, 3) := by decide +kernel
theorem eX7_meet_37 : decode (zYb kX7_meet) 37 = .ok (.iload_n 3, 1) := by decide +kernel
theorem eX7_meet_38 : decode (zYb kX7_meet) 38 = .ok (.ifCond .ne 52, 3) := by decide +kernel
theorem eX7_meet_41 : decode (zYb kX7_meet) 41 = .ok (.aload_n 0, 1) := by decide +kernel
theorem eX7_meet_42 : decode (zYb kX7_meet) 42 = .ok (.getfield 31, 3) := by decide +kernel
theorem eX7_meet_45 : decode (zYb kX7_meet) 45 = .ok (.bipush 60, 2) := by decide +kernel
theorem eX7_meet_47 : decode (zYb kX7_meet) 47 = .ok (.aload_n 0, 1) := by decide +kernel
theorem eX7_meet_48 : decode (zYb kX7_meet) 48 = .ok (.getfield 34, 3) := by decide +kernel
theorem eX7_meet_51 : decode (zYb kX7_meet) 51 = .ok (.iload_n 2, 1) := by decide +kernel
theorem eX7_meet_52 : decode (zYb kX7_meet) 52 = .ok (.iaload, 1) := by decide +kernel
theorem eX7_meet_53 : decode (zYb kX7_meet) 53 = .ok (.imul, 1) := by decide +kernel
theorem eX7_meet_54 : decode (zYb kX7_meet) 54 = .ok (.aload_n 0, 1) := by decide +kernel
theorem eX7_meet_55 : decode (zYb kX7_meet) 55 = .ok (.getfield 40, 3) := by decide +kernel
theorem eX7_meet_58 : decode (zYb kX7_meet) 58 = .ok (.bipush 60, 2) := by decide +kernel
theorem eX7_meet_60 : decode (zYb kX7_meet) 60 = .ok (.aload_n 0, 1) := by decide +kernel
theorem eX7_meet_61 : decode (zYb kX7_meet) 61 = .ok (.getfield 43, 3) := by decide +kernel
theorem eX7_meet_64 : decode (zYb kX7_meet) 64 = .ok (.iload 4, 2) := by decide +kernel
theorem eX7_meet_66 : decode (zYb kX7_meet) 66 = .ok (.iaload, 1) := by decide +kernel
theorem eX7_meet_67 : decode (zYb kX7_meet) 67 = .ok (.imul, 1) := by decide +kernel
theorem eX7_meet_68 : decode (zYb kX7_meet) 68 = .ok (.aload_n 0, 1) := by decide +kernel
theorem eX7_meet_69 : decode (zYb kX7_meet) 69 = .ok (.getfield 72, 3) := by decide +kernel
theorem eX7_meet_72 : decode (zYb kX7_meet) 72 = .ok (.invokestatic 75, 3) := by decide +kernel
theorem eX7_meet_75 : decode (zYb kX7_meet) 75 = .ok (.ifCond .ne 7, 3) := by decide +kernel
theorem eX7_meet_78 : decode (zYb kX7_meet) 78 = .ok (.iconst 1, 1) := by decide +kernel
theorem eX7_meet_79 : decode (zYb kX7_meet) 79 = .ok (.goto 4, 3) := by decide +kernel
theorem eX7_meet_82 : decode (zYb kX7_meet) 82 = .ok (.iconst 0, 1) := by decide +kernel
theorem eX7_meet_83 : decode (zYb kX7_meet) 83 = .ok (.istore_n 3, 1) := by decide +kernel
theorem eX7_meet_84 : decode (zYb kX7_meet) 84 = .ok (.iinc 4 1, 3) := by decide +kernel
theorem eX7_meet_87 : decode (zYb kX7_meet) 87 = .ok (.goto (-70), 3) := by decide +kernel
theorem eX7_meet_90 : decode (zYb kX7_meet) 90 = .ok (.aload_n 0, 1) := by decide +kernel
theorem eX7_meet_91 : decode (zYb kX7_meet) 91 = .ok (.getfield 37, 3) := by decide +kernel
theorem eX7_meet_94 : decode (zYb kX7_meet) 94 = .ok (.iload_n 2, 1) := by decide +kernel
theorem eX7_meet_95 : decode (zYb kX7_meet) 95 = .ok (.iload_n 3, 1) := by decide +kernel
theorem eX7_meet_96 : decode (zYb kX7_meet) 96 = .ok (.ifCond .eq 7, 3) := by decide +kernel
theorem eX7_meet_99 : decode (zYb kX7_meet) 99 = .ok (.iconst 1, 1) := by decide +kernel
theorem eX7_meet_100 : decode (zYb kX7_meet) 100 = .ok (.goto 9, 3) := by decide +kernel
theorem eX7_meet_103 : decode (zYb kX7_meet) 103 = .ok (.aload_n 0, 1) := by decide +kernel
theorem eX7_meet_104 : decode (zYb kX7_meet) 104 = .ok (.getfield 37, 3) := by decide +kernel
theorem eX7_meet_107 : decode (zYb kX7_meet) 107 = .ok (.iload_n 2, 1) := by decide +kernel
theorem eX7_meet_108 : decode (zYb kX7_meet) 108 = .ok (.iaload, 1) := by decide +kernel
theorem eX7_meet_109 : decode (zYb kX7_meet) 109 = .ok (.iastore, 1) := by decide +kernel
theorem eX7_meet_110 : decode (zYb kX7_meet) 110 = .ok (.iload_n 1, 1) := by decide +kernel
theorem eX7_meet_111 : decode (zYb kX7_meet) 111 = .ok (.iload_n 3, 1) := by decide +kernel
theorem eX7_meet_112 : decode (zYb kX7_meet) 112 = .ok (.ifCond .eq 7, 3) := by decide +kernel
theorem eX7_meet_115 : decode (zYb kX7_meet) 115 = .ok (.iconst 1, 1) := by decide +kernel
theorem eX7_meet_116 : decode (zYb kX7_meet) 116 = .ok (.goto 4, 3) := by decide +kernel
theorem eX7_meet_119 : decode (zYb kX7_meet) 119 = .ok (.iconst 0, 1) := by decide +kernel
theorem eX7_meet_120 : decode (zYb kX7_meet) 120 = .ok (.iadd, 1) := by decide +kernel
theorem eX7_meet_121 : decode (zYb kX7_meet) 121 = .ok (.istore_n 1, 1) := by decide +kernel
theorem eX7_meet_122 : decode (zYb kX7_meet) 122 = .ok (.iinc 2 1, 3) := by decide +kernel
theorem eX7_meet_125 : decode (zYb kX7_meet) 125 = .ok (.goto (-121), 3) := by decide +kernel
theorem eX7_meet_128 : decode (zYb kX7_meet) 128 = .ok (.iload_n 1, 1) := by decide +kernel
theorem eX7_meet_129 : decode (zYb kX7_meet) 129 = .ok (.ireturn, 1) := by decide +kernel
theorem eX7_sharedBy_0 : decode (zYb kX7_sharedBy) 0 = .ok (.aload_n 0, 1) := by decide +kernel
theorem eX7_sharedBy_1 : decode (zYb kX7_sharedBy) 1 = .ok (.iload_n 2, 1) := by decide +kernel
theorem eX7_sharedBy_2 : decode (zYb kX7_sharedBy) 2 = .ok (.invokevirtual 99, 3) := by decide +kernel
theorem eX7_sharedBy_5 : decode (zYb kX7_sharedBy) 5 = .ok (.aload_n 0, 1) := by decide +kernel
theorem eX7_sharedBy_6 : decode (zYb kX7_sharedBy) 6 = .ok (.invokevirtual 102, 3) := by decide +kernel
theorem eX7_sharedBy_9 : decode (zYb kX7_sharedBy) 9 = .ok (.aload_n 0, 1) := by decide +kernel
theorem eX7_sharedBy_10 : decode (zYb kX7_sharedBy) 10 = .ok (.iload_n 1, 1) := by decide +kernel
theorem eX7_sharedBy_11 : decode (zYb kX7_sharedBy) 11 = .ok (.invokevirtual 99, 3) := by decide +kernel
theorem eX7_sharedBy_14 : decode (zYb kX7_sharedBy) 14 = .ok (.aload_n 0, 1) := by decide +kernel
theorem eX7_sharedBy_15 : decode (zYb kX7_sharedBy) 15 = .ok (.invokevirtual 105, 3) := by decide +kernel
theorem eX7_sharedBy_18 : decode (zYb kX7_sharedBy) 18 = .ok (.ireturn, 1) := by decide +kernel
theorem eX7_letterOf_0 : decode (zYb kX7_letterOf) 0 = .ok (.aload_n 0, 1) := by decide +kernel
theorem eX7_letterOf_1 : decode (zYb kX7_letterOf) 1 = .ok (.getfield 31, 3) := by decide +kernel
theorem eX7_letterOf_4 : decode (zYb kX7_letterOf) 4 = .ok (.bipush 60, 2) := by decide +kernel
theorem eX7_letterOf_6 : decode (zYb kX7_letterOf) 6 = .ok (.aload_n 0, 1) := by decide +kernel
theorem eX7_letterOf_7 : decode (zYb kX7_letterOf) 7 = .ok (.getfield 34, 3) := by decide +kernel
theorem eX7_letterOf_10 : decode (zYb kX7_letterOf) 10 = .ok (.iload_n 1, 1) := by decide +kernel
theorem eX7_letterOf_11 : decode (zYb kX7_letterOf) 11 = .ok (.iaload, 1) := by decide +kernel
theorem eX7_letterOf_12 : decode (zYb kX7_letterOf) 12 = .ok (.imul, 1) := by decide +kernel
theorem eX7_letterOf_13 : decode (zYb kX7_letterOf) 13 = .ok (.iload_n 2, 1) := by decide +kernel
theorem eX7_letterOf_14 : decode (zYb kX7_letterOf) 14 = .ok (.iadd, 1) := by decide +kernel
theorem eX7_letterOf_15 : decode (zYb kX7_letterOf) 15 = .ok (.iaload, 1) := by decide +kernel
theorem eX7_letterOf_16 : decode (zYb kX7_letterOf) 16 = .ok (.ireturn, 1) := by decide +kernel
theorem eX7_toldMany_0 : decode (zYb kX7_toldMany) 0 = .ok (.iconst 1, 1) := by decide +kernel
theorem eX7_toldMany_1 : decode (zYb kX7_toldMany) 1 = .ok (.istore_n 1, 1) := by decide +kernel
theorem eX7_toldMany_2 : decode (zYb kX7_toldMany) 2 = .ok (.iconst 0, 1) := by decide +kernel
theorem eX7_toldMany_3 : decode (zYb kX7_toldMany) 3 = .ok (.istore_n 2, 1) := by decide +kernel
theorem eX7_toldMany_4 : decode (zYb kX7_toldMany) 4 = .ok (.iload_n 2, 1) := by decide +kernel
theorem eX7_toldMany_5 : decode (zYb kX7_toldMany) 5 = .ok (.aload_n 0, 1) := by decide +kernel
theorem eX7_toldMany_6 : decode (zYb kX7_toldMany) 6 = .ok (.getfield 109, 3) := by decide +kernel
theorem eX7_toldMany_9 : decode (zYb kX7_toldMany) 9 = .ok (.if_icmp .ge 28, 3) := by decide +kernel
theorem eX7_toldMany_12 : decode (zYb kX7_toldMany) 12 = .ok (.iload_n 1, 1) := by decide +kernel
theorem eX7_toldMany_13 : decode (zYb kX7_toldMany) 13 = .ok (.aload_n 0, 1) := by decide +kernel
theorem eX7_toldMany_14 : decode (zYb kX7_toldMany) 14 = .ok (.getfield 22, 3) := by decide +kernel
theorem eX7_toldMany_17 : decode (zYb kX7_toldMany) 17 = .ok (.iload_n 2, 1) := by decide +kernel
theorem eX7_toldMany_18 : decode (zYb kX7_toldMany) 18 = .ok (.iaload, 1) := by decide +kernel
theorem eX7_toldMany_19 : decode (zYb kX7_toldMany) 19 = .ok (.bipush 59, 2) := by decide +kernel
theorem eX7_toldMany_21 : decode (zYb kX7_toldMany) 21 = .ok (.if_icmp .ne 7, 3) := by decide +kernel
theorem eX7_toldMany_24 : decode (zYb kX7_toldMany) 24 = .ok (.iconst 1, 1) := by decide +kernel
theorem eX7_toldMany_25 : decode (zYb kX7_toldMany) 25 = .ok (.goto 4, 3) := by decide +kernel
theorem eX7_toldMany_28 : decode (zYb kX7_toldMany) 28 = .ok (.iconst 0, 1) := by decide +kernel
theorem eX7_toldMany_29 : decode (zYb kX7_toldMany) 29 = .ok (.iadd, 1) := by decide +kernel
theorem eX7_toldMany_30 : decode (zYb kX7_toldMany) 30 = .ok (.istore_n 1, 1) := by decide +kernel
theorem eX7_toldMany_31 : decode (zYb kX7_toldMany) 31 = .ok (.iinc 2 1, 3) := by decide +kernel
theorem eX7_toldMany_34 : decode (zYb kX7_toldMany) 34 = .ok (.goto (-30), 3) := by decide +kernel
theorem eX7_toldMany_37 : decode (zYb kX7_toldMany) 37 = .ok (.iload_n 1, 1) := by decide +kernel
theorem eX7_toldMany_38 : decode (zYb kX7_toldMany) 38 = .ok (.ireturn, 1) := by decide +kernel
theorem eX7_readScroll_0 : decode (zYb kX7_readScroll) 0 = .ok (.iload_n 1, 1) := by decide +kernel
theorem eX7_readScroll_1 : decode (zYb kX7_readScroll) 1 = .ok (.istore_n 2, 1) := by decide +kernel
theorem eX7_readScroll_2 : decode (zYb kX7_readScroll) 2 = .ok (.aload_n 0, 1) := by decide +kernel
theorem eX7_readScroll_3 : decode (zYb kX7_readScroll) 3 = .ok (.iconst 0, 1) := by decide +kernel
theorem eX7_readScroll_4 : decode (zYb kX7_readScroll) 4 = .ok (.putfield 66, 3) := by decide +kernel
theorem eX7_readScroll_7 : decode (zYb kX7_readScroll) 7 = .ok (.aload_n 0, 1) := by decide +kernel
theorem eX7_readScroll_8 : decode (zYb kX7_readScroll) 8 = .ok (.getfield 25, 3) := by decide +kernel
theorem eX7_readScroll_11 : decode (zYb kX7_readScroll) 11 = .ok (.iconst 0, 1) := by decide +kernel
theorem eX7_readScroll_12 : decode (zYb kX7_readScroll) 12 = .ok (.iconst 0, 1) := by decide +kernel
theorem eX7_readScroll_13 : decode (zYb kX7_readScroll) 13 = .ok (.iastore, 1) := by decide +kernel
theorem eX7_readScroll_14 : decode (zYb kX7_readScroll) 14 = .ok (.iconst 0, 1) := by decide +kernel
theorem eX7_readScroll_15 : decode (zYb kX7_readScroll) 15 = .ok (.istore_n 3, 1) := by decide +kernel
theorem eX7_readScroll_16 : decode (zYb kX7_readScroll) 16 = .ok (.iload_n 2, 1) := by decide +kernel
theorem eX7_readScroll_17 : decode (zYb kX7_readScroll) 17 = .ok (.aload_n 0, 1) := by decide +kernel
theorem eX7_readScroll_18 : decode (zYb kX7_readScroll) 18 = .ok (.getfield 109, 3) := by decide +kernel
theorem eX7_readScroll_21 : decode (zYb kX7_readScroll) 21 = .ok (.if_icmp .ge 72, 3) := by decide +kernel
theorem eX7_readScroll_24 : decode (zYb kX7_readScroll) 24 = .ok (.aload_n 0, 1) := by decide +kernel
theorem eX7_readScroll_25 : decode (zYb kX7_readScroll) 25 = .ok (.getfield 22, 3) := by decide +kernel
theorem eX7_readScroll_28 : decode (zYb kX7_readScroll) 28 = .ok (.iload_n 2, 1) := by decide +kernel
theorem eX7_readScroll_29 : decode (zYb kX7_readScroll) 29 = .ok (.iaload, 1) := by decide +kernel
theorem eX7_readScroll_30 : decode (zYb kX7_readScroll) 30 = .ok (.bipush 59, 2) := by decide +kernel
theorem eX7_readScroll_32 : decode (zYb kX7_readScroll) 32 = .ok (.if_icmp .eq 61, 3) := by decide +kernel
theorem eX7_readScroll_35 : decode (zYb kX7_readScroll) 35 = .ok (.aload_n 0, 1) := by decide +kernel
theorem eX7_readScroll_36 : decode (zYb kX7_readScroll) 36 = .ok (.getfield 22, 3) := by decide +kernel
theorem eX7_readScroll_39 : decode (zYb kX7_readScroll) 39 = .ok (.iload_n 2, 1) := by decide +kernel
theorem eX7_readScroll_40 : decode (zYb kX7_readScroll) 40 = .ok (.iaload, 1) := by decide +kernel
theorem eX7_readScroll_41 : decode (zYb kX7_readScroll) 41 = .ok (.bipush 124, 2) := by decide +kernel
theorem eX7_readScroll_43 : decode (zYb kX7_readScroll) 43 = .ok (.if_icmp .ne 26, 3) := by decide +kernel
theorem eX7_readScroll_46 : decode (zYb kX7_readScroll) 46 = .ok (.aload_n 0, 1) := by decide +kernel
theorem eX7_readScroll_47 : decode (zYb kX7_readScroll) 47 = .ok (.dup, 1) := by decide +kernel
theorem eX7_readScroll_48 : decode (zYb kX7_readScroll) 48 = .ok (.getfield 66, 3) := by decide +kernel
theorem eX7_readScroll_51 : decode (zYb kX7_readScroll) 51 = .ok (.iconst 1, 1) := by decide +kernel
theorem eX7_readScroll_52 : decode (zYb kX7_readScroll) 52 = .ok (.iadd, 1) := by decide +kernel
theorem eX7_readScroll_53 : decode (zYb kX7_readScroll) 53 = .ok (.putfield 66, 3) := by decide +kernel
theorem eX7_readScroll_56 : decode (zYb kX7_readScroll) 56 = .ok (.aload_n 0, 1) := by decide +kernel
theorem eX7_readScroll_57 : decode (zYb kX7_readScroll) 57 = .ok (.getfield 25, 3) := by decide +kernel
theorem eX7_readScroll_60 : decode (zYb kX7_readScroll) 60 = .ok (.aload_n 0, 1) := by decide +kernel
theorem eX7_readScroll_61 : decode (zYb kX7_readScroll) 61 = .ok (.getfield 66, 3) := by decide +kernel
theorem eX7_readScroll_64 : decode (zYb kX7_readScroll) 64 = .ok (.iload_n 3, 1) := by decide +kernel
theorem eX7_readScroll_65 : decode (zYb kX7_readScroll) 65 = .ok (.iastore, 1) := by decide +kernel
theorem eX7_readScroll_66 : decode (zYb kX7_readScroll) 66 = .ok (.goto 21, 3) := by decide +kernel
theorem eX7_readScroll_69 : decode (zYb kX7_readScroll) 69 = .ok (.aload_n 0, 1) := by decide +kernel
theorem eX7_readScroll_70 : decode (zYb kX7_readScroll) 70 = .ok (.getfield 28, 3) := by decide +kernel
theorem eX7_readScroll_73 : decode (zYb kX7_readScroll) 73 = .ok (.iload_n 3, 1) := by decide +kernel
theorem eX7_readScroll_74 : decode (zYb kX7_readScroll) 74 = .ok (.aload_n 0, 1) := by decide +kernel
theorem eX7_readScroll_75 : decode (zYb kX7_readScroll) 75 = .ok (.getfield 22, 3) := by decide +kernel
theorem eX7_readScroll_78 : decode (zYb kX7_readScroll) 78 = .ok (.iload_n 2, 1) := by decide +kernel
theorem eX7_readScroll_79 : decode (zYb kX7_readScroll) 79 = .ok (.iaload, 1) := by decide +kernel
theorem eX7_readScroll_80 : decode (zYb kX7_readScroll) 80 = .ok (.bipush 97, 2) := by decide +kernel
theorem eX7_readScroll_82 : decode (zYb kX7_readScroll) 82 = .ok (.isub, 1) := by decide +kernel
theorem eX7_readScroll_83 : decode (zYb kX7_readScroll) 83 = .ok (.iastore, 1) := by decide +kernel
theorem eX7_readScroll_84 : decode (zYb kX7_readScroll) 84 = .ok (.iinc 3 1, 3) := by decide +kernel
theorem eX7_readScroll_87 : decode (zYb kX7_readScroll) 87 = .ok (.iinc 2 1, 3) := by decide +kernel
theorem eX7_readScroll_90 : decode (zYb kX7_readScroll) 90 = .ok (.goto (-74), 3) := by decide +kernel
theorem eX7_readScroll_93 : decode (zYb kX7_readScroll) 93 = .ok (.aload_n 0, 1) := by decide +kernel
theorem eX7_readScroll_94 : decode (zYb kX7_readScroll) 94 = .ok (.dup, 1) := by decide +kernel
theorem eX7_readScroll_95 : decode (zYb kX7_readScroll) 95 = .ok (.getfield 66, 3) := by decide +kernel
theorem eX7_readScroll_98 : decode (zYb kX7_readScroll) 98 = .ok (.iconst 1, 1) := by decide +kernel
theorem eX7_readScroll_99 : decode (zYb kX7_readScroll) 99 = .ok (.iadd, 1) := by decide +kernel
theorem eX7_readScroll_100 : decode (zYb kX7_readScroll) 100 = .ok (.putfield 66, 3) := by decide +kernel
theorem eX7_readScroll_103 : decode (zYb kX7_readScroll) 103 = .ok (.aload_n 0, 1) := by decide +kernel
theorem eX7_readScroll_104 : decode (zYb kX7_readScroll) 104 = .ok (.getfield 25, 3) := by decide +kernel
theorem eX7_readScroll_107 : decode (zYb kX7_readScroll) 107 = .ok (.aload_n 0, 1) := by decide +kernel
theorem eX7_readScroll_108 : decode (zYb kX7_readScroll) 108 = .ok (.getfield 66, 3) := by decide +kernel
theorem eX7_readScroll_111 : decode (zYb kX7_readScroll) 111 = .ok (.iload_n 3, 1) := by decide +kernel
theorem eX7_readScroll_112 : decode (zYb kX7_readScroll) 112 = .ok (.iastore, 1) := by decide +kernel
theorem eX7_readScroll_113 : decode (zYb kX7_readScroll) 113 = .ok (.iload_n 2, 1) := by decide +kernel
theorem eX7_readScroll_114 : decode (zYb kX7_readScroll) 114 = .ok (.iconst 1, 1) := by decide +kernel
theorem eX7_readScroll_115 : decode (zYb kX7_readScroll) 115 = .ok (.iadd, 1) := by decide +kernel
theorem eX7_readScroll_116 : decode (zYb kX7_readScroll) 116 = .ok (.ireturn, 1) := by decide +kernel
theorem eX7_sew_0 : decode (zYb kX7_sew) 0 = .ok (.aload_n 0, 1) := by decide +kernel
theorem eX7_sew_1 : decode (zYb kX7_sew) 1 = .ok (.invokevirtual 112, 3) := by decide +kernel
theorem eX7_sew_4 : decode (zYb kX7_sew) 4 = .ok (.bipush (-6), 2) := by decide +kernel
theorem eX7_sew_6 : decode (zYb kX7_sew) 6 = .ok (.if_icmp .eq 6, 3) := by decide +kernel
theorem eX7_sew_9 : decode (zYb kX7_sew) 9 = .ok (.bipush (-3), 2) := by decide +kernel
theorem eX7_sew_11 : decode (zYb kX7_sew) 11 = .ok (.ireturn, 1) := by decide +kernel
theorem eX7_sew_12 : decode (zYb kX7_sew) 12 = .ok (.aload_n 0, 1) := by decide +kernel
theorem eX7_sew_13 : decode (zYb kX7_sew) 13 = .ok (.getfield 7, 3) := by decide +kernel
theorem eX7_sew_16 : decode (zYb kX7_sew) 16 = .ok (.iconst 0, 1) := by decide +kernel
theorem eX7_sew_17 : decode (zYb kX7_sew) 17 = .ok (.iaload, 1) := by decide +kernel
theorem eX7_sew_18 : decode (zYb kX7_sew) 18 = .ok (.aload_n 0, 1) := by decide +kernel
theorem eX7_sew_19 : decode (zYb kX7_sew) 19 = .ok (.invokevirtual 115, 3) := by decide +kernel
theorem eX7_sew_22 : decode (zYb kX7_sew) 22 = .ok (.iadd, 1) := by decide +kernel
theorem eX7_sew_23 : decode (zYb kX7_sew) 23 = .ok (.iconst 5, 1) := by decide +kernel
theorem eX7_sew_24 : decode (zYb kX7_sew) 24 = .ok (.if_icmp .le 6, 3) := by decide +kernel
theorem eX7_sew_27 : decode (zYb kX7_sew) 27 = .ok (.bipush (-4), 2) := by decide +kernel
theorem eX7_sew_29 : decode (zYb kX7_sew) 29 = .ok (.ireturn, 1) := by decide +kernel
theorem eX7_sew_30 : decode (zYb kX7_sew) 30 = .ok (.aload_n 0, 1) := by decide +kernel
theorem eX7_sew_31 : decode (zYb kX7_sew) 31 = .ok (.invokevirtual 118, 3) := by decide +kernel
theorem eX7_sew_34 : decode (zYb kX7_sew) 34 = .ok (.iconst 0, 1) := by decide +kernel
theorem eX7_sew_35 : decode (zYb kX7_sew) 35 = .ok (.istore_n 1, 1) := by decide +kernel
theorem eX7_sew_36 : decode (zYb kX7_sew) 36 = .ok (.iload_n 1, 1) := by decide +kernel
theorem eX7_sew_37 : decode (zYb kX7_sew) 37 = .ok (.aload_n 0, 1) := by decide +kernel
theorem eX7_sew_38 : decode (zYb kX7_sew) 38 = .ok (.getfield 109, 3) := by decide +kernel
theorem eX7_sew_41 : decode (zYb kX7_sew) 41 = .ok (.if_icmp .ge 32, 3) := by decide +kernel
theorem eX7_sew_44 : decode (zYb kX7_sew) 44 = .ok (.aload_n 0, 1) := by decide +kernel
theorem eX7_sew_45 : decode (zYb kX7_sew) 45 = .ok (.iload_n 1, 1) := by decide +kernel
theorem eX7_sew_46 : decode (zYb kX7_sew) 46 = .ok (.invokevirtual 121, 3) := by decide +kernel
theorem eX7_sew_49 : decode (zYb kX7_sew) 49 = .ok (.istore_n 1, 1) := by decide +kernel
theorem eX7_sew_50 : decode (zYb kX7_sew) 50 = .ok (.aload_n 0, 1) := by decide +kernel
theorem eX7_sew_51 : decode (zYb kX7_sew) 51 = .ok (.aload_n 0, 1) := by decide +kernel
theorem eX7_sew_52 : decode (zYb kX7_sew) 52 = .ok (.getfield 7, 3) := by decide +kernel
theorem eX7_sew_55 : decode (zYb kX7_sew) 55 = .ok (.iconst 0, 1) := by decide +kernel
theorem eX7_sew_56 : decode (zYb kX7_sew) 56 = .ok (.iaload, 1) := by decide +kernel
theorem eX7_sew_57 : decode (zYb kX7_sew) 57 = .ok (.invokevirtual 125, 3) := by decide +kernel
theorem eX7_sew_60 : decode (zYb kX7_sew) 60 = .ok (.aload_n 0, 1) := by decide +kernel
theorem eX7_sew_61 : decode (zYb kX7_sew) 61 = .ok (.getfield 7, 3) := by decide +kernel
theorem eX7_sew_64 : decode (zYb kX7_sew) 64 = .ok (.iconst 0, 1) := by decide +kernel
theorem eX7_sew_65 : decode (zYb kX7_sew) 65 = .ok (.dup2, 1) := by decide +kernel
theorem eX7_sew_66 : decode (zYb kX7_sew) 66 = .ok (.iaload, 1) := by decide +kernel
theorem eX7_sew_67 : decode (zYb kX7_sew) 67 = .ok (.iconst 1, 1) := by decide +kernel
theorem eX7_sew_68 : decode (zYb kX7_sew) 68 = .ok (.iadd, 1) := by decide +kernel
theorem eX7_sew_69 : decode (zYb kX7_sew) 69 = .ok (.iastore, 1) := by decide +kernel
theorem eX7_sew_70 : decode (zYb kX7_sew) 70 = .ok (.goto (-34), 3) := by decide +kernel
theorem eX7_sew_73 : decode (zYb kX7_sew) 73 = .ok (.aload_n 0, 1) := by decide +kernel
theorem eX7_sew_74 : decode (zYb kX7_sew) 74 = .ok (.iconst 0, 1) := by decide +kernel
theorem eX7_sew_75 : decode (zYb kX7_sew) 75 = .ok (.putfield 109, 3) := by decide +kernel
theorem eX7_sew_78 : decode (zYb kX7_sew) 78 = .ok (.aload_n 0, 1) := by decide +kernel
theorem eX7_sew_79 : decode (zYb kX7_sew) 79 = .ok (.getfield 7, 3) := by decide +kernel
theorem eX7_sew_82 : decode (zYb kX7_sew) 82 = .ok (.iconst 0, 1) := by decide +kernel
theorem eX7_sew_83 : decode (zYb kX7_sew) 83 = .ok (.iaload, 1) := by decide +kernel
theorem eX7_sew_84 : decode (zYb kX7_sew) 84 = .ok (.ireturn, 1) := by decide +kernel
theorem eX7_burn_0 : decode (zYb kX7_burn) 0 = .ok (.aload_n 0, 1) := by decide +kernel
theorem eX7_burn_1 : decode (zYb kX7_burn) 1 = .ok (.iload_n 1, 1) := by decide +kernel
theorem eX7_burn_2 : decode (zYb kX7_burn) 2 = .ok (.invokevirtual 58, 3) := by decide +kernel
theorem eX7_burn_5 : decode (zYb kX7_burn) 5 = .ok (.ifCond .ne 5, 3) := by decide +kernel
theorem eX7_burn_8 : decode (zYb kX7_burn) 8 = .ok (.iconst (-1), 1) := by decide +kernel
theorem eX7_burn_9 : decode (zYb kX7_burn) 9 = .ok (.ireturn, 1) := by decide +kernel
theorem eX7_burn_10 : decode (zYb kX7_burn) 10 = .ok (.aload_n 0, 1) := by decide +kernel
theorem eX7_burn_11 : decode (zYb kX7_burn) 11 = .ok (.invokevirtual 118, 3) := by decide +kernel
theorem eX7_burn_14 : decode (zYb kX7_burn) 14 = .ok (.aload_n 0, 1) := by decide +kernel
theorem eX7_burn_15 : decode (zYb kX7_burn) 15 = .ok (.iload_n 1, 1) := by decide +kernel
theorem eX7_burn_16 : decode (zYb kX7_burn) 16 = .ok (.invokevirtual 128, 3) := by decide +kernel
theorem eX7_burn_19 : decode (zYb kX7_burn) 19 = .ok (.istore_n 2, 1) := by decide +kernel
theorem eX7_burn_20 : decode (zYb kX7_burn) 20 = .ok (.aload_n 0, 1) := by decide +kernel
theorem eX7_burn_21 : decode (zYb kX7_burn) 21 = .ok (.iload_n 1, 1) := by decide +kernel
theorem eX7_burn_22 : decode (zYb kX7_burn) 22 = .ok (.invokevirtual 131, 3) := by decide +kernel
theorem eX7_burn_25 : decode (zYb kX7_burn) 25 = .ok (.iload_n 2, 1) := by decide +kernel
theorem eX7_burn_26 : decode (zYb kX7_burn) 26 = .ok (.ireturn, 1) := by decide +kernel
theorem eX7_cut_0 : decode (zYb kX7_cut) 0 = .ok (.aload_n 0, 1) := by decide +kernel
theorem eX7_cut_1 : decode (zYb kX7_cut) 1 = .ok (.iload_n 1, 1) := by decide +kernel
theorem eX7_cut_2 : decode (zYb kX7_cut) 2 = .ok (.iload_n 2, 1) := by decide +kernel
theorem eX7_cut_3 : decode (zYb kX7_cut) 3 = .ok (.invokevirtual 134, 3) := by decide +kernel
theorem eX7_cut_6 : decode (zYb kX7_cut) 6 = .ok (.ifCond .ne 5, 3) := by decide +kernel
theorem eX7_cut_9 : decode (zYb kX7_cut) 9 = .ok (.iconst (-1), 1) := by decide +kernel
theorem eX7_cut_10 : decode (zYb kX7_cut) 10 = .ok (.ireturn, 1) := by decide +kernel
theorem eX7_cut_11 : decode (zYb kX7_cut) 11 = .ok (.iload_n 3, 1) := by decide +kernel
theorem eX7_cut_12 : decode (zYb kX7_cut) 12 = .ok (.iconst 1, 1) := by decide +kernel
theorem eX7_cut_13 : decode (zYb kX7_cut) 13 = .ok (.aload_n 0, 1) := by decide +kernel
theorem eX7_cut_14 : decode (zYb kX7_cut) 14 = .ok (.iload_n 1, 1) := by decide +kernel
theorem eX7_cut_15 : decode (zYb kX7_cut) 15 = .ok (.iload_n 2, 1) := by decide +kernel
theorem eX7_cut_16 : decode (zYb kX7_cut) 16 = .ok (.invokevirtual 138, 3) := by decide +kernel
theorem eX7_cut_19 : decode (zYb kX7_cut) 19 = .ok (.iconst 1, 1) := by decide +kernel
theorem eX7_cut_20 : decode (zYb kX7_cut) 20 = .ok (.isub, 1) := by decide +kernel
theorem eX7_cut_21 : decode (zYb kX7_cut) 21 = .ok (.invokestatic 54, 3) := by decide +kernel
theorem eX7_cut_24 : decode (zYb kX7_cut) 24 = .ok (.ifCond .ne 6, 3) := by decide +kernel
theorem eX7_cut_27 : decode (zYb kX7_cut) 27 = .ok (.bipush (-2), 2) := by decide +kernel
theorem eX7_cut_29 : decode (zYb kX7_cut) 29 = .ok (.ireturn, 1) := by decide +kernel
theorem eX7_cut_30 : decode (zYb kX7_cut) 30 = .ok (.aload_n 0, 1) := by decide +kernel
theorem eX7_cut_31 : decode (zYb kX7_cut) 31 = .ok (.iload_n 1, 1) := by decide +kernel
theorem eX7_cut_32 : decode (zYb kX7_cut) 32 = .ok (.iconst 0, 1) := by decide +kernel
theorem eX7_cut_33 : decode (zYb kX7_cut) 33 = .ok (.invokevirtual 62, 3) := by decide +kernel
theorem eX7_cut_36 : decode (zYb kX7_cut) 36 = .ok (.iconst 5, 1) := by decide +kernel
theorem eX7_cut_37 : decode (zYb kX7_cut) 37 = .ok (.if_icmp .ne 6, 3) := by decide +kernel
theorem eX7_cut_40 : decode (zYb kX7_cut) 40 = .ok (.bipush (-4), 2) := by decide +kernel
theorem eX7_cut_42 : decode (zYb kX7_cut) 42 = .ok (.ireturn, 1) := by decide +kernel
theorem eX7_cut_43 : decode (zYb kX7_cut) 43 = .ok (.aload_n 0, 1) := by decide +kernel
theorem eX7_cut_44 : decode (zYb kX7_cut) 44 = .ok (.invokevirtual 118, 3) := by decide +kernel
theorem eX7_cut_47 : decode (zYb kX7_cut) 47 = .ok (.aload_n 0, 1) := by decide +kernel
theorem eX7_cut_48 : decode (zYb kX7_cut) 48 = .ok (.iload_n 1, 1) := by decide +kernel
theorem eX7_cut_49 : decode (zYb kX7_cut) 49 = .ok (.invokevirtual 86, 3) := by decide +kernel
theorem eX7_cut_52 : decode (zYb kX7_cut) 52 = .ok (.aload_n 0, 1) := by decide +kernel
theorem eX7_cut_53 : decode (zYb kX7_cut) 53 = .ok (.iload_n 2, 1) := by decide +kernel
theorem eX7_cut_54 : decode (zYb kX7_cut) 54 = .ok (.iload_n 3, 1) := by decide +kernel
theorem eX7_cut_55 : decode (zYb kX7_cut) 55 = .ok (.invokevirtual 141, 3) := by decide +kernel
theorem eX7_cut_58 : decode (zYb kX7_cut) 58 = .ok (.aload_n 0, 1) := by decide +kernel
theorem eX7_cut_59 : decode (zYb kX7_cut) 59 = .ok (.iload_n 1, 1) := by decide +kernel
theorem eX7_cut_60 : decode (zYb kX7_cut) 60 = .ok (.invokevirtual 125, 3) := by decide +kernel
theorem eX7_cut_63 : decode (zYb kX7_cut) 63 = .ok (.aload_n 0, 1) := by decide +kernel
theorem eX7_cut_64 : decode (zYb kX7_cut) 64 = .ok (.getfield 66, 3) := by decide +kernel
theorem eX7_cut_67 : decode (zYb kX7_cut) 67 = .ok (.ireturn, 1) := by decide +kernel
theorem eX7_undoSeam_0 : decode (zYb kX7_undoSeam) 0 = .ok (.aload_n 0, 1) := by decide +kernel
theorem eX7_undoSeam_1 : decode (zYb kX7_undoSeam) 1 = .ok (.iload_n 1, 1) := by decide +kernel
theorem eX7_undoSeam_2 : decode (zYb kX7_undoSeam) 2 = .ok (.iload_n 2, 1) := by decide +kernel
theorem eX7_undoSeam_3 : decode (zYb kX7_undoSeam) 3 = .ok (.invokevirtual 145, 3) := by decide +kernel
theorem eX7_undoSeam_6 : decode (zYb kX7_undoSeam) 6 = .ok (.ifCond .ne 5, 3) := by decide +kernel
theorem eX7_undoSeam_9 : decode (zYb kX7_undoSeam) 9 = .ok (.iconst (-1), 1) := by decide +kernel
theorem eX7_undoSeam_10 : decode (zYb kX7_undoSeam) 10 = .ok (.ireturn, 1) := by decide +kernel
theorem eX7_undoSeam_11 : decode (zYb kX7_undoSeam) 11 = .ok (.aload_n 0, 1) := by decide +kernel
theorem eX7_undoSeam_12 : decode (zYb kX7_undoSeam) 12 = .ok (.iload_n 1, 1) := by decide +kernel
theorem eX7_undoSeam_13 : decode (zYb kX7_undoSeam) 13 = .ok (.iload_n 2, 1) := by decide +kernel
theorem eX7_undoSeam_14 : decode (zYb kX7_undoSeam) 14 = .ok (.invokevirtual 138, 3) := by decide +kernel
theorem eX7_undoSeam_17 : decode (zYb kX7_undoSeam) 17 = .ok (.aload_n 0, 1) := by decide +kernel
theorem eX7_undoSeam_18 : decode (zYb kX7_undoSeam) 18 = .ok (.iload_n 1, 1) := by decide +kernel
theorem eX7_undoSeam_19 : decode (zYb kX7_undoSeam) 19 = .ok (.iload_n 2, 1) := by decide +kernel
theorem eX7_undoSeam_20 : decode (zYb kX7_undoSeam) 20 = .ok (.iconst 1, 1) := by decide +kernel
theorem eX7_undoSeam_21 : decode (zYb kX7_undoSeam) 21 = .ok (.iadd, 1) := by decide +kernel
theorem eX7_undoSeam_22 : decode (zYb kX7_undoSeam) 22 = .ok (.invokevirtual 138, 3) := by decide +kernel
theorem eX7_undoSeam_25 : decode (zYb kX7_undoSeam) 25 = .ok (.iadd, 1) := by decide +kernel
theorem eX7_undoSeam_26 : decode (zYb kX7_undoSeam) 26 = .ok (.bipush 12, 2) := by decide +kernel
theorem eX7_undoSeam_28 : decode (zYb kX7_undoSeam) 28 = .ok (.if_icmp .le 6, 3) := by decide +kernel
theorem eX7_undoSeam_31 : decode (zYb kX7_undoSeam) 31 = .ok (.bipush (-4), 2) := by decide +kernel
theorem eX7_undoSeam_33 : decode (zYb kX7_undoSeam) 33 = .ok (.ireturn, 1) := by decide +kernel
theorem eX7_undoSeam_34 : decode (zYb kX7_undoSeam) 34 = .ok (.aload_n 0, 1) := by decide +kernel
theorem eX7_undoSeam_35 : decode (zYb kX7_undoSeam) 35 = .ok (.invokevirtual 118, 3) := by decide +kernel
theorem eX7_undoSeam_38 : decode (zYb kX7_undoSeam) 38 = .ok (.aload_n 0, 1) := by decide +kernel
theorem eX7_undoSeam_39 : decode (zYb kX7_undoSeam) 39 = .ok (.iload_n 1, 1) := by decide +kernel
theorem eX7_undoSeam_40 : decode (zYb kX7_undoSeam) 40 = .ok (.invokevirtual 86, 3) := by decide +kernel
theorem eX7_undoSeam_43 : decode (zYb kX7_undoSeam) 43 = .ok (.aload_n 0, 1) := by decide +kernel
theorem eX7_undoSeam_44 : decode (zYb kX7_undoSeam) 44 = .ok (.iload_n 2, 1) := by decide +kernel
theorem eX7_undoSeam_45 : decode (zYb kX7_undoSeam) 45 = .ok (.invokevirtual 148, 3) := by decide +kernel
theorem eX7_undoSeam_48 : decode (zYb kX7_undoSeam) 48 = .ok (.aload_n 0, 1) := by decide +kernel
theorem eX7_undoSeam_49 : decode (zYb kX7_undoSeam) 49 = .ok (.iload_n 1, 1) := by decide +kernel
theorem eX7_undoSeam_50 : decode (zYb kX7_undoSeam) 50 = .ok (.invokevirtual 125, 3) := by decide +kernel
theorem eX7_undoSeam_53 : decode (zYb kX7_undoSeam) 53 = .ok (.aload_n 0, 1) := by decide +kernel
theorem eX7_undoSeam_54 : decode (zYb kX7_undoSeam) 54 = .ok (.getfield 66, 3) := by decide +kernel
theorem eX7_undoSeam_57 : decode (zYb kX7_undoSeam) 57 = .ok (.ireturn, 1) := by decide +kernel
theorem eX7_turn_0 : decode (zYb kX7_turn) 0 = .ok (.aload_n 0, 1) := by decide +kernel
theorem eX7_turn_1 : decode (zYb kX7_turn) 1 = .ok (.iload_n 1, 1) := by decide +kernel
theorem eX7_turn_2 : decode (zYb kX7_turn) 2 = .ok (.iload_n 2, 1) := by decide +kernel
theorem eX7_turn_3 : decode (zYb kX7_turn) 3 = .ok (.invokevirtual 134, 3) := by decide +kernel
theorem eX7_turn_6 : decode (zYb kX7_turn) 6 = .ok (.ifCond .ne 5, 3) := by decide +kernel
theorem eX7_turn_9 : decode (zYb kX7_turn) 9 = .ok (.iconst (-1), 1) := by decide +kernel
theorem eX7_turn_10 : decode (zYb kX7_turn) 10 = .ok (.ireturn, 1) := by decide +kernel
theorem eX7_turn_11 : decode (zYb kX7_turn) 11 = .ok (.aload_n 0, 1) := by decide +kernel
theorem eX7_turn_12 : decode (zYb kX7_turn) 12 = .ok (.invokevirtual 118, 3) := by decide +kernel
theorem eX7_turn_15 : decode (zYb kX7_turn) 15 = .ok (.aload_n 0, 1) := by decide +kernel
theorem eX7_turn_16 : decode (zYb kX7_turn) 16 = .ok (.iload_n 1, 1) := by decide +kernel
theorem eX7_turn_17 : decode (zYb kX7_turn) 17 = .ok (.invokevirtual 86, 3) := by decide +kernel
theorem eX7_turn_20 : decode (zYb kX7_turn) 20 = .ok (.iconst 0, 1) := by decide +kernel
theorem eX7_turn_21 : decode (zYb kX7_turn) 21 = .ok (.istore_n 3, 1) := by decide +kernel
theorem eX7_turn_22 : decode (zYb kX7_turn) 22 = .ok (.aload_n 0, 1) := by decide +kernel
theorem eX7_turn_23 : decode (zYb kX7_turn) 23 = .ok (.getfield 25, 3) := by decide +kernel
theorem eX7_turn_26 : decode (zYb kX7_turn) 26 = .ok (.iload_n 2, 1) := by decide +kernel
theorem eX7_turn_27 : decode (zYb kX7_turn) 27 = .ok (.iaload, 1) := by decide +kernel
theorem eX7_turn_28 : decode (zYb kX7_turn) 28 = .ok (.aload_n 0, 1) := by decide +kernel
theorem eX7_turn_29 : decode (zYb kX7_turn) 29 = .ok (.getfield 25, 3) := by decide +kernel
theorem eX7_turn_32 : decode (zYb kX7_turn) 32 = .ok (.iload_n 2, 1) := by decide +kernel
theorem eX7_turn_33 : decode (zYb kX7_turn) 33 = .ok (.iconst 1, 1) := by decide +kernel
theorem eX7_turn_34 : decode (zYb kX7_turn) 34 = .ok (.iadd, 1) := by decide +kernel
theorem eX7_turn_35 : decode (zYb kX7_turn) 35 = .ok (.iaload, 1) := by decide +kernel
theorem eX7_turn_36 : decode (zYb kX7_turn) 36 = .ok (.iadd, 1) := by decide +kernel
theorem eX7_turn_37 : decode (zYb kX7_turn) 37 = .ok (.iconst 1, 1) := by decide +kernel
theorem eX7_turn_38 : decode (zYb kX7_turn) 38 = .ok (.isub, 1) := by decide +kernel
theorem eX7_turn_39 : decode (zYb kX7_turn) 39 = .ok (.istore 4, 2) := by decide +kernel
theorem eX7_turn_41 : decode (zYb kX7_turn) 41 = .ok (.aload_n 0, 1) := by decide +kernel
theorem eX7_turn_42 : decode (zYb kX7_turn) 42 = .ok (.getfield 25, 3) := by decide +kernel
theorem eX7_turn_45 : decode (zYb kX7_turn) 45 = .ok (.iload_n 2, 1) := by decide +kernel
theorem eX7_turn_46 : decode (zYb kX7_turn) 46 = .ok (.iaload, 1) := by decide +kernel
theorem eX7_turn_47 : decode (zYb kX7_turn) 47 = .ok (.istore 5, 2) := by decide +kernel
theorem eX7_turn_49 : decode (zYb kX7_turn) 49 = .ok (.iload 5, 2) := by decide +kernel
theorem eX7_turn_51 : decode (zYb kX7_turn) 51 = .ok (.aload_n 0, 1) := by decide +kernel
theorem eX7_turn_52 : decode (zYb kX7_turn) 52 = .ok (.getfield 25, 3) := by decide +kernel
theorem eX7_turn_55 : decode (zYb kX7_turn) 55 = .ok (.iload_n 2, 1) := by decide +kernel
theorem eX7_turn_56 : decode (zYb kX7_turn) 56 = .ok (.iconst 1, 1) := by decide +kernel
theorem eX7_turn_57 : decode (zYb kX7_turn) 57 = .ok (.iadd, 1) := by decide +kernel
theorem eX7_turn_58 : decode (zYb kX7_turn) 58 = .ok (.iaload, 1) := by decide +kernel
theorem eX7_turn_59 : decode (zYb kX7_turn) 59 = .ok (.if_icmp .ge 57, 3) := by decide +kernel
theorem eX7_turn_62 : decode (zYb kX7_turn) 62 = .ok (.aload_n 0, 1) := by decide +kernel
theorem eX7_turn_63 : decode (zYb kX7_turn) 63 = .ok (.getfield 28, 3) := by decide +kernel
theorem eX7_turn_66 : decode (zYb kX7_turn) 66 = .ok (.iload 5, 2) := by decide +kernel
theorem eX7_turn_68 : decode (zYb kX7_turn) 68 = .ok (.aload_n 0, 1) := by decide +kernel
theorem eX7_turn_69 : decode (zYb kX7_turn) 69 = .ok (.iload_n 1, 1) := by decide +kernel
theorem eX7_turn_70 : decode (zYb kX7_turn) 70 = .ok (.bipush 7, 2) := by decide +kernel
theorem eX7_turn_72 : decode (zYb kX7_turn) 72 = .ok (.iload 4, 2) := by decide +kernel
theorem eX7_turn_74 : decode (zYb kX7_turn) 74 = .ok (.iadd, 1) := by decide +kernel
theorem eX7_turn_75 : decode (zYb kX7_turn) 75 = .ok (.iload 5, 2) := by decide +kernel
theorem eX7_turn_77 : decode (zYb kX7_turn) 77 = .ok (.isub, 1) := by decide +kernel
theorem eX7_turn_78 : decode (zYb kX7_turn) 78 = .ok (.invokevirtual 62, 3) := by decide +kernel
theorem eX7_turn_81 : decode (zYb kX7_turn) 81 = .ok (.iastore, 1) := by decide +kernel
theorem eX7_turn_82 : decode (zYb kX7_turn) 82 = .ok (.iload_n 3, 1) := by decide +kernel
theorem eX7_turn_83 : decode (zYb kX7_turn) 83 = .ok (.aload_n 0, 1) := by decide +kernel
theorem eX7_turn_84 : decode (zYb kX7_turn) 84 = .ok (.getfield 28, 3) := by decide +kernel
theorem eX7_turn_87 : decode (zYb kX7_turn) 87 = .ok (.iload 5, 2) := by decide +kernel
theorem eX7_turn_89 : decode (zYb kX7_turn) 89 = .ok (.iaload, 1) := by decide +kernel
theorem eX7_turn_90 : decode (zYb kX7_turn) 90 = .ok (.aload_n 0, 1) := by decide +kernel
theorem eX7_turn_91 : decode (zYb kX7_turn) 91 = .ok (.iload_n 1, 1) := by decide +kernel
theorem eX7_turn_92 : decode (zYb kX7_turn) 92 = .ok (.bipush 7, 2) := by decide +kernel
theorem eX7_turn_94 : decode (zYb kX7_turn) 94 = .ok (.iload 5, 2) := by decide +kernel
theorem eX7_turn_96 : decode (zYb kX7_turn) 96 = .ok (.iadd, 1) := by decide +kernel
theorem eX7_turn_97 : decode (zYb kX7_turn) 97 = .ok (.invokevirtual 62, 3) := by decide +kernel
theorem eX7_turn_100 : decode (zYb kX7_turn) 100 = .ok (.if_icmp .eq 7, 3) := by decide +kernel
theorem eX7_turn_103 : decode (zYb kX7_turn) 103 = .ok (.iconst 1, 1) := by decide +kernel
theorem eX7_turn_104 : decode (zYb kX7_turn) 104 = .ok (.goto 4, 3) := by decide +kernel
theorem eX7_turn_107 : decode (zYb kX7_turn) 107 = .ok (.iconst 0, 1) := by decide +kernel
theorem eX7_turn_108 : decode (zYb kX7_turn) 108 = .ok (.iadd, 1) := by decide +kernel
theorem eX7_turn_109 : decode (zYb kX7_turn) 109 = .ok (.istore_n 3, 1) := by decide +kernel
theorem eX7_turn_110 : decode (zYb kX7_turn) 110 = .ok (.iinc 5 1, 3) := by decide +kernel
theorem eX7_turn_113 : decode (zYb kX7_turn) 113 = .ok (.goto (-64), 3) := by decide +kernel
theorem eX7_turn_116 : decode (zYb kX7_turn) 116 = .ok (.aload_n 0, 1) := by decide +kernel
theorem eX7_turn_117 : decode (zYb kX7_turn) 117 = .ok (.iload_n 1, 1) := by decide +kernel
theorem eX7_turn_118 : decode (zYb kX7_turn) 118 = .ok (.invokevirtual 125, 3) := by decide +kernel
theorem eX7_turn_121 : decode (zYb kX7_turn) 121 = .ok (.iload_n 3, 1) := by decide +kernel
theorem eX7_turn_122 : decode (zYb kX7_turn) 122 = .ok (.ireturn, 1) := by decide +kernel
theorem eX7_exchange_0 : decode (zYb kX7_exchange) 0 = .ok (.aload_n 0, 1) := by decide +kernel
theorem eX7_exchange_1 : decode (zYb kX7_exchange) 1 = .ok (.iload_n 1, 1) := by decide +kernel
theorem eX7_exchange_2 : decode (zYb kX7_exchange) 2 = .ok (.iload_n 2, 1) := by decide +kernel
theorem eX7_exchange_3 : decode (zYb kX7_exchange) 3 = .ok (.invokevirtual 145, 3) := by decide +kernel
theorem eX7_exchange_6 : decode (zYb kX7_exchange) 6 = .ok (.ifCond .ne 5, 3) := by decide +kernel
theorem eX7_exchange_9 : decode (zYb kX7_exchange) 9 = .ok (.iconst (-1), 1) := by decide +kernel
theorem eX7_exchange_10 : decode (zYb kX7_exchange) 10 = .ok (.ireturn, 1) := by decide +kernel
theorem eX7_exchange_11 : decode (zYb kX7_exchange) 11 = .ok (.aload_n 0, 1) := by decide +kernel
theorem eX7_exchange_12 : decode (zYb kX7_exchange) 12 = .ok (.invokevirtual 118, 3) := by decide +kernel
theorem eX7_exchange_15 : decode (zYb kX7_exchange) 15 = .ok (.aload_n 0, 1) := by decide +kernel
theorem eX7_exchange_16 : decode (zYb kX7_exchange) 16 = .ok (.iload_n 1, 1) := by decide +kernel
theorem eX7_exchange_17 : decode (zYb kX7_exchange) 17 = .ok (.invokevirtual 86, 3) := by decide +kernel
theorem eX7_exchange_20 : decode (zYb kX7_exchange) 20 = .ok (.aload_n 0, 1) := by decide +kernel
theorem eX7_exchange_21 : decode (zYb kX7_exchange) 21 = .ok (.getfield 25, 3) := by decide +kernel
theorem eX7_exchange_24 : decode (zYb kX7_exchange) 24 = .ok (.iload_n 2, 1) := by decide +kernel
theorem eX7_exchange_25 : decode (zYb kX7_exchange) 25 = .ok (.iaload, 1) := by decide +kernel
theorem eX7_exchange_26 : decode (zYb kX7_exchange) 26 = .ok (.istore_n 3, 1) := by decide +kernel
theorem eX7_exchange_27 : decode (zYb kX7_exchange) 27 = .ok (.aload_n 0, 1) := by decide +kernel
theorem eX7_exchange_28 : decode (zYb kX7_exchange) 28 = .ok (.iload_n 1, 1) := by decide +kernel
theorem eX7_exchange_29 : decode (zYb kX7_exchange) 29 = .ok (.iload_n 2, 1) := by decide +kernel
theorem eX7_exchange_30 : decode (zYb kX7_exchange) 30 = .ok (.invokevirtual 138, 3) := by decide +kernel
theorem eX7_exchange_33 : decode (zYb kX7_exchange) 33 = .ok (.istore 4, 2) := by decide +kernel
theorem eX7_exchange_35 : decode (zYb kX7_exchange) 35 = .ok (.aload_n 0, 1) := by decide +kernel
theorem eX7_exchange_36 : decode (zYb kX7_exchange) 36 = .ok (.iload_n 1, 1) := by decide +kernel
theorem eX7_exchange_37 : decode (zYb kX7_exchange) 37 = .ok (.iload_n 2, 1) := by decide +kernel
theorem eX7_exchange_38 : decode (zYb kX7_exchange) 38 = .ok (.iconst 1, 1) := by decide +kernel
theorem eX7_exchange_39 : decode (zYb kX7_exchange) 39 = .ok (.iadd, 1) := by decide +kernel
theorem eX7_exchange_40 : decode (zYb kX7_exchange) 40 = .ok (.invokevirtual 138, 3) := by decide +kernel
theorem eX7_exchange_43 : decode (zYb kX7_exchange) 43 = .ok (.istore 5, 2) := by decide +kernel
theorem eX7_exchange_45 : decode (zYb kX7_exchange) 45 = .ok (.iconst 0, 1) := by decide +kernel
theorem eX7_exchange_46 : decode (zYb kX7_exchange) 46 = .ok (.istore 6, 2) := by decide +kernel
theorem eX7_exchange_48 : decode (zYb kX7_exchange) 48 = .ok (.iload 6, 2) := by decide +kernel
theorem eX7_exchange_50 : decode (zYb kX7_exchange) 50 = .ok (.iload 4, 2) := by decide +kernel
theorem eX7_exchange_52 : decode (zYb kX7_exchange) 52 = .ok (.iload 5, 2) := by decide +kernel
theorem eX7_exchange_54 : decode (zYb kX7_exchange) 54 = .ok (.iadd, 1) := by decide +kernel
theorem eX7_exchange_55 : decode (zYb kX7_exchange) 55 = .ok (.if_icmp .ge 48, 3) := by decide +kernel
theorem eX7_exchange_58 : decode (zYb kX7_exchange) 58 = .ok (.aload_n 0, 1) := by decide +kernel
theorem eX7_exchange_59 : decode (zYb kX7_exchange) 59 = .ok (.getfield 28, 3) := by decide +kernel
theorem eX7_exchange_62 : decode (zYb kX7_exchange) 62 = .ok (.iload_n 3, 1) := by decide +kernel
theorem eX7_exchange_63 : decode (zYb kX7_exchange) 63 = .ok (.iload 6, 2) := by decide +kernel
theorem eX7_exchange_65 : decode (zYb kX7_exchange) 65 = .ok (.iadd, 1) := by decide +kernel
theorem eX7_exchange_66 : decode (zYb kX7_exchange) 66 = .ok (.aload_n 0, 1) := by decide +kernel
theorem eX7_exchange_67 : decode (zYb kX7_exchange) 67 = .ok (.iload_n 1, 1) := by decide +kernel
theorem eX7_exchange_68 : decode (zYb kX7_exchange) 68 = .ok (.bipush 7, 2) := by decide +kernel
theorem eX7_exchange_70 : decode (zYb kX7_exchange) 70 = .ok (.iload_n 3, 1) := by decide +kernel
theorem eX7_exchange_71 : decode (zYb kX7_exchange) 71 = .ok (.iadd, 1) := by decide +kernel
theorem eX7_exchange_72 : decode (zYb kX7_exchange) 72 = .ok (.iload 6, 2) := by decide +kernel
theorem eX7_exchange_74 : decode (zYb kX7_exchange) 74 = .ok (.iload 5, 2) := by decide +kernel
theorem eX7_exchange_76 : decode (zYb kX7_exchange) 76 = .ok (.if_icmp .ge 11, 3) := by decide +kernel
theorem eX7_exchange_79 : decode (zYb kX7_exchange) 79 = .ok (.iload 4, 2) := by decide +kernel
theorem eX7_exchange_81 : decode (zYb kX7_exchange) 81 = .ok (.iload 6, 2) := by decide +kernel
theorem eX7_exchange_83 : decode (zYb kX7_exchange) 83 = .ok (.iadd, 1) := by decide +kernel
theorem eX7_exchange_84 : decode (zYb kX7_exchange) 84 = .ok (.goto 8, 3) := by decide +kernel
theorem eX7_exchange_87 : decode (zYb kX7_exchange) 87 = .ok (.iload 6, 2) := by decide +kernel
theorem eX7_exchange_89 : decode (zYb kX7_exchange) 89 = .ok (.iload 5, 2) := by decide +kernel
theorem eX7_exchange_91 : decode (zYb kX7_exchange) 91 = .ok (.isub, 1) := by decide +kernel
theorem eX7_exchange_92 : decode (zYb kX7_exchange) 92 = .ok (.iadd, 1) := by decide +kernel
theorem eX7_exchange_93 : decode (zYb kX7_exchange) 93 = .ok (.invokevirtual 62, 3) := by decide +kernel
theorem eX7_exchange_96 : decode (zYb kX7_exchange) 96 = .ok (.iastore, 1) := by decide +kernel
theorem eX7_exchange_97 : decode (zYb kX7_exchange) 97 = .ok (.iinc 6 1, 3) := by decide +kernel
theorem eX7_exchange_100 : decode (zYb kX7_exchange) 100 = .ok (.goto (-52), 3) := by decide +kernel
theorem eX7_exchange_103 : decode (zYb kX7_exchange) 103 = .ok (.aload_n 0, 1) := by decide +kernel
theorem eX7_exchange_104 : decode (zYb kX7_exchange) 104 = .ok (.getfield 25, 3) := by decide +kernel
theorem eX7_exchange_107 : decode (zYb kX7_exchange) 107 = .ok (.iload_n 2, 1) := by decide +kernel
theorem eX7_exchange_108 : decode (zYb kX7_exchange) 108 = .ok (.iconst 1, 1) := by decide +kernel
theorem eX7_exchange_109 : decode (zYb kX7_exchange) 109 = .ok (.iadd, 1) := by decide +kernel
theorem eX7_exchange_110 : decode (zYb kX7_exchange) 110 = .ok (.iload_n 3, 1) := by decide +kernel
theorem eX7_exchange_111 : decode (zYb kX7_exchange) 111 = .ok (.iload 5, 2) := by decide +kernel
theorem eX7_exchange_113 : decode (zYb kX7_exchange) 113 = .ok (.iadd, 1) := by decide +kernel
theorem eX7_exchange_114 : decode (zYb kX7_exchange) 114 = .ok (.iastore, 1) := by decide +kernel
theorem eX7_exchange_115 : decode (zYb kX7_exchange) 115 = .ok (.aload_n 0, 1) := by decide +kernel
theorem eX7_exchange_116 : decode (zYb kX7_exchange) 116 = .ok (.iload_n 1, 1) := by decide +kernel
theorem eX7_exchange_117 : decode (zYb kX7_exchange) 117 = .ok (.invokevirtual 125, 3) := by decide +kernel
theorem eX7_exchange_120 : decode (zYb kX7_exchange) 120 = .ok (.aload_n 0, 1) := by decide +kernel
theorem eX7_exchange_121 : decode (zYb kX7_exchange) 121 = .ok (.iconst 1, 1) := by decide +kernel
theorem eX7_exchange_122 : decode (zYb kX7_exchange) 122 = .ok (.invokevirtual 89, 3) := by decide +kernel
theorem eX7_exchange_125 : decode (zYb kX7_exchange) 125 = .ok (.aload_n 0, 1) := by decide +kernel
theorem eX7_exchange_126 : decode (zYb kX7_exchange) 126 = .ok (.getfield 69, 3) := by decide +kernel
theorem eX7_exchange_129 : decode (zYb kX7_exchange) 129 = .ok (.ireturn, 1) := by decide +kernel
theorem eX7_join_0 : decode (zYb kX7_join) 0 = .ok (.aload_n 0, 1) := by decide +kernel
theorem eX7_join_1 : decode (zYb kX7_join) 1 = .ok (.iload_n 1, 1) := by decide +kernel
theorem eX7_join_2 : decode (zYb kX7_join) 2 = .ok (.invokevirtual 58, 3) := by decide +kernel
theorem eX7_join_5 : decode (zYb kX7_join) 5 = .ok (.ifCond .eq 11, 3) := by decide +kernel
theorem eX7_join_8 : decode (zYb kX7_join) 8 = .ok (.aload_n 0, 1) := by decide +kernel
theorem eX7_join_9 : decode (zYb kX7_join) 9 = .ok (.iload_n 2, 1) := by decide +kernel
theorem eX7_join_10 : decode (zYb kX7_join) 10 = .ok (.invokevirtual 58, 3) := by decide +kernel
theorem eX7_join_13 : decode (zYb kX7_join) 13 = .ok (.ifCond .ne 5, 3) := by decide +kernel
theorem eX7_join_16 : decode (zYb kX7_join) 16 = .ok (.iconst (-1), 1) := by decide +kernel
theorem eX7_join_17 : decode (zYb kX7_join) 17 = .ok (.ireturn, 1) := by decide +kernel
theorem eX7_join_18 : decode (zYb kX7_join) 18 = .ok (.iload_n 1, 1) := by decide +kernel
theorem eX7_join_19 : decode (zYb kX7_join) 19 = .ok (.iload_n 2, 1) := by decide +kernel
theorem eX7_join_20 : decode (zYb kX7_join) 20 = .ok (.if_icmp .ne 6, 3) := by decide +kernel
theorem eX7_join_23 : decode (zYb kX7_join) 23 = .ok (.bipush (-2), 2) := by decide +kernel
theorem eX7_join_25 : decode (zYb kX7_join) 25 = .ok (.ireturn, 1) := by decide +kernel
theorem eX7_join_26 : decode (zYb kX7_join) 26 = .ok (.aload_n 0, 1) := by decide +kernel
theorem eX7_join_27 : decode (zYb kX7_join) 27 = .ok (.iload_n 1, 1) := by decide +kernel
theorem eX7_join_28 : decode (zYb kX7_join) 28 = .ok (.iconst 0, 1) := by decide +kernel
theorem eX7_join_29 : decode (zYb kX7_join) 29 = .ok (.invokevirtual 62, 3) := by decide +kernel
theorem eX7_join_32 : decode (zYb kX7_join) 32 = .ok (.aload_n 0, 1) := by decide +kernel
theorem eX7_join_33 : decode (zYb kX7_join) 33 = .ok (.iload_n 2, 1) := by decide +kernel
theorem eX7_join_34 : decode (zYb kX7_join) 34 = .ok (.iconst 0, 1) := by decide +kernel
theorem eX7_join_35 : decode (zYb kX7_join) 35 = .ok (.invokevirtual 62, 3) := by decide +kernel
theorem eX7_join_38 : decode (zYb kX7_join) 38 = .ok (.iadd, 1) := by decide +kernel
theorem eX7_join_39 : decode (zYb kX7_join) 39 = .ok (.iconst 5, 1) := by decide +kernel
theorem eX7_join_40 : decode (zYb kX7_join) 40 = .ok (.if_icmp .le 6, 3) := by decide +kernel
theorem eX7_join_43 : decode (zYb kX7_join) 43 = .ok (.bipush (-4), 2) := by decide +kernel
theorem eX7_join_45 : decode (zYb kX7_join) 45 = .ok (.ireturn, 1) := by decide +kernel
theorem eX7_join_46 : decode (zYb kX7_join) 46 = .ok (.aload_n 0, 1) := by decide +kernel
theorem eX7_join_47 : decode (zYb kX7_join) 47 = .ok (.invokevirtual 118, 3) := by decide +kernel
theorem eX7_join_50 : decode (zYb kX7_join) 50 = .ok (.aload_n 0, 1) := by decide +kernel
theorem eX7_join_51 : decode (zYb kX7_join) 51 = .ok (.iload_n 2, 1) := by decide +kernel
theorem eX7_join_52 : decode (zYb kX7_join) 52 = .ok (.invokevirtual 86, 3) := by decide +kernel
theorem eX7_join_55 : decode (zYb kX7_join) 55 = .ok (.aload_n 0, 1) := by decide +kernel
theorem eX7_join_56 : decode (zYb kX7_join) 56 = .ok (.getfield 25, 3) := by decide +kernel
theorem eX7_join_59 : decode (zYb kX7_join) 59 = .ok (.aload_n 0, 1) := by decide +kernel
theorem eX7_join_60 : decode (zYb kX7_join) 60 = .ok (.getfield 66, 3) := by decide +kernel
theorem eX7_join_63 : decode (zYb kX7_join) 63 = .ok (.iaload, 1) := by decide +kernel
theorem eX7_join_64 : decode (zYb kX7_join) 64 = .ok (.istore_n 3, 1) := by decide +kernel
theorem eX7_join_65 : decode (zYb kX7_join) 65 = .ok (.iconst 0, 1) := by decide +kernel
theorem eX7_join_66 : decode (zYb kX7_join) 66 = .ok (.istore 4, 2) := by decide +kernel
theorem eX7_join_68 : decode (zYb kX7_join) 68 = .ok (.iload 4, 2) := by decide +kernel
theorem eX7_join_70 : decode (zYb kX7_join) 70 = .ok (.aload_n 0, 1) := by decide +kernel
theorem eX7_join_71 : decode (zYb kX7_join) 71 = .ok (.iload_n 1, 1) := by decide +kernel
theorem eX7_join_72 : decode (zYb kX7_join) 72 = .ok (.invokevirtual 128, 3) := by decide +kernel
theorem eX7_join_75 : decode (zYb kX7_join) 75 = .ok (.if_icmp .ge 28, 3) := by decide +kernel
theorem eX7_join_78 : decode (zYb kX7_join) 78 = .ok (.aload_n 0, 1) := by decide +kernel
theorem eX7_join_79 : decode (zYb kX7_join) 79 = .ok (.getfield 28, 3) := by decide +kernel
theorem eX7_join_82 : decode (zYb kX7_join) 82 = .ok (.iload_n 3, 1) := by decide +kernel
theorem eX7_join_83 : decode (zYb kX7_join) 83 = .ok (.iload 4, 2) := by decide +kernel
theorem eX7_join_85 : decode (zYb kX7_join) 85 = .ok (.iadd, 1) := by decide +kernel
theorem eX7_join_86 : decode (zYb kX7_join) 86 = .ok (.aload_n 0, 1) := by decide +kernel
theorem eX7_join_87 : decode (zYb kX7_join) 87 = .ok (.iload_n 1, 1) := by decide +kernel
theorem eX7_join_88 : decode (zYb kX7_join) 88 = .ok (.bipush 7, 2) := by decide +kernel
theorem eX7_join_90 : decode (zYb kX7_join) 90 = .ok (.iload 4, 2) := by decide +kernel
theorem eX7_join_92 : decode (zYb kX7_join) 92 = .ok (.iadd, 1) := by decide +kernel
theorem eX7_join_93 : decode (zYb kX7_join) 93 = .ok (.invokevirtual 62, 3) := by decide +kernel
theorem eX7_join_96 : decode (zYb kX7_join) 96 = .ok (.iastore, 1) := by decide +kernel
theorem eX7_join_97 : decode (zYb kX7_join) 97 = .ok (.iinc 4 1, 3) := by decide +kernel
theorem eX7_join_100 : decode (zYb kX7_join) 100 = .ok (.goto (-32), 3) := by decide +kernel
theorem eX7_join_103 : decode (zYb kX7_join) 103 = .ok (.iconst 1, 1) := by decide +kernel
theorem eX7_join_104 : decode (zYb kX7_join) 104 = .ok (.istore 4, 2) := by decide +kernel
theorem eX7_join_106 : decode (zYb kX7_join) 106 = .ok (.iload 4, 2) := by decide +kernel
theorem eX7_join_108 : decode (zYb kX7_join) 108 = .ok (.aload_n 0, 1) := by decide +kernel
theorem eX7_join_109 : decode (zYb kX7_join) 109 = .ok (.iload_n 1, 1) := by decide +kernel
theorem eX7_join_110 : decode (zYb kX7_join) 110 = .ok (.iconst 0, 1) := by decide +kernel
theorem eX7_join_111 : decode (zYb kX7_join) 111 = .ok (.invokevirtual 62, 3) := by decide +kernel
theorem eX7_join_114 : decode (zYb kX7_join) 114 = .ok (.if_icmp .gt 32, 3) := by decide +kernel
theorem eX7_join_117 : decode (zYb kX7_join) 117 = .ok (.aload_n 0, 1) := by decide +kernel
theorem eX7_join_118 : decode (zYb kX7_join) 118 = .ok (.getfield 25, 3) := by decide +kernel
theorem eX7_join_121 : decode (zYb kX7_join) 121 = .ok (.aload_n 0, 1) := by decide +kernel
theorem eX7_join_122 : decode (zYb kX7_join) 122 = .ok (.getfield 66, 3) := by decide +kernel
theorem eX7_join_125 : decode (zYb kX7_join) 125 = .ok (.iload 4, 2) := by decide +kernel
theorem eX7_join_127 : decode (zYb kX7_join) 127 = .ok (.iadd, 1) := by decide +kernel
theorem eX7_join_128 : decode (zYb kX7_join) 128 = .ok (.iload_n 3, 1) := by decide +kernel
theorem eX7_join_129 : decode (zYb kX7_join) 129 = .ok (.aload_n 0, 1) := by decide +kernel
theorem eX7_join_130 : decode (zYb kX7_join) 130 = .ok (.iload_n 1, 1) := by decide +kernel
theorem eX7_join_131 : decode (zYb kX7_join) 131 = .ok (.iconst 1, 1) := by decide +kernel
theorem eX7_join_132 : decode (zYb kX7_join) 132 = .ok (.iload 4, 2) := by decide +kernel
theorem eX7_join_134 : decode (zYb kX7_join) 134 = .ok (.iadd, 1) := by decide +kernel
theorem eX7_join_135 : decode (zYb kX7_join) 135 = .ok (.invokevirtual 62, 3) := by decide +kernel
theorem eX7_join_138 : decode (zYb kX7_join) 138 = .ok (.iadd, 1) := by decide +kernel
theorem eX7_join_139 : decode (zYb kX7_join) 139 = .ok (.iastore, 1) := by decide +kernel
theorem eX7_join_140 : decode (zYb kX7_join) 140 = .ok (.iinc 4 1, 3) := by decide +kernel
theorem eX7_join_143 : decode (zYb kX7_join) 143 = .ok (.goto (-37), 3) := by decide +kernel
theorem eX7_join_146 : decode (zYb kX7_join) 146 = .ok (.aload_n 0, 1) := by decide +kernel
theorem eX7_join_147 : decode (zYb kX7_join) 147 = .ok (.dup, 1) := by decide +kernel
theorem eX7_join_148 : decode (zYb kX7_join) 148 = .ok (.getfield 66, 3) := by decide +kernel
theorem eX7_join_151 : decode (zYb kX7_join) 151 = .ok (.aload_n 0, 1) := by decide +kernel
theorem eX7_join_152 : decode (zYb kX7_join) 152 = .ok (.iload_n 1, 1) := by decide +kernel
theorem eX7_join_153 : decode (zYb kX7_join) 153 = .ok (.iconst 0, 1) := by decide +kernel
theorem eX7_join_154 : decode (zYb kX7_join) 154 = .ok (.invokevirtual 62, 3) := by decide +kernel
theorem eX7_join_157 : decode (zYb kX7_join) 157 = .ok (.iadd, 1) := by decide +kernel
theorem eX7_join_158 : decode (zYb kX7_join) 158 = .ok (.putfield 66, 3) := by decide +kernel
theorem eX7_join_161 : decode (zYb kX7_join) 161 = .ok (.aload_n 0, 1) := by decide +kernel
theorem eX7_join_162 : decode (zYb kX7_join) 162 = .ok (.iload_n 2, 1) := by decide +kernel
theorem eX7_join_163 : decode (zYb kX7_join) 163 = .ok (.invokevirtual 125, 3) := by decide +kernel
theorem eX7_join_166 : decode (zYb kX7_join) 166 = .ok (.aload_n 0, 1) := by decide +kernel
theorem eX7_join_167 : decode (zYb kX7_join) 167 = .ok (.iload_n 1, 1) := by decide +kernel
theorem eX7_join_168 : decode (zYb kX7_join) 168 = .ok (.invokevirtual 131, 3) := by decide +kernel
theorem eX7_join_171 : decode (zYb kX7_join) 171 = .ok (.iload_n 1, 1) := by decide +kernel
theorem eX7_join_172 : decode (zYb kX7_join) 172 = .ok (.iload_n 2, 1) := by decide +kernel
theorem eX7_join_173 : decode (zYb kX7_join) 173 = .ok (.if_icmp .ge 9, 3) := by decide +kernel
theorem eX7_join_176 : decode (zYb kX7_join) 176 = .ok (.iload_n 2, 1) := by decide +kernel
theorem eX7_join_177 : decode (zYb kX7_join) 177 = .ok (.iconst 1, 1) := by decide +kernel
theorem eX7_join_178 : decode (zYb kX7_join) 178 = .ok (.isub, 1) := by decide +kernel
theorem eX7_join_179 : decode (zYb kX7_join) 179 = .ok (.goto 4, 3) := by decide +kernel
theorem eX7_join_182 : decode (zYb kX7_join) 182 = .ok (.iload_n 2, 1) := by decide +kernel
theorem eX7_join_183 : decode (zYb kX7_join) 183 = .ok (.ireturn, 1) := by decide +kernel
theorem eX7_sameBothWays_0 : decode (zYb kX7_sameBothWays) 0 = .ok (.iconst 0, 1) := by decide +kernel
theorem eX7_sameBothWays_1 : decode (zYb kX7_sameBothWays) 1 = .ok (.istore_n 2, 1) := by decide +kernel
theorem eX7_sameBothWays_2 : decode (zYb kX7_sameBothWays) 2 = .ok (.iconst 0, 1) := by decide +kernel
theorem eX7_sameBothWays_3 : decode (zYb kX7_sameBothWays) 3 = .ok (.istore_n 3, 1) := by decide +kernel
theorem eX7_sameBothWays_4 : decode (zYb kX7_sameBothWays) 4 = .ok (.iload_n 3, 1) := by decide +kernel
theorem eX7_sameBothWays_5 : decode (zYb kX7_sameBothWays) 5 = .ok (.aload_n 0, 1) := by decide +kernel
theorem eX7_sameBothWays_6 : decode (zYb kX7_sameBothWays) 6 = .ok (.iload_n 1, 1) := by decide +kernel
theorem eX7_sameBothWays_7 : decode (zYb kX7_sameBothWays) 7 = .ok (.iconst 0, 1) := by decide +kernel
theorem eX7_sameBothWays_8 : decode (zYb kX7_sameBothWays) 8 = .ok (.invokevirtual 62, 3) := by decide +kernel
theorem eX7_sameBothWays_11 : decode (zYb kX7_sameBothWays) 11 = .ok (.if_icmp .ge 117, 3) := by decide +kernel
theorem eX7_sameBothWays_14 : decode (zYb kX7_sameBothWays) 14 = .ok (.aload_n 0, 1) := by decide +kernel
theorem eX7_sameBothWays_15 : decode (zYb kX7_sameBothWays) 15 = .ok (.iload_n 1, 1) := by decide +kernel
theorem eX7_sameBothWays_16 : decode (zYb kX7_sameBothWays) 16 = .ok (.iconst 1, 1) := by decide +kernel
theorem eX7_sameBothWays_17 : decode (zYb kX7_sameBothWays) 17 = .ok (.iload_n 3, 1) := by decide +kernel
theorem eX7_sameBothWays_18 : decode (zYb kX7_sameBothWays) 18 = .ok (.iadd, 1) := by decide +kernel
theorem eX7_sameBothWays_19 : decode (zYb kX7_sameBothWays) 19 = .ok (.invokevirtual 62, 3) := by decide +kernel
theorem eX7_sameBothWays_22 : decode (zYb kX7_sameBothWays) 22 = .ok (.aload_n 0, 1) := by decide +kernel
theorem eX7_sameBothWays_23 : decode (zYb kX7_sameBothWays) 23 = .ok (.iload_n 1, 1) := by decide +kernel
theorem eX7_sameBothWays_24 : decode (zYb kX7_sameBothWays) 24 = .ok (.iconst 1, 1) := by decide +kernel
theorem eX7_sameBothWays_25 : decode (zYb kX7_sameBothWays) 25 = .ok (.iload_n 3, 1) := by decide +kernel
theorem eX7_sameBothWays_26 : decode (zYb kX7_sameBothWays) 26 = .ok (.iadd, 1) := by decide +kernel
theorem eX7_sameBothWays_27 : decode (zYb kX7_sameBothWays) 27 = .ok (.iconst 1, 1) := by decide +kernel
theorem eX7_sameBothWays_28 : decode (zYb kX7_sameBothWays) 28 = .ok (.iadd, 1) := by decide +kernel
theorem eX7_sameBothWays_29 : decode (zYb kX7_sameBothWays) 29 = .ok (.invokevirtual 62, 3) := by decide +kernel
theorem eX7_sameBothWays_32 : decode (zYb kX7_sameBothWays) 32 = .ok (.iadd, 1) := by decide +kernel
theorem eX7_sameBothWays_33 : decode (zYb kX7_sameBothWays) 33 = .ok (.iconst 1, 1) := by decide +kernel
theorem eX7_sameBothWays_34 : decode (zYb kX7_sameBothWays) 34 = .ok (.isub, 1) := by decide +kernel
theorem eX7_sameBothWays_35 : decode (zYb kX7_sameBothWays) 35 = .ok (.istore 4, 2) := by decide +kernel
theorem eX7_sameBothWays_37 : decode (zYb kX7_sameBothWays) 37 = .ok (.iconst 1, 1) := by decide +kernel
theorem eX7_sameBothWays_38 : decode (zYb kX7_sameBothWays) 38 = .ok (.istore 5, 2) := by decide +kernel
theorem eX7_sameBothWays_40 : decode (zYb kX7_sameBothWays) 40 = .ok (.aload_n 0, 1) := by decide +kernel
theorem eX7_sameBothWays_41 : decode (zYb kX7_sameBothWays) 41 = .ok (.iload_n 1, 1) := by decide +kernel
theorem eX7_sameBothWays_42 : decode (zYb kX7_sameBothWays) 42 = .ok (.iconst 1, 1) := by decide +kernel
theorem eX7_sameBothWays_43 : decode (zYb kX7_sameBothWays) 43 = .ok (.iload_n 3, 1) := by decide +kernel
theorem eX7_sameBothWays_44 : decode (zYb kX7_sameBothWays) 44 = .ok (.iadd, 1) := by decide +kernel
theorem eX7_sameBothWays_45 : decode (zYb kX7_sameBothWays) 45 = .ok (.invokevirtual 62, 3) := by decide +kernel
theorem eX7_sameBothWays_48 : decode (zYb kX7_sameBothWays) 48 = .ok (.istore 6, 2) := by decide +kernel
theorem eX7_sameBothWays_50 : decode (zYb kX7_sameBothWays) 50 = .ok (.iload 6, 2) := by decide +kernel
theorem eX7_sameBothWays_52 : decode (zYb kX7_sameBothWays) 52 = .ok (.aload_n 0, 1) := by decide +kernel
theorem eX7_sameBothWays_53 : decode (zYb kX7_sameBothWays) 53 = .ok (.iload_n 1, 1) := by decide +kernel
theorem eX7_sameBothWays_54 : decode (zYb kX7_sameBothWays) 54 = .ok (.iconst 1, 1) := by decide +kernel
theorem eX7_sameBothWays_55 : decode (zYb kX7_sameBothWays) 55 = .ok (.iload_n 3, 1) := by decide +kernel
theorem eX7_sameBothWays_56 : decode (zYb kX7_sameBothWays) 56 = .ok (.iadd, 1) := by decide +kernel
theorem eX7_sameBothWays_57 : decode (zYb kX7_sameBothWays) 57 = .ok (.iconst 1, 1) := by decide +kernel
theorem eX7_sameBothWays_58 : decode (zYb kX7_sameBothWays) 58 = .ok (.iadd, 1) := by decide +kernel
theorem eX7_sameBothWays_59 : decode (zYb kX7_sameBothWays) 59 = .ok (.invokevirtual 62, 3) := by decide +kernel
theorem eX7_sameBothWays_62 : decode (zYb kX7_sameBothWays) 62 = .ok (.if_icmp .ge 47, 3) := by decide +kernel
theorem eX7_sameBothWays_65 : decode (zYb kX7_sameBothWays) 65 = .ok (.iload 5, 2) := by decide +kernel
theorem eX7_sameBothWays_67 : decode (zYb kX7_sameBothWays) 67 = .ok (.ifCond .eq 33, 3) := by decide +kernel
theorem eX7_sameBothWays_70 : decode (zYb kX7_sameBothWays) 70 = .ok (.aload_n 0, 1) := by decide +kernel
theorem eX7_sameBothWays_71 : decode (zYb kX7_sameBothWays) 71 = .ok (.iload_n 1, 1) := by decide +kernel
theorem eX7_sameBothWays_72 : decode (zYb kX7_sameBothWays) 72 = .ok (.bipush 7, 2) := by decide +kernel
theorem eX7_sameBothWays_74 : decode (zYb kX7_sameBothWays) 74 = .ok (.iload 6, 2) := by decide +kernel
theorem eX7_sameBothWays_76 : decode (zYb kX7_sameBothWays) 76 = .ok (.iadd, 1) := by decide +kernel
theorem eX7_sameBothWays_77 : decode (zYb kX7_sameBothWays) 77 = .ok (.invokevirtual 62, 3) := by decide +kernel
theorem eX7_sameBothWays_80 : decode (zYb kX7_sameBothWays) 80 = .ok (.aload_n 0, 1) := by decide +kernel
theorem eX7_sameBothWays_81 : decode (zYb kX7_sameBothWays) 81 = .ok (.iload_n 1, 1) := by decide +kernel
theorem eX7_sameBothWays_82 : decode (zYb kX7_sameBothWays) 82 = .ok (.bipush 7, 2) := by decide +kernel
theorem eX7_sameBothWays_84 : decode (zYb kX7_sameBothWays) 84 = .ok (.iload 4, 2) := by decide +kernel
theorem eX7_sameBothWays_86 : decode (zYb kX7_sameBothWays) 86 = .ok (.iadd, 1) := by decide +kernel
theorem eX7_sameBothWays_87 : decode (zYb kX7_sameBothWays) 87 = .ok (.iload 6, 2) := by decide +kernel
theorem eX7_sameBothWays_89 : decode (zYb kX7_sameBothWays) 89 = .ok (.isub, 1) := by decide +kernel
theorem eX7_sameBothWays_90 : decode (zYb kX7_sameBothWays) 90 = .ok (.invokevirtual 62, 3) := by decide +kernel
theorem eX7_sameBothWays_93 : decode (zYb kX7_sameBothWays) 93 = .ok (.if_icmp .ne 7, 3) := by decide +kernel
theorem eX7_sameBothWays_96 : decode (zYb kX7_sameBothWays) 96 = .ok (.iconst 1, 1) := by decide +kernel
theorem eX7_sameBothWays_97 : decode (zYb kX7_sameBothWays) 97 = .ok (.goto 4, 3) := by decide +kernel
theorem eX7_sameBothWays_100 : decode (zYb kX7_sameBothWays) 100 = .ok (.iconst 0, 1) := by decide +kernel
theorem eX7_sameBothWays_101 : decode (zYb kX7_sameBothWays) 101 = .ok (.istore 5, 2) := by decide +kernel
theorem eX7_sameBothWays_103 : decode (zYb kX7_sameBothWays) 103 = .ok (.iinc 6 1, 3) := by decide +kernel
theorem eX7_sameBothWays_106 : decode (zYb kX7_sameBothWays) 106 = .ok (.goto (-56), 3) := by decide +kernel
theorem eX7_sameBothWays_109 : decode (zYb kX7_sameBothWays) 109 = .ok (.iload_n 2, 1) := by decide +kernel
theorem eX7_sameBothWays_110 : decode (zYb kX7_sameBothWays) 110 = .ok (.iload 5, 2) := by decide +kernel
theorem eX7_sameBothWays_112 : decode (zYb kX7_sameBothWays) 112 = .ok (.ifCond .eq 7, 3) := by decide +kernel
theorem eX7_sameBothWays_115 : decode (zYb kX7_sameBothWays) 115 = .ok (.iconst 1, 1) := by decide +kernel
theorem eX7_sameBothWays_116 : decode (zYb kX7_sameBothWays) 116 = .ok (.goto 4, 3) := by decide +kernel
theorem eX7_sameBothWays_119 : decode (zYb kX7_sameBothWays) 119 = .ok (.iconst 0, 1) := by decide +kernel
theorem eX7_sameBothWays_120 : decode (zYb kX7_sameBothWays) 120 = .ok (.iadd, 1) := by decide +kernel
theorem eX7_sameBothWays_121 : decode (zYb kX7_sameBothWays) 121 = .ok (.istore_n 2, 1) := by decide +kernel
theorem eX7_sameBothWays_122 : decode (zYb kX7_sameBothWays) 122 = .ok (.iinc 3 1, 3) := by decide +kernel
theorem eX7_sameBothWays_125 : decode (zYb kX7_sameBothWays) 125 = .ok (.goto (-121), 3) := by decide +kernel
theorem eX7_sameBothWays_128 : decode (zYb kX7_sameBothWays) 128 = .ok (.iload_n 2, 1) := by decide +kernel
theorem eX7_sameBothWays_129 : decode (zYb kX7_sameBothWays) 129 = .ok (.ireturn, 1) := by decide +kernel
theorem eX7_sameFromEnds_0 : decode (zYb kX7_sameFromEnds) 0 = .ok (.iconst 0, 1) := by decide +kernel
theorem eX7_sameFromEnds_1 : decode (zYb kX7_sameFromEnds) 1 = .ok (.istore_n 1, 1) := by decide +kernel
theorem eX7_sameFromEnds_2 : decode (zYb kX7_sameFromEnds) 2 = .ok (.iconst 0, 1) := by decide +kernel
theorem eX7_sameFromEnds_3 : decode (zYb kX7_sameFromEnds) 3 = .ok (.istore_n 2, 1) := by decide +kernel
theorem eX7_sameFromEnds_4 : decode (zYb kX7_sameFromEnds) 4 = .ok (.iload_n 2, 1) := by decide +kernel
theorem eX7_sameFromEnds_5 : decode (zYb kX7_sameFromEnds) 5 = .ok (.aload_n 0, 1) := by decide +kernel
theorem eX7_sameFromEnds_6 : decode (zYb kX7_sameFromEnds) 6 = .ok (.getfield 69, 3) := by decide +kernel
theorem eX7_sameFromEnds_9 : decode (zYb kX7_sameFromEnds) 9 = .ok (.if_icmp .ge 75, 3) := by decide +kernel
theorem eX7_sameFromEnds_12 : decode (zYb kX7_sameFromEnds) 12 = .ok (.iconst 1, 1) := by decide +kernel
theorem eX7_sameFromEnds_13 : decode (zYb kX7_sameFromEnds) 13 = .ok (.istore_n 3, 1) := by decide +kernel
theorem eX7_sameFromEnds_14 : decode (zYb kX7_sameFromEnds) 14 = .ok (.iconst 0, 1) := by decide +kernel
theorem eX7_sameFromEnds_15 : decode (zYb kX7_sameFromEnds) 15 = .ok (.istore 4, 2) := by decide +kernel
theorem eX7_sameFromEnds_17 : decode (zYb kX7_sameFromEnds) 17 = .ok (.iload 4, 2) := by decide +kernel
theorem eX7_sameFromEnds_19 : decode (zYb kX7_sameFromEnds) 19 = .ok (.aload_n 0, 1) := by decide +kernel
theorem eX7_sameFromEnds_20 : decode (zYb kX7_sameFromEnds) 20 = .ok (.getfield 72, 3) := by decide +kernel
theorem eX7_sameFromEnds_23 : decode (zYb kX7_sameFromEnds) 23 = .ok (.if_icmp .ge 43, 3) := by decide +kernel
theorem eX7_sameFromEnds_26 : decode (zYb kX7_sameFromEnds) 26 = .ok (.iload_n 3, 1) := by decide +kernel
theorem eX7_sameFromEnds_27 : decode (zYb kX7_sameFromEnds) 27 = .ok (.ifCond .eq 31, 3) := by decide +kernel
theorem eX7_sameFromEnds_30 : decode (zYb kX7_sameFromEnds) 30 = .ok (.aload_n 0, 1) := by decide +kernel
theorem eX7_sameFromEnds_31 : decode (zYb kX7_sameFromEnds) 31 = .ok (.iload_n 2, 1) := by decide +kernel
theorem eX7_sameFromEnds_32 : decode (zYb kX7_sameFromEnds) 32 = .ok (.iload 4, 2) := by decide +kernel
theorem eX7_sameFromEnds_34 : decode (zYb kX7_sameFromEnds) 34 = .ok (.invokevirtual 151, 3) := by decide +kernel
theorem eX7_sameFromEnds_37 : decode (zYb kX7_sameFromEnds) 37 = .ok (.aload_n 0, 1) := by decide +kernel
theorem eX7_sameFromEnds_38 : decode (zYb kX7_sameFromEnds) 38 = .ok (.iload_n 2, 1) := by decide +kernel
theorem eX7_sameFromEnds_39 : decode (zYb kX7_sameFromEnds) 39 = .ok (.aload_n 0, 1) := by decide +kernel
theorem eX7_sameFromEnds_40 : decode (zYb kX7_sameFromEnds) 40 = .ok (.getfield 72, 3) := by decide +kernel
theorem eX7_sameFromEnds_43 : decode (zYb kX7_sameFromEnds) 43 = .ok (.iconst 1, 1) := by decide +kernel
theorem eX7_sameFromEnds_44 : decode (zYb kX7_sameFromEnds) 44 = .ok (.isub, 1) := by decide +kernel
theorem eX7_sameFromEnds_45 : decode (zYb kX7_sameFromEnds) 45 = .ok (.iload 4, 2) := by decide +kernel
theorem eX7_sameFromEnds_47 : decode (zYb kX7_sameFromEnds) 47 = .ok (.isub, 1) := by decide +kernel
theorem eX7_sameFromEnds_48 : decode (zYb kX7_sameFromEnds) 48 = .ok (.invokevirtual 151, 3) := by decide +kernel
theorem eX7_sameFromEnds_51 : decode (zYb kX7_sameFromEnds) 51 = .ok (.if_icmp .ne 7, 3) := by decide +kernel
theorem eX7_sameFromEnds_54 : decode (zYb kX7_sameFromEnds) 54 = .ok (.iconst 1, 1) := by decide +kernel
theorem eX7_sameFromEnds_55 : decode (zYb kX7_sameFromEnds) 55 = .ok (.goto 4, 3) := by decide +kernel
theorem eX7_sameFromEnds_58 : decode (zYb kX7_sameFromEnds) 58 = .ok (.iconst 0, 1) := by decide +kernel
theorem eX7_sameFromEnds_59 : decode (zYb kX7_sameFromEnds) 59 = .ok (.istore_n 3, 1) := by decide +kernel
theorem eX7_sameFromEnds_60 : decode (zYb kX7_sameFromEnds) 60 = .ok (.iinc 4 1, 3) := by decide +kernel
theorem eX7_sameFromEnds_63 : decode (zYb kX7_sameFromEnds) 63 = .ok (.goto (-46), 3) := by decide +kernel
theorem eX7_sameFromEnds_66 : decode (zYb kX7_sameFromEnds) 66 = .ok (.iload_n 1, 1) := by decide +kernel
theorem eX7_sameFromEnds_67 : decode (zYb kX7_sameFromEnds) 67 = .ok (.iload_n 3, 1) := by decide +kernel
theorem eX7_sameFromEnds_68 : decode (zYb kX7_sameFromEnds) 68 = .ok (.ifCond .eq 7, 3) := by decide +kernel
theorem eX7_sameFromEnds_71 : decode (zYb kX7_sameFromEnds) 71 = .ok (.iconst 1, 1) := by decide +kernel
theorem eX7_sameFromEnds_72 : decode (zYb kX7_sameFromEnds) 72 = .ok (.goto 4, 3) := by decide +kernel
theorem eX7_sameFromEnds_75 : decode (zYb kX7_sameFromEnds) 75 = .ok (.iconst 0, 1) := by decide +kernel
theorem eX7_sameFromEnds_76 : decode (zYb kX7_sameFromEnds) 76 = .ok (.iadd, 1) := by decide +kernel
theorem eX7_sameFromEnds_77 : decode (zYb kX7_sameFromEnds) 77 = .ok (.istore_n 1, 1) := by decide +kernel
theorem eX7_sameFromEnds_78 : decode (zYb kX7_sameFromEnds) 78 = .ok (.iinc 2 1, 3) := by decide +kernel
theorem eX7_sameFromEnds_81 : decode (zYb kX7_sameFromEnds) 81 = .ok (.goto (-77), 3) := by decide +kernel
theorem eX7_sameFromEnds_84 : decode (zYb kX7_sameFromEnds) 84 = .ok (.iload_n 1, 1) := by decide +kernel
theorem eX7_sameFromEnds_85 : decode (zYb kX7_sameFromEnds) 85 = .ok (.ireturn, 1) := by decide +kernel
theorem eX7_needlessSeams_0 : decode (zYb kX7_needlessSeams) 0 = .ok (.iconst 0, 1) := by decide +kernel
theorem eX7_needlessSeams_1 : decode (zYb kX7_needlessSeams) 1 = .ok (.istore_n 2, 1) := by decide +kernel
theorem eX7_needlessSeams_2 : decode (zYb kX7_needlessSeams) 2 = .ok (.aload_n 0, 1) := by decide +kernel
theorem eX7_needlessSeams_3 : decode (zYb kX7_needlessSeams) 3 = .ok (.iload_n 1, 1) := by decide +kernel
theorem eX7_needlessSeams_4 : decode (zYb kX7_needlessSeams) 4 = .ok (.invokevirtual 99, 3) := by decide +kernel
theorem eX7_needlessSeams_7 : decode (zYb kX7_needlessSeams) 7 = .ok (.aload_n 0, 1) := by decide +kernel
theorem eX7_needlessSeams_8 : decode (zYb kX7_needlessSeams) 8 = .ok (.invokevirtual 102, 3) := by decide +kernel
theorem eX7_needlessSeams_11 : decode (zYb kX7_needlessSeams) 11 = .ok (.iconst 0, 1) := by decide +kernel
theorem eX7_needlessSeams_12 : decode (zYb kX7_needlessSeams) 12 = .ok (.istore_n 3, 1) := by decide +kernel
theorem eX7_needlessSeams_13 : decode (zYb kX7_needlessSeams) 13 = .ok (.iload_n 3, 1) := by decide +kernel
theorem eX7_needlessSeams_14 : decode (zYb kX7_needlessSeams) 14 = .ok (.aload_n 0, 1) := by decide +kernel
theorem eX7_needlessSeams_15 : decode (zYb kX7_needlessSeams) 15 = .ok (.iload_n 1, 1) := by decide +kernel
theorem eX7_needlessSeams_16 : decode (zYb kX7_needlessSeams) 16 = .ok (.iconst 0, 1) := by decide +kernel
theorem eX7_needlessSeams_17 : decode (zYb kX7_needlessSeams) 17 = .ok (.invokevirtual 62, 3) := by decide +kernel
theorem eX7_needlessSeams_20 : decode (zYb kX7_needlessSeams) 20 = .ok (.iconst 1, 1) := by decide +kernel
theorem eX7_needlessSeams_21 : decode (zYb kX7_needlessSeams) 21 = .ok (.isub, 1) := by decide +kernel
theorem eX7_needlessSeams_22 : decode (zYb kX7_needlessSeams) 22 = .ok (.if_icmp .ge 54, 3) := by decide +kernel
theorem eX7_needlessSeams_25 : decode (zYb kX7_needlessSeams) 25 = .ok (.aload_n 0, 1) := by decide +kernel
theorem eX7_needlessSeams_26 : decode (zYb kX7_needlessSeams) 26 = .ok (.iload_n 1, 1) := by decide +kernel
theorem eX7_needlessSeams_27 : decode (zYb kX7_needlessSeams) 27 = .ok (.invokevirtual 86, 3) := by decide +kernel
theorem eX7_needlessSeams_30 : decode (zYb kX7_needlessSeams) 30 = .ok (.aload_n 0, 1) := by decide +kernel
theorem eX7_needlessSeams_31 : decode (zYb kX7_needlessSeams) 31 = .ok (.iload_n 3, 1) := by decide +kernel
theorem eX7_needlessSeams_32 : decode (zYb kX7_needlessSeams) 32 = .ok (.invokevirtual 148, 3) := by decide +kernel
theorem eX7_needlessSeams_35 : decode (zYb kX7_needlessSeams) 35 = .ok (.aload_n 0, 1) := by decide +kernel
theorem eX7_needlessSeams_36 : decode (zYb kX7_needlessSeams) 36 = .ok (.iconst 1, 1) := by decide +kernel
theorem eX7_needlessSeams_37 : decode (zYb kX7_needlessSeams) 37 = .ok (.invokevirtual 89, 3) := by decide +kernel
theorem eX7_needlessSeams_40 : decode (zYb kX7_needlessSeams) 40 = .ok (.iload_n 2, 1) := by decide +kernel
theorem eX7_needlessSeams_41 : decode (zYb kX7_needlessSeams) 41 = .ok (.aload_n 0, 1) := by decide +kernel
theorem eX7_needlessSeams_42 : decode (zYb kX7_needlessSeams) 42 = .ok (.getfield 69, 3) := by decide +kernel
theorem eX7_needlessSeams_45 : decode (zYb kX7_needlessSeams) 45 = .ok (.aload_n 0, 1) := by decide +kernel
theorem eX7_needlessSeams_46 : decode (zYb kX7_needlessSeams) 46 = .ok (.getfield 93, 3) := by decide +kernel
theorem eX7_needlessSeams_49 : decode (zYb kX7_needlessSeams) 49 = .ok (.if_icmp .ne 18, 3) := by decide +kernel
theorem eX7_needlessSeams_52 : decode (zYb kX7_needlessSeams) 52 = .ok (.aload_n 0, 1) := by decide +kernel
theorem eX7_needlessSeams_53 : decode (zYb kX7_needlessSeams) 53 = .ok (.invokevirtual 105, 3) := by decide +kernel
theorem eX7_needlessSeams_56 : decode (zYb kX7_needlessSeams) 56 = .ok (.aload_n 0, 1) := by decide +kernel
theorem eX7_needlessSeams_57 : decode (zYb kX7_needlessSeams) 57 = .ok (.getfield 69, 3) := by decide +kernel
theorem eX7_needlessSeams_60 : decode (zYb kX7_needlessSeams) 60 = .ok (.if_icmp .ne 7, 3) := by decide +kernel
theorem eX7_needlessSeams_63 : decode (zYb kX7_needlessSeams) 63 = .ok (.iconst 1, 1) := by decide +kernel
theorem eX7_needlessSeams_64 : decode (zYb kX7_needlessSeams) 64 = .ok (.goto 4, 3) := by decide +kernel
theorem eX7_needlessSeams_67 : decode (zYb kX7_needlessSeams) 67 = .ok (.iconst 0, 1) := by decide +kernel
theorem eX7_needlessSeams_68 : decode (zYb kX7_needlessSeams) 68 = .ok (.iadd, 1) := by decide +kernel
theorem eX7_needlessSeams_69 : decode (zYb kX7_needlessSeams) 69 = .ok (.istore_n 2, 1) := by decide +kernel
theorem eX7_needlessSeams_70 : decode (zYb kX7_needlessSeams) 70 = .ok (.iinc 3 1, 3) := by decide +kernel
theorem eX7_needlessSeams_73 : decode (zYb kX7_needlessSeams) 73 = .ok (.goto (-60), 3) := by decide +kernel
theorem eX7_needlessSeams_76 : decode (zYb kX7_needlessSeams) 76 = .ok (.iload_n 2, 1) := by decide +kernel
theorem eX7_needlessSeams_77 : decode (zYb kX7_needlessSeams) 77 = .ok (.ireturn, 1) := by decide +kernel
theorem eX7_scroll_0 : decode (zYb kX7_scroll) 0 = .ok (.aload_n 0, 1) := by decide +kernel
theorem eX7_scroll_1 : decode (zYb kX7_scroll) 1 = .ok (.iload_n 1, 1) := by decide +kernel
theorem eX7_scroll_2 : decode (zYb kX7_scroll) 2 = .ok (.invokevirtual 58, 3) := by decide +kernel
theorem eX7_scroll_5 : decode (zYb kX7_scroll) 5 = .ok (.ifCond .ne 5, 3) := by decide +kernel
theorem eX7_scroll_8 : decode (zYb kX7_scroll) 8 = .ok (.iconst (-1), 1) := by decide +kernel
theorem eX7_scroll_9 : decode (zYb kX7_scroll) 9 = .ok (.ireturn, 1) := by decide +kernel
theorem eX7_scroll_10 : decode (zYb kX7_scroll) 10 = .ok (.iload_n 2, 1) := by decide +kernel
theorem eX7_scroll_11 : decode (zYb kX7_scroll) 11 = .ok (.tableswitch 101 0 6 #[41, 48, 54, 64, 79, 85, 95], 41) := by decide +kernel
theorem eX7_scroll_52 : decode (zYb kX7_scroll) 52 = .ok (.aload_n 0, 1) := by decide +kernel
theorem eX7_scroll_53 : decode (zYb kX7_scroll) 53 = .ok (.iload_n 1, 1) := by decide +kernel
theorem eX7_scroll_54 : decode (zYb kX7_scroll) 54 = .ok (.iconst 0, 1) := by decide +kernel
theorem eX7_scroll_55 : decode (zYb kX7_scroll) 55 = .ok (.invokevirtual 62, 3) := by decide +kernel
theorem eX7_scroll_58 : decode (zYb kX7_scroll) 58 = .ok (.ireturn, 1) := by decide +kernel
theorem eX7_scroll_59 : decode (zYb kX7_scroll) 59 = .ok (.aload_n 0, 1) := by decide +kernel
theorem eX7_scroll_60 : decode (zYb kX7_scroll) 60 = .ok (.iload_n 1, 1) := by decide +kernel
theorem eX7_scroll_61 : decode (zYb kX7_scroll) 61 = .ok (.invokevirtual 128, 3) := by decide +kernel
theorem eX7_scroll_64 : decode (zYb kX7_scroll) 64 = .ok (.ireturn, 1) := by decide +kernel
theorem eX7_scroll_65 : decode (zYb kX7_scroll) 65 = .ok (.aload_n 0, 1) := by decide +kernel
theorem eX7_scroll_66 : decode (zYb kX7_scroll) 66 = .ok (.iload_n 1, 1) := by decide +kernel
theorem eX7_scroll_67 : decode (zYb kX7_scroll) 67 = .ok (.invokevirtual 99, 3) := by decide +kernel
theorem eX7_scroll_70 : decode (zYb kX7_scroll) 70 = .ok (.aload_n 0, 1) := by decide +kernel
theorem eX7_scroll_71 : decode (zYb kX7_scroll) 71 = .ok (.getfield 69, 3) := by decide +kernel
theorem eX7_scroll_74 : decode (zYb kX7_scroll) 74 = .ok (.ireturn, 1) := by decide +kernel
theorem eX7_scroll_75 : decode (zYb kX7_scroll) 75 = .ok (.aload_n 0, 1) := by decide +kernel
theorem eX7_scroll_76 : decode (zYb kX7_scroll) 76 = .ok (.iload_n 1, 1) := by decide +kernel
theorem eX7_scroll_77 : decode (zYb kX7_scroll) 77 = .ok (.invokevirtual 86, 3) := by decide +kernel
theorem eX7_scroll_80 : decode (zYb kX7_scroll) 80 = .ok (.aload_n 0, 1) := by decide +kernel
theorem eX7_scroll_81 : decode (zYb kX7_scroll) 81 = .ok (.iconst 0, 1) := by decide +kernel
theorem eX7_scroll_82 : decode (zYb kX7_scroll) 82 = .ok (.invokevirtual 89, 3) := by decide +kernel
theorem eX7_scroll_85 : decode (zYb kX7_scroll) 85 = .ok (.aload_n 0, 1) := by decide +kernel
theorem eX7_scroll_86 : decode (zYb kX7_scroll) 86 = .ok (.getfield 69, 3) := by decide +kernel
theorem eX7_scroll_89 : decode (zYb kX7_scroll) 89 = .ok (.ireturn, 1) := by decide +kernel
theorem eX7_scroll_90 : decode (zYb kX7_scroll) 90 = .ok (.aload_n 0, 1) := by decide +kernel
theorem eX7_scroll_91 : decode (zYb kX7_scroll) 91 = .ok (.iload_n 1, 1) := by decide +kernel
theorem eX7_scroll_92 : decode (zYb kX7_scroll) 92 = .ok (.invokevirtual 154, 3) := by decide +kernel
theorem eX7_scroll_95 : decode (zYb kX7_scroll) 95 = .ok (.ireturn, 1) := by decide +kernel
theorem eX7_scroll_96 : decode (zYb kX7_scroll) 96 = .ok (.aload_n 0, 1) := by decide +kernel
theorem eX7_scroll_97 : decode (zYb kX7_scroll) 97 = .ok (.iload_n 1, 1) := by decide +kernel
theorem eX7_scroll_98 : decode (zYb kX7_scroll) 98 = .ok (.invokevirtual 99, 3) := by decide +kernel
theorem eX7_scroll_101 : decode (zYb kX7_scroll) 101 = .ok (.aload_n 0, 1) := by decide +kernel
theorem eX7_scroll_102 : decode (zYb kX7_scroll) 102 = .ok (.invokevirtual 157, 3) := by decide +kernel
theorem eX7_scroll_105 : decode (zYb kX7_scroll) 105 = .ok (.ireturn, 1) := by decide +kernel
theorem eX7_scroll_106 : decode (zYb kX7_scroll) 106 = .ok (.aload_n 0, 1) := by decide +kernel
theorem eX7_scroll_107 : decode (zYb kX7_scroll) 107 = .ok (.iload_n 1, 1) := by decide +kernel
theorem eX7_scroll_108 : decode (zYb kX7_scroll) 108 = .ok (.invokevirtual 160, 3) := by decide +kernel
theorem eX7_scroll_111 : decode (zYb kX7_scroll) 111 = .ok (.ireturn, 1) := by decide +kernel
theorem eX7_scroll_112 : decode (zYb kX7_scroll) 112 = .ok (.bipush (-2), 2) := by decide +kernel
theorem eX7_scroll_114 : decode (zYb kX7_scroll) 114 = .ok (.ireturn, 1) := by decide +kernel
theorem eX7_patch_0 : decode (zYb kX7_patch) 0 = .ok (.aload_n 0, 1) := by decide +kernel
theorem eX7_patch_1 : decode (zYb kX7_patch) 1 = .ok (.iload_n 1, 1) := by decide +kernel
theorem eX7_patch_2 : decode (zYb kX7_patch) 2 = .ok (.iload_n 2, 1) := by decide +kernel
theorem eX7_patch_3 : decode (zYb kX7_patch) 3 = .ok (.invokevirtual 134, 3) := by decide +kernel
theorem eX7_patch_6 : decode (zYb kX7_patch) 6 = .ok (.ifCond .eq 12, 3) := by decide +kernel
theorem eX7_patch_9 : decode (zYb kX7_patch) 9 = .ok (.aload_n 0, 1) := by decide +kernel
theorem eX7_patch_10 : decode (zYb kX7_patch) 10 = .ok (.iload_n 1, 1) := by decide +kernel
theorem eX7_patch_11 : decode (zYb kX7_patch) 11 = .ok (.iload_n 2, 1) := by decide +kernel
theorem eX7_patch_12 : decode (zYb kX7_patch) 12 = .ok (.invokevirtual 138, 3) := by decide +kernel
theorem eX7_patch_15 : decode (zYb kX7_patch) 15 = .ok (.goto 4, 3) := by decide +kernel
theorem eX7_patch_18 : decode (zYb kX7_patch) 18 = .ok (.iconst (-1), 1) := by decide +kernel
theorem eX7_patch_19 : decode (zYb kX7_patch) 19 = .ok (.ireturn, 1) := by decide +kernel
theorem eX7_letter_0 : decode (zYb kX7_letter) 0 = .ok (.aload_n 0, 1) := by decide +kernel
theorem eX7_letter_1 : decode (zYb kX7_letter) 1 = .ok (.iload_n 1, 1) := by decide +kernel
theorem eX7_letter_2 : decode (zYb kX7_letter) 2 = .ok (.iload_n 2, 1) := by decide +kernel
theorem eX7_letter_3 : decode (zYb kX7_letter) 3 = .ok (.invokevirtual 134, 3) := by decide +kernel
theorem eX7_letter_6 : decode (zYb kX7_letter) 6 = .ok (.ifCond .eq 40, 3) := by decide +kernel
theorem eX7_letter_9 : decode (zYb kX7_letter) 9 = .ok (.iload_n 3, 1) := by decide +kernel
theorem eX7_letter_10 : decode (zYb kX7_letter) 10 = .ok (.iconst 0, 1) := by decide +kernel
theorem eX7_letter_11 : decode (zYb kX7_letter) 11 = .ok (.aload_n 0, 1) := by decide +kernel
theorem eX7_letter_12 : decode (zYb kX7_letter) 12 = .ok (.iload_n 1, 1) := by decide +kernel
theorem eX7_letter_13 : decode (zYb kX7_letter) 13 = .ok (.iload_n 2, 1) := by decide +kernel
theorem eX7_letter_14 : decode (zYb kX7_letter) 14 = .ok (.invokevirtual 138, 3) := by decide +kernel
theorem eX7_letter_17 : decode (zYb kX7_letter) 17 = .ok (.iconst 1, 1) := by decide +kernel
theorem eX7_letter_18 : decode (zYb kX7_letter) 18 = .ok (.isub, 1) := by decide +kernel
theorem eX7_letter_19 : decode (zYb kX7_letter) 19 = .ok (.invokestatic 54, 3) := by decide +kernel
theorem eX7_letter_22 : decode (zYb kX7_letter) 22 = .ok (.ifCond .eq 24, 3) := by decide +kernel
theorem eX7_letter_25 : decode (zYb kX7_letter) 25 = .ok (.aload_n 0, 1) := by decide +kernel
theorem eX7_letter_26 : decode (zYb kX7_letter) 26 = .ok (.iload_n 1, 1) := by decide +kernel
theorem eX7_letter_27 : decode (zYb kX7_letter) 27 = .ok (.bipush 7, 2) := by decide +kernel
theorem eX7_letter_29 : decode (zYb kX7_letter) 29 = .ok (.aload_n 0, 1) := by decide +kernel
theorem eX7_letter_30 : decode (zYb kX7_letter) 30 = .ok (.iload_n 1, 1) := by decide +kernel
theorem eX7_letter_31 : decode (zYb kX7_letter) 31 = .ok (.iconst 1, 1) := by decide +kernel
theorem eX7_letter_32 : decode (zYb kX7_letter) 32 = .ok (.iload_n 2, 1) := by decide +kernel
theorem eX7_letter_33 : decode (zYb kX7_letter) 33 = .ok (.iadd, 1) := by decide +kernel
theorem eX7_letter_34 : decode (zYb kX7_letter) 34 = .ok (.invokevirtual 62, 3) := by decide +kernel
theorem eX7_letter_37 : decode (zYb kX7_letter) 37 = .ok (.iadd, 1) := by decide +kernel
theorem eX7_letter_38 : decode (zYb kX7_letter) 38 = .ok (.iload_n 3, 1) := by decide +kernel
theorem eX7_letter_39 : decode (zYb kX7_letter) 39 = .ok (.iadd, 1) := by decide +kernel
theorem eX7_letter_40 : decode (zYb kX7_letter) 40 = .ok (.invokevirtual 62, 3) := by decide +kernel
theorem eX7_letter_43 : decode (zYb kX7_letter) 43 = .ok (.goto 4, 3) := by decide +kernel
theorem eX7_letter_46 : decode (zYb kX7_letter) 46 = .ok (.iconst (-1), 1) := by decide +kernel
theorem eX7_letter_47 : decode (zYb kX7_letter) 47 = .ok (.ireturn, 1) := by decide +kernel
theorem eX7_reading_0 : decode (zYb kX7_reading) 0 = .ok (.aload_n 0, 1) := by decide +kernel
theorem eX7_reading_1 : decode (zYb kX7_reading) 1 = .ok (.iload_n 1, 1) := by decide +kernel
theorem eX7_reading_2 : decode (zYb kX7_reading) 2 = .ok (.invokevirtual 58, 3) := by decide +kernel
theorem eX7_reading_5 : decode (zYb kX7_reading) 5 = .ok (.ifCond .ne 5, 3) := by decide +kernel
theorem eX7_reading_8 : decode (zYb kX7_reading) 8 = .ok (.iconst (-1), 1) := by decide +kernel
theorem eX7_reading_9 : decode (zYb kX7_reading) 9 = .ok (.ireturn, 1) := by decide +kernel
theorem eX7_reading_10 : decode (zYb kX7_reading) 10 = .ok (.aload_n 0, 1) := by decide +kernel
theorem eX7_reading_11 : decode (zYb kX7_reading) 11 = .ok (.iload_n 1, 1) := by decide +kernel
theorem eX7_reading_12 : decode (zYb kX7_reading) 12 = .ok (.invokevirtual 99, 3) := by decide +kernel
theorem eX7_reading_15 : decode (zYb kX7_reading) 15 = .ok (.iload_n 2, 1) := by decide +kernel
theorem eX7_reading_16 : decode (zYb kX7_reading) 16 = .ok (.iconst 0, 1) := by decide +kernel
theorem eX7_reading_17 : decode (zYb kX7_reading) 17 = .ok (.aload_n 0, 1) := by decide +kernel
theorem eX7_reading_18 : decode (zYb kX7_reading) 18 = .ok (.getfield 69, 3) := by decide +kernel
theorem eX7_reading_21 : decode (zYb kX7_reading) 21 = .ok (.iconst 1, 1) := by decide +kernel
theorem eX7_reading_22 : decode (zYb kX7_reading) 22 = .ok (.isub, 1) := by decide +kernel
theorem eX7_reading_23 : decode (zYb kX7_reading) 23 = .ok (.invokestatic 54, 3) := by decide +kernel
theorem eX7_reading_26 : decode (zYb kX7_reading) 26 = .ok (.ifCond .eq 26, 3) := by decide +kernel
theorem eX7_reading_29 : decode (zYb kX7_reading) 29 = .ok (.iload_n 3, 1) := by decide +kernel
theorem eX7_reading_30 : decode (zYb kX7_reading) 30 = .ok (.iconst 0, 1) := by decide +kernel
theorem eX7_reading_31 : decode (zYb kX7_reading) 31 = .ok (.aload_n 0, 1) := by decide +kernel
theorem eX7_reading_32 : decode (zYb kX7_reading) 32 = .ok (.getfield 72, 3) := by decide +kernel
theorem eX7_reading_35 : decode (zYb kX7_reading) 35 = .ok (.iconst 1, 1) := by decide +kernel
theorem eX7_reading_36 : decode (zYb kX7_reading) 36 = .ok (.isub, 1) := by decide +kernel
theorem eX7_reading_37 : decode (zYb kX7_reading) 37 = .ok (.invokestatic 54, 3) := by decide +kernel
theorem eX7_reading_40 : decode (zYb kX7_reading) 40 = .ok (.ifCond .eq 12, 3) := by decide +kernel
theorem eX7_reading_43 : decode (zYb kX7_reading) 43 = .ok (.aload_n 0, 1) := by decide +kernel
theorem eX7_reading_44 : decode (zYb kX7_reading) 44 = .ok (.iload_n 2, 1) := by decide +kernel
theorem eX7_reading_45 : decode (zYb kX7_reading) 45 = .ok (.iload_n 3, 1) := by decide +kernel
theorem eX7_reading_46 : decode (zYb kX7_reading) 46 = .ok (.invokevirtual 151, 3) := by decide +kernel
theorem eX7_reading_49 : decode (zYb kX7_reading) 49 = .ok (.goto 4, 3) := by decide +kernel
theorem eX7_reading_52 : decode (zYb kX7_reading) 52 = .ok (.iconst (-1), 1) := by decide +kernel
theorem eX7_reading_53 : decode (zYb kX7_reading) 53 = .ok (.ireturn, 1) := by decide +kernel
theorem eX7_isWord_0 : decode (zYb kX7_isWord) 0 = .ok (.aload_n 0, 1) := by decide +kernel
theorem eX7_isWord_1 : decode (zYb kX7_isWord) 1 = .ok (.getfield 109, 3) := by decide +kernel
theorem eX7_isWord_4 : decode (zYb kX7_isWord) 4 = .ok (.iconst 1, 1) := by decide +kernel
theorem eX7_isWord_5 : decode (zYb kX7_isWord) 5 = .ok (.bipush 12, 2) := by decide +kernel
theorem eX7_isWord_7 : decode (zYb kX7_isWord) 7 = .ok (.invokestatic 54, 3) := by decide +kernel
theorem eX7_isWord_10 : decode (zYb kX7_isWord) 10 = .ok (.istore_n 1, 1) := by decide +kernel
theorem eX7_isWord_11 : decode (zYb kX7_isWord) 11 = .ok (.iconst 0, 1) := by decide +kernel
theorem eX7_isWord_12 : decode (zYb kX7_isWord) 12 = .ok (.istore_n 2, 1) := by decide +kernel
theorem eX7_isWord_13 : decode (zYb kX7_isWord) 13 = .ok (.iload_n 2, 1) := by decide +kernel
theorem eX7_isWord_14 : decode (zYb kX7_isWord) 14 = .ok (.aload_n 0, 1) := by decide +kernel
theorem eX7_isWord_15 : decode (zYb kX7_isWord) 15 = .ok (.getfield 109, 3) := by decide +kernel
theorem eX7_isWord_18 : decode (zYb kX7_isWord) 18 = .ok (.if_icmp .ge 35, 3) := by decide +kernel
theorem eX7_isWord_21 : decode (zYb kX7_isWord) 21 = .ok (.iload_n 1, 1) := by decide +kernel
theorem eX7_isWord_22 : decode (zYb kX7_isWord) 22 = .ok (.ifCond .eq 23, 3) := by decide +kernel
theorem eX7_isWord_25 : decode (zYb kX7_isWord) 25 = .ok (.aload_n 0, 1) := by decide +kernel
theorem eX7_isWord_26 : decode (zYb kX7_isWord) 26 = .ok (.getfield 22, 3) := by decide +kernel
theorem eX7_isWord_29 : decode (zYb kX7_isWord) 29 = .ok (.iload_n 2, 1) := by decide +kernel
theorem eX7_isWord_30 : decode (zYb kX7_isWord) 30 = .ok (.iaload, 1) := by decide +kernel
theorem eX7_isWord_31 : decode (zYb kX7_isWord) 31 = .ok (.bipush 97, 2) := by decide +kernel
theorem eX7_isWord_33 : decode (zYb kX7_isWord) 33 = .ok (.bipush 122, 2) := by decide +kernel
theorem eX7_isWord_35 : decode (zYb kX7_isWord) 35 = .ok (.invokestatic 54, 3) := by decide +kernel
theorem eX7_isWord_38 : decode (zYb kX7_isWord) 38 = .ok (.ifCond .eq 7, 3) := by decide +kernel
theorem eX7_isWord_41 : decode (zYb kX7_isWord) 41 = .ok (.iconst 1, 1) := by decide +kernel
theorem eX7_isWord_42 : decode (zYb kX7_isWord) 42 = .ok (.goto 4, 3) := by decide +kernel
theorem eX7_isWord_45 : decode (zYb kX7_isWord) 45 = .ok (.iconst 0, 1) := by decide +kernel
theorem eX7_isWord_46 : decode (zYb kX7_isWord) 46 = .ok (.istore_n 1, 1) := by decide +kernel
theorem eX7_isWord_47 : decode (zYb kX7_isWord) 47 = .ok (.iinc 2 1, 3) := by decide +kernel
theorem eX7_isWord_50 : decode (zYb kX7_isWord) 50 = .ok (.goto (-37), 3) := by decide +kernel
theorem eX7_isWord_53 : decode (zYb kX7_isWord) 53 = .ok (.iload_n 1, 1) := by decide +kernel
theorem eX7_isWord_54 : decode (zYb kX7_isWord) 54 = .ok (.ireturn, 1) := by decide +kernel
theorem eX7_placeIn_0 : decode (zYb kX7_placeIn) 0 = .ok (.iconst 0, 1) := by decide +kernel
theorem eX7_placeIn_1 : decode (zYb kX7_placeIn) 1 = .ok (.istore_n 2, 1) := by decide +kernel
theorem eX7_placeIn_2 : decode (zYb kX7_placeIn) 2 = .ok (.iload_n 2, 1) := by decide +kernel
theorem eX7_placeIn_3 : decode (zYb kX7_placeIn) 3 = .ok (.aload_n 0, 1) := by decide +kernel
theorem eX7_placeIn_4 : decode (zYb kX7_placeIn) 4 = .ok (.getfield 109, 3) := by decide +kernel
theorem eX7_placeIn_7 : decode (zYb kX7_placeIn) 7 = .ok (.iadd, 1) := by decide +kernel
theorem eX7_placeIn_8 : decode (zYb kX7_placeIn) 8 = .ok (.aload_n 0, 1) := by decide +kernel
theorem eX7_placeIn_9 : decode (zYb kX7_placeIn) 9 = .ok (.getfield 72, 3) := by decide +kernel
theorem eX7_placeIn_12 : decode (zYb kX7_placeIn) 12 = .ok (.if_icmp .gt 67, 3) := by decide +kernel
theorem eX7_placeIn_15 : decode (zYb kX7_placeIn) 15 = .ok (.iconst 1, 1) := by decide +kernel
theorem eX7_placeIn_16 : decode (zYb kX7_placeIn) 16 = .ok (.istore_n 3, 1) := by decide +kernel
theorem eX7_placeIn_17 : decode (zYb kX7_placeIn) 17 = .ok (.iconst 0, 1) := by decide +kernel
theorem eX7_placeIn_18 : decode (zYb kX7_placeIn) 18 = .ok (.istore 4, 2) := by decide +kernel
theorem eX7_placeIn_20 : decode (zYb kX7_placeIn) 20 = .ok (.iload 4, 2) := by decide +kernel
theorem eX7_placeIn_22 : decode (zYb kX7_placeIn) 22 = .ok (.aload_n 0, 1) := by decide +kernel
theorem eX7_placeIn_23 : decode (zYb kX7_placeIn) 23 = .ok (.getfield 109, 3) := by decide +kernel
theorem eX7_placeIn_26 : decode (zYb kX7_placeIn) 26 = .ok (.if_icmp .ge 41, 3) := by decide +kernel
theorem eX7_placeIn_29 : decode (zYb kX7_placeIn) 29 = .ok (.iload_n 3, 1) := by decide +kernel
theorem eX7_placeIn_30 : decode (zYb kX7_placeIn) 30 = .ok (.ifCond .eq 29, 3) := by decide +kernel
theorem eX7_placeIn_33 : decode (zYb kX7_placeIn) 33 = .ok (.aload_n 0, 1) := by decide +kernel
theorem eX7_placeIn_34 : decode (zYb kX7_placeIn) 34 = .ok (.iload_n 1, 1) := by decide +kernel
theorem eX7_placeIn_35 : decode (zYb kX7_placeIn) 35 = .ok (.iload_n 2, 1) := by decide +kernel
theorem eX7_placeIn_36 : decode (zYb kX7_placeIn) 36 = .ok (.iload 4, 2) := by decide +kernel
theorem eX7_placeIn_38 : decode (zYb kX7_placeIn) 38 = .ok (.iadd, 1) := by decide +kernel
theorem eX7_placeIn_39 : decode (zYb kX7_placeIn) 39 = .ok (.invokevirtual 151, 3) := by decide +kernel
theorem eX7_placeIn_42 : decode (zYb kX7_placeIn) 42 = .ok (.aload_n 0, 1) := by decide +kernel
theorem eX7_placeIn_43 : decode (zYb kX7_placeIn) 43 = .ok (.getfield 22, 3) := by decide +kernel
theorem eX7_placeIn_46 : decode (zYb kX7_placeIn) 46 = .ok (.iload 4, 2) := by decide +kernel
theorem eX7_placeIn_48 : decode (zYb kX7_placeIn) 48 = .ok (.iaload, 1) := by decide +kernel
theorem eX7_placeIn_49 : decode (zYb kX7_placeIn) 49 = .ok (.bipush 97, 2) := by decide +kernel
theorem eX7_placeIn_51 : decode (zYb kX7_placeIn) 51 = .ok (.isub, 1) := by decide +kernel
theorem eX7_placeIn_52 : decode (zYb kX7_placeIn) 52 = .ok (.if_icmp .ne 7, 3) := by decide +kernel
theorem eX7_placeIn_55 : decode (zYb kX7_placeIn) 55 = .ok (.iconst 1, 1) := by decide +kernel
theorem eX7_placeIn_56 : decode (zYb kX7_placeIn) 56 = .ok (.goto 4, 3) := by decide +kernel
theorem eX7_placeIn_59 : decode (zYb kX7_placeIn) 59 = .ok (.iconst 0, 1) := by decide +kernel
theorem eX7_placeIn_60 : decode (zYb kX7_placeIn) 60 = .ok (.istore_n 3, 1) := by decide +kernel
theorem eX7_placeIn_61 : decode (zYb kX7_placeIn) 61 = .ok (.iinc 4 1, 3) := by decide +kernel
theorem eX7_placeIn_64 : decode (zYb kX7_placeIn) 64 = .ok (.goto (-44), 3) := by decide +kernel
theorem eX7_placeIn_67 : decode (zYb kX7_placeIn) 67 = .ok (.iload_n 3, 1) := by decide +kernel
theorem eX7_placeIn_68 : decode (zYb kX7_placeIn) 68 = .ok (.ifCond .eq 5, 3) := by decide +kernel
theorem eX7_placeIn_71 : decode (zYb kX7_placeIn) 71 = .ok (.iload_n 2, 1) := by decide +kernel
theorem eX7_placeIn_72 : decode (zYb kX7_placeIn) 72 = .ok (.ireturn, 1) := by decide +kernel
theorem eX7_placeIn_73 : decode (zYb kX7_placeIn) 73 = .ok (.iinc 2 1, 3) := by decide +kernel
theorem eX7_placeIn_76 : decode (zYb kX7_placeIn) 76 = .ok (.goto (-74), 3) := by decide +kernel
theorem eX7_placeIn_79 : decode (zYb kX7_placeIn) 79 = .ok (.bipush (-6), 2) := by decide +kernel
theorem eX7_placeIn_81 : decode (zYb kX7_placeIn) 81 = .ok (.ireturn, 1) := by decide +kernel
theorem eX7_find_0 : decode (zYb kX7_find) 0 = .ok (.aload_n 0, 1) := by decide +kernel
theorem eX7_find_1 : decode (zYb kX7_find) 1 = .ok (.iload_n 1, 1) := by decide +kernel
theorem eX7_find_2 : decode (zYb kX7_find) 2 = .ok (.invokevirtual 58, 3) := by decide +kernel
theorem eX7_find_5 : decode (zYb kX7_find) 5 = .ok (.ifCond .ne 5, 3) := by decide +kernel
theorem eX7_find_8 : decode (zYb kX7_find) 8 = .ok (.iconst (-1), 1) := by decide +kernel
theorem eX7_find_9 : decode (zYb kX7_find) 9 = .ok (.ireturn, 1) := by decide +kernel
theorem eX7_find_10 : decode (zYb kX7_find) 10 = .ok (.iload_n 2, 1) := by decide +kernel
theorem eX7_find_11 : decode (zYb kX7_find) 11 = .ok (.iconst 0, 1) := by decide +kernel
theorem eX7_find_12 : decode (zYb kX7_find) 12 = .ok (.iconst 3, 1) := by decide +kernel
theorem eX7_find_13 : decode (zYb kX7_find) 13 = .ok (.invokestatic 54, 3) := by decide +kernel
theorem eX7_find_16 : decode (zYb kX7_find) 16 = .ok (.ifCond .ne 6, 3) := by decide +kernel
theorem eX7_find_19 : decode (zYb kX7_find) 19 = .ok (.bipush (-2), 2) := by decide +kernel
theorem eX7_find_21 : decode (zYb kX7_find) 21 = .ok (.ireturn, 1) := by decide +kernel
theorem eX7_find_22 : decode (zYb kX7_find) 22 = .ok (.aload_n 0, 1) := by decide +kernel
theorem eX7_find_23 : decode (zYb kX7_find) 23 = .ok (.invokevirtual 163, 3) := by decide +kernel
theorem eX7_find_26 : decode (zYb kX7_find) 26 = .ok (.ifCond .ne 6, 3) := by decide +kernel
theorem eX7_find_29 : decode (zYb kX7_find) 29 = .ok (.bipush (-3), 2) := by decide +kernel
theorem eX7_find_31 : decode (zYb kX7_find) 31 = .ok (.ireturn, 1) := by decide +kernel
theorem eX7_find_32 : decode (zYb kX7_find) 32 = .ok (.aload_n 0, 1) := by decide +kernel
theorem eX7_find_33 : decode (zYb kX7_find) 33 = .ok (.iload_n 1, 1) := by decide +kernel
theorem eX7_find_34 : decode (zYb kX7_find) 34 = .ok (.invokevirtual 99, 3) := by decide +kernel
theorem eX7_find_37 : decode (zYb kX7_find) 37 = .ok (.iconst 0, 1) := by decide +kernel
theorem eX7_find_38 : decode (zYb kX7_find) 38 = .ok (.istore_n 3, 1) := by decide +kernel
theorem eX7_find_39 : decode (zYb kX7_find) 39 = .ok (.bipush (-6), 2) := by decide +kernel
theorem eX7_find_41 : decode (zYb kX7_find) 41 = .ok (.istore 4, 2) := by decide +kernel
theorem eX7_find_43 : decode (zYb kX7_find) 43 = .ok (.aload_n 0, 1) := by decide +kernel
theorem eX7_find_44 : decode (zYb kX7_find) 44 = .ok (.getfield 69, 3) := by decide +kernel
theorem eX7_find_47 : decode (zYb kX7_find) 47 = .ok (.iconst 1, 1) := by decide +kernel
theorem eX7_find_48 : decode (zYb kX7_find) 48 = .ok (.isub, 1) := by decide +kernel
theorem eX7_find_49 : decode (zYb kX7_find) 49 = .ok (.istore 5, 2) := by decide +kernel
theorem eX7_find_51 : decode (zYb kX7_find) 51 = .ok (.iload 5, 2) := by decide +kernel
theorem eX7_find_53 : decode (zYb kX7_find) 53 = .ok (.ifCond .lt 54, 3) := by decide +kernel
theorem eX7_find_56 : decode (zYb kX7_find) 56 = .ok (.aload_n 0, 1) := by decide +kernel
theorem eX7_find_57 : decode (zYb kX7_find) 57 = .ok (.iload 5, 2) := by decide +kernel
theorem eX7_find_59 : decode (zYb kX7_find) 59 = .ok (.invokevirtual 167, 3) := by decide +kernel
theorem eX7_find_62 : decode (zYb kX7_find) 62 = .ok (.bipush (-6), 2) := by decide +kernel
theorem eX7_find_64 : decode (zYb kX7_find) 64 = .ok (.if_icmp .eq 7, 3) := by decide +kernel
theorem eX7_find_67 : decode (zYb kX7_find) 67 = .ok (.iconst 1, 1) := by decide +kernel
theorem eX7_find_68 : decode (zYb kX7_find) 68 = .ok (.goto 4, 3) := by decide +kernel
theorem eX7_find_71 : decode (zYb kX7_find) 71 = .ok (.iconst 0, 1) := by decide +kernel
theorem eX7_find_72 : decode (zYb kX7_find) 72 = .ok (.istore 6, 2) := by decide +kernel
theorem eX7_find_74 : decode (zYb kX7_find) 74 = .ok (.iload_n 3, 1) := by decide +kernel
theorem eX7_find_75 : decode (zYb kX7_find) 75 = .ok (.iload 6, 2) := by decide +kernel
theorem eX7_find_77 : decode (zYb kX7_find) 77 = .ok (.ifCond .eq 7, 3) := by decide +kernel
theorem eX7_find_80 : decode (zYb kX7_find) 80 = .ok (.iconst 1, 1) := by decide +kernel
theorem eX7_find_81 : decode (zYb kX7_find) 81 = .ok (.goto 4, 3) := by decide +kernel
theorem eX7_find_84 : decode (zYb kX7_find) 84 = .ok (.iconst 0, 1) := by decide +kernel
theorem eX7_find_85 : decode (zYb kX7_find) 85 = .ok (.iadd, 1) := by decide +kernel
theorem eX7_find_86 : decode (zYb kX7_find) 86 = .ok (.istore_n 3, 1) := by decide +kernel
theorem eX7_find_87 : decode (zYb kX7_find) 87 = .ok (.iload 6, 2) := by decide +kernel
theorem eX7_find_89 : decode (zYb kX7_find) 89 = .ok (.ifCond .eq 8, 3) := by decide +kernel
theorem eX7_find_92 : decode (zYb kX7_find) 92 = .ok (.iload 5, 2) := by decide +kernel
theorem eX7_find_94 : decode (zYb kX7_find) 94 = .ok (.goto 5, 3) := by decide +kernel
theorem eX7_find_97 : decode (zYb kX7_find) 97 = .ok (.iload 4, 2) := by decide +kernel
theorem eX7_find_99 : decode (zYb kX7_find) 99 = .ok (.istore 4, 2) := by decide +kernel
theorem eX7_find_101 : decode (zYb kX7_find) 101 = .ok (.iinc 5 (-1), 3) := by decide +kernel
theorem eX7_find_104 : decode (zYb kX7_find) 104 = .ok (.goto (-53), 3) := by decide +kernel
theorem eX7_find_107 : decode (zYb kX7_find) 107 = .ok (.iload_n 2, 1) := by decide +kernel
theorem eX7_find_108 : decode (zYb kX7_find) 108 = .ok (.ifCond .ne 7, 3) := by decide +kernel
theorem eX7_find_111 : decode (zYb kX7_find) 111 = .ok (.iload_n 3, 1) := by decide +kernel
theorem eX7_find_112 : decode (zYb kX7_find) 112 = .ok (.goto 52, 3) := by decide +kernel
theorem eX7_find_115 : decode (zYb kX7_find) 115 = .ok (.iload_n 2, 1) := by decide +kernel
theorem eX7_find_116 : decode (zYb kX7_find) 116 = .ok (.iconst 1, 1) := by decide +kernel
theorem eX7_find_117 : decode (zYb kX7_find) 117 = .ok (.if_icmp .ne 8, 3) := by decide +kernel
theorem eX7_find_120 : decode (zYb kX7_find) 120 = .ok (.iload 4, 2) := by decide +kernel
theorem eX7_find_122 : decode (zYb kX7_find) 122 = .ok (.goto 42, 3) := by decide +kernel
theorem eX7_find_125 : decode (zYb kX7_find) 125 = .ok (.iload_n 2, 1) := by decide +kernel
theorem eX7_find_126 : decode (zYb kX7_find) 126 = .ok (.iconst 2, 1) := by decide +kernel
theorem eX7_find_127 : decode (zYb kX7_find) 127 = .ok (.if_icmp .ne 24, 3) := by decide +kernel
theorem eX7_find_130 : decode (zYb kX7_find) 130 = .ok (.iload 4, 2) := by decide +kernel
theorem eX7_find_132 : decode (zYb kX7_find) 132 = .ok (.bipush (-6), 2) := by decide +kernel
theorem eX7_find_134 : decode (zYb kX7_find) 134 = .ok (.if_icmp .ne 8, 3) := by decide +kernel
theorem eX7_find_137 : decode (zYb kX7_find) 137 = .ok (.bipush (-6), 2) := by decide +kernel
theorem eX7_find_139 : decode (zYb kX7_find) 139 = .ok (.goto 25, 3) := by decide +kernel
theorem eX7_find_142 : decode (zYb kX7_find) 142 = .ok (.aload_n 0, 1) := by decide +kernel
theorem eX7_find_143 : decode (zYb kX7_find) 143 = .ok (.iload 4, 2) := by decide +kernel
theorem eX7_find_145 : decode (zYb kX7_find) 145 = .ok (.invokevirtual 167, 3) := by decide +kernel
theorem eX7_find_148 : decode (zYb kX7_find) 148 = .ok (.goto 16, 3) := by decide +kernel
theorem eX7_find_151 : decode (zYb kX7_find) 151 = .ok (.iload_n 3, 1) := by decide +kernel
theorem eX7_find_152 : decode (zYb kX7_find) 152 = .ok (.aload_n 0, 1) := by decide +kernel
theorem eX7_find_153 : decode (zYb kX7_find) 153 = .ok (.getfield 69, 3) := by decide +kernel
theorem eX7_find_156 : decode (zYb kX7_find) 156 = .ok (.if_icmp .ne 7, 3) := by decide +kernel
theorem eX7_find_159 : decode (zYb kX7_find) 159 = .ok (.iconst 1, 1) := by decide +kernel
theorem eX7_find_160 : decode (zYb kX7_find) 160 = .ok (.goto 4, 3) := by decide +kernel
theorem eX7_find_163 : decode (zYb kX7_find) 163 = .ok (.iconst 0, 1) := by decide +kernel
theorem eX7_find_164 : decode (zYb kX7_find) 164 = .ok (.ireturn, 1) := by decide +kernel
theorem eX7_shared_0 : decode (zYb kX7_shared) 0 = .ok (.aload_n 0, 1) := by decide +kernel
theorem eX7_shared_1 : decode (zYb kX7_shared) 1 = .ok (.iload_n 1, 1) := by decide +kernel
theorem eX7_shared_2 : decode (zYb kX7_shared) 2 = .ok (.invokevirtual 58, 3) := by decide +kernel
theorem eX7_shared_5 : decode (zYb kX7_shared) 5 = .ok (.ifCond .eq 20, 3) := by decide +kernel
theorem eX7_shared_8 : decode (zYb kX7_shared) 8 = .ok (.aload_n 0, 1) := by decide +kernel
theorem eX7_shared_9 : decode (zYb kX7_shared) 9 = .ok (.iload_n 2, 1) := by decide +kernel
theorem eX7_shared_10 : decode (zYb kX7_shared) 10 = .ok (.invokevirtual 58, 3) := by decide +kernel
theorem eX7_shared_13 : decode (zYb kX7_shared) 13 = .ok (.ifCond .eq 12, 3) := by decide +kernel
theorem eX7_shared_16 : decode (zYb kX7_shared) 16 = .ok (.aload_n 0, 1) := by decide +kernel
theorem eX7_shared_17 : decode (zYb kX7_shared) 17 = .ok (.iload_n 1, 1) := by decide +kernel
theorem eX7_shared_18 : decode (zYb kX7_shared) 18 = .ok (.iload_n 2, 1) := by decide +kernel
theorem eX7_shared_19 : decode (zYb kX7_shared) 19 = .ok (.invokevirtual 170, 3) := by decide +kernel
theorem eX7_shared_22 : decode (zYb kX7_shared) 22 = .ok (.goto 4, 3) := by decide +kernel
theorem eX7_shared_25 : decode (zYb kX7_shared) 25 = .ok (.iconst (-1), 1) := by decide +kernel
theorem eX7_shared_26 : decode (zYb kX7_shared) 26 = .ok (.ireturn, 1) := by decide +kernel
theorem eX7_howTheyStand_0 : decode (zYb kX7_howTheyStand) 0 = .ok (.aload_n 0, 1) := by decide +kernel
theorem eX7_howTheyStand_1 : decode (zYb kX7_howTheyStand) 1 = .ok (.iload_n 1, 1) := by decide +kernel
theorem eX7_howTheyStand_2 : decode (zYb kX7_howTheyStand) 2 = .ok (.iload_n 2, 1) := by decide +kernel
theorem eX7_howTheyStand_3 : decode (zYb kX7_howTheyStand) 3 = .ok (.invokevirtual 170, 3) := by decide +kernel
theorem eX7_howTheyStand_6 : decode (zYb kX7_howTheyStand) 6 = .ok (.istore_n 3, 1) := by decide +kernel
theorem eX7_howTheyStand_7 : decode (zYb kX7_howTheyStand) 7 = .ok (.iload_n 3, 1) := by decide +kernel
theorem eX7_howTheyStand_8 : decode (zYb kX7_howTheyStand) 8 = .ok (.ifCond .ne 5, 3) := by decide +kernel
theorem eX7_howTheyStand_11 : decode (zYb kX7_howTheyStand) 11 = .ok (.iconst 0, 1) := by decide +kernel
theorem eX7_howTheyStand_12 : decode (zYb kX7_howTheyStand) 12 = .ok (.ireturn, 1) := by decide +kernel
theorem eX7_howTheyStand_13 : decode (zYb kX7_howTheyStand) 13 = .ok (.iload_n 3, 1) := by decide +kernel
theorem eX7_howTheyStand_14 : decode (zYb kX7_howTheyStand) 14 = .ok (.aload_n 0, 1) := by decide +kernel
theorem eX7_howTheyStand_15 : decode (zYb kX7_howTheyStand) 15 = .ok (.getfield 69, 3) := by decide +kernel
theorem eX7_howTheyStand_18 : decode (zYb kX7_howTheyStand) 18 = .ok (.if_icmp .ne 19, 3) := by decide +kernel
theorem eX7_howTheyStand_21 : decode (zYb kX7_howTheyStand) 21 = .ok (.iload_n 3, 1) := by decide +kernel
theorem eX7_howTheyStand_22 : decode (zYb kX7_howTheyStand) 22 = .ok (.aload_n 0, 1) := by decide +kernel
theorem eX7_howTheyStand_23 : decode (zYb kX7_howTheyStand) 23 = .ok (.getfield 93, 3) := by decide +kernel
theorem eX7_howTheyStand_26 : decode (zYb kX7_howTheyStand) 26 = .ok (.if_icmp .ne 7, 3) := by decide +kernel
theorem eX7_howTheyStand_29 : decode (zYb kX7_howTheyStand) 29 = .ok (.iconst 4, 1) := by decide +kernel
theorem eX7_howTheyStand_30 : decode (zYb kX7_howTheyStand) 30 = .ok (.goto 20, 3) := by decide +kernel
theorem eX7_howTheyStand_33 : decode (zYb kX7_howTheyStand) 33 = .ok (.iconst 2, 1) := by decide +kernel
theorem eX7_howTheyStand_34 : decode (zYb kX7_howTheyStand) 34 = .ok (.goto 16, 3) := by decide +kernel
theorem eX7_howTheyStand_37 : decode (zYb kX7_howTheyStand) 37 = .ok (.iload_n 3, 1) := by decide +kernel
theorem eX7_howTheyStand_38 : decode (zYb kX7_howTheyStand) 38 = .ok (.aload_n 0, 1) := by decide +kernel
theorem eX7_howTheyStand_39 : decode (zYb kX7_howTheyStand) 39 = .ok (.getfield 93, 3) := by decide +kernel
theorem eX7_howTheyStand_42 : decode (zYb kX7_howTheyStand) 42 = .ok (.if_icmp .ne 7, 3) := by decide +kernel
theorem eX7_howTheyStand_45 : decode (zYb kX7_howTheyStand) 45 = .ok (.iconst 3, 1) := by decide +kernel
theorem eX7_howTheyStand_46 : decode (zYb kX7_howTheyStand) 46 = .ok (.goto 4, 3) := by decide +kernel
theorem eX7_howTheyStand_49 : decode (zYb kX7_howTheyStand) 49 = .ok (.iconst 1, 1) := by decide +kernel
theorem eX7_howTheyStand_50 : decode (zYb kX7_howTheyStand) 50 = .ok (.ireturn, 1) := by decide +kernel
theorem eX7_compare_0 : decode (zYb kX7_compare) 0 = .ok (.aload_n 0, 1) := by decide +kernel
theorem eX7_compare_1 : decode (zYb kX7_compare) 1 = .ok (.iload_n 1, 1) := by decide +kernel
theorem eX7_compare_2 : decode (zYb kX7_compare) 2 = .ok (.invokevirtual 58, 3) := by decide +kernel
theorem eX7_compare_5 : decode (zYb kX7_compare) 5 = .ok (.ifCond .eq 20, 3) := by decide +kernel
theorem eX7_compare_8 : decode (zYb kX7_compare) 8 = .ok (.aload_n 0, 1) := by decide +kernel
theorem eX7_compare_9 : decode (zYb kX7_compare) 9 = .ok (.iload_n 2, 1) := by decide +kernel
theorem eX7_compare_10 : decode (zYb kX7_compare) 10 = .ok (.invokevirtual 58, 3) := by decide +kernel
theorem eX7_compare_13 : decode (zYb kX7_compare) 13 = .ok (.ifCond .eq 12, 3) := by decide +kernel
theorem eX7_compare_16 : decode (zYb kX7_compare) 16 = .ok (.aload_n 0, 1) := by decide +kernel
theorem eX7_compare_17 : decode (zYb kX7_compare) 17 = .ok (.iload_n 1, 1) := by decide +kernel
theorem eX7_compare_18 : decode (zYb kX7_compare) 18 = .ok (.iload_n 2, 1) := by decide +kernel
theorem eX7_compare_19 : decode (zYb kX7_compare) 19 = .ok (.invokevirtual 173, 3) := by decide +kernel
theorem eX7_compare_22 : decode (zYb kX7_compare) 22 = .ok (.goto 4, 3) := by decide +kernel
theorem eX7_compare_25 : decode (zYb kX7_compare) 25 = .ok (.iconst (-1), 1) := by decide +kernel
theorem eX7_compare_26 : decode (zYb kX7_compare) 26 = .ok (.ireturn, 1) := by decide +kernel
theorem eX7_allPatches_0 : decode (zYb kX7_allPatches) 0 = .ok (.iconst 0, 1) := by decide +kernel
theorem eX7_allPatches_1 : decode (zYb kX7_allPatches) 1 = .ok (.istore_n 1, 1) := by decide +kernel
theorem eX7_allPatches_2 : decode (zYb kX7_allPatches) 2 = .ok (.iconst 0, 1) := by decide +kernel
theorem eX7_allPatches_3 : decode (zYb kX7_allPatches) 3 = .ok (.istore_n 2, 1) := by decide +kernel
theorem eX7_allPatches_4 : decode (zYb kX7_allPatches) 4 = .ok (.iload_n 2, 1) := by decide +kernel
theorem eX7_allPatches_5 : decode (zYb kX7_allPatches) 5 = .ok (.aload_n 0, 1) := by decide +kernel
theorem eX7_allPatches_6 : decode (zYb kX7_allPatches) 6 = .ok (.getfield 7, 3) := by decide +kernel
theorem eX7_allPatches_9 : decode (zYb kX7_allPatches) 9 = .ok (.iconst 0, 1) := by decide +kernel
theorem eX7_allPatches_10 : decode (zYb kX7_allPatches) 10 = .ok (.iaload, 1) := by decide +kernel
theorem eX7_allPatches_11 : decode (zYb kX7_allPatches) 11 = .ok (.if_icmp .ge 18, 3) := by decide +kernel
theorem eX7_allPatches_14 : decode (zYb kX7_allPatches) 14 = .ok (.iload_n 1, 1) := by decide +kernel
theorem eX7_allPatches_15 : decode (zYb kX7_allPatches) 15 = .ok (.aload_n 0, 1) := by decide +kernel
theorem eX7_allPatches_16 : decode (zYb kX7_allPatches) 16 = .ok (.iload_n 2, 1) := by decide +kernel
theorem eX7_allPatches_17 : decode (zYb kX7_allPatches) 17 = .ok (.iconst 0, 1) := by decide +kernel
theorem eX7_allPatches_18 : decode (zYb kX7_allPatches) 18 = .ok (.invokevirtual 62, 3) := by decide +kernel
theorem eX7_allPatches_21 : decode (zYb kX7_allPatches) 21 = .ok (.iadd, 1) := by decide +kernel
theorem eX7_allPatches_22 : decode (zYb kX7_allPatches) 22 = .ok (.istore_n 1, 1) := by decide +kernel
theorem eX7_allPatches_23 : decode (zYb kX7_allPatches) 23 = .ok (.iinc 2 1, 3) := by decide +kernel
theorem eX7_allPatches_26 : decode (zYb kX7_allPatches) 26 = .ok (.goto (-22), 3) := by decide +kernel
theorem eX7_allPatches_29 : decode (zYb kX7_allPatches) 29 = .ok (.iload_n 1, 1) := by decide +kernel
theorem eX7_allPatches_30 : decode (zYb kX7_allPatches) 30 = .ok (.ireturn, 1) := by decide +kernel
theorem eX7_allLetters_0 : decode (zYb kX7_allLetters) 0 = .ok (.iconst 0, 1) := by decide +kernel
theorem eX7_allLetters_1 : decode (zYb kX7_allLetters) 1 = .ok (.istore_n 1, 1) := by decide +kernel
theorem eX7_allLetters_2 : decode (zYb kX7_allLetters) 2 = .ok (.iconst 0, 1) := by decide +kernel
theorem eX7_allLetters_3 : decode (zYb kX7_allLetters) 3 = .ok (.istore_n 2, 1) := by decide +kernel
theorem eX7_allLetters_4 : decode (zYb kX7_allLetters) 4 = .ok (.iload_n 2, 1) := by decide +kernel
theorem eX7_allLetters_5 : decode (zYb kX7_allLetters) 5 = .ok (.aload_n 0, 1) := by decide +kernel
theorem eX7_allLetters_6 : decode (zYb kX7_allLetters) 6 = .ok (.getfield 7, 3) := by decide +kernel
theorem eX7_allLetters_9 : decode (zYb kX7_allLetters) 9 = .ok (.iconst 0, 1) := by decide +kernel
theorem eX7_allLetters_10 : decode (zYb kX7_allLetters) 10 = .ok (.iaload, 1) := by decide +kernel
theorem eX7_allLetters_11 : decode (zYb kX7_allLetters) 11 = .ok (.if_icmp .ge 17, 3) := by decide +kernel
theorem eX7_allLetters_14 : decode (zYb kX7_allLetters) 14 = .ok (.iload_n 1, 1) := by decide +kernel
theorem eX7_allLetters_15 : decode (zYb kX7_allLetters) 15 = .ok (.aload_n 0, 1) := by decide +kernel
theorem eX7_allLetters_16 : decode (zYb kX7_allLetters) 16 = .ok (.iload_n 2, 1) := by decide +kernel
theorem eX7_allLetters_17 : decode (zYb kX7_allLetters) 17 = .ok (.invokevirtual 128, 3) := by decide +kernel
theorem eX7_allLetters_20 : decode (zYb kX7_allLetters) 20 = .ok (.iadd, 1) := by decide +kernel
theorem eX7_allLetters_21 : decode (zYb kX7_allLetters) 21 = .ok (.istore_n 1, 1) := by decide +kernel
theorem eX7_allLetters_22 : decode (zYb kX7_allLetters) 22 = .ok (.iinc 2 1, 3) := by decide +kernel
theorem eX7_allLetters_25 : decode (zYb kX7_allLetters) 25 = .ok (.goto (-21), 3) := by decide +kernel
theorem eX7_allLetters_28 : decode (zYb kX7_allLetters) 28 = .ok (.iload_n 1, 1) := by decide +kernel
theorem eX7_allLetters_29 : decode (zYb kX7_allLetters) 29 = .ok (.ireturn, 1) := by decide +kernel
theorem eX7_allReadings_0 : decode (zYb kX7_allReadings) 0 = .ok (.iconst 0, 1) := by decide +kernel
theorem eX7_allReadings_1 : decode (zYb kX7_allReadings) 1 = .ok (.istore_n 1, 1) := by decide +kernel
theorem eX7_allReadings_2 : decode (zYb kX7_allReadings) 2 = .ok (.iconst 0, 1) := by decide +kernel
theorem eX7_allReadings_3 : decode (zYb kX7_allReadings) 3 = .ok (.istore_n 2, 1) := by decide +kernel
theorem eX7_allReadings_4 : decode (zYb kX7_allReadings) 4 = .ok (.iload_n 2, 1) := by decide +kernel
theorem eX7_allReadings_5 : decode (zYb kX7_allReadings) 5 = .ok (.aload_n 0, 1) := by decide +kernel
theorem eX7_allReadings_6 : decode (zYb kX7_allReadings) 6 = .ok (.getfield 7, 3) := by decide +kernel
theorem eX7_allReadings_9 : decode (zYb kX7_allReadings) 9 = .ok (.iconst 0, 1) := by decide +kernel
theorem eX7_allReadings_10 : decode (zYb kX7_allReadings) 10 = .ok (.iaload, 1) := by decide +kernel
theorem eX7_allReadings_11 : decode (zYb kX7_allReadings) 11 = .ok (.if_icmp .ge 83, 3) := by decide +kernel
theorem eX7_allReadings_14 : decode (zYb kX7_allReadings) 14 = .ok (.iconst 0, 1) := by decide +kernel
theorem eX7_allReadings_15 : decode (zYb kX7_allReadings) 15 = .ok (.istore_n 3, 1) := by decide +kernel
theorem eX7_allReadings_16 : decode (zYb kX7_allReadings) 16 = .ok (.iload_n 3, 1) := by decide +kernel
theorem eX7_allReadings_17 : decode (zYb kX7_allReadings) 17 = .ok (.sipush 128, 3) := by decide +kernel
theorem eX7_allReadings_20 : decode (zYb kX7_allReadings) 20 = .ok (.if_icmp .ge 16, 3) := by decide +kernel
theorem eX7_allReadings_23 : decode (zYb kX7_allReadings) 23 = .ok (.aload_n 0, 1) := by decide +kernel
theorem eX7_allReadings_24 : decode (zYb kX7_allReadings) 24 = .ok (.getfield 37, 3) := by decide +kernel
theorem eX7_allReadings_27 : decode (zYb kX7_allReadings) 27 = .ok (.iload_n 3, 1) := by decide +kernel
theorem eX7_allReadings_28 : decode (zYb kX7_allReadings) 28 = .ok (.iconst 0, 1) := by decide +kernel
theorem eX7_allReadings_29 : decode (zYb kX7_allReadings) 29 = .ok (.iastore, 1) := by decide +kernel
theorem eX7_allReadings_30 : decode (zYb kX7_allReadings) 30 = .ok (.iinc 3 1, 3) := by decide +kernel
theorem eX7_allReadings_33 : decode (zYb kX7_allReadings) 33 = .ok (.goto (-17), 3) := by decide +kernel
theorem eX7_allReadings_36 : decode (zYb kX7_allReadings) 36 = .ok (.iconst 0, 1) := by decide +kernel
theorem eX7_allReadings_37 : decode (zYb kX7_allReadings) 37 = .ok (.istore_n 3, 1) := by decide +kernel
theorem eX7_allReadings_38 : decode (zYb kX7_allReadings) 38 = .ok (.iload_n 3, 1) := by decide +kernel
theorem eX7_allReadings_39 : decode (zYb kX7_allReadings) 39 = .ok (.iload_n 2, 1) := by decide +kernel
theorem eX7_allReadings_40 : decode (zYb kX7_allReadings) 40 = .ok (.if_icmp .ge 16, 3) := by decide +kernel
theorem eX7_allReadings_43 : decode (zYb kX7_allReadings) 43 = .ok (.aload_n 0, 1) := by decide +kernel
theorem eX7_allReadings_44 : decode (zYb kX7_allReadings) 44 = .ok (.iload_n 2, 1) := by decide +kernel
theorem eX7_allReadings_45 : decode (zYb kX7_allReadings) 45 = .ok (.iload_n 3, 1) := by decide +kernel
theorem eX7_allReadings_46 : decode (zYb kX7_allReadings) 46 = .ok (.invokevirtual 170, 3) := by decide +kernel
theorem eX7_allReadings_49 : decode (zYb kX7_allReadings) 49 = .ok (.pop, 1) := by decide +kernel
theorem eX7_allReadings_50 : decode (zYb kX7_allReadings) 50 = .ok (.iinc 3 1, 3) := by decide +kernel
theorem eX7_allReadings_53 : decode (zYb kX7_allReadings) 53 = .ok (.goto (-15), 3) := by decide +kernel
theorem eX7_allReadings_56 : decode (zYb kX7_allReadings) 56 = .ok (.aload_n 0, 1) := by decide +kernel
theorem eX7_allReadings_57 : decode (zYb kX7_allReadings) 57 = .ok (.iload_n 2, 1) := by decide +kernel
theorem eX7_allReadings_58 : decode (zYb kX7_allReadings) 58 = .ok (.invokevirtual 99, 3) := by decide +kernel
theorem eX7_allReadings_61 : decode (zYb kX7_allReadings) 61 = .ok (.iconst 0, 1) := by decide +kernel
theorem eX7_allReadings_62 : decode (zYb kX7_allReadings) 62 = .ok (.istore_n 3, 1) := by decide +kernel
theorem eX7_allReadings_63 : decode (zYb kX7_allReadings) 63 = .ok (.iload_n 3, 1) := by decide +kernel
theorem eX7_allReadings_64 : decode (zYb kX7_allReadings) 64 = .ok (.aload_n 0, 1) := by decide +kernel
theorem eX7_allReadings_65 : decode (zYb kX7_allReadings) 65 = .ok (.getfield 69, 3) := by decide +kernel
theorem eX7_allReadings_68 : decode (zYb kX7_allReadings) 68 = .ok (.if_icmp .ge 20, 3) := by decide +kernel
theorem eX7_allReadings_71 : decode (zYb kX7_allReadings) 71 = .ok (.iload_n 1, 1) := by decide +kernel
theorem eX7_allReadings_72 : decode (zYb kX7_allReadings) 72 = .ok (.iconst 1, 1) := by decide +kernel
theorem eX7_allReadings_73 : decode (zYb kX7_allReadings) 73 = .ok (.aload_n 0, 1) := by decide +kernel
theorem eX7_allReadings_74 : decode (zYb kX7_allReadings) 74 = .ok (.getfield 37, 3) := by decide +kernel
theorem eX7_allReadings_77 : decode (zYb kX7_allReadings) 77 = .ok (.iload_n 3, 1) := by decide +kernel
theorem eX7_allReadings_78 : decode (zYb kX7_allReadings) 78 = .ok (.iaload, 1) := by decide +kernel
theorem eX7_allReadings_79 : decode (zYb kX7_allReadings) 79 = .ok (.isub, 1) := by decide +kernel
theorem eX7_allReadings_80 : decode (zYb kX7_allReadings) 80 = .ok (.iadd, 1) := by decide +kernel
theorem eX7_allReadings_81 : decode (zYb kX7_allReadings) 81 = .ok (.istore_n 1, 1) := by decide +kernel
theorem eX7_allReadings_82 : decode (zYb kX7_allReadings) 82 = .ok (.iinc 3 1, 3) := by decide +kernel
theorem eX7_allReadings_85 : decode (zYb kX7_allReadings) 85 = .ok (.goto (-22), 3) := by decide +kernel
theorem eX7_allReadings_88 : decode (zYb kX7_allReadings) 88 = .ok (.iinc 2 1, 3) := by decide +kernel
theorem eX7_allReadings_91 : decode (zYb kX7_allReadings) 91 = .ok (.goto (-87), 3) := by decide +kernel
theorem eX7_allReadings_94 : decode (zYb kX7_allReadings) 94 = .ok (.iload_n 1, 1) := by decide +kernel
theorem eX7_allReadings_95 : decode (zYb kX7_allReadings) 95 = .ok (.ireturn, 1) := by decide +kernel
theorem eX7_samePairs_0 : decode (zYb kX7_samePairs) 0 = .ok (.iconst 0, 1) := by decide +kernel
theorem eX7_samePairs_1 : decode (zYb kX7_samePairs) 1 = .ok (.istore_n 1, 1) := by decide +kernel
theorem eX7_samePairs_2 : decode (zYb kX7_samePairs) 2 = .ok (.iconst 0, 1) := by decide +kernel
theorem eX7_samePairs_3 : decode (zYb kX7_samePairs) 3 = .ok (.istore_n 2, 1) := by decide +kernel
theorem eX7_samePairs_4 : decode (zYb kX7_samePairs) 4 = .ok (.iload_n 2, 1) := by decide +kernel
theorem eX7_samePairs_5 : decode (zYb kX7_samePairs) 5 = .ok (.aload_n 0, 1) := by decide +kernel
theorem eX7_samePairs_6 : decode (zYb kX7_samePairs) 6 = .ok (.getfield 7, 3) := by decide +kernel
theorem eX7_samePairs_9 : decode (zYb kX7_samePairs) 9 = .ok (.iconst 0, 1) := by decide +kernel
theorem eX7_samePairs_10 : decode (zYb kX7_samePairs) 10 = .ok (.iaload, 1) := by decide +kernel
theorem eX7_samePairs_11 : decode (zYb kX7_samePairs) 11 = .ok (.if_icmp .ge 40, 3) := by decide +kernel
theorem eX7_samePairs_14 : decode (zYb kX7_samePairs) 14 = .ok (.iconst 0, 1) := by decide +kernel
theorem eX7_samePairs_15 : decode (zYb kX7_samePairs) 15 = .ok (.istore_n 3, 1) := by decide +kernel
theorem eX7_samePairs_16 : decode (zYb kX7_samePairs) 16 = .ok (.iload_n 3, 1) := by decide +kernel
theorem eX7_samePairs_17 : decode (zYb kX7_samePairs) 17 = .ok (.iload_n 2, 1) := by decide +kernel
theorem eX7_samePairs_18 : decode (zYb kX7_samePairs) 18 = .ok (.if_icmp .ge 27, 3) := by decide +kernel
theorem eX7_samePairs_21 : decode (zYb kX7_samePairs) 21 = .ok (.iload_n 1, 1) := by decide +kernel
theorem eX7_samePairs_22 : decode (zYb kX7_samePairs) 22 = .ok (.aload_n 0, 1) := by decide +kernel
theorem eX7_samePairs_23 : decode (zYb kX7_samePairs) 23 = .ok (.iload_n 2, 1) := by decide +kernel
theorem eX7_samePairs_24 : decode (zYb kX7_samePairs) 24 = .ok (.iload_n 3, 1) := by decide +kernel
theorem eX7_samePairs_25 : decode (zYb kX7_samePairs) 25 = .ok (.invokevirtual 173, 3) := by decide +kernel
theorem eX7_samePairs_28 : decode (zYb kX7_samePairs) 28 = .ok (.iconst 4, 1) := by decide +kernel
theorem eX7_samePairs_29 : decode (zYb kX7_samePairs) 29 = .ok (.if_icmp .ne 7, 3) := by decide +kernel
theorem eX7_samePairs_32 : decode (zYb kX7_samePairs) 32 = .ok (.iconst 1, 1) := by decide +kernel
theorem eX7_samePairs_33 : decode (zYb kX7_samePairs) 33 = .ok (.goto 4, 3) := by decide +kernel
theorem eX7_samePairs_36 : decode (zYb kX7_samePairs) 36 = .ok (.iconst 0, 1) := by decide +kernel
theorem eX7_samePairs_37 : decode (zYb kX7_samePairs) 37 = .ok (.iadd, 1) := by decide +kernel
theorem eX7_samePairs_38 : decode (zYb kX7_samePairs) 38 = .ok (.istore_n 1, 1) := by decide +kernel
theorem eX7_samePairs_39 : decode (zYb kX7_samePairs) 39 = .ok (.iinc 3 1, 3) := by decide +kernel
theorem eX7_samePairs_42 : decode (zYb kX7_samePairs) 42 = .ok (.goto (-26), 3) := by decide +kernel
theorem eX7_samePairs_45 : decode (zYb kX7_samePairs) 45 = .ok (.iinc 2 1, 3) := by decide +kernel
theorem eX7_samePairs_48 : decode (zYb kX7_samePairs) 48 = .ok (.goto (-44), 3) := by decide +kernel
theorem eX7_samePairs_51 : decode (zYb kX7_samePairs) 51 = .ok (.iload_n 1, 1) := by decide +kernel
theorem eX7_samePairs_52 : decode (zYb kX7_samePairs) 52 = .ok (.ireturn, 1) := by decide +kernel
theorem eX7_count_0 : decode (zYb kX7_count) 0 = .ok (.iload_n 1, 1) := by decide +kernel
theorem eX7_count_1 : decode (zYb kX7_count) 1 = .ok (.tableswitch 80 0 6 #[43, 50, 55, 60, 65, 70, 75], 43) := by decide +kernel
theorem eX7_count_44 : decode (zYb kX7_count) 44 = .ok (.aload_n 0, 1) := by decide +kernel
theorem eX7_count_45 : decode (zYb kX7_count) 45 = .ok (.getfield 7, 3) := by decide +kernel
theorem eX7_count_48 : decode (zYb kX7_count) 48 = .ok (.iconst 0, 1) := by decide +kernel
theorem eX7_count_49 : decode (zYb kX7_count) 49 = .ok (.iaload, 1) := by decide +kernel
theorem eX7_count_50 : decode (zYb kX7_count) 50 = .ok (.ireturn, 1) := by decide +kernel
theorem eX7_count_51 : decode (zYb kX7_count) 51 = .ok (.aload_n 0, 1) := by decide +kernel
theorem eX7_count_52 : decode (zYb kX7_count) 52 = .ok (.invokevirtual 176, 3) := by decide +kernel
theorem eX7_count_55 : decode (zYb kX7_count) 55 = .ok (.ireturn, 1) := by decide +kernel
theorem eX7_count_56 : decode (zYb kX7_count) 56 = .ok (.aload_n 0, 1) := by decide +kernel
theorem eX7_count_57 : decode (zYb kX7_count) 57 = .ok (.invokevirtual 179, 3) := by decide +kernel
theorem eX7_count_60 : decode (zYb kX7_count) 60 = .ok (.ireturn, 1) := by decide +kernel
theorem eX7_count_61 : decode (zYb kX7_count) 61 = .ok (.aload_n 0, 1) := by decide +kernel
theorem eX7_count_62 : decode (zYb kX7_count) 62 = .ok (.invokevirtual 182, 3) := by decide +kernel
theorem eX7_count_65 : decode (zYb kX7_count) 65 = .ok (.ireturn, 1) := by decide +kernel
theorem eX7_count_66 : decode (zYb kX7_count) 66 = .ok (.aload_n 0, 1) := by decide +kernel
theorem eX7_count_67 : decode (zYb kX7_count) 67 = .ok (.invokevirtual 185, 3) := by decide +kernel
theorem eX7_count_70 : decode (zYb kX7_count) 70 = .ok (.ireturn, 1) := by decide +kernel
theorem eX7_count_71 : decode (zYb kX7_count) 71 = .ok (.aload_n 0, 1) := by decide +kernel
theorem eX7_count_72 : decode (zYb kX7_count) 72 = .ok (.getfield 109, 3) := by decide +kernel
theorem eX7_count_75 : decode (zYb kX7_count) 75 = .ok (.ireturn, 1) := by decide +kernel
theorem eX7_count_76 : decode (zYb kX7_count) 76 = .ok (.aload_n 0, 1) := by decide +kernel
theorem eX7_count_77 : decode (zYb kX7_count) 77 = .ok (.getfield 46, 3) := by decide +kernel
theorem eX7_count_80 : decode (zYb kX7_count) 80 = .ok (.ireturn, 1) := by decide +kernel
theorem eX7_count_81 : decode (zYb kX7_count) 81 = .ok (.bipush (-2), 2) := by decide +kernel
theorem eX7_count_83 : decode (zYb kX7_count) 83 = .ok (.ireturn, 1) := by decide +kernel
theorem eX7_readingsIfCut_0 : decode (zYb kX7_readingsIfCut) 0 = .ok (.aload_n 0, 1) := by decide +kernel
theorem eX7_readingsIfCut_1 : decode (zYb kX7_readingsIfCut) 1 = .ok (.iload_n 1, 1) := by decide +kernel
theorem eX7_readingsIfCut_2 : decode (zYb kX7_readingsIfCut) 2 = .ok (.invokevirtual 86, 3) := by decide +kernel
theorem eX7_readingsIfCut_5 : decode (zYb kX7_readingsIfCut) 5 = .ok (.aload_n 0, 1) := by decide +kernel
theorem eX7_readingsIfCut_6 : decode (zYb kX7_readingsIfCut) 6 = .ok (.iload_n 2, 1) := by decide +kernel
theorem eX7_readingsIfCut_7 : decode (zYb kX7_readingsIfCut) 7 = .ok (.iload_n 3, 1) := by decide +kernel
theorem eX7_readingsIfCut_8 : decode (zYb kX7_readingsIfCut) 8 = .ok (.invokevirtual 141, 3) := by decide +kernel
theorem eX7_readingsIfCut_11 : decode (zYb kX7_readingsIfCut) 11 = .ok (.aload_n 0, 1) := by decide +kernel
theorem eX7_readingsIfCut_12 : decode (zYb kX7_readingsIfCut) 12 = .ok (.iconst 1, 1) := by decide +kernel
theorem eX7_readingsIfCut_13 : decode (zYb kX7_readingsIfCut) 13 = .ok (.invokevirtual 89, 3) := by decide +kernel
theorem eX7_readingsIfCut_16 : decode (zYb kX7_readingsIfCut) 16 = .ok (.aload_n 0, 1) := by decide +kernel
theorem eX7_readingsIfCut_17 : decode (zYb kX7_readingsIfCut) 17 = .ok (.getfield 69, 3) := by decide +kernel
theorem eX7_readingsIfCut_20 : decode (zYb kX7_readingsIfCut) 20 = .ok (.ireturn, 1) := by decide +kernel
theorem eX7_ifCut_0 : decode (zYb kX7_ifCut) 0 = .ok (.aload_n 0, 1) := by decide +kernel
theorem eX7_ifCut_1 : decode (zYb kX7_ifCut) 1 = .ok (.iload_n 1, 1) := by decide +kernel
theorem eX7_ifCut_2 : decode (zYb kX7_ifCut) 2 = .ok (.iload_n 2, 1) := by decide +kernel
theorem eX7_ifCut_3 : decode (zYb kX7_ifCut) 3 = .ok (.invokevirtual 134, 3) := by decide +kernel
theorem eX7_ifCut_6 : decode (zYb kX7_ifCut) 6 = .ok (.ifCond .ne 5, 3) := by decide +kernel
theorem eX7_ifCut_9 : decode (zYb kX7_ifCut) 9 = .ok (.iconst (-1), 1) := by decide +kernel
theorem eX7_ifCut_10 : decode (zYb kX7_ifCut) 10 = .ok (.ireturn, 1) := by decide +kernel
theorem eX7_ifCut_11 : decode (zYb kX7_ifCut) 11 = .ok (.iload_n 3, 1) := by decide +kernel
theorem eX7_ifCut_12 : decode (zYb kX7_ifCut) 12 = .ok (.iconst 1, 1) := by decide +kernel
theorem eX7_ifCut_13 : decode (zYb kX7_ifCut) 13 = .ok (.aload_n 0, 1) := by decide +kernel
theorem eX7_ifCut_14 : decode (zYb kX7_ifCut) 14 = .ok (.iload_n 1, 1) := by decide +kernel
theorem eX7_ifCut_15 : decode (zYb kX7_ifCut) 15 = .ok (.iload_n 2, 1) := by decide +kernel
theorem eX7_ifCut_16 : decode (zYb kX7_ifCut) 16 = .ok (.invokevirtual 138, 3) := by decide +kernel
theorem eX7_ifCut_19 : decode (zYb kX7_ifCut) 19 = .ok (.iconst 1, 1) := by decide +kernel
theorem eX7_ifCut_20 : decode (zYb kX7_ifCut) 20 = .ok (.isub, 1) := by decide +kernel
theorem eX7_ifCut_21 : decode (zYb kX7_ifCut) 21 = .ok (.invokestatic 54, 3) := by decide +kernel
theorem eX7_ifCut_24 : decode (zYb kX7_ifCut) 24 = .ok (.ifCond .eq 13, 3) := by decide +kernel
theorem eX7_ifCut_27 : decode (zYb kX7_ifCut) 27 = .ok (.aload_n 0, 1) := by decide +kernel
theorem eX7_ifCut_28 : decode (zYb kX7_ifCut) 28 = .ok (.iload_n 1, 1) := by decide +kernel
theorem eX7_ifCut_29 : decode (zYb kX7_ifCut) 29 = .ok (.iload_n 2, 1) := by decide +kernel
theorem eX7_ifCut_30 : decode (zYb kX7_ifCut) 30 = .ok (.iload_n 3, 1) := by decide +kernel
theorem eX7_ifCut_31 : decode (zYb kX7_ifCut) 31 = .ok (.invokevirtual 188, 3) := by decide +kernel
theorem eX7_ifCut_34 : decode (zYb kX7_ifCut) 34 = .ok (.goto 5, 3) := by decide +kernel
theorem eX7_ifCut_37 : decode (zYb kX7_ifCut) 37 = .ok (.bipush (-2), 2) := by decide +kernel
theorem eX7_ifCut_39 : decode (zYb kX7_ifCut) 39 = .ok (.ireturn, 1) := by decide +kernel
theorem eX7_bestCut_0 : decode (zYb kX7_bestCut) 0 = .ok (.aload_n 0, 1) := by decide +kernel
theorem eX7_bestCut_1 : decode (zYb kX7_bestCut) 1 = .ok (.iload_n 1, 1) := by decide +kernel
theorem eX7_bestCut_2 : decode (zYb kX7_bestCut) 2 = .ok (.invokevirtual 58, 3) := by decide +kernel
theorem eX7_bestCut_5 : decode (zYb kX7_bestCut) 5 = .ok (.ifCond .ne 5, 3) := by decide +kernel
theorem eX7_bestCut_8 : decode (zYb kX7_bestCut) 8 = .ok (.iconst (-1), 1) := by decide +kernel
theorem eX7_bestCut_9 : decode (zYb kX7_bestCut) 9 = .ok (.ireturn, 1) := by decide +kernel
theorem eX7_bestCut_10 : decode (zYb kX7_bestCut) 10 = .ok (.iload_n 2, 1) := by decide +kernel
theorem eX7_bestCut_11 : decode (zYb kX7_bestCut) 11 = .ok (.iconst 0, 1) := by decide +kernel
theorem eX7_bestCut_12 : decode (zYb kX7_bestCut) 12 = .ok (.iconst 2, 1) := by decide +kernel
theorem eX7_bestCut_13 : decode (zYb kX7_bestCut) 13 = .ok (.invokestatic 54, 3) := by decide +kernel
theorem eX7_bestCut_16 : decode (zYb kX7_bestCut) 16 = .ok (.ifCond .ne 6, 3) := by decide +kernel
theorem eX7_bestCut_19 : decode (zYb kX7_bestCut) 19 = .ok (.bipush (-2), 2) := by decide +kernel
theorem eX7_bestCut_21 : decode (zYb kX7_bestCut) 21 = .ok (.ireturn, 1) := by decide +kernel
theorem eX7_bestCut_22 : decode (zYb kX7_bestCut) 22 = .ok (.bipush (-6), 2) := by decide +kernel
theorem eX7_bestCut_24 : decode (zYb kX7_bestCut) 24 = .ok (.istore_n 3, 1) := by decide +kernel
theorem eX7_bestCut_25 : decode (zYb kX7_bestCut) 25 = .ok (.bipush (-6), 2) := by decide +kernel
theorem eX7_bestCut_27 : decode (zYb kX7_bestCut) 27 = .ok (.istore 4, 2) := by decide +kernel
theorem eX7_bestCut_29 : decode (zYb kX7_bestCut) 29 = .ok (.bipush (-6), 2) := by decide +kernel
theorem eX7_bestCut_31 : decode (zYb kX7_bestCut) 31 = .ok (.istore 5, 2) := by decide +kernel
theorem eX7_bestCut_33 : decode (zYb kX7_bestCut) 33 = .ok (.iconst 0, 1) := by decide +kernel
theorem eX7_bestCut_34 : decode (zYb kX7_bestCut) 34 = .ok (.istore 6, 2) := by decide +kernel
theorem eX7_bestCut_36 : decode (zYb kX7_bestCut) 36 = .ok (.iload 6, 2) := by decide +kernel
theorem eX7_bestCut_38 : decode (zYb kX7_bestCut) 38 = .ok (.aload_n 0, 1) := by decide +kernel
theorem eX7_bestCut_39 : decode (zYb kX7_bestCut) 39 = .ok (.iload_n 1, 1) := by decide +kernel
theorem eX7_bestCut_40 : decode (zYb kX7_bestCut) 40 = .ok (.iconst 0, 1) := by decide +kernel
theorem eX7_bestCut_41 : decode (zYb kX7_bestCut) 41 = .ok (.invokevirtual 62, 3) := by decide +kernel
theorem eX7_bestCut_44 : decode (zYb kX7_bestCut) 44 = .ok (.if_icmp .ge 84, 3) := by decide +kernel
theorem eX7_bestCut_47 : decode (zYb kX7_bestCut) 47 = .ok (.iconst 1, 1) := by decide +kernel
theorem eX7_bestCut_48 : decode (zYb kX7_bestCut) 48 = .ok (.istore 7, 2) := by decide +kernel
theorem eX7_bestCut_50 : decode (zYb kX7_bestCut) 50 = .ok (.iload 7, 2) := by decide +kernel
theorem eX7_bestCut_52 : decode (zYb kX7_bestCut) 52 = .ok (.aload_n 0, 1) := by decide +kernel
theorem eX7_bestCut_53 : decode (zYb kX7_bestCut) 53 = .ok (.iload_n 1, 1) := by decide +kernel
theorem eX7_bestCut_54 : decode (zYb kX7_bestCut) 54 = .ok (.iload 6, 2) := by decide +kernel
theorem eX7_bestCut_56 : decode (zYb kX7_bestCut) 56 = .ok (.invokevirtual 138, 3) := by decide +kernel
theorem eX7_bestCut_59 : decode (zYb kX7_bestCut) 59 = .ok (.if_icmp .ge 63, 3) := by decide +kernel
theorem eX7_bestCut_62 : decode (zYb kX7_bestCut) 62 = .ok (.aload_n 0, 1) := by decide +kernel
theorem eX7_bestCut_63 : decode (zYb kX7_bestCut) 63 = .ok (.iload_n 1, 1) := by decide +kernel
theorem eX7_bestCut_64 : decode (zYb kX7_bestCut) 64 = .ok (.iload 6, 2) := by decide +kernel
theorem eX7_bestCut_66 : decode (zYb kX7_bestCut) 66 = .ok (.iload 7, 2) := by decide +kernel
theorem eX7_bestCut_68 : decode (zYb kX7_bestCut) 68 = .ok (.invokevirtual 188, 3) := by decide +kernel
theorem eX7_bestCut_71 : decode (zYb kX7_bestCut) 71 = .ok (.istore 8, 2) := by decide +kernel
theorem eX7_bestCut_73 : decode (zYb kX7_bestCut) 73 = .ok (.iload 8, 2) := by decide +kernel
theorem eX7_bestCut_75 : decode (zYb kX7_bestCut) 75 = .ok (.iload_n 3, 1) := by decide +kernel
theorem eX7_bestCut_76 : decode (zYb kX7_bestCut) 76 = .ok (.if_icmp .le 8, 3) := by decide +kernel
theorem eX7_bestCut_79 : decode (zYb kX7_bestCut) 79 = .ok (.iload 6, 2) := by decide +kernel
theorem eX7_bestCut_81 : decode (zYb kX7_bestCut) 81 = .ok (.goto 5, 3) := by decide +kernel
theorem eX7_bestCut_84 : decode (zYb kX7_bestCut) 84 = .ok (.iload 4, 2) := by decide +kernel
theorem eX7_bestCut_86 : decode (zYb kX7_bestCut) 86 = .ok (.istore 4, 2) := by decide +kernel
theorem eX7_bestCut_88 : decode (zYb kX7_bestCut) 88 = .ok (.iload 8, 2) := by decide +kernel
theorem eX7_bestCut_90 : decode (zYb kX7_bestCut) 90 = .ok (.iload_n 3, 1) := by decide +kernel
theorem eX7_bestCut_91 : decode (zYb kX7_bestCut) 91 = .ok (.if_icmp .le 8, 3) := by decide +kernel
theorem eX7_bestCut_94 : decode (zYb kX7_bestCut) 94 = .ok (.iload 7, 2) := by decide +kernel
theorem eX7_bestCut_96 : decode (zYb kX7_bestCut) 96 = .ok (.goto 5, 3) := by decide +kernel
theorem eX7_bestCut_99 : decode (zYb kX7_bestCut) 99 = .ok (.iload 5, 2) := by decide +kernel
theorem eX7_bestCut_101 : decode (zYb kX7_bestCut) 101 = .ok (.istore 5, 2) := by decide +kernel
theorem eX7_bestCut_103 : decode (zYb kX7_bestCut) 103 = .ok (.iload 8, 2) := by decide +kernel
theorem eX7_bestCut_105 : decode (zYb kX7_bestCut) 105 = .ok (.iload_n 3, 1) := by decide +kernel
theorem eX7_bestCut_106 : decode (zYb kX7_bestCut) 106 = .ok (.if_icmp .le 8, 3) := by decide +kernel
theorem eX7_bestCut_109 : decode (zYb kX7_bestCut) 109 = .ok (.iload 8, 2) := by decide +kernel
theorem eX7_bestCut_111 : decode (zYb kX7_bestCut) 111 = .ok (.goto 4, 3) := by decide +kernel
theorem eX7_bestCut_114 : decode (zYb kX7_bestCut) 114 = .ok (.iload_n 3, 1) := by decide +kernel
theorem eX7_bestCut_115 : decode (zYb kX7_bestCut) 115 = .ok (.istore_n 3, 1) := by decide +kernel
theorem eX7_bestCut_116 : decode (zYb kX7_bestCut) 116 = .ok (.iinc 7 1, 3) := by decide +kernel
theorem eX7_bestCut_119 : decode (zYb kX7_bestCut) 119 = .ok (.goto (-69), 3) := by decide +kernel
theorem eX7_bestCut_122 : decode (zYb kX7_bestCut) 122 = .ok (.iinc 6 1, 3) := by decide +kernel
theorem eX7_bestCut_125 : decode (zYb kX7_bestCut) 125 = .ok (.goto (-89), 3) := by decide +kernel
theorem eX7_bestCut_128 : decode (zYb kX7_bestCut) 128 = .ok (.iload_n 2, 1) := by decide +kernel
theorem eX7_bestCut_129 : decode (zYb kX7_bestCut) 129 = .ok (.ifCond .ne 8, 3) := by decide +kernel
theorem eX7_bestCut_132 : decode (zYb kX7_bestCut) 132 = .ok (.iload 4, 2) := by decide +kernel
theorem eX7_bestCut_134 : decode (zYb kX7_bestCut) 134 = .ok (.goto 14, 3) := by decide +kernel
theorem eX7_bestCut_137 : decode (zYb kX7_bestCut) 137 = .ok (.iload_n 2, 1) := by decide +kernel
theorem eX7_bestCut_138 : decode (zYb kX7_bestCut) 138 = .ok (.iconst 1, 1) := by decide +kernel
theorem eX7_bestCut_139 : decode (zYb kX7_bestCut) 139 = .ok (.if_icmp .ne 8, 3) := by decide +kernel
theorem eX7_bestCut_142 : decode (zYb kX7_bestCut) 142 = .ok (.iload 5, 2) := by decide +kernel
theorem eX7_bestCut_144 : decode (zYb kX7_bestCut) 144 = .ok (.goto 4, 3) := by decide +kernel
theorem eX7_bestCut_147 : decode (zYb kX7_bestCut) 147 = .ok (.iload_n 3, 1) := by decide +kernel
theorem eX7_bestCut_148 : decode (zYb kX7_bestCut) 148 = .ok (.ireturn, 1) := by decide +kernel
theorem eX7_put_0 : decode (zYb kX7_put) 0 = .ok (.iconst 0, 1) := by decide +kernel
theorem eX7_put_1 : decode (zYb kX7_put) 1 = .ok (.istore_n 3, 1) := by decide +kernel
theorem eX7_put_2 : decode (zYb kX7_put) 2 = .ok (.lload_n 1, 1) := by decide +kernel
theorem eX7_put_3 : decode (zYb kX7_put) 3 = .ok (.lstore 4, 2) := by decide +kernel
theorem eX7_put_5 : decode (zYb kX7_put) 5 = .ok (.iconst 1, 1) := by decide +kernel
theorem eX7_put_6 : decode (zYb kX7_put) 6 = .ok (.istore 6, 2) := by decide +kernel
theorem eX7_put_8 : decode (zYb kX7_put) 8 = .ok (.iload_n 3, 1) := by decide +kernel
theorem eX7_put_9 : decode (zYb kX7_put) 9 = .ok (.bipush 8, 2) := by decide +kernel
theorem eX7_put_11 : decode (zYb kX7_put) 11 = .ok (.if_icmp .ge 56, 3) := by decide +kernel
theorem eX7_put_14 : decode (zYb kX7_put) 14 = .ok (.lload 4, 2) := by decide +kernel
theorem eX7_put_16 : decode (zYb kX7_put) 16 = .ok (.ldc2_w 192, 3) := by decide +kernel
theorem eX7_put_19 : decode (zYb kX7_put) 19 = .ok (.land, 1) := by decide +kernel
theorem eX7_put_20 : decode (zYb kX7_put) 20 = .ok (.lconst 0, 1) := by decide +kernel
theorem eX7_put_21 : decode (zYb kX7_put) 21 = .ok (.lcmp, 1) := by decide +kernel
theorem eX7_put_22 : decode (zYb kX7_put) 22 = .ok (.ifCond .eq 45, 3) := by decide +kernel
theorem eX7_put_25 : decode (zYb kX7_put) 25 = .ok (.iload 6, 2) := by decide +kernel
theorem eX7_put_27 : decode (zYb kX7_put) 27 = .ok (.ifCond .eq 24, 3) := by decide +kernel
theorem eX7_put_30 : decode (zYb kX7_put) 30 = .ok (.lload 4, 2) := by decide +kernel
theorem eX7_put_32 : decode (zYb kX7_put) 32 = .ok (.ldc2_w 192, 3) := by decide +kernel
theorem eX7_put_35 : decode (zYb kX7_put) 35 = .ok (.land, 1) := by decide +kernel
theorem eX7_put_36 : decode (zYb kX7_put) 36 = .ok (.l2i, 1) := by decide +kernel
theorem eX7_put_37 : decode (zYb kX7_put) 37 = .ok (.bipush 33, 2) := by decide +kernel
theorem eX7_put_39 : decode (zYb kX7_put) 39 = .ok (.bipush 126, 2) := by decide +kernel
theorem eX7_put_41 : decode (zYb kX7_put) 41 = .ok (.invokestatic 54, 3) := by decide +kernel
theorem eX7_put_44 : decode (zYb kX7_put) 44 = .ok (.ifCond .eq 7, 3) := by decide +kernel
theorem eX7_put_47 : decode (zYb kX7_put) 47 = .ok (.iconst 1, 1) := by decide +kernel
theorem eX7_put_48 : decode (zYb kX7_put) 48 = .ok (.goto 4, 3) := by decide +kernel
theorem eX7_put_51 : decode (zYb kX7_put) 51 = .ok (.iconst 0, 1) := by decide +kernel
theorem eX7_put_52 : decode (zYb kX7_put) 52 = .ok (.istore 6, 2) := by decide +kernel
theorem eX7_put_54 : decode (zYb kX7_put) 54 = .ok (.lload 4, 2) := by decide +kernel
theorem eX7_put_56 : decode (zYb kX7_put) 56 = .ok (.bipush 8, 2) := by decide +kernel
theorem eX7_put_58 : decode (zYb kX7_put) 58 = .ok (.lushr, 1) := by decide +kernel
theorem eX7_put_59 : decode (zYb kX7_put) 59 = .ok (.lstore 4, 2) := by decide +kernel
theorem eX7_put_61 : decode (zYb kX7_put) 61 = .ok (.iinc 3 1, 3) := by decide +kernel
theorem eX7_put_64 : decode (zYb kX7_put) 64 = .ok (.goto (-56), 3) := by decide +kernel
theorem eX7_put_67 : decode (zYb kX7_put) 67 = .ok (.iload_n 3, 1) := by decide +kernel
theorem eX7_put_68 : decode (zYb kX7_put) 68 = .ok (.ifCond .eq 15, 3) := by decide +kernel
theorem eX7_put_71 : decode (zYb kX7_put) 71 = .ok (.iload 6, 2) := by decide +kernel
theorem eX7_put_73 : decode (zYb kX7_put) 73 = .ok (.ifCond .eq 10, 3) := by decide +kernel
theorem eX7_put_76 : decode (zYb kX7_put) 76 = .ok (.lload 4, 2) := by decide +kernel
theorem eX7_put_78 : decode (zYb kX7_put) 78 = .ok (.lconst 0, 1) := by decide +kernel
theorem eX7_put_79 : decode (zYb kX7_put) 79 = .ok (.lcmp, 1) := by decide +kernel
theorem eX7_put_80 : decode (zYb kX7_put) 80 = .ok (.ifCond .eq 6, 3) := by decide +kernel
theorem eX7_put_83 : decode (zYb kX7_put) 83 = .ok (.bipush (-2), 2) := by decide +kernel
theorem eX7_put_85 : decode (zYb kX7_put) 85 = .ok (.ireturn, 1) := by decide +kernel
theorem eX7_put_86 : decode (zYb kX7_put) 86 = .ok (.aload_n 0, 1) := by decide +kernel
theorem eX7_put_87 : decode (zYb kX7_put) 87 = .ok (.getfield 109, 3) := by decide +kernel
theorem eX7_put_90 : decode (zYb kX7_put) 90 = .ok (.iload_n 3, 1) := by decide +kernel
theorem eX7_put_91 : decode (zYb kX7_put) 91 = .ok (.iadd, 1) := by decide +kernel
theorem eX7_put_92 : decode (zYb kX7_put) 92 = .ok (.bipush 64, 2) := by decide +kernel
theorem eX7_put_94 : decode (zYb kX7_put) 94 = .ok (.if_icmp .le 6, 3) := by decide +kernel
theorem eX7_put_97 : decode (zYb kX7_put) 97 = .ok (.bipush (-4), 2) := by decide +kernel
theorem eX7_put_99 : decode (zYb kX7_put) 99 = .ok (.ireturn, 1) := by decide +kernel
theorem eX7_put_100 : decode (zYb kX7_put) 100 = .ok (.iload_n 3, 1) := by decide +kernel
theorem eX7_put_101 : decode (zYb kX7_put) 101 = .ok (.iconst 1, 1) := by decide +kernel
theorem eX7_put_102 : decode (zYb kX7_put) 102 = .ok (.isub, 1) := by decide +kernel
theorem eX7_put_103 : decode (zYb kX7_put) 103 = .ok (.istore 7, 2) := by decide +kernel
theorem eX7_put_105 : decode (zYb kX7_put) 105 = .ok (.iload 7, 2) := by decide +kernel
theorem eX7_put_107 : decode (zYb kX7_put) 107 = .ok (.ifCond .lt 40, 3) := by decide +kernel
theorem eX7_put_110 : decode (zYb kX7_put) 110 = .ok (.aload_n 0, 1) := by decide +kernel
theorem eX7_put_111 : decode (zYb kX7_put) 111 = .ok (.getfield 22, 3) := by decide +kernel
theorem eX7_put_114 : decode (zYb kX7_put) 114 = .ok (.aload_n 0, 1) := by decide +kernel
theorem eX7_put_115 : decode (zYb kX7_put) 115 = .ok (.getfield 109, 3) := by decide +kernel
theorem eX7_put_118 : decode (zYb kX7_put) 118 = .ok (.lload_n 1, 1) := by decide +kernel
theorem eX7_put_119 : decode (zYb kX7_put) 119 = .ok (.bipush 8, 2) := by decide +kernel
theorem eX7_put_121 : decode (zYb kX7_put) 121 = .ok (.iload 7, 2) := by decide +kernel
theorem eX7_put_123 : decode (zYb kX7_put) 123 = .ok (.imul, 1) := by decide +kernel
theorem eX7_put_124 : decode (zYb kX7_put) 124 = .ok (.lushr, 1) := by decide +kernel
theorem eX7_put_125 : decode (zYb kX7_put) 125 = .ok (.ldc2_w 192, 3) := by decide +kernel
theorem eX7_put_128 : decode (zYb kX7_put) 128 = .ok (.land, 1) := by decide +kernel
theorem eX7_put_129 : decode (zYb kX7_put) 129 = .ok (.l2i, 1) := by decide +kernel
theorem eX7_put_130 : decode (zYb kX7_put) 130 = .ok (.iastore, 1) := by decide +kernel
theorem eX7_put_131 : decode (zYb kX7_put) 131 = .ok (.aload_n 0, 1) := by decide +kernel
theorem eX7_put_132 : decode (zYb kX7_put) 132 = .ok (.dup, 1) := by decide +kernel
theorem eX7_put_133 : decode (zYb kX7_put) 133 = .ok (.getfield 109, 3) := by decide +kernel
theorem eX7_put_136 : decode (zYb kX7_put) 136 = .ok (.iconst 1, 1) := by decide +kernel
theorem eX7_put_137 : decode (zYb kX7_put) 137 = .ok (.iadd, 1) := by decide +kernel
theorem eX7_put_138 : decode (zYb kX7_put) 138 = .ok (.putfield 109, 3) := by decide +kernel
theorem eX7_put_141 : decode (zYb kX7_put) 141 = .ok (.iinc 7 (-1), 3) := by decide +kernel
theorem eX7_put_144 : decode (zYb kX7_put) 144 = .ok (.goto (-39), 3) := by decide +kernel
theorem eX7_put_147 : decode (zYb kX7_put) 147 = .ok (.aload_n 0, 1) := by decide +kernel
theorem eX7_put_148 : decode (zYb kX7_put) 148 = .ok (.getfield 109, 3) := by decide +kernel
theorem eX7_put_151 : decode (zYb kX7_put) 151 = .ok (.ireturn, 1) := by decide +kernel
theorem eX7_wipe_0 : decode (zYb kX7_wipe) 0 = .ok (.aload_n 0, 1) := by decide +kernel
theorem eX7_wipe_1 : decode (zYb kX7_wipe) 1 = .ok (.getfield 109, 3) := by decide +kernel
theorem eX7_wipe_4 : decode (zYb kX7_wipe) 4 = .ok (.istore_n 1, 1) := by decide +kernel
theorem eX7_wipe_5 : decode (zYb kX7_wipe) 5 = .ok (.aload_n 0, 1) := by decide +kernel
theorem eX7_wipe_6 : decode (zYb kX7_wipe) 6 = .ok (.iconst 0, 1) := by decide +kernel
theorem eX7_wipe_7 : decode (zYb kX7_wipe) 7 = .ok (.putfield 109, 3) := by decide +kernel
theorem eX7_wipe_10 : decode (zYb kX7_wipe) 10 = .ok (.iload_n 1, 1) := by decide +kernel
theorem eX7_wipe_11 : decode (zYb kX7_wipe) 11 = .ok (.ireturn, 1) := by decide +kernel
theorem eX7_findFault_0 : decode (zYb kX7_findFault) 0 = .ok (.iconst 0, 1) := by decide +kernel
theorem eX7_findFault_1 : decode (zYb kX7_findFault) 1 = .ok (.istore_n 1, 1) := by decide +kernel
theorem eX7_findFault_2 : decode (zYb kX7_findFault) 2 = .ok (.iconst 1, 1) := by decide +kernel
theorem eX7_findFault_3 : decode (zYb kX7_findFault) 3 = .ok (.istore_n 2, 1) := by decide +kernel
theorem eX7_findFault_4 : decode (zYb kX7_findFault) 4 = .ok (.iconst 1, 1) := by decide +kernel
theorem eX7_findFault_5 : decode (zYb kX7_findFault) 5 = .ok (.istore_n 3, 1) := by decide +kernel
theorem eX7_findFault_6 : decode (zYb kX7_findFault) 6 = .ok (.iconst 0, 1) := by decide +kernel
theorem eX7_findFault_7 : decode (zYb kX7_findFault) 7 = .ok (.istore 4, 2) := by decide +kernel
theorem eX7_findFault_9 : decode (zYb kX7_findFault) 9 = .ok (.iload 4, 2) := by decide +kernel
theorem eX7_findFault_11 : decode (zYb kX7_findFault) 11 = .ok (.aload_n 0, 1) := by decide +kernel
theorem eX7_findFault_12 : decode (zYb kX7_findFault) 12 = .ok (.getfield 109, 3) := by decide +kernel
theorem eX7_findFault_15 : decode (zYb kX7_findFault) 15 = .ok (.if_icmp .ge 155, 3) := by decide +kernel
theorem eX7_findFault_18 : decode (zYb kX7_findFault) 18 = .ok (.aload_n 0, 1) := by decide +kernel
theorem eX7_findFault_19 : decode (zYb kX7_findFault) 19 = .ok (.getfield 22, 3) := by decide +kernel
theorem eX7_findFault_22 : decode (zYb kX7_findFault) 22 = .ok (.iload 4, 2) := by decide +kernel
theorem eX7_findFault_24 : decode (zYb kX7_findFault) 24 = .ok (.iaload, 1) := by decide +kernel
theorem eX7_findFault_25 : decode (zYb kX7_findFault) 25 = .ok (.istore 5, 2) := by decide +kernel
theorem eX7_findFault_27 : decode (zYb kX7_findFault) 27 = .ok (.iload 5, 2) := by decide +kernel
theorem eX7_findFault_29 : decode (zYb kX7_findFault) 29 = .ok (.bipush 97, 2) := by decide +kernel
theorem eX7_findFault_31 : decode (zYb kX7_findFault) 31 = .ok (.bipush 122, 2) := by decide +kernel
theorem eX7_findFault_33 : decode (zYb kX7_findFault) 33 = .ok (.invokestatic 54, 3) := by decide +kernel
theorem eX7_findFault_36 : decode (zYb kX7_findFault) 36 = .ok (.ifCond .eq 13, 3) := by decide +kernel
theorem eX7_findFault_39 : decode (zYb kX7_findFault) 39 = .ok (.iload_n 1, 1) := by decide +kernel
theorem eX7_findFault_40 : decode (zYb kX7_findFault) 40 = .ok (.bipush 12, 2) := by decide +kernel
theorem eX7_findFault_42 : decode (zYb kX7_findFault) 42 = .ok (.if_icmp .ge 7, 3) := by decide +kernel
theorem eX7_findFault_45 : decode (zYb kX7_findFault) 45 = .ok (.iconst 1, 1) := by decide +kernel
theorem eX7_findFault_46 : decode (zYb kX7_findFault) 46 = .ok (.goto 4, 3) := by decide +kernel
theorem eX7_findFault_49 : decode (zYb kX7_findFault) 49 = .ok (.iconst 0, 1) := by decide +kernel
theorem eX7_findFault_50 : decode (zYb kX7_findFault) 50 = .ok (.istore 6, 2) := by decide +kernel
theorem eX7_findFault_52 : decode (zYb kX7_findFault) 52 = .ok (.iload 5, 2) := by decide +kernel
theorem eX7_findFault_54 : decode (zYb kX7_findFault) 54 = .ok (.bipush 124, 2) := by decide +kernel
theorem eX7_findFault_56 : decode (zYb kX7_findFault) 56 = .ok (.if_icmp .ne 16, 3) := by decide +kernel
theorem eX7_findFault_59 : decode (zYb kX7_findFault) 59 = .ok (.iload_n 1, 1) := by decide +kernel
theorem eX7_findFault_60 : decode (zYb kX7_findFault) 60 = .ok (.ifCond .le 12, 3) := by decide +kernel
theorem eX7_findFault_63 : decode (zYb kX7_findFault) 63 = .ok (.iload_n 2, 1) := by decide +kernel
theorem eX7_findFault_64 : decode (zYb kX7_findFault) 64 = .ok (.iconst 5, 1) := by decide +kernel
theorem eX7_findFault_65 : decode (zYb kX7_findFault) 65 = .ok (.if_icmp .ge 7, 3) := by decide +kernel
theorem eX7_findFault_68 : decode (zYb kX7_findFault) 68 = .ok (.iconst 1, 1) := by decide +kernel
theorem eX7_findFault_69 : decode (zYb kX7_findFault) 69 = .ok (.goto 4, 3) := by decide +kernel
theorem eX7_findFault_72 : decode (zYb kX7_findFault) 72 = .ok (.iconst 0, 1) := by decide +kernel
theorem eX7_findFault_73 : decode (zYb kX7_findFault) 73 = .ok (.istore 7, 2) := by decide +kernel
theorem eX7_findFault_75 : decode (zYb kX7_findFault) 75 = .ok (.iload 5, 2) := by decide +kernel
theorem eX7_findFault_77 : decode (zYb kX7_findFault) 77 = .ok (.bipush 59, 2) := by decide +kernel
theorem eX7_findFault_79 : decode (zYb kX7_findFault) 79 = .ok (.if_icmp .ne 16, 3) := by decide +kernel
theorem eX7_findFault_82 : decode (zYb kX7_findFault) 82 = .ok (.iload_n 1, 1) := by decide +kernel
theorem eX7_findFault_83 : decode (zYb kX7_findFault) 83 = .ok (.ifCond .le 12, 3) := by decide +kernel
theorem eX7_findFault_86 : decode (zYb kX7_findFault) 86 = .ok (.iload_n 3, 1) := by decide +kernel
theorem eX7_findFault_87 : decode (zYb kX7_findFault) 87 = .ok (.iconst 5, 1) := by decide +kernel
theorem eX7_findFault_88 : decode (zYb kX7_findFault) 88 = .ok (.if_icmp .ge 7, 3) := by decide +kernel
theorem eX7_findFault_91 : decode (zYb kX7_findFault) 91 = .ok (.iconst 1, 1) := by decide +kernel
theorem eX7_findFault_92 : decode (zYb kX7_findFault) 92 = .ok (.goto 4, 3) := by decide +kernel
theorem eX7_findFault_95 : decode (zYb kX7_findFault) 95 = .ok (.iconst 0, 1) := by decide +kernel
theorem eX7_findFault_96 : decode (zYb kX7_findFault) 96 = .ok (.istore 8, 2) := by decide +kernel
theorem eX7_findFault_98 : decode (zYb kX7_findFault) 98 = .ok (.iload 6, 2) := by decide +kernel
theorem eX7_findFault_100 : decode (zYb kX7_findFault) 100 = .ok (.ifCond .ne 16, 3) := by decide +kernel
theorem eX7_findFault_103 : decode (zYb kX7_findFault) 103 = .ok (.iload 7, 2) := by decide +kernel
theorem eX7_findFault_105 : decode (zYb kX7_findFault) 105 = .ok (.ifCond .ne 11, 3) := by decide +kernel
theorem eX7_findFault_108 : decode (zYb kX7_findFault) 108 = .ok (.iload 8, 2) := by decide +kernel
theorem eX7_findFault_110 : decode (zYb kX7_findFault) 110 = .ok (.ifCond .ne 6, 3) := by decide +kernel
theorem eX7_findFault_113 : decode (zYb kX7_findFault) 113 = .ok (.iload 4, 2) := by decide +kernel
theorem eX7_findFault_115 : decode (zYb kX7_findFault) 115 = .ok (.ireturn, 1) := by decide +kernel
theorem eX7_findFault_116 : decode (zYb kX7_findFault) 116 = .ok (.iload 6, 2) := by decide +kernel
theorem eX7_findFault_118 : decode (zYb kX7_findFault) 118 = .ok (.ifCond .eq 9, 3) := by decide +kernel
theorem eX7_findFault_121 : decode (zYb kX7_findFault) 121 = .ok (.iload_n 1, 1) := by decide +kernel
theorem eX7_findFault_122 : decode (zYb kX7_findFault) 122 = .ok (.iconst 1, 1) := by decide +kernel
theorem eX7_findFault_123 : decode (zYb kX7_findFault) 123 = .ok (.iadd, 1) := by decide +kernel
theorem eX7_findFault_124 : decode (zYb kX7_findFault) 124 = .ok (.goto 4, 3) := by decide +kernel
theorem eX7_findFault_127 : decode (zYb kX7_findFault) 127 = .ok (.iconst 0, 1) := by decide +kernel
theorem eX7_findFault_128 : decode (zYb kX7_findFault) 128 = .ok (.istore_n 1, 1) := by decide +kernel
theorem eX7_findFault_129 : decode (zYb kX7_findFault) 129 = .ok (.iload 8, 2) := by decide +kernel
theorem eX7_findFault_131 : decode (zYb kX7_findFault) 131 = .ok (.ifCond .eq 7, 3) := by decide +kernel
theorem eX7_findFault_134 : decode (zYb kX7_findFault) 134 = .ok (.iconst 1, 1) := by decide +kernel
theorem eX7_findFault_135 : decode (zYb kX7_findFault) 135 = .ok (.goto 15, 3) := by decide +kernel
theorem eX7_findFault_138 : decode (zYb kX7_findFault) 138 = .ok (.iload 7, 2) := by decide +kernel
theorem eX7_findFault_140 : decode (zYb kX7_findFault) 140 = .ok (.ifCond .eq 9, 3) := by decide +kernel
theorem eX7_findFault_143 : decode (zYb kX7_findFault) 143 = .ok (.iload_n 2, 1) := by decide +kernel
theorem eX7_findFault_144 : decode (zYb kX7_findFault) 144 = .ok (.iconst 1, 1) := by decide +kernel
theorem eX7_findFault_145 : decode (zYb kX7_findFault) 145 = .ok (.iadd, 1) := by decide +kernel
theorem eX7_findFault_146 : decode (zYb kX7_findFault) 146 = .ok (.goto 4, 3) := by decide +kernel
theorem eX7_findFault_149 : decode (zYb kX7_findFault) 149 = .ok (.iload_n 2, 1) := by decide +kernel
theorem eX7_findFault_150 : decode (zYb kX7_findFault) 150 = .ok (.istore_n 2, 1) := by decide +kernel
theorem eX7_findFault_151 : decode (zYb kX7_findFault) 151 = .ok (.iload_n 3, 1) := by decide +kernel
theorem eX7_findFault_152 : decode (zYb kX7_findFault) 152 = .ok (.iload 8, 2) := by decide +kernel
theorem eX7_findFault_154 : decode (zYb kX7_findFault) 154 = .ok (.ifCond .eq 7, 3) := by decide +kernel
theorem eX7_findFault_157 : decode (zYb kX7_findFault) 157 = .ok (.iconst 1, 1) := by decide +kernel
theorem eX7_findFault_158 : decode (zYb kX7_findFault) 158 = .ok (.goto 4, 3) := by decide +kernel
theorem eX7_findFault_161 : decode (zYb kX7_findFault) 161 = .ok (.iconst 0, 1) := by decide +kernel
theorem eX7_findFault_162 : decode (zYb kX7_findFault) 162 = .ok (.iadd, 1) := by decide +kernel
theorem eX7_findFault_163 : decode (zYb kX7_findFault) 163 = .ok (.istore_n 3, 1) := by decide +kernel
theorem eX7_findFault_164 : decode (zYb kX7_findFault) 164 = .ok (.iinc 4 1, 3) := by decide +kernel
theorem eX7_findFault_167 : decode (zYb kX7_findFault) 167 = .ok (.goto (-158), 3) := by decide +kernel
theorem eX7_findFault_170 : decode (zYb kX7_findFault) 170 = .ok (.iload_n 1, 1) := by decide +kernel
theorem eX7_findFault_171 : decode (zYb kX7_findFault) 171 = .ok (.ifCond .le 8, 3) := by decide +kernel
theorem eX7_findFault_174 : decode (zYb kX7_findFault) 174 = .ok (.bipush (-6), 2) := by decide +kernel
theorem eX7_findFault_176 : decode (zYb kX7_findFault) 176 = .ok (.goto 7, 3) := by decide +kernel
theorem eX7_findFault_179 : decode (zYb kX7_findFault) 179 = .ok (.aload_n 0, 1) := by decide +kernel
theorem eX7_findFault_180 : decode (zYb kX7_findFault) 180 = .ok (.getfield 109, 3) := by decide +kernel
theorem eX7_findFault_183 : decode (zYb kX7_findFault) 183 = .ok (.ireturn, 1) := by decide +kernel
theorem eX7_fault_0 : decode (zYb kX7_fault) 0 = .ok (.aload_n 0, 1) := by decide +kernel
theorem eX7_fault_1 : decode (zYb kX7_fault) 1 = .ok (.invokevirtual 112, 3) := by decide +kernel
theorem eX7_fault_4 : decode (zYb kX7_fault) 4 = .ok (.ireturn, 1) := by decide +kernel
theorem eX7_undo_0 : decode (zYb kX7_undo) 0 = .ok (.aload_n 0, 1) := by decide +kernel
theorem eX7_undo_1 : decode (zYb kX7_undo) 1 = .ok (.getfield 46, 3) := by decide +kernel
theorem eX7_undo_4 : decode (zYb kX7_undo) 4 = .ok (.ifCond .ne 6, 3) := by decide +kernel
theorem eX7_undo_7 : decode (zYb kX7_undo) 7 = .ok (.bipush (-5), 2) := by decide +kernel
theorem eX7_undo_9 : decode (zYb kX7_undo) 9 = .ok (.ireturn, 1) := by decide +kernel
theorem eX7_undo_10 : decode (zYb kX7_undo) 10 = .ok (.aload_n 0, 1) := by decide +kernel
theorem eX7_undo_11 : decode (zYb kX7_undo) 11 = .ok (.dup, 1) := by decide +kernel
theorem eX7_undo_12 : decode (zYb kX7_undo) 12 = .ok (.getfield 46, 3) := by decide +kernel
theorem eX7_undo_15 : decode (zYb kX7_undo) 15 = .ok (.iconst 1, 1) := by decide +kernel
theorem eX7_undo_16 : decode (zYb kX7_undo) 16 = .ok (.isub, 1) := by decide +kernel
theorem eX7_undo_17 : decode (zYb kX7_undo) 17 = .ok (.putfield 46, 3) := by decide +kernel
theorem eX7_undo_20 : decode (zYb kX7_undo) 20 = .ok (.aload_n 0, 1) := by decide +kernel
theorem eX7_undo_21 : decode (zYb kX7_undo) 21 = .ok (.getfield 13, 3) := by decide +kernel
theorem eX7_undo_24 : decode (zYb kX7_undo) 24 = .ok (.aload_n 0, 1) := by decide +kernel
theorem eX7_undo_25 : decode (zYb kX7_undo) 25 = .ok (.getfield 46, 3) := by decide +kernel
theorem eX7_undo_28 : decode (zYb kX7_undo) 28 = .ok (.sipush 336, 3) := by decide +kernel
theorem eX7_undo_31 : decode (zYb kX7_undo) 31 = .ok (.imul, 1) := by decide +kernel
theorem eX7_undo_32 : decode (zYb kX7_undo) 32 = .ok (.aload_n 0, 1) := by decide +kernel
theorem eX7_undo_33 : decode (zYb kX7_undo) 33 = .ok (.getfield 7, 3) := by decide +kernel
theorem eX7_undo_36 : decode (zYb kX7_undo) 36 = .ok (.iconst 0, 1) := by decide +kernel
theorem eX7_undo_37 : decode (zYb kX7_undo) 37 = .ok (.invokestatic 50, 3) := by decide +kernel
theorem eX7_undo_40 : decode (zYb kX7_undo) 40 = .ok (.aload_n 0, 1) := by decide +kernel
theorem eX7_undo_41 : decode (zYb kX7_undo) 41 = .ok (.getfield 46, 3) := by decide +kernel
theorem eX7_undo_44 : decode (zYb kX7_undo) 44 = .ok (.ireturn, 1) := by decide +kernel
theorem eX7_save_0 : decode (zYb kX7_save) 0 = .ok (.iload_n 1, 1) := by decide +kernel
theorem eX7_save_1 : decode (zYb kX7_save) 1 = .ok (.iconst 0, 1) := by decide +kernel
theorem eX7_save_2 : decode (zYb kX7_save) 2 = .ok (.iconst 1, 1) := by decide +kernel
theorem eX7_save_3 : decode (zYb kX7_save) 3 = .ok (.invokestatic 54, 3) := by decide +kernel
theorem eX7_save_6 : decode (zYb kX7_save) 6 = .ok (.ifCond .ne 6, 3) := by decide +kernel
theorem eX7_save_9 : decode (zYb kX7_save) 9 = .ok (.bipush (-2), 2) := by decide +kernel
theorem eX7_save_11 : decode (zYb kX7_save) 11 = .ok (.ireturn, 1) := by decide +kernel
theorem eX7_save_12 : decode (zYb kX7_save) 12 = .ok (.aload_n 0, 1) := by decide +kernel
theorem eX7_save_13 : decode (zYb kX7_save) 13 = .ok (.getfield 7, 3) := by decide +kernel
theorem eX7_save_16 : decode (zYb kX7_save) 16 = .ok (.iconst 0, 1) := by decide +kernel
theorem eX7_save_17 : decode (zYb kX7_save) 17 = .ok (.aload_n 0, 1) := by decide +kernel
theorem eX7_save_18 : decode (zYb kX7_save) 18 = .ok (.getfield 16, 3) := by decide +kernel
theorem eX7_save_21 : decode (zYb kX7_save) 21 = .ok (.sipush 336, 3) := by decide +kernel
theorem eX7_save_24 : decode (zYb kX7_save) 24 = .ok (.iload_n 1, 1) := by decide +kernel
theorem eX7_save_25 : decode (zYb kX7_save) 25 = .ok (.imul, 1) := by decide +kernel
theorem eX7_save_26 : decode (zYb kX7_save) 26 = .ok (.invokestatic 50, 3) := by decide +kernel
theorem eX7_save_29 : decode (zYb kX7_save) 29 = .ok (.aload_n 0, 1) := by decide +kernel
theorem eX7_save_30 : decode (zYb kX7_save) 30 = .ok (.getfield 19, 3) := by decide +kernel
theorem eX7_save_33 : decode (zYb kX7_save) 33 = .ok (.iload_n 1, 1) := by decide +kernel
theorem eX7_save_34 : decode (zYb kX7_save) 34 = .ok (.iconst 1, 1) := by decide +kernel
theorem eX7_save_35 : decode (zYb kX7_save) 35 = .ok (.iastore, 1) := by decide +kernel
theorem eX7_save_36 : decode (zYb kX7_save) 36 = .ok (.aload_n 0, 1) := by decide +kernel
theorem eX7_save_37 : decode (zYb kX7_save) 37 = .ok (.getfield 7, 3) := by decide +kernel
theorem eX7_save_40 : decode (zYb kX7_save) 40 = .ok (.iconst 0, 1) := by decide +kernel
theorem eX7_save_41 : decode (zYb kX7_save) 41 = .ok (.iaload, 1) := by decide +kernel
theorem eX7_save_42 : decode (zYb kX7_save) 42 = .ok (.ireturn, 1) := by decide +kernel
theorem eX7_restore_0 : decode (zYb kX7_restore) 0 = .ok (.iload_n 1, 1) := by decide +kernel
theorem eX7_restore_1 : decode (zYb kX7_restore) 1 = .ok (.iconst 0, 1) := by decide +kernel
theorem eX7_restore_2 : decode (zYb kX7_restore) 2 = .ok (.iconst 1, 1) := by decide +kernel
theorem eX7_restore_3 : decode (zYb kX7_restore) 3 = .ok (.invokestatic 54, 3) := by decide +kernel
theorem eX7_restore_6 : decode (zYb kX7_restore) 6 = .ok (.ifCond .ne 6, 3) := by decide +kernel
theorem eX7_restore_9 : decode (zYb kX7_restore) 9 = .ok (.bipush (-2), 2) := by decide +kernel
theorem eX7_restore_11 : decode (zYb kX7_restore) 11 = .ok (.ireturn, 1) := by decide +kernel
theorem eX7_restore_12 : decode (zYb kX7_restore) 12 = .ok (.aload_n 0, 1) := by decide +kernel
theorem eX7_restore_13 : decode (zYb kX7_restore) 13 = .ok (.getfield 19, 3) := by decide +kernel
theorem eX7_restore_16 : decode (zYb kX7_restore) 16 = .ok (.iload_n 1, 1) := by decide +kernel
theorem eX7_restore_17 : decode (zYb kX7_restore) 17 = .ok (.iaload, 1) := by decide +kernel
theorem eX7_restore_18 : decode (zYb kX7_restore) 18 = .ok (.ifCond .ne 6, 3) := by decide +kernel
theorem eX7_restore_21 : decode (zYb kX7_restore) 21 = .ok (.bipush (-5), 2) := by decide +kernel
theorem eX7_restore_23 : decode (zYb kX7_restore) 23 = .ok (.ireturn, 1) := by decide +kernel
theorem eX7_restore_24 : decode (zYb kX7_restore) 24 = .ok (.aload_n 0, 1) := by decide +kernel
theorem eX7_restore_25 : decode (zYb kX7_restore) 25 = .ok (.invokevirtual 118, 3) := by decide +kernel
theorem eX7_restore_28 : decode (zYb kX7_restore) 28 = .ok (.aload_n 0, 1) := by decide +kernel
theorem eX7_restore_29 : decode (zYb kX7_restore) 29 = .ok (.getfield 16, 3) := by decide +kernel
theorem eX7_restore_32 : decode (zYb kX7_restore) 32 = .ok (.sipush 336, 3) := by decide +kernel
theorem eX7_restore_35 : decode (zYb kX7_restore) 35 = .ok (.iload_n 1, 1) := by decide +kernel
theorem eX7_restore_36 : decode (zYb kX7_restore) 36 = .ok (.imul, 1) := by decide +kernel
theorem eX7_restore_37 : decode (zYb kX7_restore) 37 = .ok (.aload_n 0, 1) := by decide +kernel
theorem eX7_restore_38 : decode (zYb kX7_restore) 38 = .ok (.getfield 7, 3) := by decide +kernel
theorem eX7_restore_41 : decode (zYb kX7_restore) 41 = .ok (.iconst 0, 1) := by decide +kernel
theorem eX7_restore_42 : decode (zYb kX7_restore) 42 = .ok (.invokestatic 50, 3) := by decide +kernel
theorem eX7_restore_45 : decode (zYb kX7_restore) 45 = .ok (.aload_n 0, 1) := by decide +kernel
theorem eX7_restore_46 : decode (zYb kX7_restore) 46 = .ok (.getfield 7, 3) := by decide +kernel
theorem eX7_restore_49 : decode (zYb kX7_restore) 49 = .ok (.iconst 0, 1) := by decide +kernel
theorem eX7_restore_50 : decode (zYb kX7_restore) 50 = .ok (.iaload, 1) := by decide +kernel
theorem eX7_restore_51 : decode (zYb kX7_restore) 51 = .ok (.ireturn, 1) := by decide +kernel
end
section
theorem eL_law_0 : decode (zYb kL_law) 0 = .ok (.new 7, 3) := by decide +kernel
theorem eL_law_3 : decode (zYb kL_law) 3 = .ok (.dup, 1) := by decide +kernel
theorem eL_law_4 : decode (zYb kL_law) 4 = .ok (.invokespecial 9, 3) := by decide +kernel
theorem eL_law_7 : decode (zYb kL_law) 7 = .ok (.astore_n 1, 1) := by decide +kernel
theorem eL_law_8 : decode (zYb kL_law) 8 = .ok (.new 10, 3) := by decide +kernel
theorem eL_law_11 : decode (zYb kL_law) 11 = .ok (.dup, 1) := by decide +kernel
theorem eL_law_12 : decode (zYb kL_law) 12 = .ok (.invokespecial 12, 3) := by decide +kernel
theorem eL_law_15 : decode (zYb kL_law) 15 = .ok (.astore_n 2, 1) := by decide +kernel
theorem eL_law_16 : decode (zYb kL_law) 16 = .ok (.iconst 0, 1) := by decide +kernel
theorem eL_law_17 : decode (zYb kL_law) 17 = .ok (.istore_n 3, 1) := by decide +kernel
theorem eL_law_18 : decode (zYb kL_law) 18 = .ok (.iload_n 3, 1) := by decide +kernel
theorem eL_law_19 : decode (zYb kL_law) 19 = .ok (.aload_n 0, 1) := by decide +kernel
theorem eL_law_20 : decode (zYb kL_law) 20 = .ok (.arraylength, 1) := by decide +kernel
theorem eL_law_21 : decode (zYb kL_law) 21 = .ok (.iconst 4, 1) := by decide +kernel
theorem eL_law_22 : decode (zYb kL_law) 22 = .ok (.isub, 1) := by decide +kernel
theorem eL_law_23 : decode (zYb kL_law) 23 = .ok (.if_icmp .gt 822, 3) := by decide +kernel
theorem eL_law_26 : decode (zYb kL_law) 26 = .ok (.aload_n 0, 1) := by decide +kernel
theorem eL_law_27 : decode (zYb kL_law) 27 = .ok (.iload_n 3, 1) := by decide +kernel
theorem eL_law_28 : decode (zYb kL_law) 28 = .ok (.iaload, 1) := by decide +kernel
theorem eL_law_29 : decode (zYb kL_law) 29 = .ok (.bipush 31, 2) := by decide +kernel
theorem eL_law_31 : decode (zYb kL_law) 31 = .ok (.iand, 1) := by decide +kernel
theorem eL_law_32 : decode (zYb kL_law) 32 = .ok (.tableswitch 807 0 22 #[108, 121, 144, 187, 220, 253, 286, 319, 352, 385, 428, 471, 504, 537, 570, 593, 636, 669, 722, 735, 748, 761, 784], 108) := by decide +kernel
theorem eL_law_140 : decode (zYb kL_law) 140 = .ok (.aload_n 1, 1) := by decide +kernel
theorem eL_law_141 : decode (zYb kL_law) 141 = .ok (.invokevirtual 13, 3) := by decide +kernel
theorem eL_law_144 : decode (zYb kL_law) 144 = .ok (.aload_n 2, 1) := by decide +kernel
theorem eL_law_145 : decode (zYb kL_law) 145 = .ok (.invokevirtual 17, 3) := by decide +kernel
theorem eL_law_148 : decode (zYb kL_law) 148 = .ok (.if_icmp .eq 691, 3) := by decide +kernel
theorem eL_law_151 : decode (zYb kL_law) 151 = .ok (.iconst 0, 1) := by decide +kernel
theorem eL_law_152 : decode (zYb kL_law) 152 = .ok (.ireturn, 1) := by decide +kernel
theorem eL_law_153 : decode (zYb kL_law) 153 = .ok (.aload_n 1, 1) := by decide +kernel
theorem eL_law_154 : decode (zYb kL_law) 154 = .ok (.aload_n 0, 1) := by decide +kernel
theorem eL_law_155 : decode (zYb kL_law) 155 = .ok (.iload_n 3, 1) := by decide +kernel
theorem eL_law_156 : decode (zYb kL_law) 156 = .ok (.iconst 1, 1) := by decide +kernel
theorem eL_law_157 : decode (zYb kL_law) 157 = .ok (.iadd, 1) := by decide +kernel
theorem eL_law_158 : decode (zYb kL_law) 158 = .ok (.iaload, 1) := by decide +kernel
theorem eL_law_159 : decode (zYb kL_law) 159 = .ok (.invokevirtual 18, 3) := by decide +kernel
theorem eL_law_162 : decode (zYb kL_law) 162 = .ok (.aload_n 2, 1) := by decide +kernel
theorem eL_law_163 : decode (zYb kL_law) 163 = .ok (.aload_n 0, 1) := by decide +kernel
theorem eL_law_164 : decode (zYb kL_law) 164 = .ok (.iload_n 3, 1) := by decide +kernel
theorem eL_law_165 : decode (zYb kL_law) 165 = .ok (.iconst 1, 1) := by decide +kernel
theorem eL_law_166 : decode (zYb kL_law) 166 = .ok (.iadd, 1) := by decide +kernel
theorem eL_law_167 : decode (zYb kL_law) 167 = .ok (.iaload, 1) := by decide +kernel
theorem eL_law_168 : decode (zYb kL_law) 168 = .ok (.invokevirtual 22, 3) := by decide +kernel
theorem eL_law_171 : decode (zYb kL_law) 171 = .ok (.if_icmp .eq 668, 3) := by decide +kernel
theorem eL_law_174 : decode (zYb kL_law) 174 = .ok (.iconst 0, 1) := by decide +kernel
theorem eL_law_175 : decode (zYb kL_law) 175 = .ok (.ireturn, 1) := by decide +kernel
theorem eL_law_176 : decode (zYb kL_law) 176 = .ok (.aload_n 1, 1) := by decide +kernel
theorem eL_law_177 : decode (zYb kL_law) 177 = .ok (.aload_n 0, 1) := by decide +kernel
theorem eL_law_178 : decode (zYb kL_law) 178 = .ok (.iload_n 3, 1) := by decide +kernel
theorem eL_law_179 : decode (zYb kL_law) 179 = .ok (.iconst 1, 1) := by decide +kernel
theorem eL_law_180 : decode (zYb kL_law) 180 = .ok (.iadd, 1) := by decide +kernel
theorem eL_law_181 : decode (zYb kL_law) 181 = .ok (.iaload, 1) := by decide +kernel
theorem eL_law_182 : decode (zYb kL_law) 182 = .ok (.aload_n 0, 1) := by decide +kernel
theorem eL_law_183 : decode (zYb kL_law) 183 = .ok (.iload_n 3, 1) := by decide +kernel
theorem eL_law_184 : decode (zYb kL_law) 184 = .ok (.iconst 2, 1) := by decide +kernel
theorem eL_law_185 : decode (zYb kL_law) 185 = .ok (.iadd, 1) := by decide +kernel
theorem eL_law_186 : decode (zYb kL_law) 186 = .ok (.iaload, 1) := by decide +kernel
theorem eL_law_187 : decode (zYb kL_law) 187 = .ok (.aload_n 0, 1) := by decide +kernel
theorem eL_law_188 : decode (zYb kL_law) 188 = .ok (.iload_n 3, 1) := by decide +kernel
theorem eL_law_189 : decode (zYb kL_law) 189 = .ok (.iconst 3, 1) := by decide +kernel
theorem eL_law_190 : decode (zYb kL_law) 190 = .ok (.iadd, 1) := by decide +kernel
theorem eL_law_191 : decode (zYb kL_law) 191 = .ok (.iaload, 1) := by decide +kernel
theorem eL_law_192 : decode (zYb kL_law) 192 = .ok (.invokevirtual 23, 3) := by decide +kernel
theorem eL_law_195 : decode (zYb kL_law) 195 = .ok (.aload_n 2, 1) := by decide +kernel
theorem eL_law_196 : decode (zYb kL_law) 196 = .ok (.aload_n 0, 1) := by decide +kernel
theorem eL_law_197 : decode (zYb kL_law) 197 = .ok (.iload_n 3, 1) := by decide +kernel
theorem eL_law_198 : decode (zYb kL_law) 198 = .ok (.iconst 1, 1) := by decide +kernel
theorem eL_law_199 : decode (zYb kL_law) 199 = .ok (.iadd, 1) := by decide +kernel
theorem eL_law_200 : decode (zYb kL_law) 200 = .ok (.iaload, 1) := by decide +kernel
theorem eL_law_201 : decode (zYb kL_law) 201 = .ok (.aload_n 0, 1) := by decide +kernel
theorem eL_law_202 : decode (zYb kL_law) 202 = .ok (.iload_n 3, 1) := by decide +kernel
theorem eL_law_203 : decode (zYb kL_law) 203 = .ok (.iconst 2, 1) := by decide +kernel
theorem eL_law_204 : decode (zYb kL_law) 204 = .ok (.iadd, 1) := by decide +kernel
theorem eL_law_205 : decode (zYb kL_law) 205 = .ok (.iaload, 1) := by decide +kernel
theorem eL_law_206 : decode (zYb kL_law) 206 = .ok (.aload_n 0, 1) := by decide +kernel
theorem eL_law_207 : decode (zYb kL_law) 207 = .ok (.iload_n 3, 1) := by decide +kernel
theorem eL_law_208 : decode (zYb kL_law) 208 = .ok (.iconst 3, 1) := by decide +kernel
theorem eL_law_209 : decode (zYb kL_law) 209 = .ok (.iadd, 1) := by decide +kernel
theorem eL_law_210 : decode (zYb kL_law) 210 = .ok (.iaload, 1) := by decide +kernel
theorem eL_law_211 : decode (zYb kL_law) 211 = .ok (.invokevirtual 27, 3) := by decide +kernel
theorem eL_law_214 : decode (zYb kL_law) 214 = .ok (.if_icmp .eq 625, 3) := by decide +kernel
theorem eL_law_217 : decode (zYb kL_law) 217 = .ok (.iconst 0, 1) := by decide +kernel
theorem eL_law_218 : decode (zYb kL_law) 218 = .ok (.ireturn, 1) := by decide +kernel
theorem eL_law_219 : decode (zYb kL_law) 219 = .ok (.aload_n 1, 1) := by decide +kernel
theorem eL_law_220 : decode (zYb kL_law) 220 = .ok (.aload_n 0, 1) := by decide +kernel
theorem eL_law_221 : decode (zYb kL_law) 221 = .ok (.iload_n 3, 1) := by decide +kernel
theorem eL_law_222 : decode (zYb kL_law) 222 = .ok (.iconst 1, 1) := by decide +kernel
theorem eL_law_223 : decode (zYb kL_law) 223 = .ok (.iadd, 1) := by decide +kernel
theorem eL_law_224 : decode (zYb kL_law) 224 = .ok (.iaload, 1) := by decide +kernel
theorem eL_law_225 : decode (zYb kL_law) 225 = .ok (.aload_n 0, 1) := by decide +kernel
theorem eL_law_226 : decode (zYb kL_law) 226 = .ok (.iload_n 3, 1) := by decide +kernel
theorem eL_law_227 : decode (zYb kL_law) 227 = .ok (.iconst 2, 1) := by decide +kernel
theorem eL_law_228 : decode (zYb kL_law) 228 = .ok (.iadd, 1) := by decide +kernel
theorem eL_law_229 : decode (zYb kL_law) 229 = .ok (.iaload, 1) := by decide +kernel
theorem eL_law_230 : decode (zYb kL_law) 230 = .ok (.invokevirtual 28, 3) := by decide +kernel
theorem eL_law_233 : decode (zYb kL_law) 233 = .ok (.aload_n 2, 1) := by decide +kernel
theorem eL_law_234 : decode (zYb kL_law) 234 = .ok (.aload_n 0, 1) := by decide +kernel
theorem eL_law_235 : decode (zYb kL_law) 235 = .ok (.iload_n 3, 1) := by decide +kernel
theorem eL_law_236 : decode (zYb kL_law) 236 = .ok (.iconst 1, 1) := by decide +kernel
theorem eL_law_237 : decode (zYb kL_law) 237 = .ok (.iadd, 1) := by decide +kernel
theorem eL_law_238 : decode (zYb kL_law) 238 = .ok (.iaload, 1) := by decide +kernel
theorem eL_law_239 : decode (zYb kL_law) 239 = .ok (.aload_n 0, 1) := by decide +kernel
theorem eL_law_240 : decode (zYb kL_law) 240 = .ok (.iload_n 3, 1) := by decide +kernel
theorem eL_law_241 : decode (zYb kL_law) 241 = .ok (.iconst 2, 1) := by decide +kernel
theorem eL_law_242 : decode (zYb kL_law) 242 = .ok (.iadd, 1) := by decide +kernel
theorem eL_law_243 : decode (zYb kL_law) 243 = .ok (.iaload, 1) := by decide +kernel
theorem eL_law_244 : decode (zYb kL_law) 244 = .ok (.invokevirtual 32, 3) := by decide +kernel
theorem eL_law_247 : decode (zYb kL_law) 247 = .ok (.if_icmp .eq 592, 3) := by decide +kernel
theorem eL_law_250 : decode (zYb kL_law) 250 = .ok (.iconst 0, 1) := by decide +kernel
theorem eL_law_251 : decode (zYb kL_law) 251 = .ok (.ireturn, 1) := by decide +kernel
theorem eL_law_252 : decode (zYb kL_law) 252 = .ok (.aload_n 1, 1) := by decide +kernel
theorem eL_law_253 : decode (zYb kL_law) 253 = .ok (.aload_n 0, 1) := by decide +kernel
theorem eL_law_254 : decode (zYb kL_law) 254 = .ok (.iload_n 3, 1) := by decide +kernel
theorem eL_law_255 : decode (zYb kL_law) 255 = .ok (.iconst 1, 1) := by decide +kernel
theorem eL_law_256 : decode (zYb kL_law) 256 = .ok (.iadd, 1) := by decide +kernel
theorem eL_law_257 : decode (zYb kL_law) 257 = .ok (.iaload, 1) := by decide +kernel
theorem eL_law_258 : decode (zYb kL_law) 258 = .ok (.aload_n 0, 1) := by decide +kernel
theorem eL_law_259 : decode (zYb kL_law) 259 = .ok (.iload_n 3, 1) := by decide +kernel
theorem eL_law_260 : decode (zYb kL_law) 260 = .ok (.iconst 2, 1) := by decide +kernel
theorem eL_law_261 : decode (zYb kL_law) 261 = .ok (.iadd, 1) := by decide +kernel
theorem eL_law_262 : decode (zYb kL_law) 262 = .ok (.iaload, 1) := by decide +kernel
theorem eL_law_263 : decode (zYb kL_law) 263 = .ok (.invokevirtual 33, 3) := by decide +kernel
theorem eL_law_266 : decode (zYb kL_law) 266 = .ok (.aload_n 2, 1) := by decide +kernel
theorem eL_law_267 : decode (zYb kL_law) 267 = .ok (.aload_n 0, 1) := by decide +kernel
theorem eL_law_268 : decode (zYb kL_law) 268 = .ok (.iload_n 3, 1) := by decide +kernel
theorem eL_law_269 : decode (zYb kL_law) 269 = .ok (.iconst 1, 1) := by decide +kernel
theorem eL_law_270 : decode (zYb kL_law) 270 = .ok (.iadd, 1) := by decide +kernel
theorem eL_law_271 : decode (zYb kL_law) 271 = .ok (.iaload, 1) := by decide +kernel
theorem eL_law_272 : decode (zYb kL_law) 272 = .ok (.aload_n 0, 1) := by decide +kernel
theorem eL_law_273 : decode (zYb kL_law) 273 = .ok (.iload_n 3, 1) := by decide +kernel
theorem eL_law_274 : decode (zYb kL_law) 274 = .ok (.iconst 2, 1) := by decide +kernel
theorem eL_law_275 : decode (zYb kL_law) 275 = .ok (.iadd, 1) := by decide +kernel
theorem eL_law_276 : decode (zYb kL_law) 276 = .ok (.iaload, 1) := by decide +kernel
theorem eL_law_277 : decode (zYb kL_law) 277 = .ok (.invokevirtual 36, 3) := by decide +kernel
theorem eL_law_280 : decode (zYb kL_law) 280 = .ok (.if_icmp .eq 559, 3) := by decide +kernel
theorem eL_law_283 : decode (zYb kL_law) 283 = .ok (.iconst 0, 1) := by decide +kernel
theorem eL_law_284 : decode (zYb kL_law) 284 = .ok (.ireturn, 1) := by decide +kernel
theorem eL_law_285 : decode (zYb kL_law) 285 = .ok (.aload_n 1, 1) := by decide +kernel
theorem eL_law_286 : decode (zYb kL_law) 286 = .ok (.aload_n 0, 1) := by decide +kernel
theorem eL_law_287 : decode (zYb kL_law) 287 = .ok (.iload_n 3, 1) := by decide +kernel
theorem eL_law_288 : decode (zYb kL_law) 288 = .ok (.iconst 1, 1) := by decide +kernel
theorem eL_law_289 : decode (zYb kL_law) 289 = .ok (.iadd, 1) := by decide +kernel
theorem eL_law_290 : decode (zYb kL_law) 290 = .ok (.iaload, 1) := by decide +kernel
theorem eL_law_291 : decode (zYb kL_law) 291 = .ok (.aload_n 0, 1) := by decide +kernel
theorem eL_law_292 : decode (zYb kL_law) 292 = .ok (.iload_n 3, 1) := by decide +kernel
theorem eL_law_293 : decode (zYb kL_law) 293 = .ok (.iconst 2, 1) := by decide +kernel
theorem eL_law_294 : decode (zYb kL_law) 294 = .ok (.iadd, 1) := by decide +kernel
theorem eL_law_295 : decode (zYb kL_law) 295 = .ok (.iaload, 1) := by decide +kernel
theorem eL_law_296 : decode (zYb kL_law) 296 = .ok (.invokevirtual 37, 3) := by decide +kernel
theorem eL_law_299 : decode (zYb kL_law) 299 = .ok (.aload_n 2, 1) := by decide +kernel
theorem eL_law_300 : decode (zYb kL_law) 300 = .ok (.aload_n 0, 1) := by decide +kernel
theorem eL_law_301 : decode (zYb kL_law) 301 = .ok (.iload_n 3, 1) := by decide +kernel
theorem eL_law_302 : decode (zYb kL_law) 302 = .ok (.iconst 1, 1) := by decide +kernel
theorem eL_law_303 : decode (zYb kL_law) 303 = .ok (.iadd, 1) := by decide +kernel
theorem eL_law_304 : decode (zYb kL_law) 304 = .ok (.iaload, 1) := by decide +kernel
theorem eL_law_305 : decode (zYb kL_law) 305 = .ok (.aload_n 0, 1) := by decide +kernel
theorem eL_law_306 : decode (zYb kL_law) 306 = .ok (.iload_n 3, 1) := by decide +kernel
theorem eL_law_307 : decode (zYb kL_law) 307 = .ok (.iconst 2, 1) := by decide +kernel
theorem eL_law_308 : decode (zYb kL_law) 308 = .ok (.iadd, 1) := by decide +kernel
theorem eL_law_309 : decode (zYb kL_law) 309 = .ok (.iaload, 1) := by decide +kernel
theorem eL_law_310 : decode (zYb kL_law) 310 = .ok (.invokevirtual 40, 3) := by decide +kernel
theorem eL_law_313 : decode (zYb kL_law) 313 = .ok (.if_icmp .eq 526, 3) := by decide +kernel
theorem eL_law_316 : decode (zYb kL_law) 316 = .ok (.iconst 0, 1) := by decide +kernel
theorem eL_law_317 : decode (zYb kL_law) 317 = .ok (.ireturn, 1) := by decide +kernel
theorem eL_law_318 : decode (zYb kL_law) 318 = .ok (.aload_n 1, 1) := by decide +kernel
theorem eL_law_319 : decode (zYb kL_law) 319 = .ok (.aload_n 0, 1) := by decide +kernel
theorem eL_law_320 : decode (zYb kL_law) 320 = .ok (.iload_n 3, 1) := by decide +kernel
theorem eL_law_321 : decode (zYb kL_law) 321 = .ok (.iconst 1, 1) := by decide +kernel
theorem eL_law_322 : decode (zYb kL_law) 322 = .ok (.iadd, 1) := by decide +kernel
theorem eL_law_323 : decode (zYb kL_law) 323 = .ok (.iaload, 1) := by decide +kernel
theorem eL_law_324 : decode (zYb kL_law) 324 = .ok (.aload_n 0, 1) := by decide +kernel
theorem eL_law_325 : decode (zYb kL_law) 325 = .ok (.iload_n 3, 1) := by decide +kernel
theorem eL_law_326 : decode (zYb kL_law) 326 = .ok (.iconst 2, 1) := by decide +kernel
theorem eL_law_327 : decode (zYb kL_law) 327 = .ok (.iadd, 1) := by decide +kernel
theorem eL_law_328 : decode (zYb kL_law) 328 = .ok (.iaload, 1) := by decide +kernel
theorem eL_law_329 : decode (zYb kL_law) 329 = .ok (.invokevirtual 41, 3) := by decide +kernel
theorem eL_law_332 : decode (zYb kL_law) 332 = .ok (.aload_n 2, 1) := by decide +kernel
theorem eL_law_333 : decode (zYb kL_law) 333 = .ok (.aload_n 0, 1) := by decide +kernel
theorem eL_law_334 : decode (zYb kL_law) 334 = .ok (.iload_n 3, 1) := by decide +kernel
theorem eL_law_335 : decode (zYb kL_law) 335 = .ok (.iconst 1, 1) := by decide +kernel
theorem eL_law_336 : decode (zYb kL_law) 336 = .ok (.iadd, 1) := by decide +kernel
theorem eL_law_337 : decode (zYb kL_law) 337 = .ok (.iaload, 1) := by decide +kernel
theorem eL_law_338 : decode (zYb kL_law) 338 = .ok (.aload_n 0, 1) := by decide +kernel
theorem eL_law_339 : decode (zYb kL_law) 339 = .ok (.iload_n 3, 1) := by decide +kernel
theorem eL_law_340 : decode (zYb kL_law) 340 = .ok (.iconst 2, 1) := by decide +kernel
theorem eL_law_341 : decode (zYb kL_law) 341 = .ok (.iadd, 1) := by decide +kernel
theorem eL_law_342 : decode (zYb kL_law) 342 = .ok (.iaload, 1) := by decide +kernel
theorem eL_law_343 : decode (zYb kL_law) 343 = .ok (.invokevirtual 44, 3) := by decide +kernel
theorem eL_law_346 : decode (zYb kL_law) 346 = .ok (.if_icmp .eq 493, 3) := by decide +kernel
theorem eL_law_349 : decode (zYb kL_law) 349 = .ok (.iconst 0, 1) := by decide +kernel
theorem eL_law_350 : decode (zYb kL_law) 350 = .ok (.ireturn, 1) := by decide +kernel
theorem eL_law_351 : decode (zYb kL_law) 351 = .ok (.aload_n 1, 1) := by decide +kernel
theorem eL_law_352 : decode (zYb kL_law) 352 = .ok (.aload_n 0, 1) := by decide +kernel
theorem eL_law_353 : decode (zYb kL_law) 353 = .ok (.iload_n 3, 1) := by decide +kernel
theorem eL_law_354 : decode (zYb kL_law) 354 = .ok (.iconst 1, 1) := by decide +kernel
theorem eL_law_355 : decode (zYb kL_law) 355 = .ok (.iadd, 1) := by decide +kernel
theorem eL_law_356 : decode (zYb kL_law) 356 = .ok (.iaload, 1) := by decide +kernel
theorem eL_law_357 : decode (zYb kL_law) 357 = .ok (.aload_n 0, 1) := by decide +kernel
theorem eL_law_358 : decode (zYb kL_law) 358 = .ok (.iload_n 3, 1) := by decide +kernel
theorem eL_law_359 : decode (zYb kL_law) 359 = .ok (.iconst 2, 1) := by decide +kernel
theorem eL_law_360 : decode (zYb kL_law) 360 = .ok (.iadd, 1) := by decide +kernel
theorem eL_law_361 : decode (zYb kL_law) 361 = .ok (.iaload, 1) := by decide +kernel
theorem eL_law_362 : decode (zYb kL_law) 362 = .ok (.invokevirtual 45, 3) := by decide +kernel
theorem eL_law_365 : decode (zYb kL_law) 365 = .ok (.aload_n 2, 1) := by decide +kernel
theorem eL_law_366 : decode (zYb kL_law) 366 = .ok (.aload_n 0, 1) := by decide +kernel
theorem eL_law_367 : decode (zYb kL_law) 367 = .ok (.iload_n 3, 1) := by decide +kernel
theorem eL_law_368 : decode (zYb kL_law) 368 = .ok (.iconst 1, 1) := by decide +kernel
theorem eL_law_369 : decode (zYb kL_law) 369 = .ok (.iadd, 1) := by decide +kernel
theorem eL_law_370 : decode (zYb kL_law) 370 = .ok (.iaload, 1) := by decide +kernel
theorem eL_law_371 : decode (zYb kL_law) 371 = .ok (.aload_n 0, 1) := by decide +kernel
theorem eL_law_372 : decode (zYb kL_law) 372 = .ok (.iload_n 3, 1) := by decide +kernel
theorem eL_law_373 : decode (zYb kL_law) 373 = .ok (.iconst 2, 1) := by decide +kernel
theorem eL_law_374 : decode (zYb kL_law) 374 = .ok (.iadd, 1) := by decide +kernel
theorem eL_law_375 : decode (zYb kL_law) 375 = .ok (.iaload, 1) := by decide +kernel
theorem eL_law_376 : decode (zYb kL_law) 376 = .ok (.invokevirtual 48, 3) := by decide +kernel
theorem eL_law_379 : decode (zYb kL_law) 379 = .ok (.if_icmp .eq 460, 3) := by decide +kernel
theorem eL_law_382 : decode (zYb kL_law) 382 = .ok (.iconst 0, 1) := by decide +kernel
theorem eL_law_383 : decode (zYb kL_law) 383 = .ok (.ireturn, 1) := by decide +kernel
theorem eL_law_384 : decode (zYb kL_law) 384 = .ok (.aload_n 1, 1) := by decide +kernel
theorem eL_law_385 : decode (zYb kL_law) 385 = .ok (.aload_n 0, 1) := by decide +kernel
theorem eL_law_386 : decode (zYb kL_law) 386 = .ok (.iload_n 3, 1) := by decide +kernel
theorem eL_law_387 : decode (zYb kL_law) 387 = .ok (.iconst 1, 1) := by decide +kernel
theorem eL_law_388 : decode (zYb kL_law) 388 = .ok (.iadd, 1) := by decide +kernel
theorem eL_law_389 : decode (zYb kL_law) 389 = .ok (.iaload, 1) := by decide +kernel
theorem eL_law_390 : decode (zYb kL_law) 390 = .ok (.aload_n 0, 1) := by decide +kernel
theorem eL_law_391 : decode (zYb kL_law) 391 = .ok (.iload_n 3, 1) := by decide +kernel
theorem eL_law_392 : decode (zYb kL_law) 392 = .ok (.iconst 2, 1) := by decide +kernel
theorem eL_law_393 : decode (zYb kL_law) 393 = .ok (.iadd, 1) := by decide +kernel
theorem eL_law_394 : decode (zYb kL_law) 394 = .ok (.iaload, 1) := by decide +kernel
theorem eL_law_395 : decode (zYb kL_law) 395 = .ok (.invokevirtual 49, 3) := by decide +kernel
theorem eL_law_398 : decode (zYb kL_law) 398 = .ok (.aload_n 2, 1) := by decide +kernel
theorem eL_law_399 : decode (zYb kL_law) 399 = .ok (.aload_n 0, 1) := by decide +kernel
theorem eL_law_400 : decode (zYb kL_law) 400 = .ok (.iload_n 3, 1) := by decide +kernel
theorem eL_law_401 : decode (zYb kL_law) 401 = .ok (.iconst 1, 1) := by decide +kernel
theorem eL_law_402 : decode (zYb kL_law) 402 = .ok (.iadd, 1) := by decide +kernel
theorem eL_law_403 : decode (zYb kL_law) 403 = .ok (.iaload, 1) := by decide +kernel
theorem eL_law_404 : decode (zYb kL_law) 404 = .ok (.aload_n 0, 1) := by decide +kernel
theorem eL_law_405 : decode (zYb kL_law) 405 = .ok (.iload_n 3, 1) := by decide +kernel
theorem eL_law_406 : decode (zYb kL_law) 406 = .ok (.iconst 2, 1) := by decide +kernel
theorem eL_law_407 : decode (zYb kL_law) 407 = .ok (.iadd, 1) := by decide +kernel
theorem eL_law_408 : decode (zYb kL_law) 408 = .ok (.iaload, 1) := by decide +kernel
theorem eL_law_409 : decode (zYb kL_law) 409 = .ok (.invokevirtual 52, 3) := by decide +kernel
theorem eL_law_412 : decode (zYb kL_law) 412 = .ok (.if_icmp .eq 427, 3) := by decide +kernel
theorem eL_law_415 : decode (zYb kL_law) 415 = .ok (.iconst 0, 1) := by decide +kernel
theorem eL_law_416 : decode (zYb kL_law) 416 = .ok (.ireturn, 1) := by decide +kernel
theorem eL_law_417 : decode (zYb kL_law) 417 = .ok (.aload_n 1, 1) := by decide +kernel
theorem eL_law_418 : decode (zYb kL_law) 418 = .ok (.aload_n 0, 1) := by decide +kernel
theorem eL_law_419 : decode (zYb kL_law) 419 = .ok (.iload_n 3, 1) := by decide +kernel
theorem eL_law_420 : decode (zYb kL_law) 420 = .ok (.iconst 1, 1) := by decide +kernel
theorem eL_law_421 : decode (zYb kL_law) 421 = .ok (.iadd, 1) := by decide +kernel
theorem eL_law_422 : decode (zYb kL_law) 422 = .ok (.iaload, 1) := by decide +kernel
theorem eL_law_423 : decode (zYb kL_law) 423 = .ok (.aload_n 0, 1) := by decide +kernel
theorem eL_law_424 : decode (zYb kL_law) 424 = .ok (.iload_n 3, 1) := by decide +kernel
theorem eL_law_425 : decode (zYb kL_law) 425 = .ok (.iconst 2, 1) := by decide +kernel
theorem eL_law_426 : decode (zYb kL_law) 426 = .ok (.iadd, 1) := by decide +kernel
theorem eL_law_427 : decode (zYb kL_law) 427 = .ok (.iaload, 1) := by decide +kernel
theorem eL_law_428 : decode (zYb kL_law) 428 = .ok (.aload_n 0, 1) := by decide +kernel
theorem eL_law_429 : decode (zYb kL_law) 429 = .ok (.iload_n 3, 1) := by decide +kernel
theorem eL_law_430 : decode (zYb kL_law) 430 = .ok (.iconst 3, 1) := by decide +kernel
theorem eL_law_431 : decode (zYb kL_law) 431 = .ok (.iadd, 1) := by decide +kernel
theorem eL_law_432 : decode (zYb kL_law) 432 = .ok (.iaload, 1) := by decide +kernel
theorem eL_law_433 : decode (zYb kL_law) 433 = .ok (.invokevirtual 53, 3) := by decide +kernel
theorem eL_law_436 : decode (zYb kL_law) 436 = .ok (.aload_n 2, 1) := by decide +kernel
theorem eL_law_437 : decode (zYb kL_law) 437 = .ok (.aload_n 0, 1) := by decide +kernel
theorem eL_law_438 : decode (zYb kL_law) 438 = .ok (.iload_n 3, 1) := by decide +kernel
theorem eL_law_439 : decode (zYb kL_law) 439 = .ok (.iconst 1, 1) := by decide +kernel
theorem eL_law_440 : decode (zYb kL_law) 440 = .ok (.iadd, 1) := by decide +kernel
theorem eL_law_441 : decode (zYb kL_law) 441 = .ok (.iaload, 1) := by decide +kernel
theorem eL_law_442 : decode (zYb kL_law) 442 = .ok (.aload_n 0, 1) := by decide +kernel
theorem eL_law_443 : decode (zYb kL_law) 443 = .ok (.iload_n 3, 1) := by decide +kernel
theorem eL_law_444 : decode (zYb kL_law) 444 = .ok (.iconst 2, 1) := by decide +kernel
theorem eL_law_445 : decode (zYb kL_law) 445 = .ok (.iadd, 1) := by decide +kernel
theorem eL_law_446 : decode (zYb kL_law) 446 = .ok (.iaload, 1) := by decide +kernel
theorem eL_law_447 : decode (zYb kL_law) 447 = .ok (.aload_n 0, 1) := by decide +kernel
theorem eL_law_448 : decode (zYb kL_law) 448 = .ok (.iload_n 3, 1) := by decide +kernel
theorem eL_law_449 : decode (zYb kL_law) 449 = .ok (.iconst 3, 1) := by decide +kernel
theorem eL_law_450 : decode (zYb kL_law) 450 = .ok (.iadd, 1) := by decide +kernel
theorem eL_law_451 : decode (zYb kL_law) 451 = .ok (.iaload, 1) := by decide +kernel
theorem eL_law_452 : decode (zYb kL_law) 452 = .ok (.invokevirtual 56, 3) := by decide +kernel
theorem eL_law_455 : decode (zYb kL_law) 455 = .ok (.if_icmp .eq 384, 3) := by decide +kernel
theorem eL_law_458 : decode (zYb kL_law) 458 = .ok (.iconst 0, 1) := by decide +kernel
theorem eL_law_459 : decode (zYb kL_law) 459 = .ok (.ireturn, 1) := by decide +kernel
theorem eL_law_460 : decode (zYb kL_law) 460 = .ok (.aload_n 1, 1) := by decide +kernel
theorem eL_law_461 : decode (zYb kL_law) 461 = .ok (.aload_n 0, 1) := by decide +kernel
theorem eL_law_462 : decode (zYb kL_law) 462 = .ok (.iload_n 3, 1) := by decide +kernel
theorem eL_law_463 : decode (zYb kL_law) 463 = .ok (.iconst 1, 1) := by decide +kernel
theorem eL_law_464 : decode (zYb kL_law) 464 = .ok (.iadd, 1) := by decide +kernel
theorem eL_law_465 : decode (zYb kL_law) 465 = .ok (.iaload, 1) := by decide +kernel
theorem eL_law_466 : decode (zYb kL_law) 466 = .ok (.aload_n 0, 1) := by decide +kernel
theorem eL_law_467 : decode (zYb kL_law) 467 = .ok (.iload_n 3, 1) := by decide +kernel
theorem eL_law_468 : decode (zYb kL_law) 468 = .ok (.iconst 2, 1) := by decide +kernel
theorem eL_law_469 : decode (zYb kL_law) 469 = .ok (.iadd, 1) := by decide +kernel
theorem eL_law_470 : decode (zYb kL_law) 470 = .ok (.iaload, 1) := by decide +kernel
theorem eL_law_471 : decode (zYb kL_law) 471 = .ok (.aload_n 0, 1) := by decide +kernel
theorem eL_law_472 : decode (zYb kL_law) 472 = .ok (.iload_n 3, 1) := by decide +kernel
theorem eL_law_473 : decode (zYb kL_law) 473 = .ok (.iconst 3, 1) := by decide +kernel
theorem eL_law_474 : decode (zYb kL_law) 474 = .ok (.iadd, 1) := by decide +kernel
theorem eL_law_475 : decode (zYb kL_law) 475 = .ok (.iaload, 1) := by decide +kernel
theorem eL_law_476 : decode (zYb kL_law) 476 = .ok (.invokevirtual 57, 3) := by decide +kernel
theorem eL_law_479 : decode (zYb kL_law) 479 = .ok (.aload_n 2, 1) := by decide +kernel
theorem eL_law_480 : decode (zYb kL_law) 480 = .ok (.aload_n 0, 1) := by decide +kernel
theorem eL_law_481 : decode (zYb kL_law) 481 = .ok (.iload_n 3, 1) := by decide +kernel
theorem eL_law_482 : decode (zYb kL_law) 482 = .ok (.iconst 1, 1) := by decide +kernel
theorem eL_law_483 : decode (zYb kL_law) 483 = .ok (.iadd, 1) := by decide +kernel
theorem eL_law_484 : decode (zYb kL_law) 484 = .ok (.iaload, 1) := by decide +kernel
theorem eL_law_485 : decode (zYb kL_law) 485 = .ok (.aload_n 0, 1) := by decide +kernel
theorem eL_law_486 : decode (zYb kL_law) 486 = .ok (.iload_n 3, 1) := by decide +kernel
theorem eL_law_487 : decode (zYb kL_law) 487 = .ok (.iconst 2, 1) := by decide +kernel
theorem eL_law_488 : decode (zYb kL_law) 488 = .ok (.iadd, 1) := by decide +kernel
theorem eL_law_489 : decode (zYb kL_law) 489 = .ok (.iaload, 1) := by decide +kernel
theorem eL_law_490 : decode (zYb kL_law) 490 = .ok (.aload_n 0, 1) := by decide +kernel
theorem eL_law_491 : decode (zYb kL_law) 491 = .ok (.iload_n 3, 1) := by decide +kernel
theorem eL_law_492 : decode (zYb kL_law) 492 = .ok (.iconst 3, 1) := by decide +kernel
theorem eL_law_493 : decode (zYb kL_law) 493 = .ok (.iadd, 1) := by decide +kernel
theorem eL_law_494 : decode (zYb kL_law) 494 = .ok (.iaload, 1) := by decide +kernel
theorem eL_law_495 : decode (zYb kL_law) 495 = .ok (.invokevirtual 60, 3) := by decide +kernel
theorem eL_law_498 : decode (zYb kL_law) 498 = .ok (.if_icmp .eq 341, 3) := by decide +kernel
theorem eL_law_501 : decode (zYb kL_law) 501 = .ok (.iconst 0, 1) := by decide +kernel
theorem eL_law_502 : decode (zYb kL_law) 502 = .ok (.ireturn, 1) := by decide +kernel
theorem eL_law_503 : decode (zYb kL_law) 503 = .ok (.aload_n 1, 1) := by decide +kernel
theorem eL_law_504 : decode (zYb kL_law) 504 = .ok (.aload_n 0, 1) := by decide +kernel
theorem eL_law_505 : decode (zYb kL_law) 505 = .ok (.iload_n 3, 1) := by decide +kernel
theorem eL_law_506 : decode (zYb kL_law) 506 = .ok (.iconst 1, 1) := by decide +kernel
theorem eL_law_507 : decode (zYb kL_law) 507 = .ok (.iadd, 1) := by decide +kernel
theorem eL_law_508 : decode (zYb kL_law) 508 = .ok (.iaload, 1) := by decide +kernel
theorem eL_law_509 : decode (zYb kL_law) 509 = .ok (.aload_n 0, 1) := by decide +kernel
theorem eL_law_510 : decode (zYb kL_law) 510 = .ok (.iload_n 3, 1) := by decide +kernel
theorem eL_law_511 : decode (zYb kL_law) 511 = .ok (.iconst 2, 1) := by decide +kernel
theorem eL_law_512 : decode (zYb kL_law) 512 = .ok (.iadd, 1) := by decide +kernel
theorem eL_law_513 : decode (zYb kL_law) 513 = .ok (.iaload, 1) := by decide +kernel
theorem eL_law_514 : decode (zYb kL_law) 514 = .ok (.invokevirtual 61, 3) := by decide +kernel
theorem eL_law_517 : decode (zYb kL_law) 517 = .ok (.aload_n 2, 1) := by decide +kernel
theorem eL_law_518 : decode (zYb kL_law) 518 = .ok (.aload_n 0, 1) := by decide +kernel
theorem eL_law_519 : decode (zYb kL_law) 519 = .ok (.iload_n 3, 1) := by decide +kernel
theorem eL_law_520 : decode (zYb kL_law) 520 = .ok (.iconst 1, 1) := by decide +kernel
theorem eL_law_521 : decode (zYb kL_law) 521 = .ok (.iadd, 1) := by decide +kernel
theorem eL_law_522 : decode (zYb kL_law) 522 = .ok (.iaload, 1) := by decide +kernel
theorem eL_law_523 : decode (zYb kL_law) 523 = .ok (.aload_n 0, 1) := by decide +kernel
theorem eL_law_524 : decode (zYb kL_law) 524 = .ok (.iload_n 3, 1) := by decide +kernel
theorem eL_law_525 : decode (zYb kL_law) 525 = .ok (.iconst 2, 1) := by decide +kernel
theorem eL_law_526 : decode (zYb kL_law) 526 = .ok (.iadd, 1) := by decide +kernel
theorem eL_law_527 : decode (zYb kL_law) 527 = .ok (.iaload, 1) := by decide +kernel
theorem eL_law_528 : decode (zYb kL_law) 528 = .ok (.invokevirtual 64, 3) := by decide +kernel
theorem eL_law_531 : decode (zYb kL_law) 531 = .ok (.if_icmp .eq 308, 3) := by decide +kernel
theorem eL_law_534 : decode (zYb kL_law) 534 = .ok (.iconst 0, 1) := by decide +kernel
theorem eL_law_535 : decode (zYb kL_law) 535 = .ok (.ireturn, 1) := by decide +kernel
theorem eL_law_536 : decode (zYb kL_law) 536 = .ok (.aload_n 1, 1) := by decide +kernel
theorem eL_law_537 : decode (zYb kL_law) 537 = .ok (.aload_n 0, 1) := by decide +kernel
theorem eL_law_538 : decode (zYb kL_law) 538 = .ok (.iload_n 3, 1) := by decide +kernel
theorem eL_law_539 : decode (zYb kL_law) 539 = .ok (.iconst 1, 1) := by decide +kernel
theorem eL_law_540 : decode (zYb kL_law) 540 = .ok (.iadd, 1) := by decide +kernel
theorem eL_law_541 : decode (zYb kL_law) 541 = .ok (.iaload, 1) := by decide +kernel
theorem eL_law_542 : decode (zYb kL_law) 542 = .ok (.aload_n 0, 1) := by decide +kernel
theorem eL_law_543 : decode (zYb kL_law) 543 = .ok (.iload_n 3, 1) := by decide +kernel
theorem eL_law_544 : decode (zYb kL_law) 544 = .ok (.iconst 2, 1) := by decide +kernel
theorem eL_law_545 : decode (zYb kL_law) 545 = .ok (.iadd, 1) := by decide +kernel
theorem eL_law_546 : decode (zYb kL_law) 546 = .ok (.iaload, 1) := by decide +kernel
theorem eL_law_547 : decode (zYb kL_law) 547 = .ok (.invokevirtual 65, 3) := by decide +kernel
theorem eL_law_550 : decode (zYb kL_law) 550 = .ok (.aload_n 2, 1) := by decide +kernel
theorem eL_law_551 : decode (zYb kL_law) 551 = .ok (.aload_n 0, 1) := by decide +kernel
theorem eL_law_552 : decode (zYb kL_law) 552 = .ok (.iload_n 3, 1) := by decide +kernel
theorem eL_law_553 : decode (zYb kL_law) 553 = .ok (.iconst 1, 1) := by decide +kernel
theorem eL_law_554 : decode (zYb kL_law) 554 = .ok (.iadd, 1) := by decide +kernel
theorem eL_law_555 : decode (zYb kL_law) 555 = .ok (.iaload, 1) := by decide +kernel
theorem eL_law_556 : decode (zYb kL_law) 556 = .ok (.aload_n 0, 1) := by decide +kernel
theorem eL_law_557 : decode (zYb kL_law) 557 = .ok (.iload_n 3, 1) := by decide +kernel
theorem eL_law_558 : decode (zYb kL_law) 558 = .ok (.iconst 2, 1) := by decide +kernel
theorem eL_law_559 : decode (zYb kL_law) 559 = .ok (.iadd, 1) := by decide +kernel
theorem eL_law_560 : decode (zYb kL_law) 560 = .ok (.iaload, 1) := by decide +kernel
theorem eL_law_561 : decode (zYb kL_law) 561 = .ok (.invokevirtual 68, 3) := by decide +kernel
theorem eL_law_564 : decode (zYb kL_law) 564 = .ok (.if_icmp .eq 275, 3) := by decide +kernel
theorem eL_law_567 : decode (zYb kL_law) 567 = .ok (.iconst 0, 1) := by decide +kernel
theorem eL_law_568 : decode (zYb kL_law) 568 = .ok (.ireturn, 1) := by decide +kernel
theorem eL_law_569 : decode (zYb kL_law) 569 = .ok (.aload_n 1, 1) := by decide +kernel
theorem eL_law_570 : decode (zYb kL_law) 570 = .ok (.aload_n 0, 1) := by decide +kernel
theorem eL_law_571 : decode (zYb kL_law) 571 = .ok (.iload_n 3, 1) := by decide +kernel
theorem eL_law_572 : decode (zYb kL_law) 572 = .ok (.iconst 1, 1) := by decide +kernel
theorem eL_law_573 : decode (zYb kL_law) 573 = .ok (.iadd, 1) := by decide +kernel
theorem eL_law_574 : decode (zYb kL_law) 574 = .ok (.iaload, 1) := by decide +kernel
theorem eL_law_575 : decode (zYb kL_law) 575 = .ok (.aload_n 0, 1) := by decide +kernel
theorem eL_law_576 : decode (zYb kL_law) 576 = .ok (.iload_n 3, 1) := by decide +kernel
theorem eL_law_577 : decode (zYb kL_law) 577 = .ok (.iconst 2, 1) := by decide +kernel
theorem eL_law_578 : decode (zYb kL_law) 578 = .ok (.iadd, 1) := by decide +kernel
theorem eL_law_579 : decode (zYb kL_law) 579 = .ok (.iaload, 1) := by decide +kernel
theorem eL_law_580 : decode (zYb kL_law) 580 = .ok (.invokevirtual 69, 3) := by decide +kernel
theorem eL_law_583 : decode (zYb kL_law) 583 = .ok (.aload_n 2, 1) := by decide +kernel
theorem eL_law_584 : decode (zYb kL_law) 584 = .ok (.aload_n 0, 1) := by decide +kernel
theorem eL_law_585 : decode (zYb kL_law) 585 = .ok (.iload_n 3, 1) := by decide +kernel
theorem eL_law_586 : decode (zYb kL_law) 586 = .ok (.iconst 1, 1) := by decide +kernel
theorem eL_law_587 : decode (zYb kL_law) 587 = .ok (.iadd, 1) := by decide +kernel
theorem eL_law_588 : decode (zYb kL_law) 588 = .ok (.iaload, 1) := by decide +kernel
theorem eL_law_589 : decode (zYb kL_law) 589 = .ok (.aload_n 0, 1) := by decide +kernel
theorem eL_law_590 : decode (zYb kL_law) 590 = .ok (.iload_n 3, 1) := by decide +kernel
theorem eL_law_591 : decode (zYb kL_law) 591 = .ok (.iconst 2, 1) := by decide +kernel
theorem eL_law_592 : decode (zYb kL_law) 592 = .ok (.iadd, 1) := by decide +kernel
theorem eL_law_593 : decode (zYb kL_law) 593 = .ok (.iaload, 1) := by decide +kernel
theorem eL_law_594 : decode (zYb kL_law) 594 = .ok (.invokevirtual 72, 3) := by decide +kernel
theorem eL_law_597 : decode (zYb kL_law) 597 = .ok (.if_icmp .eq 242, 3) := by decide +kernel
theorem eL_law_600 : decode (zYb kL_law) 600 = .ok (.iconst 0, 1) := by decide +kernel
theorem eL_law_601 : decode (zYb kL_law) 601 = .ok (.ireturn, 1) := by decide +kernel
theorem eL_law_602 : decode (zYb kL_law) 602 = .ok (.aload_n 1, 1) := by decide +kernel
theorem eL_law_603 : decode (zYb kL_law) 603 = .ok (.aload_n 0, 1) := by decide +kernel
theorem eL_law_604 : decode (zYb kL_law) 604 = .ok (.iload_n 3, 1) := by decide +kernel
theorem eL_law_605 : decode (zYb kL_law) 605 = .ok (.iconst 1, 1) := by decide +kernel
theorem eL_law_606 : decode (zYb kL_law) 606 = .ok (.iadd, 1) := by decide +kernel
theorem eL_law_607 : decode (zYb kL_law) 607 = .ok (.iaload, 1) := by decide +kernel
theorem eL_law_608 : decode (zYb kL_law) 608 = .ok (.invokevirtual 73, 3) := by decide +kernel
theorem eL_law_611 : decode (zYb kL_law) 611 = .ok (.aload_n 2, 1) := by decide +kernel
theorem eL_law_612 : decode (zYb kL_law) 612 = .ok (.aload_n 0, 1) := by decide +kernel
theorem eL_law_613 : decode (zYb kL_law) 613 = .ok (.iload_n 3, 1) := by decide +kernel
theorem eL_law_614 : decode (zYb kL_law) 614 = .ok (.iconst 1, 1) := by decide +kernel
theorem eL_law_615 : decode (zYb kL_law) 615 = .ok (.iadd, 1) := by decide +kernel
theorem eL_law_616 : decode (zYb kL_law) 616 = .ok (.iaload, 1) := by decide +kernel
theorem eL_law_617 : decode (zYb kL_law) 617 = .ok (.invokevirtual 76, 3) := by decide +kernel
theorem eL_law_620 : decode (zYb kL_law) 620 = .ok (.if_icmp .eq 219, 3) := by decide +kernel
theorem eL_law_623 : decode (zYb kL_law) 623 = .ok (.iconst 0, 1) := by decide +kernel
theorem eL_law_624 : decode (zYb kL_law) 624 = .ok (.ireturn, 1) := by decide +kernel
theorem eL_law_625 : decode (zYb kL_law) 625 = .ok (.aload_n 1, 1) := by decide +kernel
theorem eL_law_626 : decode (zYb kL_law) 626 = .ok (.aload_n 0, 1) := by decide +kernel
theorem eL_law_627 : decode (zYb kL_law) 627 = .ok (.iload_n 3, 1) := by decide +kernel
theorem eL_law_628 : decode (zYb kL_law) 628 = .ok (.iconst 1, 1) := by decide +kernel
theorem eL_law_629 : decode (zYb kL_law) 629 = .ok (.iadd, 1) := by decide +kernel
theorem eL_law_630 : decode (zYb kL_law) 630 = .ok (.iaload, 1) := by decide +kernel
theorem eL_law_631 : decode (zYb kL_law) 631 = .ok (.aload_n 0, 1) := by decide +kernel
theorem eL_law_632 : decode (zYb kL_law) 632 = .ok (.iload_n 3, 1) := by decide +kernel
theorem eL_law_633 : decode (zYb kL_law) 633 = .ok (.iconst 2, 1) := by decide +kernel
theorem eL_law_634 : decode (zYb kL_law) 634 = .ok (.iadd, 1) := by decide +kernel
theorem eL_law_635 : decode (zYb kL_law) 635 = .ok (.iaload, 1) := by decide +kernel
theorem eL_law_636 : decode (zYb kL_law) 636 = .ok (.aload_n 0, 1) := by decide +kernel
theorem eL_law_637 : decode (zYb kL_law) 637 = .ok (.iload_n 3, 1) := by decide +kernel
theorem eL_law_638 : decode (zYb kL_law) 638 = .ok (.iconst 3, 1) := by decide +kernel
theorem eL_law_639 : decode (zYb kL_law) 639 = .ok (.iadd, 1) := by decide +kernel
theorem eL_law_640 : decode (zYb kL_law) 640 = .ok (.iaload, 1) := by decide +kernel
theorem eL_law_641 : decode (zYb kL_law) 641 = .ok (.invokevirtual 77, 3) := by decide +kernel
theorem eL_law_644 : decode (zYb kL_law) 644 = .ok (.aload_n 2, 1) := by decide +kernel
theorem eL_law_645 : decode (zYb kL_law) 645 = .ok (.aload_n 0, 1) := by decide +kernel
theorem eL_law_646 : decode (zYb kL_law) 646 = .ok (.iload_n 3, 1) := by decide +kernel
theorem eL_law_647 : decode (zYb kL_law) 647 = .ok (.iconst 1, 1) := by decide +kernel
theorem eL_law_648 : decode (zYb kL_law) 648 = .ok (.iadd, 1) := by decide +kernel
theorem eL_law_649 : decode (zYb kL_law) 649 = .ok (.iaload, 1) := by decide +kernel
theorem eL_law_650 : decode (zYb kL_law) 650 = .ok (.aload_n 0, 1) := by decide +kernel
theorem eL_law_651 : decode (zYb kL_law) 651 = .ok (.iload_n 3, 1) := by decide +kernel
theorem eL_law_652 : decode (zYb kL_law) 652 = .ok (.iconst 2, 1) := by decide +kernel
theorem eL_law_653 : decode (zYb kL_law) 653 = .ok (.iadd, 1) := by decide +kernel
theorem eL_law_654 : decode (zYb kL_law) 654 = .ok (.iaload, 1) := by decide +kernel
theorem eL_law_655 : decode (zYb kL_law) 655 = .ok (.aload_n 0, 1) := by decide +kernel
theorem eL_law_656 : decode (zYb kL_law) 656 = .ok (.iload_n 3, 1) := by decide +kernel
theorem eL_law_657 : decode (zYb kL_law) 657 = .ok (.iconst 3, 1) := by decide +kernel
theorem eL_law_658 : decode (zYb kL_law) 658 = .ok (.iadd, 1) := by decide +kernel
theorem eL_law_659 : decode (zYb kL_law) 659 = .ok (.iaload, 1) := by decide +kernel
theorem eL_law_660 : decode (zYb kL_law) 660 = .ok (.invokevirtual 80, 3) := by decide +kernel
theorem eL_law_663 : decode (zYb kL_law) 663 = .ok (.if_icmp .eq 176, 3) := by decide +kernel
theorem eL_law_666 : decode (zYb kL_law) 666 = .ok (.iconst 0, 1) := by decide +kernel
theorem eL_law_667 : decode (zYb kL_law) 667 = .ok (.ireturn, 1) := by decide +kernel
theorem eL_law_668 : decode (zYb kL_law) 668 = .ok (.aload_n 1, 1) := by decide +kernel
theorem eL_law_669 : decode (zYb kL_law) 669 = .ok (.aload_n 0, 1) := by decide +kernel
theorem eL_law_670 : decode (zYb kL_law) 670 = .ok (.iload_n 3, 1) := by decide +kernel
theorem eL_law_671 : decode (zYb kL_law) 671 = .ok (.iconst 1, 1) := by decide +kernel
theorem eL_law_672 : decode (zYb kL_law) 672 = .ok (.iadd, 1) := by decide +kernel
theorem eL_law_673 : decode (zYb kL_law) 673 = .ok (.iaload, 1) := by decide +kernel
theorem eL_law_674 : decode (zYb kL_law) 674 = .ok (.aload_n 0, 1) := by decide +kernel
theorem eL_law_675 : decode (zYb kL_law) 675 = .ok (.iload_n 3, 1) := by decide +kernel
theorem eL_law_676 : decode (zYb kL_law) 676 = .ok (.iconst 2, 1) := by decide +kernel
theorem eL_law_677 : decode (zYb kL_law) 677 = .ok (.iadd, 1) := by decide +kernel
theorem eL_law_678 : decode (zYb kL_law) 678 = .ok (.iaload, 1) := by decide +kernel
theorem eL_law_679 : decode (zYb kL_law) 679 = .ok (.invokevirtual 81, 3) := by decide +kernel
theorem eL_law_682 : decode (zYb kL_law) 682 = .ok (.aload_n 2, 1) := by decide +kernel
theorem eL_law_683 : decode (zYb kL_law) 683 = .ok (.aload_n 0, 1) := by decide +kernel
theorem eL_law_684 : decode (zYb kL_law) 684 = .ok (.iload_n 3, 1) := by decide +kernel
theorem eL_law_685 : decode (zYb kL_law) 685 = .ok (.iconst 1, 1) := by decide +kernel
theorem eL_law_686 : decode (zYb kL_law) 686 = .ok (.iadd, 1) := by decide +kernel
theorem eL_law_687 : decode (zYb kL_law) 687 = .ok (.iaload, 1) := by decide +kernel
theorem eL_law_688 : decode (zYb kL_law) 688 = .ok (.aload_n 0, 1) := by decide +kernel
theorem eL_law_689 : decode (zYb kL_law) 689 = .ok (.iload_n 3, 1) := by decide +kernel
theorem eL_law_690 : decode (zYb kL_law) 690 = .ok (.iconst 2, 1) := by decide +kernel
theorem eL_law_691 : decode (zYb kL_law) 691 = .ok (.iadd, 1) := by decide +kernel
theorem eL_law_692 : decode (zYb kL_law) 692 = .ok (.iaload, 1) := by decide +kernel
theorem eL_law_693 : decode (zYb kL_law) 693 = .ok (.invokevirtual 84, 3) := by decide +kernel
theorem eL_law_696 : decode (zYb kL_law) 696 = .ok (.if_icmp .eq 143, 3) := by decide +kernel
theorem eL_law_699 : decode (zYb kL_law) 699 = .ok (.iconst 0, 1) := by decide +kernel
theorem eL_law_700 : decode (zYb kL_law) 700 = .ok (.ireturn, 1) := by decide +kernel
theorem eL_law_701 : decode (zYb kL_law) 701 = .ok (.aload_n 1, 1) := by decide +kernel
theorem eL_law_702 : decode (zYb kL_law) 702 = .ok (.aload_n 0, 1) := by decide +kernel
theorem eL_law_703 : decode (zYb kL_law) 703 = .ok (.iload_n 3, 1) := by decide +kernel
theorem eL_law_704 : decode (zYb kL_law) 704 = .ok (.iconst 1, 1) := by decide +kernel
theorem eL_law_705 : decode (zYb kL_law) 705 = .ok (.iadd, 1) := by decide +kernel
theorem eL_law_706 : decode (zYb kL_law) 706 = .ok (.iaload, 1) := by decide +kernel
theorem eL_law_707 : decode (zYb kL_law) 707 = .ok (.i2l, 1) := by decide +kernel
theorem eL_law_708 : decode (zYb kL_law) 708 = .ok (.bipush 32, 2) := by decide +kernel
theorem eL_law_710 : decode (zYb kL_law) 710 = .ok (.lshl, 1) := by decide +kernel
theorem eL_law_711 : decode (zYb kL_law) 711 = .ok (.aload_n 0, 1) := by decide +kernel
theorem eL_law_712 : decode (zYb kL_law) 712 = .ok (.iload_n 3, 1) := by decide +kernel
theorem eL_law_713 : decode (zYb kL_law) 713 = .ok (.iconst 2, 1) := by decide +kernel
theorem eL_law_714 : decode (zYb kL_law) 714 = .ok (.iadd, 1) := by decide +kernel
theorem eL_law_715 : decode (zYb kL_law) 715 = .ok (.iaload, 1) := by decide +kernel
theorem eL_law_716 : decode (zYb kL_law) 716 = .ok (.i2l, 1) := by decide +kernel
theorem eL_law_717 : decode (zYb kL_law) 717 = .ok (.ldc2_w 85, 3) := by decide +kernel
theorem eL_law_720 : decode (zYb kL_law) 720 = .ok (.land, 1) := by decide +kernel
theorem eL_law_721 : decode (zYb kL_law) 721 = .ok (.lor, 1) := by decide +kernel
theorem eL_law_722 : decode (zYb kL_law) 722 = .ok (.invokevirtual 87, 3) := by decide +kernel
theorem eL_law_725 : decode (zYb kL_law) 725 = .ok (.aload_n 2, 1) := by decide +kernel
theorem eL_law_726 : decode (zYb kL_law) 726 = .ok (.aload_n 0, 1) := by decide +kernel
theorem eL_law_727 : decode (zYb kL_law) 727 = .ok (.iload_n 3, 1) := by decide +kernel
theorem eL_law_728 : decode (zYb kL_law) 728 = .ok (.iconst 1, 1) := by decide +kernel
theorem eL_law_729 : decode (zYb kL_law) 729 = .ok (.iadd, 1) := by decide +kernel
theorem eL_law_730 : decode (zYb kL_law) 730 = .ok (.iaload, 1) := by decide +kernel
theorem eL_law_731 : decode (zYb kL_law) 731 = .ok (.i2l, 1) := by decide +kernel
theorem eL_law_732 : decode (zYb kL_law) 732 = .ok (.bipush 32, 2) := by decide +kernel
theorem eL_law_734 : decode (zYb kL_law) 734 = .ok (.lshl, 1) := by decide +kernel
theorem eL_law_735 : decode (zYb kL_law) 735 = .ok (.aload_n 0, 1) := by decide +kernel
theorem eL_law_736 : decode (zYb kL_law) 736 = .ok (.iload_n 3, 1) := by decide +kernel
theorem eL_law_737 : decode (zYb kL_law) 737 = .ok (.iconst 2, 1) := by decide +kernel
theorem eL_law_738 : decode (zYb kL_law) 738 = .ok (.iadd, 1) := by decide +kernel
theorem eL_law_739 : decode (zYb kL_law) 739 = .ok (.iaload, 1) := by decide +kernel
theorem eL_law_740 : decode (zYb kL_law) 740 = .ok (.i2l, 1) := by decide +kernel
theorem eL_law_741 : decode (zYb kL_law) 741 = .ok (.ldc2_w 85, 3) := by decide +kernel
theorem eL_law_744 : decode (zYb kL_law) 744 = .ok (.land, 1) := by decide +kernel
theorem eL_law_745 : decode (zYb kL_law) 745 = .ok (.lor, 1) := by decide +kernel
theorem eL_law_746 : decode (zYb kL_law) 746 = .ok (.invokevirtual 91, 3) := by decide +kernel
theorem eL_law_749 : decode (zYb kL_law) 749 = .ok (.if_icmp .eq 90, 3) := by decide +kernel
theorem eL_law_752 : decode (zYb kL_law) 752 = .ok (.iconst 0, 1) := by decide +kernel
theorem eL_law_753 : decode (zYb kL_law) 753 = .ok (.ireturn, 1) := by decide +kernel
theorem eL_law_754 : decode (zYb kL_law) 754 = .ok (.aload_n 1, 1) := by decide +kernel
theorem eL_law_755 : decode (zYb kL_law) 755 = .ok (.invokevirtual 92, 3) := by decide +kernel
theorem eL_law_758 : decode (zYb kL_law) 758 = .ok (.aload_n 2, 1) := by decide +kernel
theorem eL_law_759 : decode (zYb kL_law) 759 = .ok (.invokevirtual 95, 3) := by decide +kernel
theorem eL_law_762 : decode (zYb kL_law) 762 = .ok (.if_icmp .eq 77, 3) := by decide +kernel
theorem eL_law_765 : decode (zYb kL_law) 765 = .ok (.iconst 0, 1) := by decide +kernel
theorem eL_law_766 : decode (zYb kL_law) 766 = .ok (.ireturn, 1) := by decide +kernel
theorem eL_law_767 : decode (zYb kL_law) 767 = .ok (.aload_n 1, 1) := by decide +kernel
theorem eL_law_768 : decode (zYb kL_law) 768 = .ok (.invokevirtual 96, 3) := by decide +kernel
theorem eL_law_771 : decode (zYb kL_law) 771 = .ok (.aload_n 2, 1) := by decide +kernel
theorem eL_law_772 : decode (zYb kL_law) 772 = .ok (.invokevirtual 99, 3) := by decide +kernel
theorem eL_law_775 : decode (zYb kL_law) 775 = .ok (.if_icmp .eq 64, 3) := by decide +kernel
theorem eL_law_778 : decode (zYb kL_law) 778 = .ok (.iconst 0, 1) := by decide +kernel
theorem eL_law_779 : decode (zYb kL_law) 779 = .ok (.ireturn, 1) := by decide +kernel
theorem eL_law_780 : decode (zYb kL_law) 780 = .ok (.aload_n 1, 1) := by decide +kernel
theorem eL_law_781 : decode (zYb kL_law) 781 = .ok (.invokevirtual 100, 3) := by decide +kernel
theorem eL_law_784 : decode (zYb kL_law) 784 = .ok (.aload_n 2, 1) := by decide +kernel
theorem eL_law_785 : decode (zYb kL_law) 785 = .ok (.invokevirtual 103, 3) := by decide +kernel
theorem eL_law_788 : decode (zYb kL_law) 788 = .ok (.if_icmp .eq 51, 3) := by decide +kernel
theorem eL_law_791 : decode (zYb kL_law) 791 = .ok (.iconst 0, 1) := by decide +kernel
theorem eL_law_792 : decode (zYb kL_law) 792 = .ok (.ireturn, 1) := by decide +kernel
theorem eL_law_793 : decode (zYb kL_law) 793 = .ok (.aload_n 1, 1) := by decide +kernel
theorem eL_law_794 : decode (zYb kL_law) 794 = .ok (.aload_n 0, 1) := by decide +kernel
theorem eL_law_795 : decode (zYb kL_law) 795 = .ok (.iload_n 3, 1) := by decide +kernel
theorem eL_law_796 : decode (zYb kL_law) 796 = .ok (.iconst 1, 1) := by decide +kernel
theorem eL_law_797 : decode (zYb kL_law) 797 = .ok (.iadd, 1) := by decide +kernel
theorem eL_law_798 : decode (zYb kL_law) 798 = .ok (.iaload, 1) := by decide +kernel
theorem eL_law_799 : decode (zYb kL_law) 799 = .ok (.invokevirtual 104, 3) := by decide +kernel
theorem eL_law_802 : decode (zYb kL_law) 802 = .ok (.aload_n 2, 1) := by decide +kernel
theorem eL_law_803 : decode (zYb kL_law) 803 = .ok (.aload_n 0, 1) := by decide +kernel
theorem eL_law_804 : decode (zYb kL_law) 804 = .ok (.iload_n 3, 1) := by decide +kernel
theorem eL_law_805 : decode (zYb kL_law) 805 = .ok (.iconst 1, 1) := by decide +kernel
theorem eL_law_806 : decode (zYb kL_law) 806 = .ok (.iadd, 1) := by decide +kernel
theorem eL_law_807 : decode (zYb kL_law) 807 = .ok (.iaload, 1) := by decide +kernel
theorem eL_law_808 : decode (zYb kL_law) 808 = .ok (.invokevirtual 107, 3) := by decide +kernel
theorem eL_law_811 : decode (zYb kL_law) 811 = .ok (.if_icmp .eq 28, 3) := by decide +kernel
theorem eL_law_814 : decode (zYb kL_law) 814 = .ok (.iconst 0, 1) := by decide +kernel
theorem eL_law_815 : decode (zYb kL_law) 815 = .ok (.ireturn, 1) := by decide +kernel
theorem eL_law_816 : decode (zYb kL_law) 816 = .ok (.aload_n 1, 1) := by decide +kernel
theorem eL_law_817 : decode (zYb kL_law) 817 = .ok (.aload_n 0, 1) := by decide +kernel
theorem eL_law_818 : decode (zYb kL_law) 818 = .ok (.iload_n 3, 1) := by decide +kernel
theorem eL_law_819 : decode (zYb kL_law) 819 = .ok (.iconst 1, 1) := by decide +kernel
theorem eL_law_820 : decode (zYb kL_law) 820 = .ok (.iadd, 1) := by decide +kernel
theorem eL_law_821 : decode (zYb kL_law) 821 = .ok (.iaload, 1) := by decide +kernel
theorem eL_law_822 : decode (zYb kL_law) 822 = .ok (.invokevirtual 108, 3) := by decide +kernel
theorem eL_law_825 : decode (zYb kL_law) 825 = .ok (.aload_n 2, 1) := by decide +kernel
theorem eL_law_826 : decode (zYb kL_law) 826 = .ok (.aload_n 0, 1) := by decide +kernel
theorem eL_law_827 : decode (zYb kL_law) 827 = .ok (.iload_n 3, 1) := by decide +kernel
theorem eL_law_828 : decode (zYb kL_law) 828 = .ok (.iconst 1, 1) := by decide +kernel
theorem eL_law_829 : decode (zYb kL_law) 829 = .ok (.iadd, 1) := by decide +kernel
theorem eL_law_830 : decode (zYb kL_law) 830 = .ok (.iaload, 1) := by decide +kernel
theorem eL_law_831 : decode (zYb kL_law) 831 = .ok (.invokevirtual 111, 3) := by decide +kernel
theorem eL_law_834 : decode (zYb kL_law) 834 = .ok (.if_icmp .eq 5, 3) := by decide +kernel
theorem eL_law_837 : decode (zYb kL_law) 837 = .ok (.iconst 0, 1) := by decide +kernel
theorem eL_law_838 : decode (zYb kL_law) 838 = .ok (.ireturn, 1) := by decide +kernel
theorem eL_law_839 : decode (zYb kL_law) 839 = .ok (.iinc 3 4, 3) := by decide +kernel
theorem eL_law_842 : decode (zYb kL_law) 842 = .ok (.goto (-824), 3) := by decide +kernel
theorem eL_law_845 : decode (zYb kL_law) 845 = .ok (.iconst 1, 1) := by decide +kernel
theorem eL_law_846 : decode (zYb kL_law) 846 = .ok (.ireturn, 1) := by decide +kernel
end
section
-- the tables' words: what stands at their places
def zTW : List Cond := lw_tbl.filter goodWord
def zNest : Cond → Bool
  | .fieldLinkNest .. => true
  | .methodLinkNest .. => true
  | _ => false
def zNw : List Cond := lw_tbl.filter zNest
def zW (k : zY) : List Cond := Cond.code (zYn k) (zYb k) (zYl k) (zYr k) :: zTW
def zWd (p : Nat) (w : Cond) : Bool := decide (lw_tbl[p]? = some w)
theorem zWd_in {p : Nat} {w : Cond} (h : zWd p w = true) : w ∈ lw_tbl := List.mem_of_getElem? (of_decide_eq_true h)
theorem zWd_tw {p : Nat} {w : Cond} (h : zWd p w = true) (hg : goodWord w = true) : w ∈ zTW := List.mem_filter.mpr ⟨zWd_in h, hg⟩
theorem zWd_nw {p : Nat} {w : Cond} (h : zWd p w = true) (hg : zNest w = true) : w ∈ zNw := List.mem_filter.mpr ⟨zWd_in h, hg⟩
/-- fields -/
def zFc (x : (Nat × Nat) × (Nat × Nat × Nat) × (Nat × Nat)) : Bool :=
  match vwCl[x.2.1.1]? with
  | none => false
  | some q =>
    let T := q.2.1
    let kf := x.2.1.2.1
    decide (kf < q.2.2) && decide ((T kf).1 = q.1) &&
    (if x.2.2.1 = 1 then zWd x.2.2.2 (.fieldLinkNest (zCn x.1.1) x.1.2 q.1 (T kf).2.1 (T kf).2.2.1 "SeamReadings")
     else zWd x.2.2.2 (.fieldLink (zCn x.1.1) x.1.2 q.1 (T kf).2.1 (T kf).2.2.1)) &&
    (if x.2.1.2.2 = 0 then decide (parseFieldDescriptor (T kf).2.2.1 = some .int) && !(T kf).2.2.2
     else decide (x.2.1.2.2 = 1) && (T kf).2.2.2 && (match parseFieldDescriptor (T kf).2.2.1 with | some (.array _) => true | some (.object _) => true | _ => false))
set_option maxRecDepth 100000 in
theorem zFc_ok : zFt.all zFc = true := by decide +kernel
set_option maxRecDepth 100000 in
theorem zIn_ok : vwCl.all (fun q => (u_ws q.1 q.2.1 q.2.2).all (fun w => decide (w ∈ lw_tbl) && goodWord w)) = true := by decide +kernel
theorem zIn {ci : Nat} {q : vw_C} (h : vwCl[ci]? = some q) : ∀ w ∈ u_ws q.1 q.2.1 q.2.2, w ∈ zTW := by
  intro w hw
  have h1 := List.all_eq_true.mp (List.all_eq_true.mp zIn_ok q (List.mem_of_getElem? h)) w hw
  simp only [Bool.and_eq_true, decide_eq_true_eq] at h1
  exact List.mem_filter.mpr ⟨h1.1, h1.2⟩
theorem zTy {ci : Nat} {q : vw_C} (h : vwCl[ci]? = some q) : ∃ ty : Nat → FieldType, (∀ k, k < q.2.2 → parseFieldDescriptor (q.2.1 k).2.2.1 = some (ty k)) ∧ (∀ a, a < q.2.2 → ∀ b, b < q.2.2 → a ≠ b → (q.2.1 a).2.1 ≠ (q.2.1 b).2.1) := by
  match ci, h with
  | 0, h => cases h; exact ⟨tyX0, tyX0_ok, nmX0⟩
  | 1, h => cases h; exact ⟨tyX1, tyX1_ok, nmX1⟩
  | 2, h => cases h; exact ⟨tyX2, tyX2_ok, nmX2⟩
  | 3, h => cases h; exact ⟨tyX3, tyX3_ok, nmX3⟩
  | 4, h => cases h; exact ⟨tyX4, tyX4_ok, nmX4⟩
  | 5, h => cases h; exact ⟨tyX5, tyX5_ok, nmX5⟩
  | 6, h => cases h; exact ⟨tyX6, tyX6_ok, nmX6⟩
  | 7, h => cases h; exact ⟨tyX7, tyX7_ok, nmX7⟩
  | n + 8, h => simp [vwCl] at h
/-- calls -/
def zCc (x : zCE) : Bool :=
  let o := zCn x.1.1
  let idx := x.1.2
  let kd := x.2.1
  let k := zKey x.2.2.2.1
  let y := zYn k
  let p := x.2.2.2.2.2.2
  (if x.2.2.1 = 1 then zWd p.1 (.methodLinkNest o idx y "SeamReadings") else zWd p.1 (.methodLink o idx y)) &&
  (if kd = 1 then zWd p.2.1 (.static y) else zWd p.2.1 (.instanceMethod y)) &&
  (if kd = 0 then zWd p.2.2.1 (.selects y.cls y y) else true) &&
  (if kd = 2 then decide (y.name = "<init>") && decide (zYr k = none) else true) &&
  zWd p.2.2.2 (.initialized y.cls) &&
  decide (y.cls ≠ "java/lang/invoke/MethodHandle") && decide (y.cls ≠ "java/lang/invoke/VarHandle") &&
  decide ((parseMethodDescriptor y.desc).map (fun d => d.parameters.length) = some x.2.2.2.2.1) &&
  decide (zYl k ≤ 30) && decide (y.cls = zCn (zYo k)) && decide ((vwCl[zYo k]?).map (fun q => q.1) = some y.cls) &&
  (if x.2.2.1 = 1 then true else if kd = 1 then decide (y.cls = o) else true)
set_option maxRecDepth 100000 in
theorem zCc_0 : zCt0.all zCc = true := by decide +kernel
set_option maxRecDepth 100000 in
theorem zCc_1 : zCt1.all zCc = true := by decide +kernel
set_option maxRecDepth 100000 in
theorem zCc_2 : zCt2.all zCc = true := by decide +kernel
set_option maxRecDepth 100000 in
theorem zCc_3 : zCt3.all zCc = true := by decide +kernel
set_option maxRecDepth 100000 in
theorem zCc_4 : zCt4.all zCc = true := by decide +kernel
set_option maxRecDepth 100000 in
theorem zCc_5 : zCt5.all zCc = true := by decide +kernel
set_option maxRecDepth 100000 in
theorem zCc_6 : zCt6.all zCc = true := by decide +kernel
set_option maxRecDepth 100000 in
theorem zCc_7 : zCt7.all zCc = true := by decide +kernel
theorem zCc_ok : zCtA.all zCc = true := by simp only [zCtA, List.all_append, zCc_0, zCc_1, zCc_2, zCc_3, zCc_4, zCc_5, zCc_6, zCc_7, Bool.and_self]
set_option maxRecDepth 100000 in
theorem zOc_ok : (zOt.all (fun x => zWd x.2 (.methodLink (zCn x.1.1) x.1.2 Lib.objectInit)) && zWd zOp.1 (.instanceMethod Lib.objectInit) && zWd zOp.2 (.code Lib.objectInit ⟨#[0xb1]⟩ 1 none)) = true := by decide +kernel
set_option maxRecDepth 100000 in
theorem zAc_ok : (zAt.all (fun x => zWd x.2 (.methodLink (zCn x.1.1) x.1.2 arraycopyName)) && zWd zAp.1 (.native arraycopyName) && zWd zAp.2.1 (.static arraycopyName) && zWd zAp.2.2 (.initialized "java/lang/System")) = true := by decide +kernel
def zNcc (x : (Nat × Nat) × Nat × (Nat × Nat × Nat)) : Bool :=
  match vwCl[x.2.1]? with
  | none => false
  | some q => zWd x.2.2.1 (.classLink (zCn x.1.1) x.1.2 q.1) && zWd x.2.2.2.1 (.instantiable q.1 q.2.2) && zWd x.2.2.2.2 (.initialized q.1) && decide (zNf x.2.1 = q.2.2)
set_option maxRecDepth 100000 in
theorem zNc_ok : zNt.all zNcc = true := by decide +kernel
set_option maxRecDepth 100000 in
theorem zLc_ok : zLt.all (fun x => zWd x.2.2 (.constantLong (zCn x.1.1) x.1.2 x.2.1)) = true := by decide +kernel
set_option maxRecDepth 100000 in
theorem zArr_ok : (zWd zArr.1 (.arrayClass .int) && zWd zArr.2.1 (.arrayClass .boolean) && zWd zArr.2.2.1 (.arrayOver (.object "SeamReadings$Scroll")) && zWd zArr.2.2.2 (.arrayOver (.object "SeamReadings$Shelf"))) = true := by decide +kernel
end
section
-- A PURE PICTURE of the machine: numbers, references and longs; cells; one judgement zRn a method
abbrev zV : Type := Int ⊕ (Option Nat ⊕ Int64)
def tv (v : zV) : Value := match v with
  | .inl z => .int (Int32.ofInt z)
  | .inr (.inl r) => va_rf r
  | .inr (.inr x) => .long x
abbrev zC : Type := (Nat × List zV) ⊕ (Nat × Nat × ((Nat → Int) ⊕ (Nat → Option Nat)))
abbrev zM : Type := Nat → Option zC
def zup (M : zM) (a : Nat) (c : zC) : zM := fun q => if q = a then some c else M q
def zu {α : Type} (f : Nat → α) (k : Nat) (v : α) : Nat → α := fun j => if j = k then v else f j
def zcp (f g : Nat → Int) (sp dp n : Nat) : Nat → Int := fun k => if dp ≤ k ∧ k < dp + n then f (sp + (k - dp)) else g k
def zE (cA : Nat → ClassId) (c : zC) : va_E := match c with
  | .inl (ci, fs) => .inr (ci, fs.map tv)
  | .inr (t, n, .inl f) => .inl (cA t, n, .inl (fun j => Int32.ofInt (f j)))
  | .inr (t, n, .inr f) => .inl (cA t, n, .inr (.inr (.inr (.inr f))))
def zT (cA : Nat → ClassId) : List (ClassId × FieldType) := [(cA 0, .int), (cA 1, .boolean), (cA 2, .object "SeamReadings$Scroll"), (cA 3, .object "SeamReadings$Shelf")]
def zK (D : va_G) (cA : Nat → ClassId) (U : State) : Prop := va_K D vwCl (zT cA) U ∧ (∀ w ∈ zNw, va_Nw w U) ∧ va_AO "SeamReadings$Scroll" U ∧ va_AO "SeamReadings$Shelf" U
def zH (D : va_G) (cA : Nat → ClassId) (lo : Nat) (M : zM) (H : Heap) : Prop := lo ≤ H.size ∧ (∀ q, M q ≠ none ↔ lo ≤ q ∧ q < H.size) ∧ ∀ q c, M q = some c → va_at D vwCl (q, zE cA c) H
def zR (d mc ms : Nat) : Room := { frames := d, cells := mc, slots := ms, locals := 60 * d }
def zPre (D : va_G) (cA : Nat → ClassId) (lo : Nat) (as : List zV) (M : zM) : Array Value → State → Prop := va_Pc (as.map tv) (fun U => zH D cA lo M U.heap ∧ zK D cA U)
def zPost (D : va_G) (cA : Nat → ClassId) (lo : Nat) (Q : Option zV → zM → Prop) : Array Value → State → Outcome → State → Prop := fun _ st oc t => (∃ (r : Option zV) (M' : zM), oc = .returned (r.map tv) ∧ Q r M' ∧ zH D cA lo M' t.heap) ∧ va_F (fun q => lo ≤ q) st t
/-- THE CONTRACT: from memory M, with these arguments, the method returns, and Q holds of its answer and of the memory behind it -/
def zCt (lo d : Nat) (k : zY) (mc ms : Nat) (as : List zV) (M : zM) (Q : Option zV → zM → Prop) : Prop :=
  ∀ (l : Launch) (D : va_G) (cA : Nat → ClassId), Met l (zYn k) (zW k) (zR d mc ms) (zPre D cA lo as M) (zPost D cA lo Q) mc ms (fun q => lo ≤ q)
-- locals
def zg {α : Type} : List α → Nat → Option α
  | [], _ => none
  | a :: _, 0 => some a
  | _ :: l, n + 1 => zg l n
def zst {α : Type} : List α → Nat → α → List α
  | [], _, _ => []
  | _ :: l, 0, v => v :: l
  | a :: l, n + 1, v => a :: zst l n v
def zAs : Nat → List (Option zV) → List (Nat × Value)
  | _, [] => []
  | i, none :: r => zAs (i + 1) r
  | i, some v :: r => (i, tv v) :: zAs (i + 1) r
def zLs (lsA : Array Slot) (n : Nat) (ls : List (Option zV)) : Prop := ls.length = n ∧ lv_has lsA n (zAs 0 ls)
def zEa : List zV → List (Option zV)
  | [] => []
  | .inr (.inr x) :: r => some (.inr (.inr x)) :: none :: zEa r
  | .inr (.inl x) :: r => some (.inr (.inl x)) :: zEa r
  | .inl x :: r => some (.inl x) :: zEa r
def zEn (as : List zV) (n : Nat) : List (Option zV) := zEa as ++ List.replicate (n - (zEa as).length) none
def zCx (lo d : Nat) (Rm : Room) (k : zY) (p : Program) (s : State) (m : MethodId) (args : Array Value) (meth : Method) (c : Code) (D : va_G) (cA : Nat → ClassId) : Prop :=
  p.tables.exec = Jvm.exec ∧ c.code = zYb k ∧ meth.sig.returnType = zYr k ∧ c.maxLocals = zYl k ∧ s.vm.findClass (zCn (zYo k)) = some m.cls ∧ meth.locks = false ∧ meth.name = (zYn k).name ∧ (∀ w ∈ zTW, w.before args s = true) ∧ zK D cA s ∧ d ≤ Rm.frames ∧ 60 * d ≤ Rm.locals ∧ lo ≤ s.heap.size
/-- where a method stands: at pc, with these locals, this stack, this memory, it comes to its end Fn -/
def zRn (lo d : Nat) (Rm : Room) (k : zY) (Fn : List Frame → Array Value → State → va_G → (Nat → ClassId) → State → Prop) (u : Nat × Nat) (pc : Nat) (ls : List (Option zV)) (st : List zV) (M : zM) : Prop :=
  ∀ (p : Program) (l : Launch) (e : Env) (s : State) (m : MethodId) (args : Array Value) (below : List Frame) (meth : Method) (c : Code) (D : va_G) (cA : Nat → ClassId), zCx lo d Rm k p s m args meth c D cA →
    ∀ (H : Heap) (locs : List Loc) (lsA : Array Slot), zH D cA lo M H → va_S (fun q => lo ≤ q) s.heap H locs → zLs lsA (zYl k) ls → W p l e Rm s m args below meth c H locs u.1 u.2 (Fn below args s D cA) (F0 m pc lsA (st.map tv))
def zFn (lo mc ms : Nat) (Q : Option zV → zM → Prop) : List Frame → Array Value → State → va_G → (Nat → ClassId) → State → Prop := fun below args s D cA => MQ below (zPost D cA lo Q) args s mc ms (fun q => lo ≤ q)
-- facts about numbers
theorem zToInt {z : Int} (h1 : -2147483648 ≤ z) (h2 : z < 2147483648) : (Int32.ofInt z).toInt = z := Int32.toInt_ofInt_of_le (by omega) (by omega)
theorem zClamp {z : Int} (h1 : 0 ≤ z) (h2 : z < 2147483648) : (Int32.ofInt z).toNatClampNeg = z.toNat := Int32.toNatClampNeg_ofInt_of_le (by omega) (by omega)
theorem zNotNeg {z : Int} (h1 : 0 ≤ z) (h2 : z < 2147483648) : ¬ Int32.ofInt z < 0 := by
  rw [Int32.lt_iff_toInt_lt, zToInt (by omega) h2, Int32.toInt_zero]
  omega
theorem zIdx {i : Int} {n : Nat} (h0 : 0 ≤ i) (h1 : i < (n : Int)) (h2 : n < 2147483648) : vp_in (Int32.ofInt i) n := by
  intro h
  rcases h with h | h
  · exact zNotNeg h0 (by omega) h
  · rw [zClamp h0 (by omega)] at h
    omega
-- facts about locals
theorem zg_mem {α : Type} : ∀ {l : List α} {k : Nat} {v : α}, zg l k = some v → l[k]? = some v
  | [], _, _, h => by cases h
  | a :: l, 0, v, h => by simpa [zg] using h
  | a :: l, n + 1, v, h => by simpa [zg] using zg_mem (l := l) h
theorem zg_of {α : Type} : ∀ {l : List α} {k : Nat} {v : α}, l[k]? = some v → zg l k = some v
  | [], _, _, h => by simp at h
  | a :: l, 0, v, h => by simpa [zg] using h
  | a :: l, n + 1, v, h => by simpa [zg] using zg_of (l := l) (by simpa using h)
theorem zg_lt {α : Type} {l : List α} {k : Nat} {v : α} (h : zg l k = some v) : k < l.length := (List.getElem?_eq_some_iff.mp (zg_mem h)).1
theorem zst_len {α : Type} : ∀ (l : List α) (k : Nat) (v : α), (zst l k v).length = l.length
  | [], _, _ => rfl
  | _ :: _, 0, _ => rfl
  | _ :: l, n + 1, v => by simp [zst, zst_len l n v]
theorem zst_eq {α : Type} : ∀ (l : List α) (k : Nat) (v : α), zst l k v = l.set k v
  | [], _, _ => by simp [zst]
  | _ :: _, 0, _ => by simp [zst]
  | _ :: l, n + 1, v => by simp [zst, zst_eq l n v]
theorem zAs_mem : ∀ {i : Nat} {ls : List (Option zV)} {q : Nat × Value}, q ∈ zAs i ls ↔ ∃ (j : Nat) (v : zV), ls[j]? = some (some v) ∧ q = (i + j, tv v)
  | i, [], q => by simp [zAs]
  | i, none :: r, q => by
    rw [zAs, zAs_mem (ls := r)]
    constructor
    · rintro ⟨j, v, h, rfl⟩
      exact ⟨j + 1, v, by simpa using h, by simp; omega⟩
    · rintro ⟨j, v, h, rfl⟩
      cases j with
      | zero => simp at h
      | succ j => exact ⟨j, v, by simpa using h, by simp; omega⟩
  | i, some w :: r, q => by
    rw [zAs, List.mem_cons, zAs_mem (ls := r)]
    constructor
    · rintro (rfl | ⟨j, v, h, rfl⟩)
      · exact ⟨0, w, by simp, by simp⟩
      · exact ⟨j + 1, v, by simpa using h, by simp; omega⟩
    · rintro ⟨j, v, h, rfl⟩
      cases j with
      | zero => simp at h; subst h; exact Or.inl (by simp)
      | succ j => exact Or.inr ⟨j, v, by simpa using h, by simp; omega⟩
theorem zLs_at {lsA : Array Slot} {n k : Nat} {ls : List (Option zV)} {v : zV} (h : zLs lsA n ls) (hk : zg ls k = some (some v)) : lsA[k]? = some (.val (tv v)) := by
  have := h.2.2.2 (0 + k, tv v) (zAs_mem.mpr ⟨k, v, zg_mem hk, rfl⟩)
  simpa using this
theorem zcat_long {v : zV} (h : (tv v).category = 2) : ∃ x, v = .inr (.inr x) := by
  match v, h with
  | .inl z, h => simp [tv, Value.category] at h
  | .inr (.inl none), h => simp [tv, va_rf, Value.category] at h
  | .inr (.inl (some a)), h => simp [tv, va_rf, Value.category] at h
  | .inr (.inr x), _ => exact ⟨x, rfl⟩
/-- before place k stands no long -/
def zlk (ls : List (Option zV)) (k : Nat) : Prop := match k with
  | 0 => True
  | k + 1 => match zg ls k with
    | some (some (.inr (.inr _))) => False
    | _ => True
theorem zlk_no {ls : List (Option zV)} {k : Nat} {x : Int64} (h : zlk ls (k + 1)) : ls[k]? ≠ some (some (.inr (.inr x))) := by
  intro hk
  have := zg_of hk
  simp [zlk, this] at h
theorem zLs_st1 {lsA lsB : Array Slot} {n k : Nat} {ls : List (Option zV)} {v : zV} (h : zLs lsA n ls) (hk : zlk ls k) (hl : lv_has lsB n ((k, tv v) :: (zAs 0 ls).filter (fun q => !(q.1 == k) && !(q.1 + 1 == k && q.2.category == 2)))) : zLs lsB n (zst ls k (some v)) := by
  refine ⟨by rw [zst_len]; exact h.1, hl.1, hl.2.1, fun q hq => ?_⟩
  obtain ⟨j, w, hj, rfl⟩ := zAs_mem.mp hq
  rw [zst_eq] at hj
  by_cases hjk : j = k
  · subst hjk
    have hlt : j < ls.length := by
      have := (List.getElem?_eq_some_iff.mp hj).1
      simpa using this
    rw [List.getElem?_set_self hlt] at hj
    cases hj
    exact hl.2.2 _ (by rw [Nat.zero_add]; exact List.mem_cons_self)
  · rw [List.getElem?_set_ne (Ne.symm hjk)] at hj
    refine hl.2.2 _ (List.mem_cons_of_mem _ (List.mem_filter.mpr ⟨zAs_mem.mpr ⟨j, w, hj, rfl⟩, ?_⟩))
    simp only [Nat.zero_add, Bool.and_eq_true, Bool.not_eq_true', beq_eq_false_iff_ne, ne_eq, hjk, not_false_eq_true, true_and, Bool.and_eq_false_imp, beq_iff_eq]
    intro hj1 hc
    obtain ⟨x, rfl⟩ := zcat_long hc
    subst hj1
    exact zlk_no hk hj
theorem zLs_st2 {lsA lsB : Array Slot} {n k : Nat} {ls : List (Option zV)} {x : Int64} (h : zLs lsA n ls) (hk : zlk ls k) (hl : lv_has lsB n ((k, Value.long x) :: (zAs 0 ls).filter (fun q => !(q.1 == k) && (!(q.1 == k + 1) && !(q.1 + 1 == k && q.2.category == 2))))) : zLs lsB n (zst (zst ls k (some (.inr (.inr x)))) (k + 1) none) := by
  refine ⟨by rw [zst_len, zst_len]; exact h.1, hl.1, hl.2.1, fun q hq => ?_⟩
  obtain ⟨j, w, hj, rfl⟩ := zAs_mem.mp hq
  rw [zst_eq, zst_eq] at hj
  by_cases hj2 : j = k + 1
  · subst hj2
    have hlt : k + 1 < (ls.set k (some (Sum.inr (Sum.inr x)))).length := by
      have := (List.getElem?_eq_some_iff.mp hj).1
      simpa using this
    rw [List.getElem?_set_self hlt] at hj
    cases hj
  · rw [List.getElem?_set_ne (Ne.symm hj2)] at hj
    by_cases hjk : j = k
    · subst hjk
      have hlt : j < ls.length := by
        have := (List.getElem?_eq_some_iff.mp hj).1
        simpa using this
      rw [List.getElem?_set_self hlt] at hj
      cases hj
      exact hl.2.2 _ (by rw [Nat.zero_add]; exact List.mem_cons_self)
    · rw [List.getElem?_set_ne (Ne.symm hjk)] at hj
      refine hl.2.2 _ (List.mem_cons_of_mem _ (List.mem_filter.mpr ⟨zAs_mem.mpr ⟨j, w, hj, rfl⟩, ?_⟩))
      simp only [Nat.zero_add, Bool.and_eq_true, Bool.not_eq_true', beq_eq_false_iff_ne, ne_eq, hjk, hj2, not_false_eq_true, true_and, Bool.and_eq_false_imp, beq_iff_eq]
      intro hj1 hc
      obtain ⟨y, rfl⟩ := zcat_long hc
      subst hj1
      exact zlk_no hk hj
theorem zEa_args : ∀ (as : List zV) (i : Nat) (r : List (Option zV)), (∀ o ∈ r, o = none) → zAs i (zEa as ++ r) = lv_args i (as.map tv)
  | [], i, r, hr => by
    show zAs i r = []
    induction r generalizing i with
    | nil => rfl
    | cons o r ih =>
      rw [hr o List.mem_cons_self]
      exact ih (i + 1) (fun o h => hr o (List.mem_cons_of_mem _ h))
  | .inl z :: as, i, r, hr => by
    show (i, tv (.inl z)) :: zAs (i + 1) (zEa as ++ r) = _
    rw [zEa_args as (i + 1) r hr]
    rfl
  | .inr (.inl none) :: as, i, r, hr => by
    show (i, tv (.inr (.inl none))) :: zAs (i + 1) (zEa as ++ r) = _
    rw [zEa_args as (i + 1) r hr]
    rfl
  | .inr (.inl (some a)) :: as, i, r, hr => by
    show (i, tv (.inr (.inl (some a)))) :: zAs (i + 1) (zEa as ++ r) = _
    rw [zEa_args as (i + 1) r hr]
    rfl
  | .inr (.inr x) :: as, i, r, hr => by
    show (i, tv (.inr (.inr x))) :: zAs (i + 1 + 1) (zEa as ++ r) = _
    rw [zEa_args as (i + 1 + 1) r hr]
    rfl
theorem zEa_len : ∀ (as : List zV), (lg_sl (as.map tv)).length = (zEa as).length
  | [] => rfl
  | .inl z :: as => by
    have := zEa_len as
    simp [lg_sl, zEa, tv, Value.category] at this ⊢
    exact this
  | .inr (.inl none) :: as => by
    have := zEa_len as
    simp [lg_sl, zEa, tv, va_rf, Value.category] at this ⊢
    exact this
  | .inr (.inl (some a)) :: as => by
    have := zEa_len as
    simp [lg_sl, zEa, tv, va_rf, Value.category] at this ⊢
    exact this
  | .inr (.inr x) :: as => by
    have := zEa_len as
    simp [lg_sl, zEa, tv, Value.category] at this ⊢
    omega
theorem zEn_ls {as : List zV} {n : Nat} (h : (zEa as).length ≤ n) : zLs ((lg_sl (as.map tv) ++ List.replicate (n - (lg_sl (as.map tv)).length) Slot.unset).toArray) n (zEn as n) := by
  have h1 := lv_entry (as.map tv) (n := n) (by rw [zEa_len]; exact h)
  refine ⟨by simp [zEn]; omega, ?_⟩
  rw [zEn, zEa_args as 0 _ (fun o ho => List.eq_of_mem_replicate ho)]
  exact h1
-- the entry
theorem zK_blind {D : va_G} {cA : Nat → ClassId} {u U : State} (h : u.vm = U.vm) (hK : zK D cA u) : zK D cA U := by
  have ha : u.vm.Alike U.vm := h ▸ Vm.Alike.refl u.vm
  refine ⟨va_K.moved ha hK.1, fun w hw => ?_, va_AO.moved ha hK.2.2.1, va_AO.moved ha hK.2.2.2⟩
  have hn := (List.mem_filter.mp hw).2
  have h1 := hK.2.1 w hw
  cases w <;> first | exact va_Nw.same rfl h h1 | (simp [zNest] at hn)
theorem zK_warm {D : va_G} {cA : Nat → ClassId} {s U : State} (hW : s.WarmedH U.vm) (hK : zK D cA s) : zK D cA U := by
  refine ⟨va_K.moved hW.alike hK.1, fun w hw => ?_, va_AO.moved hW.alike hK.2.2.1, va_AO.moved hW.alike hK.2.2.2⟩
  have hn := (List.mem_filter.mp hw).2
  have h1 := hK.2.1 w hw
  cases w <;> first | exact va_Nw.warmF hW h1 | exact va_Nw.warmM hW h1 | (simp [zNest] at hn)
theorem zPre_blind {D : va_G} {cA : Nat → ClassId} {lo : Nat} {as : List zV} {M : zM} : FrameBlind (zPre D cA lo as M) := by
  intro a U g mk h
  exact ⟨h.1, h.2.1, zK_blind (u := U) (U := U.calling g mk a) rfl h.2.2⟩
theorem zCt_of {lo d : Nat} {k : zY} {mc ms : Nat} {as : List zV} {M : zM} {Q : Option zV → zM → Prop} (ls : List (Option zV)) (hls : zEn as (zYl k) = ls) (hlen : (zEa as).length ≤ zYl k) (hpl : plainName (zYn k).cls = true) (hcn : (zYn k).cls = zCn (zYo k))
    (h : zRn lo d (zR d mc ms) k (zFn lo mc ms Q) (0, 0) 0 ls [] M) : zCt lo d k mc ms as M Q := by
  intro l D cA
  refine Met.ofW (cc := zYb k) (maxL := zYl k) (ret := zYr k) (ws' := zTW) hpl rfl ?_
  intro p e s m args below meth c s₁ B hml hv
  obtain ⟨rfl, hH, hK⟩ := hv
  have hts := atoms_spec (ws := zW k) B.pre
  have hown : s.vm.findClass (zYn k).cls = some m.cls := findClass_of_methodNamed B.named
  rw [hcn] at hown
  rw [lg_entry_eq]
  exact h p l e s m _ below meth c D cA ⟨B.exec, B.bytes, B.returns, hml, hown, B.notSynchronized, (name_of_methodNamed B.named B.method).1, fun w hw => hts w (List.mem_cons_of_mem _ hw), hK, Nat.le_refl d, Nat.le_refl (60 * d), hH.1⟩ s.heap [] _ hH va_S.rf (hls ▸ zEn_ls hlen)
end
section
-- one row an instruction, over the judgement zRn
section ZR
variable {lo d : Nat} {Rm : Room} {k : zY} {Fn : List Frame → Array Value → State → va_G → (Nat → ClassId) → State → Prop} {u : Nat × Nat} {pc : Nat} {ls : List (Option zV)} {st : List zV} {M : zM}
theorem zr_iload_n {n : Fin 4} {z : Int} (hd : decode (zYb k) pc = .ok (.iload_n n, 1)) (hl : zg ls n.val = some (some (.inl z))) (K : zRn lo d Rm k Fn u (pc + 1) ls (.inl z :: st) M) : zRn lo d Rm k Fn u pc ls st M := by
  intro p l e s m args below meth c D cA hc H locs lsA hH hS hL
  exact lv_iload_n hc.1 hc.2.1 hd rfl (zLs_at hL hl) (K p l e s m args below meth c D cA hc H locs lsA hH hS hL)
theorem zr_iload {n : Nat} {z : Int} (hd : decode (zYb k) pc = .ok (.iload n, 2)) (hl : zg ls n = some (some (.inl z))) (K : zRn lo d Rm k Fn u (pc + 2) ls (.inl z :: st) M) : zRn lo d Rm k Fn u pc ls st M := by
  intro p l e s m args below meth c D cA hc H locs lsA hH hS hL
  exact lv_iload hc.1 hc.2.1 hd (zLs_at hL hl) (K p l e s m args below meth c D cA hc H locs lsA hH hS hL)
theorem zr_lload_n {n : Fin 4} {z : Int64} (hd : decode (zYb k) pc = .ok (.lload_n n, 1)) (hl : zg ls n.val = some (some (.inr (.inr z)))) (K : zRn lo d Rm k Fn u (pc + 1) ls (.inr (.inr z) :: st) M) : zRn lo d Rm k Fn u pc ls st M := by
  intro p l e s m args below meth c D cA hc H locs lsA hH hS hL
  exact lv_lload_n hc.1 hc.2.1 hd rfl (zLs_at hL hl) (K p l e s m args below meth c D cA hc H locs lsA hH hS hL)
theorem zr_lload {n : Nat} {z : Int64} (hd : decode (zYb k) pc = .ok (.lload n, 2)) (hl : zg ls n = some (some (.inr (.inr z)))) (K : zRn lo d Rm k Fn u (pc + 2) ls (.inr (.inr z) :: st) M) : zRn lo d Rm k Fn u pc ls st M := by
  intro p l e s m args below meth c D cA hc H locs lsA hH hS hL
  exact lv_lload hc.1 hc.2.1 hd (zLs_at hL hl) (K p l e s m args below meth c D cA hc H locs lsA hH hS hL)
theorem zr_aload_n {n : Fin 4} {r : Option Nat} (hd : decode (zYb k) pc = .ok (.aload_n n, 1)) (hl : zg ls n.val = some (some (.inr (.inl r)))) (K : zRn lo d Rm k Fn u (pc + 1) ls (.inr (.inl r) :: st) M) : zRn lo d Rm k Fn u pc ls st M := by
  intro p l e s m args below meth c D cA hc H locs lsA hH hS hL
  cases r with
  | none => exact lv_aload_nN hc.1 hc.2.1 hd rfl (zLs_at hL hl) (K p l e s m args below meth c D cA hc H locs lsA hH hS hL)
  | some a => exact lv_aload_n hc.1 hc.2.1 hd rfl (zLs_at hL hl) (K p l e s m args below meth c D cA hc H locs lsA hH hS hL)
theorem zr_aload {n : Nat} {r : Option Nat} (hd : decode (zYb k) pc = .ok (.aload n, 2)) (hl : zg ls n = some (some (.inr (.inl r)))) (K : zRn lo d Rm k Fn u (pc + 2) ls (.inr (.inl r) :: st) M) : zRn lo d Rm k Fn u pc ls st M := by
  intro p l e s m args below meth c D cA hc H locs lsA hH hS hL
  cases r with
  | none => exact lv_aloadN hc.1 hc.2.1 hd (zLs_at hL hl) (K p l e s m args below meth c D cA hc H locs lsA hH hS hL)
  | some a => exact lv_aload hc.1 hc.2.1 hd (zLs_at hL hl) (K p l e s m args below meth c D cA hc H locs lsA hH hS hL)
theorem zr_istore_n {n : Fin 4} {z : Int} {w : Option zV} (hd : decode (zYb k) pc = .ok (.istore_n n, 1)) (hw : zg ls n.val = some w) (hk : zlk ls n.val) (K : zRn lo d Rm k Fn u (pc + 1) (zst ls n.val (some (.inl z))) st M) : zRn lo d Rm k Fn u pc ls (.inl z :: st) M := by
  intro p l e s m args below meth c D cA hc H locs lsA hH hS hL
  exact lv_istore_n hc.1 hc.2.1 hd rfl hL.2 (by rw [← hL.1]; exact zg_lt hw) rfl (fun lsB hB => K p l e s m args below meth c D cA hc H locs lsB hH hS (zLs_st1 (v := .inl z) hL hk hB))
theorem zr_istore {n : Nat} {z : Int} {w : Option zV} (hd : decode (zYb k) pc = .ok (.istore n, 2)) (hw : zg ls n = some w) (hk : zlk ls n) (K : zRn lo d Rm k Fn u (pc + 2) (zst ls n (some (.inl z))) st M) : zRn lo d Rm k Fn u pc ls (.inl z :: st) M := by
  intro p l e s m args below meth c D cA hc H locs lsA hH hS hL
  exact lv_istore hc.1 hc.2.1 hd hL.2 (by rw [← hL.1]; exact zg_lt hw) rfl (fun lsB hB => K p l e s m args below meth c D cA hc H locs lsB hH hS (zLs_st1 (v := .inl z) hL hk hB))
theorem zr_astore_n {n : Fin 4} {r : Option Nat} {w : Option zV} (hd : decode (zYb k) pc = .ok (.astore_n n, 1)) (hw : zg ls n.val = some w) (hk : zlk ls n.val) (K : zRn lo d Rm k Fn u (pc + 1) (zst ls n.val (some (.inr (.inl r)))) st M) : zRn lo d Rm k Fn u pc ls (.inr (.inl r) :: st) M := by
  intro p l e s m args below meth c D cA hc H locs lsA hH hS hL
  cases r with
  | none => exact lv_astore_nN hc.1 hc.2.1 hd rfl hL.2 (by rw [← hL.1]; exact zg_lt hw) rfl (fun lsB hB => K p l e s m args below meth c D cA hc H locs lsB hH hS (zLs_st1 (v := .inr (.inl none)) hL hk hB))
  | some a => exact lv_astore_n hc.1 hc.2.1 hd rfl hL.2 (by rw [← hL.1]; exact zg_lt hw) rfl (fun lsB hB => K p l e s m args below meth c D cA hc H locs lsB hH hS (zLs_st1 (v := .inr (.inl (some a))) hL hk hB))
theorem zr_astore {n : Nat} {r : Option Nat} {w : Option zV} (hd : decode (zYb k) pc = .ok (.astore n, 2)) (hw : zg ls n = some w) (hk : zlk ls n) (K : zRn lo d Rm k Fn u (pc + 2) (zst ls n (some (.inr (.inl r)))) st M) : zRn lo d Rm k Fn u pc ls (.inr (.inl r) :: st) M := by
  intro p l e s m args below meth c D cA hc H locs lsA hH hS hL
  cases r with
  | none => exact lv_astoreN hc.1 hc.2.1 hd hL.2 (by rw [← hL.1]; exact zg_lt hw) rfl (fun lsB hB => K p l e s m args below meth c D cA hc H locs lsB hH hS (zLs_st1 (v := .inr (.inl none)) hL hk hB))
  | some a => exact lv_astore hc.1 hc.2.1 hd hL.2 (by rw [← hL.1]; exact zg_lt hw) rfl (fun lsB hB => K p l e s m args below meth c D cA hc H locs lsB hH hS (zLs_st1 (v := .inr (.inl (some a))) hL hk hB))
theorem zr_lstore {n : Nat} {z : Int64} {w : Option zV} (hd : decode (zYb k) pc = .ok (.lstore n, 2)) (hw : zg ls (n + 1) = some w) (hk : zlk ls n) (K : zRn lo d Rm k Fn u (pc + 2) (zst (zst ls n (some (.inr (.inr z)))) (n + 1) none) st M) : zRn lo d Rm k Fn u pc ls (.inr (.inr z) :: st) M := by
  intro p l e s m args below meth c D cA hc H locs lsA hH hS hL
  exact lv_lstore hc.1 hc.2.1 hd hL.2 (by rw [← hL.1]; exact zg_lt hw) rfl (fun lsB hB => K p l e s m args below meth c D cA hc H locs lsB hH hS (zLs_st2 hL hk hB))
theorem zr_iinc {n : Nat} {z dz : Int} (hd : decode (zYb k) pc = .ok (.iinc n dz, 3)) (hw : zg ls n = some (some (.inl z))) (hk : zlk ls n) (K : zRn lo d Rm k Fn u (pc + 3) (zst ls n (some (.inl (z + dz)))) st M) : zRn lo d Rm k Fn u pc ls st M := by
  intro p l e s m args below meth c D cA hc H locs lsA hH hS hL
  obtain ⟨i, hi⟩ := List.getElem?_of_mem (zAs_mem.mpr ⟨n, .inl z, zg_mem hw, rfl⟩ : (0 + n, tv (.inl z)) ∈ zAs 0 ls)
  rw [Nat.zero_add] at hi
  exact lv_iinc (v := Int32.ofInt (z + dz)) hc.1 hc.2.1 hd hL.2 hi (by rw [Int32.ofInt_add]) (by rw [← hL.1]; exact zg_lt hw) rfl (fun lsB hB => K p l e s m args below meth c D cA hc H locs lsB hH hS (zLs_st1 (v := .inl (z + dz)) hL hk hB))
-- constants
theorem zr_iconst {n : Int} (hd : decode (zYb k) pc = .ok (.iconst n, 1)) (K : zRn lo d Rm k Fn u (pc + 1) ls (.inl n :: st) M) : zRn lo d Rm k Fn u pc ls st M := by
  intro p l e s m args below meth c D cA hc H locs lsA hH hS hL
  exact lv_iconst hc.1 hc.2.1 hd rfl (K p l e s m args below meth c D cA hc H locs lsA hH hS hL)
theorem zbi {n : Int} (h1 : -128 ≤ n) (h2 : n ≤ 127) : (Int8.ofInt n).toInt32 = Int32.ofInt n := by
  apply Int32.toInt_inj.mp
  rw [zToInt (by omega) (by omega), Int8.toInt_toInt32, Int8.toInt_ofInt_of_le (by omega) (by omega)]
theorem zsi {n : Int} (h1 : -32768 ≤ n) (h2 : n ≤ 32767) : (Int16.ofInt n).toInt32 = Int32.ofInt n := by
  apply Int32.toInt_inj.mp
  rw [zToInt (by omega) (by omega), Int16.toInt_toInt32, Int16.toInt_ofInt_of_le (by omega) (by omega)]
theorem zr_bipush {n : Int} (hd : decode (zYb k) pc = .ok (.bipush n, 2)) (h1 : -128 ≤ n) (h2 : n ≤ 127) (K : zRn lo d Rm k Fn u (pc + 2) ls (.inl n :: st) M) : zRn lo d Rm k Fn u pc ls st M := by
  intro p l e s m args below meth c D cA hc H locs lsA hH hS hL
  exact lv_bipush hc.1 hc.2.1 hd (zbi h1 h2) (K p l e s m args below meth c D cA hc H locs lsA hH hS hL)
theorem zr_sipush {n : Int} (hd : decode (zYb k) pc = .ok (.sipush n, 3)) (h1 : -32768 ≤ n) (h2 : n ≤ 32767) (K : zRn lo d Rm k Fn u (pc + 3) ls (.inl n :: st) M) : zRn lo d Rm k Fn u pc ls st M := by
  intro p l e s m args below meth c D cA hc H locs lsA hH hS hL
  exact lv_sipush hc.1 hc.2.1 hd (zsi h1 h2) (K p l e s m args below meth c D cA hc H locs lsA hH hS hL)
theorem zr_lconst {n : Fin 2} (hd : decode (zYb k) pc = .ok (.lconst n, 1)) (K : zRn lo d Rm k Fn u (pc + 1) ls (.inr (.inr (Int64.ofNat n.val)) :: st) M) : zRn lo d Rm k Fn u pc ls st M := by
  intro p l e s m args below meth c D cA hc H locs lsA hH hS hL
  exact lv_lconst hc.1 hc.2.1 hd rfl (K p l e s m args below meth c D cA hc H locs lsA hH hS hL)
theorem zr_null (hd : decode (zYb k) pc = .ok (.aconst_null, 1)) (K : zRn lo d Rm k Fn u (pc + 1) ls (.inr (.inl none) :: st) M) : zRn lo d Rm k Fn u pc ls st M := by
  intro p l e s m args below meth c D cA hc H locs lsA hH hS hL
  exact lv_null hc.1 hc.2.1 hd (K p l e s m args below meth c D cA hc H locs lsA hH hS hL)
theorem zr_ldc2 {i : Nat} {v : Int64} (hd : decode (zYb k) pc = .ok (.ldc2_w i, 3)) (hv : zLc (zYo k) i = some v) (K : zRn lo d Rm k Fn u (pc + 3) ls (.inr (.inr v) :: st) M) : zRn lo d Rm k Fn u pc ls st M := by
  intro p l e s m args below meth c D cA hc H locs lsA hH hS hL
  obtain ⟨hx, hb, hr, hml, hown, hlk, hnm, hts, hK, -⟩ := id hc
  simp only [zLc, Option.map_eq_some_iff] at hv
  obtain ⟨x, hx1, rfl⟩ := hv
  have hp := List.find?_some hx1
  simp only [beq_iff_eq] at hp
  have h2 := List.all_eq_true.mp zLc_ok x (List.mem_of_find?_eq_some hx1)
  rw [hp] at h2
  exact lv_ldc2 hx hb hown (hts _ (zWd_tw h2 rfl)) hd (K p l e s m args below meth c D cA hc H locs lsA hH hS hL)
-- arithmetic
theorem zr_iadd {a b : Int} (hd : decode (zYb k) pc = .ok (.iadd, 1)) (K : zRn lo d Rm k Fn u (pc + 1) ls (.inl (a + b) :: st) M) : zRn lo d Rm k Fn u pc ls (.inl b :: .inl a :: st) M := by
  intro p l e s m args below meth c D cA hc H locs lsA hH hS hL
  refine lv_iadd hc.1 hc.2.1 hd ?_
  rw [← Int32.ofInt_add]
  exact K p l e s m args below meth c D cA hc H locs lsA hH hS hL
theorem zr_isub {a b : Int} (hd : decode (zYb k) pc = .ok (.isub, 1)) (K : zRn lo d Rm k Fn u (pc + 1) ls (.inl (a - b) :: st) M) : zRn lo d Rm k Fn u pc ls (.inl b :: .inl a :: st) M := by
  intro p l e s m args below meth c D cA hc H locs lsA hH hS hL
  refine lv_isub hc.1 hc.2.1 hd ?_
  rw [← Int32.ofInt_sub]
  exact K p l e s m args below meth c D cA hc H locs lsA hH hS hL
theorem zr_imul {a b : Int} (hd : decode (zYb k) pc = .ok (.imul, 1)) (K : zRn lo d Rm k Fn u (pc + 1) ls (.inl (a * b) :: st) M) : zRn lo d Rm k Fn u pc ls (.inl b :: .inl a :: st) M := by
  intro p l e s m args below meth c D cA hc H locs lsA hH hS hL
  refine lv_imul hc.1 hc.2.1 hd ?_
  rw [← Int32.ofInt_mul]
  exact K p l e s m args below meth c D cA hc H locs lsA hH hS hL
def zand (a b : Int) : Int := (Int32.ofInt a &&& Int32.ofInt b).toInt
def zshl (a b : Int) : Int := (Int32.ofInt a <<< (Int32.ofInt b &&& 31)).toInt
def zshr (a b : Int) : Int := (Int32.ofInt a >>> (Int32.ofInt b &&& 31)).toInt
theorem zr_iand {a b : Int} (hd : decode (zYb k) pc = .ok (.iand, 1)) (K : zRn lo d Rm k Fn u (pc + 1) ls (.inl (zand a b) :: st) M) : zRn lo d Rm k Fn u pc ls (.inl b :: .inl a :: st) M := by
  intro p l e s m args below meth c D cA hc H locs lsA hH hS hL
  have h := K p l e s m args below meth c D cA hc H locs lsA hH hS hL
  rw [List.map_cons, show tv (.inl (zand a b)) = .int (Int32.ofInt a &&& Int32.ofInt b) from by rw [tv, zand, Int32.ofInt_toInt]] at h
  exact lv_iand hc.1 hc.2.1 hd h
theorem zr_ishl {a b : Int} (hd : decode (zYb k) pc = .ok (.ishl, 1)) (K : zRn lo d Rm k Fn u (pc + 1) ls (.inl (zshl a b) :: st) M) : zRn lo d Rm k Fn u pc ls (.inl b :: .inl a :: st) M := by
  intro p l e s m args below meth c D cA hc H locs lsA hH hS hL
  have h := K p l e s m args below meth c D cA hc H locs lsA hH hS hL
  rw [List.map_cons, show tv (.inl (zshl a b)) = .int (Int32.ofInt a <<< (Int32.ofInt b &&& 31)) from by rw [tv, zshl, Int32.ofInt_toInt]] at h
  exact lv_ishl hc.1 hc.2.1 hd h
theorem zr_ishr {a b : Int} (hd : decode (zYb k) pc = .ok (.ishr, 1)) (K : zRn lo d Rm k Fn u (pc + 1) ls (.inl (zshr a b) :: st) M) : zRn lo d Rm k Fn u pc ls (.inl b :: .inl a :: st) M := by
  intro p l e s m args below meth c D cA hc H locs lsA hH hS hL
  have h := K p l e s m args below meth c D cA hc H locs lsA hH hS hL
  rw [List.map_cons, show tv (.inl (zshr a b)) = .int (Int32.ofInt a >>> (Int32.ofInt b &&& 31)) from by rw [tv, zshr, Int32.ofInt_toInt]] at h
  exact lv_ishr hc.1 hc.2.1 hd h
theorem zr_i2l {a : Int} (hd : decode (zYb k) pc = .ok (.i2l, 1)) (K : zRn lo d Rm k Fn u (pc + 1) ls (.inr (.inr (Int32.ofInt a).toInt64) :: st) M) : zRn lo d Rm k Fn u pc ls (.inl a :: st) M := by
  intro p l e s m args below meth c D cA hc H locs lsA hH hS hL
  exact lv_i2l hc.1 hc.2.1 hd rfl (K p l e s m args below meth c D cA hc H locs lsA hH hS hL)
theorem zr_l2i {x : Int64} (hd : decode (zYb k) pc = .ok (.l2i, 1)) (K : zRn lo d Rm k Fn u (pc + 1) ls (.inl x.toInt32.toInt :: st) M) : zRn lo d Rm k Fn u pc ls (.inr (.inr x) :: st) M := by
  intro p l e s m args below meth c D cA hc H locs lsA hH hS hL
  have h := K p l e s m args below meth c D cA hc H locs lsA hH hS hL
  rw [List.map_cons, show tv (.inl x.toInt32.toInt) = .int x.toInt32 from by rw [tv, Int32.ofInt_toInt]] at h
  exact lv_l2i hc.1 hc.2.1 hd rfl h
theorem zr_land {x y : Int64} (hd : decode (zYb k) pc = .ok (.land, 1)) (K : zRn lo d Rm k Fn u (pc + 1) ls (.inr (.inr (x &&& y)) :: st) M) : zRn lo d Rm k Fn u pc ls (.inr (.inr y) :: .inr (.inr x) :: st) M := by
  intro p l e s m args below meth c D cA hc H locs lsA hH hS hL
  exact lv_land hc.1 hc.2.1 hd (K p l e s m args below meth c D cA hc H locs lsA hH hS hL)
theorem zr_lor {x y : Int64} (hd : decode (zYb k) pc = .ok (.lor, 1)) (K : zRn lo d Rm k Fn u (pc + 1) ls (.inr (.inr (x ||| y)) :: st) M) : zRn lo d Rm k Fn u pc ls (.inr (.inr y) :: .inr (.inr x) :: st) M := by
  intro p l e s m args below meth c D cA hc H locs lsA hH hS hL
  exact lv_lor hc.1 hc.2.1 hd (K p l e s m args below meth c D cA hc H locs lsA hH hS hL)
theorem zr_lushr {x : Int64} {b : Int} (hd : decode (zYb k) pc = .ok (.lushr, 1)) (K : zRn lo d Rm k Fn u (pc + 1) ls (.inr (.inr (x.toUInt64 >>> ((Int32.ofInt b).toInt64.toUInt64 &&& Int64.toUInt64 63)).toInt64) :: st) M) : zRn lo d Rm k Fn u pc ls (.inl b :: .inr (.inr x) :: st) M := by
  intro p l e s m args below meth c D cA hc H locs lsA hH hS hL
  exact lv_lushr hc.1 hc.2.1 hd rfl (K p l e s m args below meth c D cA hc H locs lsA hH hS hL)
theorem zr_lshl {x : Int64} {b : Int} (hd : decode (zYb k) pc = .ok (.lshl, 1)) (K : zRn lo d Rm k Fn u (pc + 1) ls (.inr (.inr (x <<< ((Int32.ofInt b).toInt64 &&& 63))) :: st) M) : zRn lo d Rm k Fn u pc ls (.inl b :: .inr (.inr x) :: st) M := by
  intro p l e s m args below meth c D cA hc H locs lsA hH hS hL
  exact lv_lshl hc.1 hc.2.1 hd rfl (K p l e s m args below meth c D cA hc H locs lsA hH hS hL)
theorem zr_lcmp {x y : Int64} (hd : decode (zYb k) pc = .ok (.lcmp, 1)) (K : zRn lo d Rm k Fn u (pc + 1) ls (.inl (lg_cmp x y).toInt :: st) M) : zRn lo d Rm k Fn u pc ls (.inr (.inr y) :: .inr (.inr x) :: st) M := by
  intro p l e s m args below meth c D cA hc H locs lsA hH hS hL
  have h := K p l e s m args below meth c D cA hc H locs lsA hH hS hL
  rw [List.map_cons, show tv (.inl (lg_cmp x y).toInt) = .int (lg_cmp x y) from by rw [tv, Int32.ofInt_toInt]] at h
  exact W.lcmp hc.1 hc.2.1 hd h
-- the stack
theorem zr_dup {v : zV} (hd : decode (zYb k) pc = .ok (.dup, 1)) (hv : ∀ x, v ≠ .inr (.inr x)) (K : zRn lo d Rm k Fn u (pc + 1) ls (v :: v :: st) M) : zRn lo d Rm k Fn u pc ls (v :: st) M := by
  intro p l e s m args below meth c D cA hc H locs lsA hH hS hL
  refine lv_dup hc.1 hc.2.1 hd ?_ (K p l e s m args below meth c D cA hc H locs lsA hH hS hL)
  match v, hv with
  | .inl _, _ => rfl
  | .inr (.inl none), _ => rfl
  | .inr (.inl (some _)), _ => rfl
  | .inr (.inr x), hv => exact absurd rfl (hv x)
theorem zr_dup2 {a : Nat} {v : Int} (hd : decode (zYb k) pc = .ok (.dup2, 1)) (K : zRn lo d Rm k Fn u (pc + 1) ls (.inl v :: .inr (.inl (some a)) :: .inl v :: .inr (.inl (some a)) :: st) M) : zRn lo d Rm k Fn u pc ls (.inl v :: .inr (.inl (some a)) :: st) M := by
  intro p l e s m args below meth c D cA hc H locs lsA hH hS hL
  exact lv_dup2_11 hc.1 hc.2.1 hd rfl rfl (K p l e s m args below meth c D cA hc H locs lsA hH hS hL)
theorem zr_pop {v : Int} (hd : decode (zYb k) pc = .ok (.pop, 1)) (K : zRn lo d Rm k Fn u (pc + 1) ls st M) : zRn lo d Rm k Fn u pc ls (.inl v :: st) M := by
  intro p l e s m args below meth c D cA hc H locs lsA hH hS hL
  exact lv_pop hc.1 hc.2.1 hd rfl (K p l e s m args below meth c D cA hc H locs lsA hH hS hL)
-- jumps
theorem ztg {pc : Nat} {off : Int} (h : 0 ≤ (pc : Int) + off) : (pc : Int) + off = ((((pc : Int) + off).toNat : Nat) : Int) := by omega
theorem zr_goto {off : Int} (hd : decode (zYb k) pc = .ok (.goto off, 3)) (h0 : 0 ≤ (pc : Int) + off) (K : zRn lo d Rm k Fn u (((pc : Int) + off).toNat) ls st M) : zRn lo d Rm k Fn u pc ls st M := by
  intro p l e s m args below meth c D cA hc H locs lsA hH hS hL
  exact lv_goto hc.1 hc.2.1 hd (ztg h0) (K p l e s m args below meth c D cA hc H locs lsA hH hS hL)
def zCd (c : Jvm.ClassFile.Cond) (a b : Int) : Prop := match c with
  | .eq => a = b
  | .ne => ¬ a = b
  | .lt => a < b
  | .ge => b ≤ a
  | .gt => b < a
  | .le => a ≤ b
def zRr (z : Int) : Prop := -2147483648 ≤ z ∧ z < 2147483648
theorem zcEq {a b : Int} (ha : zRr a) (hb : zRr b) : Int32.ofInt a = Int32.ofInt b ↔ a = b := by
  rw [← Int32.toInt_inj, zToInt ha.1 ha.2, zToInt hb.1 hb.2]
theorem zcLt {a b : Int} (ha : zRr a) (hb : zRr b) : Int32.ofInt a < Int32.ofInt b ↔ a < b := by
  rw [Int32.lt_iff_toInt_lt, zToInt ha.1 ha.2, zToInt hb.1 hb.2]
theorem zcLe {a b : Int} (ha : zRr a) (hb : zRr b) : Int32.ofInt a ≤ Int32.ofInt b ↔ a ≤ b := by
  rw [Int32.le_iff_toInt_le, zToInt ha.1 ha.2, zToInt hb.1 hb.2]
set_option maxHeartbeats 4000000 in
theorem zr_icmp {cd : Jvm.ClassFile.Cond} {off : Int} {a b : Int} (hd : decode (zYb k) pc = .ok (.if_icmp cd off, 3)) (h0 : 0 ≤ (pc : Int) + off) (ha : zRr a) (hb : zRr b) (Kt : zCd cd a b → zRn lo d Rm k Fn u (((pc : Int) + off).toNat) ls st M) (Kf : ¬ zCd cd a b → zRn lo d Rm k Fn u (pc + 3) ls st M) : zRn lo d Rm k Fn u pc ls (.inl b :: .inl a :: st) M := by
  intro p l e s m args below meth c D cA hc H locs lsA hH hS hL
  have Kt' := fun h => Kt h p l e s m args below meth c D cA hc H locs lsA hH hS hL
  have Kf' := fun h => Kf h p l e s m args below meth c D cA hc H locs lsA hH hS hL
  cases cd with
  | eq => exact lv_icmp_eq hc.1 hc.2.1 hd (ztg h0) (fun h => Kt' ((zcEq ha hb).mp h)) (fun h => Kf' (fun h2 => h ((zcEq ha hb).mpr h2)))
  | ne => exact lv_icmp_ne hc.1 hc.2.1 hd (ztg h0) (fun h => Kt' (fun h2 => h ((zcEq ha hb).mpr h2))) (fun h => Kf' (fun h2 => h2 ((zcEq ha hb).mp h)))
  | lt => exact lv_icmp_lt hc.1 hc.2.1 hd (ztg h0) (fun h => Kt' ((zcLt ha hb).mp h)) (fun h => Kf' (fun h2 => h ((zcLt ha hb).mpr h2)))
  | ge => exact lv_icmp_ge hc.1 hc.2.1 hd (ztg h0) (fun h => Kt' ((zcLe hb ha).mp h)) (fun h => Kf' (fun h2 => h ((zcLe hb ha).mpr h2)))
  | gt => exact lv_icmp_gt hc.1 hc.2.1 hd (ztg h0) (fun h => Kt' ((zcLt hb ha).mp h)) (fun h => Kf' (fun h2 => h ((zcLt hb ha).mpr h2)))
  | le => exact lv_icmp_le hc.1 hc.2.1 hd (ztg h0) (fun h => Kt' ((zcLe ha hb).mp h)) (fun h => Kf' (fun h2 => h ((zcLe ha hb).mpr h2)))
theorem z0r : zRr 0 := ⟨by decide, by decide⟩
set_option maxHeartbeats 4000000 in
theorem zr_ifz {cd : Jvm.ClassFile.Cond} {off : Int} {a : Int} (hd : decode (zYb k) pc = .ok (.ifCond cd off, 3)) (h0 : 0 ≤ (pc : Int) + off) (ha : zRr a) (Kt : zCd cd a 0 → zRn lo d Rm k Fn u (((pc : Int) + off).toNat) ls st M) (Kf : ¬ zCd cd a 0 → zRn lo d Rm k Fn u (pc + 3) ls st M) : zRn lo d Rm k Fn u pc ls (.inl a :: st) M := by
  intro p l e s m args below meth c D cA hc H locs lsA hH hS hL
  have Kt' := fun h => Kt h p l e s m args below meth c D cA hc H locs lsA hH hS hL
  have Kf' := fun h => Kf h p l e s m args below meth c D cA hc H locs lsA hH hS hL
  have e0 : Int32.ofInt 0 = 0 := rfl
  cases cd with
  | eq => exact lv_if_eq hc.1 hc.2.1 hd (ztg h0) (fun h => Kt' ((zcEq ha z0r).mp (h.trans e0.symm))) (fun h => Kf' (fun h2 => h ((zcEq ha z0r).mpr h2)))
  | ne => exact lv_if_ne hc.1 hc.2.1 hd (ztg h0) (fun h => Kt' (fun h2 => h ((zcEq ha z0r).mpr h2))) (fun h => Kf' (fun h2 => h2 ((zcEq ha z0r).mp (h.trans e0.symm))))
  | lt => exact lv_if_lt hc.1 hc.2.1 hd (ztg h0) (fun h => Kt' ((zcLt ha z0r).mp h)) (fun h => Kf' (fun h2 => h ((zcLt ha z0r).mpr h2)))
  | ge => exact lv_if_ge hc.1 hc.2.1 hd (ztg h0) (fun h => Kt' ((zcLe z0r ha).mp h)) (fun h => Kf' (fun h2 => h ((zcLe z0r ha).mpr h2)))
  | gt => exact lv_if_gt hc.1 hc.2.1 hd (ztg h0) (fun h => Kt' ((zcLt z0r ha).mp h)) (fun h => Kf' (fun h2 => h ((zcLt z0r ha).mpr h2)))
  | le => exact lv_if_le hc.1 hc.2.1 hd (ztg h0) (fun h => Kt' ((zcLe ha z0r).mp h)) (fun h => Kf' (fun h2 => h ((zcLe ha z0r).mpr h2)))
theorem zr_ifnull {off : Int} {r : Option Nat} (hd : decode (zYb k) pc = .ok (.ifnull off, 3)) (h0 : 0 ≤ (pc : Int) + off) (Kt : r = none → zRn lo d Rm k Fn u (((pc : Int) + off).toNat) ls st M) (Kf : r ≠ none → zRn lo d Rm k Fn u (pc + 3) ls st M) : zRn lo d Rm k Fn u pc ls (.inr (.inl r) :: st) M := by
  intro p l e s m args below meth c D cA hc H locs lsA hH hS hL
  cases r with
  | none => exact lv_ifnullN hc.1 hc.2.1 hd (ztg h0) (Kt rfl p l e s m args below meth c D cA hc H locs lsA hH hS hL)
  | some a => exact lv_ifnull hc.1 hc.2.1 hd (Kf (by simp) p l e s m args below meth c D cA hc H locs lsA hH hS hL)
theorem zr_ifnonnull {off : Int} {r : Option Nat} (hd : decode (zYb k) pc = .ok (.ifnonnull off, 3)) (h0 : 0 ≤ (pc : Int) + off) (Kt : r ≠ none → zRn lo d Rm k Fn u (((pc : Int) + off).toNat) ls st M) (Kf : r = none → zRn lo d Rm k Fn u (pc + 3) ls st M) : zRn lo d Rm k Fn u pc ls (.inr (.inl r) :: st) M := by
  intro p l e s m args below meth c D cA hc H locs lsA hH hS hL
  cases r with
  | none => exact lv_ifnonnullN hc.1 hc.2.1 hd (Kf rfl p l e s m args below meth c D cA hc H locs lsA hH hS hL)
  | some a => exact lv_ifnonnull hc.1 hc.2.1 hd (ztg h0) (Kt (by simp) p l e s m args below meth c D cA hc H locs lsA hH hS hL)
/-- a switch's goes: each value that it names, then the rest -/
def zSw (pc : Nat) (x : Int) (K : Nat → Prop) : List Int → Int → Prop
  | [], _ => True
  | o :: r, lo => (x = lo → 0 ≤ (pc : Int) + o ∧ K ((pc : Int) + o).toNat) ∧ zSw pc x K r (lo + 1)
theorem zSw_at {pc : Nat} {x : Int} {K : Nat → Prop} : ∀ {l : List Int} {lo : Int}, zSw pc x K l lo → lo ≤ x → x < lo + l.length → ∃ o, l[(x - lo).toNat]? = some o ∧ 0 ≤ (pc : Int) + o ∧ K ((pc : Int) + o).toNat
  | [], lo, _, h1, h2 => by simp at h2; omega
  | o :: r, lo, h, h1, h2 => by
    by_cases hx : x = lo
    · obtain ⟨g1, g2⟩ := h.1 hx
      exact ⟨o, by rw [show (x - lo).toNat = 0 by omega]; rfl, g1, g2⟩
    · obtain ⟨o2, g0, g1, g2⟩ := zSw_at h.2 (by omega) (by simp at h2; omega)
      refine ⟨o2, ?_, g1, g2⟩
      rw [show (x - lo).toNat = (x - (lo + 1)).toNat + 1 by omega]
      exact g0
theorem zr_tsw {dflt lo' hi : Int} {offs : Array Int} {len : Nat} {x : Int} (hd : decode (zYb k) pc = .ok (.tableswitch dflt lo' hi offs, len)) (hx : zRr x) (hh : hi + 1 = lo' + offs.toList.length) (h0 : 0 ≤ (pc : Int) + dflt)
    (K1 : zSw pc x (fun pc' => zRn lo d Rm k Fn u pc' ls st M) offs.toList lo') (K2 : x < lo' ∨ hi < x → zRn lo d Rm k Fn u (((pc : Int) + dflt).toNat) ls st M) : zRn lo d Rm k Fn u pc ls (.inl x :: st) M := by
  intro p l e s m args below meth c D cA hc H locs lsA hH hS hL
  have ex : (Int32.ofInt x).toInt = x := zToInt hx.1 hx.2
  by_cases hin : x < lo' ∨ hi < x
  · exact lv_tableOut hc.1 hc.2.1 hd (by rw [ex]; exact hin) (ztg h0) (K2 hin p l e s m args below meth c D cA hc H locs lsA hH hS hL)
  · obtain ⟨o, g0, g1, g2⟩ := zSw_at K1 (by omega) (by omega)
    exact lv_tableIn hc.1 hc.2.1 hd (by rw [ex]; omega) (by rw [ex]; omega) (by rw [ex, ← Array.getElem?_toList]; exact g0) (ztg g1) (g2 p l e s m args below meth c D cA hc H locs lsA hH hS hL)
end ZR
end
section
-- fields, arrays, new cells, calls, returns
theorem zup_same {M : zM} {a : Nat} {c : zC} : zup M a c a = some c := by simp [zup]
theorem zup_ne {M : zM} {a q : Nat} {c : zC} (h : q ≠ a) : zup M a c q = M q := by simp [zup, h]
theorem zSome {α : Type} {x : Option α} {a : α} (h : x = some a) : x ≠ none := by rw [h]; simp
theorem zfs_at {fs : List zV} {kf : Nat} {v : zV} (h : zg fs kf = some v) : (fs.map tv)[kf]? = some (tv v) := by rw [List.getElem?_map, zg_mem h]; rfl
/-- one cell is written: the memory and the heap go on together -/
theorem zH_set {D : va_G} {cA : Nat → ClassId} {lo : Nat} {M : zM} {H H1 : Heap} {a : Nat} {c : zC} (h : zH D cA lo M H) (ha : M a ≠ none) (hs : H1.size = H.size) (he : va_at D vwCl (a, zE cA c) H1) (ho : ∀ q : Nat, q ≠ a → H1[q]? = H[q]?) : zH D cA lo (zup M a c) H1 := by
  refine ⟨by rw [hs]; exact h.1, fun q => ?_, fun q c' hq => ?_⟩
  · rw [hs]
    by_cases hqa : q = a
    · subst hqa
      rw [zup_same]
      exact ⟨fun _ => (h.2.1 q).mp ha, fun _ => by simp⟩
    · rw [zup_ne hqa]
      exact h.2.1 q
  · by_cases hqa : q = a
    · subst hqa
      rw [zup_same] at hq
      cases hq
      exact he
    · rw [zup_ne hqa] at hq
      exact (h.2.2 q c' hq).kept (ho q hqa)
theorem zH_new {D : va_G} {cA : Nat → ClassId} {lo : Nat} {M : zM} {H H1 : Heap} {c : zC} (h : zH D cA lo M H) (hs : H1.size = H.size + 1) (he : va_at D vwCl (H.size, zE cA c) H1) (ho : ∀ q : Nat, q < H.size → H1[q]? = H[q]?) : zH D cA lo (zup M H.size c) H1 := by
  have hno : M H.size = none := by
    cases hm : M H.size with
    | none => rfl
    | some x => exact absurd ((h.2.1 H.size).mp (zSome hm)).2 (Nat.lt_irrefl _)
  refine ⟨by rw [hs]; exact Nat.le_succ_of_le h.1, fun q => ?_, fun q c' hq => ?_⟩
  · rw [hs]
    by_cases hqa : q = H.size
    · subst hqa
      rw [zup_same]
      exact ⟨fun _ => ⟨h.1, Nat.lt_succ_self _⟩, fun _ => by simp⟩
    · rw [zup_ne hqa, h.2.1 q]
      omega
  · by_cases hqa : q = H.size
    · subst hqa
      rw [zup_same] at hq
      cases hq
      exact he
    · rw [zup_ne hqa] at hq
      exact (h.2.2 q c' hq).kept (ho q ((h.2.1 q).mp (zSome hq)).2)
theorem zH_lo {D : va_G} {cA : Nat → ClassId} {lo : Nat} {M : zM} {H : Heap} {a : Nat} (h : zH D cA lo M H) (ha : M a ≠ none) : lo ≤ a := ((h.2.1 a).mp ha).1
/-- what the table of fields says -/
theorem zF_ok {o i ci kf fk : Nat} (h : zF o i = some (ci, kf, fk)) : ∃ q : vw_C, vwCl[ci]? = some q ∧ kf < q.2.2 ∧ (q.2.1 kf).1 = q.1 ∧ (Cond.fieldLinkNest (zCn o) i q.1 (q.2.1 kf).2.1 (q.2.1 kf).2.2.1 "SeamReadings" ∈ zNw ∨ Cond.fieldLink (zCn o) i q.1 (q.2.1 kf).2.1 (q.2.1 kf).2.2.1 ∈ zTW) ∧
    ((fk = 0 ∧ parseFieldDescriptor (q.2.1 kf).2.2.1 = some .int ∧ (q.2.1 kf).2.2.2 = false) ∨ (fk = 1 ∧ (q.2.1 kf).2.2.2 = true ∧ ∃ ty, parseFieldDescriptor (q.2.1 kf).2.2.1 = some ty ∧ ((∃ t, ty = .array t) ∨ ∃ n, ty = .object n))) := by
  simp only [zF, Option.map_eq_some_iff] at h
  obtain ⟨x, hx1, hx2⟩ := h
  have hp := List.find?_some hx1
  simp only [beq_iff_eq] at hp
  have h2 := List.all_eq_true.mp zFc_ok x (List.mem_of_find?_eq_some hx1)
  simp only [zFc, hp, hx2] at h2
  cases hq : vwCl[ci]? with
  | none => rw [hq] at h2; simp at h2
  | some q =>
    rw [hq] at h2
    simp only [Bool.and_eq_true, decide_eq_true_eq] at h2
    obtain ⟨⟨⟨h3, h4⟩, h5⟩, h6⟩ := h2
    refine ⟨q, rfl, h3, h4, ?_, ?_⟩
    · by_cases hn : x.2.2.1 = 1
      · rw [if_pos hn] at h5
        exact Or.inl (zWd_nw h5 rfl)
      · rw [if_neg hn] at h5
        exact Or.inr (zWd_tw h5 rfl)
    · by_cases hf : fk = 0
      · rw [if_pos hf] at h6
        simp only [Bool.and_eq_true, decide_eq_true_eq, Bool.not_eq_true'] at h6
        exact Or.inl ⟨hf, h6.1, h6.2⟩
      · rw [if_neg hf] at h6
        simp only [Bool.and_eq_true, decide_eq_true_eq] at h6
        refine Or.inr ⟨h6.1.1, h6.1.2, ?_⟩
        have h7 := h6.2
        split at h7
        next t ht => exact ⟨_, ht, Or.inl ⟨_, rfl⟩⟩
        next t ht => exact ⟨_, ht, Or.inr ⟨_, rfl⟩⟩
        next => cases h7
section ZM
variable {lo d : Nat} {Rm : Room} {k : zY} {Fn : List Frame → Array Value → State → va_G → (Nat → ClassId) → State → Prop} {u : Nat × Nat} {pc : Nat} {ls : List (Option zV)} {st : List zV} {M : zM}
theorem zr_getfield {i ci kf fk a : Nat} {fs : List zV} {v : zV} (hd : decode (zYb k) pc = .ok (.getfield i, 3)) (hf : zF (zYo k) i = some (ci, kf, fk)) (hM : M a = some (.inl (ci, fs))) (hv : zg fs kf = some v) (K : zRn lo d Rm k Fn u (pc + 3) ls (v :: st) M) : zRn lo d Rm k Fn u pc ls (.inr (.inl (some a)) :: st) M := by
  intro p l e s m args below meth c D cA hc H locs lsA hH hS hL
  obtain ⟨hx, hb, hr, hml, hown, hlk, hnm, hts, hK, -⟩ := id hc
  obtain ⟨q, hq, h1, h2, h3, -⟩ := zF_ok hf
  have hP : va_P D vwCl [(a, zE cA (.inl (ci, fs)))] H := by
    intro j x hj
    match j, hj with
    | 0, hj => cases hj; exact hH.2.2 a _ hM
    | j + 1, hj => simp at hj
  rcases h3 with h3 | h3
  · exact va_getN (D := D) (ci := ci) (v := tv v) hx hb hts (zIn hq) hown hK.1 hP 0 rfl hq kf h1 (va_Nw.use rfl (hK.2.1 _ h3)) (fun x hx9 => by rw [← h2]; exact hx9) (zfs_at hv) hd (K p l e s m args below meth c D cA hc H locs lsA hH hS hL)
  · exact va_get (D := D) (ci := ci) (v := tv v) hx hb hts (zIn hq) hown hK.1 hP 0 rfl hq kf h1 (hts _ h3) (fun x hx9 => by rw [← h2]; exact hx9) (zfs_at hv) hd (K p l e s m args below meth c D cA hc H locs lsA hH hS hL)
theorem zP1 {D : va_G} {cA : Nat → ClassId} {H : Heap} {a : Nat} {c : zC} (hH : zH D cA lo M H) (hM : M a = some c) : va_P D vwCl [(a, zE cA c)] H := by
  intro j x hj
  match j, hj with
  | 0, hj => cases hj; exact hH.2.2 a _ hM
  | j + 1, hj => simp at hj
theorem zD1 {a : Nat} {e : va_E} (h : lo ≤ a) : va_D (fun q => lo ≤ q) [(a, e)] := by
  refine ⟨fun i j p q hi hj _ => ?_, fun j q hj => ?_⟩
  · match i, j, hi, hj with
    | 0, 0, _, _ => rfl
    | i + 1, _, hi, _ => simp at hi
    | _, j + 1, _, hj => simp at hj
  · match j, hj with
    | 0, hj => cases hj; exact h
    | j + 1, hj => simp at hj
/-- a row of the kit that writes one cell, with its memory -/
theorem zfs_set {fs : List zV} {kf : Nat} {v : zV} : (fs.map tv).set kf (tv v) = (zst fs kf v).map tv := by rw [zst_eq, List.map_set]
theorem zr_putfield {i ci kf a : Nat} {fs : List zV} {v : Int} {w : zV} (hd : decode (zYb k) pc = .ok (.putfield i, 3)) (hf : zF (zYo k) i = some (ci, kf, 0)) (hM : M a = some (.inl (ci, fs))) (hv : zg fs kf = some w) (K : zRn lo d Rm k Fn u (pc + 3) ls st (zup M a (.inl (ci, zst fs kf (.inl v))))) : zRn lo d Rm k Fn u pc ls (.inl v :: .inr (.inl (some a)) :: st) M := by
  intro p l e s m args below meth c D cA hc H locs lsA hH hS hL
  obtain ⟨hx, hb, hr, hml, hown, hlk, hnm, hts, hK, -⟩ := id hc
  obtain ⟨q, hq, h1, h2, h3, h4⟩ := zF_ok hf
  obtain ⟨ty0, hty, hnn⟩ := zTy hq
  rcases h4 with ⟨-, h4, h5⟩ | ⟨h4, -⟩
  · have hP := zP1 hH hM
    have hlo := zH_lo hH (zSome hM)
    have kk : ∀ (H1 : Heap) (locs1 : List Loc), H1.size = H.size → (∀ q : Nat, q ≠ a → H1[q]? = H[q]?) → va_P D vwCl [(a, .inr (ci, (fs.map tv).set kf (tv (.inl v))))] H1 → va_S (fun q => lo ≤ q) s.heap H1 locs1 → W p l e Rm s m args below meth c H1 locs1 u.1 u.2 (Fn below args s D cA) (F0 m (pc + 3) lsA (st.map tv)) := by
      intro H1 locs1 z1 o1 hP1 hS1
      rw [zfs_set] at hP1
      exact K p l e s m args below meth c D cA hc H1 locs1 lsA (zH_set hH (zSome hM) z1 (hP1 0 _ rfl) o1) hS1 hL
    obtain ⟨r', h9, cell, q1, q2, q3, q4⟩ := hP 0 _ rfl
    have hr' : r' = q := Option.some.inj (h9.symm.trans hq)
    subst hr'
    obtain ⟨hSl, hfc, kC, hkC, hkind⟩ := hK.1.1 ci _ hq
    obtain ⟨cf, kf', fi, f, hi, hsl⟩ := hSl kf h1
    have hap := va_apart (own := zCn (zYo k)) hts (zIn hq) ty0 hty hnn hK.1 hq
    have hlay := hts _ (zIn hq _ (u_in_lay h1))
    unfold u_lay at hlay
    rw [if_neg (by rw [h5]; decide)] at hlay
    have hst := (u_facts hfc hkC (u_lays hts (zIn hq) h1) hi).1
    have h6 := u_store (v := tv (.inl v)) hfc hkC hkind hlay hi h4 rfl rfl
    have hkl : kf < (fs.map tv).length := by rw [List.length_map]; exact zg_lt hv
    rcases h3 with h3 | h3
    · refine va_WputK hx hb (f := f) hown (va_Nw.use rfl (hK.2.1 _ h3)) (by rw [← h2]; exact hi) hst (by rw [q2]; exact h6) q1 q3 (by rw [hsl]; exact k2_hasslot (q4 kf h1)) rfl rfl hd fun H' e1 e2 e3 => ?_
      rw [hsl] at e1
      refine kk H' _ e2 e3 ?_ (hS.put e2 e3 hlo)
      intro j x hj
      match j, hj with
      | 0, hj => cases hj; exact ⟨_, hq, t_OB.to (V := updV (vp_V (fs.map tv)) kf (tv (.inl v))) ⟨_, e1, q2, q3, t_set q4 hap h1 (tv (.inl v))⟩ (fun j _ => vp_updV_set hkl (tv (.inl v)) j)⟩
      | j + 1, hj => simp at hj
    · refine W.putK hx hb (f := f) ⟨hown, hts _ h3, ⟨_, _, _, by rw [← h2]; exact hi⟩, hst⟩ (by rw [q2]; exact h6) q1 q3 (by rw [hsl]; exact k2_hasslot (q4 kf h1)) rfl rfl hd fun H' e1 e2 e3 => ?_
      rw [hsl] at e1
      refine kk H' _ e2 e3 ?_ (hS.put e2 e3 hlo)
      intro j x hj
      match j, hj with
      | 0, hj => cases hj; exact ⟨_, hq, t_OB.to (V := updV (vp_V (fs.map tv)) kf (tv (.inl v))) ⟨_, e1, q2, q3, t_set q4 hap h1 (tv (.inl v))⟩ (fun j _ => vp_updV_set hkl (tv (.inl v)) j)⟩
      | j + 1, hj => simp at hj
  · cases h4
theorem zF_own {i ci kf fk : Nat} (h : zF ci i = some (ci, kf, fk)) : ∃ q : vw_C, vwCl[ci]? = some q ∧ Cond.fieldLink (zCn ci) i q.1 (q.2.1 kf).2.1 (q.2.1 kf).2.2.1 ∈ zTW := by
  simp only [zF, Option.map_eq_some_iff] at h
  obtain ⟨x, hx1, hx2⟩ := h
  have hp := List.find?_some hx1
  simp only [beq_iff_eq] at hp
  have h2 := List.all_eq_true.mp zFc_ok x (List.mem_of_find?_eq_some hx1)
  have hall : zFt.all (fun x => decide (x.1.1 = x.2.1.1 → x.2.2.1 = 0)) = true := by decide +kernel
  have h8 := List.all_eq_true.mp hall x (List.mem_of_find?_eq_some hx1)
  simp only [hp, hx2, decide_eq_true_eq] at h8
  have h9 : x.2.2.1 = 0 := by simpa using h8
  simp only [zFc, hp, hx2] at h2
  cases hq : vwCl[ci]? with
  | none => rw [hq] at h2; simp at h2
  | some q =>
    rw [hq] at h2
    simp only [Bool.and_eq_true, decide_eq_true_eq] at h2
    obtain ⟨⟨⟨h3, h4⟩, h5⟩, h6⟩ := h2
    rw [if_neg (by omega)] at h5
    exact ⟨q, rfl, zWd_tw h5 rfl⟩
theorem zr_putfieldR {i ci kf a b : Nat} {fs : List zV} {w : zV} (hd : decode (zYb k) pc = .ok (.putfield i, 3)) (hf : zF (zYo k) i = some (ci, kf, 1)) (hin : zYi k = true) (hsame : zYo k = ci) (hM : M a = some (.inl (ci, fs))) (hv : zg fs kf = some w) (K : zRn lo d Rm k Fn u (pc + 3) ls st (zup M a (.inl (ci, zst fs kf (.inr (.inl (some b))))))) : zRn lo d Rm k Fn u pc ls (.inr (.inl (some b)) :: .inr (.inl (some a)) :: st) M := by
  intro p l e s m args below meth c D cA hc H locs lsA hH hS hL
  obtain ⟨hx, hb, hr, hml, hown, hlk, hnm, hts, hK, -⟩ := id hc
  obtain ⟨q, hq, h1, h2, -, h4⟩ := zF_ok hf
  rw [hsame] at hf
  obtain ⟨q', hq', h3⟩ := zF_own hf
  cases hq.symm.trans hq'
  obtain ⟨ty0, hty, hnn⟩ := zTy hq
  rcases h4 with ⟨h4, -⟩ | ⟨-, h5, ty, h4, h6⟩
  · cases h4
  · have hP := zP1 hH hM
    have hlo := zH_lo hH (zSome hM)
    have hcn : zCn ci = q.1 := by
      match ci, hq with
      | 0, hq => cases hq; rfl
      | 1, hq => cases hq; rfl
      | 2, hq => cases hq; rfl
      | 3, hq => cases hq; rfl
      | 4, hq => cases hq; rfl
      | 5, hq => cases hq; rfl
      | 6, hq => cases hq; rfl
      | 7, hq => cases hq; rfl
      | n + 8, hq => simp [vwCl] at hq
    rw [hsame] at hown
    have hname : meth.name = "<init>" := by rw [hnm]; simpa [zYi] using hin
    have hfit : narrow ty (tv (.inr (.inl (some b)))) = tv (.inr (.inl (some b))) ∧ fits ty (tv (.inr (.inl (some b)))) = true := by
      rcases h6 with ⟨t, rfl⟩ | ⟨n, rfl⟩ <;> exact ⟨rfl, rfl⟩
    have hap := va_apart (own := zCn ci) hts (zIn hq) ty0 hty hnn hK.1 hq
    obtain ⟨r', h9, cell, q1, q2, q3, q4⟩ := hP 0 _ rfl
    have hr' : r' = q := Option.some.inj (h9.symm.trans hq)
    subst hr'
    obtain ⟨hSl, hfc, kC, hkC, hkind⟩ := hK.1.1 ci _ hq
    obtain ⟨cf, kf', fi, f, hi, hsl⟩ := hSl kf h1
    have hlay := hts _ (zIn hq _ (u_in_lay h1))
    unfold u_lay at hlay
    rw [if_pos h5] at hlay
    have hst := (u_facts hfc hkC (u_lays hts (zIn hq) h1) hi).1
    have hcf : m.cls = cf := by
      obtain ⟨_, _, c', _, _, _, -, -, hf', -, -, -, hown2, -⟩ := Cond.laysFinal_spec hlay
      have e1 : c' = cf := by have := hi.symm.trans hf'; simp at this; exact this.1.symm
      rw [h2, ← hcn] at hown2
      rw [← e1]; exact Option.some.inj (hown.symm.trans hown2)
    have h7 := u_fits hfc hkC hkind (Or.inr hlay) hi h4 hfit.1 hfit.2
    have hkl : kf < (fs.map tv).length := by rw [List.length_map]; exact zg_lt hv
    refine W.putFinK hx hb hown (hts _ h3) (by rw [← h2]; exact hi) hst hcf hname (by rw [q2]; exact h7) q1 q3 (by rw [hsl]; exact k2_hasslot (q4 kf h1)) rfl rfl hd fun H' e1 e2 e3 => ?_
    rw [hsl] at e1
    have hP1 : va_at D vwCl (a, .inr (ci, (fs.map tv).set kf (tv (.inr (.inl (some b)))))) H' := ⟨_, hq, t_OB.to (V := updV (vp_V (fs.map tv)) kf (tv (.inr (.inl (some b))))) ⟨_, e1, q2, q3, t_set q4 hap h1 (tv (.inr (.inl (some b))))⟩ (fun j _ => vp_updV_set hkl (tv (.inr (.inl (some b)))) j)⟩
    rw [zfs_set] at hP1
    exact K p l e s m args below meth c D cA hc H' _ lsA (zH_set hH (zSome hM) e2 hP1 e3) (hS.put e2 e3 hlo) hL
-- arrays
theorem zt_i {D : va_G} {cA : Nat → ClassId} {s : State} (hK : zK D cA s) : ArrOfT s (cA 0) .int := (hK.1.2 0 _ rfl).1
theorem zr_alen {a t n : Nat} {f : (Nat → Int) ⊕ (Nat → Option Nat)} (hd : decode (zYb k) pc = .ok (.arraylength, 1)) (hM : M a = some (.inr (t, n, f))) (ht : t < 4) (K : zRn lo d Rm k Fn u (pc + 1) ls (.inl (n : Int) :: st) M) : zRn lo d Rm k Fn u pc ls (.inr (.inl (some a)) :: st) M := by
  intro p l e s m args below meth c D cA hc H locs lsA hH hS hL
  obtain ⟨hx, hb, hr, hml, hown, hlk, hnm, hts, hK, -⟩ := id hc
  have hP := zP1 hH hM
  have hk := K p l e s m args below meth c D cA hc H locs lsA hH hS hL
  have hv : Int32.ofNat n = Int32.ofInt (n : Int) := (Int32.ofInt_eq_ofNat (n := n)).symm
  have hty : ∃ ty, (zT cA)[t]? = some (cA t, ty) := by
    match t, ht with
    | 0, _ => exact ⟨_, rfl⟩
    | 1, _ => exact ⟨_, rfl⟩
    | 2, _ => exact ⟨_, rfl⟩
    | 3, _ => exact ⟨_, rfl⟩
  obtain ⟨ty, hty⟩ := hty
  cases f with
  | inl f => exact va_alen (x := (n, .inl (fun j => Int32.ofInt (f j)))) hx hb hK.1 hP 0 t rfl hty hv hd hk
  | inr f => exact va_alen (x := (n, .inr (.inr (.inr (.inr f))))) hx hb hK.1 hP 0 t rfl hty hv hd hk
theorem zr_iald {a n : Nat} {i : Int} {f : Nat → Int} (hd : decode (zYb k) pc = .ok (.iaload, 1)) (hM : M a = some (.inr (0, n, .inl f))) (h0 : 0 ≤ i) (h1 : i < (n : Int)) (h2 : n < 2147483648) (K : zRn lo d Rm k Fn u (pc + 1) ls (.inl (f i.toNat) :: st) M) : zRn lo d Rm k Fn u pc ls (.inl i :: .inr (.inl (some a)) :: st) M := by
  intro p l e s m args below meth c D cA hc H locs lsA hH hS hL
  obtain ⟨hx, hb, hr, hml, hown, hlk, hnm, hts, hK, -⟩ := id hc
  have hk := K p l e s m args below meth c D cA hc H locs lsA hH hS hL
  refine va_iald hx hb hK.1 (zP1 hH hM) 0 0 rfl rfl (zIdx h0 h1 h2) hd ?_
  rw [zClamp h0 (by omega)]
  exact hk
theorem zr_bald {a n : Nat} {i : Int} {f : Nat → Int} (hd : decode (zYb k) pc = .ok (.baload, 1)) (hM : M a = some (.inr (1, n, .inl f))) (h0 : 0 ≤ i) (h1 : i < (n : Int)) (h2 : n < 2147483648) (K : zRn lo d Rm k Fn u (pc + 1) ls (.inl (f i.toNat) :: st) M) : zRn lo d Rm k Fn u pc ls (.inl i :: .inr (.inl (some a)) :: st) M := by
  intro p l e s m args below meth c D cA hc H locs lsA hH hS hL
  obtain ⟨hx, hb, hr, hml, hown, hlk, hnm, hts, hK, -⟩ := id hc
  have hk := K p l e s m args below meth c D cA hc H locs lsA hH hS hL
  refine va_zald hx hb hK.1 (zP1 hH hM) 0 1 rfl rfl (zIdx h0 h1 h2) hd ?_
  rw [zClamp h0 (by omega)]
  exact hk
theorem zr_aald {a t n : Nat} {i : Int} {f : Nat → Option Nat} (hd : decode (zYb k) pc = .ok (.aaload, 1)) (hM : M a = some (.inr (t, n, .inr f))) (ht : t = 2 ∨ t = 3) (h0 : 0 ≤ i) (h1 : i < (n : Int)) (h2 : n < 2147483648) (K : zRn lo d Rm k Fn u (pc + 1) ls (.inr (.inl (f i.toNat)) :: st) M) : zRn lo d Rm k Fn u pc ls (.inl i :: .inr (.inl (some a)) :: st) M := by
  intro p l e s m args below meth c D cA hc H locs lsA hH hS hL
  obtain ⟨hx, hb, hr, hml, hown, hlk, hnm, hts, hK, -⟩ := id hc
  have hk := K p l e s m args below meth c D cA hc H locs lsA hH hS hL
  rcases ht with rfl | rfl
  · refine va_aldq hx hb hK.1 (zP1 hH hM) 0 2 rfl rfl (zIdx h0 h1 h2) hd ?_
    rw [zClamp h0 (by omega)]
    exact hk
  · refine va_aldq hx hb hK.1 (zP1 hH hM) 0 3 rfl rfl (zIdx h0 h1 h2) hd ?_
    rw [zClamp h0 (by omega)]
    exact hk
theorem zr_iast {a n : Nat} {i x : Int} {f : Nat → Int} (hd : decode (zYb k) pc = .ok (.iastore, 1)) (hM : M a = some (.inr (0, n, .inl f))) (h0 : 0 ≤ i) (h1 : i < (n : Int)) (h2 : n < 2147483648) (K : zRn lo d Rm k Fn u (pc + 1) ls st (zup M a (.inr (0, n, .inl (zu f i.toNat x))))) : zRn lo d Rm k Fn u pc ls (.inl x :: .inl i :: .inr (.inl (some a)) :: st) M := by
  intro p l e s m args below meth c D cA hc H locs lsA hH hS hL
  obtain ⟨hx, hb, hr, hml, hown, hlk, hnm, hts, hK, -⟩ := id hc
  have hP : H[a]? = some (arrV (cA 0) n (fun j => .int (Int32.ofInt (f j)))) := hH.2.2 a _ hM
  refine W.iast hx hb hP (zt_i hK n (fun j => .int (Int32.ofInt (f j)))) (fun q => by cases q) (by show ¬ (_ ∨ (arrV _ _ _).slots.size ≤ _); rw [arrV_size]; exact zIdx h0 h1 h2) rfl rfl hd fun H1 e9 z9 oq => ?_
  refine K p l e s m args below meth c D cA hc H1 _ lsA (zH_set hH (zSome hM) z9 ?_ oq) (hS.put z9 oq (zH_lo hH (zSome hM))) hL
  show H1[a]? = some (vp_cell _ _)
  rw [e9, vp_cell_i, arrV_store, zClamp h0 (by omega)]
  congr 2
  funext q
  by_cases hq : q = i.toNat
  · subst hq
    simp [updV, zu]
  · simp [updV, zu, hq]
theorem zr_bast {a n : Nat} {i x : Int} {f : Nat → Int} (hd : decode (zYb k) pc = .ok (.bastore, 1)) (hM : M a = some (.inr (1, n, .inl f))) (h0 : 0 ≤ i) (h1 : i < (n : Int)) (h2 : n < 2147483648) (hx1 : x = 1) (K : zRn lo d Rm k Fn u (pc + 1) ls st (zup M a (.inr (1, n, .inl (zu f i.toNat x))))) : zRn lo d Rm k Fn u pc ls (.inl x :: .inl i :: .inr (.inl (some a)) :: st) M := by
  intro p l e s m args below meth c D cA hc H locs lsA hH hS hL
  subst hx1
  obtain ⟨hx, hb, hr, hml, hown, hlk, hnm, hts, hK, -⟩ := id hc
  have hP : H[a]? = some (arrV (cA 1) n (fun j => .int (Int32.ofInt (f j)))) := hH.2.2 a _ hM
  refine W.zast hx hb hP ((hK.1.2 1 _ rfl).1 n (fun j => .int (Int32.ofInt (f j)))) (fun q => by cases q) (by show ¬ (_ ∨ (arrV _ _ _).slots.size ≤ _); rw [arrV_size]; exact zIdx h0 h1 h2) rfl rfl hd fun H1 e9 z9 oq => ?_
  refine K p l e s m args below meth c D cA hc H1 _ lsA (zH_set hH (zSome hM) z9 ?_ oq) (hS.put z9 oq (zH_lo hH (zSome hM))) hL
  show H1[a]? = some (vp_cell _ _)
  rw [e9, vp_cell_i, arrV_store, zClamp h0 (by omega)]
  congr 2
  funext q
  by_cases hq : q = i.toNat
  · subst hq
    simp [updV, zu]
    rfl
  · simp [updV, zu, hq]
theorem zr_aast {a b t n : Nat} {i : Int} {f : Nat → Option Nat} {fs : List zV} (hd : decode (zYb k) pc = .ok (.aastore, 1)) (hM : M a = some (.inr (t, n, .inr f))) (ht : t = 2 ∨ t = 3) (hb' : M b = some (.inl (t + 2, fs))) (h0 : 0 ≤ i) (h1 : i < (n : Int)) (h2 : n < 2147483648) (K : zRn lo d Rm k Fn u (pc + 1) ls st (zup M a (.inr (t, n, .inr (zu f i.toNat (some b)))))) : zRn lo d Rm k Fn u pc ls (.inr (.inl (some b)) :: .inl i :: .inr (.inl (some a)) :: st) M := by
  intro p l e s m args below meth c D cA hc H locs lsA hH hS hL
  obtain ⟨hx, hb, hr, hml, hown, hlk, hnm, hts, hK, -⟩ := id hc
  have hP : H[a]? = some (arrV (cA t) n (fun j => va_rf (f j))) := hH.2.2 a _ hM
  have hin := zIdx h0 h1 h2
  have hlt : (Int32.ofInt i).toNatClampNeg < n := Nat.not_le.mp fun q => hin (Or.inr q)
  have hn0 : ¬ Int32.ofInt i < 0 := fun q => hin (Or.inl q)
  obtain ⟨q, hq, cellV, g1, g2, g3, -⟩ := hH.2.2 b _ hb'
  have hcls := (hK.1.1 (t + 2) q hq).2
  have hty : (zT cA)[t]? = some (cA t, .object q.1) := by
    rcases ht with rfl | rfl
    · cases hq; rfl
    · cases hq; rfl
  obtain ⟨kA, comp, k1, k2, k3, -⟩ := (hK.1.2 t _ hty).2
  have hcomp : comp = D.1 (t + 2) := Option.some.inj (k3.symm.trans hcls.1)
  subst hcomp
  obtain ⟨kC, hkC, -⟩ := hcls.2
  refine W.aast hx hb hP (fun q h => by cases h) (fun h => by cases h) k1 k2 rfl hkC ⟨hn0, by show _ < (arrV _ _ _).slots.size; rw [arrV_size]; exact hlt⟩ g1 (fun q h => by rw [g3] at h; cases h) (by rw [g2]; exact hkC) (by rw [g2]; exact va_assign hcls) rfl rfl hd fun H1 e9 z9 oq => ?_
  refine K p l e s m args below meth c D cA hc H1 _ lsA (zH_set hH (zSome hM) z9 ?_ oq) (hS.put z9 oq (zH_lo hH (zSome hM))) hL
  show H1[a]? = some (vp_cell _ _)
  rw [e9, vp_cell_q, arrV_store, zClamp h0 (by omega)]
  congr 2
  funext q
  by_cases hq : q = i.toNat
  · subst hq
    simp [updV, zu, va_rf]
  · simp [updV, zu, hq]
end ZM
end
section
-- new cells, calls, returns
theorem zNc_of {o i ci : Nat} (h : zNc o i = some ci) : ∃ q : vw_C, vwCl[ci]? = some q ∧ Cond.classLink (zCn o) i q.1 ∈ zTW ∧ Cond.instantiable q.1 q.2.2 ∈ zTW ∧ Cond.initialized q.1 ∈ zTW ∧ zNf ci = q.2.2 := by
  simp only [zNc, Option.map_eq_some_iff] at h
  obtain ⟨x, hx1, hx2⟩ := h
  have hp := List.find?_some hx1
  simp only [beq_iff_eq] at hp
  have h2 := List.all_eq_true.mp zNc_ok x (List.mem_of_find?_eq_some hx1)
  simp only [zNcc, hp, hx2] at h2
  cases hq : vwCl[ci]? with
  | none => rw [hq] at h2; simp at h2
  | some q =>
    rw [hq] at h2
    simp only [Bool.and_eq_true, decide_eq_true_eq] at h2
    exact ⟨q, rfl, zWd_tw h2.1.1.1 rfl, zWd_tw h2.1.1.2 rfl, zWd_tw h2.1.2 rfl, h2.2⟩
/-- what the table of calls says -/
theorem zCl_ok {o i kd n mc ms : Nat} {y : zY} (h : zCl o i = some (kd, y, n, mc, ms)) : ∃ ne : Nat, (if ne = 1 then Cond.methodLinkNest (zCn o) i (zYn y) "SeamReadings" ∈ zNw else Cond.methodLink (zCn o) i (zYn y) ∈ zTW) ∧
    (if kd = 1 then Cond.static (zYn y) ∈ zTW else Cond.instanceMethod (zYn y) ∈ zTW) ∧ (kd = 0 → Cond.selects (zYn y).cls (zYn y) (zYn y) ∈ zTW) ∧ (kd = 2 → (zYn y).name = "<init>" ∧ zYr y = none) ∧
    Cond.initialized (zYn y).cls ∈ zTW ∧ Cond.code (zYn y) (zYb y) (zYl y) (zYr y) ∈ zTW ∧ ((zYn y).cls ≠ "java/lang/invoke/MethodHandle" ∧ (zYn y).cls ≠ "java/lang/invoke/VarHandle") ∧
    (parseMethodDescriptor (zYn y).desc).map (fun d => d.parameters.length) = some n ∧ zYl y ≤ 30 ∧ (zYn y).cls = zCn (zYo y) ∧ (vwCl[zYo y]?).map (fun q => q.1) = some (zYn y).cls ∧ (ne = 1 ∨ kd ≠ 1 ∨ (zYn y).cls = zCn o) := by
  simp only [zCl, Option.map_eq_some_iff] at h
  obtain ⟨x, hx1, hx2⟩ := h
  have hp := List.find?_some hx1
  simp only [beq_iff_eq] at hp
  have h2 := List.all_eq_true.mp zCc_ok x (List.mem_of_find?_eq_some hx1)
  simp only [Prod.mk.injEq] at hx2
  obtain ⟨e1, e2, e3, e4, e5⟩ := hx2
  simp only [zCc, hp, e1, e2, e3, Bool.and_eq_true, decide_eq_true_eq] at h2
  obtain ⟨⟨⟨⟨⟨⟨⟨⟨⟨⟨⟨h3, h4⟩, h5⟩, h6⟩, h7⟩, h8⟩, h9⟩, h10⟩, h11⟩, h12⟩, h13⟩, h14⟩ := h2
  refine ⟨x.2.2.1, ?_, ?_, fun hk => ?_, fun hk => ?_, zWd_tw h7 rfl, List.mem_filter.mpr ⟨?_, rfl⟩, ⟨h8, h9⟩, h10, h11, h12, h13, ?_⟩
  · by_cases hn : x.2.2.1 = 1
    · rw [if_pos hn] at h3 ⊢
      exact zWd_nw h3 rfl
    · rw [if_neg hn] at h3 ⊢
      exact zWd_tw h3 rfl
  · by_cases hn : kd = 1
    · rw [if_pos hn] at h4 ⊢
      exact zWd_tw h4 rfl
    · rw [if_neg hn] at h4 ⊢
      exact zWd_tw h4 rfl
  · rw [if_pos hk] at h5
    exact zWd_tw h5 rfl
  · rw [if_pos hk] at h6
    simpa using h6
  · rw [← e2]
    unfold zKey
    rw [List.getD_eq_getElem?_getD]
    cases hq : zKs[x.2.2.2.1]? with
    | none => exact zKs_ok _ (List.mem_of_getElem? (i := 0) rfl)
    | some q => exact zKs_ok _ (List.mem_of_getElem? hq)
  · by_cases hn : x.2.2.1 = 1
    · exact Or.inl hn
    · rw [if_neg hn] at h14
      by_cases hk : kd = 1
      · rw [if_pos hk] at h14
        exact Or.inr (Or.inr (by simpa using h14))
      · exact Or.inr (Or.inl hk)
theorem zTW_good {w : Cond} (h : w ∈ zTW) : goodWord w = true := (List.mem_filter.mp h).2
theorem zGood {y : zY} (hc : Cond.code (zYn y) (zYb y) (zYl y) (zYr y) ∈ zTW) : GoodIn zTW (zW y) := by
  intro w hw
  rcases List.mem_cons.mp hw with rfl | hw
  · exact ⟨hc, good_of_word (zTW_good hc)⟩
  · exact ⟨hw, good_of_word (zTW_good hw)⟩
theorem zGoodL {ws : List Cond} {y : zY} (hc : Cond.code (zYn y) (zYb y) (zYl y) (zYr y) ∈ zTW) (h : ∀ w ∈ ws, w ∈ zTW) : GoodIn zTW (ws ++ zW y) := by
  intro w hw
  rcases List.mem_append.mp hw with hw | hw
  · exact ⟨h w hw, good_of_word (zTW_good (h w hw))⟩
  · exact zGood hc w hw
section ZCALL
variable {p : Program} {l : Launch} {e : Env} {R : Room} {s : State} {m : MethodId} {args : Array Value} {below : List Frame} {meth : Method} {c : Code} {H : Heap} {locs : List Loc} {cells slots : Nat} {Qf : State → Prop}
theorem zcall {pc lo mc ms : Nat} {lsA : Array Slot} {st0 rest : List Value} {a : Array Value} {D : va_G} {cA : Nat → ClassId} {Q : Option zV → zM → Prop} (hr : va_Run p l e R s m args below meth c H locs cells slots mc ms (F0 m pc lsA st0) rest (zPost D cA lo Q a) (fun q => lo ≤ q)) (hS : va_S (fun q => lo ≤ q) s.heap H locs)
    (kk : ∀ (r : Option zV) (M' : zM) (H1 : Heap) (locs1 : List Loc), Q r M' → zH D cA lo M' H1 → va_S (fun q => lo ≤ q) s.heap H1 locs1 → W p l e R s m args below meth c H1 locs1 (cells + mc) (slots + ms) Qf (F0 m (pc + 3) lsA ((r.map tv).toList ++ rest))) : W p l e R s m args below meth c H locs cells slots Qf (F0 m pc lsA st0) := by
  intro T hT X
  obtain ⟨v, st₀, t, T', L, h0, X', hL, e1, e2, ⟨⟨r, M', hv, hq, hh⟩, hz, hk⟩, st⟩ := hr T hT X
  cases hv
  rw [h0] at hz hk
  obtain ⟨t2, a1, b1⟩ := kk r M' T'.heap (locs ++ L) hq (by rw [e1]; exact hh)
    ⟨Nat.le_trans hS.1 (by rw [e1]; exact hz), fun q h1 h2 => by rw [e1, hk q (Nat.lt_of_lt_of_le h1 hS.1) h2]; exact hS.2.1 q h1 h2, fun q hq => by
      rcases List.mem_append.mp hq with h | h
      · exact hS.2.2 q h
      · exact hL q h⟩ T' rfl X'
  exact ⟨t2, st t2 a1, b1⟩
end ZCALL
/-- the answer, put on the stack -/
def zpu (r : Option zV) (st : List zV) : List zV := match r with
  | none => st
  | some v => v :: st
theorem zpu_map {r : Option zV} {st : List zV} : (r.map tv).toList ++ st.map tv = (zpu r st).map tv := by cases r <;> rfl
def zcs : List zV → Nat
  | [] => 0
  | .inl _ :: r => 1 + zcs r
  | .inr (.inl _) :: r => 1 + zcs r
  | .inr (.inr _) :: r => 2 + zcs r
theorem zcs_sum : ∀ (st : List zV), ((st.map tv).map fun v => v.category).sum = zcs st
  | [] => rfl
  | .inl z :: r => by
    show 1 + ((r.map tv).map fun v => v.category).sum = 1 + zcs r
    rw [zcs_sum r]
  | .inr (.inl none) :: r => by
    show 1 + ((r.map tv).map fun v => v.category).sum = 1 + zcs r
    rw [zcs_sum r]
  | .inr (.inl (some _)) :: r => by
    show 1 + ((r.map tv).map fun v => v.category).sum = 1 + zcs r
    rw [zcs_sum r]
  | .inr (.inr _) :: r => by
    show 2 + ((r.map tv).map fun v => v.category).sum = 2 + zcs r
    rw [zcs_sum r]
section ZN
variable {lo d : Nat} {Rm : Room} {k : zY} {Fn : List Frame → Array Value → State → va_G → (Nat → ClassId) → State → Prop} {u : Nat × Nat} {pc : Nat} {ls : List (Option zV)} {st : List zV} {M : zM}
theorem zDf_ok {ci : Nat} {q : vw_C} (hq : vwCl[ci]? = some q) : ∃ ty : Nat → FieldType, (∀ j, j < q.2.2 → parseFieldDescriptor (q.2.1 j).2.2.1 = some (ty j)) ∧ ∀ j, j < q.2.2 → defaultValue (ty j) = vp_V ((zDf ci).map tv) j := by
  match ci, hq with
  | 0, h => cases h; exact ⟨tyX0, tyX0_ok, by decide +kernel⟩
  | 1, h => cases h; exact ⟨tyX1, tyX1_ok, by decide +kernel⟩
  | 2, h => cases h; exact ⟨tyX2, tyX2_ok, by decide +kernel⟩
  | 3, h => cases h; exact ⟨tyX3, tyX3_ok, by decide +kernel⟩
  | 4, h => cases h; exact ⟨tyX4, tyX4_ok, by decide +kernel⟩
  | 5, h => cases h; exact ⟨tyX5, tyX5_ok, by decide +kernel⟩
  | 6, h => cases h; exact ⟨tyX6, tyX6_ok, by decide +kernel⟩
  | 7, h => cases h; exact ⟨tyX7, tyX7_ok, by decide +kernel⟩
  | n + 8, h => simp [vwCl] at h
theorem zr_new {i ci : Nat} (hd : decode (zYb k) pc = .ok (.new i, 3)) (hn : zNc (zYo k) i = some ci) (h1 : u.1 + 1 ≤ Rm.cells) (h2 : u.2 + zNf ci ≤ Rm.slots)
    (K : ∀ nx : Nat, lo ≤ nx → (∀ q, M q ≠ none ↔ lo ≤ q ∧ q < nx) → zRn lo d Rm k Fn (u.1 + 1, u.2 + zNf ci) (pc + 3) ls (.inr (.inl (some nx)) :: st) (zup M nx (.inl (ci, zDf ci)))) : zRn lo d Rm k Fn u pc ls st M := by
  intro p l e s m args below meth c D cA hc H locs lsA hH hS hL
  obtain ⟨hx, hb, hr, hml, hown, hlk, hnm, hts, hK, -⟩ := id hc
  obtain ⟨q, hq, g1, g2, g3, g4⟩ := zNc_of hn
  have hKn := hK.1.1 ci _ hq
  obtain ⟨ty, hty, hfs⟩ := zDf_ok hq
  refine W.newcK hx hb hown (hts _ g1) (hts _ g2) (hts _ g3) rfl hd h1 (by rw [← g4]; exact h2) hKn.2.1 rfl fun H1 kC hkC e1 z1 o1 => ?_
  have he : va_at D vwCl (H.size, zE cA (.inl (ci, zDf ci))) H1 := ⟨_, hq, (u_born ty hts (zIn hq) hKn hkC e1 hty).to hfs⟩
  have hk := K H.size hH.1 hH.2.1 p l e s m args below meth c D cA hc H1 locs lsA (zH_new hH z1 he o1) ⟨Nat.le_trans hS.1 (by omega), fun x h3 h4 => (o1 x (Nat.lt_of_lt_of_le h3 hS.1)).trans (hS.2.1 x h3 h4), hS.2.2⟩ hL
  rw [← g4]
  exact hk
theorem zr_newa {at_ : ArrayType} {t : Nat} {n : Int} (hd : decode (zYb k) pc = .ok (.newarray at_, 2)) (ht : (at_ = .int ∧ t = 0) ∨ (at_ = .boolean ∧ t = 1)) (hn : 0 ≤ n) (hn2 : n ≤ 100000) (h1 : u.1 + 1 ≤ Rm.cells) (h2 : u.2 + n.toNat ≤ Rm.slots)
    (K : ∀ nx : Nat, lo ≤ nx → (∀ q, M q ≠ none ↔ lo ≤ q ∧ q < nx) → zRn lo d Rm k Fn (u.1 + 1, u.2 + n.toNat) (pc + 2) ls (.inr (.inl (some nx)) :: st) (zup M nx (.inr (t, n.toNat, .inl (fun _ => 0))))) : zRn lo d Rm k Fn u pc ls (.inl n :: st) M := by
  intro p l e s m args below meth c D cA hc H locs lsA hH hS hL
  obtain ⟨hx, hb, hr, hml, hown, hlk, hnm, hts, hK, -⟩ := id hc
  have hz : ¬ Int32.ofInt n < 0 := zNotNeg hn (by omega)
  have hcl : (Int32.ofInt n).toNatClampNeg = n.toNat := zClamp hn (by omega)
  have har := zArr_ok
  simp only [Bool.and_eq_true] at har
  rcases ht with ⟨rfl, rfl⟩ | ⟨rfl, rfl⟩
  · refine va_newaK hx hb (atype := .int) (hts _ (zWd_tw har.1.1.1 rfl)) rfl hd rfl hz hcl (by show n.toNat * 4 ≤ _; omega) h1 h2 rfl fun H1 cI e1 z1 o1 hAr hNm => ?_
    have hcI : cI = cA 0 := Option.some.inj (hNm.symm.trans (hK.1.2 0 _ rfl).2)
    subst hcI
    refine K H.size hH.1 hH.2.1 p l e s m args below meth c D cA hc H1 locs lsA (zH_new hH z1 ?_ o1) ⟨Nat.le_trans hS.1 (by omega), fun x h3 h4 => (o1 x (Nat.lt_of_lt_of_le h3 hS.1)).trans (hS.2.1 x h3 h4), hS.2.2⟩ hL
    exact e1
  · refine va_newaK hx hb (atype := .boolean) (hts _ (zWd_tw har.1.1.2 rfl)) rfl hd rfl hz hcl (by show n.toNat * 1 ≤ _; omega) h1 h2 rfl fun H1 cI e1 z1 o1 hAr hNm => ?_
    have hcI : cI = cA 1 := Option.some.inj (hNm.symm.trans (hK.1.2 1 _ rfl).2)
    subst hcI
    refine K H.size hH.1 hH.2.1 p l e s m args below meth c D cA hc H1 locs lsA (zH_new hH z1 ?_ o1) ⟨Nat.le_trans hS.1 (by omega), fun x h3 h4 => (o1 x (Nat.lt_of_lt_of_le h3 hS.1)).trans (hS.2.1 x h3 h4), hS.2.2⟩ hL
    exact e1
theorem zr_anew {i t : Nat} {n : Int} (hd : decode (zYb k) pc = .ok (.anewarray i, 3)) (hn' : zNc (zYo k) i = some (t + 2)) (ht : t = 2 ∨ t = 3) (hn : 0 ≤ n) (hn2 : n ≤ 100000) (h1 : u.1 + 1 ≤ Rm.cells) (h2 : u.2 + n.toNat ≤ Rm.slots)
    (K : ∀ nx : Nat, lo ≤ nx → (∀ q, M q ≠ none ↔ lo ≤ q ∧ q < nx) → zRn lo d Rm k Fn (u.1 + 1, u.2 + n.toNat) (pc + 3) ls (.inr (.inl (some nx)) :: st) (zup M nx (.inr (t, n.toNat, .inr (fun _ => none))))) : zRn lo d Rm k Fn u pc ls (.inl n :: st) M := by
  intro p l e s m args below meth c D cA hc H locs lsA hH hS hL
  obtain ⟨hx, hb, hr, hml, hown, hlk, hnm, hts, hK, -⟩ := id hc
  have hz : ¬ Int32.ofInt n < 0 := zNotNeg hn (by omega)
  have hcl : (Int32.ofInt n).toNatClampNeg = n.toNat := zClamp hn (by omega)
  obtain ⟨q, hq, g1, -⟩ := zNc_of hn'
  have hov : va_AO q.1 s := by
    rcases ht with rfl | rfl
    · cases hq; exact hK.2.2.1
    · cases hq; exact hK.2.2.2
  have hty : (zT cA)[t]? = some (cA t, .object q.1) := by
    rcases ht with rfl | rfl
    · cases hq; rfl
    · cases hq; rfl
  refine W.anew hx hb hown (hts _ g1) (va_AO.use hov) rfl hd rfl hz (by rw [hcl]; omega) h1 (by rw [hcl]; exact h2) fun cI kA comp f1 f2 f3 f4 => ?_
  obtain ⟨kA', comp', -, -, -, f5⟩ := (hK.1.2 t _ hty).2
  have hcI : cI = cA t := Option.some.inj (f1.symm.trans f5)
  subst hcI
  rw [hcl]
  refine K H.size hH.1 hH.2.1 p l e s m args below meth c D cA hc _ locs lsA (zH_new hH (by simp) ?_ ?_) ⟨Nat.le_trans hS.1 (by simp), fun x h3 h4 => ?_, hS.2.2⟩ hL
  · show (H.push _)[H.size]? = some (arrV (cA t) n.toNat (fun _ => .null))
    rw [Array.getElem?_push_size, ← arrV_new]
  · intro q hq
    rw [Array.getElem?_push, if_neg (Nat.ne_of_lt hq)]
  · rw [Array.getElem?_push, if_neg (Nat.ne_of_lt (Nat.lt_of_lt_of_le h3 hS.1))]
    exact hS.2.1 x h3 h4
theorem zroom {d : Nat} {y : zY} {Rm : Room} {mc ms : Nat} (h1 : d + 1 ≤ Rm.frames) (h2 : 60 * (d + 1) ≤ Rm.locals) (hl : zYl y ≤ 30) : (zR d mc ms).frames + 1 ≤ Rm.frames ∧ 8 + (zYl y + 11) + (zR d mc ms).locals ≤ Rm.locals := by
  refine ⟨h1, ?_⟩
  show 8 + (zYl y + 11) + 60 * d ≤ Rm.locals
  omega
theorem zr_callV {i n mc ms a : Nat} {y : zY} {as : List zV} {fs : List zV} (hd : decode (zYb k) pc = .ok (.invokevirtual i, 3)) (hl : zCl (zYo k) i = some (0, y, n, mc, ms)) (hn : as.length = n) (hM : M a = some (.inl (zYo y, fs))) (hst : zcs st ≤ 8) (h1 : u.1 + mc ≤ Rm.cells) (h2 : u.2 + ms ≤ Rm.slots)
    {Q0 : Option zV → zM → Prop} (K : zCt lo d y mc ms (.inr (.inl (some a)) :: as) M Q0) (hQ : ∀ r M', Q0 r M' → zRn lo (d + 1) Rm k Fn (u.1 + mc, u.2 + ms) (pc + 3) ls (zpu r st) M') : zRn lo (d + 1) Rm k Fn u pc ls (as.reverse ++ .inr (.inl (some a)) :: st) M := by
  intro p l e s m args below meth c D cA hc H locs lsA hH hS hL
  obtain ⟨hx, hb, hr, hml, hown, hlk, hnm, hts, hK, hf1, hf2, hlo⟩ := id hc
  obtain ⟨ne, c1, c2, c3, -, c4, c5, c6, c7, c8, c9, c10, -⟩ := zCl_ok hl
  have hrec : ∃ cell : Cell, H[a]? = some cell ∧ cell.vm.isStatics = false ∧ s.vm.findClass (zYn y).cls = some cell.cls := by
    cases hq : vwCl[zYo y]? with
    | none => rw [hq] at c10; simp at c10
    | some q =>
      rw [hq] at c10
      have := va_recv hK.1 (zP1 hH hM) (ci := zYo y) (q0 := 0) hq rfl
      rw [show q.1 = (zYn y).cls from Option.some.inj c10] at this
      exact this
  have hpre : PreV s H (zYn y).cls a (zPre D cA lo (.inr (.inl (some a)) :: as) M) (as.map tv) := ⟨zPre_blind, hrec, fun U hU hW => ⟨rfl, by rw [hU]; exact hH, zK_warm hW hK⟩⟩
  have hstk : (F0 m pc lsA ((as.reverse ++ .inr (.inl (some a)) :: st).map tv)).stack = (as.map tv).reverse ++ .ref a :: st.map tv := by simp [F0, tv, va_rf]
  have hroom := lv_room (pc := pc) (ls := lsA) (m := m) (rest := (as.reverse ++ .inr (.inl (some a)) :: st).map tv) (st := st.map tv) (by rw [zcs_sum]; exact hst)
  have key : va_Run p l e Rm s m args below meth c H locs u.1 u.2 mc ms (F0 m pc lsA ((as.reverse ++ .inr (.inl (some a)) :: st).map tv)) (st.map tv) (zPost D cA lo Q0 (Value.ref a :: as.map tv).toArray) (fun q => lo ≤ q) := by
    by_cases hne : ne = 1
    · rw [if_pos hne] at c1
      rw [if_neg (by decide)] at c2
      exact va_runVN (nL := zYl k) ⟨hx, hb, hml, hown, hts⟩ (K l D cA) ⟨va_cnB n hts (zGood c5) rfl rfl rfl (hK.2.1 _ c1) (hts _ c4) ⟨c6.1, c6.2, c7⟩ (zroom hf1 hf2 c8), hts _ c2, hts _ (c3 rfl)⟩ hpre rfl (by rw [List.length_map]; exact hn) hL.2.1 hstk hroom hd ⟨h1, h2⟩
    · rw [if_neg hne] at c1
      rw [if_neg (by decide)] at c2
      refine va_runV (nL := zYl k) ⟨hx, hb, hml, hown, hts⟩ (K l D cA) (cwV n hts (zGoodL c5 ?_) rfl rfl rfl ⟨rfl, c6.1, c6.2, c7⟩ (zroom hf1 hf2 c8)) hpre rfl (by rw [List.length_map]; exact hn) hL.2.1 hstk hroom hd ⟨h1, h2⟩
      intro w hw
      simp only [List.mem_cons, List.not_mem_nil, or_false] at hw
      rcases hw with rfl | rfl | rfl | rfl
      · exact c1
      · exact c2
      · exact c3 rfl
      · exact c4
  refine zcall key hS (fun r M' H1 locs1 hq hh hS1 => ?_)
  rw [zpu_map]
  exact hQ r M' hq p l e s m args below meth c D cA hc H1 locs1 lsA hh hS1 hL
theorem zr_callS {i n mc ms : Nat} {y : zY} {as : List zV} (hd : decode (zYb k) pc = .ok (.invokestatic i, 3)) (hl : zCl (zYo k) i = some (1, y, n, mc, ms)) (hn : as.length = n) (hst : zcs st ≤ 8) (h1 : u.1 + mc ≤ Rm.cells) (h2 : u.2 + ms ≤ Rm.slots)
    {Q0 : Option zV → zM → Prop} (K : zCt lo d y mc ms as M Q0) (hQ : ∀ r M', Q0 r M' → zRn lo (d + 1) Rm k Fn (u.1 + mc, u.2 + ms) (pc + 3) ls (zpu r st) M') : zRn lo (d + 1) Rm k Fn u pc ls (as.reverse ++ st) M := by
  intro p l e s m args below meth c D cA hc H locs lsA hH hS hL
  obtain ⟨hx, hb, hr, hml, hown, hlk, hnm, hts, hK, hf1, hf2, hlo⟩ := id hc
  obtain ⟨ne, c1, c2, -, -, c4, c5, c6, c7, c8, c9, c10, c11⟩ := zCl_ok hl
  rw [if_pos rfl] at c2
  have hpre : PreS s H (zPre D cA lo as M) (as.map tv) := ⟨zPre_blind, fun U hU hW => ⟨rfl, by rw [hU]; exact hH, zK_warm hW hK⟩⟩
  have hstk : (F0 m pc lsA ((as.reverse ++ st).map tv)).stack = (as.map tv).reverse ++ st.map tv := by simp [F0]
  have hroom := lv_room (pc := pc) (ls := lsA) (m := m) (rest := (as.reverse ++ st).map tv) (st := st.map tv) (by rw [zcs_sum]; exact hst)
  have key : va_Run p l e Rm s m args below meth c H locs u.1 u.2 mc ms (F0 m pc lsA ((as.reverse ++ st).map tv)) (st.map tv) (zPost D cA lo Q0 (as.map tv).toArray) (fun q => lo ≤ q) := by
    by_cases hne : ne = 1
    · rw [if_pos hne] at c1
      exact va_runSN (nL := zYl k) ⟨hx, hb, hml, hown, hts⟩ (K l D cA) ⟨va_cnB n hts (zGood c5) rfl rfl rfl (hK.2.1 _ c1) (hts _ c4) ⟨c6.1, c6.2, c7⟩ (zroom hf1 hf2 c8), hts _ c2, trivial⟩ hpre rfl (by rw [List.length_map]; exact hn) hL.2.1 hstk hroom hd ⟨h1, h2⟩
    · rw [if_neg hne] at c1
      refine va_runS (nL := zYl k) ⟨hx, hb, hml, hown, hts⟩ (K l D cA) (va_cwS n hts (zGoodL c5 ?_) rfl rfl rfl ⟨c6.1, c6.2, c7⟩ (zroom hf1 hf2 c8)) hpre rfl (by rw [List.length_map]; exact hn) hL.2.1 hstk hroom hd ⟨h1, h2⟩
      intro w hw
      simp only [List.mem_cons, List.not_mem_nil, or_false] at hw
      rcases hw with rfl | rfl | rfl
      · exact c1
      · exact c2
      · exact c4
  refine zcall key hS (fun r M' H1 locs1 hq hh hS1 => ?_)
  rw [zpu_map]
  exact hQ r M' hq p l e s m args below meth c D cA hc H1 locs1 lsA hh hS1 hL
theorem zr_callI {i n mc ms a : Nat} {y : zY} {as : List zV} (hd : decode (zYb k) pc = .ok (.invokespecial i, 3)) (hl : zCl (zYo k) i = some (2, y, n, mc, ms)) (hn : as.length = n) (hst : zcs st ≤ 8) (h1 : u.1 + mc ≤ Rm.cells) (h2 : u.2 + ms ≤ Rm.slots)
    {Q0 : Option zV → zM → Prop} (K : zCt lo d y mc ms (.inr (.inl (some a)) :: as) M Q0) (hQ : ∀ r M', Q0 r M' → zRn lo (d + 1) Rm k Fn (u.1 + mc, u.2 + ms) (pc + 3) ls (zpu r st) M') : zRn lo (d + 1) Rm k Fn u pc ls (as.reverse ++ .inr (.inl (some a)) :: st) M := by
  intro p l e s m args below meth c D cA hc H locs lsA hH hS hL
  obtain ⟨hx, hb, hr, hml, hown, hlk, hnm, hts, hK, hf1, hf2, hlo⟩ := id hc
  obtain ⟨ne, c1, c2, -, c3, c4, c5, c6, c7, c8, c9, c10, -⟩ := zCl_ok hl
  obtain ⟨c3, c3r⟩ := c3 rfl
  rw [if_neg (by decide)] at c2
  have hpre : PreS s H (zPre D cA lo (.inr (.inl (some a)) :: as) M) (.ref a :: as.map tv) := ⟨zPre_blind, fun U hU hW => ⟨rfl, by rw [hU]; exact hH, zK_warm hW hK⟩⟩
  have hstk : (F0 m pc lsA ((as.reverse ++ .inr (.inl (some a)) :: st).map tv)).stack = (as.map tv).reverse ++ .ref a :: st.map tv := by simp [F0, tv, va_rf]
  have hroom := lv_room (pc := pc) (ls := lsA) (m := m) (rest := (as.reverse ++ .inr (.inl (some a)) :: st).map tv) (st := st.map tv) (by rw [zcs_sum]; exact hst)
  have key : va_Run p l e Rm s m args below meth c H locs u.1 u.2 mc ms (F0 m pc lsA ((as.reverse ++ .inr (.inl (some a)) :: st).map tv)) (st.map tv) (zPost D cA lo Q0 (Value.ref a :: as.map tv).toArray) (fun q => lo ≤ q) := by
    by_cases hne : ne = 1
    · rw [if_pos hne] at c1
      have cw := va_cnB (R := Rm) (rm := zR d mc ms) (mc := mc) (ms := ms) n hts (zGood c5) rfl rfl rfl (hK.2.1 _ c1) (hts _ c4) ⟨c6.1, c6.2, c7⟩ (zroom hf1 hf2 c8)
      rw [c3r] at cw
      exact va_runIN (nL := zYl k) ⟨hx, hb, hml, hown, hts⟩ (K l D cA) ⟨cw, c3, hts _ c2⟩ hpre rfl (by rw [List.length_map]; exact hn) hL.2.1 hstk hroom hd ⟨h1, h2⟩
    · rw [if_neg hne] at c1
      have cb := callB_of (R := Rm) (rm := zR d mc ms) (mc := mc) (ms := ms) n hts (zGood c5) rfl rfl rfl (hts _ c4) (hts _ c1) ⟨c6.1, c6.2, c7⟩ (zroom hf1 hf2 c8)
      rw [c3r] at cb
      exact va_runI (nL := zYl k) ⟨hx, hb, hml, hown, hts⟩ (K l D cA) ⟨cb, c3, hts _ c2⟩ hpre rfl (by rw [List.length_map]; exact hn) hL.2.1 hstk hroom hd ⟨h1, h2⟩
  refine zcall key hS (fun r M' H1 locs1 hq hh hS1 => ?_)
  rw [zpu_map]
  exact hQ r M' hq p l e s m args below meth c D cA hc H1 locs1 lsA hh hS1 hL
theorem zr_objInit {i a : Nat} (hd : decode (zYb k) pc = .ok (.invokespecial i, 3)) (hl : zOk (zYo k) i = true) (hst : zcs st ≤ 8) (K : zRn lo (d + 1) Rm k Fn u (pc + 3) ls st M) : zRn lo (d + 1) Rm k Fn u pc ls (.inr (.inl (some a)) :: st) M := by
  intro p l e s m args below meth c D cA hc H locs lsA hH hS hL
  obtain ⟨hx, hb, hr, hml, hown, hlk, hnm, hts, hK, hf1, hf2, hlo⟩ := id hc
  obtain ⟨x, hx1⟩ := Option.isSome_iff_exists.mp (show (zOt.find? (fun x => x.1 == (zYo k, i))).isSome = true from hl)
  have hp := List.find?_some hx1
  simp only [beq_iff_eq] at hp
  have h2 := zOc_ok
  simp only [Bool.and_eq_true] at h2
  have h3 := List.all_eq_true.mp h2.1.1 x (List.mem_of_find?_eq_some hx1)
  rw [hp] at h3
  exact W.objInit hx hb hown (hts _ (zWd_tw h3 rfl)) (hts _ (zWd_tw h2.1.2 rfl)) (hts _ (zWd_tw h2.2 rfl)) rfl (by rw [hml]; exact hL.2.1) rfl hd (by omega) (by show 2 * 0 + _ + 12 ≤ _; rw [zcs_sum]; omega) (K p l e s m args below meth c D cA hc H locs lsA hH hS hL)
theorem zr_copy {i a a0 n0 n1 : Nat} {sp dp n : Int} {f g : Nat → Int} (hd : decode (zYb k) pc = .ok (.invokestatic i, 3)) (hl : zAk (zYo k) i = true) (hne : a ≠ a0) (hM0 : M a0 = some (.inr (0, n0, .inl f))) (hM1 : M a = some (.inr (0, n1, .inl g))) (h1 : 0 ≤ sp) (h2 : 0 ≤ dp) (h3 : 0 ≤ n) (h4 : sp + n ≤ (n0 : Int)) (h5 : dp + n ≤ (n1 : Int)) (h6 : n0 < 2147483648) (h7 : n1 < 2147483648) (hst : zcs st ≤ 8)
    (K : zRn lo (d + 1) Rm k Fn u (pc + 3) ls st (zup M a (.inr (0, n1, .inl (zcp f g sp.toNat dp.toNat n.toNat))))) : zRn lo (d + 1) Rm k Fn u pc ls (.inl n :: .inl dp :: .inr (.inl (some a)) :: .inl sp :: .inr (.inl (some a0)) :: st) M := by
  intro p l e s m args below meth c D cA hc H locs lsA hH hS hL
  obtain ⟨hx, hb, hr, hml, hown, hlk, hnm, hts, hK, hf1, hf2, hlo⟩ := id hc
  obtain ⟨x, hx1⟩ := Option.isSome_iff_exists.mp (show (zAt.find? (fun x => x.1 == (zYo k, i))).isSome = true from hl)
  have hp := List.find?_some hx1
  simp only [beq_iff_eq] at hp
  have g2 := zAc_ok
  simp only [Bool.and_eq_true] at g2
  have g3 := List.all_eq_true.mp g2.1.1.1 x (List.mem_of_find?_eq_some hx1)
  rw [hp] at g3
  have hP : va_P D vwCl [(a0, zE cA (.inr (0, n0, .inl f))), (a, zE cA (.inr (0, n1, .inl g)))] H := by
    intro j x hj
    match j, hj with
    | 0, hj => cases hj; exact hH.2.2 a0 _ hM0
    | 1, hj => cases hj; exact hH.2.2 a _ hM1
    | j + 2, hj => simp at hj
  have hD : va_D (fun q => lo ≤ q) [(a0, zE cA (.inr (0, n0, .inl f))), (a, zE cA (.inr (0, n1, .inl g)))] := by
    refine ⟨fun i j p q hi hj hpq => ?_, fun j q hj => ?_⟩
    · match i, j, hi, hj with
      | 0, 0, _, _ => rfl
      | 1, 1, _, _ => rfl
      | 0, 1, hi, hj => cases hi; cases hj; exact absurd hpq.symm hne
      | 1, 0, hi, hj => cases hi; cases hj; exact absurd hpq hne
      | i + 2, _, hi, _ => simp at hi
      | _, j + 2, _, hj => simp at hj
    · match j, hj with
      | 0, hj => cases hj; exact zH_lo hH (zSome hM0)
      | 1, hj => cases hj; exact zH_lo hH (zSome hM1)
      | j + 2, hj => simp at hj
  have c1 := zClamp h1 (show sp < 2147483648 by omega)
  have c2 := zClamp h2 (show dp < 2147483648 by omega)
  have c3 := zClamp h3 (show n < 2147483648 by omega)
  have b1 := zNotNeg h1 (show sp < 2147483648 by omega)
  have b2 := zNotNeg h2 (show dp < 2147483648 by omega)
  have b3 := zNotNeg h3 (show n < 2147483648 by omega)
  have hfrm : nativeFrameWords "java/lang/System" "arraycopy" 5 = 7 := by decide +kernel
  -- the heap behind it is known by its cells: one copy of the memory for each
  have nn : ∀ z : Int32, ¬ z < 0 → z.toInt = (z.toNatClampNeg : Int) := by
    intro z hz
    have hz0 : (0 : Int) ≤ z.toInt := by
      have := Int32.not_lt.mp hz
      simpa using Int32.le_iff_toInt_le.mp this
    show z.toInt = ((z.toInt.toNat : Nat) : Int)
    omega
  intro T hT X
  have hc0 : H[a0]? = some (vp_cell (cA 0) (n0, .inl (fun j => Int32.ofInt (f j)))) := hP 0 _ rfl
  have hc1 : H[a]? = some (vp_cell (cA 0) (n1, .inl (fun j => Int32.ofInt (g j)))) := hP 1 _ rfl
  obtain ⟨-, k0, hk0, cm0, hkk0⟩ := (hK.1.2 0 _ rfl).1 n0 (fun j => .int (Int32.ofInt (f j)))
  obtain ⟨vm', X', step⟩ := X.arraycopy hx hown (hts _ (zWd_tw g3 rfl)) (hts _ (zWd_tw g2.1.1.2 rfl)) (hts _ (zWd_tw g2.1.2 rfl)) (hts _ (zWd_tw g2.2 rfl)) (src := a0) (dst := a) (cs := vp_cell (cA 0) (n0, .inl (fun j => Int32.ofInt (f j)))) (cd := vp_cell (cA 0) (n1, .inl (fun j => Int32.ofInt (g j)))) (srcPos := Int32.ofInt sp) (destPos := Int32.ofInt dp) (n := Int32.ofInt n) (by rw [hT]; exact hc0) (by rw [hT]; exact hc1)
    (fun _ h => by cases h) (fun _ h => by cases h) (fun h => by cases h) (fun h => by cases h) hk0 hk0 hkk0 hkk0 (by simp [refKind]) b1 b2 b3
    (by rw [nn _ b1, nn _ b3, c1, c3]; show ¬ _ > ((arrV (cA 0) n0 (fun j => .int (Int32.ofInt (f j)))).slots.size : Int); rw [arrV_size]; omega)
    (by rw [nn _ b2, nn _ b3, c2, c3]; show ¬ _ > ((arrV (cA 0) n1 (fun j => .int (Int32.ofInt (g j)))).slots.size : Int); rw [arrV_size]; omega)
    (fun vm₁ _ i hi => by
      have e : (vp_cell (cA 0) (n0, .inl (fun j => Int32.ofInt (f j)))).slots.getD ((Int32.ofInt sp).toNatClampNeg + i) .null = .int (Int32.ofInt (f ((Int32.ofInt sp).toNatClampNeg + i))) := by
        show (arrV (cA 0) n0 (fun j => .int (Int32.ofInt (f j)))).slots.getD _ _ = _
        rw [Array.getD_eq_getD_getElem?, arrV_read _ _ (by rw [c3] at hi; rw [c1]; omega)]
        rfl
      refine ⟨?_, ?_⟩
      · rw [e]
        rfl
      · rw [e]
        exact trivial)
    (g := F0 m pc lsA (.int (Int32.ofInt n) :: .int (Int32.ofInt dp) :: .ref a :: .int (Int32.ofInt sp) :: .ref a0 :: st.map tv)) rfl (by rw [hml]; exact hL.2.1) (rest := st.map tv) rfl (by rw [hb]; exact hd) (by omega) (by show 2 * 0 + _ + _ ≤ _; rw [hfrm, zcs_sum]; omega)
  have e1 : copied (vp_cell (cA 0) (n0, .inl (fun j => Int32.ofInt (f j)))) (vp_cell (cA 0) (n1, .inl (fun j => Int32.ofInt (g j)))) (Int32.ofInt sp) (Int32.ofInt dp) (Int32.ofInt n) = vp_cell (cA 0) (n1, .inl (fun j => Int32.ofInt (zcp f g sp.toNat dp.toNat n.toNat j))) := by
    have e2 : copied (vp_cell (cA 0) (n0, .inl (fun j => Int32.ofInt (f j)))) (vp_cell (cA 0) (n1, .inl (fun j => Int32.ofInt (g j)))) (Int32.ofInt sp) (Int32.ofInt dp) (Int32.ofInt n) = vp_cell (cA 0) (n1, .inl (va_cpy (fun j => Int32.ofInt (f j)) (fun j => Int32.ofInt (g j)) (Int32.ofInt sp).toNatClampNeg (Int32.ofInt dp).toNatClampNeg (Int32.ofInt n).toNatClampNeg)) := va_copied (n0 := n0) (n1 := n1) (fun z => .int z) (cA 0) (cA 0) (fun j => Int32.ofInt (f j)) (fun j => Int32.ofInt (g j)) (by rw [c1, c3]; omega)
    rw [e2, c1, c2, c3]
    congr 3
    funext j
    simp only [va_cpy, zcp]
    split <;> rfl
  rw [e1] at X' step
  have hl : a < H.size := (Array.getElem?_eq_some_iff.mp hc1).1
  have hheap : ((T.setVm vm').setCell a (vp_cell (cA 0) (n1, .inl (fun j => Int32.ofInt (zcp f g sp.toNat dp.toNat n.toNat j))))).heap = H.setIfInBounds a (vp_cell (cA 0) (n1, .inl (fun j => Int32.ofInt (zcp f g sp.toNat dp.toNat n.toNat j)))) := by rw [← hT]; rfl
  have oq : ∀ q : Nat, q ≠ a → (H.setIfInBounds a (vp_cell (cA 0) (n1, .inl (fun j => Int32.ofInt (zcp f g sp.toNat dp.toNat n.toNat j)))))[q]? = H[q]? := fun q hq => by simp [Array.getElem?_setIfInBounds, Ne.symm hq]
  obtain ⟨t, a1, b1⟩ := K p l e s m args below meth c D cA hc _ _ lsA (zH_set hH (zSome hM1) (by simp) (show (H.setIfInBounds a _)[a]? = some _ by simp [Array.getElem?_setIfInBounds, hl]) oq) ⟨by simp; exact hS.1, fun q g1 g2 => by
      rw [oq q (fun e => g2 (by rw [e]; exact zH_lo hH (zSome hM1)))]
      exact hS.2.1 q g1 g2, fun q hq => by
      rcases List.mem_append.mp hq with h | h
      · exact hS.2.2 q h
      · obtain ⟨z, -, hz⟩ := List.mem_map.mp h
        rw [← hz]
        exact zH_lo hH (zSome hM1)⟩ hL _ hheap X'
  exact ⟨t, step t a1, b1⟩
end ZN
-- returns of a method
section ZF
variable {lo d mc ms : Nat} {k : zY} {Q : Option zV → zM → Prop} {u : Nat × Nat} {pc : Nat} {ls : List (Option zV)} {M : zM}
theorem zr_iret {z : Int} (hd : decode (zYb k) pc = .ok (.ireturn, 1)) (hr : zYr k = some .int) (h1 : u.1 ≤ mc) (h2 : u.2 ≤ ms) (hq : Q (some (.inl z)) M) : zRn lo d (zR d mc ms) k (zFn lo mc ms Q) u pc ls [.inl z] M := by
  intro p l e s m args below meth c D cA hc H locs lsA hH hS hL
  have hlocks := hc.2.2.2.2.2.1
  exact W.widen h1 h2 (W.iret hc.1 hc.2.1 (hc.2.2.1.trans hr) (fun t ht hW => ⟨⟨some (.inl z), M, rfl, hq, by rw [ht]; exact hH⟩, hS.F ht⟩) hS.2.2 hd)
theorem zr_zret {z : Int} (hd : decode (zYb k) pc = .ok (.ireturn, 1)) (hr : zYr k = some .boolean) (hz : z = 0 ∨ z = 1) (h1 : u.1 ≤ mc) (h2 : u.2 ≤ ms) (hq : Q (some (.inl z)) M) : zRn lo d (zR d mc ms) k (zFn lo mc ms Q) u pc ls [.inl z] M := by
  intro p l e s m args below meth c D cA hc H locs lsA hH hS hL
  have hlocks := hc.2.2.2.2.2.1
  have hn : narrow .boolean (.int (Int32.ofInt z)) = .int (Int32.ofInt z) := by rcases hz with rfl | rfl <;> rfl
  exact W.widen h1 h2 (W.zret hc.1 hc.2.1 (hc.2.2.1.trans hr) hn (fun t ht hW => ⟨⟨some (.inl z), M, rfl, hq, by rw [ht]; exact hH⟩, hS.F ht⟩) hS.2.2 hd)
theorem zr_vret (hd : decode (zYb k) pc = .ok (.return_, 1)) (hr : zYr k = none) (h1 : u.1 ≤ mc) (h2 : u.2 ≤ ms) (hq : Q none M) : zRn lo d (zR d mc ms) k (zFn lo mc ms Q) u pc ls [] M := by
  intro p l e s m args below meth c D cA hc H locs lsA hH hS hL
  have hlocks := hc.2.2.2.2.2.1
  exact W.widen h1 h2 (W.vret hc.1 hc.2.1 (hc.2.2.1.trans hr) (fun t ht hW => ⟨⟨none, M, rfl, hq, by rw [ht]; exact hH⟩, hS.F ht⟩) hS.2.2 hd)
theorem zr_aret {r : Option Nat} {C : String} (hd : decode (zYb k) pc = .ok (.areturn, 1)) (hr : zYr k = some (.object C)) (h1 : u.1 ≤ mc) (h2 : u.2 ≤ ms) (hq : Q (some (.inr (.inl r))) M) : zRn lo d (zR d mc ms) k (zFn lo mc ms Q) u pc ls [.inr (.inl r)] M := by
  intro p l e s m args below meth c D cA hc H locs lsA hH hS hL
  have hlocks := hc.2.2.2.2.2.1
  exact W.widen h1 h2 (W.aret hc.1 hc.2.1 (hc.2.2.1.trans hr) (Or.inl ⟨C, rfl⟩) (va_rf_or r) (fun t ht hW => ⟨⟨some (.inr (.inl r)), M, rfl, hq, by rw [ht]; exact hH⟩, hS.F ht⟩) hS.2.2 hd)
end ZF
end
section
-- THE STEP as a function to be computed: zX n = n instructions; what must hold behind them
def zf4 (n : Fin 4) : Nat := n.val
theorem zf4_0 : zf4 0 = 0 := rfl
theorem zf4_1 : zf4 1 = 1 := rfl
theorem zf4_2 : zf4 2 = 2 := rfl
theorem zf4_3 : zf4 3 = 3 := rfl
def zwi (x : Option (Option zV)) (K : Int → Prop) : Prop := match x with
  | some (some (.inl z)) => K z
  | _ => False
def zwr (x : Option (Option zV)) (K : Option Nat → Prop) : Prop := match x with
  | some (some (.inr (.inl r))) => K r
  | _ => False
def zwl (x : Option (Option zV)) (K : Int64 → Prop) : Prop := match x with
  | some (some (.inr (.inr r))) => K r
  | _ => False
def zws (x : Option (Option zV)) (P : Prop) : Prop := match x with
  | some _ => P
  | none => False
def zlq (ls : List (Option zV)) (k : Nat) (P : Prop) : Prop := match k with
  | 0 => P
  | k + 1 => match zg ls k with
    | some (some (.inr (.inr _))) => False
    | _ => P
def zpi (st : List zV) (K : Int → List zV → Prop) : Prop := match st with
  | .inl a :: r => K a r
  | _ => False
def zpr (st : List zV) (K : Option Nat → List zV → Prop) : Prop := match st with
  | .inr (.inl a) :: r => K a r
  | _ => False
def zpl (st : List zV) (K : Int64 → List zV → Prop) : Prop := match st with
  | .inr (.inr a) :: r => K a r
  | _ => False
def zps (r : Option Nat) (K : Nat → Prop) : Prop := match r with
  | some a => K a
  | none => False
def zfl (x : Option (Nat × Nat × Nat)) (K : Nat → Nat → Nat → Prop) : Prop := match x with
  | some (a, b, c) => K a b c
  | none => False
def zob (c : Option zC) (ci : Nat) (K : List zV → Prop) : Prop := match c with
  | some (.inl (cj, fs)) => cj = ci ∧ K fs
  | _ => False
def zgv (x : Option zV) (K : zV → Prop) : Prop := match x with
  | some v => K v
  | none => False
def zar (c : Option zC) (t : Nat) (i : Int) (K : Nat → (Nat → Int) → Prop) : Prop := match c with
  | some (.inr (s, n, .inl f)) => s = t ∧ 0 ≤ i ∧ i < (n : Int) ∧ n < 2147483648 ∧ K n f
  | _ => False
def zqr (c : Option zC) (i : Int) (K : Nat → Nat → (Nat → Option Nat) → Prop) : Prop := match c with
  | some (.inr (t, n, .inr f)) => (t = 2 ∨ t = 3) ∧ 0 ≤ i ∧ i < (n : Int) ∧ n < 2147483648 ∧ K t n f
  | _ => False
def zln (c : Option zC) (K : Nat → Prop) : Prop := match c with
  | some (.inr (t, n, _)) => t < 4 ∧ K n
  | _ => False
def znx (x : Option Nat) (K : Nat → Prop) : Prop := match x with
  | some a => K a
  | none => False
def zlc (x : Option Int64) (K : Int64 → Prop) : Prop := match x with
  | some a => K a
  | none => False
def zcr (x : Option zCR) (kd : Nat) (K : zY → Nat → Nat → Nat → Prop) (E : Prop) : Prop := match x with
  | some (kd', y, n, mc, ms) => kd' = kd ∧ K y n mc ms
  | none => E
def zsp (n : Nat) (acc st : List zV) (K : List zV → List zV → Prop) : Prop := match n, st with
  | 0, st => K acc st
  | n + 1, v :: st => zsp n (v :: acc) st K
  | _ + 1, [] => False
def zdp (d : Nat) (K : Nat → Prop) : Prop := match d with
  | 0 => False
  | d + 1 => K d
def zdu (v : zV) (P : Prop) : Prop := match v with
  | .inr (.inr _) => False
  | _ => P
def ztq (pc : Nat) (off : Int) (K : Nat → Prop) : Prop := 0 ≤ (pc : Int) + off ∧ K ((pc : Int) + off).toNat
def zrt (r : Option FieldType) (K0 K1 : Prop) : Prop := match r with
  | some .int => K0
  | some .boolean => K1
  | _ => False
def zro (r : Option FieldType) (P : Prop) : Prop := match r with
  | some (.object _) => P
  | _ => False
def zrv (r : Option FieldType) (P : Prop) : Prop := match r with
  | none => P
  | some _ => False
def zmt (st : List zV) (P : Prop) : Prop := match st with
  | [] => P
  | _ :: _ => False
def zat (t : ArrayType) (K : Nat → Prop) : Prop := match t with
  | .int => K 0
  | .boolean => K 1
  | _ => False
def zS (lo d : Nat) (Rc Rs : Nat) (k : zY) (i : Instr) (len : Nat) (u : Nat × Nat) (pc : Nat) (ls : List (Option zV)) (st : List zV) (M : zM)
    (K : Nat × Nat → Nat → List (Option zV) → List zV → zM → Prop) (Rt : Option zV → Nat × Nat → zM → Prop) : Prop := match i with
  | .iload_n n => len = 1 ∧ zwi (zg ls (zf4 n)) (fun z => K u (pc + 1) ls (.inl z :: st) M)
  | .iload n => len = 2 ∧ zwi (zg ls n) (fun z => K u (pc + 2) ls (.inl z :: st) M)
  | .aload_n n => len = 1 ∧ zwr (zg ls (zf4 n)) (fun z => K u (pc + 1) ls (.inr (.inl z) :: st) M)
  | .aload n => len = 2 ∧ zwr (zg ls n) (fun z => K u (pc + 2) ls (.inr (.inl z) :: st) M)
  | .lload_n n => len = 1 ∧ zwl (zg ls (zf4 n)) (fun z => K u (pc + 1) ls (.inr (.inr z) :: st) M)
  | .lload n => len = 2 ∧ zwl (zg ls n) (fun z => K u (pc + 2) ls (.inr (.inr z) :: st) M)
  | .istore_n n => len = 1 ∧ zpi st (fun z r => zws (zg ls (zf4 n)) (zlq ls (zf4 n) (K u (pc + 1) (zst ls (zf4 n) (some (.inl z))) r M)))
  | .istore n => len = 2 ∧ zpi st (fun z r => zws (zg ls n) (zlq ls n (K u (pc + 2) (zst ls n (some (.inl z))) r M)))
  | .astore_n n => len = 1 ∧ zpr st (fun z r => zws (zg ls (zf4 n)) (zlq ls (zf4 n) (K u (pc + 1) (zst ls (zf4 n) (some (.inr (.inl z)))) r M)))
  | .astore n => len = 2 ∧ zpr st (fun z r => zws (zg ls n) (zlq ls n (K u (pc + 2) (zst ls n (some (.inr (.inl z)))) r M)))
  | .lstore n => len = 2 ∧ zpl st (fun z r => zws (zg ls (n + 1)) (zlq ls n (K u (pc + 2) (zst (zst ls n (some (.inr (.inr z)))) (n + 1) none) r M)))
  | .iinc n dz => len = 3 ∧ zwi (zg ls n) (fun z => zlq ls n (K u (pc + 3) (zst ls n (some (.inl (z + dz)))) st M))
  | .iconst n => len = 1 ∧ K u (pc + 1) ls (.inl n :: st) M
  | .bipush n => len = 2 ∧ -128 ≤ n ∧ n ≤ 127 ∧ K u (pc + 2) ls (.inl n :: st) M
  | .sipush n => len = 3 ∧ -32768 ≤ n ∧ n ≤ 32767 ∧ K u (pc + 3) ls (.inl n :: st) M
  | .lconst n => len = 1 ∧ K u (pc + 1) ls (.inr (.inr (Int64.ofNat n.val)) :: st) M
  | .aconst_null => len = 1 ∧ K u (pc + 1) ls (.inr (.inl none) :: st) M
  | .ldc2_w i => len = 3 ∧ zlc (zLc (zYo k) i) (fun v => K u (pc + 3) ls (.inr (.inr v) :: st) M)
  | .iadd => len = 1 ∧ zpi st (fun b r => zpi r (fun a r => K u (pc + 1) ls (.inl (a + b) :: r) M))
  | .isub => len = 1 ∧ zpi st (fun b r => zpi r (fun a r => K u (pc + 1) ls (.inl (a - b) :: r) M))
  | .imul => len = 1 ∧ zpi st (fun b r => zpi r (fun a r => K u (pc + 1) ls (.inl (a * b) :: r) M))
  | .iand => len = 1 ∧ zpi st (fun b r => zpi r (fun a r => K u (pc + 1) ls (.inl (zand a b) :: r) M))
  | .ishl => len = 1 ∧ zpi st (fun b r => zpi r (fun a r => K u (pc + 1) ls (.inl (zshl a b) :: r) M))
  | .ishr => len = 1 ∧ zpi st (fun b r => zpi r (fun a r => K u (pc + 1) ls (.inl (zshr a b) :: r) M))
  | .i2l => len = 1 ∧ zpi st (fun a r => K u (pc + 1) ls (.inr (.inr (Int32.ofInt a).toInt64) :: r) M)
  | .l2i => len = 1 ∧ zpl st (fun x r => K u (pc + 1) ls (.inl x.toInt32.toInt :: r) M)
  | .land => len = 1 ∧ zpl st (fun y r => zpl r (fun x r => K u (pc + 1) ls (.inr (.inr (x &&& y)) :: r) M))
  | .lor => len = 1 ∧ zpl st (fun y r => zpl r (fun x r => K u (pc + 1) ls (.inr (.inr (x ||| y)) :: r) M))
  | .lushr => len = 1 ∧ zpi st (fun b r => zpl r (fun x r => K u (pc + 1) ls (.inr (.inr (x.toUInt64 >>> ((Int32.ofInt b).toInt64.toUInt64 &&& Int64.toUInt64 63)).toInt64) :: r) M))
  | .lshl => len = 1 ∧ zpi st (fun b r => zpl r (fun x r => K u (pc + 1) ls (.inr (.inr (x <<< ((Int32.ofInt b).toInt64 &&& 63))) :: r) M))
  | .lcmp => len = 1 ∧ zpl st (fun y r => zpl r (fun x r => K u (pc + 1) ls (.inl (lg_cmp x y).toInt :: r) M))
  | .dup => len = 1 ∧ (match st with | v :: r => zdu v (K u (pc + 1) ls (v :: v :: r) M) | [] => False)
  | .dup2 => len = 1 ∧ zpi st (fun v r => zpr r (fun q r => zps q (fun a => K u (pc + 1) ls (.inl v :: .inr (.inl (some a)) :: .inl v :: .inr (.inl (some a)) :: r) M)))
  | .pop => len = 1 ∧ zpi st (fun _ r => K u (pc + 1) ls r M)
  | .goto off => len = 3 ∧ ztq pc off (fun t => K u t ls st M)
  | .if_icmp cd off => len = 3 ∧ zpi st (fun b r => zpi r (fun a r => zRr a ∧ zRr b ∧ ztq pc off (fun t => zCd cd a b → K u t ls r M) ∧ (¬ zCd cd a b → K u (pc + 3) ls r M)))
  | .ifCond cd off => len = 3 ∧ zpi st (fun a r => zRr a ∧ ztq pc off (fun t => zCd cd a 0 → K u t ls r M) ∧ (¬ zCd cd a 0 → K u (pc + 3) ls r M))
  | .ifnull off => len = 3 ∧ zpr st (fun q r => ztq pc off (fun t => q = none → K u t ls r M) ∧ (q ≠ none → K u (pc + 3) ls r M))
  | .ifnonnull off => len = 3 ∧ zpr st (fun q r => ztq pc off (fun t => q ≠ none → K u t ls r M) ∧ (q = none → K u (pc + 3) ls r M))
  | .tableswitch dflt l h offs => zpi st (fun x r => zRr x ∧ h + 1 = l + offs.toList.length ∧ zSw pc x (fun t => K u t ls r M) offs.toList l ∧ ztq pc dflt (fun t => x < l ∨ h < x → K u t ls r M))
  | .getfield i => len = 3 ∧ zpr st (fun q r => zps q (fun a => zfl (zF (zYo k) i) (fun ci kf _ => zob (M a) ci (fun fs => zgv (zg fs kf) (fun v => K u (pc + 3) ls (v :: r) M)))))
  | .putfield i => len = 3 ∧ (match st with
    | .inl v :: r => zpr r (fun q r => zps q (fun a => zfl (zF (zYo k) i) (fun ci kf fk => fk = 0 ∧ zob (M a) ci (fun fs => zgv (zg fs kf) (fun _ => K u (pc + 3) ls r (zup M a (.inl (ci, zst fs kf (.inl v)))))))))
    | .inr (.inl v) :: r => zps v (fun b => zpr r (fun q r => zps q (fun a => zfl (zF (zYo k) i) (fun ci kf fk => fk = 1 ∧ zYi k = true ∧ zYo k = ci ∧ zob (M a) ci (fun fs => zgv (zg fs kf) (fun _ => K u (pc + 3) ls r (zup M a (.inl (ci, zst fs kf (.inr (.inl (some b))))))))))))
    | _ => False)
  | .arraylength => len = 1 ∧ zpr st (fun q r => zps q (fun a => zln (M a) (fun n => K u (pc + 1) ls (.inl (n : Int) :: r) M)))
  | .iaload => len = 1 ∧ zpi st (fun i r => zpr r (fun q r => zps q (fun a => zar (M a) 0 i (fun _ f => K u (pc + 1) ls (.inl (f i.toNat) :: r) M))))
  | .baload => len = 1 ∧ zpi st (fun i r => zpr r (fun q r => zps q (fun a => zar (M a) 1 i (fun _ f => K u (pc + 1) ls (.inl (f i.toNat) :: r) M))))
  | .aaload => len = 1 ∧ zpi st (fun i r => zpr r (fun q r => zps q (fun a => zqr (M a) i (fun _ _ f => K u (pc + 1) ls (.inr (.inl (f i.toNat)) :: r) M))))
  | .iastore => len = 1 ∧ zpi st (fun x r => zpi r (fun i r => zpr r (fun q r => zps q (fun a => zar (M a) 0 i (fun n f => K u (pc + 1) ls r (zup M a (.inr (0, n, .inl (zu f i.toNat x)))))))))
  | .bastore => len = 1 ∧ zpi st (fun x r => zpi r (fun i r => zpr r (fun q r => zps q (fun a => zar (M a) 1 i (fun n f => x = 1 ∧ K u (pc + 1) ls r (zup M a (.inr (1, n, .inl (zu f i.toNat x)))))))))
  | .aastore => len = 1 ∧ zpr st (fun v r => zps v (fun b => zpi r (fun i r => zpr r (fun q r => zps q (fun a => zqr (M a) i (fun t n f => zob (M b) (t + 2) (fun _ => K u (pc + 1) ls r (zup M a (.inr (t, n, .inr (zu f i.toNat (some b))))))))))))
  | .new i => len = 3 ∧ znx (zNc (zYo k) i) (fun ci => u.1 + 1 ≤ Rc ∧ u.2 + zNf ci ≤ Rs ∧ ∀ nx : Nat, lo ≤ nx → (∀ q, M q ≠ none ↔ lo ≤ q ∧ q < nx) → K (u.1 + 1, u.2 + zNf ci) (pc + 3) ls (.inr (.inl (some nx)) :: st) (zup M nx (.inl (ci, zDf ci))))
  | .newarray t => len = 2 ∧ zpi st (fun n r => zat t (fun t => 0 ≤ n ∧ n ≤ 100000 ∧ u.1 + 1 ≤ Rc ∧ u.2 + n.toNat ≤ Rs ∧ ∀ nx : Nat, lo ≤ nx → (∀ q, M q ≠ none ↔ lo ≤ q ∧ q < nx) → K (u.1 + 1, u.2 + n.toNat) (pc + 2) ls (.inr (.inl (some nx)) :: r) (zup M nx (.inr (t, n.toNat, .inl (fun _ => 0))))))
  | .anewarray i => len = 3 ∧ zpi st (fun n r => znx (zNc (zYo k) i) (fun ci => (ci = 4 ∨ ci = 5) ∧ 0 ≤ n ∧ n ≤ 100000 ∧ u.1 + 1 ≤ Rc ∧ u.2 + n.toNat ≤ Rs ∧ ∀ nx : Nat, lo ≤ nx → (∀ q, M q ≠ none ↔ lo ≤ q ∧ q < nx) → K (u.1 + 1, u.2 + n.toNat) (pc + 3) ls (.inr (.inl (some nx)) :: r) (zup M nx (.inr (ci - 2, n.toNat, .inr (fun _ => none))))))
  | .invokevirtual i => len = 3 ∧ zcr (zCl (zYo k) i) 0 (fun y n mc ms => zsp n [] st (fun as r => zpr r (fun q r => zps q (fun a => zob (M a) (zYo y) (fun _ => zcs r ≤ 8 ∧ u.1 + mc ≤ Rc ∧ u.2 + ms ≤ Rs ∧ zdp d (fun d => zCt lo d y mc ms (.inr (.inl (some a)) :: as) M (fun rv M' => K (u.1 + mc, u.2 + ms) (pc + 3) ls (zpu rv r) M'))))))) False
  | .invokestatic i => len = 3 ∧ zcr (zCl (zYo k) i) 1 (fun y n mc ms => zsp n [] st (fun as r => zcs r ≤ 8 ∧ u.1 + mc ≤ Rc ∧ u.2 + ms ≤ Rs ∧ zdp d (fun d => zCt lo d y mc ms as M (fun rv M' => K (u.1 + mc, u.2 + ms) (pc + 3) ls (zpu rv r) M'))))
      (zAk (zYo k) i = true ∧ zpi st (fun n r => zpi r (fun dp r => zpr r (fun q r => zps q (fun a => zpi r (fun sp r => zpr r (fun q r => zps q (fun a0 => a ≠ a0 ∧ zar (M a0) 0 0 (fun n0 f => zar (M a) 0 0 (fun n1 g => 0 ≤ sp ∧ 0 ≤ dp ∧ 0 ≤ n ∧ sp + n ≤ (n0 : Int) ∧ dp + n ≤ (n1 : Int) ∧ zcs r ≤ 8 ∧ zdp d (fun _ => K u (pc + 3) ls r (zup M a (.inr (0, n1, .inl (zcp f g sp.toNat dp.toNat n.toNat)))))))))))))))
  | .invokespecial i => len = 3 ∧ zcr (zCl (zYo k) i) 2 (fun y n mc ms => zsp n [] st (fun as r => zpr r (fun q r => zps q (fun a => zcs r ≤ 8 ∧ u.1 + mc ≤ Rc ∧ u.2 + ms ≤ Rs ∧ zdp d (fun d => zCt lo d y mc ms (.inr (.inl (some a)) :: as) M (fun rv M' => K (u.1 + mc, u.2 + ms) (pc + 3) ls (zpu rv r) M'))))))
      (zOk (zYo k) i = true ∧ zpr st (fun q r => zps q (fun _ => zcs r ≤ 8 ∧ zdp d (fun _ => K u (pc + 3) ls r M))))
  | .ireturn => len = 1 ∧ zpi st (fun z r => zmt r (zrt (zYr k) (Rt (some (.inl z)) u M) ((z = 0 ∨ z = 1) ∧ Rt (some (.inl z)) u M)))
  | .areturn => len = 1 ∧ zpr st (fun z r => zmt r (zro (zYr k) (Rt (some (.inr (.inl z))) u M)))
  | .return_ => len = 1 ∧ zmt st (zrv (zYr k) (Rt none u M))
  | _ => False
end
section
-- the step is sound
theorem zwi_e {x : Option (Option zV)} {K : Int → Prop} (h : zwi x K) : ∃ z, x = some (some (.inl z)) ∧ K z := by
  match x, h with
  | some (some (.inl z)), h => exact ⟨z, rfl, h⟩
theorem zwr_e {x : Option (Option zV)} {K : Option Nat → Prop} (h : zwr x K) : ∃ z, x = some (some (.inr (.inl z))) ∧ K z := by
  match x, h with
  | some (some (.inr (.inl z))), h => exact ⟨z, rfl, h⟩
theorem zwl_e {x : Option (Option zV)} {K : Int64 → Prop} (h : zwl x K) : ∃ z, x = some (some (.inr (.inr z))) ∧ K z := by
  match x, h with
  | some (some (.inr (.inr z))), h => exact ⟨z, rfl, h⟩
theorem zws_e {x : Option (Option zV)} {P : Prop} (h : zws x P) : ∃ w, x = some w ∧ P := by
  match x, h with
  | some w, h => exact ⟨w, rfl, h⟩
theorem zlq_e {ls : List (Option zV)} {k : Nat} {P : Prop} (h : zlq ls k P) : zlk ls k ∧ P := by
  match k, h with
  | 0, h => exact ⟨trivial, h⟩
  | k + 1, h =>
    have e : ∀ y, zg ls k = y → zlk ls (k + 1) ∧ P := by
      intro y hy
      simp only [zlq, hy] at h
      simp only [zlk, hy]
      match y, h with
      | none, h => exact ⟨trivial, h⟩
      | some none, h => exact ⟨trivial, h⟩
      | some (some (.inl _)), h => exact ⟨trivial, h⟩
      | some (some (.inr (.inl _))), h => exact ⟨trivial, h⟩
    exact e _ rfl
theorem zpi_e {st : List zV} {K : Int → List zV → Prop} (h : zpi st K) : ∃ a r, st = .inl a :: r ∧ K a r := by
  match st, h with
  | .inl a :: r, h => exact ⟨a, r, rfl, h⟩
theorem zpr_e {st : List zV} {K : Option Nat → List zV → Prop} (h : zpr st K) : ∃ a r, st = .inr (.inl a) :: r ∧ K a r := by
  match st, h with
  | .inr (.inl a) :: r, h => exact ⟨a, r, rfl, h⟩
theorem zpl_e {st : List zV} {K : Int64 → List zV → Prop} (h : zpl st K) : ∃ a r, st = .inr (.inr a) :: r ∧ K a r := by
  match st, h with
  | .inr (.inr a) :: r, h => exact ⟨a, r, rfl, h⟩
theorem zps_e {r : Option Nat} {K : Nat → Prop} (h : zps r K) : ∃ a, r = some a ∧ K a := by
  match r, h with
  | some a, h => exact ⟨a, rfl, h⟩
theorem zfl_e {x : Option (Nat × Nat × Nat)} {K : Nat → Nat → Nat → Prop} (h : zfl x K) : ∃ a b c, x = some (a, b, c) ∧ K a b c := by
  match x, h with
  | some (a, b, c), h => exact ⟨a, b, c, rfl, h⟩
theorem zob_e {c : Option zC} {ci : Nat} {K : List zV → Prop} (h : zob c ci K) : ∃ fs, c = some (.inl (ci, fs)) ∧ K fs := by
  match c, h with
  | some (.inl (cj, fs)), g => obtain ⟨e, g⟩ := g; subst e; exact ⟨fs, rfl, g⟩
theorem zgv_e {x : Option zV} {K : zV → Prop} (h : zgv x K) : ∃ v, x = some v ∧ K v := by
  match x, h with
  | some v, h => exact ⟨v, rfl, h⟩
theorem zar_e {c : Option zC} {t : Nat} {i : Int} {K : Nat → (Nat → Int) → Prop} (h : zar c t i K) : ∃ n f, c = some (.inr (t, n, .inl f)) ∧ 0 ≤ i ∧ i < (n : Int) ∧ n < 2147483648 ∧ K n f := by
  match c, h with
  | some (.inr (s, n, .inl f)), g => obtain ⟨e, g⟩ := g; subst e; exact ⟨n, f, rfl, g⟩
theorem zqr_e {c : Option zC} {i : Int} {K : Nat → Nat → (Nat → Option Nat) → Prop} (h : zqr c i K) : ∃ t n f, c = some (.inr (t, n, .inr f)) ∧ (t = 2 ∨ t = 3) ∧ 0 ≤ i ∧ i < (n : Int) ∧ n < 2147483648 ∧ K t n f := by
  match c, h with
  | some (.inr (t, n, .inr f)), h => exact ⟨t, n, f, rfl, h⟩
theorem zln_e {c : Option zC} {K : Nat → Prop} (h : zln c K) : ∃ t n f, c = some (.inr (t, n, f)) ∧ t < 4 ∧ K n := by
  match c, h with
  | some (.inr (t, n, f)), h => exact ⟨t, n, f, rfl, h⟩
theorem znx_e {x : Option Nat} {K : Nat → Prop} (h : znx x K) : ∃ a, x = some a ∧ K a := by
  match x, h with
  | some a, h => exact ⟨a, rfl, h⟩
theorem zlc_e {x : Option Int64} {K : Int64 → Prop} (h : zlc x K) : ∃ a, x = some a ∧ K a := by
  match x, h with
  | some a, h => exact ⟨a, rfl, h⟩
theorem zcr_e {x : Option zCR} {kd : Nat} {K : zY → Nat → Nat → Nat → Prop} {E : Prop} (h : zcr x kd K E) : (∃ y n mc ms, x = some (kd, y, n, mc, ms) ∧ K y n mc ms) ∨ E := by
  match x, h with
  | some (kd', y, n, mc, ms), g => obtain ⟨e, g⟩ := g; subst e; exact Or.inl ⟨y, n, mc, ms, rfl, g⟩
  | none, h => exact Or.inr h
theorem zsp_e : ∀ {n : Nat} {acc st : List zV} {K : List zV → List zV → Prop}, zsp n acc st K → ∃ as r, st = as.reverse ++ r ∧ as.length = n ∧ K (as ++ acc) r
  | 0, acc, st, K, h => ⟨[], st, rfl, rfl, h⟩
  | n + 1, acc, v :: st, K, h => by
    obtain ⟨as, r, h1, h2, h3⟩ := zsp_e (n := n) (acc := v :: acc) (st := st) h
    exact ⟨as ++ [v], r, by rw [h1]; simp, by simp [h2], by simpa using h3⟩
theorem zdp_e {d : Nat} {K : Nat → Prop} (h : zdp d K) : ∃ d', d = d' + 1 ∧ K d' := by
  match d, h with
  | d + 1, h => exact ⟨d, rfl, h⟩
theorem zdu_e {v : zV} {P : Prop} (h : zdu v P) : (∀ x, v ≠ .inr (.inr x)) ∧ P := by
  match v, h with
  | .inl _, h => exact ⟨fun x e => (by cases e), h⟩
  | .inr (.inl _), h => exact ⟨fun x e => (by cases e), h⟩
theorem zat_e {t : ArrayType} {K : Nat → Prop} (h : zat t K) : ∃ n, ((t = .int ∧ n = 0) ∨ (t = .boolean ∧ n = 1)) ∧ K n := by
  match t, h with
  | .int, h => exact ⟨0, Or.inl ⟨rfl, rfl⟩, h⟩
  | .boolean, h => exact ⟨1, Or.inr ⟨rfl, rfl⟩, h⟩
theorem zmt_e {st : List zV} {P : Prop} (h : zmt st P) : st = [] ∧ P := by
  match st, h with
  | [], h => exact ⟨rfl, h⟩
theorem zrv_e {r : Option FieldType} {P : Prop} (h : zrv r P) : r = none ∧ P := by
  match r, h with
  | none, h => exact ⟨rfl, h⟩
theorem zro_e {r : Option FieldType} {P : Prop} (h : zro r P) : ∃ C, r = some (.object C) ∧ P := by
  match r, h with
  | some (.object C), h => exact ⟨C, rfl, h⟩
theorem zrt_e {r : Option FieldType} {P Q : Prop} (h : zrt r P Q) : (r = some .int ∧ P) ∨ (r = some .boolean ∧ Q) := by
  match r, h with
  | some .int, h => exact Or.inl ⟨rfl, h⟩
  | some .boolean, h => exact Or.inr ⟨rfl, h⟩
theorem zSw_w {pc : Nat} {x : Int} {K K' : Nat → Prop} (hK : ∀ t, K t → K' t) : ∀ {l : List Int} {lo : Int}, zSw pc x K l lo → zSw pc x K' l lo
  | [], _, _ => trivial
  | _ :: _, _, h => ⟨fun e => ⟨(h.1 e).1, hK _ (h.1 e).2⟩, zSw_w hK h.2⟩
set_option maxHeartbeats 4000000 in
theorem zS_ok {lo d : Nat} {Rm : Room} {k : zY} {Fn : List Frame → Array Value → State → va_G → (Nat → ClassId) → State → Prop} {i : Instr} {len : Nat} {u : Nat × Nat} {pc : Nat} {ls : List (Option zV)} {st : List zV} {M : zM} {Rt : Option zV → Nat × Nat → zM → Prop} {KK : Nat × Nat → Nat → List (Option zV) → List zV → zM → Prop} (hK : ∀ u' pc' ls' st' M', KK u' pc' ls' st' M' → zRn lo d Rm k Fn u' pc' ls' st' M')
    (hI : ∀ z, decode (zYb k) pc = .ok (.ireturn, 1) → zYr k = some .int → Rt (some (.inl z)) u M → zRn lo d Rm k Fn u pc ls [.inl z] M)
    (hZ : ∀ z, decode (zYb k) pc = .ok (.ireturn, 1) → zYr k = some .boolean → (z = 0 ∨ z = 1) → Rt (some (.inl z)) u M → zRn lo d Rm k Fn u pc ls [.inl z] M)
    (hA : ∀ r C, decode (zYb k) pc = .ok (.areturn, 1) → zYr k = some (.object C) → Rt (some (.inr (.inl r))) u M → zRn lo d Rm k Fn u pc ls [.inr (.inl r)] M)
    (hV : decode (zYb k) pc = .ok (.return_, 1) → zYr k = none → Rt none u M → zRn lo d Rm k Fn u pc ls [] M)
    (hd : decode (zYb k) pc = .ok (i, len)) (h : zS lo d Rm.cells Rm.slots k i len u pc ls st M KK Rt) : zRn lo d Rm k Fn u pc ls st M := by
  cases i
  case iload_n n => obtain ⟨el, h0⟩ := h; subst el; obtain ⟨z, e, h1⟩ := zwi_e h0; exact zr_iload_n hd e (hK _ _ _ _ _ h1)
  case iload n => obtain ⟨el, h0⟩ := h; subst el; obtain ⟨z, e, h1⟩ := zwi_e h0; exact zr_iload hd e (hK _ _ _ _ _ h1)
  case aload_n n => obtain ⟨el, h0⟩ := h; subst el; obtain ⟨z, e, h1⟩ := zwr_e h0; exact zr_aload_n hd e (hK _ _ _ _ _ h1)
  case aload n => obtain ⟨el, h0⟩ := h; subst el; obtain ⟨z, e, h1⟩ := zwr_e h0; exact zr_aload hd e (hK _ _ _ _ _ h1)
  case lload_n n => obtain ⟨el, h0⟩ := h; subst el; obtain ⟨z, e, h1⟩ := zwl_e h0; exact zr_lload_n hd e (hK _ _ _ _ _ h1)
  case lload n => obtain ⟨el, h0⟩ := h; subst el; obtain ⟨z, e, h1⟩ := zwl_e h0; exact zr_lload hd e (hK _ _ _ _ _ h1)
  case istore_n n => obtain ⟨el, h0⟩ := h; subst el; obtain ⟨z, r1, rfl, h1⟩ := zpi_e h0; obtain ⟨w, e, h2⟩ := zws_e h1; obtain ⟨g, h3⟩ := zlq_e h2; exact zr_istore_n hd e g (hK _ _ _ _ _ h3)
  case istore n => obtain ⟨el, h0⟩ := h; subst el; obtain ⟨z, r1, rfl, h1⟩ := zpi_e h0; obtain ⟨w, e, h2⟩ := zws_e h1; obtain ⟨g, h3⟩ := zlq_e h2; exact zr_istore hd e g (hK _ _ _ _ _ h3)
  case astore_n n => obtain ⟨el, h0⟩ := h; subst el; obtain ⟨z, r1, rfl, h1⟩ := zpr_e h0; obtain ⟨w, e, h2⟩ := zws_e h1; obtain ⟨g, h3⟩ := zlq_e h2; exact zr_astore_n hd e g (hK _ _ _ _ _ h3)
  case astore n => obtain ⟨el, h0⟩ := h; subst el; obtain ⟨z, r1, rfl, h1⟩ := zpr_e h0; obtain ⟨w, e, h2⟩ := zws_e h1; obtain ⟨g, h3⟩ := zlq_e h2; exact zr_astore hd e g (hK _ _ _ _ _ h3)
  case lstore n => obtain ⟨el, h0⟩ := h; subst el; obtain ⟨z, r1, rfl, h1⟩ := zpl_e h0; obtain ⟨w, e, h2⟩ := zws_e h1; obtain ⟨g, h3⟩ := zlq_e h2; exact zr_lstore hd e g (hK _ _ _ _ _ h3)
  case iinc n dz => obtain ⟨el, h0⟩ := h; subst el; obtain ⟨z, e, h1⟩ := zwi_e h0; obtain ⟨g, h2⟩ := zlq_e h1; exact zr_iinc hd e g (hK _ _ _ _ _ h2)
  case iconst n => obtain ⟨el, h0⟩ := h; subst el; exact zr_iconst hd (hK _ _ _ _ _ h0)
  case bipush n => obtain ⟨el, h0⟩ := h; subst el; obtain ⟨b1, b2, h1⟩ := h0; exact zr_bipush hd b1 b2 (hK _ _ _ _ _ h1)
  case sipush n => obtain ⟨el, h0⟩ := h; subst el; obtain ⟨b1, b2, h1⟩ := h0; exact zr_sipush hd b1 b2 (hK _ _ _ _ _ h1)
  case lconst n => obtain ⟨el, h0⟩ := h; subst el; exact zr_lconst hd (hK _ _ _ _ _ h0)
  case aconst_null => obtain ⟨el, h0⟩ := h; subst el; exact zr_null hd (hK _ _ _ _ _ h0)
  case ldc2_w i => obtain ⟨el, h0⟩ := h; subst el; obtain ⟨v, e, h1⟩ := zlc_e h0; exact zr_ldc2 hd e (hK _ _ _ _ _ h1)
  case iadd => obtain ⟨el, h0⟩ := h; subst el; obtain ⟨b, r1, rfl, h1⟩ := zpi_e h0; obtain ⟨a, r2, rfl, h2⟩ := zpi_e h1; exact zr_iadd hd (hK _ _ _ _ _ h2)
  case isub => obtain ⟨el, h0⟩ := h; subst el; obtain ⟨b, r1, rfl, h1⟩ := zpi_e h0; obtain ⟨a, r2, rfl, h2⟩ := zpi_e h1; exact zr_isub hd (hK _ _ _ _ _ h2)
  case imul => obtain ⟨el, h0⟩ := h; subst el; obtain ⟨b, r1, rfl, h1⟩ := zpi_e h0; obtain ⟨a, r2, rfl, h2⟩ := zpi_e h1; exact zr_imul hd (hK _ _ _ _ _ h2)
  case iand => obtain ⟨el, h0⟩ := h; subst el; obtain ⟨b, r1, rfl, h1⟩ := zpi_e h0; obtain ⟨a, r2, rfl, h2⟩ := zpi_e h1; exact zr_iand hd (hK _ _ _ _ _ h2)
  case ishl => obtain ⟨el, h0⟩ := h; subst el; obtain ⟨b, r1, rfl, h1⟩ := zpi_e h0; obtain ⟨a, r2, rfl, h2⟩ := zpi_e h1; exact zr_ishl hd (hK _ _ _ _ _ h2)
  case ishr => obtain ⟨el, h0⟩ := h; subst el; obtain ⟨b, r1, rfl, h1⟩ := zpi_e h0; obtain ⟨a, r2, rfl, h2⟩ := zpi_e h1; exact zr_ishr hd (hK _ _ _ _ _ h2)
  case i2l => obtain ⟨el, h0⟩ := h; subst el; obtain ⟨b, r1, rfl, h1⟩ := zpi_e h0; exact zr_i2l hd (hK _ _ _ _ _ h1)
  case l2i => obtain ⟨el, h0⟩ := h; subst el; obtain ⟨b, r1, rfl, h1⟩ := zpl_e h0; exact zr_l2i hd (hK _ _ _ _ _ h1)
  case land => obtain ⟨el, h0⟩ := h; subst el; obtain ⟨b, r1, rfl, h1⟩ := zpl_e h0; obtain ⟨a, r2, rfl, h2⟩ := zpl_e h1; exact zr_land hd (hK _ _ _ _ _ h2)
  case lor => obtain ⟨el, h0⟩ := h; subst el; obtain ⟨b, r1, rfl, h1⟩ := zpl_e h0; obtain ⟨a, r2, rfl, h2⟩ := zpl_e h1; exact zr_lor hd (hK _ _ _ _ _ h2)
  case lcmp => obtain ⟨el, h0⟩ := h; subst el; obtain ⟨b, r1, rfl, h1⟩ := zpl_e h0; obtain ⟨a, r2, rfl, h2⟩ := zpl_e h1; exact zr_lcmp hd (hK _ _ _ _ _ h2)
  case lushr => obtain ⟨el, h0⟩ := h; subst el; obtain ⟨b, r1, rfl, h1⟩ := zpi_e h0; obtain ⟨a, r2, rfl, h2⟩ := zpl_e h1; exact zr_lushr hd (hK _ _ _ _ _ h2)
  case lshl => obtain ⟨el, h0⟩ := h; subst el; obtain ⟨b, r1, rfl, h1⟩ := zpi_e h0; obtain ⟨a, r2, rfl, h2⟩ := zpl_e h1; exact zr_lshl hd (hK _ _ _ _ _ h2)
  case dup =>
    obtain ⟨el, h0⟩ := h
    subst el
    match st, h0 with
    | v :: r, h0 => obtain ⟨g, h1⟩ := zdu_e h0; exact zr_dup hd g (hK _ _ _ _ _ h1)
  case dup2 => obtain ⟨el, h0⟩ := h; subst el; obtain ⟨b, r1, rfl, h1⟩ := zpi_e h0; obtain ⟨q, r2, rfl, h2⟩ := zpr_e h1; obtain ⟨a, rfl, h3⟩ := zps_e h2; exact zr_dup2 hd (hK _ _ _ _ _ h3)
  case pop => obtain ⟨el, h0⟩ := h; subst el; obtain ⟨b, r1, rfl, h1⟩ := zpi_e h0; exact zr_pop hd (hK _ _ _ _ _ h1)
  case goto off => obtain ⟨el, h0⟩ := h; subst el; obtain ⟨g, h1⟩ := h0; exact zr_goto hd g (hK _ _ _ _ _ h1)
  case if_icmp cd off => obtain ⟨el, h0⟩ := h; subst el; obtain ⟨b, r1, rfl, h1⟩ := zpi_e h0; obtain ⟨a, r2, rfl, h2⟩ := zpi_e h1; obtain ⟨ha, hb, ⟨g, K1⟩, h3⟩ := h2; exact zr_icmp hd g ha hb (fun q => hK _ _ _ _ _ (K1 q)) (fun q => hK _ _ _ _ _ (h3 q))
  case ifCond cd off => obtain ⟨el, h0⟩ := h; subst el; obtain ⟨a, r1, rfl, h1⟩ := zpi_e h0; obtain ⟨ha, ⟨g, K1⟩, h2⟩ := h1; exact zr_ifz hd g ha (fun q => hK _ _ _ _ _ (K1 q)) (fun q => hK _ _ _ _ _ (h2 q))
  case ifnull off => obtain ⟨el, h0⟩ := h; subst el; obtain ⟨q, r1, rfl, h1⟩ := zpr_e h0; obtain ⟨⟨g, K1⟩, h2⟩ := h1; exact zr_ifnull hd g (fun q => hK _ _ _ _ _ (K1 q)) (fun q => hK _ _ _ _ _ (h2 q))
  case ifnonnull off => obtain ⟨el, h0⟩ := h; subst el; obtain ⟨q, r1, rfl, h1⟩ := zpr_e h0; obtain ⟨⟨g, K1⟩, h2⟩ := h1; exact zr_ifnonnull hd g (fun q => hK _ _ _ _ _ (K1 q)) (fun q => hK _ _ _ _ _ (h2 q))
  case tableswitch dflt l hh offs => obtain ⟨x, r1, rfl, h1⟩ := zpi_e h; obtain ⟨hx, he, hs, g, K1⟩ := h1; exact zr_tsw hd hx he g (zSw_w (fun t g => hK _ _ _ _ _ g) hs) (fun q => hK _ _ _ _ _ (K1 q))
  case getfield i => obtain ⟨el, h0⟩ := h; subst el; obtain ⟨q, r1, rfl, h1⟩ := zpr_e h0; obtain ⟨a, rfl, h2⟩ := zps_e h1; obtain ⟨ci, kf, fk, e1, h3⟩ := zfl_e h2; obtain ⟨fs, e2, h4⟩ := zob_e h3; obtain ⟨v, e3, h5⟩ := zgv_e h4; exact zr_getfield hd e1 e2 e3 (hK _ _ _ _ _ h5)
  case putfield i =>
    obtain ⟨el, h0⟩ := h
    subst el
    match st, h0 with
    | .inl v :: r, h0 =>
      obtain ⟨q, r1, rfl, h1⟩ := zpr_e h0; obtain ⟨a, rfl, h2⟩ := zps_e h1; obtain ⟨ci, kf, fk, e1, h3⟩ := zfl_e h2; obtain ⟨e0, h4⟩ := h3; subst e0; obtain ⟨fs, e2, h5⟩ := zob_e h4; obtain ⟨w, e3, h6⟩ := zgv_e h5
      exact zr_putfield hd e1 e2 e3 (hK _ _ _ _ _ h6)
    | .inr (.inl v) :: r, h0 =>
      obtain ⟨b, rfl, h1⟩ := zps_e h0; obtain ⟨q, r1, rfl, h2⟩ := zpr_e h1; obtain ⟨a, rfl, h3⟩ := zps_e h2; obtain ⟨ci, kf, fk, e1, h4⟩ := zfl_e h3; obtain ⟨e0, ei, eo, h5⟩ := h4; subst e0; obtain ⟨fs, e2, h6⟩ := zob_e h5; obtain ⟨w, e3, h7⟩ := zgv_e h6
      exact zr_putfieldR hd e1 ei eo e2 e3 (hK _ _ _ _ _ h7)
    | .inr (.inr _) :: _, h0 => exact h0.elim
    | [], h0 => exact h0.elim
  case arraylength => obtain ⟨el, h0⟩ := h; subst el; obtain ⟨q, r1, rfl, h1⟩ := zpr_e h0; obtain ⟨a, rfl, h2⟩ := zps_e h1; obtain ⟨t, n, f, e1, ht, h3⟩ := zln_e h2; exact zr_alen hd e1 ht (hK _ _ _ _ _ h3)
  case iaload => obtain ⟨el, h0⟩ := h; subst el; obtain ⟨i, r1, rfl, h1⟩ := zpi_e h0; obtain ⟨q, r2, rfl, h2⟩ := zpr_e h1; obtain ⟨a, rfl, h3⟩ := zps_e h2; obtain ⟨n, f, e1, g1, g2, g3, h4⟩ := zar_e h3; exact zr_iald hd e1 g1 g2 g3 (hK _ _ _ _ _ h4)
  case baload => obtain ⟨el, h0⟩ := h; subst el; obtain ⟨i, r1, rfl, h1⟩ := zpi_e h0; obtain ⟨q, r2, rfl, h2⟩ := zpr_e h1; obtain ⟨a, rfl, h3⟩ := zps_e h2; obtain ⟨n, f, e1, g1, g2, g3, h4⟩ := zar_e h3; exact zr_bald hd e1 g1 g2 g3 (hK _ _ _ _ _ h4)
  case aaload => obtain ⟨el, h0⟩ := h; subst el; obtain ⟨i, r1, rfl, h1⟩ := zpi_e h0; obtain ⟨q, r2, rfl, h2⟩ := zpr_e h1; obtain ⟨a, rfl, h3⟩ := zps_e h2; obtain ⟨t, n, f, e1, g0, g1, g2, g3, h4⟩ := zqr_e h3; exact zr_aald hd e1 g0 g1 g2 g3 (hK _ _ _ _ _ h4)
  case iastore => obtain ⟨el, h0⟩ := h; subst el; obtain ⟨x, r1, rfl, h1⟩ := zpi_e h0; obtain ⟨i, r2, rfl, h2⟩ := zpi_e h1; obtain ⟨q, r3, rfl, h3⟩ := zpr_e h2; obtain ⟨a, rfl, h4⟩ := zps_e h3; obtain ⟨n, f, e1, g1, g2, g3, h5⟩ := zar_e h4; exact zr_iast hd e1 g1 g2 g3 (hK _ _ _ _ _ h5)
  case bastore => obtain ⟨el, h0⟩ := h; subst el; obtain ⟨x, r1, rfl, h1⟩ := zpi_e h0; obtain ⟨i, r2, rfl, h2⟩ := zpi_e h1; obtain ⟨q, r3, rfl, h3⟩ := zpr_e h2; obtain ⟨a, rfl, h4⟩ := zps_e h3; obtain ⟨n, f, e1, g1, g2, g3, gx, h5⟩ := zar_e h4; exact zr_bast hd e1 g1 g2 g3 gx (hK _ _ _ _ _ h5)
  case aastore => obtain ⟨el, h0⟩ := h; subst el; obtain ⟨v, r1, rfl, h1⟩ := zpr_e h0; obtain ⟨b, rfl, h2⟩ := zps_e h1; obtain ⟨i, r2, rfl, h3⟩ := zpi_e h2; obtain ⟨q, r3, rfl, h4⟩ := zpr_e h3; obtain ⟨a, rfl, h5⟩ := zps_e h4; obtain ⟨t, n, f, e1, g0, g1, g2, g3, h6⟩ := zqr_e h5; obtain ⟨fs, e2, h7⟩ := zob_e h6; exact zr_aast hd e1 g0 e2 g1 g2 g3 (hK _ _ _ _ _ h7)
  case new i => obtain ⟨el, h0⟩ := h; subst el; obtain ⟨ci, e1, h1⟩ := znx_e h0; obtain ⟨g1, g2, h2⟩ := h1; exact zr_new hd e1 g1 g2 (fun nx b1 b2 => hK _ _ _ _ _ (h2 nx b1 b2))
  case newarray t => obtain ⟨el, h0⟩ := h; subst el; obtain ⟨n, r1, rfl, h1⟩ := zpi_e h0; obtain ⟨t2, e1, h2⟩ := zat_e h1; obtain ⟨g1, g2, g3, g4, h3⟩ := h2; exact zr_newa hd e1 g1 g2 g3 g4 (fun nx b1 b2 => hK _ _ _ _ _ (h3 nx b1 b2))
  case anewarray i =>
    obtain ⟨el, h0⟩ := h
    subst el
    obtain ⟨n, r1, rfl, h1⟩ := zpi_e h0; obtain ⟨ci, e1, h2⟩ := znx_e h1; obtain ⟨gc, g1, g2, g3, g4, h3⟩ := h2
    rcases gc with rfl | rfl
    · exact zr_anew (t := 2) hd e1 (Or.inl rfl) g1 g2 g3 g4 (fun nx b1 b2 => hK _ _ _ _ _ (h3 nx b1 b2))
    · exact zr_anew (t := 3) hd e1 (Or.inr rfl) g1 g2 g3 g4 (fun nx b1 b2 => hK _ _ _ _ _ (h3 nx b1 b2))
  case invokevirtual i =>
    obtain ⟨el, h0⟩ := h
    subst el
    rcases zcr_e h0 with ⟨y, n, mc, ms, e1, h1⟩ | hf
    · obtain ⟨as, r1, rfl, e2, h2⟩ := zsp_e h1; obtain ⟨q, r2, rfl, h3⟩ := zpr_e h2; obtain ⟨a, rfl, h4⟩ := zps_e h3; obtain ⟨fs, e3, h5⟩ := zob_e h4; obtain ⟨g1, g2, g3, h6⟩ := h5; obtain ⟨d', rfl, h7⟩ := zdp_e h6
      rw [List.append_nil] at h7
      exact zr_callV hd e1 e2 e3 g1 g2 g3 h7 (fun r M' g => hK _ _ _ _ _ g)
    · exact hf.elim
  case invokestatic i =>
    obtain ⟨el, h0⟩ := h
    subst el
    rcases zcr_e h0 with ⟨y, n, mc, ms, e1, h1⟩ | hf
    · obtain ⟨as, r1, rfl, e2, h2⟩ := zsp_e h1; obtain ⟨g1, g2, g3, h6⟩ := h2; obtain ⟨d', rfl, h7⟩ := zdp_e h6
      rw [List.append_nil] at h7
      exact zr_callS hd e1 e2 g1 g2 g3 h7 (fun r M' g => hK _ _ _ _ _ g)
    · obtain ⟨e1, h1⟩ := hf
      obtain ⟨n, r1, rfl, h2⟩ := zpi_e h1; obtain ⟨dp, r2, rfl, h3⟩ := zpi_e h2; obtain ⟨q, r3, rfl, h4⟩ := zpr_e h3; obtain ⟨a, rfl, h5⟩ := zps_e h4; obtain ⟨sp, r4, rfl, h6⟩ := zpi_e h5; obtain ⟨q0, r5, rfl, h7⟩ := zpr_e h6; obtain ⟨a0, rfl, h8⟩ := zps_e h7
      obtain ⟨hne, h9⟩ := h8; obtain ⟨n0, f, e2, -, -, l0, h10⟩ := zar_e h9; obtain ⟨n1, g, e3, -, -, l1, h11⟩ := zar_e h10; obtain ⟨b1, b2, b3, b4, b5, b6, h12⟩ := h11; obtain ⟨d', rfl, h13⟩ := zdp_e h12
      exact zr_copy hd e1 hne e2 e3 b1 b2 b3 b4 b5 l0 l1 b6 (hK _ _ _ _ _ h13)
  case invokespecial i =>
    obtain ⟨el, h0⟩ := h
    subst el
    rcases zcr_e h0 with ⟨y, n, mc, ms, e1, h1⟩ | hf
    · obtain ⟨as, r1, rfl, e2, h2⟩ := zsp_e h1; obtain ⟨q, r2, rfl, h3⟩ := zpr_e h2; obtain ⟨a, rfl, h4⟩ := zps_e h3; obtain ⟨g1, g2, g3, h6⟩ := h4; obtain ⟨d', rfl, h7⟩ := zdp_e h6
      rw [List.append_nil] at h7
      exact zr_callI hd e1 e2 g1 g2 g3 h7 (fun r M' g => hK _ _ _ _ _ g)
    · obtain ⟨e1, h1⟩ := hf
      obtain ⟨q, r2, rfl, h3⟩ := zpr_e h1; obtain ⟨a, rfl, h4⟩ := zps_e h3; obtain ⟨g1, h6⟩ := h4; obtain ⟨d', rfl, h7⟩ := zdp_e h6
      exact zr_objInit hd e1 g1 (hK _ _ _ _ _ h7)
  case ireturn =>
    obtain ⟨el, h0⟩ := h
    subst el
    obtain ⟨z, r1, rfl, h1⟩ := zpi_e h0; obtain ⟨rfl, h2⟩ := zmt_e h1
    rcases zrt_e h2 with ⟨e1, h3⟩ | ⟨e1, h3⟩
    · exact hI z hd e1 h3
    · exact hZ z hd e1 h3.1 h3.2
  case areturn =>
    obtain ⟨el, h0⟩ := h
    subst el
    obtain ⟨z, r1, rfl, h1⟩ := zpr_e h0; obtain ⟨rfl, h2⟩ := zmt_e h1; obtain ⟨C, e1, h3⟩ := zro_e h2
    exact hA z C hd e1 h3
  case return_ =>
    obtain ⟨el, h0⟩ := h
    subst el
    obtain ⟨rfl, h1⟩ := zmt_e h0; obtain ⟨e1, h2⟩ := zrv_e h1
    exact hV hd e1 h2
  all_goals exact h.elim
/-- n steps -/
def zX (lo d : Nat) (Rc Rs : Nat) (k : zY) (K : Nat × Nat → Nat → List (Option zV) → List zV → zM → Prop) (Rt : Option zV → Nat × Nat → zM → Prop) : Nat → Nat × Nat → Nat → List (Option zV) → List zV → zM → Prop
  | 0, u, pc, ls, st, M => K u pc ls st M
  | n + 1, u, pc, ls, st, M => match decode (zYb k) pc with
    | .ok (i, len) => zS lo d Rc Rs k i len u pc ls st M (fun u' pc' ls' st' M' => zX lo d Rc Rs k K Rt n u' pc' ls' st' M') Rt
    | .error _ => False
theorem zX_ok {lo d : Nat} {Rm : Room} {k : zY} {Fn : List Frame → Array Value → State → va_G → (Nat → ClassId) → State → Prop} {Rt : Option zV → Nat × Nat → zM → Prop}
    (hI : ∀ u pc ls M z, decode (zYb k) pc = .ok (.ireturn, 1) → zYr k = some .int → Rt (some (.inl z)) u M → zRn lo d Rm k Fn u pc ls [.inl z] M)
    (hZ : ∀ u pc ls M z, decode (zYb k) pc = .ok (.ireturn, 1) → zYr k = some .boolean → (z = 0 ∨ z = 1) → Rt (some (.inl z)) u M → zRn lo d Rm k Fn u pc ls [.inl z] M)
    (hA : ∀ u pc ls M r C, decode (zYb k) pc = .ok (.areturn, 1) → zYr k = some (.object C) → Rt (some (.inr (.inl r))) u M → zRn lo d Rm k Fn u pc ls [.inr (.inl r)] M)
    (hV : ∀ u pc ls M, decode (zYb k) pc = .ok (.return_, 1) → zYr k = none → Rt none u M → zRn lo d Rm k Fn u pc ls [] M) :
    ∀ (n : Nat) (u : Nat × Nat) (pc : Nat) (ls : List (Option zV)) (st : List zV) (M : zM), zX lo d Rm.cells Rm.slots k (fun u' pc' ls' st' M' => zRn lo d Rm k Fn u' pc' ls' st' M') Rt n u pc ls st M → zRn lo d Rm k Fn u pc ls st M
  | 0, _, _, _, _, _, h => h
  | n + 1, u, pc, ls, st, M, h => by
    have ih := zX_ok hI hZ hA hV n
    cases hd : decode (zYb k) pc with
    | error er => simp only [zX, hd] at h
    | ok x =>
      obtain ⟨i, len⟩ := x
      simp only [zX, hd] at h
      exact zS_ok (KK := fun u' pc' ls' st' M' => zX lo d Rm.cells Rm.slots k (fun u' pc' ls' st' M' => zRn lo d Rm k Fn u' pc' ls' st' M') Rt n u' pc' ls' st' M') (fun u' pc' ls' st' M' g => ih u' pc' ls' st' M' g) (fun z => hI u pc ls M z) (fun z => hZ u pc ls M z) (fun r C => hA u pc ls M r C) (hV u pc ls M) hd h
/-- where a method of ours stands: Q of its answer and of the memory behind it -/
def zm (lo d : Nat) (k : zY) (mc ms : Nat) (Q : Option zV → zM → Prop) (u : Nat × Nat) (pc : Nat) (ls : List (Option zV)) (st : List zV) (M : zM) : Prop := zRn lo d (zR d mc ms) k (zFn lo mc ms Q) u pc ls st M
/-- go on by n instructions -/
theorem zgo (n : Nat) {lo d : Nat} {k : zY} {mc ms : Nat} {Q : Option zV → zM → Prop} {u : Nat × Nat} {pc : Nat} {ls : List (Option zV)} {st : List zV} {M : zM} (h : zX lo d mc ms k (fun u' pc' ls' st' M' => zm lo d k mc ms Q u' pc' ls' st' M') (fun r u' M' => u'.1 ≤ mc ∧ u'.2 ≤ ms ∧ Q r M') n u pc ls st M) : zm lo d k mc ms Q u pc ls st M :=
  zX_ok (Rm := zR d mc ms) (fun _ _ _ _ _ hd hr g => zr_iret hd hr g.1 g.2.1 g.2.2) (fun _ _ _ _ _ hd hr hz g => zr_zret hd hr hz g.1 g.2.1 g.2.2) (fun _ _ _ _ _ _ hd hr g => zr_aret hd hr g.1 g.2.1 g.2.2) (fun _ _ _ _ hd hr g => zr_vret hd hr g.1 g.2.1 g.2.2) n u pc ls st M h
theorem zct {lo d : Nat} {k : zY} {mc ms : Nat} {as : List zV} {M : zM} {Q : Option zV → zM → Prop} (ls : List (Option zV)) (hls : zEn as (zYl k) = ls) (hlen : (zEa as).length ≤ zYl k) (hpl : plainName (zYn k).cls = true) (hcn : (zYn k).cls = zCn (zYo k)) (h : zm lo d k mc ms Q (0, 0) 0 ls [] M) : zCt lo d k mc ms as M Q := zCt_of ls hls hlen hpl hcn h
end
