section
-- ===== PART A: goes FIRST, ahead of the names: the tables' words, and 'selects' of the private methods out of them =====
/-- a private method of a class that the tables say can be made, by its rows of tables_1 -/
def lw_okq (q : MethodName × Nat) : Prop := (q.1.cls ≠ "java/lang/invoke/MethodHandle" ∧ q.1.cls ≠ "java/lang/invoke/VarHandle") ∧ Cond.instantiable q.1.cls q.2 ∈ tables_1 ∧ Cond.privateMethod q.1 ∈ tables_1 ∧ Cond.instanceMethod q.1 ∈ tables_1
theorem lw_p0 : lw_okq (⟨"LetterCuts$Sheet", "startAnew", "(II)V"⟩, 10) := ⟨⟨by decide +kernel, by decide +kernel⟩, List.mem_of_getElem? (i := 37) (by decide +kernel), List.mem_of_getElem? (i := 43) (by decide +kernel), List.mem_of_getElem? (i := 44) (by decide +kernel)⟩
theorem lw_p1 : lw_okq (⟨"LetterCuts$Sheet", "copyFrom", "(LLetterCuts$Sheet;)V"⟩, 10) := ⟨⟨by decide +kernel, by decide +kernel⟩, List.mem_of_getElem? (i := 37) (by decide +kernel), List.mem_of_getElem? (i := 241) (by decide +kernel), List.mem_of_getElem? (i := 242) (by decide +kernel)⟩
theorem lw_p2 : lw_okq (⟨"LetterCutsLaw$Sheet", "tries", "(II)V"⟩, 13) := ⟨⟨by decide +kernel, by decide +kernel⟩, List.mem_of_getElem? (i := 263) (by decide +kernel), List.mem_of_getElem? (i := 428) (by decide +kernel), List.mem_of_getElem? (i := 429) (by decide +kernel)⟩
theorem lw_p3 : lw_okq (⟨"LetterCutsLaw$Sheet", "isAhead", "(I)Z"⟩, 13) := ⟨⟨by decide +kernel, by decide +kernel⟩, List.mem_of_getElem? (i := 263) (by decide +kernel), List.mem_of_getElem? (i := 432) (by decide +kernel), List.mem_of_getElem? (i := 433) (by decide +kernel)⟩
theorem lw_p4 : lw_okq (⟨"LetterCutsLaw$Sheet", "says", "(IIII)Z"⟩, 13) := ⟨⟨by decide +kernel, by decide +kernel⟩, List.mem_of_getElem? (i := 263) (by decide +kernel), List.mem_of_getElem? (i := 436) (by decide +kernel), List.mem_of_getElem? (i := 437) (by decide +kernel)⟩
theorem lw_p5 : lw_okq (⟨"java/lang/Throwable", "fillInStackTrace", "(I)Ljava/lang/Throwable;"⟩, 6) := ⟨⟨by decide +kernel, by decide +kernel⟩, List.mem_of_getElem? (i := 506) (by decide +kernel), List.mem_of_getElem? (i := 504) (by decide +kernel), List.mem_of_getElem? (i := 505) (by decide +kernel)⟩
theorem lw_p6 : lw_okq (⟨"LetterCuts$SetupReader", "read", "([BI)I"⟩, 10) := ⟨⟨by decide +kernel, by decide +kernel⟩, List.mem_of_getElem? (i := 98) (by decide +kernel), List.mem_of_getElem? (i := 532) (by decide +kernel), List.mem_of_getElem? (i := 533) (by decide +kernel)⟩
theorem lw_p7 : lw_okq (⟨"LetterCuts$SetupReader", "readPage", "()V"⟩, 10) := ⟨⟨by decide +kernel, by decide +kernel⟩, List.mem_of_getElem? (i := 98) (by decide +kernel), List.mem_of_getElem? (i := 541) (by decide +kernel), List.mem_of_getElem? (i := 542) (by decide +kernel)⟩
theorem lw_p8 : lw_okq (⟨"LetterCuts$SetupReader", "skipSpaces", "()V"⟩, 10) := ⟨⟨by decide +kernel, by decide +kernel⟩, List.mem_of_getElem? (i := 98) (by decide +kernel), List.mem_of_getElem? (i := 545) (by decide +kernel), List.mem_of_getElem? (i := 546) (by decide +kernel)⟩
theorem lw_p9 : lw_okq (⟨"LetterCuts$SetupReader", "skipWord", "()V"⟩, 10) := ⟨⟨by decide +kernel, by decide +kernel⟩, List.mem_of_getElem? (i := 98) (by decide +kernel), List.mem_of_getElem? (i := 549) (by decide +kernel), List.mem_of_getElem? (i := 550) (by decide +kernel)⟩
theorem lw_p10 : lw_okq (⟨"LetterCuts$SetupReader", "isWord", "(ILjava/lang/String;)Z"⟩, 10) := ⟨⟨by decide +kernel, by decide +kernel⟩, List.mem_of_getElem? (i := 98) (by decide +kernel), List.mem_of_getElem? (i := 557) (by decide +kernel), List.mem_of_getElem? (i := 558) (by decide +kernel)⟩
theorem lw_p11 : lw_okq (⟨"LetterCuts$SetupReader", "fail", "(II)V"⟩, 10) := ⟨⟨by decide +kernel, by decide +kernel⟩, List.mem_of_getElem? (i := 98) (by decide +kernel), List.mem_of_getElem? (i := 563) (by decide +kernel), List.mem_of_getElem? (i := 564) (by decide +kernel)⟩
theorem lw_p12 : lw_okq (⟨"LetterCuts$SetupReader", "readNumber", "(I)I"⟩, 10) := ⟨⟨by decide +kernel, by decide +kernel⟩, List.mem_of_getElem? (i := 98) (by decide +kernel), List.mem_of_getElem? (i := 567) (by decide +kernel), List.mem_of_getElem? (i := 568) (by decide +kernel)⟩
theorem lw_p13 : lw_okq (⟨"LetterCuts$SetupReader", "readSemicolon", "()V"⟩, 10) := ⟨⟨by decide +kernel, by decide +kernel⟩, List.mem_of_getElem? (i := 98) (by decide +kernel), List.mem_of_getElem? (i := 571) (by decide +kernel), List.mem_of_getElem? (i := 572) (by decide +kernel)⟩
theorem lw_p14 : lw_okq (⟨"LetterCuts$SetupReader", "hasMore", "()Z"⟩, 10) := ⟨⟨by decide +kernel, by decide +kernel⟩, List.mem_of_getElem? (i := 98) (by decide +kernel), List.mem_of_getElem? (i := 576) (by decide +kernel), List.mem_of_getElem? (i := 577) (by decide +kernel)⟩
theorem lw_p15 : lw_okq (⟨"LetterCuts$SetupReader", "readStatement", "()V"⟩, 10) := ⟨⟨by decide +kernel, by decide +kernel⟩, List.mem_of_getElem? (i := 98) (by decide +kernel), List.mem_of_getElem? (i := 580) (by decide +kernel), List.mem_of_getElem? (i := 581) (by decide +kernel)⟩
def lw_privs_1 : List (MethodName × Nat) := [(⟨"LetterCuts$Sheet", "startAnew", "(II)V"⟩, 10), (⟨"LetterCuts$Sheet", "copyFrom", "(LLetterCuts$Sheet;)V"⟩, 10), (⟨"LetterCutsLaw$Sheet", "tries", "(II)V"⟩, 13), (⟨"LetterCutsLaw$Sheet", "isAhead", "(I)Z"⟩, 13), (⟨"LetterCutsLaw$Sheet", "says", "(IIII)Z"⟩, 13), (⟨"java/lang/Throwable", "fillInStackTrace", "(I)Ljava/lang/Throwable;"⟩, 6), (⟨"LetterCuts$SetupReader", "read", "([BI)I"⟩, 10), (⟨"LetterCuts$SetupReader", "readPage", "()V"⟩, 10), (⟨"LetterCuts$SetupReader", "skipSpaces", "()V"⟩, 10), (⟨"LetterCuts$SetupReader", "skipWord", "()V"⟩, 10), (⟨"LetterCuts$SetupReader", "isWord", "(ILjava/lang/String;)Z"⟩, 10), (⟨"LetterCuts$SetupReader", "fail", "(II)V"⟩, 10), (⟨"LetterCuts$SetupReader", "readNumber", "(I)I"⟩, 10), (⟨"LetterCuts$SetupReader", "readSemicolon", "()V"⟩, 10), (⟨"LetterCuts$SetupReader", "hasMore", "()Z"⟩, 10), (⟨"LetterCuts$SetupReader", "readStatement", "()V"⟩, 10)]
theorem lw_r1 : ∀ q ∈ lw_privs_1, lw_okq q := List.forall_mem_cons.mpr ⟨lw_p0, List.forall_mem_cons.mpr ⟨lw_p1, List.forall_mem_cons.mpr ⟨lw_p2, List.forall_mem_cons.mpr ⟨lw_p3, List.forall_mem_cons.mpr ⟨lw_p4, List.forall_mem_cons.mpr ⟨lw_p5, List.forall_mem_cons.mpr ⟨lw_p6, List.forall_mem_cons.mpr ⟨lw_p7, List.forall_mem_cons.mpr ⟨lw_p8, List.forall_mem_cons.mpr ⟨lw_p9, List.forall_mem_cons.mpr ⟨lw_p10, List.forall_mem_cons.mpr ⟨lw_p11, List.forall_mem_cons.mpr ⟨lw_p12, List.forall_mem_cons.mpr ⟨lw_p13, List.forall_mem_cons.mpr ⟨lw_p14, List.forall_mem_cons.mpr ⟨lw_p15, fun _ h => absurd h List.not_mem_nil⟩⟩⟩⟩⟩⟩⟩⟩⟩⟩⟩⟩⟩⟩⟩⟩
theorem lw_p16 : lw_okq (⟨"LetterCuts$SetupReader", "readLines", "(I)V"⟩, 10) := ⟨⟨by decide +kernel, by decide +kernel⟩, List.mem_of_getElem? (i := 98) (by decide +kernel), List.mem_of_getElem? (i := 585) (by decide +kernel), List.mem_of_getElem? (i := 586) (by decide +kernel)⟩
theorem lw_p17 : lw_okq (⟨"LetterCuts$SetupReader", "readLine", "(I)V"⟩, 10) := ⟨⟨by decide +kernel, by decide +kernel⟩, List.mem_of_getElem? (i := 98) (by decide +kernel), List.mem_of_getElem? (i := 589) (by decide +kernel), List.mem_of_getElem? (i := 590) (by decide +kernel)⟩
theorem lw_p18 : lw_okq (⟨"LetterCuts$SetupReader", "readSizes", "()V"⟩, 10) := ⟨⟨by decide +kernel, by decide +kernel⟩, List.mem_of_getElem? (i := 98) (by decide +kernel), List.mem_of_getElem? (i := 595) (by decide +kernel), List.mem_of_getElem? (i := 596) (by decide +kernel)⟩
theorem lw_p19 : lw_okq (⟨"LetterCuts", "remember", "()V"⟩, 10) := ⟨⟨by decide +kernel, by decide +kernel⟩, List.mem_of_getElem? (i := 29) (by decide +kernel), List.mem_of_getElem? (i := 600) (by decide +kernel), List.mem_of_getElem? (i := 601) (by decide +kernel)⟩
theorem lw_p20 : lw_okq (⟨"LetterCuts", "makeOldestFinal", "()V"⟩, 10) := ⟨⟨by decide +kernel, by decide +kernel⟩, List.mem_of_getElem? (i := 29) (by decide +kernel), List.mem_of_getElem? (i := 604) (by decide +kernel), List.mem_of_getElem? (i := 605) (by decide +kernel)⟩
theorem lw_p21 : lw_okq (⟨"LetterCuts$Sheet", "countCells", "()I"⟩, 10) := ⟨⟨by decide +kernel, by decide +kernel⟩, List.mem_of_getElem? (i := 37) (by decide +kernel), List.mem_of_getElem? (i := 608) (by decide +kernel), List.mem_of_getElem? (i := 609) (by decide +kernel)⟩
theorem lw_p22 : lw_okq (⟨"LetterCuts$Sheet", "hasPlace", "(II)Z"⟩, 10) := ⟨⟨by decide +kernel, by decide +kernel⟩, List.mem_of_getElem? (i := 37) (by decide +kernel), List.mem_of_getElem? (i := 621) (by decide +kernel), List.mem_of_getElem? (i := 622) (by decide +kernel)⟩
theorem lw_p23 : lw_okq (⟨"LetterCuts$Sheet", "spotOf", "(II)I"⟩, 10) := ⟨⟨by decide +kernel, by decide +kernel⟩, List.mem_of_getElem? (i := 37) (by decide +kernel), List.mem_of_getElem? (i := 641) (by decide +kernel), List.mem_of_getElem? (i := 642) (by decide +kernel)⟩
theorem lw_p24 : lw_okq (⟨"LetterCuts$Sheet", "cellOf", "(I)I"⟩, 10) := ⟨⟨by decide +kernel, by decide +kernel⟩, List.mem_of_getElem? (i := 37) (by decide +kernel), List.mem_of_getElem? (i := 645) (by decide +kernel), List.mem_of_getElem? (i := 646) (by decide +kernel)⟩
theorem lw_p25 : lw_okq (⟨"LetterCuts$Sheet", "spotBehind", "(I)I"⟩, 10) := ⟨⟨by decide +kernel, by decide +kernel⟩, List.mem_of_getElem? (i := 37) (by decide +kernel), List.mem_of_getElem? (i := 652) (by decide +kernel), List.mem_of_getElem? (i := 653) (by decide +kernel)⟩
theorem lw_p26 : lw_okq (⟨"LetterCuts$Sheet", "placeOf", "(I)I"⟩, 10) := ⟨⟨by decide +kernel, by decide +kernel⟩, List.mem_of_getElem? (i := 37) (by decide +kernel), List.mem_of_getElem? (i := 659) (by decide +kernel), List.mem_of_getElem? (i := 660) (by decide +kernel)⟩
theorem lw_p27 : lw_okq (⟨"LetterCuts$Sheet", "sizeAt", "(I)I"⟩, 10) := ⟨⟨by decide +kernel, by decide +kernel⟩, List.mem_of_getElem? (i := 37) (by decide +kernel), List.mem_of_getElem? (i := 666) (by decide +kernel), List.mem_of_getElem? (i := 667) (by decide +kernel)⟩
theorem lw_p28 : lw_okq (⟨"LetterCuts$Sheet", "hasSpot", "(I)Z"⟩, 10) := ⟨⟨by decide +kernel, by decide +kernel⟩, List.mem_of_getElem? (i := 37) (by decide +kernel), List.mem_of_getElem? (i := 670) (by decide +kernel), List.mem_of_getElem? (i := 671) (by decide +kernel)⟩
theorem lw_p29 : lw_okq (⟨"LetterCuts$Sheet", "canUse", "(I)Z"⟩, 10) := ⟨⟨by decide +kernel, by decide +kernel⟩, List.mem_of_getElem? (i := 37) (by decide +kernel), List.mem_of_getElem? (i := 675) (by decide +kernel), List.mem_of_getElem? (i := 676) (by decide +kernel)⟩
theorem lw_p30 : lw_okq (⟨"LetterCuts$Sheet", "letterAt", "(I)I"⟩, 10) := ⟨⟨by decide +kernel, by decide +kernel⟩, List.mem_of_getElem? (i := 37) (by decide +kernel), List.mem_of_getElem? (i := 679) (by decide +kernel), List.mem_of_getElem? (i := 680) (by decide +kernel)⟩
theorem lw_p31 : lw_okq (⟨"LetterCuts$Sheet", "isThere", "(I)Z"⟩, 10) := ⟨⟨by decide +kernel, by decide +kernel⟩, List.mem_of_getElem? (i := 37) (by decide +kernel), List.mem_of_getElem? (i := 684) (by decide +kernel), List.mem_of_getElem? (i := 685) (by decide +kernel)⟩
def lw_privs_2 : List (MethodName × Nat) := [(⟨"LetterCuts$SetupReader", "readLines", "(I)V"⟩, 10), (⟨"LetterCuts$SetupReader", "readLine", "(I)V"⟩, 10), (⟨"LetterCuts$SetupReader", "readSizes", "()V"⟩, 10), (⟨"LetterCuts", "remember", "()V"⟩, 10), (⟨"LetterCuts", "makeOldestFinal", "()V"⟩, 10), (⟨"LetterCuts$Sheet", "countCells", "()I"⟩, 10), (⟨"LetterCuts$Sheet", "hasPlace", "(II)Z"⟩, 10), (⟨"LetterCuts$Sheet", "spotOf", "(II)I"⟩, 10), (⟨"LetterCuts$Sheet", "cellOf", "(I)I"⟩, 10), (⟨"LetterCuts$Sheet", "spotBehind", "(I)I"⟩, 10), (⟨"LetterCuts$Sheet", "placeOf", "(I)I"⟩, 10), (⟨"LetterCuts$Sheet", "sizeAt", "(I)I"⟩, 10), (⟨"LetterCuts$Sheet", "hasSpot", "(I)Z"⟩, 10), (⟨"LetterCuts$Sheet", "canUse", "(I)Z"⟩, 10), (⟨"LetterCuts$Sheet", "letterAt", "(I)I"⟩, 10), (⟨"LetterCuts$Sheet", "isThere", "(I)Z"⟩, 10)]
theorem lw_r2 : ∀ q ∈ lw_privs_2, lw_okq q := List.forall_mem_cons.mpr ⟨lw_p16, List.forall_mem_cons.mpr ⟨lw_p17, List.forall_mem_cons.mpr ⟨lw_p18, List.forall_mem_cons.mpr ⟨lw_p19, List.forall_mem_cons.mpr ⟨lw_p20, List.forall_mem_cons.mpr ⟨lw_p21, List.forall_mem_cons.mpr ⟨lw_p22, List.forall_mem_cons.mpr ⟨lw_p23, List.forall_mem_cons.mpr ⟨lw_p24, List.forall_mem_cons.mpr ⟨lw_p25, List.forall_mem_cons.mpr ⟨lw_p26, List.forall_mem_cons.mpr ⟨lw_p27, List.forall_mem_cons.mpr ⟨lw_p28, List.forall_mem_cons.mpr ⟨lw_p29, List.forall_mem_cons.mpr ⟨lw_p30, List.forall_mem_cons.mpr ⟨lw_p31, fun _ h => absurd h List.not_mem_nil⟩⟩⟩⟩⟩⟩⟩⟩⟩⟩⟩⟩⟩⟩⟩⟩
theorem lw_p32 : lw_okq (⟨"LetterCuts$Sheet", "countInMessage", "(I)I"⟩, 10) := ⟨⟨by decide +kernel, by decide +kernel⟩, List.mem_of_getElem? (i := 37) (by decide +kernel), List.mem_of_getElem? (i := 690) (by decide +kernel), List.mem_of_getElem? (i := 691) (by decide +kernel)⟩
theorem lw_p33 : lw_okq (⟨"LetterCuts$Sheet", "messageAt", "(I)I"⟩, 10) := ⟨⟨by decide +kernel, by decide +kernel⟩, List.mem_of_getElem? (i := 37) (by decide +kernel), List.mem_of_getElem? (i := 694) (by decide +kernel), List.mem_of_getElem? (i := 695) (by decide +kernel)⟩
theorem lw_p34 : lw_okq (⟨"LetterCuts$Sheet", "hasMessageLetter", "(I)Z"⟩, 10) := ⟨⟨by decide +kernel, by decide +kernel⟩, List.mem_of_getElem? (i := 37) (by decide +kernel), List.mem_of_getElem? (i := 698) (by decide +kernel), List.mem_of_getElem? (i := 699) (by decide +kernel)⟩
theorem lw_p35 : lw_okq (⟨"LetterCuts$Sheet", "countUsableOf", "(I)I"⟩, 10) := ⟨⟨by decide +kernel, by decide +kernel⟩, List.mem_of_getElem? (i := 37) (by decide +kernel), List.mem_of_getElem? (i := 710) (by decide +kernel), List.mem_of_getElem? (i := 711) (by decide +kernel)⟩
theorem lw_p36 : lw_okq (⟨"LetterCuts$Sheet", "cellsWith", "(I)J"⟩, 10) := ⟨⟨by decide +kernel, by decide +kernel⟩, List.mem_of_getElem? (i := 37) (by decide +kernel), List.mem_of_getElem? (i := 715) (by decide +kernel), List.mem_of_getElem? (i := 716) (by decide +kernel)⟩
theorem lw_p37 : lw_okq (⟨"LetterCuts", "bestCuts", "()I"⟩, 10) := ⟨⟨by decide +kernel, by decide +kernel⟩, List.mem_of_getElem? (i := 29) (by decide +kernel), List.mem_of_getElem? (i := 733) (by decide +kernel), List.mem_of_getElem? (i := 734) (by decide +kernel)⟩
theorem lw_p38 : lw_okq (⟨"LetterCuts$Planner", "prepare", "(LLetterCuts$Sheet;)V"⟩, 10) := ⟨⟨by decide +kernel, by decide +kernel⟩, List.mem_of_getElem? (i := 159) (by decide +kernel), List.mem_of_getElem? (i := 737) (by decide +kernel), List.mem_of_getElem? (i := 738) (by decide +kernel)⟩
theorem lw_p39 : lw_okq (⟨"LetterCuts$Sheet", "lettersFrom", "(II)I"⟩, 10) := ⟨⟨by decide +kernel, by decide +kernel⟩, List.mem_of_getElem? (i := 37) (by decide +kernel), List.mem_of_getElem? (i := 747) (by decide +kernel), List.mem_of_getElem? (i := 748) (by decide +kernel)⟩
theorem lw_p40 : lw_okq (⟨"LetterCuts$Planner", "boundSaved", "(I)I"⟩, 10) := ⟨⟨by decide +kernel, by decide +kernel⟩, List.mem_of_getElem? (i := 159) (by decide +kernel), List.mem_of_getElem? (i := 751) (by decide +kernel), List.mem_of_getElem? (i := 752) (by decide +kernel)⟩
theorem lw_p41 : lw_okq (⟨"LetterCuts$Planner", "choose", "(J)I"⟩, 10) := ⟨⟨by decide +kernel, by decide +kernel⟩, List.mem_of_getElem? (i := 159) (by decide +kernel), List.mem_of_getElem? (i := 755) (by decide +kernel), List.mem_of_getElem? (i := 756) (by decide +kernel)⟩
theorem lw_p42 : lw_okq (⟨"LetterCuts$Planner", "canSpell", "(IIJ)Z"⟩, 10) := ⟨⟨by decide +kernel, by decide +kernel⟩, List.mem_of_getElem? (i := 159) (by decide +kernel), List.mem_of_getElem? (i := 759) (by decide +kernel), List.mem_of_getElem? (i := 760) (by decide +kernel)⟩
theorem lw_p43 : lw_okq (⟨"LetterCuts$Matching", "clear", "()V"⟩, 4) := ⟨⟨by decide +kernel, by decide +kernel⟩, List.mem_of_getElem? (i := 139) (by decide +kernel), List.mem_of_getElem? (i := 763) (by decide +kernel), List.mem_of_getElem? (i := 764) (by decide +kernel)⟩
theorem lw_p44 : lw_okq (⟨"LetterCuts$Matching", "give", "(J)Z"⟩, 4) := ⟨⟨by decide +kernel, by decide +kernel⟩, List.mem_of_getElem? (i := 139) (by decide +kernel), List.mem_of_getElem? (i := 769) (by decide +kernel), List.mem_of_getElem? (i := 770) (by decide +kernel)⟩
theorem lw_p45 : lw_okq (⟨"LetterCuts$Matching", "findCell", "(II)Z"⟩, 4) := ⟨⟨by decide +kernel, by decide +kernel⟩, List.mem_of_getElem? (i := 139) (by decide +kernel), List.mem_of_getElem? (i := 773) (by decide +kernel), List.mem_of_getElem? (i := 774) (by decide +kernel)⟩
theorem lw_p46 : lw_okq (⟨"LetterCuts$Matching", "canMove", "(II)Z"⟩, 4) := ⟨⟨by decide +kernel, by decide +kernel⟩, List.mem_of_getElem? (i := 139) (by decide +kernel), List.mem_of_getElem? (i := 778) (by decide +kernel), List.mem_of_getElem? (i := 779) (by decide +kernel)⟩
theorem lw_p47 : lw_okq (⟨"LetterCuts$Planner", "canSave", "(IIJI)Z"⟩, 10) := ⟨⟨by decide +kernel, by decide +kernel⟩, List.mem_of_getElem? (i := 159) (by decide +kernel), List.mem_of_getElem? (i := 782) (by decide +kernel), List.mem_of_getElem? (i := 783) (by decide +kernel)⟩
def lw_privs_3 : List (MethodName × Nat) := [(⟨"LetterCuts$Sheet", "countInMessage", "(I)I"⟩, 10), (⟨"LetterCuts$Sheet", "messageAt", "(I)I"⟩, 10), (⟨"LetterCuts$Sheet", "hasMessageLetter", "(I)Z"⟩, 10), (⟨"LetterCuts$Sheet", "countUsableOf", "(I)I"⟩, 10), (⟨"LetterCuts$Sheet", "cellsWith", "(I)J"⟩, 10), (⟨"LetterCuts", "bestCuts", "()I"⟩, 10), (⟨"LetterCuts$Planner", "prepare", "(LLetterCuts$Sheet;)V"⟩, 10), (⟨"LetterCuts$Sheet", "lettersFrom", "(II)I"⟩, 10), (⟨"LetterCuts$Planner", "boundSaved", "(I)I"⟩, 10), (⟨"LetterCuts$Planner", "choose", "(J)I"⟩, 10), (⟨"LetterCuts$Planner", "canSpell", "(IIJ)Z"⟩, 10), (⟨"LetterCuts$Matching", "clear", "()V"⟩, 4), (⟨"LetterCuts$Matching", "give", "(J)Z"⟩, 4), (⟨"LetterCuts$Matching", "findCell", "(II)Z"⟩, 4), (⟨"LetterCuts$Matching", "canMove", "(II)Z"⟩, 4), (⟨"LetterCuts$Planner", "canSave", "(IIJI)Z"⟩, 10)]
theorem lw_r3 : ∀ q ∈ lw_privs_3, lw_okq q := List.forall_mem_cons.mpr ⟨lw_p32, List.forall_mem_cons.mpr ⟨lw_p33, List.forall_mem_cons.mpr ⟨lw_p34, List.forall_mem_cons.mpr ⟨lw_p35, List.forall_mem_cons.mpr ⟨lw_p36, List.forall_mem_cons.mpr ⟨lw_p37, List.forall_mem_cons.mpr ⟨lw_p38, List.forall_mem_cons.mpr ⟨lw_p39, List.forall_mem_cons.mpr ⟨lw_p40, List.forall_mem_cons.mpr ⟨lw_p41, List.forall_mem_cons.mpr ⟨lw_p42, List.forall_mem_cons.mpr ⟨lw_p43, List.forall_mem_cons.mpr ⟨lw_p44, List.forall_mem_cons.mpr ⟨lw_p45, List.forall_mem_cons.mpr ⟨lw_p46, List.forall_mem_cons.mpr ⟨lw_p47, fun _ h => absurd h List.not_mem_nil⟩⟩⟩⟩⟩⟩⟩⟩⟩⟩⟩⟩⟩⟩⟩⟩
theorem lw_p48 : lw_okq (⟨"LetterCuts$Planner", "canSaveAt", "(IIJI)Z"⟩, 10) := ⟨⟨by decide +kernel, by decide +kernel⟩, List.mem_of_getElem? (i := 159) (by decide +kernel), List.mem_of_getElem? (i := 786) (by decide +kernel), List.mem_of_getElem? (i := 787) (by decide +kernel)⟩
theorem lw_p49 : lw_okq (⟨"LetterCuts$Planner", "freeStrip", "(IIIJ)J"⟩, 10) := ⟨⟨by decide +kernel, by decide +kernel⟩, List.mem_of_getElem? (i := 159) (by decide +kernel), List.mem_of_getElem? (i := 790) (by decide +kernel), List.mem_of_getElem? (i := 791) (by decide +kernel)⟩
theorem lw_p50 : lw_okq (⟨"LetterCuts$Planner", "chooseCut", "(IJI)I"⟩, 10) := ⟨⟨by decide +kernel, by decide +kernel⟩, List.mem_of_getElem? (i := 159) (by decide +kernel), List.mem_of_getElem? (i := 794) (by decide +kernel), List.mem_of_getElem? (i := 795) (by decide +kernel)⟩
theorem lw_p51 : lw_okq (⟨"LetterCuts$Planner", "lengthOfCut", "(I)I"⟩, 10) := ⟨⟨by decide +kernel, by decide +kernel⟩, List.mem_of_getElem? (i := 159) (by decide +kernel), List.mem_of_getElem? (i := 813) (by decide +kernel), List.mem_of_getElem? (i := 814) (by decide +kernel)⟩
theorem lw_p52 : lw_okq (⟨"LetterCuts$Planner", "spotOfCut", "(I)I"⟩, 10) := ⟨⟨by decide +kernel, by decide +kernel⟩, List.mem_of_getElem? (i := 159) (by decide +kernel), List.mem_of_getElem? (i := 817) (by decide +kernel), List.mem_of_getElem? (i := 818) (by decide +kernel)⟩
theorem lw_p53 : lw_okq (⟨"LetterCuts", "sizesOfCut", "(I)I"⟩, 10) := ⟨⟨by decide +kernel, by decide +kernel⟩, List.mem_of_getElem? (i := 29) (by decide +kernel), List.mem_of_getElem? (i := 822) (by decide +kernel), List.mem_of_getElem? (i := 823) (by decide +kernel)⟩
theorem lw_p54 : lw_okq (⟨"LetterCuts", "sizeOfCut", "(I)I"⟩, 10) := ⟨⟨by decide +kernel, by decide +kernel⟩, List.mem_of_getElem? (i := 29) (by decide +kernel), List.mem_of_getElem? (i := 826) (by decide +kernel), List.mem_of_getElem? (i := 827) (by decide +kernel)⟩
theorem lw_p55 : lw_okq (⟨"LetterCuts", "startsWithLetters", "(I)Z"⟩, 10) := ⟨⟨by decide +kernel, by decide +kernel⟩, List.mem_of_getElem? (i := 29) (by decide +kernel), List.mem_of_getElem? (i := 848) (by decide +kernel), List.mem_of_getElem? (i := 849) (by decide +kernel)⟩
theorem lw_p56 : lw_okq (⟨"LetterCuts$Sheet", "take", "(JI)V"⟩, 10) := ⟨⟨by decide +kernel, by decide +kernel⟩, List.mem_of_getElem? (i := 37) (by decide +kernel), List.mem_of_getElem? (i := 883) (by decide +kernel), List.mem_of_getElem? (i := 884) (by decide +kernel)⟩
theorem lw_p57 : lw_okq (⟨"LetterCuts$Sheet", "isStrip", "(II)Z"⟩, 10) := ⟨⟨by decide +kernel, by decide +kernel⟩, List.mem_of_getElem? (i := 37) (by decide +kernel), List.mem_of_getElem? (i := 896) (by decide +kernel), List.mem_of_getElem? (i := 897) (by decide +kernel)⟩
theorem lw_p58 : lw_okq (⟨"LetterCuts$Sheet", "cellsOfStrip", "(II)J"⟩, 10) := ⟨⟨by decide +kernel, by decide +kernel⟩, List.mem_of_getElem? (i := 37) (by decide +kernel), List.mem_of_getElem? (i := 900) (by decide +kernel), List.mem_of_getElem? (i := 901) (by decide +kernel)⟩
theorem lw_p59 : lw_okq (⟨"LetterCuts$Sheet", "countThere", "()I"⟩, 10) := ⟨⟨by decide +kernel, by decide +kernel⟩, List.mem_of_getElem? (i := 37) (by decide +kernel), List.mem_of_getElem? (i := 904) (by decide +kernel), List.mem_of_getElem? (i := 905) (by decide +kernel)⟩
theorem lw_p60 : lw_okq (⟨"LetterCuts", "putWord", "(I)V"⟩, 10) := ⟨⟨by decide +kernel, by decide +kernel⟩, List.mem_of_getElem? (i := 29) (by decide +kernel), List.mem_of_getElem? (i := 942) (by decide +kernel), List.mem_of_getElem? (i := 943) (by decide +kernel)⟩
theorem lw_p61 : lw_okq (⟨"LetterCuts$Sheet", "countUsable", "()I"⟩, 10) := ⟨⟨by decide +kernel, by decide +kernel⟩, List.mem_of_getElem? (i := 37) (by decide +kernel), List.mem_of_getElem? (i := 1215) (by decide +kernel), List.mem_of_getElem? (i := 1216) (by decide +kernel)⟩
theorem lw_p62 : lw_okq (⟨"LetterCuts", "letterOrGone", "(I)I"⟩, 10) := ⟨⟨by decide +kernel, by decide +kernel⟩, List.mem_of_getElem? (i := 29) (by decide +kernel), List.mem_of_getElem? (i := 1220) (by decide +kernel), List.mem_of_getElem? (i := 1221) (by decide +kernel)⟩
theorem lw_p63 : lw_okq (⟨"LetterCuts", "isUsedByMessage", "(I)Z"⟩, 10) := ⟨⟨by decide +kernel, by decide +kernel⟩, List.mem_of_getElem? (i := 29) (by decide +kernel), List.mem_of_getElem? (i := 1228) (by decide +kernel), List.mem_of_getElem? (i := 1229) (by decide +kernel)⟩
def lw_privs_4 : List (MethodName × Nat) := [(⟨"LetterCuts$Planner", "canSaveAt", "(IIJI)Z"⟩, 10), (⟨"LetterCuts$Planner", "freeStrip", "(IIIJ)J"⟩, 10), (⟨"LetterCuts$Planner", "chooseCut", "(IJI)I"⟩, 10), (⟨"LetterCuts$Planner", "lengthOfCut", "(I)I"⟩, 10), (⟨"LetterCuts$Planner", "spotOfCut", "(I)I"⟩, 10), (⟨"LetterCuts", "sizesOfCut", "(I)I"⟩, 10), (⟨"LetterCuts", "sizeOfCut", "(I)I"⟩, 10), (⟨"LetterCuts", "startsWithLetters", "(I)Z"⟩, 10), (⟨"LetterCuts$Sheet", "take", "(JI)V"⟩, 10), (⟨"LetterCuts$Sheet", "isStrip", "(II)Z"⟩, 10), (⟨"LetterCuts$Sheet", "cellsOfStrip", "(II)J"⟩, 10), (⟨"LetterCuts$Sheet", "countThere", "()I"⟩, 10), (⟨"LetterCuts", "putWord", "(I)V"⟩, 10), (⟨"LetterCuts$Sheet", "countUsable", "()I"⟩, 10), (⟨"LetterCuts", "letterOrGone", "(I)I"⟩, 10), (⟨"LetterCuts", "isUsedByMessage", "(I)Z"⟩, 10)]
theorem lw_r4 : ∀ q ∈ lw_privs_4, lw_okq q := List.forall_mem_cons.mpr ⟨lw_p48, List.forall_mem_cons.mpr ⟨lw_p49, List.forall_mem_cons.mpr ⟨lw_p50, List.forall_mem_cons.mpr ⟨lw_p51, List.forall_mem_cons.mpr ⟨lw_p52, List.forall_mem_cons.mpr ⟨lw_p53, List.forall_mem_cons.mpr ⟨lw_p54, List.forall_mem_cons.mpr ⟨lw_p55, List.forall_mem_cons.mpr ⟨lw_p56, List.forall_mem_cons.mpr ⟨lw_p57, List.forall_mem_cons.mpr ⟨lw_p58, List.forall_mem_cons.mpr ⟨lw_p59, List.forall_mem_cons.mpr ⟨lw_p60, List.forall_mem_cons.mpr ⟨lw_p61, List.forall_mem_cons.mpr ⟨lw_p62, List.forall_mem_cons.mpr ⟨lw_p63, fun _ h => absurd h List.not_mem_nil⟩⟩⟩⟩⟩⟩⟩⟩⟩⟩⟩⟩⟩⟩⟩⟩
def lw_privs : List (MethodName × Nat) := lw_privs_1 ++ (lw_privs_2 ++ (lw_privs_3 ++ (lw_privs_4)))
def lw_tbl : List Cond := k2_sels lw_privs ++ tables_1
theorem lw_privs_ok : ∀ q ∈ lw_privs, lw_okq q := by
  show ∀ q ∈ lw_privs_1 ++ (lw_privs_2 ++ (lw_privs_3 ++ (lw_privs_4))), lw_okq q
  exact List.forall_mem_append.mpr ⟨lw_r1, List.forall_mem_append.mpr ⟨lw_r2, List.forall_mem_append.mpr ⟨lw_r3, lw_r4⟩⟩⟩
/-! ===== BEGIN words of one list among another's, by their places ===== -/
theorem goodIn_r {big : List Cond} (ws : List Cond) (ps : List Nat) (hp : ws = ps.filterMap (fun i => big[i]?)) (h : ws.all goodWord = true) : GoodIn big ws := by
  intro w hw
  have h1 := List.all_eq_true.mp h w hw
  rw [hp] at hw
  obtain ⟨i, -, hi⟩ := List.mem_filterMap.mp hw
  have hm : w ∈ big := by first | exact List.mem_of_getElem? hi | exact List.getElem?_mem hi
  exact ⟨hm, good_of_word h1⟩
theorem goodIn_app {big a b : List Cond} (ha : GoodIn big a) (hb : GoodIn big b) : GoodIn big (a ++ b) := fun w h => (List.mem_append.mp h).elim (ha w) (hb w)
theorem goodIn_ca {big a b : List Cond} {c : Cond} (ha : GoodIn big (c :: a)) (hb : GoodIn big b) : GoodIn big (c :: (a ++ b)) := fun w h => (List.mem_cons.mp h).elim (fun e => ha w (List.mem_cons.mpr (Or.inl e))) (fun h => (List.mem_append.mp h).elim (fun h => ha w (List.mem_cons.mpr (Or.inr h))) (hb w))
theorem goodIn_sub {big ws : List Cond} (hm : ∀ w ∈ ws, w ∈ big) (h : ws.all goodWord = true) : GoodIn big ws := fun w hw => ⟨hm w hw, good_of_word (List.all_eq_true.mp h w hw)⟩
/-! ===== END ===== -/

def va_AOA (ty : FieldType) (U : State) : Prop := (Cond.arrayOver (.array ty)).before #[] U = true
theorem va_AOA.use {ty : FieldType} {A : Array Value} {U : State} (h : va_AOA ty U) : (Cond.arrayOver (.array ty)).before A U = true := h
/-! ===== BEGIN new T[n][m]: the outer array a place, the inner ones among the pooled ===== -/
/-- f, but v at every address of l -/
def vr_up {α : Type} (f : Nat → α) (l : List Nat) (v : α) : Nat → α := fun a => if a ∈ l then v else f a
theorem vr_up_in {α : Type} {f : Nat → α} {l : List Nat} {v : α} {a : Nat} (h : a ∈ l) : vr_up f l v a = v := if_pos h
theorem vr_up_ne {α : Type} {f : Nat → α} {l : List Nat} {v : α} {a : Nat} (h : a ∉ l) : vr_up f l v a = f a := if_neg h
theorem vr_rows {L l : List Nat} {f : Nat → va_E} {e : va_E} (h : ∀ a, a ∈ l → a ∉ L) : va_pl L f ++ l.map (fun a => (a, e)) = va_pl (L ++ l) (vr_up f l e) := by
  unfold va_pl
  rw [List.map_append]
  congr 1
  · apply List.map_congr_left
    intro a ha
    rw [vr_up_ne (fun q => h a q ha)]
  · apply List.map_congr_left
    intro a ha
    rw [vr_up_in ha]
theorem vr_lay {X rows : va_W} {x : Nat × va_E} {pl : va_W} {D : va_G} {cl : List vw_C} {H : Heap} (hP : va_P D cl (((X ++ pl) ++ [x]) ++ rows) H) : va_P D cl ((X ++ [x]) ++ (pl ++ rows)) H := by
  rw [List.append_assoc (X ++ pl)] at hP
  have h := va_P.swap hP
  rw [← List.append_assoc X] at h
  have h2 := va_P.swap h
  rw [List.append_assoc (X ++ [x])] at h2
  exact h2
theorem vr_layD {X rows : va_W} {x : Nat × va_E} {pl : va_W} {A : Nat → Prop} (hD : va_D A (((X ++ pl) ++ [x]) ++ rows)) : va_D A ((X ++ [x]) ++ (pl ++ rows)) := by
  rw [List.append_assoc (X ++ pl)] at hD
  have h := va_D.swap hD
  rw [← List.append_assoc X] at h
  have h2 := va_D.swap h
  rw [List.append_assoc (X ++ [x])] at h2
  exact h2
theorem vr_outer (c : ClassId) (N h0 : Nat) : ∀ i : Nat, Jvm.Free.Multi.outerC c N h0 i = arrV c N (fun j => va_rf (if j < i then some (h0 + 1 + j) else none))
  | 0 => by
    show ({ cls := c, slots := Array.replicate N .null, vm := .none } : Cell) = _
    rw [arrV_new]
    refine congrArg (arrV c N) (funext fun j => ?_)
    simp [va_rf]
  | i + 1 => by
    show (Jvm.Free.Multi.outerC c N h0 i).setSlot i (.ref (h0 + 1 + i)) = _
    rw [vr_outer c N h0 i, arrV_store]
    refine congrArg (arrV c N) (funext fun j => ?_)
    by_cases e : j = i
    · subst e
      simp [updV, va_rf]
    · by_cases h : j < i
      · simp [updV, e, h, Nat.lt_succ_of_lt h]
      · simp [updV, e, h, show ¬ j < i + 1 by omega]
section VGM
variable {p : Program} {l : Launch} {e : Env} {R : Room} {s : State} {m : MethodId} {args : Array Value} {below : List Frame} {meth : Method} {c : Code} {H : Heap} {locs : List Loc} {cells slots : Nat} {Q : State → Prop}
variable {cc : ByteArray} {pc : Nat} {ls : Array Slot} {rest : List Value} {D : va_G} {cl : List vw_C} {A : Nat → Prop} {a : Nat} {tys : List (ClassId × FieldType)} {ws : va_W} {H0 : Heap}
theorem va_mna {X : va_W} {L : List Nat} {f : Nat → va_E} {cc : ByteArray} (hexec : p.tables.exec = Jvm.exec) (hb : c.code = cc) {own : String} {index : Nat} {ty : FieldType} {cy : ClassId} (hown : s.vm.findClass own = some m.cls) (hclink : (Cond.classLink own index ("[" ++ (FieldType.array ty).toString)).before args s = true) (hover : va_AOA ty s) (harr : (Cond.arrayClass ty).before args s = true) (hcy : s.vm.findClass (FieldType.array ty).toString = some cy)
    (hK : va_K D cl tys s) (hP : va_P D cl (X ++ va_pl L f) H) (hD : va_D A (X ++ va_pl L f)) (hS : va_S A H0 H locs) (hA : ∀ q, H0.size ≤ q → A q) {n k : Int32} {N' K' : Nat} {z : vp_A} (hn : ¬ n < 0) (hk : ¬ k < 0) (hN : n.toNatClampNeg = N') (hM : k.toNatClampNeg = K')
    (hb1 : N' * 4 ≤ 536870912) (hb2 : K' * componentBytes ty ≤ 536870912) (hb3 : K' ≤ 536870912) (hdf : fits ty (defaultValue ty) = true) (hdd : (defaultValue ty).isDefault = true) (hcells : cells + (1 + N') ≤ R.cells) (hslots : slots + (N' + N' * K') ≤ R.slots) (hz : ∀ c : ClassId, Jvm.Free.Multi.innerC c K' (defaultValue ty) = vp_cell c z) (hdg : decode cc pc = .ok (.multianewarray index 2, 4))
    (kk : ∀ (q : Nat) (r : Nat → Nat) (cA : ClassId) (H1 : Heap), (∀ i j : Nat, i < N' → j < N' → r i = r j → i = j) → (∀ i : Nat, i < N' → r i ∉ L) → va_K D cl (tys ++ [(cA, .array ty)]) s →
      va_P D cl ((X ++ [(q, .inl (cA, N', .inr (.inr (.inr (.inr (fun i => if i < N' then some (r i) else none))))))]) ++ va_pl (L ++ (List.range N').map r) (vr_up f ((List.range N').map r) (.inl (cy, z)))) H1 → va_D A ((X ++ [(q, .inl (cA, N', .inr (.inr (.inr (.inr (fun i => if i < N' then some (r i) else none))))))]) ++ va_pl (L ++ (List.range N').map r) (vr_up f ((List.range N').map r) (.inl (cy, z)))) → va_S A H0 H1 locs →
      W p l e R s m args below meth c H1 locs (cells + 1 + N') (slots + N' + N' * K') Q (F0 m (pc + 4) ls (.ref q :: rest))) : W p l e R s m args below meth c H locs cells slots Q (F0 m pc ls (.int k :: .int n :: rest)) := by
  subst hN
  subst hM
  intro T hT Xs
  obtain ⟨vm₁, cA, comp, -, fA, fC, hO, -, X', step⟩ := Xs.multianewarray2F hexec hown hclink (va_AOA.use hover) harr (g := F0 m pc ls (.int k :: .int n :: rest)) rfl (by rw [hb]; exact hdg) rfl hn hk hb1 hb2 hb3 hdf hdd hcells hslots
  have ec : some cy = some comp := hcy.symm.trans fC
  cases ec
  generalize hF : Jvm.Free.Multi.fill (T.setVm vm₁) cA cy n.toNatClampNeg k.toNatClampNeg (defaultValue ty) n.toNatClampNeg = F at X' step
  have hTh : (T.setVm vm₁).heap = H := hT
  obtain ⟨f1, f2, -, -⟩ := Jvm.Free.Multi.fill_facts (T.setVm vm₁) cA cy n.toNatClampNeg k.toNatClampNeg (defaultValue ty) n.toNatClampNeg
  rw [hF, hTh] at f1 f2
  have hold : ∀ x : Nat, x < H.size → F.heap[x]? = H[x]? := fun x hx => by
    have := Jvm.Free.Multi.fill_old (T.setVm vm₁) cA cy n.toNatClampNeg k.toNatClampNeg (defaultValue ty) (a := x) (by rw [hTh]; exact hx) n.toNatClampNeg
    rw [hF, hTh] at this
    exact this
  have hrow : ∀ j : Nat, j < n.toNatClampNeg → F.heap[H.size + 1 + j]? = some (vp_cell cy z) := fun j hj => by
    have := Jvm.Free.Multi.fill_inner (T.setVm vm₁) cA cy n.toNatClampNeg k.toNatClampNeg (defaultValue ty) n.toNatClampNeg j hj
    rw [hF, hTh, hz] at this
    exact this
  have hout : Jvm.Free.Multi.outerC cA n.toNatClampNeg H.size n.toNatClampNeg = vp_cell cA (n.toNatClampNeg, .inr (.inr (.inr (.inr (fun i => if i < n.toNatClampNeg then some (H.size + 1 + i) else none))))) := by
    rw [vp_cell_q]
    exact vr_outer cA n.toNatClampNeg H.size n.toNatClampNeg
  rw [hout] at f2
  have hlt : ∀ a, a ∈ L → a < H.size := fun a ha => by
    obtain ⟨k9, hk9⟩ := va_pl_get (X := X) (f := f) ha
    exact (hP k9 _ hk9).lt
  have hnl : ∀ i : Nat, i < n.toNatClampNeg → H.size + 1 + i ∉ L := fun i _ h => by
    have := hlt _ h
    omega
  have hnm : ∀ a, a ∈ (List.range n.toNatClampNeg).map (fun i => H.size + 1 + i) → a ∉ L := fun a ha h => by
    obtain ⟨i, -, rfl⟩ := List.mem_map.mp ha
    have := hlt _ h
    omega
  have hP0 : va_P D cl (X ++ va_pl L f) F.heap := hP.kept (fun k9 x hx => hold x.1 ((hP k9 x hx).lt))
  have hP1 : va_P D cl ((X ++ va_pl L f) ++ [(H.size, .inl (cA, n.toNatClampNeg, .inr (.inr (.inr (.inr (fun i => if i < n.toNatClampNeg then some (H.size + 1 + i) else none))))))]) F.heap := hP0.app (fun k9 x hx => by
    have h0 : k9 < 1 := (List.getElem?_eq_some_iff.mp hx).1
    rw [show k9 = 0 by omega] at hx
    cases hx
    exact f2)
  have hP2 : va_P D cl (((X ++ va_pl L f) ++ [(H.size, .inl (cA, n.toNatClampNeg, .inr (.inr (.inr (.inr (fun i => if i < n.toNatClampNeg then some (H.size + 1 + i) else none))))))]) ++ ((List.range n.toNatClampNeg).map (fun i => H.size + 1 + i)).map (fun a => (a, .inl (cy, z)))) F.heap := hP1.app (fun k9 x hx => by
    obtain ⟨a, ha, rfl⟩ := List.mem_map.mp (List.mem_of_getElem? hx)
    obtain ⟨i, hi, rfl⟩ := List.mem_map.mp ha
    exact hrow i (List.mem_range.mp hi))
  have hD2 : va_D A (((X ++ va_pl L f) ++ [(H.size, .inl (cA, n.toNatClampNeg, .inr (.inr (.inr (.inr (fun i => if i < n.toNatClampNeg then some (H.size + 1 + i) else none))))))]) ++ ((List.range n.toNatClampNeg).map (fun i => H.size + 1 + i)).map (fun a => (a, .inl (cy, z)))) := by
    have hD1 := hD.push (e := .inl (cA, n.toNatClampNeg, .inr (.inr (.inr (.inr (fun i => if i < n.toNatClampNeg then some (H.size + 1 + i) else none)))))) hP rfl (hA _ hS.1)
    generalize hW1 : (X ++ va_pl L f) ++ [(H.size, .inl (cA, n.toNatClampNeg, .inr (.inr (.inr (.inr (fun i => if i < n.toNatClampNeg then some (H.size + 1 + i) else none))))))] = W1 at hD1 hP1 ⊢
    have hle : ∀ (k9 : Nat) (x : Nat × va_E), W1[k9]? = some x → x.1 ≤ H.size := fun k9 x hx => by
      rw [← hW1] at hx
      by_cases hl : k9 < (X ++ va_pl L f).length
      · rw [List.getElem?_append_left hl] at hx
        exact Nat.le_of_lt ((hP k9 x hx).lt)
      · rw [List.getElem?_append_right (by omega)] at hx
        have h0 : k9 - (X ++ va_pl L f).length < 1 := (List.getElem?_eq_some_iff.mp hx).1
        rw [show k9 - (X ++ va_pl L f).length = 0 by omega] at hx
        cases hx
        exact Nat.le_refl _
    have hr : ∀ (k9 : Nat) (x : Nat × va_E), (((List.range n.toNatClampNeg).map (fun i => H.size + 1 + i)).map (fun a => ((a, .inl (cy, z)) : Nat × va_E)))[k9]? = some x → x.1 = H.size + 1 + k9 := fun k9 x hx => by
      rw [List.getElem?_map, List.getElem?_map] at hx
      by_cases h9 : k9 < n.toNatClampNeg
      · rw [List.getElem?_range h9] at hx
        cases hx
        rfl
      · have hn0 : (List.range n.toNatClampNeg)[k9]? = none := List.getElem?_eq_none (by rw [List.length_range]; omega)
        rw [hn0] at hx
        cases hx
    refine ⟨fun i j x y hi hj hxy => ?_, fun k9 x hx => ?_⟩
    · by_cases h1 : i < W1.length <;> by_cases h2 : j < W1.length
      · rw [List.getElem?_append_left h1] at hi
        rw [List.getElem?_append_left h2] at hj
        exact hD1.1 i j x y hi hj hxy
      · rw [List.getElem?_append_left h1] at hi
        rw [List.getElem?_append_right (by omega)] at hj
        have := hle _ _ hi
        have := hr _ _ hj
        omega
      · rw [List.getElem?_append_right (by omega)] at hi
        rw [List.getElem?_append_left h2] at hj
        have := hle _ _ hj
        have := hr _ _ hi
        omega
      · rw [List.getElem?_append_right (by omega)] at hi hj
        have := hr _ _ hi
        have := hr _ _ hj
        omega
    · by_cases h1 : k9 < W1.length
      · rw [List.getElem?_append_left h1] at hx
        exact hD1.2 k9 x hx
      · rw [List.getElem?_append_right (by omega)] at hx
        have := hr _ _ hx
        exact hA _ (by have := hS.1; omega)
  have hAr : ArrOfT s cA (.array ty) := fun N9 z9 => by
    obtain ⟨-, k9, hk9, cm9, hkk9⟩ := (hO 0 0 0).1
    exact ⟨(fun q hq => by cases hq), k9, hk9, cm9, hkk9⟩
  have hK2 : va_K D cl (tys ++ [(cA, .array ty)]) s := ⟨hK.1, fun k9 x hx => by
    by_cases hl : k9 < tys.length
    · rw [List.getElem?_append_left hl] at hx
      exact hK.2 k9 x hx
    · rw [List.getElem?_append_right (by omega)] at hx
      have h0 : k9 - tys.length < 1 := (List.getElem?_eq_some_iff.mp hx).1
      rw [show k9 - tys.length = 0 by omega] at hx
      cases hx
      exact ⟨hAr, fA⟩⟩
  obtain ⟨t, a1, b1⟩ := kk H.size (fun i => H.size + 1 + i) cA F.heap (fun i j _ _ h => by have h9 : H.size + 1 + i = H.size + 1 + j := h; omega) hnl hK2 (by rw [← vr_rows hnm]; exact vr_lay hP2) (by rw [← vr_rows hnm]; exact vr_layD hD2) ⟨by rw [f1]; have := hS.1; omega, fun x h1 h2 => (hold x (Nat.lt_of_lt_of_le h1 hS.1)).trans (hS.2.1 x h1 h2), hS.2.2⟩ F rfl X'
  refine ⟨t, step t ?_, b1⟩
  have e : T.heap.size = H.size := by rw [hT]
  rw [e]
  exact a1
end VGM
/-! ===== END ===== -/

/-! ===== BEGIN exceptions that leave a method, and their catching by the caller (launches without stack traces) ===== -/
section VXA
/-! The laws vx_back, vx_callV, vx_callS, vx_callSW, vx_throw0, vx_throwS follow proofs of the library, with one case more: JvmDerived/Free/Laws.lean (Back.of_free), Shelf42/LK1.lean (callV, callS), Shelf/KitTraced.lean (throwNew0V, throwNewS). -/
/-- where a method has thrown q: the class by its name, the cell, what was written, the world -/
def vx_T (XC : String → State → State → Prop) (st : State) (q : Addr) (t : State) (mc ms : Nat) (free : Addr → Prop) : Prop :=
  ∃ (E : String) (ce : Cell) (L : List Loc), XC E st t ∧ t.heap[q]? = some ce ∧ ce.vm = .none ∧ st.vm.findClass E = some ce.cls ∧ st.WarmedH t.vm ∧ st.sameButNew ({ t with vm := st.vm } : State) L mc ms ∧ ∀ z ∈ L, free z.base
def vx_Q (Qc : Array Value → State → Outcome → State → Prop) (XC : String → State → State → Prop) (mc ms : Nat) (free : Addr → Prop) : Array Value → State → Outcome → State → Prop := fun a st o t =>
  (Qc a st o t ∧ ∃ L, FrameEnd st o t L mc ms ∧ ∀ q ∈ L, free q.base) ∨ ∃ q, o = .threw q ∧ vx_T XC st q t mc ms free
/-- a callee that returns or throws -/
def vx_Met (l : Launch) (y : MethodName) (ws : List Cond) (rm : Room) (Pc : Array Value → State → Prop) (Qc : Array Value → State → Outcome → State → Prop) (XC : String → State → State → Prop) (mc ms : Nat) (free : Addr → Prop) : Prop :=
  MetFree l y (headSpec ws rm) Pc (fun _ _ _ _ _ => True) (vx_Q Qc XC mc ms free)
def vx_Post (XC : String → State → State → Prop) (mc ms : Nat) (free : Addr → Prop) : Pt → Array Value → Addr → Pt → Prop := fun A a q B =>
  ∃ (g : JFrame) (mk : MethodId) (t : State) (L : List Loc) (E : String) (ce : Cell), B.U.heap = t.heap ∧ B.U.vm = t.vm ∧ XC E (A.U.calling g mk a) t ∧ t.heap[q]? = some ce ∧ ce.vm = .none ∧ A.U.vm.findClass E = some ce.cls ∧ B.locs = A.locs ++ L ∧ (∀ z ∈ L, free z.base) ∧ B.cells = A.cells + mc ∧ B.slots = A.slots + ms
def vx_Back (l : Launch) (R : Room) (p : Program) (e : Env) (below : List Frame) (s : State) (sargs : Array Value) (y : MethodName) (len W9 : Nat)
    (Pre : Pt → Array Value → Prop) (Post : Pt → Array Value → Option Value → Pt → Prop) (PostX : Pt → Array Value → Addr → Pt → Prop) : Prop :=
  ∀ (m : MethodId) (meth : Method) (c : Code) (A : Pt) (g : JFrame) (ig : Instr) (mk : MethodId) (a : Array Value),
    Stand p l e R s m sargs below meth c A.U A.locs A.cells A.slots → g.method = m → g.locals.size = c.maxLocals → decode c.code g.pc = .ok (ig, len) →
    2 * g.monitorRoom + (g.stack.map fun v => v.category).sum ≤ W9 → A.U.methodNamed? y = some mk → Pre A a →
    (∃ (v : Option Value) (B : Pt), Stand p l e R s m sargs below meth c B.U B.locs B.cells B.slots ∧ Post A a v B ∧
      Steps p.tables e below (doInvoke e (A.U.setTop g) [] mk a).1 (B.U.setTop { g with pc := g.pc + len, stack := v.toList ++ g.stack })) ∨
    (∃ (q : Addr) (B : Pt), Stand p l e R s m sargs below meth c B.U B.locs B.cells B.slots ∧ PostX A a q B ∧
      Steps p.tables e below (doInvoke e (A.U.setTop g) [] mk a).1 ((B.U.setTop g).pushFrame (.throwing q)))
section Payer
variable {l : Launch} {R : Room} {p : Program} {e : Env} {below : List Frame} {s : State} {sargs : Array Value} {y : MethodName} {len W9 : Nat}
theorem vx_back {ws : List Cond} {rm : Room} {Pc : Array Value → State → Prop} {Qc : Array Value → State → Outcome → State → Prop} {XC : String → State → State → Prop} {mc ms : Nat} {free : Addr → Prop} {bytes : ByteArray} {maxL : Nat} {ret : Option FieldType}
    (hM : vx_Met l y ws rm Pc Qc XC mc ms free) (hblind : FrameBlind Pc) (hrc : rm.cells = mc) (hrs : rm.slots = ms)
    (hframes : rm.frames + 1 ≤ R.frames) (hlocals : W9 + (maxL + 11) + rm.locals ≤ R.locals)
    (hws : ∀ w ∈ ws, ∀ a' U, s.WarmedH U.vm → w.before a' U = true) (hcode : Cond.code y bytes maxL ret ∈ ws) (hinit : ∀ a' U, s.WarmedH U.vm → (Cond.initialized y.cls).before a' U = true) :
    vx_Back l R p e below s sargs y len W9 (PreOf R mc ms Pc) (PostOf Qc mc ms free) (vx_Post XC mc ms free) := by
  intro m meth c A g ig mk a X hg hsize hdg hW hn hp
  have h1 : (headSpec ws rm).pre.before a A.U = true := atoms_intro fun w hw => hws w hw _ _ X.warmed
  have h2 : (Cond.code y bytes maxL ret).before a A.U = true := hws _ hcode _ _ X.warmed
  have h3 : (Cond.initialized y.cls).before a A.U = true := hinit _ _ X.warmed
  have h4 : A.cells + (headSpec ws rm).room.cells ≤ R.cells := by rw [show (headSpec ws rm).room.cells = mc from hrc]; exact hp.1
  have h5 : A.slots + (headSpec ws rm).room.slots ≤ R.slots := by rw [show (headSpec ws rm).room.slots = ms from hrs]; exact hp.2.1
  have hPc : Pc a (A.U.calling g mk a) := hblind _ _ _ _ hp.2.2
  obtain ⟨U, Ls, c0, s0⟩ := A
  dsimp only [Pt.U, Pt.locs, Pt.cells, Pt.slots] at h1 h2 h3 h4 h5 X hn hPc ⊢
  obtain ⟨methY, cY, hmY, hcY, -, hlY, -, -, -, -⟩ := Cond.code_spec hn h2
  obtain ⟨kY, hkY, -⟩ := className_of_methodNamed hn
  have hinitY : kY.init = .initialized := Cond.initialized_spec (findClass_of_methodNamed hn) hkY h3
  have h : At U g.method c below := by rw [hg]; exact X.here
  have hlocals9 : W9 + (maxL + 11) + (headSpec ws rm).room.locals ≤ R.locals := hlocals
  have happ : (headSpec ws rm).appliesLoose y e.platform (U.calling g mk a) = true :=
    Spec.appliesLoose_calling (g := g) h hdg hn hkY hinitY
      (X.room_calling (g := g) (R' := (headSpec ws rm).room) hsize hmY hcY hframes (by rw [hlY]; omega) h4 h5) h1
  obtain ⟨mid, hmid⟩ := h.above
  have hfr : (U.setTop g).frames = (.java g :: mid) ++ below := by rw [State.frames_setTop' g h.top, hmid]; rfl
  obtain ⟨o, s₂, hsteps, -, hend, hq⟩ := Steps.callFree hM p X.admits X.cas X.clock (acts := []) hfr happ hPc trivial
  have hq' : vx_Q Qc XC mc ms free a (U.calling g mk a) o s₂ := hq
  rw [State.frames_setTop' g h.top] at hend
  obtain ⟨g₀, hg0⟩ := Option.isSome_iff_exists.mp h.top
  obtain ⟨r, hr⟩ := State.topJava?_eq_some.mp hg0
  have hr' : (({ U with heap := s₂.heap, slotsUsed := s₂.slotsUsed } : State).setVm s₂.vm).frames = .java g₀ :: r := hr
  rcases hq' with ⟨hqc, L, hfe, hL⟩ | ⟨q, rfl, E, ce, L, hx, hce, hcv, hcl, hW₂, hsm, hL⟩
  · obtain ⟨⟨v, rfl⟩, hW₂, e2, q2, q3, q4, q5, q6⟩ := id hfe
    have e3 : s₂ = ({ (U.calling g mk a).setFrames s₂.frames with heap := s₂.heap, slotsUsed := s₂.slotsUsed } : State).setVm s₂.vm := by
      have : s₂ = ({ s₂ with vm := (U.calling g mk a).vm } : State).setVm s₂.vm := rfl
      rw [e2] at this
      exact this
    obtain ⟨c₂, i₂, len₂, hc₂, hd₂, hf₂⟩ := hend
    have hW' : U.WarmedH s₂.vm := hW₂
    have hcc : c₂ = c := by
      have h1 : s₂.code? g.method = U.code? g.method := by
        rw [State.code?_eq, State.code?_eq, hW'.alike.method?]
      exact Option.some.inj (hc₂.symm.trans (h1.trans h.code))
    subst hcc
    have hlen : len₂ = len := by rw [hdg] at hd₂; cases hd₂; rfl
    subst hlen
    have hs₂ : s₂ = (({ U with heap := s₂.heap, slotsUsed := s₂.slotsUsed } : State).setVm s₂.vm).setTop { g with pc := g.pc + len₂, stack := v.toList ++ g.stack } := by
      refine e3.trans ?_
      rw [hf₂, State.calling_eq h.top, State.setFrames_setFrames, State.setTop_of_frames _ hr', hr]
      rfl
    have hsame : U.sameButNew ({ U with heap := s₂.heap, slotsUsed := s₂.slotsUsed } : State) L mc ms := by
      refine ⟨?_, q2, q3, q4, q5, q6⟩
      obtain ⟨t, ht, -⟩ := State.frames_cons hr
      show ({ U with heap := s₂.heap, slotsUsed := s₂.slotsUsed } : State) = { U.setFrames U.frames with heap := s₂.heap, slotsUsed := s₂.slotsUsed }
      rw [State.setFrames_self ht]
    subst hg
    refine Or.inl ⟨v, ⟨(({ U with heap := s₂.heap, slotsUsed := s₂.slotsUsed } : State).setVm s₂.vm), Ls ++ L, c0 + mc, s0 + ms⟩,
      ⟨X.admits, X.cas, X.clock, X.frames, X.room, X.hears, X.method, X.code, (X.here.setHeapUsed s₂.heap s₂.slotsUsed).setVm hW'.alike, X.tail, State.WarmedH.trans X.warmed hW', X.limits, X.bytes, X.same.trans (hsame.setVm s.vm)⟩,
      ⟨g, mk, s₂, L, rfl, rfl, hqc, rfl, hL, rfl, rfl⟩, ?_⟩
    show Steps p.tables e below _ ((({ U with heap := s₂.heap, slotsUsed := s₂.slotsUsed } : State).setVm s₂.vm).setTop { g with pc := g.pc + len₂, stack := v.toList ++ g.stack })
    rw [← hs₂]
    exact hsteps
  · obtain ⟨e2, q2, q3, q4, q5, q6⟩ := id hsm
    have e3 : s₂ = ({ (U.calling g mk a).setFrames s₂.frames with heap := s₂.heap, slotsUsed := s₂.slotsUsed } : State).setVm s₂.vm := by
      have : s₂ = ({ s₂ with vm := (U.calling g mk a).vm } : State).setVm s₂.vm := rfl
      rw [e2] at this
      exact this
    have hf₂ : s₂.frames = .throwing q :: .java g :: U.frames.tail := hend
    have hW' : U.WarmedH s₂.vm := hW₂
    have hs₂ : s₂ = ((({ U with heap := s₂.heap, slotsUsed := s₂.slotsUsed } : State).setVm s₂.vm).setTop g).pushFrame (.throwing q) := by
      refine e3.trans ?_
      rw [hf₂, State.calling_eq h.top, State.setFrames_setFrames, State.pushFrame, State.frames_setTop _ hr', State.setTop_of_frames _ hr', State.setFrames_setFrames, hr]
      rfl
    have hsame : U.sameButNew ({ U with heap := s₂.heap, slotsUsed := s₂.slotsUsed } : State) L mc ms := by
      refine ⟨?_, q2, q3, q4, q5, q6⟩
      obtain ⟨t, ht, -⟩ := State.frames_cons hr
      show ({ U with heap := s₂.heap, slotsUsed := s₂.slotsUsed } : State) = { U.setFrames U.frames with heap := s₂.heap, slotsUsed := s₂.slotsUsed }
      rw [State.setFrames_self ht]
    subst hg
    refine Or.inr ⟨q, ⟨(({ U with heap := s₂.heap, slotsUsed := s₂.slotsUsed } : State).setVm s₂.vm), Ls ++ L, c0 + mc, s0 + ms⟩,
      ⟨X.admits, X.cas, X.clock, X.frames, X.room, X.hears, X.method, X.code, (X.here.setHeapUsed s₂.heap s₂.slotsUsed).setVm hW'.alike, X.tail, State.WarmedH.trans X.warmed hW', X.limits, X.bytes, X.same.trans (hsame.setVm s.vm)⟩,
      ⟨g, mk, s₂, L, E, ce, rfl, rfl, hx, hce, hcv, hcl, rfl, hL, rfl, rfl⟩, ?_⟩
    show Steps p.tables e below _ (((({ U with heap := s₂.heap, slotsUsed := s₂.slotsUsed } : State).setVm s₂.vm).setTop g).pushFrame (.throwing q))
    rw [← hs₂]
    exact hsteps
end Payer
section Calls
variable {p : Program} {l : Launch} {e : Env} {R : Room} {s : State} {m : MethodId} {args : Array Value} {below : List Frame} {meth : Method} {c : Code} {T : State} {locs : List Loc} {cells slots : Nat}
theorem vx_callV (X : Stand p l e R s m args below meth c T locs cells slots) (hexec : p.tables.exec = Jvm.exec) {own C : String} {index : Nat} {y : MethodName} {bytes : ByteArray} {maxL : Nat} {ret : Option FieldType}
    (hown : s.vm.findClass own = some m.cls) (hlink : (Cond.methodLink own index y).before args s = true) (hinst : (Cond.instanceMethod y).before args s = true) (hsel : (Cond.selects C y y).before args s = true)
    (hcode : (Cond.code y bytes maxL ret).before args s = true) (hy : y.cls ≠ "java/lang/invoke/MethodHandle" ∧ y.cls ≠ "java/lang/invoke/VarHandle")
    {W9 : Nat} {Pre : Pt → Array Value → Prop} {Post : Pt → Array Value → Option Value → Pt → Prop} {PostX : Pt → Array Value → Addr → Pt → Prop} (hK : vx_Back l R p e below s args y 3 W9 Pre Post PostX)
    {b : Addr} {cellB : Cell} (hcell : T.heap[b]? = some cellB) (hobj : cellB.vm.isStatics = false) (hcls : s.vm.findClass C = some cellB.cls)
    {g : JFrame} (hg : g.method = m) (hsize : g.locals.size = c.maxLocals) {argsL rest : List Value} (hlen : ∀ sig, parseMethodDescriptor y.desc = some sig → argsL.length = sig.parameters.length)
    (hstack : g.stack = argsL.reverse ++ .ref b :: rest) (hW : 2 * g.monitorRoom + (rest.map fun v => v.category).sum ≤ W9) (hdg : decode c.code g.pc = .ok (.invokevirtual index, 3))
    (hpre : ∀ vm₁, s.WarmedH vm₁ → Pre ⟨T.setVm vm₁, locs, cells, slots⟩ (Value.ref b :: argsL).toArray) :
    (∃ (v : Option Value) (vm₁ : Vm) (B : Pt), s.WarmedH vm₁ ∧ Stand p l e R s m args below meth c B.U B.locs B.cells B.slots ∧ Post ⟨T.setVm vm₁, locs, cells, slots⟩ (Value.ref b :: argsL).toArray v B ∧
      ∀ target, Steps p.tables e below (B.U.setTop { g with pc := g.pc + 3, stack := v.toList ++ rest }) target → Steps p.tables e below (T.setTop g) target) ∨
    (∃ (q : Addr) (vm₁ : Vm) (B : Pt), s.WarmedH vm₁ ∧ Stand p l e R s m args below meth c B.U B.locs B.cells B.slots ∧ PostX ⟨T.setVm vm₁, locs, cells, slots⟩ (Value.ref b :: argsL).toArray q B ∧
      Steps p.tables e below (T.setTop g) ((B.U.setTop { g with stack := rest }).pushFrame (.throwing q))) := by
  obtain ⟨mk, methM, hnamed, hmethM, hstM, habM⟩ := Cond.instanceMethod_spec hinst
  obtain ⟨methM', cM, hmethM', -, -, -, -, -, -, hsigM⟩ := Cond.code_spec hnamed hcode
  cases hmethM.symm.trans hmethM'
  obtain ⟨c2, r2, m2, q1, q2, q3, q4, kP, hkP, hkPi⟩ := Cond.selects_spec hsel
  cases hcls.symm.trans q1
  cases (State.methodFound?_of_named hnamed hy).symm.trans q2
  cases hnamed.symm.trans q3
  have hselP : selectMethod e.platform s.vm cellB.cls mk = .method mk := by rw [Launch.admits_selectMethod X.admits]; exact q4
  obtain ⟨vm₁, X₁, hstep₁⟩ := X.invokevirtual hexec hown hlink hnamed hmethM hstM hkP hkPi hy (a := b) (cell := cellB) hcell
    (fun z h => by rw [h] at hobj; cases hobj) hselP hmethM habM hkP hkPi (g := g) hg (argsL := argsL) (rest := rest) (hlen _ hsigM) hstack hdg
  rcases hK m meth c ⟨T.setVm vm₁, locs, cells, slots⟩ { g with stack := rest } (.invokevirtual index) mk (Value.ref b :: argsL).toArray X₁ hg hsize hdg hW (X₁.named hnamed) (hpre vm₁ X₁.warmed) with ⟨v, B, X', hpost, hsteps⟩ | ⟨q, B, X', hpost, hsteps⟩
  · exact Or.inl ⟨v, vm₁, B, X₁.warmed, X', hpost, fun target h => hstep₁ _ fun acts => by rw [doInvoke_state]; exact hsteps.trans h⟩
  · exact Or.inr ⟨q, vm₁, B, X₁.warmed, X', hpost, hstep₁ _ fun acts => by rw [doInvoke_state]; exact hsteps⟩
theorem vx_callS (X : Stand p l e R s m args below meth c T locs cells slots) (hexec : p.tables.exec = Jvm.exec) {own : String} {index : Nat} {y : MethodName} {bytes : ByteArray} {maxL : Nat} {ret : Option FieldType}
    (hown : s.vm.findClass own = some m.cls) (hlink : (Cond.methodLink own index y).before args s = true) (hstat : (Cond.static y).before args s = true) (hinit : (Cond.initialized y.cls).before args s = true)
    (hcode : (Cond.code y bytes maxL ret).before args s = true) (hy : y.cls ≠ "java/lang/invoke/MethodHandle" ∧ y.cls ≠ "java/lang/invoke/VarHandle")
    {W9 : Nat} {Pre : Pt → Array Value → Prop} {Post : Pt → Array Value → Option Value → Pt → Prop} {PostX : Pt → Array Value → Addr → Pt → Prop} (hK : vx_Back l R p e below s args y 3 W9 Pre Post PostX)
    {g : JFrame} (hg : g.method = m) (hsize : g.locals.size = c.maxLocals) {argsL rest : List Value} (hlen : ∀ sig, parseMethodDescriptor y.desc = some sig → argsL.length = sig.parameters.length)
    (hstack : g.stack = argsL.reverse ++ rest) (hW : 2 * g.monitorRoom + (rest.map fun v => v.category).sum ≤ W9) (hdg : decode c.code g.pc = .ok (.invokestatic index, 3))
    (hpre : ∀ vm₁, s.WarmedH vm₁ → Pre ⟨T.setVm vm₁, locs, cells, slots⟩ argsL.toArray) :
    (∃ (v : Option Value) (vm₁ : Vm) (B : Pt), s.WarmedH vm₁ ∧ Stand p l e R s m args below meth c B.U B.locs B.cells B.slots ∧ Post ⟨T.setVm vm₁, locs, cells, slots⟩ argsL.toArray v B ∧
      ∀ target, Steps p.tables e below (B.U.setTop { g with pc := g.pc + 3, stack := v.toList ++ rest }) target → Steps p.tables e below (T.setTop g) target) ∨
    (∃ (q : Addr) (vm₁ : Vm) (B : Pt), s.WarmedH vm₁ ∧ Stand p l e R s m args below meth c B.U B.locs B.cells B.slots ∧ PostX ⟨T.setVm vm₁, locs, cells, slots⟩ argsL.toArray q B ∧
      Steps p.tables e below (T.setTop g) ((B.U.setTop { g with stack := rest }).pushFrame (.throwing q))) := by
  obtain ⟨mk, hnamed⟩ := Cond.code_named hcode
  obtain ⟨methM, cM, hmethM, -, -, -, -, -, -, hsigM⟩ := Cond.code_spec hnamed hcode
  have hstatic : methM.isStatic = true := Cond.static_spec hnamed hmethM hstat
  obtain ⟨kP, hkP, -⟩ := className_of_methodNamed hnamed
  have hinitP : kP.init = .initialized := Cond.initialized_spec (findClass_of_methodNamed hnamed) hkP hinit
  obtain ⟨vm₁, X₁, hstep₁⟩ := X.invokestatic hexec hown hlink hnamed hmethM hstatic hkP hinitP hy (g := g) hg (argsL := argsL) (rest := rest) (hlen _ hsigM) hstack hdg
  rcases hK m meth c ⟨T.setVm vm₁, locs, cells, slots⟩ { g with stack := rest } (.invokestatic index) mk argsL.toArray X₁ hg hsize hdg hW (X₁.named hnamed) (hpre vm₁ X₁.warmed) with ⟨v, B, X', hpost, hsteps⟩ | ⟨q, B, X', hpost, hsteps⟩
  · exact Or.inl ⟨v, vm₁, B, X₁.warmed, X', hpost, fun target h => hstep₁ _ fun acts => by rw [doInvoke_state]; exact hsteps.trans h⟩
  · exact Or.inr ⟨q, vm₁, B, X₁.warmed, X', hpost, hstep₁ _ fun acts => by rw [doInvoke_state]; exact hsteps⟩
end Calls
theorem vx_cls {s : State} {T : State} {vm₁ : Vm} {E : String} {k : ClassId} (hW : s.WarmedH vm₁) (h : (T.setVm vm₁).vm.findClass E = some k) : s.vm.findClass E = some k := by
  have h1 : vm₁.findClass E = some k := h
  rw [hW.alike.findClass] at h1
  exact h1
/-- the method's frame g, with q thrown over it -/
def vx_W (p : Program) (l : Launch) (e : Env) (R : Room) (s : State) (m : MethodId) (args : Array Value) (below : List Frame) (meth : Method) (c : Code) (H : Heap) (locs : List Loc) (cells slots : Nat) (Q : State → Prop) (g : JFrame) (q : Addr) : Prop :=
  ∀ T : State, T.heap = H → Stand p l e R s m args below meth c T locs cells slots → ∃ t, Steps p.tables e below ((T.setTop g).pushFrame (.throwing q)) t ∧ Q t
def vx_Run (p : Program) (l : Launch) (e : Env) (R : Room) (s : State) (m : MethodId) (args : Array Value) (below : List Frame) (meth : Method) (c : Code) (H : Heap) (locs : List Loc) (cells slots mc ms : Nat) (g : JFrame) (rest : List Value) (Qa : State → Outcome → State → Prop) (XC : String → State → State → Prop) (free : Addr → Prop) : Prop :=
  ∀ T : State, T.heap = H → Stand p l e R s m args below meth c T locs cells slots →
    (∃ (v : Option Value) (st₀ t T' : State) (L : List Loc), st₀.heap = H ∧ Stand p l e R s m args below meth c T' (locs ++ L) (cells + mc) (slots + ms) ∧ (∀ q ∈ L, free q.base) ∧ T'.heap = t.heap ∧ T'.vm = t.vm ∧ Qa st₀ (.returned v) t ∧
      Goes p e below T g T' { g with pc := g.pc + 3, stack := v.toList ++ rest }) ∨
    (∃ (q : Addr) (st₀ t T' : State) (L : List Loc) (E : String) (ce : Cell), st₀.heap = H ∧ Stand p l e R s m args below meth c T' (locs ++ L) (cells + mc) (slots + ms) ∧ (∀ z ∈ L, free z.base) ∧ T'.heap = t.heap ∧ T'.vm = t.vm ∧ XC E st₀ t ∧ t.heap[q]? = some ce ∧ ce.vm = .none ∧ s.vm.findClass E = some ce.cls ∧
      Steps p.tables e below (T.setTop g) ((T'.setTop { g with stack := rest }).pushFrame (.throwing q)))
def vx_X {S : Type} (px : S → Prop) (B : String → S → State → Prop) (A : Nat → Prop) : String → State → State → Prop := fun E st t => ∃ u : S, px u ∧ B E u t ∧ va_F A st t
section Runs
variable {p : Program} {l : Launch} {e : Env} {R : Room} {s : State} {m : MethodId} {args : Array Value} {below : List Frame} {meth : Method} {c : Code} {H : Heap} {locs : List Loc} {cells slots : Nat}
variable {y : MethodName} {bytes cc : ByteArray} {maxL nL mc ms n index : Nat} {ret : Option FieldType} {ws : List Cond} {rm : Room} {Pc : Array Value → State → Prop} {Qc : Array Value → State → Outcome → State → Prop} {XC : String → State → State → Prop} {free : Addr → Prop} {Ts : List Cond} {own C : String} {b : Addr} {As rest : List Value} {g : JFrame}
theorem vx_callBack (cb : CallB R s args own index y bytes maxL ret ws rm mc ms n) (hM : vx_Met l y ws rm Pc Qc XC mc ms free) (hbl : FrameBlind Pc) : vx_Back l R p e below s args y 3 8 (PreOf R mc ms Pc) (PostOf Qc mc ms free) (vx_Post XC mc ms free) := by
  obtain ⟨hrc, hrs, hfr, hlo, hws, hcw, -, hini, -⟩ := cb
  exact vx_back (bytes := bytes) (maxL := maxL) (ret := ret) hM hbl hrc hrs hfr hlo hws hcw (fun a' U hW => word_at hW (Or.inl (by first | rfl | simp [Cond.onTables, Cond.keeps, Cond.steady])) hini)
theorem vx_runV (S : CallFix p m c cc nL s args Ts own) (hM : vx_Met l y ws rm Pc Qc XC mc ms free) (cw : CallW R s args own C index y bytes maxL ret ws rm mc ms n) (hp : PreV s H C b Pc As)
    (hg : g.method = m) (hn : As.length = n) (hsize : g.locals.size = nL) (hstack : g.stack = As.reverse ++ .ref b :: rest) (hW : 2 * g.monitorRoom + (rest.map fun v => v.category).sum ≤ 8) (hdg : decode cc g.pc = .ok (.invokevirtual index, 3)) (hf : cells + mc ≤ R.cells ∧ slots + ms ≤ R.slots) :
    vx_Run p l e R s m args below meth c H locs cells slots mc ms g rest (Qc (Value.ref b :: As).toArray) XC free := by
  have hK : vx_Back l R p e below s args y 3 8 (PreOf R mc ms Pc) (PostOf Qc mc ms free) (vx_Post XC mc ms free) := vx_callBack cw.1 hM hp.1
  obtain ⟨⟨-, -, -, -, -, -, hcode, -, hy, hlen, hl⟩, hin, hse⟩ := cw
  obtain ⟨hx, hb, hml, ho, -⟩ := S
  obtain ⟨-, ⟨cellB, hcB, hoB, hclB⟩, hPc⟩ := hp
  intro T hT X
  rcases vx_callV X hx (C := C) (bytes := bytes) (maxL := maxL) (ret := ret) ho hl hin hse hcode hy hK (by rw [hT]; exact hcB) hoB hclB hg (hsize.trans hml.symm) (argsL := As) (rest := rest) (fun sig h => hn.trans (hlen sig h)) hstack hW (by rw [hb]; exact hdg)
    (fun vm₁ hW₁ => ⟨hf.1, hf.2, hPc (T.setVm vm₁) hT hW₁⟩) with ⟨v, vm₁, ⟨U', l2, c2, s2⟩, hW₁, X', ⟨g', mk, t, L, e1, e2, hq, h1, hL, h2, h3⟩, st⟩ | ⟨q, vm₁, ⟨U', l2, c2, s2⟩, hW₁, X', ⟨g', mk, t, L, E, ce, e1, e2, hq, hce, hcv, hcl, h1, hL, h2, h3⟩, st⟩
  · dsimp only [Pt.U, Pt.locs, Pt.cells, Pt.slots] at X' e1 e2 h1 h2 h3 st
    subst h1; subst h2; subst h3
    exact Or.inl ⟨v, (T.setVm vm₁).calling g' mk (Value.ref b :: As).toArray, t, U', L, hT, X', hL, e1, e2, hq, st⟩
  · dsimp only [Pt.U, Pt.locs, Pt.cells, Pt.slots] at X' e1 e2 h1 h2 h3 st hcl
    subst h1; subst h2; subst h3
    exact Or.inr ⟨q, (T.setVm vm₁).calling g' mk (Value.ref b :: As).toArray, t, U', L, E, ce, hT, X', hL, e1, e2, hq, hce, hcv, vx_cls hW₁ hcl, st⟩
theorem vx_runS (S : CallFix p m c cc nL s args Ts own) (hM : vx_Met l y ws rm Pc Qc XC mc ms free) (cw : CallB R s args own index y bytes maxL ret ws rm mc ms n ∧ (Cond.static y).before args s = true) (hp : PreS s H Pc As)
    (hg : g.method = m) (hn : As.length = n) (hsize : g.locals.size = nL) (hstack : g.stack = As.reverse ++ rest) (hW : 2 * g.monitorRoom + (rest.map fun v => v.category).sum ≤ 8) (hdg : decode cc g.pc = .ok (.invokestatic index, 3)) (hf : cells + mc ≤ R.cells ∧ slots + ms ≤ R.slots) :
    vx_Run p l e R s m args below meth c H locs cells slots mc ms g rest (Qc As.toArray) XC free := by
  have hK : vx_Back l R p e below s args y 3 8 (PreOf R mc ms Pc) (PostOf Qc mc ms free) (vx_Post XC mc ms free) := vx_callBack cw.1 hM hp.1
  obtain ⟨⟨-, -, -, -, -, -, hcode, hini, hy, hlen, hl⟩, hstt⟩ := cw
  obtain ⟨hx, hb, hml, ho, -⟩ := S
  intro T hT X
  rcases vx_callS X hx (bytes := bytes) (maxL := maxL) (ret := ret) ho hl hstt hini hcode hy hK hg (hsize.trans hml.symm) (argsL := As) (rest := rest) (fun sig h => hn.trans (hlen sig h)) hstack hW (by rw [hb]; exact hdg)
    (fun vm₁ hW₁ => ⟨hf.1, hf.2, hp.2 (T.setVm vm₁) hT hW₁⟩) with ⟨v, vm₁, ⟨U', l2, c2, s2⟩, hW₁, X', ⟨g', mk, t, L, e1, e2, hq, h1, hL, h2, h3⟩, st⟩ | ⟨q, vm₁, ⟨U', l2, c2, s2⟩, hW₁, X', ⟨g', mk, t, L, E, ce, e1, e2, hq, hce, hcv, hcl, h1, hL, h2, h3⟩, st⟩
  · dsimp only [Pt.U, Pt.locs, Pt.cells, Pt.slots] at X' e1 e2 h1 h2 h3 st
    subst h1; subst h2; subst h3
    exact Or.inl ⟨v, (T.setVm vm₁).calling g' mk As.toArray, t, U', L, hT, X', hL, e1, e2, hq, st⟩
  · dsimp only [Pt.U, Pt.locs, Pt.cells, Pt.slots] at X' e1 e2 h1 h2 h3 st hcl
    subst h1; subst h2; subst h3
    exact Or.inr ⟨q, (T.setVm vm₁).calling g' mk As.toArray, t, U', L, E, ce, hT, X', hL, e1, e2, hq, hce, hcv, vx_cls hW₁ hcl, st⟩
end Runs
section Rows
variable {p : Program} {l : Launch} {e : Env} {R : Room} {s : State} {m : MethodId} {args : Array Value} {below : List Frame} {meth : Method} {c : Code} {H : Heap} {locs : List Loc} {cells slots : Nat} {Q : State → Prop}
variable {mc ms : Nat} {free : Addr → Prop} {A0 A1 : Nat → Prop} {H0 : Heap} {a : Array Value} {pc : Nat} {ls : Array Slot} {st0 rest : List Value}
theorem vx_keep {st₀ t T' : State} {L : List Loc} (h0 : st₀.heap = H) (e1 : T'.heap = t.heap) (hS : va_S A0 H0 H locs) (hA : ∀ q, q < H.size → A1 q → A0 q) (hf : ∀ q, free q → A0 q) (hL : ∀ q ∈ L, free q.base) (hF : va_F A1 st₀ t) :
    H.size ≤ T'.heap.size ∧ (∀ q : Nat, q < H.size → ¬ A1 q → T'.heap[q]? = H[q]?) ∧ va_S A0 H0 T'.heap (locs ++ L) := by
  obtain ⟨hz, hk⟩ := hF
  rw [h0] at hz hk
  exact ⟨by rw [e1]; exact hz, fun q h1 h2 => by rw [e1]; exact hk q h1 h2,
    ⟨Nat.le_trans hS.1 (by rw [e1]; exact hz), fun q h1 h2 => by rw [e1, hk q (Nat.lt_of_lt_of_le h1 hS.1) (fun z => h2 (hA q (Nat.lt_of_lt_of_le h1 hS.1) z))]; exact hS.2.1 q h1 h2, fun q hq => by
      rcases List.mem_append.mp hq with h | h
      · exact hS.2.2 q h
      · exact hf _ (hL q h)⟩⟩
theorem vx_calli {S SX : Type} {post : Int32 → S → Prop} {px : SX → Prop} {B : S → State → Prop} {BX : String → SX → State → Prop} {AX : Nat → Prop} (hr : vx_Run p l e R s m args below meth c H locs cells slots mc ms (F0 m pc ls st0) rest (va_Qi post B A1 a) (vx_X px BX AX) free) (hS : va_S A0 H0 H locs) (hA : ∀ q, q < H.size → A1 q → A0 q) (hf : ∀ q, free q → A0 q) (hAX : ∀ q, q < H.size → AX q → A0 q)
    (kx : ∀ (E : String) (ce : Cell) (q9 : Addr) (u : SX) (t : State) (H1 : Heap) (locs1 : List Loc), t.heap = H1 → s.vm.Alike t.vm → px u → BX E u t → H.size ≤ H1.size → (∀ q : Nat, q < H.size → ¬ AX q → H1[q]? = H[q]?) → va_S A0 H0 H1 locs1 → H1[q9]? = some ce → ce.vm = .none → s.vm.findClass E = some ce.cls → vx_W p l e R s m args below meth c H1 locs1 (cells + mc) (slots + ms) Q (F0 m pc ls rest) q9)
    (kk : ∀ (r : Int32) (u : S) (t : State) (H1 : Heap) (locs1 : List Loc), t.heap = H1 → s.vm.Alike t.vm → post r u → B u t → H.size ≤ H1.size → (∀ q : Nat, q < H.size → ¬ A1 q → H1[q]? = H[q]?) → va_S A0 H0 H1 locs1 → W p l e R s m args below meth c H1 locs1 (cells + mc) (slots + ms) Q (F0 m (pc + 3) ls (.int r :: rest))) : W p l e R s m args below meth c H locs cells slots Q (F0 m pc ls st0) := by
  intro T hT X
  rcases hr T hT X with ⟨v, st₀, t, T', L, h0, X', hL, e1, e2, ⟨⟨r, u, hv, hp, hb⟩, hF⟩, st⟩ | ⟨q, st₀, t, T', L, E, ce, h0, X', hL, e1, e2, ⟨u, hp, hb, hF⟩, hce, hcv, hcl, st⟩
  · cases hv
    obtain ⟨k1, k2, k3⟩ := vx_keep h0 e1 hS hA hf hL hF
    obtain ⟨t2, a1, b1⟩ := kk r u t T'.heap (locs ++ L) e1.symm (by rw [← e2]; exact X'.warmed.alike) hp hb k1 k2 k3 T' rfl X'
    exact ⟨t2, st t2 a1, b1⟩
  · obtain ⟨k1, k2, k3⟩ := vx_keep h0 e1 hS hAX hf hL hF
    obtain ⟨t2, a1, b1⟩ := kx E ce q u t T'.heap (locs ++ L) e1.symm (by rw [← e2]; exact X'.warmed.alike) hp hb k1 k2 k3 (by rw [e1]; exact hce) hcv hcl T' rfl X'
    exact ⟨t2, st.trans a1, b1⟩
theorem vx_calll {S SX : Type} {post : Int64 → S → Prop} {px : SX → Prop} {B : S → State → Prop} {BX : String → SX → State → Prop} {AX : Nat → Prop} (hr : vx_Run p l e R s m args below meth c H locs cells slots mc ms (F0 m pc ls st0) rest (va_Ql post B A1 a) (vx_X px BX AX) free) (hS : va_S A0 H0 H locs) (hA : ∀ q, q < H.size → A1 q → A0 q) (hf : ∀ q, free q → A0 q) (hAX : ∀ q, q < H.size → AX q → A0 q)
    (kx : ∀ (E : String) (ce : Cell) (q9 : Addr) (u : SX) (t : State) (H1 : Heap) (locs1 : List Loc), t.heap = H1 → s.vm.Alike t.vm → px u → BX E u t → H.size ≤ H1.size → (∀ q : Nat, q < H.size → ¬ AX q → H1[q]? = H[q]?) → va_S A0 H0 H1 locs1 → H1[q9]? = some ce → ce.vm = .none → s.vm.findClass E = some ce.cls → vx_W p l e R s m args below meth c H1 locs1 (cells + mc) (slots + ms) Q (F0 m pc ls rest) q9)
    (kk : ∀ (r : Int64) (u : S) (t : State) (H1 : Heap) (locs1 : List Loc), t.heap = H1 → s.vm.Alike t.vm → post r u → B u t → H.size ≤ H1.size → (∀ q : Nat, q < H.size → ¬ A1 q → H1[q]? = H[q]?) → va_S A0 H0 H1 locs1 → W p l e R s m args below meth c H1 locs1 (cells + mc) (slots + ms) Q (F0 m (pc + 3) ls (.long r :: rest))) : W p l e R s m args below meth c H locs cells slots Q (F0 m pc ls st0) := by
  intro T hT X
  rcases hr T hT X with ⟨v, st₀, t, T', L, h0, X', hL, e1, e2, ⟨⟨r, u, hv, hp, hb⟩, hF⟩, st⟩ | ⟨q, st₀, t, T', L, E, ce, h0, X', hL, e1, e2, ⟨u, hp, hb, hF⟩, hce, hcv, hcl, st⟩
  · cases hv
    obtain ⟨k1, k2, k3⟩ := vx_keep h0 e1 hS hA hf hL hF
    obtain ⟨t2, a1, b1⟩ := kk r u t T'.heap (locs ++ L) e1.symm (by rw [← e2]; exact X'.warmed.alike) hp hb k1 k2 k3 T' rfl X'
    exact ⟨t2, st t2 a1, b1⟩
  · obtain ⟨k1, k2, k3⟩ := vx_keep h0 e1 hS hAX hf hL hF
    obtain ⟨t2, a1, b1⟩ := kx E ce q u t T'.heap (locs ++ L) e1.symm (by rw [← e2]; exact X'.warmed.alike) hp hb k1 k2 k3 (by rw [e1]; exact hce) hcv hcl T' rfl X'
    exact ⟨t2, st.trans a1, b1⟩
theorem vx_callf {S SX : Type} {post : UInt32 → S → Prop} {px : SX → Prop} {B : S → State → Prop} {BX : String → SX → State → Prop} {AX : Nat → Prop} (hr : vx_Run p l e R s m args below meth c H locs cells slots mc ms (F0 m pc ls st0) rest (va_Qf post B A1 a) (vx_X px BX AX) free) (hS : va_S A0 H0 H locs) (hA : ∀ q, q < H.size → A1 q → A0 q) (hf : ∀ q, free q → A0 q) (hAX : ∀ q, q < H.size → AX q → A0 q)
    (kx : ∀ (E : String) (ce : Cell) (q9 : Addr) (u : SX) (t : State) (H1 : Heap) (locs1 : List Loc), t.heap = H1 → s.vm.Alike t.vm → px u → BX E u t → H.size ≤ H1.size → (∀ q : Nat, q < H.size → ¬ AX q → H1[q]? = H[q]?) → va_S A0 H0 H1 locs1 → H1[q9]? = some ce → ce.vm = .none → s.vm.findClass E = some ce.cls → vx_W p l e R s m args below meth c H1 locs1 (cells + mc) (slots + ms) Q (F0 m pc ls rest) q9)
    (kk : ∀ (r : UInt32) (u : S) (t : State) (H1 : Heap) (locs1 : List Loc), t.heap = H1 → s.vm.Alike t.vm → post r u → B u t → H.size ≤ H1.size → (∀ q : Nat, q < H.size → ¬ A1 q → H1[q]? = H[q]?) → va_S A0 H0 H1 locs1 → W p l e R s m args below meth c H1 locs1 (cells + mc) (slots + ms) Q (F0 m (pc + 3) ls (.float r :: rest))) : W p l e R s m args below meth c H locs cells slots Q (F0 m pc ls st0) := by
  intro T hT X
  rcases hr T hT X with ⟨v, st₀, t, T', L, h0, X', hL, e1, e2, ⟨⟨r, u, hv, hp, hb⟩, hF⟩, st⟩ | ⟨q, st₀, t, T', L, E, ce, h0, X', hL, e1, e2, ⟨u, hp, hb, hF⟩, hce, hcv, hcl, st⟩
  · cases hv
    obtain ⟨k1, k2, k3⟩ := vx_keep h0 e1 hS hA hf hL hF
    obtain ⟨t2, a1, b1⟩ := kk r u t T'.heap (locs ++ L) e1.symm (by rw [← e2]; exact X'.warmed.alike) hp hb k1 k2 k3 T' rfl X'
    exact ⟨t2, st t2 a1, b1⟩
  · obtain ⟨k1, k2, k3⟩ := vx_keep h0 e1 hS hAX hf hL hF
    obtain ⟨t2, a1, b1⟩ := kx E ce q u t T'.heap (locs ++ L) e1.symm (by rw [← e2]; exact X'.warmed.alike) hp hb k1 k2 k3 (by rw [e1]; exact hce) hcv hcl T' rfl X'
    exact ⟨t2, st.trans a1, b1⟩
theorem vx_calld {S SX : Type} {post : UInt64 → S → Prop} {px : SX → Prop} {B : S → State → Prop} {BX : String → SX → State → Prop} {AX : Nat → Prop} (hr : vx_Run p l e R s m args below meth c H locs cells slots mc ms (F0 m pc ls st0) rest (va_Qd post B A1 a) (vx_X px BX AX) free) (hS : va_S A0 H0 H locs) (hA : ∀ q, q < H.size → A1 q → A0 q) (hf : ∀ q, free q → A0 q) (hAX : ∀ q, q < H.size → AX q → A0 q)
    (kx : ∀ (E : String) (ce : Cell) (q9 : Addr) (u : SX) (t : State) (H1 : Heap) (locs1 : List Loc), t.heap = H1 → s.vm.Alike t.vm → px u → BX E u t → H.size ≤ H1.size → (∀ q : Nat, q < H.size → ¬ AX q → H1[q]? = H[q]?) → va_S A0 H0 H1 locs1 → H1[q9]? = some ce → ce.vm = .none → s.vm.findClass E = some ce.cls → vx_W p l e R s m args below meth c H1 locs1 (cells + mc) (slots + ms) Q (F0 m pc ls rest) q9)
    (kk : ∀ (r : UInt64) (u : S) (t : State) (H1 : Heap) (locs1 : List Loc), t.heap = H1 → s.vm.Alike t.vm → post r u → B u t → H.size ≤ H1.size → (∀ q : Nat, q < H.size → ¬ A1 q → H1[q]? = H[q]?) → va_S A0 H0 H1 locs1 → W p l e R s m args below meth c H1 locs1 (cells + mc) (slots + ms) Q (F0 m (pc + 3) ls (.double r :: rest))) : W p l e R s m args below meth c H locs cells slots Q (F0 m pc ls st0) := by
  intro T hT X
  rcases hr T hT X with ⟨v, st₀, t, T', L, h0, X', hL, e1, e2, ⟨⟨r, u, hv, hp, hb⟩, hF⟩, st⟩ | ⟨q, st₀, t, T', L, E, ce, h0, X', hL, e1, e2, ⟨u, hp, hb, hF⟩, hce, hcv, hcl, st⟩
  · cases hv
    obtain ⟨k1, k2, k3⟩ := vx_keep h0 e1 hS hA hf hL hF
    obtain ⟨t2, a1, b1⟩ := kk r u t T'.heap (locs ++ L) e1.symm (by rw [← e2]; exact X'.warmed.alike) hp hb k1 k2 k3 T' rfl X'
    exact ⟨t2, st t2 a1, b1⟩
  · obtain ⟨k1, k2, k3⟩ := vx_keep h0 e1 hS hAX hf hL hF
    obtain ⟨t2, a1, b1⟩ := kx E ce q u t T'.heap (locs ++ L) e1.symm (by rw [← e2]; exact X'.warmed.alike) hp hb k1 k2 k3 (by rw [e1]; exact hce) hcv hcl T' rfl X'
    exact ⟨t2, st.trans a1, b1⟩
theorem vx_callv {S SX : Type} {post : S → Prop} {px : SX → Prop} {B : S → State → Prop} {BX : String → SX → State → Prop} {AX : Nat → Prop} (hr : vx_Run p l e R s m args below meth c H locs cells slots mc ms (F0 m pc ls st0) rest (va_Qv post B A1 a) (vx_X px BX AX) free) (hS : va_S A0 H0 H locs) (hA : ∀ q, q < H.size → A1 q → A0 q) (hf : ∀ q, free q → A0 q) (hAX : ∀ q, q < H.size → AX q → A0 q)
    (kx : ∀ (E : String) (ce : Cell) (q9 : Addr) (u : SX) (t : State) (H1 : Heap) (locs1 : List Loc), t.heap = H1 → s.vm.Alike t.vm → px u → BX E u t → H.size ≤ H1.size → (∀ q : Nat, q < H.size → ¬ AX q → H1[q]? = H[q]?) → va_S A0 H0 H1 locs1 → H1[q9]? = some ce → ce.vm = .none → s.vm.findClass E = some ce.cls → vx_W p l e R s m args below meth c H1 locs1 (cells + mc) (slots + ms) Q (F0 m pc ls rest) q9)
    (kk : ∀ (u : S) (t : State) (H1 : Heap) (locs1 : List Loc), t.heap = H1 → s.vm.Alike t.vm → post u → B u t → H.size ≤ H1.size → (∀ q : Nat, q < H.size → ¬ A1 q → H1[q]? = H[q]?) → va_S A0 H0 H1 locs1 → W p l e R s m args below meth c H1 locs1 (cells + mc) (slots + ms) Q (F0 m (pc + 3) ls (rest))) : W p l e R s m args below meth c H locs cells slots Q (F0 m pc ls st0) := by
  intro T hT X
  rcases hr T hT X with ⟨v, st₀, t, T', L, h0, X', hL, e1, e2, ⟨⟨u, hv, hp, hb⟩, hF⟩, st⟩ | ⟨q, st₀, t, T', L, E, ce, h0, X', hL, e1, e2, ⟨u, hp, hb, hF⟩, hce, hcv, hcl, st⟩
  · cases hv
    obtain ⟨k1, k2, k3⟩ := vx_keep h0 e1 hS hA hf hL hF
    obtain ⟨t2, a1, b1⟩ := kk u t T'.heap (locs ++ L) e1.symm (by rw [← e2]; exact X'.warmed.alike) hp hb k1 k2 k3 T' rfl X'
    exact ⟨t2, st t2 a1, b1⟩
  · obtain ⟨k1, k2, k3⟩ := vx_keep h0 e1 hS hAX hf hL hF
    obtain ⟨t2, a1, b1⟩ := kx E ce q u t T'.heap (locs ++ L) e1.symm (by rw [← e2]; exact X'.warmed.alike) hp hb k1 k2 k3 (by rw [e1]; exact hce) hcv hcl T' rfl X'
    exact ⟨t2, st.trans a1, b1⟩
/-- caught by the row x of this method's table; the rows ahead don't take it -/
theorem vx_catch {own name : String} {E : String} {ce : Cell} {q : Addr} (hown : s.vm.findClass own = some m.cls) (pre : List ExceptionTableEntry) (x : ExceptionTableEntry) (suf : List ExceptionTableEntry) (hsplit : c.exceptionTable.toList = pre ++ x :: suf)
    (hpass : ∀ z ∈ pre, covers z pc = false ∨ (z.catchType ≠ 0 ∧ ∃ nm : String, (Cond.classLink own z.catchType nm).before args s = true ∧ va_Nc E nm s)) (hx : covers x pc = true) (h0 : x.catchType ≠ 0)
    (hlink : (Cond.classLink own x.catchType name).before args s = true) (hcast : (Cond.castable E name).before args s = true) (hcell : H[q]? = some ce) (hv : ce.vm = .none) (hcl : s.vm.findClass E = some ce.cls)
    (kk : W p l e R s m args below meth c H locs cells slots Q (F0 m x.handlerPc ls [.ref q])) : vx_W p l e R s m args below meth c H locs cells slots Q (F0 m pc ls rest) q := by
  intro T hT X
  have hpl : e.platform.magicAccessors = ({} : Platform).magicAccessors := by rw [X.admits.platform]
  obtain ⟨c3, c4, hc3, hc4, hasg⟩ := Cond.castable_spec hcast
  cases Option.some.inj (hc3.symm.trans hcl)
  obtain ⟨c5, hc5, hcl5⟩ := Cond.classLink_spec hown hlink e.platform hpl
  cases Option.some.inj (hc4.symm.trans hc5)
  obtain ⟨vm', X', st⟩ := X.thenCaughtThrough q (g := F0 m pc ls rest) rfl (Steps.refl _) (by rw [hT]; exact hcell) (by rw [hv]; rfl) (by obtain ⟨k9, h9, -⟩ := Vm.findClass_spec hcl; exact ⟨k9, h9⟩) pre x suf hsplit
    (fun z hz => by
      rcases hpass z hz with h | ⟨hz0, nm, hl1, hn1⟩
      · exact Or.inl h
      · obtain ⟨c6, hc6, hcl6⟩ := Cond.classLink_spec hown hl1 e.platform hpl
        obtain ⟨a8, b8, h1, h2, h3⟩ := hn1
        cases Option.some.inj (h1.symm.trans hcl)
        cases Option.some.inj (h2.symm.trans hc6)
        exact Or.inr ⟨hz0, _, hcl6, h3⟩) hx (Or.inr ⟨h0, c4, hcl5, hasg⟩)
  obtain ⟨t, a1, b1⟩ := kk (T.setVm vm') hT X'
  exact ⟨t, st.trans a1, b1⟩
end Rows
section Ends
variable {p : Program} {l : Launch} {e : Env} {R : Room} {s : State} {m : MethodId} {args : Array Value} {below : List Frame} {meth : Method} {c : Code} {H : Heap} {locs : List Loc} {cells slots : Nat} {Q : State → Prop}
variable {mc ms : Nat} {free : Addr → Prop} {A0 A1 : Nat → Prop} {H0 : Heap} {a : Array Value} {ls : Array Slot} {st0 rest : List Value}
variable {Qc : Array Value → State → Outcome → State → Prop} {XC : String → State → State → Prop}
/-- what a body that may throw owes at its end -/
def vx_MQ (below : List Frame) (Qc : Array Value → State → Outcome → State → Prop) (XC : String → State → State → Prop) (a : Array Value) (s : State) (mc ms : Nat) (free : Addr → Prop) : State → Prop := fun t =>
  ∃ o, t.status = .running ∧ Ended t below o ∧ vx_Q Qc XC mc ms free a s o t
theorem vx_ret {g : JFrame} {mc ms : Nat} (k : W p l e R s m args below meth c H locs cells slots (MQ below Qc args s mc ms free) g) : W p l e R s m args below meth c H locs cells slots (vx_MQ below Qc XC args s mc ms free) g := by
  intro T hT X
  obtain ⟨t, a1, o, b1, b2, b3, b4⟩ := k T hT X
  exact ⟨t, a1, o, b1, b2, Or.inl ⟨b3, b4⟩⟩
/-- not caught here: it goes on to the caller -/
theorem vx_widen {g : JFrame} {q : Addr} {k n : Nat} (h1 : cells ≤ k) (h2 : slots ≤ n) (kk : vx_W p l e R s m args below meth c H locs k n Q g q) : vx_W p l e R s m args below meth c H locs cells slots Q g q := fun T hT X => kk T hT (stand_widen X h1 h2)
theorem vx_out {pc : Nat} {E : String} {ce : Cell} {q : Addr} {mc ms : Nat} (hout : ∀ x ∈ c.exceptionTable.toList, covers x pc = false) (hlocks : meth.locks = false) (hcell : H[q]? = some ce) (hv : ce.vm = .none) (hcl : s.vm.findClass E = some ce.cls)
    (hx : ∀ t : State, t.heap = H → s.vm.Alike t.vm → XC E s t) (hf : ∀ z ∈ locs, free z.base) (hc : cells ≤ mc) (hs : slots ≤ ms) :
    vx_W p l e R s m args below meth c H locs cells slots (vx_MQ below Qc XC args s mc ms free) (F0 m pc ls rest) q := by
  intro T hT X
  obtain ⟨st1, hrun, hend, hW, hsm⟩ := X.leaveThrown q (g := F0 m pc ls rest) rfl rfl rfl hout hlocks
  have hcell9 : (T.setFrames (.throwing q :: below)).heap[q]? = some ce := by
    show T.heap[q]? = some ce
    rw [hT]; exact hcell
  exact ⟨_, st1, .threw q, hrun, hend, Or.inr ⟨q, rfl, E, ce, locs, hx _ hT hW.alike, hcell9, hv, hcl, hW, hsm.mono hc hs, hf⟩⟩
theorem vx_frame {U : State} {k n : Nat} (h : s.sameButNew ({ U with vm := s.vm } : State) locs k n) : s.heap.size ≤ U.heap.size ∧ ∀ q : Nat, q < s.heap.size → (∀ z ∈ locs, z.base ≠ q) → U.heap[q]? = s.heap[q]? := by
  obtain ⟨-, h2, -, -, -, h6⟩ := h
  refine ⟨h2, fun q hq hz => ?_⟩
  obtain ⟨c9, e1, e2, e3, e4⟩ := h6 q _ (Array.getElem?_eq_getElem hq)
  have hs : c9.slots = (s.heap[q]).slots := Array.ext_getElem? fun i => e4 i fun hm => hz _ hm rfl
  have h9 : c9 = s.heap[q] := by
    rw [hs] at e2
    exact e2
  have e5 : U.heap[q]? = some c9 := e1
  rw [e5, h9, Array.getElem?_eq_getElem hq]
/-- the words of a throw but the four that speak of the heap -/
def vx_no (w : Cond) : Bool := decide (w ≠ .isRef (.static Bundle.tN "UNASSIGNED_STACK" Bundle.steD)) && decide (w ≠ .isRef (.static Bundle.tN "SUPPRESSED_SENTINEL" Bundle.listD)) && decide (w ≠ .laysStatic Bundle.tN "UNASSIGNED_STACK" Bundle.steD) && decide (w ≠ .laysStatic Bundle.tN "SUPPRESSED_SENTINEL" Bundle.listD)
def vx_at0 (own : String) (ic : Nat) (X : String) (names : List String) : List Cond := (Bundle.ownAtoms0 own ic X names).filter vx_no
def vx_atS (own : String) (ic : Nat) (X : String) (names : List String) : List Cond := (Bundle.ownAtoms own ic X names).filter vx_no
/-- a word that the tables alone decide, or a good one -/
def vx_ot (w : Cond) : Bool := w.onTables || goodWord w
theorem vx_ot_at {args a' : Array Value} {s U : State} {w : Cond} (hW : s.WarmedH U.vm) (hvm : s.vm = U.vm) (hg : vx_ot w = true) (h : w.before args s = true) : w.before a' U = true := by
  simp only [vx_ot, Bool.or_eq_true] at hg
  rcases hg with hg | hg
  · exact va_tabs hg hvm h
  · exact word_at hW (good_of_word hg) h
/-- a list's words: the good ones out of the method's own list, the others by premises of their own -/
theorem vx_hat {args : Array Value} {s : State} {L B : List Cond} (h1 : ∀ w ∈ L.filter goodWord, w.before args s = true) (h2 : ∀ w ∈ L.filter (fun w => !goodWord w), w ∈ B) (h3 : ∀ w ∈ B, w.before args s = true) : ∀ w ∈ L, w.before args s = true := by
  intro w hw
  by_cases g : goodWord w = true
  · exact h1 w (List.mem_filter.mpr ⟨hw, g⟩)
  · refine h3 w (h2 w (List.mem_filter.mpr ⟨hw, ?_⟩))
    show (!goodWord w) = true
    cases hgw : goodWord w
    · rfl
    · exact absurd hgw g
theorem vx_c {args : Array Value} {s : State} {w : Cond} {B : List Cond} (h : w.before args s = true) (t : ∀ w ∈ B, w.before args s = true) : ∀ w' ∈ w :: B, w'.before args s = true := fun w' h' => (List.mem_cons.mp h').elim (fun e => by rw [e]; exact h) (t w')
theorem vx_n {args : Array Value} {s : State} : ∀ w ∈ ([] : List Cond), w.before args s = true := fun _ h => nomatch h
theorem vx_own {args : Array Value} {s : State} {L : List Cond} (h1 : ∀ w ∈ L.filter vx_no, w.before args s = true)
    (hU : (Cond.isRef (.static Bundle.tN "UNASSIGNED_STACK" Bundle.steD)).before args s = true) (hN : (Cond.isRef (.static Bundle.tN "SUPPRESSED_SENTINEL" Bundle.listD)).before args s = true)
    (lU : (Cond.laysStatic Bundle.tN "UNASSIGNED_STACK" Bundle.steD).before args s = true) (lN : (Cond.laysStatic Bundle.tN "SUPPRESSED_SENTINEL" Bundle.listD).before args s = true) : ∀ w ∈ L, w.before args s = true := by
  intro w hw
  by_cases e1 : w = .isRef (.static Bundle.tN "UNASSIGNED_STACK" Bundle.steD)
  · rw [e1]; exact hU
  · by_cases e2 : w = .isRef (.static Bundle.tN "SUPPRESSED_SENTINEL" Bundle.listD)
    · rw [e2]; exact hN
    · by_cases e3 : w = .laysStatic Bundle.tN "UNASSIGNED_STACK" Bundle.steD
      · rw [e3]; exact lU
      · by_cases e4 : w = .laysStatic Bundle.tN "SUPPRESSED_SENTINEL" Bundle.listD
        · rw [e4]; exact lN
        · exact h1 w (List.mem_filter.mpr ⟨hw, by unfold vx_no; rw [decide_eq_true e1, decide_eq_true e2, decide_eq_true e3, decide_eq_true e4]; rfl⟩)
/-- where a static field lies, its class's statics cell in H -/
def vx_L (C n d : String) (A : Nat → Prop) (U : State) (H : Heap) : Prop := ∃ (c : ClassId) (k : Class) (i : Nat) (f : Field) (a : Nat) (cell : Cell), U.vm.findClass C = some c ∧ U.fieldFound? C n d = some (c, k, i, f) ∧ f.isStatic = true ∧ k.statics = some a ∧ H[a]? = some cell ∧ cell.vm.isStatics = true ∧ cell.cls = c ∧ f.slot < cell.slots.size ∧ k.staticTypes[f.slot]? = some f.type ∧ ¬ A a
theorem vx_L.moved {C n d : String} {A : Nat → Prop} {u U : State} {H : Heap} (hvm : u.vm.Alike U.vm) (h : vx_L C n d A u H) : vx_L C n d A U H := by
  obtain ⟨c, k, i, f, a, cell, h1, h2, h3, h4, h5, h6, h7, h8, h9, h10⟩ := h
  obtain ⟨k', hi', he⟩ := State.fieldFound?_setVm hvm h2
  exact ⟨c, k', i, f, a, cell, by rw [hvm.findClass]; exact h1, hi', h3, by rw [he]; exact h4, h5, h6, h7, h8, by rw [he]; exact h9, h10⟩
theorem vx_L.kept {C n d : String} {A : Nat → Prop} {U : State} {H H1 : Heap} (h : vx_L C n d A U H) (hq : ∀ a : Nat, a < H.size → ¬ A a → H1[a]? = H[a]?) : vx_L C n d A U H1 := by
  obtain ⟨c, k, i, f, a, cell, h1, h2, h3, h4, h5, h6, h7, h8, h9, h10⟩ := h
  exact ⟨c, k, i, f, a, cell, h1, h2, h3, h4, by rw [hq a (Array.getElem?_eq_some_iff.mp h5).1 h10]; exact h5, h6, h7, h8, h9, h10⟩
theorem vx_L.narrow {C n d : String} {A B : Nat → Prop} {U : State} {H : Heap} (h : vx_L C n d A U H) (hAB : ∀ q, B q → A q) : vx_L C n d B U H := by
  obtain ⟨c, k, i, f, a, cell, h1, h2, h3, h4, h5, h6, h7, h8, h9, h10⟩ := h
  exact ⟨c, k, i, f, a, cell, h1, h2, h3, h4, h5, h6, h7, h8, h9, fun z => h10 (hAB _ z)⟩
theorem vx_L.word {C n d : String} {A : Nat → Prop} {s : State} {args : Array Value} (h : vx_L C n d A s s.heap) : (Cond.laysStatic C n d).before args s = true := by
  obtain ⟨c, k, i, f, a, cell, h1, h2, h3, h4, h5, h6, h7, h8, h9, -⟩ := h
  show (Cond.laysStatic C n d).holds args s none s [] = true
  exact Cond.laysStatic_of h1 h2 h3 h4 h5 h6 h7 h8 h9
/-- .. and what it holds: null or some reference -/
def vx_Zq (C n d : String) (A : Nat → Prop) (U : State) (H : Heap) : Prop := va_Zq C n d A U H ∧ vx_L C n d A U H
theorem vx_Zq.moved {C n d : String} {A : Nat → Prop} {u U : State} {H : Heap} (hvm : u.vm.Alike U.vm) (h : vx_Zq C n d A u H) : vx_Zq C n d A U H := ⟨va_Zq.moved hvm h.1, vx_L.moved hvm h.2⟩
theorem vx_Zq.kept {C n d : String} {A : Nat → Prop} {U : State} {H H1 : Heap} (h : vx_Zq C n d A U H) (hq : ∀ a : Nat, a < H.size → ¬ A a → H1[a]? = H[a]?) : vx_Zq C n d A U H1 := ⟨va_Zq.kept h.1 hq, vx_L.kept h.2 hq⟩
theorem vx_Zq.narrow {C n d : String} {A B : Nat → Prop} {U : State} {H : Heap} (h : vx_Zq C n d A U H) (hAB : ∀ q, B q → A q) : vx_Zq C n d B U H := ⟨va_Zq.narrow h.1 hAB, vx_L.narrow h.2 hAB⟩
theorem vx_Zqof {args : Array Value} {s : State} {C n d : String} {A : Nat → Prop} (hl : (Cond.laysStatic C n d).before args s = true) (hini : (Cond.initialized C).before args s = true) (h : (Cond.isRef (.static C n d)).before args s = true) (hA : ∀ a : Nat, a < s.heap.size → ¬ A a) : vx_Zq C n d A s s.heap := by
  refine ⟨va_Zqof hl hini h hA, ?_⟩
  obtain ⟨c, k, i, f, a, cell, h1, h2, h3, h4, h5, h6, h7, h8, h9⟩ := Cond.laysStatic_spec hl
  exact ⟨c, k, i, f, a, cell, h1, h2, h3, h4, h5, h6, h7, h8, h9, hA a (Array.getElem?_eq_some_iff.mp h5).1⟩
theorem vx_isRef {C n d : String} {v : Value} {A : Nat → Prop} {s : State} {args : Array Value} (h : va_Z C n d v A s s.heap) (hv : v.isRef = true) : (Cond.isRef (.static C n d)).before args s = true := by
  obtain ⟨cf, kf, fi, f, a, cell, h1, h2, h3, h4, h5, h6, h7, -⟩ := h
  have he : (Term.static C n d).eval args s none [] s = some v := by
    simp [Term.eval, State.fieldNamed?, h1, h2, h4, h5, h6, h7]
  simp only [Cond.before, Cond.holds, Cond.value, he]
  cases v <;> simp_all [Value.isRef]
theorem vx_isRefq {C n d : String} {A : Nat → Prop} {s : State} {args : Array Value} (h : va_Zq C n d A s s.heap) : (Cond.isRef (.static C n d)).before args s = true := by
  rcases h with h | ⟨t, h⟩
  · exact vx_isRef h rfl
  · exact vx_isRef h rfl
/-- the same frame, seen from here: as if the method were called anew in this heap -/
theorem vx_rebase {T : State} (X : Stand p l e R s m args below meth c T locs cells slots) {R' : Room} (hf : R'.frames ≤ R.frames) (hl : R'.locals ≤ R.locals) (hc : cells + R'.cells ≤ R.cells) (hs : slots + R'.slots ≤ R.slots) :
    Stand p l e R' ((T.setVm s.vm).setFrames (.invoking m args :: below)) m args below meth c T [] 0 0 := by
  have htop : (T.setVm s.vm).topJava?.isSome := X.here.top
  have hF : ((T.setVm s.vm).setFrames (.invoking m args :: below)).frames = .invoking m args :: below := State.frames_setFrames _ (State.cur_lt_of_top htop)
  obtain ⟨g₀, hg0⟩ := Option.isSome_iff_exists.mp htop
  obtain ⟨r, hr⟩ := State.topJava?_eq_some.mp hg0
  have hl9 : e.platform.stackLimits (T.setVm s.vm).me = e.platform.stackLimits s.me := X.limits
  have hb9 : (T.setVm s.vm).me.stackBytes = s.me.stackBytes := X.bytes
  refine ⟨X.admits, X.cas, X.clock, hF, ?_, X.hears, X.method, X.code, X.here, X.tail, X.warmed, ?_, ?_, ?_⟩
  · have h := X.room
    have hU : ((T.setVm s.vm).setFrames (.invoking m args :: below)).localsInUse = s.localsInUse := by
      rw [State.localsInUse_invoking hF (meth := meth) (c := c) X.method X.code, State.localsInUse_invoking X.frames X.method X.code]
    simp only [State.hasRoom, Bool.and_eq_true, decide_eq_true_eq] at h ⊢
    obtain ⟨⟨⟨⟨h1, h2, h3, h4, h5, h6⟩, h7⟩, h8⟩, h9⟩ := h
    rw [X.frames, List.length_cons] at h2 h3
    have q1 := X.heapSize
    have q2 := X.used
    simp only [hF, hU, List.length_cons, State.stackLimits_setFrames, State.stackBytes_setFrames, hl9, hb9]
    refine ⟨⟨⟨⟨by omega, by omega, by omega, by omega, by omega, h6⟩, ?_⟩, ?_⟩, X.book⟩
    · show T.heap.size + R'.cells ≤ e.platform.maxCells
      omega
    · show T.slotsUsed + R'.slots ≤ e.platform.maxSlots
      omega
  · rw [State.stackLimits_setFrames]; rfl
  · rw [State.stackBytes_setFrames]; rfl
  · refine ⟨?_, Nat.le_refl _, Nat.le_refl _, ?_, ?_, fun a c9 h9 => ⟨c9, h9, rfl, rfl, fun _ _ => rfl⟩⟩
    · obtain ⟨t, ht, -⟩ := State.frames_cons hr
      show T.setVm s.vm = { ((T.setVm s.vm).setFrames (.invoking m args :: below)).setFrames (T.setVm s.vm).frames with heap := T.heap, slotsUsed := T.slotsUsed }
      rw [State.setFrames_setFrames, State.setFrames_self ht]
      rfl
    · show T.slotsUsed = T.slotsUsed + ((T.heap.toList.drop T.heap.size).map (·.slots.size)).sum
      rw [List.drop_eq_nil_of_le (Nat.le_of_eq Array.length_toList)]
      rfl
    · show ((T.heap.toList.drop T.heap.size).map (·.slots.size)).sum ≤ 0
      rw [List.drop_eq_nil_of_le (Nat.le_of_eq Array.length_toList)]
      exact Nat.le_refl _
/-- 'throw new E()': new; dup; invokespecial; athrow -/
theorem vx_throw0 {cc : ByteArray} {pc : Nat} (hexec : p.tables.exec = Jvm.exec) (hb : c.code = cc) (hl : l.stackTraces = false) {own cls : String} {names : List String} {ik ic mc ms : Nat} {A : Nat → Prop}
    (hown : s.vm.findClass own = some m.cls) (hcls : Bundle.fit cls = true) (hnames : ∀ n ∈ names, Bundle.fit n = true)
    (hk : (Cond.classLink own ik cls).before args s = true) (hini : (Cond.initialized cls).before args s = true) (hat : ∀ w ∈ vx_at0 own ic cls names, w.before args s = true)
    (hgood : ∀ w ∈ Cond.classLink own ik cls :: Cond.initialized cls :: vx_at0 own ic cls names, vx_ot w = true)
    (hU : vx_Zq Bundle.tN "UNASSIGNED_STACK" Bundle.steD A s s.heap) (hN : vx_Zq Bundle.tN "SUPPRESSED_SENTINEL" Bundle.listD A s s.heap) (hS : va_S A s.heap H locs) (hsize : ls.size = c.maxLocals)
    (d0 : decode cc pc = .ok (.new ik, 3)) (d3 : decode cc (pc + 3) = .ok (.dup, 1)) (d4 : decode cc (pc + 4) = .ok (.invokespecial ic, 3)) (d7 : decode cc (pc + 7) = .ok (.athrow, 1))
    (hout : ∀ x ∈ c.exceptionTable.toList, covers x (pc + 7) = false)
    (hRframes : names.length + 3 < R.frames) (hRlocals : (rest.map fun v => v.category).sum + (13 * (names.length + 1) + 42) ≤ R.locals) (hRcells : cells + 1 ≤ R.cells) (hRslots : slots + 6 ≤ R.slots) (hlocks : meth.locks = false)
    (hx : ∀ t : State, s.vm.Alike t.vm → H.size ≤ t.heap.size → (∀ q : Nat, q < H.size → t.heap[q]? = H[q]?) → XC cls s t)
    (hf : ∀ z ∈ locs, free z.base) (hc : cells + 1 ≤ mc) (hs : slots + 6 ≤ ms) :
    W p l e R s m args below meth c H locs cells slots (vx_MQ below Qc XC args s mc ms free) (F0 m pc ls rest) := by
  intro T hT X
  have htr : e.platform.stackTraces = false := (show e.platform.stackTraces = l.stackTraces by rw [X.admits.platform]).trans hl
  have Y := vx_rebase X (R' := { frames := R.frames, locals := R.locals, cells := 1, slots := 6 }) (Nat.le_refl _) (Nat.le_refl _) hRcells hRslots
  obtain ⟨s', hA⟩ : ∃ z, z = (T.setVm s.vm).setFrames (.invoking m args :: below) := ⟨_, rfl⟩
  rw [← hA] at Y
  have hvm : s'.vm = s.vm := by rw [hA]; rfl
  have hhp : s'.heap = H := by rw [hA]; exact hT
  have hW0 : s.WarmedH s'.vm := by rw [hvm]; exact State.WarmedH.refl s
  have hat' : ∀ w ∈ vx_at0 own ic cls names, w.before args s' = true := fun w hw => vx_ot_at hW0 hvm.symm (hgood w (List.mem_cons_of_mem _ (List.mem_cons_of_mem _ hw))) (hat w hw)
  have hk' : (Cond.classLink own ik cls).before args s' = true := vx_ot_at hW0 hvm.symm (hgood _ List.mem_cons_self) hk
  have hini' : (Cond.initialized cls).before args s' = true := vx_ot_at hW0 hvm.symm (hgood _ (List.mem_cons_of_mem _ List.mem_cons_self)) hini
  have hU' : vx_Zq Bundle.tN "UNASSIGNED_STACK" Bundle.steD A s' s'.heap := by rw [hhp]; exact vx_Zq.moved hW0.alike (hU.kept hS.2.1)
  have hN' : vx_Zq Bundle.tN "SUPPRESSED_SENTINEL" Bundle.listD A s' s'.heap := by rw [hhp]; exact vx_Zq.moved hW0.alike (hN.kept hS.2.1)
  have h : ∀ w ∈ Bundle.ownAtoms0 own ic cls names, w.before args s' = true := vx_own hat' (vx_isRefq hU'.1) (vx_isRefq hN'.1) hU'.2.word hN'.2.word
  have hown' : s'.vm.findClass own = some m.cls := by rw [hvm]; exact hown
  have hins : (Cond.instantiable cls 6).before args s' = true := h _ (by simp [Bundle.ownAtoms0])
  obtain ⟨vm₁, cX, kX, hfX, hkX, -, -, X₁, st1⟩ := Y.newCold hexec (own := own) (C := cls) (index := ik) (n := 6) hown' hk' hins hini'
    (g := F0 m pc ls rest) rfl (by rw [hb]; exact d0) (Nat.le_refl _) (Nat.le_refl _)
  generalize hT1 : (T.setVm vm₁).pushCell { cls := cX, slots := kX.instanceTypes.map defaultValue, vm := .none } = T1 at X₁ st1
  have hcat : (Value.ref T.heap.size).category = 1 := rfl
  have hcellA : T1.heap[T.heap.size]? = some (freshCell cX kX) := by rw [← hT1]; exact State.heap_pushCell_size _ _
  have d3' : decode c.code (pc + 3) = .ok (.dup, 1) := by rw [hb]; exact d3
  obtain ⟨U, hsteps, hrun, hend, hW, hsame, ce, hce, hO⟩ := X₁.ctorThrow0 hexec htr (own := own) (cls := cls) (names := names) (ic := ic) hown' hcls hnames h (fun x hx => nomatch hx) hfX hkX hcellA (by rw [hhp, hT]; exact Nat.le_refl _)
    (g := { method := m, pc := pc + 4, locals := ls, stack := .ref T.heap.size :: .ref T.heap.size :: rest, locked := none }) rfl hsize rfl rfl (rest := rest) rfl
    (by rw [hb]; exact d4) (by rw [hb]; exact d7) hout hRframes (by simp only [List.map_cons, List.sum_cons, hcat]; omega) hlocks
  obtain ⟨f1, f2⟩ := vx_frame hsame
  rw [hhp] at f1 f2
  have hWs : s.WarmedH U.vm := State.WarmedH.trans hW0 hW
  have hcl : s.vm.findClass cls = some ce.cls := by
    have h9 := hO.cls
    rw [hvm] at h9
    exact h9
  have hall : s.sameButNew ({ U with vm := s.vm } : State) locs mc ms := by
    subst hA
    obtain ⟨e1, e2⟩ := hsame
    rw [State.setFrames_setFrames] at e1
    have h2 : (T.setVm s.vm).sameButNew ({ U with vm := s.vm } : State) [] (0 + 1) (0 + 6) := ⟨e1, e2⟩
    have h3 := X.same.trans h2
    rw [List.append_nil] at h3
    exact h3.mono hc hs
  refine ⟨U, ?_, .threw T.heap.size, hrun, hend, Or.inr ⟨T.heap.size, rfl, cls, ce, locs, hx U hWs.alike f1 (fun q hq => f2 q hq (fun z hz => nomatch hz)), hce, hO.vm, hcl, hWs, hall, hf⟩⟩
  refine st1 _ ?_
  show Steps p.tables e below (T1.setTop { method := m, pc := pc + 3, locals := ls, stack := .ref T.heap.size :: rest, locked := none }) _
  jvm_step X₁.here [X₁.here.top, hexec, d3', Value.category]
  exact hsteps
/-- 'throw new E("text")': new; dup; ldc; invokespecial; athrow -/
theorem vx_throwS {cc : ByteArray} {pc : Nat} (hexec : p.tables.exec = Jvm.exec) (hb : c.code = cc) (hl : l.stackTraces = false) {own cls text : String} {names : List String} {ik is ic mc ms sa : Nat} {A : Nat → Prop}
    (hown : s.vm.findClass own = some m.cls) (hcls : Bundle.fit cls = true) (hnames : ∀ n ∈ names, Bundle.fit n = true)
    (hk : (Cond.classLink own ik cls).before args s = true) (hini : (Cond.initialized cls).before args s = true) (hstr : vk_R own is text sa s) (hat : ∀ w ∈ vx_atS own ic cls names, w.before args s = true)
    (hgood : ∀ w ∈ Cond.classLink own ik cls :: Cond.initialized cls :: vx_atS own ic cls names, vx_ot w = true)
    (hU : vx_Zq Bundle.tN "UNASSIGNED_STACK" Bundle.steD A s s.heap) (hN : vx_Zq Bundle.tN "SUPPRESSED_SENTINEL" Bundle.listD A s s.heap) (hS : va_S A s.heap H locs) (hsize : ls.size = c.maxLocals)
    (d0 : decode cc pc = .ok (.new ik, 3)) (d3 : decode cc (pc + 3) = .ok (.dup, 1)) (d4 : decode cc (pc + 4) = .ok (.ldc is, 2)) (d6 : decode cc (pc + 6) = .ok (.invokespecial ic, 3)) (d9 : decode cc (pc + 9) = .ok (.athrow, 1))
    (hout : ∀ x ∈ c.exceptionTable.toList, covers x (pc + 9) = false)
    (hRframes : names.length + 3 < R.frames) (hRlocals : (rest.map fun v => v.category).sum + (13 * (names.length + 1) + 43) ≤ R.locals) (hRcells : cells + 1 ≤ R.cells) (hRslots : slots + 6 ≤ R.slots) (hlocks : meth.locks = false)
    (hx : ∀ t : State, s.vm.Alike t.vm → H.size ≤ t.heap.size → (∀ q : Nat, q < H.size → t.heap[q]? = H[q]?) → XC cls s t)
    (hf : ∀ z ∈ locs, free z.base) (hc : cells + 1 ≤ mc) (hs : slots + 6 ≤ ms) :
    W p l e R s m args below meth c H locs cells slots (vx_MQ below Qc XC args s mc ms free) (F0 m pc ls rest) := by
  intro T hT X
  have htr : e.platform.stackTraces = false := (show e.platform.stackTraces = l.stackTraces by rw [X.admits.platform]).trans hl
  have Y := vx_rebase X (R' := { frames := R.frames, locals := R.locals, cells := 1, slots := 6 }) (Nat.le_refl _) (Nat.le_refl _) hRcells hRslots
  obtain ⟨s', hA⟩ : ∃ z, z = (T.setVm s.vm).setFrames (.invoking m args :: below) := ⟨_, rfl⟩
  rw [← hA] at Y
  have hvm : s'.vm = s.vm := by rw [hA]; rfl
  have hhp : s'.heap = H := by rw [hA]; exact hT
  have hW0 : s.WarmedH s'.vm := by rw [hvm]; exact State.WarmedH.refl s
  have hat' : ∀ w ∈ vx_atS own ic cls names, w.before args s' = true := fun w hw => vx_ot_at hW0 hvm.symm (hgood w (List.mem_cons_of_mem _ (List.mem_cons_of_mem _ hw))) (hat w hw)
  have hk' : (Cond.classLink own ik cls).before args s' = true := vx_ot_at hW0 hvm.symm (hgood _ List.mem_cons_self) hk
  have hini' : (Cond.initialized cls).before args s' = true := vx_ot_at hW0 hvm.symm (hgood _ (List.mem_cons_of_mem _ List.mem_cons_self)) hini
  have hU' : vx_Zq Bundle.tN "UNASSIGNED_STACK" Bundle.steD A s' s'.heap := by rw [hhp]; exact vx_Zq.moved hW0.alike (hU.kept hS.2.1)
  have hN' : vx_Zq Bundle.tN "SUPPRESSED_SENTINEL" Bundle.listD A s' s'.heap := by rw [hhp]; exact vx_Zq.moved hW0.alike (hN.kept hS.2.1)
  have h : ∀ w ∈ Bundle.ownAtoms own ic cls names, w.before args s' = true := vx_own hat' (vx_isRefq hU'.1) (vx_isRefq hN'.1) hU'.2.word hN'.2.word
  have hown' : s'.vm.findClass own = some m.cls := by rw [hvm]; exact hown
  have hins : (Cond.instantiable cls 6).before args s' = true := h _ (by simp [Bundle.ownAtoms])
  obtain ⟨vm₁, cX, kX, hfX, hkX, -, -, X₁, st1⟩ := Y.newCold hexec (own := own) (C := cls) (index := ik) (n := 6) hown' hk' hins hini'
    (g := F0 m pc ls rest) rfl (by rw [hb]; exact d0) (Nat.le_refl _) (Nat.le_refl _)
  generalize hT1 : (T.setVm vm₁).pushCell { cls := cX, slots := kX.instanceTypes.map defaultValue, vm := .none } = T1 at X₁ st1
  have hcat : (Value.ref T.heap.size).category = 1 := rfl
  have hcellA : T1.heap[T.heap.size]? = some (freshCell cX kX) := by rw [← hT1]; exact State.heap_pushCell_size _ _
  have d3' : decode c.code (pc + 3) = .ok (.dup, 1) := by rw [hb]; exact d3
  have d4' : decode c.code (pc + 4) = .ok (.ldc is, 2) := by rw [hb]; exact d4
  have hstr' : vk_R own is text sa s' := vk_R.warm hW0 hstr
  obtain ⟨U, hsteps, hrun, hend, hW, hsame, ce, hce, hO⟩ := X₁.ctorThrowS hexec htr (own := own) (cls := cls) (names := names) (ic := ic) hown' hcls hnames h (fun x hx => nomatch hx) hfX hkX hcellA (by rw [hhp, hT]; exact Nat.le_refl _) (msg := .ref sa) rfl
    (g := { method := m, pc := pc + 6, locals := ls, stack := .ref sa :: .ref T.heap.size :: .ref T.heap.size :: rest, locked := none }) rfl hsize rfl rfl (rest := rest) rfl
    (by rw [hb]; exact d6) (by rw [hb]; exact d9) hout hRframes (by simp only [List.map_cons, List.sum_cons, hcat]; omega) hlocks
  obtain ⟨f1, f2⟩ := vx_frame hsame
  rw [hhp] at f1 f2
  have hWs : s.WarmedH U.vm := State.WarmedH.trans hW0 hW
  have hcl : s.vm.findClass cls = some ce.cls := by
    have h9 := hO.cls
    rw [hvm] at h9
    exact h9
  have hall : s.sameButNew ({ U with vm := s.vm } : State) locs mc ms := by
    subst hA
    obtain ⟨e1, e2⟩ := hsame
    rw [State.setFrames_setFrames] at e1
    have h2 : (T.setVm s.vm).sameButNew ({ U with vm := s.vm } : State) [] (0 + 1) (0 + 6) := ⟨e1, e2⟩
    have h3 := X.same.trans h2
    rw [List.append_nil] at h3
    exact h3.mono hc hs
  refine ⟨U, ?_, .threw T.heap.size, hrun, hend, Or.inr ⟨T.heap.size, rfl, cls, ce, locs, hx U hWs.alike f1 (fun q hq => f2 q hq (fun z hz => nomatch hz)), hce, hO.vm, hcl, hWs, hall, hf⟩⟩
  refine st1 _ ?_
  show Steps p.tables e below (T1.setTop { method := m, pc := pc + 3, locals := ls, stack := .ref T.heap.size :: rest, locked := none }) _
  jvm_step X₁.here [X₁.here.top, hexec, d3', Value.category]
  exact X₁.ldcString hexec (own := own) (text := text) (index := is) (a := sa) hown' hstr'.1 hstr'.2
    (g := { method := m, pc := pc + 4, locals := ls, stack := .ref T.heap.size :: .ref T.heap.size :: rest, locked := none }) rfl d4' _ hsteps
/-- 'throw new E("text")', the text by a wide index -/
theorem vx_throwSW {cc : ByteArray} {pc : Nat} (hexec : p.tables.exec = Jvm.exec) (hb : c.code = cc) (hl : l.stackTraces = false) {own cls text : String} {names : List String} {ik is ic mc ms sa : Nat} {A : Nat → Prop}
    (hown : s.vm.findClass own = some m.cls) (hcls : Bundle.fit cls = true) (hnames : ∀ n ∈ names, Bundle.fit n = true)
    (hk : (Cond.classLink own ik cls).before args s = true) (hini : (Cond.initialized cls).before args s = true) (hstr : vk_R own is text sa s) (hat : ∀ w ∈ vx_atS own ic cls names, w.before args s = true)
    (hgood : ∀ w ∈ Cond.classLink own ik cls :: Cond.initialized cls :: vx_atS own ic cls names, vx_ot w = true)
    (hU : vx_Zq Bundle.tN "UNASSIGNED_STACK" Bundle.steD A s s.heap) (hN : vx_Zq Bundle.tN "SUPPRESSED_SENTINEL" Bundle.listD A s s.heap) (hS : va_S A s.heap H locs) (hsize : ls.size = c.maxLocals)
    (d0 : decode cc pc = .ok (.new ik, 3)) (d3 : decode cc (pc + 3) = .ok (.dup, 1)) (d4 : decode cc (pc + 4) = .ok (.ldc_w is, 3)) (d7 : decode cc (pc + 7) = .ok (.invokespecial ic, 3)) (d10 : decode cc (pc + 10) = .ok (.athrow, 1))
    (hout : ∀ x ∈ c.exceptionTable.toList, covers x (pc + 10) = false)
    (hRframes : names.length + 3 < R.frames) (hRlocals : (rest.map fun v => v.category).sum + (13 * (names.length + 1) + 43) ≤ R.locals) (hRcells : cells + 1 ≤ R.cells) (hRslots : slots + 6 ≤ R.slots) (hlocks : meth.locks = false)
    (hx : ∀ t : State, s.vm.Alike t.vm → H.size ≤ t.heap.size → (∀ q : Nat, q < H.size → t.heap[q]? = H[q]?) → XC cls s t)
    (hf : ∀ z ∈ locs, free z.base) (hc : cells + 1 ≤ mc) (hs : slots + 6 ≤ ms) :
    W p l e R s m args below meth c H locs cells slots (vx_MQ below Qc XC args s mc ms free) (F0 m pc ls rest) := by
  intro T hT X
  have htr : e.platform.stackTraces = false := (show e.platform.stackTraces = l.stackTraces by rw [X.admits.platform]).trans hl
  have Y := vx_rebase X (R' := { frames := R.frames, locals := R.locals, cells := 1, slots := 6 }) (Nat.le_refl _) (Nat.le_refl _) hRcells hRslots
  obtain ⟨s', hA⟩ : ∃ z, z = (T.setVm s.vm).setFrames (.invoking m args :: below) := ⟨_, rfl⟩
  rw [← hA] at Y
  have hvm : s'.vm = s.vm := by rw [hA]; rfl
  have hhp : s'.heap = H := by rw [hA]; exact hT
  have hW0 : s.WarmedH s'.vm := by rw [hvm]; exact State.WarmedH.refl s
  have hat' : ∀ w ∈ vx_atS own ic cls names, w.before args s' = true := fun w hw => vx_ot_at hW0 hvm.symm (hgood w (List.mem_cons_of_mem _ (List.mem_cons_of_mem _ hw))) (hat w hw)
  have hk' : (Cond.classLink own ik cls).before args s' = true := vx_ot_at hW0 hvm.symm (hgood _ List.mem_cons_self) hk
  have hini' : (Cond.initialized cls).before args s' = true := vx_ot_at hW0 hvm.symm (hgood _ (List.mem_cons_of_mem _ List.mem_cons_self)) hini
  have hU' : vx_Zq Bundle.tN "UNASSIGNED_STACK" Bundle.steD A s' s'.heap := by rw [hhp]; exact vx_Zq.moved hW0.alike (hU.kept hS.2.1)
  have hN' : vx_Zq Bundle.tN "SUPPRESSED_SENTINEL" Bundle.listD A s' s'.heap := by rw [hhp]; exact vx_Zq.moved hW0.alike (hN.kept hS.2.1)
  have h : ∀ w ∈ Bundle.ownAtoms own ic cls names, w.before args s' = true := vx_own hat' (vx_isRefq hU'.1) (vx_isRefq hN'.1) hU'.2.word hN'.2.word
  have hown' : s'.vm.findClass own = some m.cls := by rw [hvm]; exact hown
  have hins : (Cond.instantiable cls 6).before args s' = true := h _ (by simp [Bundle.ownAtoms])
  obtain ⟨vm₁, cX, kX, hfX, hkX, -, -, X₁, st1⟩ := Y.newCold hexec (own := own) (C := cls) (index := ik) (n := 6) hown' hk' hins hini'
    (g := F0 m pc ls rest) rfl (by rw [hb]; exact d0) (Nat.le_refl _) (Nat.le_refl _)
  generalize hT1 : (T.setVm vm₁).pushCell { cls := cX, slots := kX.instanceTypes.map defaultValue, vm := .none } = T1 at X₁ st1
  have hcat : (Value.ref T.heap.size).category = 1 := rfl
  have hcellA : T1.heap[T.heap.size]? = some (freshCell cX kX) := by rw [← hT1]; exact State.heap_pushCell_size _ _
  have d3' : decode c.code (pc + 3) = .ok (.dup, 1) := by rw [hb]; exact d3
  have d4' : decode c.code (pc + 4) = .ok (.ldc_w is, 3) := by rw [hb]; exact d4
  have hstr' : vk_R own is text sa s' := vk_R.warm hW0 hstr
  obtain ⟨U, hsteps, hrun, hend, hW, hsame, ce, hce, hO⟩ := X₁.ctorThrowS hexec htr (own := own) (cls := cls) (names := names) (ic := ic) hown' hcls hnames h (fun x hx => nomatch hx) hfX hkX hcellA (by rw [hhp, hT]; exact Nat.le_refl _) (msg := .ref sa) rfl
    (g := { method := m, pc := pc + 7, locals := ls, stack := .ref sa :: .ref T.heap.size :: .ref T.heap.size :: rest, locked := none }) rfl hsize rfl rfl (rest := rest) rfl
    (by rw [hb]; exact d7) (by rw [hb]; exact d10) hout hRframes (by simp only [List.map_cons, List.sum_cons, hcat]; omega) hlocks
  obtain ⟨f1, f2⟩ := vx_frame hsame
  rw [hhp] at f1 f2
  have hWs : s.WarmedH U.vm := State.WarmedH.trans hW0 hW
  have hcl : s.vm.findClass cls = some ce.cls := by
    have h9 := hO.cls
    rw [hvm] at h9
    exact h9
  have hall : s.sameButNew ({ U with vm := s.vm } : State) locs mc ms := by
    subst hA
    obtain ⟨e1, e2⟩ := hsame
    rw [State.setFrames_setFrames] at e1
    have h2 : (T.setVm s.vm).sameButNew ({ U with vm := s.vm } : State) [] (0 + 1) (0 + 6) := ⟨e1, e2⟩
    have h3 := X.same.trans h2
    rw [List.append_nil] at h3
    exact h3.mono hc hs
  refine ⟨U, ?_, .threw T.heap.size, hrun, hend, Or.inr ⟨T.heap.size, rfl, cls, ce, locs, hx U hWs.alike f1 (fun q hq => f2 q hq (fun z hz => nomatch hz)), hce, hO.vm, hcl, hWs, hall, hf⟩⟩
  refine st1 _ ?_
  show Steps p.tables e below (T1.setTop { method := m, pc := pc + 3, locals := ls, stack := .ref T.heap.size :: rest, locked := none }) _
  jvm_step X₁.here [X₁.here.top, hexec, d3', Value.category]
  exact X₁.ldcStringW hexec (own := own) (text := text) (index := is) (a := sa) hown' hstr'.1 hstr'.2
    (g := { method := m, pc := pc + 4, locals := ls, stack := .ref T.heap.size :: .ref T.heap.size :: rest, locked := none }) rfl d4' _ hsteps
end Ends
section Bodies
variable {l : Launch}
theorem vx_ofW {y : MethodName} {ws ws' : List Cond} {rm : Room} {Pc : Array Value → State → Prop} {Qc : Array Value → State → Outcome → State → Prop} {XC : String → State → State → Prop} {mc ms : Nat} {free : Addr → Prop} {cc : ByteArray} {maxL : Nat} {ret : Option FieldType}
    (hy : plainName y.cls = true) (hw : ws = Cond.code y cc maxL ret :: ws')
    (body : ∀ p e s m args below meth c s₁, BodyLoose p l y (headSpec ws rm) cc maxL ret e s m args below meth c s₁ → c.maxLocals = maxL → (∀ x ∈ c.exceptionTable.toList, False) → Pc args s →
      W p l e (headSpec ws rm).room s m args below meth c s.heap [] 0 0 (vx_MQ below Qc XC args s mc ms free) (entryFrame m args maxL)) : vx_Met l y ws rm Pc Qc XC mc ms free := by
  refine MetFree.of_bodyS (code := cc) (maxLocals := maxL) (ret := ret) hy ?_ ?_
  · intro args s m h hn
    obtain ⟨meth, c, h1, h2, h3, h4, h5, h6, -, -⟩ := Cond.code_spec hn (atoms_spec (ws := ws) h _ (by rw [hw]; exact List.mem_cons_self))
    exact ⟨meth, c, h1, h2, h3, h4, h5, h6⟩
  · intro p e s m args below meth c s₁ B hml hP _
    have hh0 : s₁.heap = s.heap := by rw [B.state]; rfl
    have ht : ∀ x ∈ c.exceptionTable.toList, False := by
      obtain ⟨meth9, c9, h1, h2, -, -, -, -, h7, -⟩ := Cond.code_spec B.named (atoms_spec (ws := ws) B.pre _ (by rw [hw]; exact List.mem_cons_self))
      cases Option.some.inj (h1.symm.trans B.method)
      cases Option.some.inj (h2.symm.trans (Stand.of_body B).code)
      intro x hx
      rw [Array.isEmpty_iff.mp h7] at hx
      cases hx
    obtain ⟨t, a1, o, b1, b2, b3⟩ := body p e s m args below meth c s₁ B hml ht hP s₁ hh0 (Stand.of_body B)
    exact ⟨t, o, a1, b1, b2, b3⟩
/-- the table of a body with handlers -/
theorem vx_table {p : Program} {x y : MethodName} {S : Spec} {cc bytes : ByteArray} {maxL maxL' : Nat} {ret ret' : Option FieldType} {e : Env} {s s₁ : State} {m : MethodId} {args : Array Value} {below : List Frame} {meth : Method} {c : Code} {hh : List (Nat × Nat × Nat × Nat)}
    (B : BodyLoose p l y S cc maxL ret e s m args below meth c s₁) (h : (Cond.codeWith y bytes maxL' ret' hh).before args s = true) : c.exceptionTable.toList = tableOf hh := by
  obtain ⟨m9, meth9, c9, hn9, h1, h2, -, -, h6, -⟩ := Cond.codeWith_spec h
  cases Option.some.inj (hn9.symm.trans B.named)
  cases Option.some.inj (h1.symm.trans B.method)
  cases Option.some.inj (h2.symm.trans (Stand.of_body B).code)
  rw [← h6, table_eq]
end Bodies
end VXA
/-! ===== END ===== -/
/-! ===== BEGIN a static call of a method with an exception table ===== -/
section VXS
variable {p : Program} {l : Launch} {e : Env} {R : Room} {s : State} {m : MethodId} {args : Array Value} {below : List Frame} {meth : Method} {c : Code} {T : State} {H : Heap} {locs : List Loc} {cells slots : Nat}
abbrev vx_CSW (R : Room) (s : State) (args : Array Value) (own : String) (index : Nat) (y : MethodName) (bytes : ByteArray) (maxL : Nat) (ret : Option FieldType) (hh : List (Nat × Nat × Nat × Nat)) (ws : List Cond) (rm : Room) (mc ms n : Nat) : Prop :=
  (rm.cells = mc ∧ rm.slots = ms ∧ rm.frames + 1 ≤ R.frames ∧ 8 + (maxL + 11) + rm.locals ≤ R.locals ∧ (∀ w ∈ ws, ∀ (a' : Array Value) (U : State), s.WarmedH U.vm → w.before a' U = true) ∧ Cond.codeWith y bytes maxL ret hh ∈ ws) ∧
  (Cond.codeWith y bytes maxL ret hh).before args s = true ∧ (Cond.initialized y.cls).before args s = true ∧ (y.cls ≠ "java/lang/invoke/MethodHandle" ∧ y.cls ≠ "java/lang/invoke/VarHandle") ∧
  (∀ sig, parseMethodDescriptor y.desc = some sig → n = sig.parameters.length) ∧ (Cond.methodLink own index y).before args s = true ∧ (Cond.static y).before args s = true
theorem vx_cwSW {own : String} {index maxL mc ms : Nat} {y : MethodName} {bytes : ByteArray} {ret : Option FieldType} {hh : List (Nat × Nat × Nat × Nat)} {Ts ws ws' : List Cond} {rm : Room} (n : Nat) (ht : ∀ w ∈ Ts, w.before args s = true) (hT : GoodIn Ts (va_wsS own index y ws)) (hw : ws = Cond.codeWith y bytes maxL ret hh :: ws') (hrc : rm.cells = mc) (hrs : rm.slots = ms)
    (hd : y.cls ≠ "java/lang/invoke/MethodHandle" ∧ y.cls ≠ "java/lang/invoke/VarHandle" ∧ (parseMethodDescriptor y.desc).map (fun d => d.parameters.length) = some n) (hR : rm.frames + 1 ≤ R.frames ∧ 8 + (maxL + 11) + rm.locals ≤ R.locals) :
    vx_CSW R s args own index y bytes maxL ret hh ws rm mc ms n := by
  have ok : ∀ w ∈ va_wsS own index y ws, w.before args s = true := fun w h => ht w (hT w h).1
  have hG : GoodIn Ts ws := fun w h => hT w (by unfold va_wsS; exact List.mem_append_right _ h)
  have hc : Cond.codeWith y bytes maxL ret hh ∈ ws := by rw [hw]; exact List.mem_cons_self
  refine ⟨⟨hrc, hrs, hR.1, hR.2, pay_in ht hG, hc⟩, ht _ (hG _ hc).1, ok _ (by simp [va_wsS]), ⟨hd.1, hd.2.1⟩, fun sig h => ?_, ok _ (by simp [va_wsS]), ok _ (by simp [va_wsS])⟩
  have h2 := hd.2.2
  rw [h] at h2
  exact (Option.some.inj h2).symm
theorem vx_callSW (X : Stand p l e R s m args below meth c T locs cells slots) (hexec : p.tables.exec = Jvm.exec) {own : String} {index : Nat} {y : MethodName} {bytes : ByteArray} {maxL : Nat} {ret : Option FieldType} {hh : List (Nat × Nat × Nat × Nat)}
    (hown : s.vm.findClass own = some m.cls) (hlink : (Cond.methodLink own index y).before args s = true) (hstat : (Cond.static y).before args s = true) (hinit : (Cond.initialized y.cls).before args s = true)
    (hcode : (Cond.codeWith y bytes maxL ret hh).before args s = true) (hy : y.cls ≠ "java/lang/invoke/MethodHandle" ∧ y.cls ≠ "java/lang/invoke/VarHandle")
    {W9 : Nat} {Pre : Pt → Array Value → Prop} {Post : Pt → Array Value → Option Value → Pt → Prop} (hK : Back l R p e below s args y 3 W9 Pre Post)
    {g : JFrame} (hg : g.method = m) (hsize : g.locals.size = c.maxLocals) {argsL rest : List Value} (hlen : ∀ sig, parseMethodDescriptor y.desc = some sig → argsL.length = sig.parameters.length)
    (hstack : g.stack = argsL.reverse ++ rest) (hW : 2 * g.monitorRoom + (rest.map fun v => v.category).sum ≤ W9) (hdg : decode c.code g.pc = .ok (.invokestatic index, 3))
    (hpre : ∀ vm₁, s.WarmedH vm₁ → Pre ⟨T.setVm vm₁, locs, cells, slots⟩ argsL.toArray) :
    ∃ (v : Option Value) (vm₁ : Vm) (B : Pt), s.WarmedH vm₁ ∧ Stand p l e R s m args below meth c B.U B.locs B.cells B.slots ∧ Post ⟨T.setVm vm₁, locs, cells, slots⟩ argsL.toArray v B ∧
      ∀ target, Steps p.tables e below (B.U.setTop { g with pc := g.pc + 3, stack := v.toList ++ rest }) target → Steps p.tables e below (T.setTop g) target := by
  obtain ⟨mk, methM, cM, hnamed, hmethM, -, -, -, -, -, -, hsigM⟩ := Cond.codeWith_spec hcode
  have hstatic : methM.isStatic = true := Cond.static_spec hnamed hmethM hstat
  obtain ⟨kP, hkP, -⟩ := className_of_methodNamed hnamed
  have hinitP : kP.init = .initialized := Cond.initialized_spec (findClass_of_methodNamed hnamed) hkP hinit
  obtain ⟨vm₁, X₁, hstep₁⟩ := X.invokestatic hexec hown hlink hnamed hmethM hstatic hkP hinitP hy (g := g) hg (argsL := argsL) (rest := rest) (hlen _ hsigM) hstack hdg
  obtain ⟨v, B, X', hpost, hsteps⟩ := hK m meth c ⟨T.setVm vm₁, locs, cells, slots⟩ { g with stack := rest } (.invokestatic index) mk argsL.toArray X₁ hg hsize hdg hW (X₁.named hnamed) (hpre vm₁ X₁.warmed)
  exact ⟨v, vm₁, B, X₁.warmed, X', hpost, fun target h => hstep₁ _ fun acts => by rw [doInvoke_state]; exact hsteps.trans h⟩
theorem vx_runSW {y : MethodName} {bytes cc : ByteArray} {maxL nL mc ms n index : Nat} {ret : Option FieldType} {hh : List (Nat × Nat × Nat × Nat)} {ws : List Cond} {rm : Room} {Pc : Array Value → State → Prop} {Qc : Array Value → State → Outcome → State → Prop} {free : Addr → Prop} {Ts : List Cond} {own : String} {As rest : List Value} {g : JFrame}
    (S : CallFix p m c cc nL s args Ts own) (hM : Met l y ws rm Pc Qc mc ms free) (cw : vx_CSW R s args own index y bytes maxL ret hh ws rm mc ms n) (hp : PreS s H Pc As)
    (hg : g.method = m) (hn : As.length = n) (hsize : g.locals.size = nL) (hstack : g.stack = As.reverse ++ rest) (hW : 2 * g.monitorRoom + (rest.map fun v => v.category).sum ≤ 8) (hdg : decode cc g.pc = .ok (.invokestatic index, 3)) (hf : cells + mc ≤ R.cells ∧ slots + ms ≤ R.slots) :
    va_Run p l e R s m args below meth c H locs cells slots mc ms g rest (Qc As.toArray) (free) := by
  obtain ⟨⟨hrc, hrs, hfr, hlo, hws, hcw⟩, hcode, hini, hy, hlen, hl, hstt⟩ := cw
  have hK : Back l R p e below s args y 3 8 (PreOf R mc ms Pc) (PostOf Qc mc ms free) := va_backW (hh := hh) (bytes := bytes) (maxL := maxL) (ret := ret) hM hp.1 hrc hrs hfr hlo hws hcw (fun a' U hW => word_at hW (Or.inl (by first | rfl | simp [Cond.onTables, Cond.keeps, Cond.steady])) hini)
  obtain ⟨hx, hb, hml, ho, -⟩ := S
  intro T hT X
  obtain ⟨v, vm₁, ⟨U', l2, c2, s2⟩, hW₁, X', ⟨g', mk, t, L, e1, e2, hq, h1, hL, h2, h3⟩, st⟩ := vx_callSW X hx (hh := hh) (bytes := bytes) (maxL := maxL) (ret := ret) ho hl hstt hini hcode hy hK hg (hsize.trans hml.symm) (argsL := As) (rest := rest) (fun sig h => hn.trans (hlen sig h)) hstack hW (by rw [hb]; exact hdg)
    (fun vm₁ hW₁ => ⟨hf.1, hf.2, hp.2 (T.setVm vm₁) hT hW₁⟩)
  dsimp only [Pt.U, Pt.locs, Pt.cells, Pt.slots] at X' e1 e2 h1 h2 h3 st
  subst h1; subst h2; subst h3
  exact ⟨v, (T.setVm vm₁).calling g' mk As.toArray, t, U', L, hT, X', hL, e1, e2, hq, st⟩
/-- not caught here, past rows that name other classes: it goes on to the caller -/
theorem vx_outP {p : Program} {l : Launch} {e : Env} {R : Room} {s : State} {m : MethodId} {args : Array Value} {below : List Frame} {meth : Method} {c : Code} {H : Heap} {locs : List Loc} {cells slots : Nat} {free : Addr → Prop} {ls : Array Slot} {rest : List Value} {Qc : Array Value → State → Outcome → State → Prop} {XC : String → State → State → Prop}
    {pc : Nat} {own E : String} {ce : Cell} {q : Addr} {mc ms : Nat} (hown : s.vm.findClass own = some m.cls) (hlocks : meth.locks = false)
    (hpass : ∀ z ∈ c.exceptionTable.toList, covers z pc = false ∨ (z.catchType ≠ 0 ∧ ∃ nm : String, (Cond.classLink own z.catchType nm).before args s = true ∧ va_Nc E nm s)) (hcell : H[q]? = some ce) (hv : ce.vm = .none) (hcl : s.vm.findClass E = some ce.cls)
    (hx : ∀ t : State, t.heap = H → s.vm.Alike t.vm → XC E s t) (hf : ∀ z ∈ locs, free z.base) (hc : cells ≤ mc) (hs : slots ≤ ms) :
    vx_W p l e R s m args below meth c H locs cells slots (vx_MQ below Qc XC args s mc ms free) (F0 m pc ls rest) q := by
  intro T hT X
  have hpl : e.platform.magicAccessors = ({} : Platform).magicAccessors := by rw [X.admits.platform]
  obtain ⟨vm', hW', X', st⟩ := X.outThrough hlocks q (g := F0 m pc ls rest) rfl rfl rfl (cell := ce) (by rw [hT]; exact hcell) (by rw [hv]; rfl)
    (by obtain ⟨k9, h9, -⟩ := Vm.findClass_spec hcl; exact ⟨k9, h9⟩) (fun z hz => by
      rcases hpass z hz with h | ⟨hz0, nm, hl1, hn1⟩
      · exact Or.inl h
      · obtain ⟨c6, hc6, hcl6⟩ := Cond.classLink_spec hown hl1 e.platform hpl
        obtain ⟨a8, b8, h1, h2, h3⟩ := hn1
        cases Option.some.inj (h1.symm.trans hcl)
        cases Option.some.inj (h2.symm.trans hc6)
        exact Or.inr ⟨hz0, _, hcl6, h3⟩)
  obtain ⟨g₀, hfr⟩ := X'.frames_eq
  have hcell9 : ((T.setVm vm').setFrames (.throwing q :: below)).heap[q]? = some ce := by
    show T.heap[q]? = some ce
    rw [hT]; exact hcell
  have hend : Ended ((T.setVm vm').setFrames (.throwing q :: below)) below (.threw q) := State.frames_setFrames _ (State.cur_lt_of_frames hfr)
  refine ⟨(T.setVm vm').setFrames (.throwing q :: below), ?_, .threw q, X'.here.running, hend, Or.inr ⟨q, rfl, E, ce, locs, hx _ hT (X'.ends _).1.alike, hcell9, hv, hcl, (X'.ends _).1, (X'.ends _).2.mono hc hs, hf⟩⟩
  rw [X.pushThrowing_eq]
  exact st
/-- a thing of a world lies in the heap -/
theorem vx_lt {D : va_G} {cl : List vw_C} {ws : va_W} {H1 : Heap} (h : va_P D cl ws H1) {k : Nat} {q : Nat × va_E} (hk : ws[k]? = some q) : q.1 < H1.size := (h k q hk).lt
end VXS
/-! ===== END ===== -/
/-! ===== BEGIN methods with a table of their own: called by a name, returning or throwing ===== -/
section VXH
/-! vx_backW, vx_callVX, vx_callSX, vx_callVW, vx_runVW, vx_runVX, vx_runSX, vx_ofWH follow the same proofs as their sisters above (Free/Laws.lean, Shelf42/LK1.lean); vx_outP calls Shelf42/NT130.lean (outThrough). -/
section
variable {l : Launch} {R : Room} {p : Program} {e : Env} {below : List Frame} {s : State} {sargs : Array Value} {y : MethodName} {len W9 : Nat}
theorem vx_backW {ws : List Cond} {rm : Room} {Pc : Array Value → State → Prop} {Qc : Array Value → State → Outcome → State → Prop} {XC : String → State → State → Prop} {mc ms : Nat} {free : Addr → Prop} {bytes : ByteArray} {maxL : Nat} {ret : Option FieldType} {hh : List (Nat × Nat × Nat × Nat)}
    (hM : vx_Met l y ws rm Pc Qc XC mc ms free) (hblind : FrameBlind Pc) (hrc : rm.cells = mc) (hrs : rm.slots = ms)
    (hframes : rm.frames + 1 ≤ R.frames) (hlocals : W9 + (maxL + 11) + rm.locals ≤ R.locals)
    (hws : ∀ w ∈ ws, ∀ a' U, s.WarmedH U.vm → w.before a' U = true) (hcode : Cond.codeWith y bytes maxL ret hh ∈ ws) (hinit : ∀ a' U, s.WarmedH U.vm → (Cond.initialized y.cls).before a' U = true) :
    vx_Back l R p e below s sargs y len W9 (PreOf R mc ms Pc) (PostOf Qc mc ms free) (vx_Post XC mc ms free) := by
  intro m meth c A g ig mk a X hg hsize hdg hW hn hp
  have h1 : (headSpec ws rm).pre.before a A.U = true := atoms_intro fun w hw => hws w hw _ _ X.warmed
  have h2 : (Cond.codeWith y bytes maxL ret hh).before a A.U = true := hws _ hcode _ _ X.warmed
  have h3 : (Cond.initialized y.cls).before a A.U = true := hinit _ _ X.warmed
  have h4 : A.cells + (headSpec ws rm).room.cells ≤ R.cells := by rw [show (headSpec ws rm).room.cells = mc from hrc]; exact hp.1
  have h5 : A.slots + (headSpec ws rm).room.slots ≤ R.slots := by rw [show (headSpec ws rm).room.slots = ms from hrs]; exact hp.2.1
  have hPc : Pc a (A.U.calling g mk a) := hblind _ _ _ _ hp.2.2
  obtain ⟨U, Ls, c0, s0⟩ := A
  dsimp only [Pt.U, Pt.locs, Pt.cells, Pt.slots] at h1 h2 h3 h4 h5 X hn hPc ⊢
  obtain ⟨m9, methY, cY, hn9, hmY, hcY, -, hlY, -⟩ := Cond.codeWith_spec h2
  cases Option.some.inj (hn9.symm.trans hn)
  obtain ⟨kY, hkY, -⟩ := className_of_methodNamed hn
  have hinitY : kY.init = .initialized := Cond.initialized_spec (findClass_of_methodNamed hn) hkY h3
  have h : At U g.method c below := by rw [hg]; exact X.here
  have hlocals9 : W9 + (maxL + 11) + (headSpec ws rm).room.locals ≤ R.locals := hlocals
  have happ : (headSpec ws rm).appliesLoose y e.platform (U.calling g mk a) = true :=
    Spec.appliesLoose_calling (g := g) h hdg hn hkY hinitY
      (X.room_calling (g := g) (R' := (headSpec ws rm).room) hsize hmY hcY hframes (by rw [hlY]; omega) h4 h5) h1
  obtain ⟨mid, hmid⟩ := h.above
  have hfr : (U.setTop g).frames = (.java g :: mid) ++ below := by rw [State.frames_setTop' g h.top, hmid]; rfl
  obtain ⟨o, s₂, hsteps, -, hend, hq⟩ := Steps.callFree hM p X.admits X.cas X.clock (acts := []) hfr happ hPc trivial
  have hq' : vx_Q Qc XC mc ms free a (U.calling g mk a) o s₂ := hq
  rw [State.frames_setTop' g h.top] at hend
  obtain ⟨g₀, hg0⟩ := Option.isSome_iff_exists.mp h.top
  obtain ⟨r, hr⟩ := State.topJava?_eq_some.mp hg0
  have hr' : (({ U with heap := s₂.heap, slotsUsed := s₂.slotsUsed } : State).setVm s₂.vm).frames = .java g₀ :: r := hr
  rcases hq' with ⟨hqc, L, hfe, hL⟩ | ⟨q, rfl, E, ce, L, hx, hce, hcv, hcl, hW₂, hsm, hL⟩
  · obtain ⟨⟨v, rfl⟩, hW₂, e2, q2, q3, q4, q5, q6⟩ := id hfe
    have e3 : s₂ = ({ (U.calling g mk a).setFrames s₂.frames with heap := s₂.heap, slotsUsed := s₂.slotsUsed } : State).setVm s₂.vm := by
      have : s₂ = ({ s₂ with vm := (U.calling g mk a).vm } : State).setVm s₂.vm := rfl
      rw [e2] at this
      exact this
    obtain ⟨c₂, i₂, len₂, hc₂, hd₂, hf₂⟩ := hend
    have hW' : U.WarmedH s₂.vm := hW₂
    have hcc : c₂ = c := by
      have h1 : s₂.code? g.method = U.code? g.method := by
        rw [State.code?_eq, State.code?_eq, hW'.alike.method?]
      exact Option.some.inj (hc₂.symm.trans (h1.trans h.code))
    subst hcc
    have hlen : len₂ = len := by rw [hdg] at hd₂; cases hd₂; rfl
    subst hlen
    have hs₂ : s₂ = (({ U with heap := s₂.heap, slotsUsed := s₂.slotsUsed } : State).setVm s₂.vm).setTop { g with pc := g.pc + len₂, stack := v.toList ++ g.stack } := by
      refine e3.trans ?_
      rw [hf₂, State.calling_eq h.top, State.setFrames_setFrames, State.setTop_of_frames _ hr', hr]
      rfl
    have hsame : U.sameButNew ({ U with heap := s₂.heap, slotsUsed := s₂.slotsUsed } : State) L mc ms := by
      refine ⟨?_, q2, q3, q4, q5, q6⟩
      obtain ⟨t, ht, -⟩ := State.frames_cons hr
      show ({ U with heap := s₂.heap, slotsUsed := s₂.slotsUsed } : State) = { U.setFrames U.frames with heap := s₂.heap, slotsUsed := s₂.slotsUsed }
      rw [State.setFrames_self ht]
    subst hg
    refine Or.inl ⟨v, ⟨(({ U with heap := s₂.heap, slotsUsed := s₂.slotsUsed } : State).setVm s₂.vm), Ls ++ L, c0 + mc, s0 + ms⟩,
      ⟨X.admits, X.cas, X.clock, X.frames, X.room, X.hears, X.method, X.code, (X.here.setHeapUsed s₂.heap s₂.slotsUsed).setVm hW'.alike, X.tail, State.WarmedH.trans X.warmed hW', X.limits, X.bytes, X.same.trans (hsame.setVm s.vm)⟩,
      ⟨g, mk, s₂, L, rfl, rfl, hqc, rfl, hL, rfl, rfl⟩, ?_⟩
    show Steps p.tables e below _ ((({ U with heap := s₂.heap, slotsUsed := s₂.slotsUsed } : State).setVm s₂.vm).setTop { g with pc := g.pc + len₂, stack := v.toList ++ g.stack })
    rw [← hs₂]
    exact hsteps
  · obtain ⟨e2, q2, q3, q4, q5, q6⟩ := id hsm
    have e3 : s₂ = ({ (U.calling g mk a).setFrames s₂.frames with heap := s₂.heap, slotsUsed := s₂.slotsUsed } : State).setVm s₂.vm := by
      have : s₂ = ({ s₂ with vm := (U.calling g mk a).vm } : State).setVm s₂.vm := rfl
      rw [e2] at this
      exact this
    have hf₂ : s₂.frames = .throwing q :: .java g :: U.frames.tail := hend
    have hW' : U.WarmedH s₂.vm := hW₂
    have hs₂ : s₂ = ((({ U with heap := s₂.heap, slotsUsed := s₂.slotsUsed } : State).setVm s₂.vm).setTop g).pushFrame (.throwing q) := by
      refine e3.trans ?_
      rw [hf₂, State.calling_eq h.top, State.setFrames_setFrames, State.pushFrame, State.frames_setTop _ hr', State.setTop_of_frames _ hr', State.setFrames_setFrames, hr]
      rfl
    have hsame : U.sameButNew ({ U with heap := s₂.heap, slotsUsed := s₂.slotsUsed } : State) L mc ms := by
      refine ⟨?_, q2, q3, q4, q5, q6⟩
      obtain ⟨t, ht, -⟩ := State.frames_cons hr
      show ({ U with heap := s₂.heap, slotsUsed := s₂.slotsUsed } : State) = { U.setFrames U.frames with heap := s₂.heap, slotsUsed := s₂.slotsUsed }
      rw [State.setFrames_self ht]
    subst hg
    refine Or.inr ⟨q, ⟨(({ U with heap := s₂.heap, slotsUsed := s₂.slotsUsed } : State).setVm s₂.vm), Ls ++ L, c0 + mc, s0 + ms⟩,
      ⟨X.admits, X.cas, X.clock, X.frames, X.room, X.hears, X.method, X.code, (X.here.setHeapUsed s₂.heap s₂.slotsUsed).setVm hW'.alike, X.tail, State.WarmedH.trans X.warmed hW', X.limits, X.bytes, X.same.trans (hsame.setVm s.vm)⟩,
      ⟨g, mk, s₂, L, E, ce, rfl, rfl, hx, hce, hcv, hcl, rfl, hL, rfl, rfl⟩, ?_⟩
    show Steps p.tables e below _ (((({ U with heap := s₂.heap, slotsUsed := s₂.slotsUsed } : State).setVm s₂.vm).setTop g).pushFrame (.throwing q))
    rw [← hs₂]
    exact hsteps
end
variable {p : Program} {l : Launch} {e : Env} {R : Room} {s : State} {m : MethodId} {args : Array Value} {below : List Frame} {meth : Method} {c : Code} {T : State} {H : Heap} {locs : List Loc} {cells slots : Nat}
theorem vx_callVX (X : Stand p l e R s m args below meth c T locs cells slots) (hexec : p.tables.exec = Jvm.exec) {own C : String} {index : Nat} {y : MethodName} {bytes : ByteArray} {maxL : Nat} {ret : Option FieldType} {hh : List (Nat × Nat × Nat × Nat)}
    (hown : s.vm.findClass own = some m.cls) (hlink : (Cond.methodLink own index y).before args s = true) (hinst : (Cond.instanceMethod y).before args s = true) (hsel : (Cond.selects C y y).before args s = true)
    (hcode : (Cond.codeWith y bytes maxL ret hh).before args s = true) (hy : y.cls ≠ "java/lang/invoke/MethodHandle" ∧ y.cls ≠ "java/lang/invoke/VarHandle")
    {W9 : Nat} {Pre : Pt → Array Value → Prop} {Post : Pt → Array Value → Option Value → Pt → Prop} {PostX : Pt → Array Value → Addr → Pt → Prop} (hK : vx_Back l R p e below s args y 3 W9 Pre Post PostX)
    {b : Addr} {cellB : Cell} (hcell : T.heap[b]? = some cellB) (hobj : cellB.vm.isStatics = false) (hcls : s.vm.findClass C = some cellB.cls)
    {g : JFrame} (hg : g.method = m) (hsize : g.locals.size = c.maxLocals) {argsL rest : List Value} (hlen : ∀ sig, parseMethodDescriptor y.desc = some sig → argsL.length = sig.parameters.length)
    (hstack : g.stack = argsL.reverse ++ .ref b :: rest) (hW : 2 * g.monitorRoom + (rest.map fun v => v.category).sum ≤ W9) (hdg : decode c.code g.pc = .ok (.invokevirtual index, 3))
    (hpre : ∀ vm₁, s.WarmedH vm₁ → Pre ⟨T.setVm vm₁, locs, cells, slots⟩ (Value.ref b :: argsL).toArray) :
    (∃ (v : Option Value) (vm₁ : Vm) (B : Pt), s.WarmedH vm₁ ∧ Stand p l e R s m args below meth c B.U B.locs B.cells B.slots ∧ Post ⟨T.setVm vm₁, locs, cells, slots⟩ (Value.ref b :: argsL).toArray v B ∧
      ∀ target, Steps p.tables e below (B.U.setTop { g with pc := g.pc + 3, stack := v.toList ++ rest }) target → Steps p.tables e below (T.setTop g) target) ∨
    (∃ (q : Addr) (vm₁ : Vm) (B : Pt), s.WarmedH vm₁ ∧ Stand p l e R s m args below meth c B.U B.locs B.cells B.slots ∧ PostX ⟨T.setVm vm₁, locs, cells, slots⟩ (Value.ref b :: argsL).toArray q B ∧
      Steps p.tables e below (T.setTop g) ((B.U.setTop { g with stack := rest }).pushFrame (.throwing q))) := by
  obtain ⟨mk, methM, hnamed, hmethM, hstM, habM⟩ := Cond.instanceMethod_spec hinst
  obtain ⟨m8, methM', cM, hn8, hmethM', -, -, -, -, -, -, hsigM⟩ := Cond.codeWith_spec hcode
  cases Option.some.inj (hn8.symm.trans hnamed)
  cases hmethM.symm.trans hmethM'
  obtain ⟨c2, r2, m2, q1, q2, q3, q4, kP, hkP, hkPi⟩ := Cond.selects_spec hsel
  cases hcls.symm.trans q1
  cases (State.methodFound?_of_named hnamed hy).symm.trans q2
  cases hnamed.symm.trans q3
  have hselP : selectMethod e.platform s.vm cellB.cls mk = .method mk := by rw [Launch.admits_selectMethod X.admits]; exact q4
  obtain ⟨vm₁, X₁, hstep₁⟩ := X.invokevirtual hexec hown hlink hnamed hmethM hstM hkP hkPi hy (a := b) (cell := cellB) hcell
    (fun z h => by rw [h] at hobj; cases hobj) hselP hmethM habM hkP hkPi (g := g) hg (argsL := argsL) (rest := rest) (hlen _ hsigM) hstack hdg
  rcases hK m meth c ⟨T.setVm vm₁, locs, cells, slots⟩ { g with stack := rest } (.invokevirtual index) mk (Value.ref b :: argsL).toArray X₁ hg hsize hdg hW (X₁.named hnamed) (hpre vm₁ X₁.warmed) with ⟨v, B, X', hpost, hsteps⟩ | ⟨q, B, X', hpost, hsteps⟩
  · exact Or.inl ⟨v, vm₁, B, X₁.warmed, X', hpost, fun target h => hstep₁ _ fun acts => by rw [doInvoke_state]; exact hsteps.trans h⟩
  · exact Or.inr ⟨q, vm₁, B, X₁.warmed, X', hpost, hstep₁ _ fun acts => by rw [doInvoke_state]; exact hsteps⟩
theorem vx_callSX (X : Stand p l e R s m args below meth c T locs cells slots) (hexec : p.tables.exec = Jvm.exec) {own : String} {index : Nat} {y : MethodName} {bytes : ByteArray} {maxL : Nat} {ret : Option FieldType} {hh : List (Nat × Nat × Nat × Nat)}
    (hown : s.vm.findClass own = some m.cls) (hlink : (Cond.methodLink own index y).before args s = true) (hstat : (Cond.static y).before args s = true) (hinit : (Cond.initialized y.cls).before args s = true)
    (hcode : (Cond.codeWith y bytes maxL ret hh).before args s = true) (hy : y.cls ≠ "java/lang/invoke/MethodHandle" ∧ y.cls ≠ "java/lang/invoke/VarHandle")
    {W9 : Nat} {Pre : Pt → Array Value → Prop} {Post : Pt → Array Value → Option Value → Pt → Prop} {PostX : Pt → Array Value → Addr → Pt → Prop} (hK : vx_Back l R p e below s args y 3 W9 Pre Post PostX)
    {g : JFrame} (hg : g.method = m) (hsize : g.locals.size = c.maxLocals) {argsL rest : List Value} (hlen : ∀ sig, parseMethodDescriptor y.desc = some sig → argsL.length = sig.parameters.length)
    (hstack : g.stack = argsL.reverse ++ rest) (hW : 2 * g.monitorRoom + (rest.map fun v => v.category).sum ≤ W9) (hdg : decode c.code g.pc = .ok (.invokestatic index, 3))
    (hpre : ∀ vm₁, s.WarmedH vm₁ → Pre ⟨T.setVm vm₁, locs, cells, slots⟩ argsL.toArray) :
    (∃ (v : Option Value) (vm₁ : Vm) (B : Pt), s.WarmedH vm₁ ∧ Stand p l e R s m args below meth c B.U B.locs B.cells B.slots ∧ Post ⟨T.setVm vm₁, locs, cells, slots⟩ argsL.toArray v B ∧
      ∀ target, Steps p.tables e below (B.U.setTop { g with pc := g.pc + 3, stack := v.toList ++ rest }) target → Steps p.tables e below (T.setTop g) target) ∨
    (∃ (q : Addr) (vm₁ : Vm) (B : Pt), s.WarmedH vm₁ ∧ Stand p l e R s m args below meth c B.U B.locs B.cells B.slots ∧ PostX ⟨T.setVm vm₁, locs, cells, slots⟩ argsL.toArray q B ∧
      Steps p.tables e below (T.setTop g) ((B.U.setTop { g with stack := rest }).pushFrame (.throwing q))) := by
  obtain ⟨mk, methM, cM, hnamed, hmethM, -, -, -, -, -, -, hsigM⟩ := Cond.codeWith_spec hcode
  have hstatic : methM.isStatic = true := Cond.static_spec hnamed hmethM hstat
  obtain ⟨kP, hkP, -⟩ := className_of_methodNamed hnamed
  have hinitP : kP.init = .initialized := Cond.initialized_spec (findClass_of_methodNamed hnamed) hkP hinit
  obtain ⟨vm₁, X₁, hstep₁⟩ := X.invokestatic hexec hown hlink hnamed hmethM hstatic hkP hinitP hy (g := g) hg (argsL := argsL) (rest := rest) (hlen _ hsigM) hstack hdg
  rcases hK m meth c ⟨T.setVm vm₁, locs, cells, slots⟩ { g with stack := rest } (.invokestatic index) mk argsL.toArray X₁ hg hsize hdg hW (X₁.named hnamed) (hpre vm₁ X₁.warmed) with ⟨v, B, X', hpost, hsteps⟩ | ⟨q, B, X', hpost, hsteps⟩
  · exact Or.inl ⟨v, vm₁, B, X₁.warmed, X', hpost, fun target h => hstep₁ _ fun acts => by rw [doInvoke_state]; exact hsteps.trans h⟩
  · exact Or.inr ⟨q, vm₁, B, X₁.warmed, X', hpost, hstep₁ _ fun acts => by rw [doInvoke_state]; exact hsteps⟩
theorem vx_callVW (X : Stand p l e R s m args below meth c T locs cells slots) (hexec : p.tables.exec = Jvm.exec) {own C : String} {index : Nat} {y : MethodName} {bytes : ByteArray} {maxL : Nat} {ret : Option FieldType} {hh : List (Nat × Nat × Nat × Nat)}
    (hown : s.vm.findClass own = some m.cls) (hlink : (Cond.methodLink own index y).before args s = true) (hinst : (Cond.instanceMethod y).before args s = true) (hsel : (Cond.selects C y y).before args s = true)
    (hcode : (Cond.codeWith y bytes maxL ret hh).before args s = true) (hy : y.cls ≠ "java/lang/invoke/MethodHandle" ∧ y.cls ≠ "java/lang/invoke/VarHandle")
    {W9 : Nat} {Pre : Pt → Array Value → Prop} {Post : Pt → Array Value → Option Value → Pt → Prop} (hK : Back l R p e below s args y 3 W9 Pre Post)
    {b : Addr} {cellB : Cell} (hcell : T.heap[b]? = some cellB) (hobj : cellB.vm.isStatics = false) (hcls : s.vm.findClass C = some cellB.cls)
    {g : JFrame} (hg : g.method = m) (hsize : g.locals.size = c.maxLocals) {argsL rest : List Value} (hlen : ∀ sig, parseMethodDescriptor y.desc = some sig → argsL.length = sig.parameters.length)
    (hstack : g.stack = argsL.reverse ++ .ref b :: rest) (hW : 2 * g.monitorRoom + (rest.map fun v => v.category).sum ≤ W9) (hdg : decode c.code g.pc = .ok (.invokevirtual index, 3))
    (hpre : ∀ vm₁, s.WarmedH vm₁ → Pre ⟨T.setVm vm₁, locs, cells, slots⟩ (Value.ref b :: argsL).toArray) :
    ∃ (v : Option Value) (vm₁ : Vm) (B : Pt), s.WarmedH vm₁ ∧ Stand p l e R s m args below meth c B.U B.locs B.cells B.slots ∧ Post ⟨T.setVm vm₁, locs, cells, slots⟩ (Value.ref b :: argsL).toArray v B ∧
      ∀ target, Steps p.tables e below (B.U.setTop { g with pc := g.pc + 3, stack := v.toList ++ rest }) target → Steps p.tables e below (T.setTop g) target := by
  obtain ⟨mk, methM, hnamed, hmethM, hstM, habM⟩ := Cond.instanceMethod_spec hinst
  obtain ⟨m8, methM', cM, hn8, hmethM', -, -, -, -, -, -, hsigM⟩ := Cond.codeWith_spec hcode
  cases Option.some.inj (hn8.symm.trans hnamed)
  cases hmethM.symm.trans hmethM'
  obtain ⟨c2, r2, m2, q1, q2, q3, q4, kP, hkP, hkPi⟩ := Cond.selects_spec hsel
  cases hcls.symm.trans q1
  cases (State.methodFound?_of_named hnamed hy).symm.trans q2
  cases hnamed.symm.trans q3
  have hselP : selectMethod e.platform s.vm cellB.cls mk = .method mk := by rw [Launch.admits_selectMethod X.admits]; exact q4
  obtain ⟨vm₁, X₁, hstep₁⟩ := X.invokevirtual hexec hown hlink hnamed hmethM hstM hkP hkPi hy (a := b) (cell := cellB) hcell
    (fun z h => by rw [h] at hobj; cases hobj) hselP hmethM habM hkP hkPi (g := g) hg (argsL := argsL) (rest := rest) (hlen _ hsigM) hstack hdg
  obtain ⟨v, B, X', hpost, hsteps⟩ := hK m meth c ⟨T.setVm vm₁, locs, cells, slots⟩ { g with stack := rest } (.invokevirtual index) mk (Value.ref b :: argsL).toArray X₁ hg hsize hdg hW (X₁.named hnamed) (hpre vm₁ X₁.warmed)
  exact ⟨v, vm₁, B, X₁.warmed, X', hpost, fun target h => hstep₁ _ fun acts => by rw [doInvoke_state]; exact hsteps.trans h⟩
abbrev vx_CVW (R : Room) (s : State) (args : Array Value) (own C : String) (index : Nat) (y : MethodName) (bytes : ByteArray) (maxL : Nat) (ret : Option FieldType) (hh : List (Nat × Nat × Nat × Nat)) (ws : List Cond) (rm : Room) (mc ms n : Nat) : Prop :=
  (rm.cells = mc ∧ rm.slots = ms ∧ rm.frames + 1 ≤ R.frames ∧ 8 + (maxL + 11) + rm.locals ≤ R.locals ∧ (∀ w ∈ ws, ∀ (a' : Array Value) (U : State), s.WarmedH U.vm → w.before a' U = true) ∧ Cond.codeWith y bytes maxL ret hh ∈ ws) ∧
  (Cond.codeWith y bytes maxL ret hh).before args s = true ∧ (Cond.initialized y.cls).before args s = true ∧ (y.cls ≠ "java/lang/invoke/MethodHandle" ∧ y.cls ≠ "java/lang/invoke/VarHandle") ∧
  (∀ sig, parseMethodDescriptor y.desc = some sig → n = sig.parameters.length) ∧ (Cond.methodLink own index y).before args s = true ∧ (Cond.instanceMethod y).before args s = true ∧ (Cond.selects C y y).before args s = true
theorem vx_cwVW {own C : String} {index maxL mc ms : Nat} {y : MethodName} {bytes : ByteArray} {ret : Option FieldType} {hh : List (Nat × Nat × Nat × Nat)} {Ts ws ws' : List Cond} {rm : Room} (n : Nat) (ht : ∀ w ∈ Ts, w.before args s = true) (hT : GoodIn Ts (wsV own index C y ws)) (hw : ws = Cond.codeWith y bytes maxL ret hh :: ws') (hrc : rm.cells = mc) (hrs : rm.slots = ms)
    (hd : y.cls = C ∧ y.cls ≠ "java/lang/invoke/MethodHandle" ∧ y.cls ≠ "java/lang/invoke/VarHandle" ∧ (parseMethodDescriptor y.desc).map (fun d => d.parameters.length) = some n) (hR : rm.frames + 1 ≤ R.frames ∧ 8 + (maxL + 11) + rm.locals ≤ R.locals) :
    vx_CVW R s args own C index y bytes maxL ret hh ws rm mc ms n := by
  obtain ⟨hC, hd⟩ := hd
  subst hC
  have ok : ∀ w ∈ wsV own index y.cls y ws, w.before args s = true := fun w h => ht w (hT w h).1
  have hG : GoodIn Ts ws := fun w h => hT w (by unfold wsV; exact List.mem_append_right _ h)
  have hc : Cond.codeWith y bytes maxL ret hh ∈ ws := by rw [hw]; exact List.mem_cons_self
  refine ⟨⟨hrc, hrs, hR.1, hR.2, pay_in ht hG, hc⟩, ht _ (hG _ hc).1, ok _ (by simp [wsV]), ⟨hd.1, hd.2.1⟩, fun sig h => ?_, ok _ (by simp [wsV]), ok _ (by simp [wsV]), ok _ (by simp [wsV])⟩
  have h2 := hd.2.2
  rw [h] at h2
  exact (Option.some.inj h2).symm
theorem vx_runVW {y : MethodName} {bytes cc : ByteArray} {maxL nL mc ms n index : Nat} {ret : Option FieldType} {hh : List (Nat × Nat × Nat × Nat)} {ws : List Cond} {rm : Room} {Pc : Array Value → State → Prop} {Qc : Array Value → State → Outcome → State → Prop} {free : Addr → Prop} {Ts : List Cond} {own C : String} {b : Addr} {As rest : List Value} {g : JFrame}
    (S : CallFix p m c cc nL s args Ts own) (hM : Met l y ws rm Pc Qc mc ms free) (cw : vx_CVW R s args own C index y bytes maxL ret hh ws rm mc ms n) (hp : PreV s H C b Pc As)
    (hg : g.method = m) (hn : As.length = n) (hsize : g.locals.size = nL) (hstack : g.stack = As.reverse ++ .ref b :: rest) (hW : 2 * g.monitorRoom + (rest.map fun v => v.category).sum ≤ 8) (hdg : decode cc g.pc = .ok (.invokevirtual index, 3)) (hf : cells + mc ≤ R.cells ∧ slots + ms ≤ R.slots) :
    va_Run p l e R s m args below meth c H locs cells slots mc ms g rest (Qc (Value.ref b :: As).toArray) free := by
  obtain ⟨⟨hrc, hrs, hfr, hlo, hws, hcw⟩, hcode, hini, hy, hlen, hl, hin, hse⟩ := cw
  have hK : Back l R p e below s args y 3 8 (PreOf R mc ms Pc) (PostOf Qc mc ms free) := va_backW (hh := hh) (bytes := bytes) (maxL := maxL) (ret := ret) hM hp.1 hrc hrs hfr hlo hws hcw (fun a' U hW => word_at hW (Or.inl (by first | rfl | simp [Cond.onTables, Cond.keeps, Cond.steady])) hini)
  obtain ⟨hx, hb, hml, ho, -⟩ := S
  obtain ⟨-, ⟨cellB, hcB, hoB, hclB⟩, hPc⟩ := hp
  intro T hT X
  obtain ⟨v, vm₁, ⟨U', l2, c2, s2⟩, hW₁, X', ⟨g', mk, t, L, e1, e2, hq, h1, hL, h2, h3⟩, st⟩ := vx_callVW X hx (C := C) (hh := hh) (bytes := bytes) (maxL := maxL) (ret := ret) ho hl hin hse hcode hy hK (by rw [hT]; exact hcB) hoB hclB hg (hsize.trans hml.symm) (argsL := As) (rest := rest) (fun sig h => hn.trans (hlen sig h)) hstack hW (by rw [hb]; exact hdg)
    (fun vm₁ hW₁ => ⟨hf.1, hf.2, hPc (T.setVm vm₁) hT hW₁⟩)
  dsimp only [Pt.U, Pt.locs, Pt.cells, Pt.slots] at X' e1 e2 h1 h2 h3 st
  subst h1; subst h2; subst h3
  exact ⟨v, (T.setVm vm₁).calling g' mk (Value.ref b :: As).toArray, t, U', L, hT, X', hL, e1, e2, hq, st⟩
section
variable {y : MethodName} {bytes cc : ByteArray} {maxL nL mc ms n index : Nat} {ret : Option FieldType} {ws : List Cond} {rm : Room} {Pc : Array Value → State → Prop} {Qc : Array Value → State → Outcome → State → Prop} {XC : String → State → State → Prop} {free : Addr → Prop} {Ts : List Cond} {own C : String} {b : Addr} {As rest : List Value} {g : JFrame}
theorem vx_runVX {hh : List (Nat × Nat × Nat × Nat)} (S : CallFix p m c cc nL s args Ts own) (hM : vx_Met l y ws rm Pc Qc XC mc ms free) (cw : vx_CVW R s args own C index y bytes maxL ret hh ws rm mc ms n) (hp : PreV s H C b Pc As)
    (hg : g.method = m) (hn : As.length = n) (hsize : g.locals.size = nL) (hstack : g.stack = As.reverse ++ .ref b :: rest) (hW : 2 * g.monitorRoom + (rest.map fun v => v.category).sum ≤ 8) (hdg : decode cc g.pc = .ok (.invokevirtual index, 3)) (hf : cells + mc ≤ R.cells ∧ slots + ms ≤ R.slots) :
    vx_Run p l e R s m args below meth c H locs cells slots mc ms g rest (Qc (Value.ref b :: As).toArray) XC free := by
  obtain ⟨⟨hrc, hrs, hfr, hlo, hws, hcw⟩, hcode, hini, hy, hlen, hl, hin, hse⟩ := cw
  have hK : vx_Back l R p e below s args y 3 8 (PreOf R mc ms Pc) (PostOf Qc mc ms free) (vx_Post XC mc ms free) := vx_backW (hh := hh) (bytes := bytes) (maxL := maxL) (ret := ret) hM hp.1 hrc hrs hfr hlo hws hcw (fun a' U hW => word_at hW (Or.inl (by first | rfl | simp [Cond.onTables, Cond.keeps, Cond.steady])) hini)
  obtain ⟨hx, hb, hml, ho, -⟩ := S
  obtain ⟨-, ⟨cellB, hcB, hoB, hclB⟩, hPc⟩ := hp
  intro T hT X
  rcases vx_callVX X hx (C := C) (hh := hh) (bytes := bytes) (maxL := maxL) (ret := ret) ho hl hin hse hcode hy hK (by rw [hT]; exact hcB) hoB hclB hg (hsize.trans hml.symm) (argsL := As) (rest := rest) (fun sig h => hn.trans (hlen sig h)) hstack hW (by rw [hb]; exact hdg)
    (fun vm₁ hW₁ => ⟨hf.1, hf.2, hPc (T.setVm vm₁) hT hW₁⟩) with ⟨v, vm₁, ⟨U', l2, c2, s2⟩, hW₁, X', ⟨g', mk, t, L, e1, e2, hq, h1, hL, h2, h3⟩, st⟩ | ⟨q, vm₁, ⟨U', l2, c2, s2⟩, hW₁, X', ⟨g', mk, t, L, E, ce, e1, e2, hq, hce, hcv, hcl, h1, hL, h2, h3⟩, st⟩
  · dsimp only [Pt.U, Pt.locs, Pt.cells, Pt.slots] at X' e1 e2 h1 h2 h3 st
    subst h1; subst h2; subst h3
    exact Or.inl ⟨v, (T.setVm vm₁).calling g' mk (Value.ref b :: As).toArray, t, U', L, hT, X', hL, e1, e2, hq, st⟩
  · dsimp only [Pt.U, Pt.locs, Pt.cells, Pt.slots] at X' e1 e2 h1 h2 h3 st hcl
    subst h1; subst h2; subst h3
    exact Or.inr ⟨q, (T.setVm vm₁).calling g' mk (Value.ref b :: As).toArray, t, U', L, E, ce, hT, X', hL, e1, e2, hq, hce, hcv, vx_cls hW₁ hcl, st⟩
theorem vx_runSX {hh : List (Nat × Nat × Nat × Nat)} (S : CallFix p m c cc nL s args Ts own) (hM : vx_Met l y ws rm Pc Qc XC mc ms free) (cw : vx_CSW R s args own index y bytes maxL ret hh ws rm mc ms n) (hp : PreS s H Pc As)
    (hg : g.method = m) (hn : As.length = n) (hsize : g.locals.size = nL) (hstack : g.stack = As.reverse ++ rest) (hW : 2 * g.monitorRoom + (rest.map fun v => v.category).sum ≤ 8) (hdg : decode cc g.pc = .ok (.invokestatic index, 3)) (hf : cells + mc ≤ R.cells ∧ slots + ms ≤ R.slots) :
    vx_Run p l e R s m args below meth c H locs cells slots mc ms g rest (Qc As.toArray) XC free := by
  obtain ⟨⟨hrc, hrs, hfr, hlo, hws, hcw⟩, hcode, hini, hy, hlen, hl, hstt⟩ := cw
  have hK : vx_Back l R p e below s args y 3 8 (PreOf R mc ms Pc) (PostOf Qc mc ms free) (vx_Post XC mc ms free) := vx_backW (hh := hh) (bytes := bytes) (maxL := maxL) (ret := ret) hM hp.1 hrc hrs hfr hlo hws hcw (fun a' U hW => word_at hW (Or.inl (by first | rfl | simp [Cond.onTables, Cond.keeps, Cond.steady])) hini)
  obtain ⟨hx, hb, hml, ho, -⟩ := S
  intro T hT X
  rcases vx_callSX X hx (hh := hh) (bytes := bytes) (maxL := maxL) (ret := ret) ho hl hstt hini hcode hy hK hg (hsize.trans hml.symm) (argsL := As) (rest := rest) (fun sig h => hn.trans (hlen sig h)) hstack hW (by rw [hb]; exact hdg)
    (fun vm₁ hW₁ => ⟨hf.1, hf.2, hp.2 (T.setVm vm₁) hT hW₁⟩) with ⟨v, vm₁, ⟨U', l2, c2, s2⟩, hW₁, X', ⟨g', mk, t, L, e1, e2, hq, h1, hL, h2, h3⟩, st⟩ | ⟨q, vm₁, ⟨U', l2, c2, s2⟩, hW₁, X', ⟨g', mk, t, L, E, ce, e1, e2, hq, hce, hcv, hcl, h1, hL, h2, h3⟩, st⟩
  · dsimp only [Pt.U, Pt.locs, Pt.cells, Pt.slots] at X' e1 e2 h1 h2 h3 st
    subst h1; subst h2; subst h3
    exact Or.inl ⟨v, (T.setVm vm₁).calling g' mk As.toArray, t, U', L, hT, X', hL, e1, e2, hq, st⟩
  · dsimp only [Pt.U, Pt.locs, Pt.cells, Pt.slots] at X' e1 e2 h1 h2 h3 st hcl
    subst h1; subst h2; subst h3
    exact Or.inr ⟨q, (T.setVm vm₁).calling g' mk As.toArray, t, U', L, E, ce, hT, X', hL, e1, e2, hq, hce, hcv, vx_cls hW₁ hcl, st⟩
end
end VXH
theorem vx_ofWH {l : Launch} {y : MethodName} {ws ws' : List Cond} {rm : Room} {Pc : Array Value → State → Prop} {Qc : Array Value → State → Outcome → State → Prop} {XC : String → State → State → Prop} {mc ms : Nat} {free : Addr → Prop} {cc : ByteArray} {maxL : Nat} {ret : Option FieldType} {hh : List (Nat × Nat × Nat × Nat)}
    (hy : plainName y.cls = true) (hw : ws = Cond.codeWith y cc maxL ret hh :: ws')
    (body : ∀ p e s m args below meth c s₁, BodyLoose p l y (headSpec ws rm) cc maxL ret e s m args below meth c s₁ → c.maxLocals = maxL → Pc args s →
      W p l e (headSpec ws rm).room s m args below meth c s.heap [] 0 0 (vx_MQ below Qc XC args s mc ms free) (entryFrame m args maxL)) : vx_Met l y ws rm Pc Qc XC mc ms free := by
  refine MetFree.of_bodyS (code := cc) (maxLocals := maxL) (ret := ret) hy ?_ ?_
  · intro args s m h hn
    obtain ⟨m9, meth, c, hn9, h1, h2, h3, h4, -, h5, h6, -⟩ := Cond.codeWith_spec (atoms_spec (ws := ws) h _ (by rw [hw]; exact List.mem_cons_self))
    cases hn.symm.trans hn9
    exact ⟨meth, c, h1, h2, h3, h4, h5, h6⟩
  · intro p e s m args below meth c s₁ B hml hP _
    have hh0 : s₁.heap = s.heap := by rw [B.state]; rfl
    obtain ⟨t, a1, o, b1, b2, b3⟩ := body p e s m args below meth c s₁ B hml hP s₁ hh0 (Stand.of_body B)
    exact ⟨t, o, a1, b1, b2, b3⟩
/-! ===== END ===== -/

/-! names -/
def RX0 : String := "LetterCuts$Matching"
def TX0 : u_T := fun k => match k with
  | 0 => ("LetterCuts$Matching", "choices", "[J", true)
  | 1 => ("LetterCuts$Matching", "holders", "[I", true)
  | 2 => ("LetterCuts$Matching", "given", "I", false)
  | _ => ("LetterCuts$Matching", "tried", "J", false)
def tyX0 : Nat → FieldType := fun k => match k with
  | 0 => .array .long
  | 1 => .array .int
  | 2 => .int
  | _ => .long
theorem nmX0 : ∀ a, a < 4 → ∀ b, b < 4 → a ≠ b → (TX0 a).2.1 ≠ (TX0 b).2.1 := by decide +kernel
theorem tyX0_ok : ∀ k, k < 4 → parseFieldDescriptor (TX0 k).2.2.1 = some (tyX0 k) := by decide +kernel
abbrev cX0_init : ByteArray := prog_2_method_1_code
def yX0_init : MethodName := ⟨RX0, "<init>", "()V"⟩
abbrev cX0_clear : ByteArray := prog_2_method_2_code
def yX0_clear : MethodName := ⟨RX0, "clear", "()V"⟩
abbrev cX0_give : ByteArray := prog_2_method_3_code
def yX0_give : MethodName := ⟨RX0, "give", "(J)Z"⟩
abbrev cX0_findCell : ByteArray := prog_2_method_4_code
def yX0_findCell : MethodName := ⟨RX0, "findCell", "(II)Z"⟩
abbrev cX0_canMove : ByteArray := prog_2_method_5_code
def yX0_canMove : MethodName := ⟨RX0, "canMove", "(II)Z"⟩
def RX1 : String := "LetterCuts$Planner"
def TX1 : u_T := fun k => match k with
  | 0 => ("LetterCuts$Planner", "matching", "LLetterCuts$Matching;", true)
  | 1 => ("LetterCuts$Planner", "cellsOfLetter", "[J", true)
  | 2 => ("LetterCuts$Planner", "cellBits", "[J", true)
  | 3 => ("LetterCuts$Planner", "runs", "[[I", true)
  | 4 => ("LetterCuts$Planner", "mostSaved", "[I", true)
  | 5 => ("LetterCuts$Planner", "letters", "I", false)
  | 6 => ("LetterCuts$Planner", "cutSpots", "[I", true)
  | 7 => ("LetterCuts$Planner", "cutLengths", "[I", true)
  | 8 => ("LetterCuts$Planner", "cuts", "I", false)
  | _ => ("LetterCuts$Planner", "cells", "J", false)
def tyX1 : Nat → FieldType := fun k => match k with
  | 0 => .object "LetterCuts$Matching"
  | 1 => .array .long
  | 2 => .array .long
  | 3 => .array (.array .int)
  | 4 => .array .int
  | 5 => .int
  | 6 => .array .int
  | 7 => .array .int
  | 8 => .int
  | _ => .long
theorem nmX1 : ∀ a, a < 10 → ∀ b, b < 10 → a ≠ b → (TX1 a).2.1 ≠ (TX1 b).2.1 := by decide +kernel
theorem tyX1_ok : ∀ k, k < 10 → parseFieldDescriptor (TX1 k).2.2.1 = some (tyX1 k) := by decide +kernel
abbrev cX1_init : ByteArray := prog_3_method_1_code
def yX1_init : MethodName := ⟨RX1, "<init>", "()V"⟩
abbrev cX1_spotOfCut : ByteArray := prog_3_method_2_code
def yX1_spotOfCut : MethodName := ⟨RX1, "spotOfCut", "(I)I"⟩
abbrev cX1_lengthOfCut : ByteArray := prog_3_method_3_code
def yX1_lengthOfCut : MethodName := ⟨RX1, "lengthOfCut", "(I)I"⟩
abbrev cX1_prepare : ByteArray := prog_3_method_4_code
def yX1_prepare : MethodName := ⟨RX1, "prepare", "(LLetterCuts$Sheet;)V"⟩
abbrev cX1_boundSaved : ByteArray := prog_3_method_5_code
def yX1_boundSaved : MethodName := ⟨RX1, "boundSaved", "(I)I"⟩
abbrev cX1_choose : ByteArray := prog_3_method_6_code
def yX1_choose : MethodName := ⟨RX1, "choose", "(J)I"⟩
abbrev cX1_chooseCut : ByteArray := prog_3_method_7_code
def yX1_chooseCut : MethodName := ⟨RX1, "chooseCut", "(IJI)I"⟩
abbrev cX1_freeStrip : ByteArray := prog_3_method_8_code
def yX1_freeStrip : MethodName := ⟨RX1, "freeStrip", "(IIIJ)J"⟩
abbrev cX1_canSave : ByteArray := prog_3_method_9_code
def yX1_canSave : MethodName := ⟨RX1, "canSave", "(IIJI)Z"⟩
abbrev cX1_canSaveAt : ByteArray := prog_3_method_10_code
def yX1_canSaveAt : MethodName := ⟨RX1, "canSaveAt", "(IIJI)Z"⟩
abbrev cX1_canSpell : ByteArray := prog_3_method_11_code
def yX1_canSpell : MethodName := ⟨RX1, "canSpell", "(IIJ)Z"⟩
def RX2 : String := "LetterCuts$SetupReader"
def TX2 : u_T := fun k => match k with
  | 0 => ("LetterCuts$SetupReader", "draft", "LLetterCuts$Sheet;", true)
  | 1 => ("LetterCuts$SetupReader", "text", "[B", true)
  | 2 => ("LetterCuts$SetupReader", "length", "I", false)
  | 3 => ("LetterCuts$SetupReader", "at", "I", false)
  | 4 => ("LetterCuts$SetupReader", "error", "I", false)
  | 5 => ("LetterCuts$SetupReader", "errorOffset", "I", false)
  | 6 => ("LetterCuts$SetupReader", "hasFront", "Z", false)
  | 7 => ("LetterCuts$SetupReader", "hasBack", "Z", false)
  | 8 => ("LetterCuts$SetupReader", "hasSizes", "Z", false)
  | _ => ("LetterCuts$SetupReader", "hasLeast", "Z", false)
def tyX2 : Nat → FieldType := fun k => match k with
  | 0 => .object "LetterCuts$Sheet"
  | 1 => .array .byte
  | 2 => .int
  | 3 => .int
  | 4 => .int
  | 5 => .int
  | 6 => .boolean
  | 7 => .boolean
  | 8 => .boolean
  | _ => .boolean
theorem nmX2 : ∀ a, a < 10 → ∀ b, b < 10 → a ≠ b → (TX2 a).2.1 ≠ (TX2 b).2.1 := by decide +kernel
theorem tyX2_ok : ∀ k, k < 10 → parseFieldDescriptor (TX2 k).2.2.1 = some (tyX2 k) := by decide +kernel
abbrev cX2_init : ByteArray := prog_4_method_1_code
def yX2_init : MethodName := ⟨RX2, "<init>", "()V"⟩
abbrev cX2_read : ByteArray := prog_4_method_2_code
def yX2_read : MethodName := ⟨RX2, "read", "([BI)I"⟩
abbrev cX2_readPage : ByteArray := prog_4_method_3_code
def yX2_readPage : MethodName := ⟨RX2, "readPage", "()V"⟩
abbrev cX2_readStatement : ByteArray := prog_4_method_4_code
def yX2_readStatement : MethodName := ⟨RX2, "readStatement", "()V"⟩
abbrev cX2_readLines : ByteArray := prog_4_method_5_code
def yX2_readLines : MethodName := ⟨RX2, "readLines", "(I)V"⟩
abbrev cX2_readLine : ByteArray := prog_4_method_6_code
def yX2_readLine : MethodName := ⟨RX2, "readLine", "(I)V"⟩
abbrev cX2_readSizes : ByteArray := prog_4_method_7_code
def yX2_readSizes : MethodName := ⟨RX2, "readSizes", "()V"⟩
abbrev cX2_readNumber : ByteArray := prog_4_method_8_code
def yX2_readNumber : MethodName := ⟨RX2, "readNumber", "(I)I"⟩
abbrev cX2_readSemicolon : ByteArray := prog_4_method_9_code
def yX2_readSemicolon : MethodName := ⟨RX2, "readSemicolon", "()V"⟩
abbrev cX2_skipSpaces : ByteArray := prog_4_method_10_code
def yX2_skipSpaces : MethodName := ⟨RX2, "skipSpaces", "()V"⟩
abbrev cX2_hasMore : ByteArray := prog_4_method_11_code
def yX2_hasMore : MethodName := ⟨RX2, "hasMore", "()Z"⟩
abbrev cX2_skipWord : ByteArray := prog_4_method_12_code
def yX2_skipWord : MethodName := ⟨RX2, "skipWord", "()V"⟩
abbrev cX2_isWord : ByteArray := prog_4_method_13_code
def yX2_isWord : MethodName := ⟨RX2, "isWord", "(ILjava/lang/String;)Z"⟩
abbrev cX2_fail : ByteArray := prog_4_method_14_code
def yX2_fail : MethodName := ⟨RX2, "fail", "(II)V"⟩
def RX3 : String := "LetterCuts$Sheet"
def TX3 : u_T := fun k => match k with
  | 0 => ("LetterCuts$Sheet", "width", "I", false)
  | 1 => ("LetterCuts$Sheet", "height", "I", false)
  | 2 => ("LetterCuts$Sheet", "leastSize", "I", false)
  | 3 => ("LetterCuts$Sheet", "letters", "[I", true)
  | 4 => ("LetterCuts$Sheet", "sizes", "[I", true)
  | 5 => ("LetterCuts$Sheet", "gone", "J", false)
  | 6 => ("LetterCuts$Sheet", "message", "[I", true)
  | 7 => ("LetterCuts$Sheet", "messageLength", "I", false)
  | 8 => ("LetterCuts$Sheet", "cutsMade", "I", false)
  | _ => ("LetterCuts$Sheet", "lettersCut", "I", false)
def tyX3 : Nat → FieldType := fun k => match k with
  | 0 => .int
  | 1 => .int
  | 2 => .int
  | 3 => .array .int
  | 4 => .array .int
  | 5 => .long
  | 6 => .array .int
  | 7 => .int
  | 8 => .int
  | _ => .int
theorem nmX3 : ∀ a, a < 10 → ∀ b, b < 10 → a ≠ b → (TX3 a).2.1 ≠ (TX3 b).2.1 := by decide +kernel
theorem tyX3_ok : ∀ k, k < 10 → parseFieldDescriptor (TX3 k).2.2.1 = some (tyX3 k) := by decide +kernel
abbrev cX3_init : ByteArray := prog_5_method_1_code
def yX3_init : MethodName := ⟨RX3, "<init>", "()V"⟩
abbrev cX3_startAnew : ByteArray := prog_5_method_2_code
def yX3_startAnew : MethodName := ⟨RX3, "startAnew", "(II)V"⟩
abbrev cX3_copyFrom : ByteArray := prog_5_method_3_code
def yX3_copyFrom : MethodName := ⟨RX3, "copyFrom", "(LLetterCuts$Sheet;)V"⟩
abbrev cX3_countCells : ByteArray := prog_5_method_4_code
def yX3_countCells : MethodName := ⟨RX3, "countCells", "()I"⟩
abbrev cX3_hasPlace : ByteArray := prog_5_method_5_code
def yX3_hasPlace : MethodName := ⟨RX3, "hasPlace", "(II)Z"⟩
abbrev cX3_hasSpot : ByteArray := prog_5_method_6_code
def yX3_hasSpot : MethodName := ⟨RX3, "hasSpot", "(I)Z"⟩
abbrev cX3_spotOf : ByteArray := prog_5_method_7_code
def yX3_spotOf : MethodName := ⟨RX3, "spotOf", "(II)I"⟩
abbrev cX3_placeOf : ByteArray := prog_5_method_8_code
def yX3_placeOf : MethodName := ⟨RX3, "placeOf", "(I)I"⟩
abbrev cX3_spotBehind : ByteArray := prog_5_method_9_code
def yX3_spotBehind : MethodName := ⟨RX3, "spotBehind", "(I)I"⟩
abbrev cX3_cellOf : ByteArray := prog_5_method_10_code
def yX3_cellOf : MethodName := ⟨RX3, "cellOf", "(I)I"⟩
abbrev cX3_letterAt : ByteArray := prog_5_method_11_code
def yX3_letterAt : MethodName := ⟨RX3, "letterAt", "(I)I"⟩
abbrev cX3_sizeAt : ByteArray := prog_5_method_12_code
def yX3_sizeAt : MethodName := ⟨RX3, "sizeAt", "(I)I"⟩
abbrev cX3_isThere : ByteArray := prog_5_method_13_code
def yX3_isThere : MethodName := ⟨RX3, "isThere", "(I)Z"⟩
abbrev cX3_canUse : ByteArray := prog_5_method_14_code
def yX3_canUse : MethodName := ⟨RX3, "canUse", "(I)Z"⟩
abbrev cX3_countThere : ByteArray := prog_5_method_15_code
def yX3_countThere : MethodName := ⟨RX3, "countThere", "()I"⟩
abbrev cX3_countUsable : ByteArray := prog_5_method_16_code
def yX3_countUsable : MethodName := ⟨RX3, "countUsable", "()I"⟩
abbrev cX3_countUsableOf : ByteArray := prog_5_method_17_code
def yX3_countUsableOf : MethodName := ⟨RX3, "countUsableOf", "(I)I"⟩
abbrev cX3_cellsWith : ByteArray := prog_5_method_18_code
def yX3_cellsWith : MethodName := ⟨RX3, "cellsWith", "(I)J"⟩
abbrev cX3_hasMessageLetter : ByteArray := prog_5_method_19_code
def yX3_hasMessageLetter : MethodName := ⟨RX3, "hasMessageLetter", "(I)Z"⟩
abbrev cX3_messageAt : ByteArray := prog_5_method_20_code
def yX3_messageAt : MethodName := ⟨RX3, "messageAt", "(I)I"⟩
abbrev cX3_countInMessage : ByteArray := prog_5_method_21_code
def yX3_countInMessage : MethodName := ⟨RX3, "countInMessage", "(I)I"⟩
abbrev cX3_isStrip : ByteArray := prog_5_method_22_code
def yX3_isStrip : MethodName := ⟨RX3, "isStrip", "(II)Z"⟩
abbrev cX3_cellsOfStrip : ByteArray := prog_5_method_23_code
def yX3_cellsOfStrip : MethodName := ⟨RX3, "cellsOfStrip", "(II)J"⟩
abbrev cX3_lettersFrom : ByteArray := prog_5_method_24_code
def yX3_lettersFrom : MethodName := ⟨RX3, "lettersFrom", "(II)I"⟩
abbrev cX3_take : ByteArray := prog_5_method_25_code
def yX3_take : MethodName := ⟨RX3, "take", "(JI)V"⟩
def RX4 : String := "LetterCuts"
def TX4 : u_T := fun k => match k with
  | 0 => ("LetterCuts", "buffer", "[B", true)
  | 1 => ("LetterCuts", "bufferLength", "I", false)
  | 2 => ("LetterCuts", "latestErrorOffset", "I", false)
  | 3 => ("LetterCuts", "sheet", "LLetterCuts$Sheet;", true)
  | 4 => ("LetterCuts", "past", "[LLetterCuts$Sheet;", true)
  | 5 => ("LetterCuts", "pastCount", "I", false)
  | 6 => ("LetterCuts", "reader", "LLetterCuts$SetupReader;", true)
  | 7 => ("LetterCuts", "matching", "LLetterCuts$Matching;", true)
  | 8 => ("LetterCuts", "planner", "LLetterCuts$Planner;", true)
  | _ => ("LetterCuts", "planKnown", "Z", false)
def tyX4 : Nat → FieldType := fun k => match k with
  | 0 => .array .byte
  | 1 => .int
  | 2 => .int
  | 3 => .object "LetterCuts$Sheet"
  | 4 => .array (.object "LetterCuts$Sheet")
  | 5 => .int
  | 6 => .object "LetterCuts$SetupReader"
  | 7 => .object "LetterCuts$Matching"
  | 8 => .object "LetterCuts$Planner"
  | _ => .boolean
theorem nmX4 : ∀ a, a < 10 → ∀ b, b < 10 → a ≠ b → (TX4 a).2.1 ≠ (TX4 b).2.1 := by decide +kernel
theorem tyX4_ok : ∀ k, k < 10 → parseFieldDescriptor (TX4 k).2.2.1 = some (tyX4 k) := by decide +kernel
abbrev cX4_init : ByteArray := prog_1_method_1_code
def yX4_init : MethodName := ⟨RX4, "<init>", "()V"⟩
abbrev cX4_append : ByteArray := prog_1_method_2_code
def yX4_append : MethodName := ⟨RX4, "append", "(IIIII)I"⟩
abbrev cX4_load : ByteArray := prog_1_method_3_code
def yX4_load : MethodName := ⟨RX4, "load", "(I)I"⟩
abbrev cX4_errorOffset : ByteArray := prog_1_method_4_code
def yX4_errorOffset : MethodName := ⟨RX4, "errorOffset", "()I"⟩
abbrev cX4_state : ByteArray := prog_1_method_5_code
def yX4_state : MethodName := ⟨RX4, "state", "(I)I"⟩
abbrev cX4_letter : ByteArray := prog_1_method_6_code
def yX4_letter : MethodName := ⟨RX4, "letter", "(II)I"⟩
abbrev cX4_place : ByteArray := prog_1_method_7_code
def yX4_place : MethodName := ⟨RX4, "place", "(III)I"⟩
abbrev cX4_stock : ByteArray := prog_1_method_8_code
def yX4_stock : MethodName := ⟨RX4, "stock", "(II)I"⟩
abbrev cX4_message : ByteArray := prog_1_method_9_code
def yX4_message : MethodName := ⟨RX4, "message", "(I)I"⟩
abbrev cX4_missing : ByteArray := prog_1_method_10_code
def yX4_missing : MethodName := ⟨RX4, "missing", "()I"⟩
abbrev cX4_cutOf : ByteArray := prog_1_method_12_code
def yX4_cutOf : MethodName := ⟨RX4, "cutOf", "(II)I"⟩
abbrev cX4_longest : ByteArray := prog_1_method_15_code
def yX4_longest : MethodName := ⟨RX4, "longest", "(I)I"⟩
abbrev cX4_clashes : ByteArray := prog_1_method_16_code
def yX4_clashes : MethodName := ⟨RX4, "clashes", "()I"⟩
abbrev cX4_tell : ByteArray := prog_1_method_18_code
def yX4_tell : MethodName := ⟨RX4, "tell", "(I)I"⟩
abbrev cX4_cut : ByteArray := prog_1_method_19_code
def yX4_cut : MethodName := ⟨RX4, "cut", "()I"⟩
abbrev cX4_snip : ByteArray := prog_1_method_20_code
def yX4_snip : MethodName := ⟨RX4, "snip", "(III)I"⟩
abbrev cX4_least : ByteArray := prog_1_method_21_code
def yX4_least : MethodName := ⟨RX4, "least", "(I)I"⟩
abbrev cX4_mend : ByteArray := prog_1_method_22_code
def yX4_mend : MethodName := ⟨RX4, "mend", "(I)I"⟩
abbrev cX4_undo : ByteArray := prog_1_method_23_code
def yX4_undo : MethodName := ⟨RX4, "undo", "()I"⟩
abbrev cX4_checksum : ByteArray := prog_1_method_24_code
def yX4_checksum : MethodName := ⟨RX4, "checksum", "()J"⟩
abbrev cX4_putWord : ByteArray := prog_1_method_25_code
def yX4_putWord : MethodName := ⟨RX4, "putWord", "(I)V"⟩
abbrev cX4_startsWithLetters : ByteArray := prog_1_method_26_code
def yX4_startsWithLetters : MethodName := ⟨RX4, "startsWithLetters", "(I)Z"⟩
abbrev cX4_remember : ByteArray := prog_1_method_27_code
def yX4_remember : MethodName := ⟨RX4, "remember", "()V"⟩
abbrev cX4_makeOldestFinal : ByteArray := prog_1_method_28_code
def yX4_makeOldestFinal : MethodName := ⟨RX4, "makeOldestFinal", "()V"⟩
abbrev cX4_letterOrGone : ByteArray := prog_1_method_29_code
def yX4_letterOrGone : MethodName := ⟨RX4, "letterOrGone", "(I)I"⟩
abbrev cX4_isUsedByMessage : ByteArray := prog_1_method_30_code
def yX4_isUsedByMessage : MethodName := ⟨RX4, "isUsedByMessage", "(I)Z"⟩
abbrev cX4_bestCuts : ByteArray := prog_1_method_31_code
def yX4_bestCuts : MethodName := ⟨RX4, "bestCuts", "()I"⟩
abbrev cX4_sizeOfCut : ByteArray := prog_1_method_32_code
def yX4_sizeOfCut : MethodName := ⟨RX4, "sizeOfCut", "(I)I"⟩
abbrev cX4_sizesOfCut : ByteArray := prog_1_method_33_code
def yX4_sizesOfCut : MethodName := ⟨RX4, "sizesOfCut", "(I)I"⟩
abbrev cX4_isLetter : ByteArray := prog_1_method_34_code
def yX4_isLetter : MethodName := ⟨RX4, "isLetter", "(I)Z"⟩
abbrev cX4_sideOf : ByteArray := prog_1_method_35_code
def yX4_sideOf : MethodName := ⟨RX4, "sideOf", "(I)I"⟩
abbrev cX4_rowOf : ByteArray := prog_1_method_36_code
def yX4_rowOf : MethodName := ⟨RX4, "rowOf", "(I)I"⟩
abbrev cX4_columnOf : ByteArray := prog_1_method_37_code
def yX4_columnOf : MethodName := ⟨RX4, "columnOf", "(I)I"⟩
def RX5 : String := "LetterCutsLaw$Random"
def TX5 : u_T := fun k => match k with
  | _ => ("LetterCutsLaw$Random", "seed", "I", false)
def tyX5 : Nat → FieldType := fun k => match k with
  | _ => .int
theorem nmX5 : ∀ a, a < 1 → ∀ b, b < 1 → a ≠ b → (TX5 a).2.1 ≠ (TX5 b).2.1 := by decide +kernel
theorem tyX5_ok : ∀ k, k < 1 → parseFieldDescriptor (TX5 k).2.2.1 = some (tyX5 k) := by decide +kernel
abbrev cX5_init : ByteArray := prog_7_method_1_code
def yX5_init : MethodName := ⟨RX5, "<init>", "(I)V"⟩
abbrev cX5_below : ByteArray := prog_7_method_2_code
def yX5_below : MethodName := ⟨RX5, "below", "(I)I"⟩
def RX6 : String := "LetterCutsLaw$Sheet"
def TX6 : u_T := fun k => match k with
  | 0 => ("LetterCutsLaw$Sheet", "width", "I", false)
  | 1 => ("LetterCutsLaw$Sheet", "height", "I", false)
  | 2 => ("LetterCutsLaw$Sheet", "lines", "[Ljava/lang/String;", false)
  | 3 => ("LetterCutsLaw$Sheet", "sizes", "[I", false)
  | 4 => ("LetterCutsLaw$Sheet", "least", "I", false)
  | 5 => ("LetterCutsLaw$Sheet", "isGone", "[Z", false)
  | 6 => ("LetterCutsLaw$Sheet", "message", "Ljava/lang/String;", false)
  | 7 => ("LetterCutsLaw$Sheet", "cuts", "I", false)
  | 8 => ("LetterCutsLaw$Sheet", "letters", "I", false)
  | 9 => ("LetterCutsLaw$Sheet", "now", "[I", true)
  | 10 => ("LetterCutsLaw$Sheet", "best", "[I", true)
  | 11 => ("LetterCutsLaw$Sheet", "bestCuts", "I", false)
  | _ => ("LetterCutsLaw$Sheet", "taken", "J", false)
def tyX6 : Nat → FieldType := fun k => match k with
  | 0 => .int
  | 1 => .int
  | 2 => .array (.object "java/lang/String")
  | 3 => .array .int
  | 4 => .int
  | 5 => .array .boolean
  | 6 => .object "java/lang/String"
  | 7 => .int
  | 8 => .int
  | 9 => .array .int
  | 10 => .array .int
  | 11 => .int
  | _ => .long
theorem nmX6 : ∀ a, a < 13 → ∀ b, b < 13 → a ≠ b → (TX6 a).2.1 ≠ (TX6 b).2.1 := by decide +kernel
theorem tyX6_ok : ∀ k, k < 13 → parseFieldDescriptor (TX6 k).2.2.1 = some (tyX6 k) := by decide +kernel
abbrev cX6_init : ByteArray := prog_8_method_1_code
def yX6_init : MethodName := ⟨RX6, "<init>", "()V"⟩
abbrev cX6_copy : ByteArray := prog_8_method_2_code
def yX6_copy : MethodName := ⟨RX6, "copy", "()LLetterCutsLaw$Sheet;"⟩
abbrev cX6_all : ByteArray := prog_8_method_3_code
def yX6_all : MethodName := ⟨RX6, "all", "()I"⟩
abbrev cX6_sign : ByteArray := prog_8_method_4_code
def yX6_sign : MethodName := ⟨RX6, "sign", "(II)C"⟩
abbrev cX6_size : ByteArray := prog_8_method_5_code
def yX6_size : MethodName := ⟨RX6, "size", "(II)I"⟩
abbrev cX6_cell : ByteArray := prog_8_method_6_code
def yX6_cell : MethodName := ⟨RX6, "cell", "(II)I"⟩
abbrev cX6_canUse : ByteArray := prog_8_method_7_code
def yX6_canUse : MethodName := ⟨RX6, "canUse", "(II)Z"⟩
abbrev cX6_has : ByteArray := prog_8_method_8_code
def yX6_has : MethodName := ⟨RX6, "has", "(IC)Z"⟩
abbrev cX6_letter : ByteArray := prog_8_method_9_code
def yX6_letter : MethodName := ⟨RX6, "letter", "(II)I"⟩
abbrev cX6_many : ByteArray := prog_8_method_10_code
def yX6_many : MethodName := ⟨RX6, "many", "(C)I"⟩
abbrev cX6_missing : ByteArray := prog_8_method_11_code
def yX6_missing : MethodName := ⟨RX6, "missing", "()I"⟩
abbrev cX6_isStrip : ByteArray := prog_8_method_12_code
def yX6_isStrip : MethodName := ⟨RX6, "isStrip", "(III)Z"⟩
abbrev cX6_says : ByteArray := prog_8_method_13_code
def yX6_says : MethodName := ⟨RX6, "says", "(IIII)Z"⟩
abbrev cX6_isAhead : ByteArray := prog_8_method_15_code
def yX6_isAhead : MethodName := ⟨RX6, "isAhead", "(I)Z"⟩
abbrev cX6_tries : ByteArray := prog_8_method_16_code
def yX6_tries : MethodName := ⟨RX6, "tries", "(II)V"⟩
abbrev cX6_plan : ByteArray := prog_8_method_17_code
def yX6_plan : MethodName := ⟨RX6, "plan", "()I"⟩
abbrev cX6_ofCut : ByteArray := prog_8_method_18_code
def yX6_ofCut : MethodName := ⟨RX6, "ofCut", "(II)I"⟩
abbrev cX6_cutsOff : ByteArray := prog_8_method_20_code
def yX6_cutsOff : MethodName := ⟨RX6, "cutsOff", "(III)V"⟩
abbrev cX6_cutsPlan : ByteArray := prog_8_method_21_code
def yX6_cutsPlan : MethodName := ⟨RX6, "cutsPlan", "(I)V"⟩
abbrev cX6_there : ByteArray := prog_8_method_22_code
def yX6_there : MethodName := ⟨RX6, "there", "()I"⟩
abbrev cX6_clashes : ByteArray := prog_8_method_23_code
def yX6_clashes : MethodName := ⟨RX6, "clashes", "()I"⟩
abbrev cX6_told : ByteArray := prog_8_method_24_code
def yX6_told : MethodName := ⟨RX6, "told", "(I)I"⟩
abbrev cX6_checksum : ByteArray := prog_8_method_25_code
def yX6_checksum : MethodName := ⟨RX6, "checksum", "()J"⟩
def RX7 : String := "LetterCutsModel"
def TX7 : u_T := fun k => match k with
  | _ => ("", "", "", false)
def tyX7 : Nat → FieldType := fun k => match k with
  | _ => .int
theorem nmX7 : ∀ a, a < 0 → ∀ b, b < 0 → a ≠ b → (TX7 a).2.1 ≠ (TX7 b).2.1 := by decide +kernel
theorem tyX7_ok : ∀ k, k < 0 → parseFieldDescriptor (TX7 k).2.2.1 = some (tyX7 k) := by decide +kernel
def RJx145de : String := "java/io/Serializable"
def TJx145de : u_T := fun k => match k with
  | _ => ("", "", "", false)
def tyJx145de : Nat → FieldType := fun k => match k with
  | _ => .int
theorem nmJx145de : ∀ a, a < 0 → ∀ b, b < 0 → a ≠ b → (TJx145de a).2.1 ≠ (TJx145de b).2.1 := by decide +kernel
theorem tyJx145de_ok : ∀ k, k < 0 → parseFieldDescriptor (TJx145de k).2.2.1 = some (tyJx145de k) := by decide +kernel
def RJ5 : String := "java/lang/AbstractStringBuilder"
def TJ5 : u_T := fun k => match k with
  | _ => ("", "", "", false)
def tyJ5 : Nat → FieldType := fun k => match k with
  | _ => .int
theorem nmJ5 : ∀ a, a < 0 → ∀ b, b < 0 → a ≠ b → (TJ5 a).2.1 ≠ (TJ5 b).2.1 := by decide +kernel
theorem tyJ5_ok : ∀ k, k < 0 → parseFieldDescriptor (TJ5 k).2.2.1 = some (tyJ5 k) := by decide +kernel
abbrev cJ5_init_d00df : ByteArray := prog_11_method_2_code
def yJ5_init_d00df : MethodName := ⟨RJ5, "<init>", "(I)V"⟩
abbrev cJ5_length_8abf5 : ByteArray := prog_11_method_6_code
def yJ5_length_8abf5 : MethodName := ⟨RJ5, "length", "()I"⟩
abbrev cJ5_ensureCapacityInternal_d00df : ByteArray := prog_11_method_9_code
def yJ5_ensureCapacityInternal_d00df : MethodName := ⟨RJ5, "ensureCapacityInternal", "(I)V"⟩
abbrev cJ5_newCapacity_0f7a4 : ByteArray := prog_11_method_10_code
def yJ5_newCapacity_0f7a4 : MethodName := ⟨RJ5, "newCapacity", "(I)I"⟩
abbrev cJ5_inflate_da8c8 : ByteArray := prog_11_method_11_code
def yJ5_inflate_da8c8 : MethodName := ⟨RJ5, "inflate", "()V"⟩
abbrev cJ5_append_cf1ce : ByteArray := prog_11_method_22_code
def yJ5_append_cf1ce : MethodName := ⟨RJ5, "append", "(Ljava/lang/String;)Ljava/lang/AbstractStringBuilder;"⟩
abbrev cJ5_appendNull_278bc : ByteArray := prog_11_method_26_code
def yJ5_appendNull_278bc : MethodName := ⟨RJ5, "appendNull", "()Ljava/lang/AbstractStringBuilder;"⟩
abbrev cJ5_append_3fe6f : ByteArray := prog_11_method_31_code
def yJ5_append_3fe6f : MethodName := ⟨RJ5, "append", "(C)Ljava/lang/AbstractStringBuilder;"⟩
abbrev cJ5_append_c97b9 : ByteArray := prog_11_method_32_code
def yJ5_append_c97b9 : MethodName := ⟨RJ5, "append", "(I)Ljava/lang/AbstractStringBuilder;"⟩
abbrev cJ5_getValue_6d5f1 : ByteArray := prog_11_method_64_code
def yJ5_getValue_6d5f1 : MethodName := ⟨RJ5, "getValue", "()[B"⟩
abbrev cJ5_isLatin1_aae02 : ByteArray := prog_11_method_68_code
def yJ5_isLatin1_aae02 : MethodName := ⟨RJ5, "isLatin1", "()Z"⟩
abbrev cJ5_inflateIfNeededFor_a7421 : ByteArray := prog_11_method_71_code
def yJ5_inflateIfNeededFor_a7421 : MethodName := ⟨RJ5, "inflateIfNeededFor", "(Ljava/lang/String;)V"⟩
abbrev cJ5_putStringAt_47b60 : ByteArray := prog_11_method_73_code
def yJ5_putStringAt_47b60 : MethodName := ⟨RJ5, "putStringAt", "(ILjava/lang/String;)V"⟩
def RJx2cfe8 : String := "java/lang/Appendable"
def TJx2cfe8 : u_T := fun k => match k with
  | _ => ("", "", "", false)
def tyJx2cfe8 : Nat → FieldType := fun k => match k with
  | _ => .int
theorem nmJx2cfe8 : ∀ a, a < 0 → ∀ b, b < 0 → a ≠ b → (TJx2cfe8 a).2.1 ≠ (TJx2cfe8 b).2.1 := by decide +kernel
theorem tyJx2cfe8_ok : ∀ k, k < 0 → parseFieldDescriptor (TJx2cfe8 k).2.2.1 = some (tyJx2cfe8 k) := by decide +kernel
def RJx9f9b0 : String := "java/lang/CharSequence"
def TJx9f9b0 : u_T := fun k => match k with
  | _ => ("", "", "", false)
def tyJx9f9b0 : Nat → FieldType := fun k => match k with
  | _ => .int
theorem nmJx9f9b0 : ∀ a, a < 0 → ∀ b, b < 0 → a ≠ b → (TJx9f9b0 a).2.1 ≠ (TJx9f9b0 b).2.1 := by decide +kernel
theorem tyJx9f9b0_ok : ∀ k, k < 0 → parseFieldDescriptor (TJx9f9b0 k).2.2.1 = some (tyJx9f9b0 k) := by decide +kernel
def RJx8e188 : String := "java/lang/Cloneable"
def TJx8e188 : u_T := fun k => match k with
  | _ => ("", "", "", false)
def tyJx8e188 : Nat → FieldType := fun k => match k with
  | _ => .int
theorem nmJx8e188 : ∀ a, a < 0 → ∀ b, b < 0 → a ≠ b → (TJx8e188 a).2.1 ≠ (TJx8e188 b).2.1 := by decide +kernel
theorem tyJx8e188_ok : ∀ k, k < 0 → parseFieldDescriptor (TJx8e188 k).2.2.1 = some (tyJx8e188 k) := by decide +kernel
def RJxb160c : String := "java/lang/Comparable"
def TJxb160c : u_T := fun k => match k with
  | _ => ("", "", "", false)
def tyJxb160c : Nat → FieldType := fun k => match k with
  | _ => .int
theorem nmJxb160c : ∀ a, a < 0 → ∀ b, b < 0 → a ≠ b → (TJxb160c a).2.1 ≠ (TJxb160c b).2.1 := by decide +kernel
theorem tyJxb160c_ok : ∀ k, k < 0 → parseFieldDescriptor (TJxb160c k).2.2.1 = some (tyJxb160c k) := by decide +kernel
def RJ6 : String := "java/lang/Integer"
def TJ6 : u_T := fun k => match k with
  | _ => ("", "", "", false)
def tyJ6 : Nat → FieldType := fun k => match k with
  | _ => .int
theorem nmJ6 : ∀ a, a < 0 → ∀ b, b < 0 → a ≠ b → (TJ6 a).2.1 ≠ (TJ6 b).2.1 := by decide +kernel
theorem tyJ6_ok : ∀ k, k < 0 → parseFieldDescriptor (TJ6 k).2.2.1 = some (tyJ6 k) := by decide +kernel
abbrev cJ6_getChars_ba4f3 : ByteArray := prog_20_method_12_code
def yJ6_getChars_ba4f3 : MethodName := ⟨RJ6, "getChars", "(II[B)I"⟩
abbrev cJ6_stringSize_0f7a4 : ByteArray := prog_20_method_13_code
def yJ6_stringSize_0f7a4 : MethodName := ⟨RJ6, "stringSize", "(I)I"⟩
abbrev cJ6_bitCount_0f7a4 : ByteArray := prog_20_method_49_code
def yJ6_bitCount_0f7a4 : MethodName := ⟨RJ6, "bitCount", "(I)I"⟩
def RJ13 : String := "java/lang/Long"
def TJ13 : u_T := fun k => match k with
  | _ => ("", "", "", false)
def tyJ13 : Nat → FieldType := fun k => match k with
  | _ => .int
theorem nmJ13 : ∀ a, a < 0 → ∀ b, b < 0 → a ≠ b → (TJ13 a).2.1 ≠ (TJ13 b).2.1 := by decide +kernel
theorem tyJ13_ok : ∀ k, k < 0 → parseFieldDescriptor (TJ13 k).2.2.1 = some (tyJ13 k) := by decide +kernel
abbrev cJ13_bitCount_95d88 : ByteArray := prog_21_method_50_code
def yJ13_bitCount_95d88 : MethodName := ⟨RJ13, "bitCount", "(J)I"⟩
def RJ9 : String := "java/lang/Math"
def TJ9 : u_T := fun k => match k with
  | _ => ("", "", "", false)
def tyJ9 : Nat → FieldType := fun k => match k with
  | _ => .int
theorem nmJ9 : ∀ a, a < 0 → ∀ b, b < 0 → a ≠ b → (TJ9 a).2.1 ≠ (TJ9 b).2.1 := by decide +kernel
theorem tyJ9_ok : ∀ k, k < 0 → parseFieldDescriptor (TJ9 k).2.2.1 = some (tyJ9 k) := by decide +kernel
abbrev cJ9_max_7cf53 : ByteArray := prog_22_method_65_code
def yJ9_max_7cf53 : MethodName := ⟨RJ9, "max", "(II)I"⟩
abbrev cJ9_min_7cf53 : ByteArray := prog_22_method_69_code
def yJ9_min_7cf53 : MethodName := ⟨RJ9, "min", "(II)I"⟩
def RJxd2413 : String := "java/lang/Number"
def TJxd2413 : u_T := fun k => match k with
  | _ => ("", "", "", false)
def tyJxd2413 : Nat → FieldType := fun k => match k with
  | _ => .int
theorem nmJxd2413 : ∀ a, a < 0 → ∀ b, b < 0 → a ≠ b → (TJxd2413 a).2.1 ≠ (TJxd2413 b).2.1 := by decide +kernel
theorem tyJxd2413_ok : ∀ k, k < 0 → parseFieldDescriptor (TJxd2413 k).2.2.1 = some (tyJxd2413 k) := by decide +kernel
def RJ0 : String := "java/lang/String"
def TJ0 : u_T := fun k => match k with
  | 0 => ("java/lang/String", "value", "[B", true)
  | 1 => ("java/lang/String", "coder", "B", true)
  | 2 => ("java/lang/String", "hash", "I", false)
  | _ => ("java/lang/String", "hashIsZero", "Z", false)
def tyJ0 : Nat → FieldType := fun k => match k with
  | 0 => .array .byte
  | 1 => .byte
  | 2 => .int
  | _ => .boolean
theorem nmJ0 : ∀ a, a < 4 → ∀ b, b < 4 → a ≠ b → (TJ0 a).2.1 ≠ (TJ0 b).2.1 := by decide +kernel
theorem tyJ0_ok : ∀ k, k < 4 → parseFieldDescriptor (TJ0 k).2.2.1 = some (tyJ0 k) := by decide +kernel
abbrev cJ0_init_81219 : ByteArray := prog_25_method_53_code
def yJ0_init_81219 : MethodName := ⟨RJ0, "<init>", "(Ljava/lang/StringBuilder;)V"⟩
abbrev cJ0_length_8abf5 : ByteArray := prog_25_method_54_code
def yJ0_length_8abf5 : MethodName := ⟨RJ0, "length", "()I"⟩
abbrev cJ0_charAt_5068e : ByteArray := prog_25_method_56_code
def yJ0_charAt_5068e : MethodName := ⟨RJ0, "charAt", "(I)C"⟩
abbrev cJ0_getBytes_840e7 : ByteArray := prog_25_method_147_code
def yJ0_getBytes_840e7 : MethodName := ⟨RJ0, "getBytes", "([BIB)V"⟩
abbrev cJ0_init_db425 : ByteArray := prog_25_method_150_code
def yJ0_init_db425 : MethodName := ⟨RJ0, "<init>", "(Ljava/lang/AbstractStringBuilder;Ljava/lang/Void;)V"⟩
abbrev cJ0_coder_7d493 : ByteArray := prog_25_method_152_code
def yJ0_coder_7d493 : MethodName := ⟨RJ0, "coder", "()B"⟩
abbrev cJ0_isLatin1_aae02 : ByteArray := prog_25_method_154_code
def yJ0_isLatin1_aae02 : MethodName := ⟨RJ0, "isLatin1", "()Z"⟩
abbrev cJ0_checkIndex_df160 : ByteArray := prog_25_method_155_code
def yJ0_checkIndex_df160 : MethodName := ⟨RJ0, "checkIndex", "(II)V"⟩
abbrev cJ0_checkBoundsOffCount_cabcc : ByteArray := prog_25_method_157_code
def yJ0_checkBoundsOffCount_cabcc : MethodName := ⟨RJ0, "checkBoundsOffCount", "(III)I"⟩
abbrev cJ0_checkBoundsBeginEnd_23922 : ByteArray := prog_25_method_158_code
def yJ0_checkBoundsBeginEnd_23922 : MethodName := ⟨RJ0, "checkBoundsBeginEnd", "(III)V"⟩
def RJ4 : String := "java/lang/StringBuilder"
def TJ4 : u_T := fun k => match k with
  | 0 => ("java/lang/AbstractStringBuilder", "value", "[B", false)
  | 1 => ("java/lang/AbstractStringBuilder", "coder", "B", false)
  | 2 => ("java/lang/AbstractStringBuilder", "maybeLatin1", "Z", false)
  | _ => ("java/lang/AbstractStringBuilder", "count", "I", false)
def tyJ4 : Nat → FieldType := fun k => match k with
  | 0 => .array .byte
  | 1 => .byte
  | 2 => .boolean
  | _ => .int
theorem nmJ4 : ∀ a, a < 4 → ∀ b, b < 4 → a ≠ b → (TJ4 a).2.1 ≠ (TJ4 b).2.1 := by decide +kernel
theorem tyJ4_ok : ∀ k, k < 4 → parseFieldDescriptor (TJ4 k).2.2.1 = some (tyJ4 k) := by decide +kernel
abbrev cJ4_init_da8c8 : ByteArray := prog_26_method_1_code
def yJ4_init_da8c8 : MethodName := ⟨RJ4, "<init>", "()V"⟩
abbrev cJ4_append_15ec4 : ByteArray := prog_26_method_7_code
def yJ4_append_15ec4 : MethodName := ⟨RJ4, "append", "(Ljava/lang/String;)Ljava/lang/StringBuilder;"⟩
abbrev cJ4_append_cf468 : ByteArray := prog_26_method_14_code
def yJ4_append_cf468 : MethodName := ⟨RJ4, "append", "(C)Ljava/lang/StringBuilder;"⟩
abbrev cJ4_append_bf812 : ByteArray := prog_26_method_15_code
def yJ4_append_bf812 : MethodName := ⟨RJ4, "append", "(I)Ljava/lang/StringBuilder;"⟩
abbrev cJ4_toString_0e30d : ByteArray := prog_26_method_42_code
def yJ4_toString_0e30d : MethodName := ⟨RJ4, "toString", "()Ljava/lang/String;"⟩
abbrev cJ4_length_8abf5 : ByteArray := prog_26_method_93_code
def yJ4_length_8abf5 : MethodName := ⟨RJ4, "length", "()I"⟩
def RJ1 : String := "java/lang/StringLatin1"
def TJ1 : u_T := fun k => match k with
  | _ => ("", "", "", false)
def tyJ1 : Nat → FieldType := fun k => match k with
  | _ => .int
theorem nmJ1 : ∀ a, a < 0 → ∀ b, b < 0 → a ≠ b → (TJ1 a).2.1 ≠ (TJ1 b).2.1 := by decide +kernel
theorem tyJ1_ok : ∀ k, k < 0 → parseFieldDescriptor (TJ1 k).2.2.1 = some (tyJ1 k) := by decide +kernel
abbrev cJ1_charAt_3b067 : ByteArray := prog_27_method_2_code
def yJ1_charAt_3b067 : MethodName := ⟨RJ1, "charAt", "([BI)C"⟩
abbrev cJ1_canEncode_fc78d : ByteArray := prog_27_method_3_code
def yJ1_canEncode_fc78d : MethodName := ⟨RJ1, "canEncode", "(C)Z"⟩
abbrev cJ1_inflate_0e8fd : ByteArray := prog_27_method_50_code
def yJ1_inflate_0e8fd : MethodName := ⟨RJ1, "inflate", "([BI[BII)V"⟩
def RJ2 : String := "java/lang/StringUTF16"
def TJ2 : u_T := fun k => match k with
  | _ => ("", "", "", false)
def tyJ2 : Nat → FieldType := fun k => match k with
  | _ => .int
theorem nmJ2 : ∀ a, a < 0 → ∀ b, b < 0 → a ≠ b → (TJ2 a).2.1 ≠ (TJ2 b).2.1 := by decide +kernel
theorem tyJ2_ok : ∀ k, k < 0 → parseFieldDescriptor (TJ2 k).2.2.1 = some (tyJ2 k) := by decide +kernel
abbrev cJ2_newBytesFor_77867 : ByteArray := prog_28_method_2_code
def yJ2_newBytesFor_77867 : MethodName := ⟨RJ2, "newBytesFor", "(I)[B"⟩
abbrev cJ2_newBytesLength_0f7a4 : ByteArray := prog_28_method_3_code
def yJ2_newBytesLength_0f7a4 : MethodName := ⟨RJ2, "newBytesLength", "(I)I"⟩
abbrev cJ2_putChar_b72d1 : ByteArray := prog_28_method_4_code
def yJ2_putChar_b72d1 : MethodName := ⟨RJ2, "putChar", "([BII)V"⟩
abbrev cJ2_getChar_3b067 : ByteArray := prog_28_method_5_code
def yJ2_getChar_3b067 : MethodName := ⟨RJ2, "getChar", "([BI)C"⟩
abbrev cJ2_length_9d52b : ByteArray := prog_28_method_6_code
def yJ2_length_9d52b : MethodName := ⟨RJ2, "length", "([B)I"⟩
abbrev cJ2_coderFromArrayLen_85cad : ByteArray := prog_28_method_15_code
def yJ2_coderFromArrayLen_85cad : MethodName := ⟨RJ2, "coderFromArrayLen", "([BI)B"⟩
abbrev cJ2_compress_39247 : ByteArray := prog_28_method_17_code
def yJ2_compress_39247 : MethodName := ⟨RJ2, "compress", "([BII)[B"⟩
abbrev cJ2_compress_5af95 : ByteArray := prog_28_method_22_code
def yJ2_compress_5af95 : MethodName := ⟨RJ2, "compress", "([BI[BII)I"⟩
abbrev cJ2_putCharSB_b72d1 : ByteArray := prog_28_method_71_code
def yJ2_putCharSB_b72d1 : MethodName := ⟨RJ2, "putCharSB", "([BII)V"⟩
abbrev cJ2_getChars_46870 : ByteArray := prog_28_method_77_code
def yJ2_getChars_46870 : MethodName := ⟨RJ2, "getChars", "(III[B)I"⟩
abbrev cJ2_putCharsAt_cd4e5 : ByteArray := prog_28_method_81_code
def yJ2_putCharsAt_cd4e5 : MethodName := ⟨RJ2, "putCharsAt", "([BICCCC)I"⟩
abbrev cJ2_charAt_3b067 : ByteArray := prog_28_method_83_code
def yJ2_charAt_3b067 : MethodName := ⟨RJ2, "charAt", "([BI)C"⟩
abbrev cJ2_inflate_0e8fd : ByteArray := prog_28_method_86_code
def yJ2_inflate_0e8fd : MethodName := ⟨RJ2, "inflate", "([BI[BII)V"⟩
abbrev cJ2_getChars_ba4f3 : ByteArray := prog_28_method_89_code
def yJ2_getChars_ba4f3 : MethodName := ⟨RJ2, "getChars", "(II[B)I"⟩
abbrev cJ2_checkIndex_2214a : ByteArray := prog_28_method_91_code
def yJ2_checkIndex_2214a : MethodName := ⟨RJ2, "checkIndex", "(I[B)V"⟩
abbrev cJ2_checkBoundsBeginEnd_d044e : ByteArray := prog_28_method_93_code
def yJ2_checkBoundsBeginEnd_d044e : MethodName := ⟨RJ2, "checkBoundsBeginEnd", "(II[B)V"⟩
abbrev cJ2_checkBoundsOffCount_d044e : ByteArray := prog_28_method_94_code
def yJ2_checkBoundsOffCount_d044e : MethodName := ⟨RJ2, "checkBoundsOffCount", "(II[B)V"⟩
def RJ10 : String := "java/lang/System"
def TJ10 : u_T := fun k => match k with
  | _ => ("", "", "", false)
def tyJ10 : Nat → FieldType := fun k => match k with
  | _ => .int
theorem nmJ10 : ∀ a, a < 0 → ∀ b, b < 0 → a ≠ b → (TJ10 a).2.1 ≠ (TJ10 b).2.1 := by decide +kernel
theorem tyJ10_ok : ∀ k, k < 0 → parseFieldDescriptor (TJ10 k).2.2.1 = some (tyJ10 k) := by decide +kernel
def RJxfd54e : String := "java/lang/constant/Constable"
def TJxfd54e : u_T := fun k => match k with
  | _ => ("", "", "", false)
def tyJxfd54e : Nat → FieldType := fun k => match k with
  | _ => .int
theorem nmJxfd54e : ∀ a, a < 0 → ∀ b, b < 0 → a ≠ b → (TJxfd54e a).2.1 ≠ (TJxfd54e b).2.1 := by decide +kernel
theorem tyJxfd54e_ok : ∀ k, k < 0 → parseFieldDescriptor (TJxfd54e k).2.2.1 = some (tyJxfd54e k) := by decide +kernel
def RJx3cf43 : String := "java/lang/constant/ConstantDesc"
def TJx3cf43 : u_T := fun k => match k with
  | _ => ("", "", "", false)
def tyJx3cf43 : Nat → FieldType := fun k => match k with
  | _ => .int
theorem nmJx3cf43 : ∀ a, a < 0 → ∀ b, b < 0 → a ≠ b → (TJx3cf43 a).2.1 ≠ (TJx3cf43 b).2.1 := by decide +kernel
theorem tyJx3cf43_ok : ∀ k, k < 0 → parseFieldDescriptor (TJx3cf43 k).2.2.1 = some (tyJx3cf43 k) := by decide +kernel
def RJ7 : String := "java/util/Arrays"
def TJ7 : u_T := fun k => match k with
  | _ => ("", "", "", false)
def tyJ7 : Nat → FieldType := fun k => match k with
  | _ => .int
theorem nmJ7 : ∀ a, a < 0 → ∀ b, b < 0 → a ≠ b → (TJ7 a).2.1 ≠ (TJ7 b).2.1 := by decide +kernel
theorem tyJ7_ok : ∀ k, k < 0 → parseFieldDescriptor (TJ7 k).2.2.1 = some (tyJ7 k) := by decide +kernel
abbrev cJ7_fill_53178 : ByteArray := prog_33_method_103_code
def yJ7_fill_53178 : MethodName := ⟨RJ7, "fill", "([II)V"⟩
abbrev cJ7_copyOf_9075b : ByteArray := prog_33_method_121_code
def yJ7_copyOf_9075b : MethodName := ⟨RJ7, "copyOf", "([BI)[B"⟩
abbrev cJ7_checkLength_df160 : ByteArray := prog_33_method_131_code
def yJ7_checkLength_df160 : MethodName := ⟨RJ7, "checkLength", "(II)V"⟩
abbrev cJ7_copyOfRange_39247 : ByteArray := prog_33_method_132_code
def yJ7_copyOfRange_39247 : MethodName := ⟨RJ7, "copyOfRange", "([BII)[B"⟩
abbrev cJ7_copyOfRangeByte_39247 : ByteArray := prog_33_method_133_code
def yJ7_copyOfRangeByte_39247 : MethodName := ⟨RJ7, "copyOfRangeByte", "([BII)[B"⟩
def RJ8 : String := "jdk/internal/util/ArraysSupport"
def TJ8 : u_T := fun k => match k with
  | _ => ("", "", "", false)
def tyJ8 : Nat → FieldType := fun k => match k with
  | _ => .int
theorem nmJ8 : ∀ a, a < 0 → ∀ b, b < 0 → a ≠ b → (TJ8 a).2.1 ≠ (TJ8 b).2.1 := by decide +kernel
theorem tyJ8_ok : ∀ k, k < 0 → parseFieldDescriptor (TJ8 k).2.2.1 = some (tyJ8 k) := by decide +kernel
abbrev cJ8_newLength_cabcc : ByteArray := prog_35_method_27_code
def yJ8_newLength_cabcc : MethodName := ⟨RJ8, "newLength", "(III)I"⟩
abbrev cJ8_hugeLength_7cf53 : ByteArray := prog_35_method_28_code
def yJ8_hugeLength_7cf53 : MethodName := ⟨RJ8, "hugeLength", "(II)I"⟩
def RJ3 : String := "jdk/internal/util/Preconditions"
def TJ3 : u_T := fun k => match k with
  | _ => ("", "", "", false)
def tyJ3 : Nat → FieldType := fun k => match k with
  | _ => .int
theorem nmJ3 : ∀ a, a < 0 → ∀ b, b < 0 → a ≠ b → (TJ3 a).2.1 ≠ (TJ3 b).2.1 := by decide +kernel
theorem tyJ3_ok : ∀ k, k < 0 → parseFieldDescriptor (TJ3 k).2.2.1 = some (tyJ3 k) := by decide +kernel
abbrev cJ3_checkIndex_8e157 : ByteArray := prog_36_method_11_code
def yJ3_checkIndex_8e157 : MethodName := ⟨RJ3, "checkIndex", "(IILjava/util/function/BiFunction;)I"⟩
abbrev cJ3_checkFromToIndex_8c36e : ByteArray := prog_36_method_12_code
def yJ3_checkFromToIndex_8c36e : MethodName := ⟨RJ3, "checkFromToIndex", "(IIILjava/util/function/BiFunction;)I"⟩
abbrev cJ3_checkFromIndexSize_8c36e : ByteArray := prog_36_method_13_code
def yJ3_checkFromIndexSize_8c36e : MethodName := ⟨RJ3, "checkFromIndexSize", "(IIILjava/util/function/BiFunction;)I"⟩
def RL : String := "LetterCutsLaw"
abbrev cL_put : ByteArray := method_2_code
def yL_put : MethodName := ⟨RL, "put", "(LLetterCuts;[II)V"⟩
abbrev cL_flush : ByteArray := method_3_code
def yL_flush : MethodName := ⟨RL, "flush", "(LLetterCuts;[I)V"⟩
abbrev cL_loadText : ByteArray := method_4_code
def yL_loadText : MethodName := ⟨RL, "loadText", "(LLetterCuts;[I)I"⟩
abbrev cL_write : ByteArray := method_5_code
def yL_write : MethodName := ⟨RL, "write", "(LLetterCuts;[ILjava/lang/String;)V"⟩
abbrev cL_writeNumber : ByteArray := method_6_code
def yL_writeNumber : MethodName := ⟨RL, "writeNumber", "(LLetterCuts;[II)V"⟩
abbrev cL_load : ByteArray := method_7_code
def yL_load : MethodName := ⟨RL, "load", "(LLetterCuts;I)I"⟩
abbrev cL_state : ByteArray := method_8_code
def yL_state : MethodName := ⟨RL, "state", "(LLetterCuts;I)I"⟩
abbrev cL_letter : ByteArray := method_9_code
def yL_letter : MethodName := ⟨RL, "letter", "(LLetterCuts;II)I"⟩
abbrev cL_place : ByteArray := method_10_code
def yL_place : MethodName := ⟨RL, "place", "(LLetterCuts;III)I"⟩
abbrev cL_stock : ByteArray := method_11_code
def yL_stock : MethodName := ⟨RL, "stock", "(LLetterCuts;II)I"⟩
abbrev cL_message : ByteArray := method_12_code
def yL_message : MethodName := ⟨RL, "message", "(LLetterCuts;I)I"⟩
abbrev cL_cutOf : ByteArray := method_13_code
def yL_cutOf : MethodName := ⟨RL, "cutOf", "(LLetterCuts;II)I"⟩
abbrev cL_longest : ByteArray := method_14_code
def yL_longest : MethodName := ⟨RL, "longest", "(LLetterCuts;I)I"⟩
abbrev cL_tell : ByteArray := method_15_code
def yL_tell : MethodName := ⟨RL, "tell", "(LLetterCuts;I)I"⟩
abbrev cL_cut : ByteArray := method_16_code
def yL_cut : MethodName := ⟨RL, "cut", "(LLetterCuts;)I"⟩
abbrev cL_snip : ByteArray := method_17_code
def yL_snip : MethodName := ⟨RL, "snip", "(LLetterCuts;III)I"⟩
abbrev cL_least : ByteArray := method_18_code
def yL_least : MethodName := ⟨RL, "least", "(LLetterCuts;I)I"⟩
abbrev cL_mend : ByteArray := method_19_code
def yL_mend : MethodName := ⟨RL, "mend", "(LLetterCuts;I)I"⟩
abbrev cL_tellText : ByteArray := method_20_code
def yL_tellText : MethodName := ⟨RL, "tellText", "(LLetterCuts;[ILjava/lang/String;)I"⟩
abbrev cL_randomWord : ByteArray := method_21_code
def yL_randomWord : MethodName := ⟨RL, "randomWord", "(LLetterCutsLaw$Random;)Ljava/lang/String;"⟩
abbrev cL_randomSheet : ByteArray := method_22_code
def yL_randomSheet : MethodName := ⟨RL, "randomSheet", "(LLetterCuts;[ILLetterCutsLaw$Random;)LLetterCutsLaw$Sheet;"⟩
abbrev cL_agrees : ByteArray := method_23_code
def yL_agrees : MethodName := ⟨RL, "agrees", "(LLetterCuts;LLetterCutsLaw$Sheet;)Z"⟩
abbrev cL_law : ByteArray := code
def yL_law : MethodName := ⟨RL, "law", "([I)Z"⟩
abbrev vwCl : List vw_C := [(RX0, TX0, 4), (RX1, TX1, 10), (RX2, TX2, 10), (RX3, TX3, 10), (RX4, TX4, 10), (RX5, TX5, 1), (RX6, TX6, 13), (RJ0, TJ0, 4), (RJ4, TJ4, 4)]
end
section
theorem dX0_init_0 : decode cX0_init 0 = .ok (.aload_n 0, 1) := by decide +kernel
theorem dX0_init_1 : decode cX0_init 1 = .ok (.invokespecial 3, 3) := by decide +kernel
theorem dX0_init_4 : decode cX0_init 4 = .ok (.aload_n 0, 1) := by decide +kernel
theorem dX0_init_5 : decode cX0_init 5 = .ok (.bipush 24, 2) := by decide +kernel
theorem dX0_init_7 : decode cX0_init 7 = .ok (.newarray .long, 2) := by decide +kernel
theorem dX0_init_9 : decode cX0_init 9 = .ok (.putfield 9, 3) := by decide +kernel
theorem dX0_init_12 : decode cX0_init 12 = .ok (.aload_n 0, 1) := by decide +kernel
theorem dX0_init_13 : decode cX0_init 13 = .ok (.bipush 48, 2) := by decide +kernel
theorem dX0_init_15 : decode cX0_init 15 = .ok (.newarray .int, 2) := by decide +kernel
theorem dX0_init_17 : decode cX0_init 17 = .ok (.putfield 15, 3) := by decide +kernel
theorem dX0_init_20 : decode cX0_init 20 = .ok (.return_, 1) := by decide +kernel
theorem dX0_clear_0 : decode cX0_clear 0 = .ok (.aload_n 0, 1) := by decide +kernel
theorem dX0_clear_1 : decode cX0_clear 1 = .ok (.iconst 0, 1) := by decide +kernel
theorem dX0_clear_2 : decode cX0_clear 2 = .ok (.putfield 19, 3) := by decide +kernel
theorem dX0_clear_5 : decode cX0_clear 5 = .ok (.aload_n 0, 1) := by decide +kernel
theorem dX0_clear_6 : decode cX0_clear 6 = .ok (.getfield 15, 3) := by decide +kernel
theorem dX0_clear_9 : decode cX0_clear 9 = .ok (.iconst (-1), 1) := by decide +kernel
theorem dX0_clear_10 : decode cX0_clear 10 = .ok (.invokestatic 23, 3) := by decide +kernel
theorem dX0_clear_13 : decode cX0_clear 13 = .ok (.return_, 1) := by decide +kernel
theorem dX0_give_0 : decode cX0_give 0 = .ok (.aload_n 0, 1) := by decide +kernel
theorem dX0_give_1 : decode cX0_give 1 = .ok (.getfield 19, 3) := by decide +kernel
theorem dX0_give_4 : decode cX0_give 4 = .ok (.ifCond .lt 12, 3) := by decide +kernel
theorem dX0_give_7 : decode cX0_give 7 = .ok (.aload_n 0, 1) := by decide +kernel
theorem dX0_give_8 : decode cX0_give 8 = .ok (.getfield 19, 3) := by decide +kernel
theorem dX0_give_11 : decode cX0_give 11 = .ok (.bipush 24, 2) := by decide +kernel
theorem dX0_give_13 : decode cX0_give 13 = .ok (.if_icmp .lt 5, 3) := by decide +kernel
theorem dX0_give_16 : decode cX0_give 16 = .ok (.iconst 0, 1) := by decide +kernel
theorem dX0_give_17 : decode cX0_give 17 = .ok (.ireturn, 1) := by decide +kernel
theorem dX0_give_18 : decode cX0_give 18 = .ok (.aload_n 0, 1) := by decide +kernel
theorem dX0_give_19 : decode cX0_give 19 = .ok (.getfield 9, 3) := by decide +kernel
theorem dX0_give_22 : decode cX0_give 22 = .ok (.aload_n 0, 1) := by decide +kernel
theorem dX0_give_23 : decode cX0_give 23 = .ok (.getfield 19, 3) := by decide +kernel
theorem dX0_give_26 : decode cX0_give 26 = .ok (.lload_n 1, 1) := by decide +kernel
theorem dX0_give_27 : decode cX0_give 27 = .ok (.lastore, 1) := by decide +kernel
theorem dX0_give_28 : decode cX0_give 28 = .ok (.aload_n 0, 1) := by decide +kernel
theorem dX0_give_29 : decode cX0_give 29 = .ok (.lconst 0, 1) := by decide +kernel
theorem dX0_give_30 : decode cX0_give 30 = .ok (.putfield 29, 3) := by decide +kernel
theorem dX0_give_33 : decode cX0_give 33 = .ok (.aload_n 0, 1) := by decide +kernel
theorem dX0_give_34 : decode cX0_give 34 = .ok (.aload_n 0, 1) := by decide +kernel
theorem dX0_give_35 : decode cX0_give 35 = .ok (.getfield 19, 3) := by decide +kernel
theorem dX0_give_38 : decode cX0_give 38 = .ok (.iconst 0, 1) := by decide +kernel
theorem dX0_give_39 : decode cX0_give 39 = .ok (.invokevirtual 33, 3) := by decide +kernel
theorem dX0_give_42 : decode cX0_give 42 = .ok (.ifCond .ne 5, 3) := by decide +kernel
theorem dX0_give_45 : decode cX0_give 45 = .ok (.iconst 0, 1) := by decide +kernel
theorem dX0_give_46 : decode cX0_give 46 = .ok (.ireturn, 1) := by decide +kernel
theorem dX0_give_47 : decode cX0_give 47 = .ok (.aload_n 0, 1) := by decide +kernel
theorem dX0_give_48 : decode cX0_give 48 = .ok (.dup, 1) := by decide +kernel
theorem dX0_give_49 : decode cX0_give 49 = .ok (.getfield 19, 3) := by decide +kernel
theorem dX0_give_52 : decode cX0_give 52 = .ok (.iconst 1, 1) := by decide +kernel
theorem dX0_give_53 : decode cX0_give 53 = .ok (.iadd, 1) := by decide +kernel
theorem dX0_give_54 : decode cX0_give 54 = .ok (.putfield 19, 3) := by decide +kernel
theorem dX0_give_57 : decode cX0_give 57 = .ok (.iconst 1, 1) := by decide +kernel
theorem dX0_give_58 : decode cX0_give 58 = .ok (.ireturn, 1) := by decide +kernel
theorem dX0_findCell_0 : decode cX0_findCell 0 = .ok (.iload_n 1, 1) := by decide +kernel
theorem dX0_findCell_1 : decode cX0_findCell 1 = .ok (.ifCond .lt 9, 3) := by decide +kernel
theorem dX0_findCell_4 : decode cX0_findCell 4 = .ok (.iload_n 1, 1) := by decide +kernel
theorem dX0_findCell_5 : decode cX0_findCell 5 = .ok (.bipush 24, 2) := by decide +kernel
theorem dX0_findCell_7 : decode cX0_findCell 7 = .ok (.if_icmp .lt 5, 3) := by decide +kernel
theorem dX0_findCell_10 : decode cX0_findCell 10 = .ok (.iconst 0, 1) := by decide +kernel
theorem dX0_findCell_11 : decode cX0_findCell 11 = .ok (.ireturn, 1) := by decide +kernel
theorem dX0_findCell_12 : decode cX0_findCell 12 = .ok (.iconst 0, 1) := by decide +kernel
theorem dX0_findCell_13 : decode cX0_findCell 13 = .ok (.istore_n 3, 1) := by decide +kernel
theorem dX0_findCell_14 : decode cX0_findCell 14 = .ok (.iload_n 3, 1) := by decide +kernel
theorem dX0_findCell_15 : decode cX0_findCell 15 = .ok (.bipush 48, 2) := by decide +kernel
theorem dX0_findCell_17 : decode cX0_findCell 17 = .ok (.if_icmp .ge 81, 3) := by decide +kernel
theorem dX0_findCell_20 : decode cX0_findCell 20 = .ok (.lconst 1, 1) := by decide +kernel
theorem dX0_findCell_21 : decode cX0_findCell 21 = .ok (.iload_n 3, 1) := by decide +kernel
theorem dX0_findCell_22 : decode cX0_findCell 22 = .ok (.lshl, 1) := by decide +kernel
theorem dX0_findCell_23 : decode cX0_findCell 23 = .ok (.lstore 4, 2) := by decide +kernel
theorem dX0_findCell_25 : decode cX0_findCell 25 = .ok (.aload_n 0, 1) := by decide +kernel
theorem dX0_findCell_26 : decode cX0_findCell 26 = .ok (.getfield 9, 3) := by decide +kernel
theorem dX0_findCell_29 : decode cX0_findCell 29 = .ok (.iload_n 1, 1) := by decide +kernel
theorem dX0_findCell_30 : decode cX0_findCell 30 = .ok (.laload, 1) := by decide +kernel
theorem dX0_findCell_31 : decode cX0_findCell 31 = .ok (.aload_n 0, 1) := by decide +kernel
theorem dX0_findCell_32 : decode cX0_findCell 32 = .ok (.getfield 29, 3) := by decide +kernel
theorem dX0_findCell_35 : decode cX0_findCell 35 = .ok (.ldc2_w 37, 3) := by decide +kernel
theorem dX0_findCell_38 : decode cX0_findCell 38 = .ok (.lxor, 1) := by decide +kernel
theorem dX0_findCell_39 : decode cX0_findCell 39 = .ok (.land, 1) := by decide +kernel
theorem dX0_findCell_40 : decode cX0_findCell 40 = .ok (.lload 4, 2) := by decide +kernel
theorem dX0_findCell_42 : decode cX0_findCell 42 = .ok (.land, 1) := by decide +kernel
theorem dX0_findCell_43 : decode cX0_findCell 43 = .ok (.lconst 0, 1) := by decide +kernel
theorem dX0_findCell_44 : decode cX0_findCell 44 = .ok (.lcmp, 1) := by decide +kernel
theorem dX0_findCell_45 : decode cX0_findCell 45 = .ok (.ifCond .eq 47, 3) := by decide +kernel
theorem dX0_findCell_48 : decode cX0_findCell 48 = .ok (.aload_n 0, 1) := by decide +kernel
theorem dX0_findCell_49 : decode cX0_findCell 49 = .ok (.dup, 1) := by decide +kernel
theorem dX0_findCell_50 : decode cX0_findCell 50 = .ok (.getfield 29, 3) := by decide +kernel
theorem dX0_findCell_53 : decode cX0_findCell 53 = .ok (.lload 4, 2) := by decide +kernel
theorem dX0_findCell_55 : decode cX0_findCell 55 = .ok (.lor, 1) := by decide +kernel
theorem dX0_findCell_56 : decode cX0_findCell 56 = .ok (.putfield 29, 3) := by decide +kernel
theorem dX0_findCell_59 : decode cX0_findCell 59 = .ok (.aload_n 0, 1) := by decide +kernel
theorem dX0_findCell_60 : decode cX0_findCell 60 = .ok (.getfield 15, 3) := by decide +kernel
theorem dX0_findCell_63 : decode cX0_findCell 63 = .ok (.iload_n 3, 1) := by decide +kernel
theorem dX0_findCell_64 : decode cX0_findCell 64 = .ok (.iaload, 1) := by decide +kernel
theorem dX0_findCell_65 : decode cX0_findCell 65 = .ok (.iconst (-1), 1) := by decide +kernel
theorem dX0_findCell_66 : decode cX0_findCell 66 = .ok (.if_icmp .eq 17, 3) := by decide +kernel
theorem dX0_findCell_69 : decode cX0_findCell 69 = .ok (.aload_n 0, 1) := by decide +kernel
theorem dX0_findCell_70 : decode cX0_findCell 70 = .ok (.aload_n 0, 1) := by decide +kernel
theorem dX0_findCell_71 : decode cX0_findCell 71 = .ok (.getfield 15, 3) := by decide +kernel
theorem dX0_findCell_74 : decode cX0_findCell 74 = .ok (.iload_n 3, 1) := by decide +kernel
theorem dX0_findCell_75 : decode cX0_findCell 75 = .ok (.iaload, 1) := by decide +kernel
theorem dX0_findCell_76 : decode cX0_findCell 76 = .ok (.iload_n 2, 1) := by decide +kernel
theorem dX0_findCell_77 : decode cX0_findCell 77 = .ok (.invokevirtual 39, 3) := by decide +kernel
theorem dX0_findCell_80 : decode cX0_findCell 80 = .ok (.ifCond .eq 12, 3) := by decide +kernel
theorem dX0_findCell_83 : decode cX0_findCell 83 = .ok (.aload_n 0, 1) := by decide +kernel
theorem dX0_findCell_84 : decode cX0_findCell 84 = .ok (.getfield 15, 3) := by decide +kernel
theorem dX0_findCell_87 : decode cX0_findCell 87 = .ok (.iload_n 3, 1) := by decide +kernel
theorem dX0_findCell_88 : decode cX0_findCell 88 = .ok (.iload_n 1, 1) := by decide +kernel
theorem dX0_findCell_89 : decode cX0_findCell 89 = .ok (.iastore, 1) := by decide +kernel
theorem dX0_findCell_90 : decode cX0_findCell 90 = .ok (.iconst 1, 1) := by decide +kernel
theorem dX0_findCell_91 : decode cX0_findCell 91 = .ok (.ireturn, 1) := by decide +kernel
theorem dX0_findCell_92 : decode cX0_findCell 92 = .ok (.iinc 3 1, 3) := by decide +kernel
theorem dX0_findCell_95 : decode cX0_findCell 95 = .ok (.goto (-81), 3) := by decide +kernel
theorem dX0_findCell_98 : decode cX0_findCell 98 = .ok (.iconst 0, 1) := by decide +kernel
theorem dX0_findCell_99 : decode cX0_findCell 99 = .ok (.ireturn, 1) := by decide +kernel
theorem dX0_canMove_0 : decode cX0_canMove 0 = .ok (.iload_n 2, 1) := by decide +kernel
theorem dX0_canMove_1 : decode cX0_canMove 1 = .ok (.bipush 24, 2) := by decide +kernel
theorem dX0_canMove_3 : decode cX0_canMove 3 = .ok (.if_icmp .ge 18, 3) := by decide +kernel
theorem dX0_canMove_6 : decode cX0_canMove 6 = .ok (.aload_n 0, 1) := by decide +kernel
theorem dX0_canMove_7 : decode cX0_canMove 7 = .ok (.iload_n 1, 1) := by decide +kernel
theorem dX0_canMove_8 : decode cX0_canMove 8 = .ok (.iload_n 2, 1) := by decide +kernel
theorem dX0_canMove_9 : decode cX0_canMove 9 = .ok (.iconst 1, 1) := by decide +kernel
theorem dX0_canMove_10 : decode cX0_canMove 10 = .ok (.iadd, 1) := by decide +kernel
theorem dX0_canMove_11 : decode cX0_canMove 11 = .ok (.invokevirtual 33, 3) := by decide +kernel
theorem dX0_canMove_14 : decode cX0_canMove 14 = .ok (.ifCond .eq 7, 3) := by decide +kernel
theorem dX0_canMove_17 : decode cX0_canMove 17 = .ok (.iconst 1, 1) := by decide +kernel
theorem dX0_canMove_18 : decode cX0_canMove 18 = .ok (.goto 4, 3) := by decide +kernel
theorem dX0_canMove_21 : decode cX0_canMove 21 = .ok (.iconst 0, 1) := by decide +kernel
theorem dX0_canMove_22 : decode cX0_canMove 22 = .ok (.ireturn, 1) := by decide +kernel
theorem dX1_init_0 : decode cX1_init 0 = .ok (.aload_n 0, 1) := by decide +kernel
theorem dX1_init_1 : decode cX1_init 1 = .ok (.invokespecial 3, 3) := by decide +kernel
theorem dX1_init_4 : decode cX1_init 4 = .ok (.aload_n 0, 1) := by decide +kernel
theorem dX1_init_5 : decode cX1_init 5 = .ok (.new 9, 3) := by decide +kernel
theorem dX1_init_8 : decode cX1_init 8 = .ok (.dup, 1) := by decide +kernel
theorem dX1_init_9 : decode cX1_init 9 = .ok (.invokespecial 11, 3) := by decide +kernel
theorem dX1_init_12 : decode cX1_init 12 = .ok (.putfield 12, 3) := by decide +kernel
theorem dX1_init_15 : decode cX1_init 15 = .ok (.aload_n 0, 1) := by decide +kernel
theorem dX1_init_16 : decode cX1_init 16 = .ok (.bipush 8, 2) := by decide +kernel
theorem dX1_init_18 : decode cX1_init 18 = .ok (.newarray .long, 2) := by decide +kernel
theorem dX1_init_20 : decode cX1_init 20 = .ok (.putfield 18, 3) := by decide +kernel
theorem dX1_init_23 : decode cX1_init 23 = .ok (.aload_n 0, 1) := by decide +kernel
theorem dX1_init_24 : decode cX1_init 24 = .ok (.bipush 96, 2) := by decide +kernel
theorem dX1_init_26 : decode cX1_init 26 = .ok (.newarray .long, 2) := by decide +kernel
theorem dX1_init_28 : decode cX1_init 28 = .ok (.putfield 22, 3) := by decide +kernel
theorem dX1_init_31 : decode cX1_init 31 = .ok (.aload_n 0, 1) := by decide +kernel
theorem dX1_init_32 : decode cX1_init 32 = .ok (.bipush 8, 2) := by decide +kernel
theorem dX1_init_34 : decode cX1_init 34 = .ok (.bipush 96, 2) := by decide +kernel
theorem dX1_init_36 : decode cX1_init 36 = .ok (.multianewarray 25 2, 4) := by decide +kernel
theorem dX1_init_40 : decode cX1_init 40 = .ok (.putfield 27, 3) := by decide +kernel
theorem dX1_init_43 : decode cX1_init 43 = .ok (.aload_n 0, 1) := by decide +kernel
theorem dX1_init_44 : decode cX1_init 44 = .ok (.bipush 9, 2) := by decide +kernel
theorem dX1_init_46 : decode cX1_init 46 = .ok (.newarray .int, 2) := by decide +kernel
theorem dX1_init_48 : decode cX1_init 48 = .ok (.putfield 30, 3) := by decide +kernel
theorem dX1_init_51 : decode cX1_init 51 = .ok (.aload_n 0, 1) := by decide +kernel
theorem dX1_init_52 : decode cX1_init 52 = .ok (.bipush 8, 2) := by decide +kernel
theorem dX1_init_54 : decode cX1_init 54 = .ok (.newarray .int, 2) := by decide +kernel
theorem dX1_init_56 : decode cX1_init 56 = .ok (.putfield 34, 3) := by decide +kernel
theorem dX1_init_59 : decode cX1_init 59 = .ok (.aload_n 0, 1) := by decide +kernel
theorem dX1_init_60 : decode cX1_init 60 = .ok (.bipush 8, 2) := by decide +kernel
theorem dX1_init_62 : decode cX1_init 62 = .ok (.newarray .int, 2) := by decide +kernel
theorem dX1_init_64 : decode cX1_init 64 = .ok (.putfield 37, 3) := by decide +kernel
theorem dX1_init_67 : decode cX1_init 67 = .ok (.return_, 1) := by decide +kernel
theorem dX1_spotOfCut_0 : decode cX1_spotOfCut 0 = .ok (.iload_n 1, 1) := by decide +kernel
theorem dX1_spotOfCut_1 : decode cX1_spotOfCut 1 = .ok (.ifCond .lt 26, 3) := by decide +kernel
theorem dX1_spotOfCut_4 : decode cX1_spotOfCut 4 = .ok (.iload_n 1, 1) := by decide +kernel
theorem dX1_spotOfCut_5 : decode cX1_spotOfCut 5 = .ok (.aload_n 0, 1) := by decide +kernel
theorem dX1_spotOfCut_6 : decode cX1_spotOfCut 6 = .ok (.getfield 40, 3) := by decide +kernel
theorem dX1_spotOfCut_9 : decode cX1_spotOfCut 9 = .ok (.if_icmp .ge 18, 3) := by decide +kernel
theorem dX1_spotOfCut_12 : decode cX1_spotOfCut 12 = .ok (.iload_n 1, 1) := by decide +kernel
theorem dX1_spotOfCut_13 : decode cX1_spotOfCut 13 = .ok (.bipush 8, 2) := by decide +kernel
theorem dX1_spotOfCut_15 : decode cX1_spotOfCut 15 = .ok (.if_icmp .ge 12, 3) := by decide +kernel
theorem dX1_spotOfCut_18 : decode cX1_spotOfCut 18 = .ok (.aload_n 0, 1) := by decide +kernel
theorem dX1_spotOfCut_19 : decode cX1_spotOfCut 19 = .ok (.getfield 34, 3) := by decide +kernel
theorem dX1_spotOfCut_22 : decode cX1_spotOfCut 22 = .ok (.iload_n 1, 1) := by decide +kernel
theorem dX1_spotOfCut_23 : decode cX1_spotOfCut 23 = .ok (.iaload, 1) := by decide +kernel
theorem dX1_spotOfCut_24 : decode cX1_spotOfCut 24 = .ok (.goto 4, 3) := by decide +kernel
theorem dX1_spotOfCut_27 : decode cX1_spotOfCut 27 = .ok (.iconst 0, 1) := by decide +kernel
theorem dX1_spotOfCut_28 : decode cX1_spotOfCut 28 = .ok (.ireturn, 1) := by decide +kernel
theorem dX1_lengthOfCut_0 : decode cX1_lengthOfCut 0 = .ok (.iload_n 1, 1) := by decide +kernel
theorem dX1_lengthOfCut_1 : decode cX1_lengthOfCut 1 = .ok (.ifCond .lt 26, 3) := by decide +kernel
theorem dX1_lengthOfCut_4 : decode cX1_lengthOfCut 4 = .ok (.iload_n 1, 1) := by decide +kernel
theorem dX1_lengthOfCut_5 : decode cX1_lengthOfCut 5 = .ok (.aload_n 0, 1) := by decide +kernel
theorem dX1_lengthOfCut_6 : decode cX1_lengthOfCut 6 = .ok (.getfield 40, 3) := by decide +kernel
theorem dX1_lengthOfCut_9 : decode cX1_lengthOfCut 9 = .ok (.if_icmp .ge 18, 3) := by decide +kernel
theorem dX1_lengthOfCut_12 : decode cX1_lengthOfCut 12 = .ok (.iload_n 1, 1) := by decide +kernel
theorem dX1_lengthOfCut_13 : decode cX1_lengthOfCut 13 = .ok (.bipush 8, 2) := by decide +kernel
theorem dX1_lengthOfCut_15 : decode cX1_lengthOfCut 15 = .ok (.if_icmp .ge 12, 3) := by decide +kernel
theorem dX1_lengthOfCut_18 : decode cX1_lengthOfCut 18 = .ok (.aload_n 0, 1) := by decide +kernel
theorem dX1_lengthOfCut_19 : decode cX1_lengthOfCut 19 = .ok (.getfield 37, 3) := by decide +kernel
theorem dX1_lengthOfCut_22 : decode cX1_lengthOfCut 22 = .ok (.iload_n 1, 1) := by decide +kernel
theorem dX1_lengthOfCut_23 : decode cX1_lengthOfCut 23 = .ok (.iaload, 1) := by decide +kernel
theorem dX1_lengthOfCut_24 : decode cX1_lengthOfCut 24 = .ok (.goto 4, 3) := by decide +kernel
theorem dX1_lengthOfCut_27 : decode cX1_lengthOfCut 27 = .ok (.iconst 0, 1) := by decide +kernel
theorem dX1_lengthOfCut_28 : decode cX1_lengthOfCut 28 = .ok (.ireturn, 1) := by decide +kernel
theorem dX1_prepare_0 : decode cX1_prepare 0 = .ok (.aload_n 0, 1) := by decide +kernel
theorem dX1_prepare_1 : decode cX1_prepare 1 = .ok (.iconst 0, 1) := by decide +kernel
theorem dX1_prepare_2 : decode cX1_prepare 2 = .ok (.bipush 8, 2) := by decide +kernel
theorem dX1_prepare_4 : decode cX1_prepare 4 = .ok (.aload_n 1, 1) := by decide +kernel
theorem dX1_prepare_5 : decode cX1_prepare 5 = .ok (.getfield 44, 3) := by decide +kernel
theorem dX1_prepare_8 : decode cX1_prepare 8 = .ok (.invokestatic 49, 3) := by decide +kernel
theorem dX1_prepare_11 : decode cX1_prepare 11 = .ok (.invokestatic 55, 3) := by decide +kernel
theorem dX1_prepare_14 : decode cX1_prepare 14 = .ok (.putfield 58, 3) := by decide +kernel
theorem dX1_prepare_17 : decode cX1_prepare 17 = .ok (.iconst 0, 1) := by decide +kernel
theorem dX1_prepare_18 : decode cX1_prepare 18 = .ok (.istore_n 2, 1) := by decide +kernel
theorem dX1_prepare_19 : decode cX1_prepare 19 = .ok (.iload_n 2, 1) := by decide +kernel
theorem dX1_prepare_20 : decode cX1_prepare 20 = .ok (.bipush 96, 2) := by decide +kernel
theorem dX1_prepare_22 : decode cX1_prepare 22 = .ok (.if_icmp .ge 34, 3) := by decide +kernel
theorem dX1_prepare_25 : decode cX1_prepare 25 = .ok (.aload_n 0, 1) := by decide +kernel
theorem dX1_prepare_26 : decode cX1_prepare 26 = .ok (.getfield 22, 3) := by decide +kernel
theorem dX1_prepare_29 : decode cX1_prepare 29 = .ok (.iload_n 2, 1) := by decide +kernel
theorem dX1_prepare_30 : decode cX1_prepare 30 = .ok (.aload_n 1, 1) := by decide +kernel
theorem dX1_prepare_31 : decode cX1_prepare 31 = .ok (.iload_n 2, 1) := by decide +kernel
theorem dX1_prepare_32 : decode cX1_prepare 32 = .ok (.invokevirtual 61, 3) := by decide +kernel
theorem dX1_prepare_35 : decode cX1_prepare 35 = .ok (.ifCond .eq 13, 3) := by decide +kernel
theorem dX1_prepare_38 : decode cX1_prepare 38 = .ok (.lconst 1, 1) := by decide +kernel
theorem dX1_prepare_39 : decode cX1_prepare 39 = .ok (.aload_n 1, 1) := by decide +kernel
theorem dX1_prepare_40 : decode cX1_prepare 40 = .ok (.iload_n 2, 1) := by decide +kernel
theorem dX1_prepare_41 : decode cX1_prepare 41 = .ok (.invokevirtual 65, 3) := by decide +kernel
theorem dX1_prepare_44 : decode cX1_prepare 44 = .ok (.lshl, 1) := by decide +kernel
theorem dX1_prepare_45 : decode cX1_prepare 45 = .ok (.goto 4, 3) := by decide +kernel
theorem dX1_prepare_48 : decode cX1_prepare 48 = .ok (.lconst 0, 1) := by decide +kernel
theorem dX1_prepare_49 : decode cX1_prepare 49 = .ok (.lastore, 1) := by decide +kernel
theorem dX1_prepare_50 : decode cX1_prepare 50 = .ok (.iinc 2 1, 3) := by decide +kernel
theorem dX1_prepare_53 : decode cX1_prepare 53 = .ok (.goto (-34), 3) := by decide +kernel
theorem dX1_prepare_56 : decode cX1_prepare 56 = .ok (.aload_n 0, 1) := by decide +kernel
theorem dX1_prepare_57 : decode cX1_prepare 57 = .ok (.getfield 30, 3) := by decide +kernel
theorem dX1_prepare_60 : decode cX1_prepare 60 = .ok (.aload_n 0, 1) := by decide +kernel
theorem dX1_prepare_61 : decode cX1_prepare 61 = .ok (.getfield 58, 3) := by decide +kernel
theorem dX1_prepare_64 : decode cX1_prepare 64 = .ok (.iconst 0, 1) := by decide +kernel
theorem dX1_prepare_65 : decode cX1_prepare 65 = .ok (.iastore, 1) := by decide +kernel
theorem dX1_prepare_66 : decode cX1_prepare 66 = .ok (.aload_n 0, 1) := by decide +kernel
theorem dX1_prepare_67 : decode cX1_prepare 67 = .ok (.getfield 58, 3) := by decide +kernel
theorem dX1_prepare_70 : decode cX1_prepare 70 = .ok (.iconst 1, 1) := by decide +kernel
theorem dX1_prepare_71 : decode cX1_prepare 71 = .ok (.isub, 1) := by decide +kernel
theorem dX1_prepare_72 : decode cX1_prepare 72 = .ok (.istore_n 2, 1) := by decide +kernel
theorem dX1_prepare_73 : decode cX1_prepare 73 = .ok (.iload_n 2, 1) := by decide +kernel
theorem dX1_prepare_74 : decode cX1_prepare 74 = .ok (.ifCond .lt 63, 3) := by decide +kernel
theorem dX1_prepare_77 : decode cX1_prepare 77 = .ok (.aload_n 0, 1) := by decide +kernel
theorem dX1_prepare_78 : decode cX1_prepare 78 = .ok (.getfield 18, 3) := by decide +kernel
theorem dX1_prepare_81 : decode cX1_prepare 81 = .ok (.iload_n 2, 1) := by decide +kernel
theorem dX1_prepare_82 : decode cX1_prepare 82 = .ok (.aload_n 1, 1) := by decide +kernel
theorem dX1_prepare_83 : decode cX1_prepare 83 = .ok (.aload_n 1, 1) := by decide +kernel
theorem dX1_prepare_84 : decode cX1_prepare 84 = .ok (.iload_n 2, 1) := by decide +kernel
theorem dX1_prepare_85 : decode cX1_prepare 85 = .ok (.invokevirtual 69, 3) := by decide +kernel
theorem dX1_prepare_88 : decode cX1_prepare 88 = .ok (.invokevirtual 72, 3) := by decide +kernel
theorem dX1_prepare_91 : decode cX1_prepare 91 = .ok (.lastore, 1) := by decide +kernel
theorem dX1_prepare_92 : decode cX1_prepare 92 = .ok (.iconst 0, 1) := by decide +kernel
theorem dX1_prepare_93 : decode cX1_prepare 93 = .ok (.istore_n 3, 1) := by decide +kernel
theorem dX1_prepare_94 : decode cX1_prepare 94 = .ok (.iload_n 3, 1) := by decide +kernel
theorem dX1_prepare_95 : decode cX1_prepare 95 = .ok (.bipush 96, 2) := by decide +kernel
theorem dX1_prepare_97 : decode cX1_prepare 97 = .ok (.if_icmp .ge 23, 3) := by decide +kernel
theorem dX1_prepare_100 : decode cX1_prepare 100 = .ok (.aload_n 0, 1) := by decide +kernel
theorem dX1_prepare_101 : decode cX1_prepare 101 = .ok (.getfield 27, 3) := by decide +kernel
theorem dX1_prepare_104 : decode cX1_prepare 104 = .ok (.iload_n 2, 1) := by decide +kernel
theorem dX1_prepare_105 : decode cX1_prepare 105 = .ok (.aaload, 1) := by decide +kernel
theorem dX1_prepare_106 : decode cX1_prepare 106 = .ok (.iload_n 3, 1) := by decide +kernel
theorem dX1_prepare_107 : decode cX1_prepare 107 = .ok (.aload_n 1, 1) := by decide +kernel
theorem dX1_prepare_108 : decode cX1_prepare 108 = .ok (.iload_n 3, 1) := by decide +kernel
theorem dX1_prepare_109 : decode cX1_prepare 109 = .ok (.iload_n 2, 1) := by decide +kernel
theorem dX1_prepare_110 : decode cX1_prepare 110 = .ok (.invokevirtual 76, 3) := by decide +kernel
theorem dX1_prepare_113 : decode cX1_prepare 113 = .ok (.iastore, 1) := by decide +kernel
theorem dX1_prepare_114 : decode cX1_prepare 114 = .ok (.iinc 3 1, 3) := by decide +kernel
theorem dX1_prepare_117 : decode cX1_prepare 117 = .ok (.goto (-23), 3) := by decide +kernel
theorem dX1_prepare_120 : decode cX1_prepare 120 = .ok (.aload_n 0, 1) := by decide +kernel
theorem dX1_prepare_121 : decode cX1_prepare 121 = .ok (.getfield 30, 3) := by decide +kernel
theorem dX1_prepare_124 : decode cX1_prepare 124 = .ok (.iload_n 2, 1) := by decide +kernel
theorem dX1_prepare_125 : decode cX1_prepare 125 = .ok (.aload_n 0, 1) := by decide +kernel
theorem dX1_prepare_126 : decode cX1_prepare 126 = .ok (.iload_n 2, 1) := by decide +kernel
theorem dX1_prepare_127 : decode cX1_prepare 127 = .ok (.invokevirtual 79, 3) := by decide +kernel
theorem dX1_prepare_130 : decode cX1_prepare 130 = .ok (.iastore, 1) := by decide +kernel
theorem dX1_prepare_131 : decode cX1_prepare 131 = .ok (.iinc 2 (-1), 3) := by decide +kernel
theorem dX1_prepare_134 : decode cX1_prepare 134 = .ok (.goto (-61), 3) := by decide +kernel
theorem dX1_prepare_137 : decode cX1_prepare 137 = .ok (.return_, 1) := by decide +kernel
theorem dX1_boundSaved_0 : decode cX1_boundSaved 0 = .ok (.aload_n 0, 1) := by decide +kernel
theorem dX1_boundSaved_1 : decode cX1_boundSaved 1 = .ok (.getfield 30, 3) := by decide +kernel
theorem dX1_boundSaved_4 : decode cX1_boundSaved 4 = .ok (.iload_n 1, 1) := by decide +kernel
theorem dX1_boundSaved_5 : decode cX1_boundSaved 5 = .ok (.iconst 1, 1) := by decide +kernel
theorem dX1_boundSaved_6 : decode cX1_boundSaved 6 = .ok (.iadd, 1) := by decide +kernel
theorem dX1_boundSaved_7 : decode cX1_boundSaved 7 = .ok (.iaload, 1) := by decide +kernel
theorem dX1_boundSaved_8 : decode cX1_boundSaved 8 = .ok (.istore_n 2, 1) := by decide +kernel
theorem dX1_boundSaved_9 : decode cX1_boundSaved 9 = .ok (.iconst 0, 1) := by decide +kernel
theorem dX1_boundSaved_10 : decode cX1_boundSaved 10 = .ok (.istore_n 3, 1) := by decide +kernel
theorem dX1_boundSaved_11 : decode cX1_boundSaved 11 = .ok (.iload_n 3, 1) := by decide +kernel
theorem dX1_boundSaved_12 : decode cX1_boundSaved 12 = .ok (.bipush 96, 2) := by decide +kernel
theorem dX1_boundSaved_14 : decode cX1_boundSaved 14 = .ok (.if_icmp .ge 61, 3) := by decide +kernel
theorem dX1_boundSaved_17 : decode cX1_boundSaved 17 = .ok (.iconst 2, 1) := by decide +kernel
theorem dX1_boundSaved_18 : decode cX1_boundSaved 18 = .ok (.istore 4, 2) := by decide +kernel
theorem dX1_boundSaved_20 : decode cX1_boundSaved 20 = .ok (.iload 4, 2) := by decide +kernel
theorem dX1_boundSaved_22 : decode cX1_boundSaved 22 = .ok (.aload_n 0, 1) := by decide +kernel
theorem dX1_boundSaved_23 : decode cX1_boundSaved 23 = .ok (.getfield 27, 3) := by decide +kernel
theorem dX1_boundSaved_26 : decode cX1_boundSaved 26 = .ok (.iload_n 1, 1) := by decide +kernel
theorem dX1_boundSaved_27 : decode cX1_boundSaved 27 = .ok (.aaload, 1) := by decide +kernel
theorem dX1_boundSaved_28 : decode cX1_boundSaved 28 = .ok (.iload_n 3, 1) := by decide +kernel
theorem dX1_boundSaved_29 : decode cX1_boundSaved 29 = .ok (.iaload, 1) := by decide +kernel
theorem dX1_boundSaved_30 : decode cX1_boundSaved 30 = .ok (.if_icmp .gt 39, 3) := by decide +kernel
theorem dX1_boundSaved_33 : decode cX1_boundSaved 33 = .ok (.iload_n 1, 1) := by decide +kernel
theorem dX1_boundSaved_34 : decode cX1_boundSaved 34 = .ok (.iload 4, 2) := by decide +kernel
theorem dX1_boundSaved_36 : decode cX1_boundSaved 36 = .ok (.iadd, 1) := by decide +kernel
theorem dX1_boundSaved_37 : decode cX1_boundSaved 37 = .ok (.aload_n 0, 1) := by decide +kernel
theorem dX1_boundSaved_38 : decode cX1_boundSaved 38 = .ok (.getfield 58, 3) := by decide +kernel
theorem dX1_boundSaved_41 : decode cX1_boundSaved 41 = .ok (.if_icmp .gt 28, 3) := by decide +kernel
theorem dX1_boundSaved_44 : decode cX1_boundSaved 44 = .ok (.iload_n 2, 1) := by decide +kernel
theorem dX1_boundSaved_45 : decode cX1_boundSaved 45 = .ok (.iload 4, 2) := by decide +kernel
theorem dX1_boundSaved_47 : decode cX1_boundSaved 47 = .ok (.iconst 1, 1) := by decide +kernel
theorem dX1_boundSaved_48 : decode cX1_boundSaved 48 = .ok (.isub, 1) := by decide +kernel
theorem dX1_boundSaved_49 : decode cX1_boundSaved 49 = .ok (.aload_n 0, 1) := by decide +kernel
theorem dX1_boundSaved_50 : decode cX1_boundSaved 50 = .ok (.getfield 30, 3) := by decide +kernel
theorem dX1_boundSaved_53 : decode cX1_boundSaved 53 = .ok (.iload_n 1, 1) := by decide +kernel
theorem dX1_boundSaved_54 : decode cX1_boundSaved 54 = .ok (.iload 4, 2) := by decide +kernel
theorem dX1_boundSaved_56 : decode cX1_boundSaved 56 = .ok (.iadd, 1) := by decide +kernel
theorem dX1_boundSaved_57 : decode cX1_boundSaved 57 = .ok (.iaload, 1) := by decide +kernel
theorem dX1_boundSaved_58 : decode cX1_boundSaved 58 = .ok (.iadd, 1) := by decide +kernel
theorem dX1_boundSaved_59 : decode cX1_boundSaved 59 = .ok (.invokestatic 55, 3) := by decide +kernel
theorem dX1_boundSaved_62 : decode cX1_boundSaved 62 = .ok (.istore_n 2, 1) := by decide +kernel
theorem dX1_boundSaved_63 : decode cX1_boundSaved 63 = .ok (.iinc 4 1, 3) := by decide +kernel
theorem dX1_boundSaved_66 : decode cX1_boundSaved 66 = .ok (.goto (-46), 3) := by decide +kernel
theorem dX1_boundSaved_69 : decode cX1_boundSaved 69 = .ok (.iinc 3 1, 3) := by decide +kernel
theorem dX1_boundSaved_72 : decode cX1_boundSaved 72 = .ok (.goto (-61), 3) := by decide +kernel
theorem dX1_boundSaved_75 : decode cX1_boundSaved 75 = .ok (.iload_n 2, 1) := by decide +kernel
theorem dX1_boundSaved_76 : decode cX1_boundSaved 76 = .ok (.ireturn, 1) := by decide +kernel
theorem dX1_choose_0 : decode cX1_choose 0 = .ok (.aload_n 0, 1) := by decide +kernel
theorem dX1_choose_1 : decode cX1_choose 1 = .ok (.iconst 0, 1) := by decide +kernel
theorem dX1_choose_2 : decode cX1_choose 2 = .ok (.putfield 40, 3) := by decide +kernel
theorem dX1_choose_5 : decode cX1_choose 5 = .ok (.aload_n 0, 1) := by decide +kernel
theorem dX1_choose_6 : decode cX1_choose 6 = .ok (.lconst 0, 1) := by decide +kernel
theorem dX1_choose_7 : decode cX1_choose 7 = .ok (.putfield 82, 3) := by decide +kernel
theorem dX1_choose_10 : decode cX1_choose 10 = .ok (.aload_n 0, 1) := by decide +kernel
theorem dX1_choose_11 : decode cX1_choose 11 = .ok (.iconst 0, 1) := by decide +kernel
theorem dX1_choose_12 : decode cX1_choose 12 = .ok (.iconst 0, 1) := by decide +kernel
theorem dX1_choose_13 : decode cX1_choose 13 = .ok (.lload_n 1, 1) := by decide +kernel
theorem dX1_choose_14 : decode cX1_choose 14 = .ok (.invokevirtual 86, 3) := by decide +kernel
theorem dX1_choose_17 : decode cX1_choose 17 = .ok (.ifCond .ne 13, 3) := by decide +kernel
theorem dX1_choose_20 : decode cX1_choose 20 = .ok (.aload_n 0, 1) := by decide +kernel
theorem dX1_choose_21 : decode cX1_choose 21 = .ok (.iconst (-1), 1) := by decide +kernel
theorem dX1_choose_22 : decode cX1_choose 22 = .ok (.putfield 40, 3) := by decide +kernel
theorem dX1_choose_25 : decode cX1_choose 25 = .ok (.aload_n 0, 1) := by decide +kernel
theorem dX1_choose_26 : decode cX1_choose 26 = .ok (.getfield 40, 3) := by decide +kernel
theorem dX1_choose_29 : decode cX1_choose 29 = .ok (.ireturn, 1) := by decide +kernel
theorem dX1_choose_30 : decode cX1_choose 30 = .ok (.aload_n 0, 1) := by decide +kernel
theorem dX1_choose_31 : decode cX1_choose 31 = .ok (.getfield 30, 3) := by decide +kernel
theorem dX1_choose_34 : decode cX1_choose 34 = .ok (.iconst 0, 1) := by decide +kernel
theorem dX1_choose_35 : decode cX1_choose 35 = .ok (.iaload, 1) := by decide +kernel
theorem dX1_choose_36 : decode cX1_choose 36 = .ok (.istore_n 3, 1) := by decide +kernel
theorem dX1_choose_37 : decode cX1_choose 37 = .ok (.iload_n 3, 1) := by decide +kernel
theorem dX1_choose_38 : decode cX1_choose 38 = .ok (.ifCond .le 20, 3) := by decide +kernel
theorem dX1_choose_41 : decode cX1_choose 41 = .ok (.aload_n 0, 1) := by decide +kernel
theorem dX1_choose_42 : decode cX1_choose 42 = .ok (.iconst 0, 1) := by decide +kernel
theorem dX1_choose_43 : decode cX1_choose 43 = .ok (.iconst 0, 1) := by decide +kernel
theorem dX1_choose_44 : decode cX1_choose 44 = .ok (.lload_n 1, 1) := by decide +kernel
theorem dX1_choose_45 : decode cX1_choose 45 = .ok (.iload_n 3, 1) := by decide +kernel
theorem dX1_choose_46 : decode cX1_choose 46 = .ok (.invokevirtual 90, 3) := by decide +kernel
theorem dX1_choose_49 : decode cX1_choose 49 = .ok (.ifCond .ne 9, 3) := by decide +kernel
theorem dX1_choose_52 : decode cX1_choose 52 = .ok (.iinc 3 (-1), 3) := by decide +kernel
theorem dX1_choose_55 : decode cX1_choose 55 = .ok (.goto (-18), 3) := by decide +kernel
theorem dX1_choose_58 : decode cX1_choose 58 = .ok (.iconst 0, 1) := by decide +kernel
theorem dX1_choose_59 : decode cX1_choose 59 = .ok (.istore 4, 2) := by decide +kernel
theorem dX1_choose_61 : decode cX1_choose 61 = .ok (.iconst 0, 1) := by decide +kernel
theorem dX1_choose_62 : decode cX1_choose 62 = .ok (.istore 5, 2) := by decide +kernel
theorem dX1_choose_64 : decode cX1_choose 64 = .ok (.iload 5, 2) := by decide +kernel
theorem dX1_choose_66 : decode cX1_choose 66 = .ok (.bipush 8, 2) := by decide +kernel
theorem dX1_choose_68 : decode cX1_choose 68 = .ok (.if_icmp .ge 47, 3) := by decide +kernel
theorem dX1_choose_71 : decode cX1_choose 71 = .ok (.iload 4, 2) := by decide +kernel
theorem dX1_choose_73 : decode cX1_choose 73 = .ok (.aload_n 0, 1) := by decide +kernel
theorem dX1_choose_74 : decode cX1_choose 74 = .ok (.getfield 58, 3) := by decide +kernel
theorem dX1_choose_77 : decode cX1_choose 77 = .ok (.if_icmp .ge 38, 3) := by decide +kernel
theorem dX1_choose_80 : decode cX1_choose 80 = .ok (.aload_n 0, 1) := by decide +kernel
theorem dX1_choose_81 : decode cX1_choose 81 = .ok (.iload 4, 2) := by decide +kernel
theorem dX1_choose_83 : decode cX1_choose 83 = .ok (.lload_n 1, 1) := by decide +kernel
theorem dX1_choose_84 : decode cX1_choose 84 = .ok (.aload_n 0, 1) := by decide +kernel
theorem dX1_choose_85 : decode cX1_choose 85 = .ok (.getfield 82, 3) := by decide +kernel
theorem dX1_choose_88 : decode cX1_choose 88 = .ok (.lor, 1) := by decide +kernel
theorem dX1_choose_89 : decode cX1_choose 89 = .ok (.iload_n 3, 1) := by decide +kernel
theorem dX1_choose_90 : decode cX1_choose 90 = .ok (.invokevirtual 94, 3) := by decide +kernel
theorem dX1_choose_93 : decode cX1_choose 93 = .ok (.istore 6, 2) := by decide +kernel
theorem dX1_choose_95 : decode cX1_choose 95 = .ok (.iload_n 3, 1) := by decide +kernel
theorem dX1_choose_96 : decode cX1_choose 96 = .ok (.iload 6, 2) := by decide +kernel
theorem dX1_choose_98 : decode cX1_choose 98 = .ok (.iconst 1, 1) := by decide +kernel
theorem dX1_choose_99 : decode cX1_choose 99 = .ok (.isub, 1) := by decide +kernel
theorem dX1_choose_100 : decode cX1_choose 100 = .ok (.isub, 1) := by decide +kernel
theorem dX1_choose_101 : decode cX1_choose 101 = .ok (.istore_n 3, 1) := by decide +kernel
theorem dX1_choose_102 : decode cX1_choose 102 = .ok (.iload 4, 2) := by decide +kernel
theorem dX1_choose_104 : decode cX1_choose 104 = .ok (.iload 6, 2) := by decide +kernel
theorem dX1_choose_106 : decode cX1_choose 106 = .ok (.iadd, 1) := by decide +kernel
theorem dX1_choose_107 : decode cX1_choose 107 = .ok (.istore 4, 2) := by decide +kernel
theorem dX1_choose_109 : decode cX1_choose 109 = .ok (.iinc 5 1, 3) := by decide +kernel
theorem dX1_choose_112 : decode cX1_choose 112 = .ok (.goto (-48), 3) := by decide +kernel
theorem dX1_choose_115 : decode cX1_choose 115 = .ok (.aload_n 0, 1) := by decide +kernel
theorem dX1_choose_116 : decode cX1_choose 116 = .ok (.getfield 40, 3) := by decide +kernel
theorem dX1_choose_119 : decode cX1_choose 119 = .ok (.ireturn, 1) := by decide +kernel
theorem dX1_chooseCut_0 : decode cX1_chooseCut 0 = .ok (.aload_n 0, 1) := by decide +kernel
theorem dX1_chooseCut_1 : decode cX1_chooseCut 1 = .ok (.getfield 58, 3) := by decide +kernel
theorem dX1_chooseCut_4 : decode cX1_chooseCut 4 = .ok (.iload_n 1, 1) := by decide +kernel
theorem dX1_chooseCut_5 : decode cX1_chooseCut 5 = .ok (.isub, 1) := by decide +kernel
theorem dX1_chooseCut_6 : decode cX1_chooseCut 6 = .ok (.istore 5, 2) := by decide +kernel
theorem dX1_chooseCut_8 : decode cX1_chooseCut 8 = .ok (.iload 5, 2) := by decide +kernel
theorem dX1_chooseCut_10 : decode cX1_chooseCut 10 = .ok (.iconst 1, 1) := by decide +kernel
theorem dX1_chooseCut_11 : decode cX1_chooseCut 11 = .ok (.if_icmp .lt 122, 3) := by decide +kernel
theorem dX1_chooseCut_14 : decode cX1_chooseCut 14 = .ok (.iconst 0, 1) := by decide +kernel
theorem dX1_chooseCut_15 : decode cX1_chooseCut 15 = .ok (.istore 6, 2) := by decide +kernel
theorem dX1_chooseCut_17 : decode cX1_chooseCut 17 = .ok (.iload 6, 2) := by decide +kernel
theorem dX1_chooseCut_19 : decode cX1_chooseCut 19 = .ok (.bipush 96, 2) := by decide +kernel
theorem dX1_chooseCut_21 : decode cX1_chooseCut 21 = .ok (.if_icmp .ge 106, 3) := by decide +kernel
theorem dX1_chooseCut_24 : decode cX1_chooseCut 24 = .ok (.aload_n 0, 1) := by decide +kernel
theorem dX1_chooseCut_25 : decode cX1_chooseCut 25 = .ok (.iload_n 1, 1) := by decide +kernel
theorem dX1_chooseCut_26 : decode cX1_chooseCut 26 = .ok (.iload 6, 2) := by decide +kernel
theorem dX1_chooseCut_28 : decode cX1_chooseCut 28 = .ok (.iload 5, 2) := by decide +kernel
theorem dX1_chooseCut_30 : decode cX1_chooseCut 30 = .ok (.lload_n 2, 1) := by decide +kernel
theorem dX1_chooseCut_31 : decode cX1_chooseCut 31 = .ok (.invokevirtual 98, 3) := by decide +kernel
theorem dX1_chooseCut_34 : decode cX1_chooseCut 34 = .ok (.lstore 7, 2) := by decide +kernel
theorem dX1_chooseCut_36 : decode cX1_chooseCut 36 = .ok (.lload 7, 2) := by decide +kernel
theorem dX1_chooseCut_38 : decode cX1_chooseCut 38 = .ok (.lconst 0, 1) := by decide +kernel
theorem dX1_chooseCut_39 : decode cX1_chooseCut 39 = .ok (.lcmp, 1) := by decide +kernel
theorem dX1_chooseCut_40 : decode cX1_chooseCut 40 = .ok (.ifCond .eq 81, 3) := by decide +kernel
theorem dX1_chooseCut_43 : decode cX1_chooseCut 43 = .ok (.aload_n 0, 1) := by decide +kernel
theorem dX1_chooseCut_44 : decode cX1_chooseCut 44 = .ok (.getfield 40, 3) := by decide +kernel
theorem dX1_chooseCut_47 : decode cX1_chooseCut 47 = .ok (.bipush 8, 2) := by decide +kernel
theorem dX1_chooseCut_49 : decode cX1_chooseCut 49 = .ok (.if_icmp .ge 72, 3) := by decide +kernel
theorem dX1_chooseCut_52 : decode cX1_chooseCut 52 = .ok (.aload_n 0, 1) := by decide +kernel
theorem dX1_chooseCut_53 : decode cX1_chooseCut 53 = .ok (.iload_n 1, 1) := by decide +kernel
theorem dX1_chooseCut_54 : decode cX1_chooseCut 54 = .ok (.iload 5, 2) := by decide +kernel
theorem dX1_chooseCut_56 : decode cX1_chooseCut 56 = .ok (.iadd, 1) := by decide +kernel
theorem dX1_chooseCut_57 : decode cX1_chooseCut 57 = .ok (.iconst 0, 1) := by decide +kernel
theorem dX1_chooseCut_58 : decode cX1_chooseCut 58 = .ok (.lload_n 2, 1) := by decide +kernel
theorem dX1_chooseCut_59 : decode cX1_chooseCut 59 = .ok (.lload 7, 2) := by decide +kernel
theorem dX1_chooseCut_61 : decode cX1_chooseCut 61 = .ok (.lor, 1) := by decide +kernel
theorem dX1_chooseCut_62 : decode cX1_chooseCut 62 = .ok (.iload 4, 2) := by decide +kernel
theorem dX1_chooseCut_64 : decode cX1_chooseCut 64 = .ok (.iload 5, 2) := by decide +kernel
theorem dX1_chooseCut_66 : decode cX1_chooseCut 66 = .ok (.isub, 1) := by decide +kernel
theorem dX1_chooseCut_67 : decode cX1_chooseCut 67 = .ok (.iconst 1, 1) := by decide +kernel
theorem dX1_chooseCut_68 : decode cX1_chooseCut 68 = .ok (.iadd, 1) := by decide +kernel
theorem dX1_chooseCut_69 : decode cX1_chooseCut 69 = .ok (.invokevirtual 90, 3) := by decide +kernel
theorem dX1_chooseCut_72 : decode cX1_chooseCut 72 = .ok (.ifCond .eq 49, 3) := by decide +kernel
theorem dX1_chooseCut_75 : decode cX1_chooseCut 75 = .ok (.aload_n 0, 1) := by decide +kernel
theorem dX1_chooseCut_76 : decode cX1_chooseCut 76 = .ok (.getfield 34, 3) := by decide +kernel
theorem dX1_chooseCut_79 : decode cX1_chooseCut 79 = .ok (.aload_n 0, 1) := by decide +kernel
theorem dX1_chooseCut_80 : decode cX1_chooseCut 80 = .ok (.getfield 40, 3) := by decide +kernel
theorem dX1_chooseCut_83 : decode cX1_chooseCut 83 = .ok (.iload 6, 2) := by decide +kernel
theorem dX1_chooseCut_85 : decode cX1_chooseCut 85 = .ok (.iastore, 1) := by decide +kernel
theorem dX1_chooseCut_86 : decode cX1_chooseCut 86 = .ok (.aload_n 0, 1) := by decide +kernel
theorem dX1_chooseCut_87 : decode cX1_chooseCut 87 = .ok (.getfield 37, 3) := by decide +kernel
theorem dX1_chooseCut_90 : decode cX1_chooseCut 90 = .ok (.aload_n 0, 1) := by decide +kernel
theorem dX1_chooseCut_91 : decode cX1_chooseCut 91 = .ok (.getfield 40, 3) := by decide +kernel
theorem dX1_chooseCut_94 : decode cX1_chooseCut 94 = .ok (.iload 5, 2) := by decide +kernel
theorem dX1_chooseCut_96 : decode cX1_chooseCut 96 = .ok (.iastore, 1) := by decide +kernel
theorem dX1_chooseCut_97 : decode cX1_chooseCut 97 = .ok (.aload_n 0, 1) := by decide +kernel
theorem dX1_chooseCut_98 : decode cX1_chooseCut 98 = .ok (.dup, 1) := by decide +kernel
theorem dX1_chooseCut_99 : decode cX1_chooseCut 99 = .ok (.getfield 40, 3) := by decide +kernel
theorem dX1_chooseCut_102 : decode cX1_chooseCut 102 = .ok (.iconst 1, 1) := by decide +kernel
theorem dX1_chooseCut_103 : decode cX1_chooseCut 103 = .ok (.iadd, 1) := by decide +kernel
theorem dX1_chooseCut_104 : decode cX1_chooseCut 104 = .ok (.putfield 40, 3) := by decide +kernel
theorem dX1_chooseCut_107 : decode cX1_chooseCut 107 = .ok (.aload_n 0, 1) := by decide +kernel
theorem dX1_chooseCut_108 : decode cX1_chooseCut 108 = .ok (.dup, 1) := by decide +kernel
theorem dX1_chooseCut_109 : decode cX1_chooseCut 109 = .ok (.getfield 82, 3) := by decide +kernel
theorem dX1_chooseCut_112 : decode cX1_chooseCut 112 = .ok (.lload 7, 2) := by decide +kernel
theorem dX1_chooseCut_114 : decode cX1_chooseCut 114 = .ok (.lor, 1) := by decide +kernel
theorem dX1_chooseCut_115 : decode cX1_chooseCut 115 = .ok (.putfield 82, 3) := by decide +kernel
theorem dX1_chooseCut_118 : decode cX1_chooseCut 118 = .ok (.iload 5, 2) := by decide +kernel
theorem dX1_chooseCut_120 : decode cX1_chooseCut 120 = .ok (.ireturn, 1) := by decide +kernel
theorem dX1_chooseCut_121 : decode cX1_chooseCut 121 = .ok (.iinc 6 1, 3) := by decide +kernel
theorem dX1_chooseCut_124 : decode cX1_chooseCut 124 = .ok (.goto (-107), 3) := by decide +kernel
theorem dX1_chooseCut_127 : decode cX1_chooseCut 127 = .ok (.iinc 5 (-1), 3) := by decide +kernel
theorem dX1_chooseCut_130 : decode cX1_chooseCut 130 = .ok (.goto (-122), 3) := by decide +kernel
theorem dX1_chooseCut_133 : decode cX1_chooseCut 133 = .ok (.iconst 0, 1) := by decide +kernel
theorem dX1_chooseCut_134 : decode cX1_chooseCut 134 = .ok (.ireturn, 1) := by decide +kernel
theorem dX1_freeStrip_0 : decode cX1_freeStrip 0 = .ok (.iload_n 1, 1) := by decide +kernel
theorem dX1_freeStrip_1 : decode cX1_freeStrip 1 = .ok (.ifCond .lt 33, 3) := by decide +kernel
theorem dX1_freeStrip_4 : decode cX1_freeStrip 4 = .ok (.iload_n 1, 1) := by decide +kernel
theorem dX1_freeStrip_5 : decode cX1_freeStrip 5 = .ok (.bipush 8, 2) := by decide +kernel
theorem dX1_freeStrip_7 : decode cX1_freeStrip 7 = .ok (.if_icmp .ge 27, 3) := by decide +kernel
theorem dX1_freeStrip_10 : decode cX1_freeStrip 10 = .ok (.iload_n 2, 1) := by decide +kernel
theorem dX1_freeStrip_11 : decode cX1_freeStrip 11 = .ok (.ifCond .lt 23, 3) := by decide +kernel
theorem dX1_freeStrip_14 : decode cX1_freeStrip 14 = .ok (.iload_n 2, 1) := by decide +kernel
theorem dX1_freeStrip_15 : decode cX1_freeStrip 15 = .ok (.iload_n 3, 1) := by decide +kernel
theorem dX1_freeStrip_16 : decode cX1_freeStrip 16 = .ok (.iadd, 1) := by decide +kernel
theorem dX1_freeStrip_17 : decode cX1_freeStrip 17 = .ok (.bipush 96, 2) := by decide +kernel
theorem dX1_freeStrip_19 : decode cX1_freeStrip 19 = .ok (.if_icmp .gt 15, 3) := by decide +kernel
theorem dX1_freeStrip_22 : decode cX1_freeStrip 22 = .ok (.aload_n 0, 1) := by decide +kernel
theorem dX1_freeStrip_23 : decode cX1_freeStrip 23 = .ok (.getfield 27, 3) := by decide +kernel
theorem dX1_freeStrip_26 : decode cX1_freeStrip 26 = .ok (.iload_n 1, 1) := by decide +kernel
theorem dX1_freeStrip_27 : decode cX1_freeStrip 27 = .ok (.aaload, 1) := by decide +kernel
theorem dX1_freeStrip_28 : decode cX1_freeStrip 28 = .ok (.iload_n 2, 1) := by decide +kernel
theorem dX1_freeStrip_29 : decode cX1_freeStrip 29 = .ok (.iaload, 1) := by decide +kernel
theorem dX1_freeStrip_30 : decode cX1_freeStrip 30 = .ok (.iload_n 3, 1) := by decide +kernel
theorem dX1_freeStrip_31 : decode cX1_freeStrip 31 = .ok (.if_icmp .ge 5, 3) := by decide +kernel
theorem dX1_freeStrip_34 : decode cX1_freeStrip 34 = .ok (.lconst 0, 1) := by decide +kernel
theorem dX1_freeStrip_35 : decode cX1_freeStrip 35 = .ok (.lreturn, 1) := by decide +kernel
theorem dX1_freeStrip_36 : decode cX1_freeStrip 36 = .ok (.lconst 0, 1) := by decide +kernel
theorem dX1_freeStrip_37 : decode cX1_freeStrip 37 = .ok (.lstore 6, 2) := by decide +kernel
theorem dX1_freeStrip_39 : decode cX1_freeStrip 39 = .ok (.iconst 0, 1) := by decide +kernel
theorem dX1_freeStrip_40 : decode cX1_freeStrip 40 = .ok (.istore 8, 2) := by decide +kernel
theorem dX1_freeStrip_42 : decode cX1_freeStrip 42 = .ok (.iload 8, 2) := by decide +kernel
theorem dX1_freeStrip_44 : decode cX1_freeStrip 44 = .ok (.iload_n 3, 1) := by decide +kernel
theorem dX1_freeStrip_45 : decode cX1_freeStrip 45 = .ok (.if_icmp .ge 23, 3) := by decide +kernel
theorem dX1_freeStrip_48 : decode cX1_freeStrip 48 = .ok (.lload 6, 2) := by decide +kernel
theorem dX1_freeStrip_50 : decode cX1_freeStrip 50 = .ok (.aload_n 0, 1) := by decide +kernel
theorem dX1_freeStrip_51 : decode cX1_freeStrip 51 = .ok (.getfield 22, 3) := by decide +kernel
theorem dX1_freeStrip_54 : decode cX1_freeStrip 54 = .ok (.iload_n 2, 1) := by decide +kernel
theorem dX1_freeStrip_55 : decode cX1_freeStrip 55 = .ok (.iload 8, 2) := by decide +kernel
theorem dX1_freeStrip_57 : decode cX1_freeStrip 57 = .ok (.iadd, 1) := by decide +kernel
theorem dX1_freeStrip_58 : decode cX1_freeStrip 58 = .ok (.laload, 1) := by decide +kernel
theorem dX1_freeStrip_59 : decode cX1_freeStrip 59 = .ok (.lor, 1) := by decide +kernel
theorem dX1_freeStrip_60 : decode cX1_freeStrip 60 = .ok (.lstore 6, 2) := by decide +kernel
theorem dX1_freeStrip_62 : decode cX1_freeStrip 62 = .ok (.iinc 8 1, 3) := by decide +kernel
theorem dX1_freeStrip_65 : decode cX1_freeStrip 65 = .ok (.goto (-23), 3) := by decide +kernel
theorem dX1_freeStrip_68 : decode cX1_freeStrip 68 = .ok (.lload 6, 2) := by decide +kernel
theorem dX1_freeStrip_70 : decode cX1_freeStrip 70 = .ok (.lload 4, 2) := by decide +kernel
theorem dX1_freeStrip_72 : decode cX1_freeStrip 72 = .ok (.land, 1) := by decide +kernel
theorem dX1_freeStrip_73 : decode cX1_freeStrip 73 = .ok (.lconst 0, 1) := by decide +kernel
theorem dX1_freeStrip_74 : decode cX1_freeStrip 74 = .ok (.lcmp, 1) := by decide +kernel
theorem dX1_freeStrip_75 : decode cX1_freeStrip 75 = .ok (.ifCond .ne 8, 3) := by decide +kernel
theorem dX1_freeStrip_78 : decode cX1_freeStrip 78 = .ok (.lload 6, 2) := by decide +kernel
theorem dX1_freeStrip_80 : decode cX1_freeStrip 80 = .ok (.goto 4, 3) := by decide +kernel
theorem dX1_freeStrip_83 : decode cX1_freeStrip 83 = .ok (.lconst 0, 1) := by decide +kernel
theorem dX1_freeStrip_84 : decode cX1_freeStrip 84 = .ok (.lreturn, 1) := by decide +kernel
theorem dX1_canSave_0 : decode cX1_canSave 0 = .ok (.aload_n 0, 1) := by decide +kernel
theorem dX1_canSave_1 : decode cX1_canSave 1 = .ok (.iload_n 1, 1) := by decide +kernel
theorem dX1_canSave_2 : decode cX1_canSave 2 = .ok (.iload_n 2, 1) := by decide +kernel
theorem dX1_canSave_3 : decode cX1_canSave 3 = .ok (.lload_n 3, 1) := by decide +kernel
theorem dX1_canSave_4 : decode cX1_canSave 4 = .ok (.invokevirtual 86, 3) := by decide +kernel
theorem dX1_canSave_7 : decode cX1_canSave 7 = .ok (.ifCond .ne 5, 3) := by decide +kernel
theorem dX1_canSave_10 : decode cX1_canSave 10 = .ok (.iconst 0, 1) := by decide +kernel
theorem dX1_canSave_11 : decode cX1_canSave 11 = .ok (.ireturn, 1) := by decide +kernel
theorem dX1_canSave_12 : decode cX1_canSave 12 = .ok (.iload_n 2, 1) := by decide +kernel
theorem dX1_canSave_13 : decode cX1_canSave 13 = .ok (.istore 6, 2) := by decide +kernel
theorem dX1_canSave_15 : decode cX1_canSave 15 = .ok (.iload_n 1, 1) := by decide +kernel
theorem dX1_canSave_16 : decode cX1_canSave 16 = .ok (.istore 7, 2) := by decide +kernel
theorem dX1_canSave_18 : decode cX1_canSave 18 = .ok (.iload 5, 2) := by decide +kernel
theorem dX1_canSave_20 : decode cX1_canSave 20 = .ok (.ifCond .le 55, 3) := by decide +kernel
theorem dX1_canSave_23 : decode cX1_canSave 23 = .ok (.iload 7, 2) := by decide +kernel
theorem dX1_canSave_25 : decode cX1_canSave 25 = .ok (.aload_n 0, 1) := by decide +kernel
theorem dX1_canSave_26 : decode cX1_canSave 26 = .ok (.getfield 58, 3) := by decide +kernel
theorem dX1_canSave_29 : decode cX1_canSave 29 = .ok (.if_icmp .ge 46, 3) := by decide +kernel
theorem dX1_canSave_32 : decode cX1_canSave 32 = .ok (.aload_n 0, 1) := by decide +kernel
theorem dX1_canSave_33 : decode cX1_canSave 33 = .ok (.getfield 30, 3) := by decide +kernel
theorem dX1_canSave_36 : decode cX1_canSave 36 = .ok (.iload 7, 2) := by decide +kernel
theorem dX1_canSave_38 : decode cX1_canSave 38 = .ok (.iaload, 1) := by decide +kernel
theorem dX1_canSave_39 : decode cX1_canSave 39 = .ok (.iload 5, 2) := by decide +kernel
theorem dX1_canSave_41 : decode cX1_canSave 41 = .ok (.if_icmp .lt 34, 3) := by decide +kernel
theorem dX1_canSave_44 : decode cX1_canSave 44 = .ok (.aload_n 0, 1) := by decide +kernel
theorem dX1_canSave_45 : decode cX1_canSave 45 = .ok (.iload 7, 2) := by decide +kernel
theorem dX1_canSave_47 : decode cX1_canSave 47 = .ok (.iload 6, 2) := by decide +kernel
theorem dX1_canSave_49 : decode cX1_canSave 49 = .ok (.lload_n 3, 1) := by decide +kernel
theorem dX1_canSave_50 : decode cX1_canSave 50 = .ok (.iload 5, 2) := by decide +kernel
theorem dX1_canSave_52 : decode cX1_canSave 52 = .ok (.invokevirtual 102, 3) := by decide +kernel
theorem dX1_canSave_55 : decode cX1_canSave 55 = .ok (.ifCond .eq 5, 3) := by decide +kernel
theorem dX1_canSave_58 : decode cX1_canSave 58 = .ok (.iconst 1, 1) := by decide +kernel
theorem dX1_canSave_59 : decode cX1_canSave 59 = .ok (.ireturn, 1) := by decide +kernel
theorem dX1_canSave_60 : decode cX1_canSave 60 = .ok (.iload 6, 2) := by decide +kernel
theorem dX1_canSave_62 : decode cX1_canSave 62 = .ok (.iconst 1, 1) := by decide +kernel
theorem dX1_canSave_63 : decode cX1_canSave 63 = .ok (.iload 7, 2) := by decide +kernel
theorem dX1_canSave_65 : decode cX1_canSave 65 = .ok (.ishl, 1) := by decide +kernel
theorem dX1_canSave_66 : decode cX1_canSave 66 = .ok (.ior, 1) := by decide +kernel
theorem dX1_canSave_67 : decode cX1_canSave 67 = .ok (.istore 6, 2) := by decide +kernel
theorem dX1_canSave_69 : decode cX1_canSave 69 = .ok (.iinc 7 1, 3) := by decide +kernel
theorem dX1_canSave_72 : decode cX1_canSave 72 = .ok (.goto (-54), 3) := by decide +kernel
theorem dX1_canSave_75 : decode cX1_canSave 75 = .ok (.iload 5, 2) := by decide +kernel
theorem dX1_canSave_77 : decode cX1_canSave 77 = .ok (.ifCond .gt 7, 3) := by decide +kernel
theorem dX1_canSave_80 : decode cX1_canSave 80 = .ok (.iconst 1, 1) := by decide +kernel
theorem dX1_canSave_81 : decode cX1_canSave 81 = .ok (.goto 4, 3) := by decide +kernel
theorem dX1_canSave_84 : decode cX1_canSave 84 = .ok (.iconst 0, 1) := by decide +kernel
theorem dX1_canSave_85 : decode cX1_canSave 85 = .ok (.ireturn, 1) := by decide +kernel
theorem dX1_canSaveAt_0 : decode cX1_canSaveAt 0 = .ok (.iload_n 1, 1) := by decide +kernel
theorem dX1_canSaveAt_1 : decode cX1_canSaveAt 1 = .ok (.ifCond .lt 11, 3) := by decide +kernel
theorem dX1_canSaveAt_4 : decode cX1_canSaveAt 4 = .ok (.iload_n 1, 1) := by decide +kernel
theorem dX1_canSaveAt_5 : decode cX1_canSaveAt 5 = .ok (.aload_n 0, 1) := by decide +kernel
theorem dX1_canSaveAt_6 : decode cX1_canSaveAt 6 = .ok (.getfield 58, 3) := by decide +kernel
theorem dX1_canSaveAt_9 : decode cX1_canSaveAt 9 = .ok (.if_icmp .lt 5, 3) := by decide +kernel
theorem dX1_canSaveAt_12 : decode cX1_canSaveAt 12 = .ok (.iconst 0, 1) := by decide +kernel
theorem dX1_canSaveAt_13 : decode cX1_canSaveAt 13 = .ok (.ireturn, 1) := by decide +kernel
theorem dX1_canSaveAt_14 : decode cX1_canSaveAt 14 = .ok (.iconst 0, 1) := by decide +kernel
theorem dX1_canSaveAt_15 : decode cX1_canSaveAt 15 = .ok (.istore 6, 2) := by decide +kernel
theorem dX1_canSaveAt_17 : decode cX1_canSaveAt 17 = .ok (.iload 6, 2) := by decide +kernel
theorem dX1_canSaveAt_19 : decode cX1_canSaveAt 19 = .ok (.bipush 96, 2) := by decide +kernel
theorem dX1_canSaveAt_21 : decode cX1_canSaveAt 21 = .ok (.if_icmp .ge 76, 3) := by decide +kernel
theorem dX1_canSaveAt_24 : decode cX1_canSaveAt 24 = .ok (.aload_n 0, 1) := by decide +kernel
theorem dX1_canSaveAt_25 : decode cX1_canSaveAt 25 = .ok (.getfield 27, 3) := by decide +kernel
theorem dX1_canSaveAt_28 : decode cX1_canSaveAt 28 = .ok (.iload_n 1, 1) := by decide +kernel
theorem dX1_canSaveAt_29 : decode cX1_canSaveAt 29 = .ok (.aaload, 1) := by decide +kernel
theorem dX1_canSaveAt_30 : decode cX1_canSaveAt 30 = .ok (.iload 6, 2) := by decide +kernel
theorem dX1_canSaveAt_32 : decode cX1_canSaveAt 32 = .ok (.iaload, 1) := by decide +kernel
theorem dX1_canSaveAt_33 : decode cX1_canSaveAt 33 = .ok (.istore 7, 2) := by decide +kernel
theorem dX1_canSaveAt_35 : decode cX1_canSaveAt 35 = .ok (.iload 7, 2) := by decide +kernel
theorem dX1_canSaveAt_37 : decode cX1_canSaveAt 37 = .ok (.iconst 2, 1) := by decide +kernel
theorem dX1_canSaveAt_38 : decode cX1_canSaveAt 38 = .ok (.if_icmp .lt 53, 3) := by decide +kernel
theorem dX1_canSaveAt_41 : decode cX1_canSaveAt 41 = .ok (.aload_n 0, 1) := by decide +kernel
theorem dX1_canSaveAt_42 : decode cX1_canSaveAt 42 = .ok (.iload_n 1, 1) := by decide +kernel
theorem dX1_canSaveAt_43 : decode cX1_canSaveAt 43 = .ok (.iload 6, 2) := by decide +kernel
theorem dX1_canSaveAt_45 : decode cX1_canSaveAt 45 = .ok (.iload 7, 2) := by decide +kernel
theorem dX1_canSaveAt_47 : decode cX1_canSaveAt 47 = .ok (.lload_n 3, 1) := by decide +kernel
theorem dX1_canSaveAt_48 : decode cX1_canSaveAt 48 = .ok (.invokevirtual 98, 3) := by decide +kernel
theorem dX1_canSaveAt_51 : decode cX1_canSaveAt 51 = .ok (.lstore 8, 2) := by decide +kernel
theorem dX1_canSaveAt_53 : decode cX1_canSaveAt 53 = .ok (.lload 8, 2) := by decide +kernel
theorem dX1_canSaveAt_55 : decode cX1_canSaveAt 55 = .ok (.lconst 0, 1) := by decide +kernel
theorem dX1_canSaveAt_56 : decode cX1_canSaveAt 56 = .ok (.lcmp, 1) := by decide +kernel
theorem dX1_canSaveAt_57 : decode cX1_canSaveAt 57 = .ok (.ifCond .eq 28, 3) := by decide +kernel
theorem dX1_canSaveAt_60 : decode cX1_canSaveAt 60 = .ok (.aload_n 0, 1) := by decide +kernel
theorem dX1_canSaveAt_61 : decode cX1_canSaveAt 61 = .ok (.iload_n 1, 1) := by decide +kernel
theorem dX1_canSaveAt_62 : decode cX1_canSaveAt 62 = .ok (.iload 7, 2) := by decide +kernel
theorem dX1_canSaveAt_64 : decode cX1_canSaveAt 64 = .ok (.iadd, 1) := by decide +kernel
theorem dX1_canSaveAt_65 : decode cX1_canSaveAt 65 = .ok (.iload_n 2, 1) := by decide +kernel
theorem dX1_canSaveAt_66 : decode cX1_canSaveAt 66 = .ok (.lload_n 3, 1) := by decide +kernel
theorem dX1_canSaveAt_67 : decode cX1_canSaveAt 67 = .ok (.lload 8, 2) := by decide +kernel
theorem dX1_canSaveAt_69 : decode cX1_canSaveAt 69 = .ok (.lor, 1) := by decide +kernel
theorem dX1_canSaveAt_70 : decode cX1_canSaveAt 70 = .ok (.iload 5, 2) := by decide +kernel
theorem dX1_canSaveAt_72 : decode cX1_canSaveAt 72 = .ok (.iload 7, 2) := by decide +kernel
theorem dX1_canSaveAt_74 : decode cX1_canSaveAt 74 = .ok (.isub, 1) := by decide +kernel
theorem dX1_canSaveAt_75 : decode cX1_canSaveAt 75 = .ok (.iconst 1, 1) := by decide +kernel
theorem dX1_canSaveAt_76 : decode cX1_canSaveAt 76 = .ok (.iadd, 1) := by decide +kernel
theorem dX1_canSaveAt_77 : decode cX1_canSaveAt 77 = .ok (.invokevirtual 90, 3) := by decide +kernel
theorem dX1_canSaveAt_80 : decode cX1_canSaveAt 80 = .ok (.ifCond .eq 5, 3) := by decide +kernel
theorem dX1_canSaveAt_83 : decode cX1_canSaveAt 83 = .ok (.iconst 1, 1) := by decide +kernel
theorem dX1_canSaveAt_84 : decode cX1_canSaveAt 84 = .ok (.ireturn, 1) := by decide +kernel
theorem dX1_canSaveAt_85 : decode cX1_canSaveAt 85 = .ok (.iinc 7 (-1), 3) := by decide +kernel
theorem dX1_canSaveAt_88 : decode cX1_canSaveAt 88 = .ok (.goto (-53), 3) := by decide +kernel
theorem dX1_canSaveAt_91 : decode cX1_canSaveAt 91 = .ok (.iinc 6 1, 3) := by decide +kernel
theorem dX1_canSaveAt_94 : decode cX1_canSaveAt 94 = .ok (.goto (-77), 3) := by decide +kernel
theorem dX1_canSaveAt_97 : decode cX1_canSaveAt 97 = .ok (.iconst 0, 1) := by decide +kernel
theorem dX1_canSaveAt_98 : decode cX1_canSaveAt 98 = .ok (.ireturn, 1) := by decide +kernel
theorem dX1_canSpell_0 : decode cX1_canSpell 0 = .ok (.aload_n 0, 1) := by decide +kernel
theorem dX1_canSpell_1 : decode cX1_canSpell 1 = .ok (.getfield 12, 3) := by decide +kernel
theorem dX1_canSpell_4 : decode cX1_canSpell 4 = .ok (.invokevirtual 105, 3) := by decide +kernel
theorem dX1_canSpell_7 : decode cX1_canSpell 7 = .ok (.iconst 0, 1) := by decide +kernel
theorem dX1_canSpell_8 : decode cX1_canSpell 8 = .ok (.istore 5, 2) := by decide +kernel
theorem dX1_canSpell_10 : decode cX1_canSpell 10 = .ok (.iload 5, 2) := by decide +kernel
theorem dX1_canSpell_12 : decode cX1_canSpell 12 = .ok (.aload_n 0, 1) := by decide +kernel
theorem dX1_canSpell_13 : decode cX1_canSpell 13 = .ok (.getfield 58, 3) := by decide +kernel
theorem dX1_canSpell_16 : decode cX1_canSpell 16 = .ok (.if_icmp .ge 61, 3) := by decide +kernel
theorem dX1_canSpell_19 : decode cX1_canSpell 19 = .ok (.iload 5, 2) := by decide +kernel
theorem dX1_canSpell_21 : decode cX1_canSpell 21 = .ok (.iload_n 1, 1) := by decide +kernel
theorem dX1_canSpell_22 : decode cX1_canSpell 22 = .ok (.if_icmp .ge 12, 3) := by decide +kernel
theorem dX1_canSpell_25 : decode cX1_canSpell 25 = .ok (.iload_n 2, 1) := by decide +kernel
theorem dX1_canSpell_26 : decode cX1_canSpell 26 = .ok (.iconst 1, 1) := by decide +kernel
theorem dX1_canSpell_27 : decode cX1_canSpell 27 = .ok (.iload 5, 2) := by decide +kernel
theorem dX1_canSpell_29 : decode cX1_canSpell 29 = .ok (.ishl, 1) := by decide +kernel
theorem dX1_canSpell_30 : decode cX1_canSpell 30 = .ok (.iand, 1) := by decide +kernel
theorem dX1_canSpell_31 : decode cX1_canSpell 31 = .ok (.ifCond .eq 7, 3) := by decide +kernel
theorem dX1_canSpell_34 : decode cX1_canSpell 34 = .ok (.iconst 1, 1) := by decide +kernel
theorem dX1_canSpell_35 : decode cX1_canSpell 35 = .ok (.goto 4, 3) := by decide +kernel
theorem dX1_canSpell_38 : decode cX1_canSpell 38 = .ok (.iconst 0, 1) := by decide +kernel
theorem dX1_canSpell_39 : decode cX1_canSpell 39 = .ok (.istore 6, 2) := by decide +kernel
theorem dX1_canSpell_41 : decode cX1_canSpell 41 = .ok (.iload 6, 2) := by decide +kernel
theorem dX1_canSpell_43 : decode cX1_canSpell 43 = .ok (.ifCond .eq 28, 3) := by decide +kernel
theorem dX1_canSpell_46 : decode cX1_canSpell 46 = .ok (.aload_n 0, 1) := by decide +kernel
theorem dX1_canSpell_47 : decode cX1_canSpell 47 = .ok (.getfield 12, 3) := by decide +kernel
theorem dX1_canSpell_50 : decode cX1_canSpell 50 = .ok (.aload_n 0, 1) := by decide +kernel
theorem dX1_canSpell_51 : decode cX1_canSpell 51 = .ok (.getfield 18, 3) := by decide +kernel
theorem dX1_canSpell_54 : decode cX1_canSpell 54 = .ok (.iload 5, 2) := by decide +kernel
theorem dX1_canSpell_56 : decode cX1_canSpell 56 = .ok (.laload, 1) := by decide +kernel
theorem dX1_canSpell_57 : decode cX1_canSpell 57 = .ok (.lload_n 3, 1) := by decide +kernel
theorem dX1_canSpell_58 : decode cX1_canSpell 58 = .ok (.ldc2_w 108, 3) := by decide +kernel
theorem dX1_canSpell_61 : decode cX1_canSpell 61 = .ok (.lxor, 1) := by decide +kernel
theorem dX1_canSpell_62 : decode cX1_canSpell 62 = .ok (.land, 1) := by decide +kernel
theorem dX1_canSpell_63 : decode cX1_canSpell 63 = .ok (.invokevirtual 110, 3) := by decide +kernel
theorem dX1_canSpell_66 : decode cX1_canSpell 66 = .ok (.ifCond .ne 5, 3) := by decide +kernel
theorem dX1_canSpell_69 : decode cX1_canSpell 69 = .ok (.iconst 0, 1) := by decide +kernel
theorem dX1_canSpell_70 : decode cX1_canSpell 70 = .ok (.ireturn, 1) := by decide +kernel
theorem dX1_canSpell_71 : decode cX1_canSpell 71 = .ok (.iinc 5 1, 3) := by decide +kernel
theorem dX1_canSpell_74 : decode cX1_canSpell 74 = .ok (.goto (-64), 3) := by decide +kernel
theorem dX1_canSpell_77 : decode cX1_canSpell 77 = .ok (.iconst 1, 1) := by decide +kernel
theorem dX1_canSpell_78 : decode cX1_canSpell 78 = .ok (.ireturn, 1) := by decide +kernel
theorem dX2_init_0 : decode cX2_init 0 = .ok (.aload_n 0, 1) := by decide +kernel
theorem dX2_init_1 : decode cX2_init 1 = .ok (.invokespecial 3, 3) := by decide +kernel
theorem dX2_init_4 : decode cX2_init 4 = .ok (.aload_n 0, 1) := by decide +kernel
theorem dX2_init_5 : decode cX2_init 5 = .ok (.new 9, 3) := by decide +kernel
theorem dX2_init_8 : decode cX2_init 8 = .ok (.dup, 1) := by decide +kernel
theorem dX2_init_9 : decode cX2_init 9 = .ok (.invokespecial 11, 3) := by decide +kernel
theorem dX2_init_12 : decode cX2_init 12 = .ok (.putfield 12, 3) := by decide +kernel
theorem dX2_init_15 : decode cX2_init 15 = .ok (.aload_n 0, 1) := by decide +kernel
theorem dX2_init_16 : decode cX2_init 16 = .ok (.sipush 400, 3) := by decide +kernel
theorem dX2_init_19 : decode cX2_init 19 = .ok (.newarray .byte, 2) := by decide +kernel
theorem dX2_init_21 : decode cX2_init 21 = .ok (.putfield 18, 3) := by decide +kernel
theorem dX2_init_24 : decode cX2_init 24 = .ok (.aload_n 0, 1) := by decide +kernel
theorem dX2_init_25 : decode cX2_init 25 = .ok (.iconst (-1), 1) := by decide +kernel
theorem dX2_init_26 : decode cX2_init 26 = .ok (.putfield 22, 3) := by decide +kernel
theorem dX2_init_29 : decode cX2_init 29 = .ok (.return_, 1) := by decide +kernel
theorem dX2_read_0 : decode cX2_read 0 = .ok (.aload_n 0, 1) := by decide +kernel
theorem dX2_read_1 : decode cX2_read 1 = .ok (.iconst 0, 1) := by decide +kernel
theorem dX2_read_2 : decode cX2_read 2 = .ok (.iload_n 2, 1) := by decide +kernel
theorem dX2_read_3 : decode cX2_read 3 = .ok (.sipush 400, 3) := by decide +kernel
theorem dX2_read_6 : decode cX2_read 6 = .ok (.aload_n 1, 1) := by decide +kernel
theorem dX2_read_7 : decode cX2_read 7 = .ok (.arraylength, 1) := by decide +kernel
theorem dX2_read_8 : decode cX2_read 8 = .ok (.invokestatic 26, 3) := by decide +kernel
theorem dX2_read_11 : decode cX2_read 11 = .ok (.invokestatic 26, 3) := by decide +kernel
theorem dX2_read_14 : decode cX2_read 14 = .ok (.invokestatic 32, 3) := by decide +kernel
theorem dX2_read_17 : decode cX2_read 17 = .ok (.putfield 35, 3) := by decide +kernel
theorem dX2_read_20 : decode cX2_read 20 = .ok (.aload_n 1, 1) := by decide +kernel
theorem dX2_read_21 : decode cX2_read 21 = .ok (.iconst 0, 1) := by decide +kernel
theorem dX2_read_22 : decode cX2_read 22 = .ok (.aload_n 0, 1) := by decide +kernel
theorem dX2_read_23 : decode cX2_read 23 = .ok (.getfield 18, 3) := by decide +kernel
theorem dX2_read_26 : decode cX2_read 26 = .ok (.iconst 0, 1) := by decide +kernel
theorem dX2_read_27 : decode cX2_read 27 = .ok (.aload_n 0, 1) := by decide +kernel
theorem dX2_read_28 : decode cX2_read 28 = .ok (.getfield 35, 3) := by decide +kernel
theorem dX2_read_31 : decode cX2_read 31 = .ok (.invokestatic 38, 3) := by decide +kernel
theorem dX2_read_34 : decode cX2_read 34 = .ok (.aload_n 0, 1) := by decide +kernel
theorem dX2_read_35 : decode cX2_read 35 = .ok (.iconst 0, 1) := by decide +kernel
theorem dX2_read_36 : decode cX2_read 36 = .ok (.putfield 44, 3) := by decide +kernel
theorem dX2_read_39 : decode cX2_read 39 = .ok (.aload_n 0, 1) := by decide +kernel
theorem dX2_read_40 : decode cX2_read 40 = .ok (.iconst 0, 1) := by decide +kernel
theorem dX2_read_41 : decode cX2_read 41 = .ok (.putfield 47, 3) := by decide +kernel
theorem dX2_read_44 : decode cX2_read 44 = .ok (.aload_n 0, 1) := by decide +kernel
theorem dX2_read_45 : decode cX2_read 45 = .ok (.iconst (-1), 1) := by decide +kernel
theorem dX2_read_46 : decode cX2_read 46 = .ok (.putfield 22, 3) := by decide +kernel
theorem dX2_read_49 : decode cX2_read 49 = .ok (.aload_n 0, 1) := by decide +kernel
theorem dX2_read_50 : decode cX2_read 50 = .ok (.iconst 0, 1) := by decide +kernel
theorem dX2_read_51 : decode cX2_read 51 = .ok (.putfield 50, 3) := by decide +kernel
theorem dX2_read_54 : decode cX2_read 54 = .ok (.aload_n 0, 1) := by decide +kernel
theorem dX2_read_55 : decode cX2_read 55 = .ok (.iconst 0, 1) := by decide +kernel
theorem dX2_read_56 : decode cX2_read 56 = .ok (.putfield 54, 3) := by decide +kernel
theorem dX2_read_59 : decode cX2_read 59 = .ok (.aload_n 0, 1) := by decide +kernel
theorem dX2_read_60 : decode cX2_read 60 = .ok (.iconst 0, 1) := by decide +kernel
theorem dX2_read_61 : decode cX2_read 61 = .ok (.putfield 57, 3) := by decide +kernel
theorem dX2_read_64 : decode cX2_read 64 = .ok (.aload_n 0, 1) := by decide +kernel
theorem dX2_read_65 : decode cX2_read 65 = .ok (.iconst 0, 1) := by decide +kernel
theorem dX2_read_66 : decode cX2_read 66 = .ok (.putfield 60, 3) := by decide +kernel
theorem dX2_read_69 : decode cX2_read 69 = .ok (.aload_n 0, 1) := by decide +kernel
theorem dX2_read_70 : decode cX2_read 70 = .ok (.invokevirtual 63, 3) := by decide +kernel
theorem dX2_read_73 : decode cX2_read 73 = .ok (.iconst 0, 1) := by decide +kernel
theorem dX2_read_74 : decode cX2_read 74 = .ok (.istore_n 3, 1) := by decide +kernel
theorem dX2_read_75 : decode cX2_read 75 = .ok (.iload_n 3, 1) := by decide +kernel
theorem dX2_read_76 : decode cX2_read 76 = .ok (.iconst 4, 1) := by decide +kernel
theorem dX2_read_77 : decode cX2_read 77 = .ok (.if_icmp .gt 27, 3) := by decide +kernel
theorem dX2_read_80 : decode cX2_read 80 = .ok (.aload_n 0, 1) := by decide +kernel
theorem dX2_read_81 : decode cX2_read 81 = .ok (.getfield 47, 3) := by decide +kernel
theorem dX2_read_84 : decode cX2_read 84 = .ok (.ifCond .ne 20, 3) := by decide +kernel
theorem dX2_read_87 : decode cX2_read 87 = .ok (.aload_n 0, 1) := by decide +kernel
theorem dX2_read_88 : decode cX2_read 88 = .ok (.invokevirtual 66, 3) := by decide +kernel
theorem dX2_read_91 : decode cX2_read 91 = .ok (.ifCond .eq 13, 3) := by decide +kernel
theorem dX2_read_94 : decode cX2_read 94 = .ok (.aload_n 0, 1) := by decide +kernel
theorem dX2_read_95 : decode cX2_read 95 = .ok (.invokevirtual 70, 3) := by decide +kernel
theorem dX2_read_98 : decode cX2_read 98 = .ok (.iinc 3 1, 3) := by decide +kernel
theorem dX2_read_101 : decode cX2_read 101 = .ok (.goto (-26), 3) := by decide +kernel
theorem dX2_read_104 : decode cX2_read 104 = .ok (.aload_n 0, 1) := by decide +kernel
theorem dX2_read_105 : decode cX2_read 105 = .ok (.getfield 47, 3) := by decide +kernel
theorem dX2_read_108 : decode cX2_read 108 = .ok (.ireturn, 1) := by decide +kernel
theorem dX2_readPage_0 : decode cX2_readPage 0 = .ok (.aload_n 0, 1) := by decide +kernel
theorem dX2_readPage_1 : decode cX2_readPage 1 = .ok (.invokevirtual 73, 3) := by decide +kernel
theorem dX2_readPage_4 : decode cX2_readPage 4 = .ok (.aload_n 0, 1) := by decide +kernel
theorem dX2_readPage_5 : decode cX2_readPage 5 = .ok (.getfield 44, 3) := by decide +kernel
theorem dX2_readPage_8 : decode cX2_readPage 8 = .ok (.istore_n 1, 1) := by decide +kernel
theorem dX2_readPage_9 : decode cX2_readPage 9 = .ok (.aload_n 0, 1) := by decide +kernel
theorem dX2_readPage_10 : decode cX2_readPage 10 = .ok (.invokevirtual 76, 3) := by decide +kernel
theorem dX2_readPage_13 : decode cX2_readPage 13 = .ok (.aload_n 0, 1) := by decide +kernel
theorem dX2_readPage_14 : decode cX2_readPage 14 = .ok (.iload_n 1, 1) := by decide +kernel
theorem dX2_readPage_15 : decode cX2_readPage 15 = .ok (.ldc 79, 2) := by decide +kernel
theorem dX2_readPage_17 : decode cX2_readPage 17 = .ok (.invokevirtual 81, 3) := by decide +kernel
theorem dX2_readPage_20 : decode cX2_readPage 20 = .ok (.ifCond .ne 10, 3) := by decide +kernel
theorem dX2_readPage_23 : decode cX2_readPage 23 = .ok (.aload_n 0, 1) := by decide +kernel
theorem dX2_readPage_24 : decode cX2_readPage 24 = .ok (.bipush (-2), 2) := by decide +kernel
theorem dX2_readPage_26 : decode cX2_readPage 26 = .ok (.iload_n 1, 1) := by decide +kernel
theorem dX2_readPage_27 : decode cX2_readPage 27 = .ok (.invokevirtual 85, 3) := by decide +kernel
theorem dX2_readPage_30 : decode cX2_readPage 30 = .ok (.aload_n 0, 1) := by decide +kernel
theorem dX2_readPage_31 : decode cX2_readPage 31 = .ok (.bipush 8, 2) := by decide +kernel
theorem dX2_readPage_33 : decode cX2_readPage 33 = .ok (.invokevirtual 89, 3) := by decide +kernel
theorem dX2_readPage_36 : decode cX2_readPage 36 = .ok (.istore_n 2, 1) := by decide +kernel
theorem dX2_readPage_37 : decode cX2_readPage 37 = .ok (.aload_n 0, 1) := by decide +kernel
theorem dX2_readPage_38 : decode cX2_readPage 38 = .ok (.bipush 6, 2) := by decide +kernel
theorem dX2_readPage_40 : decode cX2_readPage 40 = .ok (.invokevirtual 89, 3) := by decide +kernel
theorem dX2_readPage_43 : decode cX2_readPage 43 = .ok (.istore_n 3, 1) := by decide +kernel
theorem dX2_readPage_44 : decode cX2_readPage 44 = .ok (.aload_n 0, 1) := by decide +kernel
theorem dX2_readPage_45 : decode cX2_readPage 45 = .ok (.invokevirtual 93, 3) := by decide +kernel
theorem dX2_readPage_48 : decode cX2_readPage 48 = .ok (.aload_n 0, 1) := by decide +kernel
theorem dX2_readPage_49 : decode cX2_readPage 49 = .ok (.getfield 47, 3) := by decide +kernel
theorem dX2_readPage_52 : decode cX2_readPage 52 = .ok (.ifCond .ne 12, 3) := by decide +kernel
theorem dX2_readPage_55 : decode cX2_readPage 55 = .ok (.aload_n 0, 1) := by decide +kernel
theorem dX2_readPage_56 : decode cX2_readPage 56 = .ok (.getfield 12, 3) := by decide +kernel
theorem dX2_readPage_59 : decode cX2_readPage 59 = .ok (.iload_n 2, 1) := by decide +kernel
theorem dX2_readPage_60 : decode cX2_readPage 60 = .ok (.iload_n 3, 1) := by decide +kernel
theorem dX2_readPage_61 : decode cX2_readPage 61 = .ok (.invokevirtual 96, 3) := by decide +kernel
theorem dX2_readPage_64 : decode cX2_readPage 64 = .ok (.return_, 1) := by decide +kernel
theorem dX2_readStatement_0 : decode cX2_readStatement 0 = .ok (.aload_n 0, 1) := by decide +kernel
theorem dX2_readStatement_1 : decode cX2_readStatement 1 = .ok (.getfield 44, 3) := by decide +kernel
theorem dX2_readStatement_4 : decode cX2_readStatement 4 = .ok (.istore_n 1, 1) := by decide +kernel
theorem dX2_readStatement_5 : decode cX2_readStatement 5 = .ok (.aload_n 0, 1) := by decide +kernel
theorem dX2_readStatement_6 : decode cX2_readStatement 6 = .ok (.invokevirtual 76, 3) := by decide +kernel
theorem dX2_readStatement_9 : decode cX2_readStatement 9 = .ok (.aload_n 0, 1) := by decide +kernel
theorem dX2_readStatement_10 : decode cX2_readStatement 10 = .ok (.iload_n 1, 1) := by decide +kernel
theorem dX2_readStatement_11 : decode cX2_readStatement 11 = .ok (.ldc 99, 2) := by decide +kernel
theorem dX2_readStatement_13 : decode cX2_readStatement 13 = .ok (.invokevirtual 81, 3) := by decide +kernel
theorem dX2_readStatement_16 : decode cX2_readStatement 16 = .ok (.ifCond .eq 23, 3) := by decide +kernel
theorem dX2_readStatement_19 : decode cX2_readStatement 19 = .ok (.aload_n 0, 1) := by decide +kernel
theorem dX2_readStatement_20 : decode cX2_readStatement 20 = .ok (.getfield 50, 3) := by decide +kernel
theorem dX2_readStatement_23 : decode cX2_readStatement 23 = .ok (.ifCond .ne 16, 3) := by decide +kernel
theorem dX2_readStatement_26 : decode cX2_readStatement 26 = .ok (.aload_n 0, 1) := by decide +kernel
theorem dX2_readStatement_27 : decode cX2_readStatement 27 = .ok (.iconst 1, 1) := by decide +kernel
theorem dX2_readStatement_28 : decode cX2_readStatement 28 = .ok (.putfield 50, 3) := by decide +kernel
theorem dX2_readStatement_31 : decode cX2_readStatement 31 = .ok (.aload_n 0, 1) := by decide +kernel
theorem dX2_readStatement_32 : decode cX2_readStatement 32 = .ok (.iconst 0, 1) := by decide +kernel
theorem dX2_readStatement_33 : decode cX2_readStatement 33 = .ok (.invokevirtual 101, 3) := by decide +kernel
theorem dX2_readStatement_36 : decode cX2_readStatement 36 = .ok (.goto 107, 3) := by decide +kernel
theorem dX2_readStatement_39 : decode cX2_readStatement 39 = .ok (.aload_n 0, 1) := by decide +kernel
theorem dX2_readStatement_40 : decode cX2_readStatement 40 = .ok (.iload_n 1, 1) := by decide +kernel
theorem dX2_readStatement_41 : decode cX2_readStatement 41 = .ok (.ldc 105, 2) := by decide +kernel
theorem dX2_readStatement_43 : decode cX2_readStatement 43 = .ok (.invokevirtual 81, 3) := by decide +kernel
theorem dX2_readStatement_46 : decode cX2_readStatement 46 = .ok (.ifCond .eq 23, 3) := by decide +kernel
theorem dX2_readStatement_49 : decode cX2_readStatement 49 = .ok (.aload_n 0, 1) := by decide +kernel
theorem dX2_readStatement_50 : decode cX2_readStatement 50 = .ok (.getfield 54, 3) := by decide +kernel
theorem dX2_readStatement_53 : decode cX2_readStatement 53 = .ok (.ifCond .ne 16, 3) := by decide +kernel
theorem dX2_readStatement_56 : decode cX2_readStatement 56 = .ok (.aload_n 0, 1) := by decide +kernel
theorem dX2_readStatement_57 : decode cX2_readStatement 57 = .ok (.iconst 1, 1) := by decide +kernel
theorem dX2_readStatement_58 : decode cX2_readStatement 58 = .ok (.putfield 54, 3) := by decide +kernel
theorem dX2_readStatement_61 : decode cX2_readStatement 61 = .ok (.aload_n 0, 1) := by decide +kernel
theorem dX2_readStatement_62 : decode cX2_readStatement 62 = .ok (.iconst 1, 1) := by decide +kernel
theorem dX2_readStatement_63 : decode cX2_readStatement 63 = .ok (.invokevirtual 101, 3) := by decide +kernel
theorem dX2_readStatement_66 : decode cX2_readStatement 66 = .ok (.goto 77, 3) := by decide +kernel
theorem dX2_readStatement_69 : decode cX2_readStatement 69 = .ok (.aload_n 0, 1) := by decide +kernel
theorem dX2_readStatement_70 : decode cX2_readStatement 70 = .ok (.iload_n 1, 1) := by decide +kernel
theorem dX2_readStatement_71 : decode cX2_readStatement 71 = .ok (.ldc 107, 2) := by decide +kernel
theorem dX2_readStatement_73 : decode cX2_readStatement 73 = .ok (.invokevirtual 81, 3) := by decide +kernel
theorem dX2_readStatement_76 : decode cX2_readStatement 76 = .ok (.ifCond .eq 22, 3) := by decide +kernel
theorem dX2_readStatement_79 : decode cX2_readStatement 79 = .ok (.aload_n 0, 1) := by decide +kernel
theorem dX2_readStatement_80 : decode cX2_readStatement 80 = .ok (.getfield 57, 3) := by decide +kernel
theorem dX2_readStatement_83 : decode cX2_readStatement 83 = .ok (.ifCond .ne 15, 3) := by decide +kernel
theorem dX2_readStatement_86 : decode cX2_readStatement 86 = .ok (.aload_n 0, 1) := by decide +kernel
theorem dX2_readStatement_87 : decode cX2_readStatement 87 = .ok (.iconst 1, 1) := by decide +kernel
theorem dX2_readStatement_88 : decode cX2_readStatement 88 = .ok (.putfield 57, 3) := by decide +kernel
theorem dX2_readStatement_91 : decode cX2_readStatement 91 = .ok (.aload_n 0, 1) := by decide +kernel
theorem dX2_readStatement_92 : decode cX2_readStatement 92 = .ok (.invokevirtual 109, 3) := by decide +kernel
theorem dX2_readStatement_95 : decode cX2_readStatement 95 = .ok (.goto 48, 3) := by decide +kernel
theorem dX2_readStatement_98 : decode cX2_readStatement 98 = .ok (.aload_n 0, 1) := by decide +kernel
theorem dX2_readStatement_99 : decode cX2_readStatement 99 = .ok (.iload_n 1, 1) := by decide +kernel
theorem dX2_readStatement_100 : decode cX2_readStatement 100 = .ok (.ldc 112, 2) := by decide +kernel
theorem dX2_readStatement_102 : decode cX2_readStatement 102 = .ok (.invokevirtual 81, 3) := by decide +kernel
theorem dX2_readStatement_105 : decode cX2_readStatement 105 = .ok (.ifCond .eq 31, 3) := by decide +kernel
theorem dX2_readStatement_108 : decode cX2_readStatement 108 = .ok (.aload_n 0, 1) := by decide +kernel
theorem dX2_readStatement_109 : decode cX2_readStatement 109 = .ok (.getfield 60, 3) := by decide +kernel
theorem dX2_readStatement_112 : decode cX2_readStatement 112 = .ok (.ifCond .ne 24, 3) := by decide +kernel
theorem dX2_readStatement_115 : decode cX2_readStatement 115 = .ok (.aload_n 0, 1) := by decide +kernel
theorem dX2_readStatement_116 : decode cX2_readStatement 116 = .ok (.iconst 1, 1) := by decide +kernel
theorem dX2_readStatement_117 : decode cX2_readStatement 117 = .ok (.putfield 60, 3) := by decide +kernel
theorem dX2_readStatement_120 : decode cX2_readStatement 120 = .ok (.aload_n 0, 1) := by decide +kernel
theorem dX2_readStatement_121 : decode cX2_readStatement 121 = .ok (.getfield 12, 3) := by decide +kernel
theorem dX2_readStatement_124 : decode cX2_readStatement 124 = .ok (.aload_n 0, 1) := by decide +kernel
theorem dX2_readStatement_125 : decode cX2_readStatement 125 = .ok (.bipush 9, 2) := by decide +kernel
theorem dX2_readStatement_127 : decode cX2_readStatement 127 = .ok (.invokevirtual 89, 3) := by decide +kernel
theorem dX2_readStatement_130 : decode cX2_readStatement 130 = .ok (.putfield 114, 3) := by decide +kernel
theorem dX2_readStatement_133 : decode cX2_readStatement 133 = .ok (.goto 10, 3) := by decide +kernel
theorem dX2_readStatement_136 : decode cX2_readStatement 136 = .ok (.aload_n 0, 1) := by decide +kernel
theorem dX2_readStatement_137 : decode cX2_readStatement 137 = .ok (.bipush (-2), 2) := by decide +kernel
theorem dX2_readStatement_139 : decode cX2_readStatement 139 = .ok (.iload_n 1, 1) := by decide +kernel
theorem dX2_readStatement_140 : decode cX2_readStatement 140 = .ok (.invokevirtual 85, 3) := by decide +kernel
theorem dX2_readStatement_143 : decode cX2_readStatement 143 = .ok (.aload_n 0, 1) := by decide +kernel
theorem dX2_readStatement_144 : decode cX2_readStatement 144 = .ok (.invokevirtual 93, 3) := by decide +kernel
theorem dX2_readStatement_147 : decode cX2_readStatement 147 = .ok (.return_, 1) := by decide +kernel
theorem dX2_readLines_0 : decode cX2_readLines 0 = .ok (.iconst 0, 1) := by decide +kernel
theorem dX2_readLines_1 : decode cX2_readLines 1 = .ok (.istore_n 2, 1) := by decide +kernel
theorem dX2_readLines_2 : decode cX2_readLines 2 = .ok (.iload_n 2, 1) := by decide +kernel
theorem dX2_readLines_3 : decode cX2_readLines 3 = .ok (.aload_n 0, 1) := by decide +kernel
theorem dX2_readLines_4 : decode cX2_readLines 4 = .ok (.getfield 12, 3) := by decide +kernel
theorem dX2_readLines_7 : decode cX2_readLines 7 = .ok (.getfield 117, 3) := by decide +kernel
theorem dX2_readLines_10 : decode cX2_readLines 10 = .ok (.if_icmp .ge 22, 3) := by decide +kernel
theorem dX2_readLines_13 : decode cX2_readLines 13 = .ok (.aload_n 0, 1) := by decide +kernel
theorem dX2_readLines_14 : decode cX2_readLines 14 = .ok (.iload_n 1, 1) := by decide +kernel
theorem dX2_readLines_15 : decode cX2_readLines 15 = .ok (.bipush 48, 2) := by decide +kernel
theorem dX2_readLines_17 : decode cX2_readLines 17 = .ok (.imul, 1) := by decide +kernel
theorem dX2_readLines_18 : decode cX2_readLines 18 = .ok (.iload_n 2, 1) := by decide +kernel
theorem dX2_readLines_19 : decode cX2_readLines 19 = .ok (.bipush 8, 2) := by decide +kernel
theorem dX2_readLines_21 : decode cX2_readLines 21 = .ok (.imul, 1) := by decide +kernel
theorem dX2_readLines_22 : decode cX2_readLines 22 = .ok (.iadd, 1) := by decide +kernel
theorem dX2_readLines_23 : decode cX2_readLines 23 = .ok (.invokevirtual 120, 3) := by decide +kernel
theorem dX2_readLines_26 : decode cX2_readLines 26 = .ok (.iinc 2 1, 3) := by decide +kernel
theorem dX2_readLines_29 : decode cX2_readLines 29 = .ok (.goto (-27), 3) := by decide +kernel
theorem dX2_readLines_32 : decode cX2_readLines 32 = .ok (.return_, 1) := by decide +kernel
theorem dX2_readLine_0 : decode cX2_readLine 0 = .ok (.aload_n 0, 1) := by decide +kernel
theorem dX2_readLine_1 : decode cX2_readLine 1 = .ok (.invokevirtual 73, 3) := by decide +kernel
theorem dX2_readLine_4 : decode cX2_readLine 4 = .ok (.aload_n 0, 1) := by decide +kernel
theorem dX2_readLine_5 : decode cX2_readLine 5 = .ok (.getfield 44, 3) := by decide +kernel
theorem dX2_readLine_8 : decode cX2_readLine 8 = .ok (.istore_n 2, 1) := by decide +kernel
theorem dX2_readLine_9 : decode cX2_readLine 9 = .ok (.aload_n 0, 1) := by decide +kernel
theorem dX2_readLine_10 : decode cX2_readLine 10 = .ok (.getfield 44, 3) := by decide +kernel
theorem dX2_readLine_13 : decode cX2_readLine 13 = .ok (.aload_n 0, 1) := by decide +kernel
theorem dX2_readLine_14 : decode cX2_readLine 14 = .ok (.getfield 35, 3) := by decide +kernel
theorem dX2_readLine_17 : decode cX2_readLine 17 = .ok (.if_icmp .ge 45, 3) := by decide +kernel
theorem dX2_readLine_20 : decode cX2_readLine 20 = .ok (.aload_n 0, 1) := by decide +kernel
theorem dX2_readLine_21 : decode cX2_readLine 21 = .ok (.getfield 18, 3) := by decide +kernel
theorem dX2_readLine_24 : decode cX2_readLine 24 = .ok (.aload_n 0, 1) := by decide +kernel
theorem dX2_readLine_25 : decode cX2_readLine 25 = .ok (.getfield 44, 3) := by decide +kernel
theorem dX2_readLine_28 : decode cX2_readLine 28 = .ok (.baload, 1) := by decide +kernel
theorem dX2_readLine_29 : decode cX2_readLine 29 = .ok (.invokestatic 123, 3) := by decide +kernel
theorem dX2_readLine_32 : decode cX2_readLine 32 = .ok (.ifCond .ne 17, 3) := by decide +kernel
theorem dX2_readLine_35 : decode cX2_readLine 35 = .ok (.aload_n 0, 1) := by decide +kernel
theorem dX2_readLine_36 : decode cX2_readLine 36 = .ok (.getfield 18, 3) := by decide +kernel
theorem dX2_readLine_39 : decode cX2_readLine 39 = .ok (.aload_n 0, 1) := by decide +kernel
theorem dX2_readLine_40 : decode cX2_readLine 40 = .ok (.getfield 44, 3) := by decide +kernel
theorem dX2_readLine_43 : decode cX2_readLine 43 = .ok (.baload, 1) := by decide +kernel
theorem dX2_readLine_44 : decode cX2_readLine 44 = .ok (.bipush 45, 2) := by decide +kernel
theorem dX2_readLine_46 : decode cX2_readLine 46 = .ok (.if_icmp .ne 16, 3) := by decide +kernel
theorem dX2_readLine_49 : decode cX2_readLine 49 = .ok (.aload_n 0, 1) := by decide +kernel
theorem dX2_readLine_50 : decode cX2_readLine 50 = .ok (.dup, 1) := by decide +kernel
theorem dX2_readLine_51 : decode cX2_readLine 51 = .ok (.getfield 44, 3) := by decide +kernel
theorem dX2_readLine_54 : decode cX2_readLine 54 = .ok (.iconst 1, 1) := by decide +kernel
theorem dX2_readLine_55 : decode cX2_readLine 55 = .ok (.iadd, 1) := by decide +kernel
theorem dX2_readLine_56 : decode cX2_readLine 56 = .ok (.putfield 44, 3) := by decide +kernel
theorem dX2_readLine_59 : decode cX2_readLine 59 = .ok (.goto (-50), 3) := by decide +kernel
theorem dX2_readLine_62 : decode cX2_readLine 62 = .ok (.aload_n 0, 1) := by decide +kernel
theorem dX2_readLine_63 : decode cX2_readLine 63 = .ok (.getfield 44, 3) := by decide +kernel
theorem dX2_readLine_66 : decode cX2_readLine 66 = .ok (.iload_n 2, 1) := by decide +kernel
theorem dX2_readLine_67 : decode cX2_readLine 67 = .ok (.if_icmp .ne 13, 3) := by decide +kernel
theorem dX2_readLine_70 : decode cX2_readLine 70 = .ok (.aload_n 0, 1) := by decide +kernel
theorem dX2_readLine_71 : decode cX2_readLine 71 = .ok (.bipush (-2), 2) := by decide +kernel
theorem dX2_readLine_73 : decode cX2_readLine 73 = .ok (.iload_n 2, 1) := by decide +kernel
theorem dX2_readLine_74 : decode cX2_readLine 74 = .ok (.invokevirtual 85, 3) := by decide +kernel
theorem dX2_readLine_77 : decode cX2_readLine 77 = .ok (.goto 26, 3) := by decide +kernel
theorem dX2_readLine_80 : decode cX2_readLine 80 = .ok (.aload_n 0, 1) := by decide +kernel
theorem dX2_readLine_81 : decode cX2_readLine 81 = .ok (.getfield 44, 3) := by decide +kernel
theorem dX2_readLine_84 : decode cX2_readLine 84 = .ok (.iload_n 2, 1) := by decide +kernel
theorem dX2_readLine_85 : decode cX2_readLine 85 = .ok (.isub, 1) := by decide +kernel
theorem dX2_readLine_86 : decode cX2_readLine 86 = .ok (.aload_n 0, 1) := by decide +kernel
theorem dX2_readLine_87 : decode cX2_readLine 87 = .ok (.getfield 12, 3) := by decide +kernel
theorem dX2_readLine_90 : decode cX2_readLine 90 = .ok (.getfield 127, 3) := by decide +kernel
theorem dX2_readLine_93 : decode cX2_readLine 93 = .ok (.if_icmp .eq 10, 3) := by decide +kernel
theorem dX2_readLine_96 : decode cX2_readLine 96 = .ok (.aload_n 0, 1) := by decide +kernel
theorem dX2_readLine_97 : decode cX2_readLine 97 = .ok (.bipush (-4), 2) := by decide +kernel
theorem dX2_readLine_99 : decode cX2_readLine 99 = .ok (.iload_n 2, 1) := by decide +kernel
theorem dX2_readLine_100 : decode cX2_readLine 100 = .ok (.invokevirtual 85, 3) := by decide +kernel
theorem dX2_readLine_103 : decode cX2_readLine 103 = .ok (.aload_n 0, 1) := by decide +kernel
theorem dX2_readLine_104 : decode cX2_readLine 104 = .ok (.getfield 47, 3) := by decide +kernel
theorem dX2_readLine_107 : decode cX2_readLine 107 = .ok (.ifCond .eq 4, 3) := by decide +kernel
theorem dX2_readLine_110 : decode cX2_readLine 110 = .ok (.return_, 1) := by decide +kernel
theorem dX2_readLine_111 : decode cX2_readLine 111 = .ok (.iconst 0, 1) := by decide +kernel
theorem dX2_readLine_112 : decode cX2_readLine 112 = .ok (.istore_n 3, 1) := by decide +kernel
theorem dX2_readLine_113 : decode cX2_readLine 113 = .ok (.iload_n 3, 1) := by decide +kernel
theorem dX2_readLine_114 : decode cX2_readLine 114 = .ok (.aload_n 0, 1) := by decide +kernel
theorem dX2_readLine_115 : decode cX2_readLine 115 = .ok (.getfield 12, 3) := by decide +kernel
theorem dX2_readLine_118 : decode cX2_readLine 118 = .ok (.getfield 127, 3) := by decide +kernel
theorem dX2_readLine_121 : decode cX2_readLine 121 = .ok (.if_icmp .ge 67, 3) := by decide +kernel
theorem dX2_readLine_124 : decode cX2_readLine 124 = .ok (.iload_n 1, 1) := by decide +kernel
theorem dX2_readLine_125 : decode cX2_readLine 125 = .ok (.iload_n 3, 1) := by decide +kernel
theorem dX2_readLine_126 : decode cX2_readLine 126 = .ok (.iadd, 1) := by decide +kernel
theorem dX2_readLine_127 : decode cX2_readLine 127 = .ok (.bipush 96, 2) := by decide +kernel
theorem dX2_readLine_129 : decode cX2_readLine 129 = .ok (.if_icmp .ge 53, 3) := by decide +kernel
theorem dX2_readLine_132 : decode cX2_readLine 132 = .ok (.iload_n 2, 1) := by decide +kernel
theorem dX2_readLine_133 : decode cX2_readLine 133 = .ok (.iload_n 3, 1) := by decide +kernel
theorem dX2_readLine_134 : decode cX2_readLine 134 = .ok (.iadd, 1) := by decide +kernel
theorem dX2_readLine_135 : decode cX2_readLine 135 = .ok (.aload_n 0, 1) := by decide +kernel
theorem dX2_readLine_136 : decode cX2_readLine 136 = .ok (.getfield 35, 3) := by decide +kernel
theorem dX2_readLine_139 : decode cX2_readLine 139 = .ok (.if_icmp .ge 43, 3) := by decide +kernel
theorem dX2_readLine_142 : decode cX2_readLine 142 = .ok (.aload_n 0, 1) := by decide +kernel
theorem dX2_readLine_143 : decode cX2_readLine 143 = .ok (.getfield 12, 3) := by decide +kernel
theorem dX2_readLine_146 : decode cX2_readLine 146 = .ok (.getfield 130, 3) := by decide +kernel
theorem dX2_readLine_149 : decode cX2_readLine 149 = .ok (.iload_n 1, 1) := by decide +kernel
theorem dX2_readLine_150 : decode cX2_readLine 150 = .ok (.iload_n 3, 1) := by decide +kernel
theorem dX2_readLine_151 : decode cX2_readLine 151 = .ok (.iadd, 1) := by decide +kernel
theorem dX2_readLine_152 : decode cX2_readLine 152 = .ok (.aload_n 0, 1) := by decide +kernel
theorem dX2_readLine_153 : decode cX2_readLine 153 = .ok (.getfield 18, 3) := by decide +kernel
theorem dX2_readLine_156 : decode cX2_readLine 156 = .ok (.iload_n 2, 1) := by decide +kernel
theorem dX2_readLine_157 : decode cX2_readLine 157 = .ok (.iload_n 3, 1) := by decide +kernel
theorem dX2_readLine_158 : decode cX2_readLine 158 = .ok (.iadd, 1) := by decide +kernel
theorem dX2_readLine_159 : decode cX2_readLine 159 = .ok (.baload, 1) := by decide +kernel
theorem dX2_readLine_160 : decode cX2_readLine 160 = .ok (.invokestatic 123, 3) := by decide +kernel
theorem dX2_readLine_163 : decode cX2_readLine 163 = .ok (.ifCond .eq 17, 3) := by decide +kernel
theorem dX2_readLine_166 : decode cX2_readLine 166 = .ok (.aload_n 0, 1) := by decide +kernel
theorem dX2_readLine_167 : decode cX2_readLine 167 = .ok (.getfield 18, 3) := by decide +kernel
theorem dX2_readLine_170 : decode cX2_readLine 170 = .ok (.iload_n 2, 1) := by decide +kernel
theorem dX2_readLine_171 : decode cX2_readLine 171 = .ok (.iload_n 3, 1) := by decide +kernel
theorem dX2_readLine_172 : decode cX2_readLine 172 = .ok (.iadd, 1) := by decide +kernel
theorem dX2_readLine_173 : decode cX2_readLine 173 = .ok (.baload, 1) := by decide +kernel
theorem dX2_readLine_174 : decode cX2_readLine 174 = .ok (.bipush 97, 2) := by decide +kernel
theorem dX2_readLine_176 : decode cX2_readLine 176 = .ok (.isub, 1) := by decide +kernel
theorem dX2_readLine_177 : decode cX2_readLine 177 = .ok (.goto 4, 3) := by decide +kernel
theorem dX2_readLine_180 : decode cX2_readLine 180 = .ok (.iconst (-1), 1) := by decide +kernel
theorem dX2_readLine_181 : decode cX2_readLine 181 = .ok (.iastore, 1) := by decide +kernel
theorem dX2_readLine_182 : decode cX2_readLine 182 = .ok (.iinc 3 1, 3) := by decide +kernel
theorem dX2_readLine_185 : decode cX2_readLine 185 = .ok (.goto (-72), 3) := by decide +kernel
theorem dX2_readLine_188 : decode cX2_readLine 188 = .ok (.return_, 1) := by decide +kernel
theorem dX2_readSizes_0 : decode cX2_readSizes 0 = .ok (.iconst 0, 1) := by decide +kernel
theorem dX2_readSizes_1 : decode cX2_readSizes 1 = .ok (.istore_n 1, 1) := by decide +kernel
theorem dX2_readSizes_2 : decode cX2_readSizes 2 = .ok (.iload_n 1, 1) := by decide +kernel
theorem dX2_readSizes_3 : decode cX2_readSizes 3 = .ok (.iconst 1, 1) := by decide +kernel
theorem dX2_readSizes_4 : decode cX2_readSizes 4 = .ok (.if_icmp .gt 54, 3) := by decide +kernel
theorem dX2_readSizes_7 : decode cX2_readSizes 7 = .ok (.iconst 0, 1) := by decide +kernel
theorem dX2_readSizes_8 : decode cX2_readSizes 8 = .ok (.istore_n 2, 1) := by decide +kernel
theorem dX2_readSizes_9 : decode cX2_readSizes 9 = .ok (.iload_n 2, 1) := by decide +kernel
theorem dX2_readSizes_10 : decode cX2_readSizes 10 = .ok (.aload_n 0, 1) := by decide +kernel
theorem dX2_readSizes_11 : decode cX2_readSizes 11 = .ok (.getfield 12, 3) := by decide +kernel
theorem dX2_readSizes_14 : decode cX2_readSizes 14 = .ok (.getfield 117, 3) := by decide +kernel
theorem dX2_readSizes_17 : decode cX2_readSizes 17 = .ok (.if_icmp .ge 35, 3) := by decide +kernel
theorem dX2_readSizes_20 : decode cX2_readSizes 20 = .ok (.iload_n 2, 1) := by decide +kernel
theorem dX2_readSizes_21 : decode cX2_readSizes 21 = .ok (.bipush 6, 2) := by decide +kernel
theorem dX2_readSizes_23 : decode cX2_readSizes 23 = .ok (.if_icmp .ge 29, 3) := by decide +kernel
theorem dX2_readSizes_26 : decode cX2_readSizes 26 = .ok (.aload_n 0, 1) := by decide +kernel
theorem dX2_readSizes_27 : decode cX2_readSizes 27 = .ok (.getfield 12, 3) := by decide +kernel
theorem dX2_readSizes_30 : decode cX2_readSizes 30 = .ok (.getfield 134, 3) := by decide +kernel
theorem dX2_readSizes_33 : decode cX2_readSizes 33 = .ok (.iload_n 1, 1) := by decide +kernel
theorem dX2_readSizes_34 : decode cX2_readSizes 34 = .ok (.bipush 6, 2) := by decide +kernel
theorem dX2_readSizes_36 : decode cX2_readSizes 36 = .ok (.imul, 1) := by decide +kernel
theorem dX2_readSizes_37 : decode cX2_readSizes 37 = .ok (.iload_n 2, 1) := by decide +kernel
theorem dX2_readSizes_38 : decode cX2_readSizes 38 = .ok (.iadd, 1) := by decide +kernel
theorem dX2_readSizes_39 : decode cX2_readSizes 39 = .ok (.aload_n 0, 1) := by decide +kernel
theorem dX2_readSizes_40 : decode cX2_readSizes 40 = .ok (.bipush 9, 2) := by decide +kernel
theorem dX2_readSizes_42 : decode cX2_readSizes 42 = .ok (.invokevirtual 89, 3) := by decide +kernel
theorem dX2_readSizes_45 : decode cX2_readSizes 45 = .ok (.iastore, 1) := by decide +kernel
theorem dX2_readSizes_46 : decode cX2_readSizes 46 = .ok (.iinc 2 1, 3) := by decide +kernel
theorem dX2_readSizes_49 : decode cX2_readSizes 49 = .ok (.goto (-40), 3) := by decide +kernel
theorem dX2_readSizes_52 : decode cX2_readSizes 52 = .ok (.iinc 1 1, 3) := by decide +kernel
theorem dX2_readSizes_55 : decode cX2_readSizes 55 = .ok (.goto (-53), 3) := by decide +kernel
theorem dX2_readSizes_58 : decode cX2_readSizes 58 = .ok (.return_, 1) := by decide +kernel
theorem dX2_readNumber_0 : decode cX2_readNumber 0 = .ok (.aload_n 0, 1) := by decide +kernel
theorem dX2_readNumber_1 : decode cX2_readNumber 1 = .ok (.invokevirtual 73, 3) := by decide +kernel
theorem dX2_readNumber_4 : decode cX2_readNumber 4 = .ok (.aload_n 0, 1) := by decide +kernel
theorem dX2_readNumber_5 : decode cX2_readNumber 5 = .ok (.getfield 44, 3) := by decide +kernel
theorem dX2_readNumber_8 : decode cX2_readNumber 8 = .ok (.istore_n 2, 1) := by decide +kernel
theorem dX2_readNumber_9 : decode cX2_readNumber 9 = .ok (.iconst 0, 1) := by decide +kernel
theorem dX2_readNumber_10 : decode cX2_readNumber 10 = .ok (.istore_n 3, 1) := by decide +kernel
theorem dX2_readNumber_11 : decode cX2_readNumber 11 = .ok (.aload_n 0, 1) := by decide +kernel
theorem dX2_readNumber_12 : decode cX2_readNumber 12 = .ok (.getfield 44, 3) := by decide +kernel
theorem dX2_readNumber_15 : decode cX2_readNumber 15 = .ok (.aload_n 0, 1) := by decide +kernel
theorem dX2_readNumber_16 : decode cX2_readNumber 16 = .ok (.getfield 35, 3) := by decide +kernel
theorem dX2_readNumber_19 : decode cX2_readNumber 19 = .ok (.if_icmp .ge 68, 3) := by decide +kernel
theorem dX2_readNumber_22 : decode cX2_readNumber 22 = .ok (.aload_n 0, 1) := by decide +kernel
theorem dX2_readNumber_23 : decode cX2_readNumber 23 = .ok (.getfield 18, 3) := by decide +kernel
theorem dX2_readNumber_26 : decode cX2_readNumber 26 = .ok (.aload_n 0, 1) := by decide +kernel
theorem dX2_readNumber_27 : decode cX2_readNumber 27 = .ok (.getfield 44, 3) := by decide +kernel
theorem dX2_readNumber_30 : decode cX2_readNumber 30 = .ok (.baload, 1) := by decide +kernel
theorem dX2_readNumber_31 : decode cX2_readNumber 31 = .ok (.bipush 48, 2) := by decide +kernel
theorem dX2_readNumber_33 : decode cX2_readNumber 33 = .ok (.if_icmp .lt 54, 3) := by decide +kernel
theorem dX2_readNumber_36 : decode cX2_readNumber 36 = .ok (.aload_n 0, 1) := by decide +kernel
theorem dX2_readNumber_37 : decode cX2_readNumber 37 = .ok (.getfield 18, 3) := by decide +kernel
theorem dX2_readNumber_40 : decode cX2_readNumber 40 = .ok (.aload_n 0, 1) := by decide +kernel
theorem dX2_readNumber_41 : decode cX2_readNumber 41 = .ok (.getfield 44, 3) := by decide +kernel
theorem dX2_readNumber_44 : decode cX2_readNumber 44 = .ok (.baload, 1) := by decide +kernel
theorem dX2_readNumber_45 : decode cX2_readNumber 45 = .ok (.bipush 57, 2) := by decide +kernel
theorem dX2_readNumber_47 : decode cX2_readNumber 47 = .ok (.if_icmp .gt 40, 3) := by decide +kernel
theorem dX2_readNumber_50 : decode cX2_readNumber 50 = .ok (.sipush 1000, 3) := by decide +kernel
theorem dX2_readNumber_53 : decode cX2_readNumber 53 = .ok (.iload_n 3, 1) := by decide +kernel
theorem dX2_readNumber_54 : decode cX2_readNumber 54 = .ok (.bipush 10, 2) := by decide +kernel
theorem dX2_readNumber_56 : decode cX2_readNumber 56 = .ok (.imul, 1) := by decide +kernel
theorem dX2_readNumber_57 : decode cX2_readNumber 57 = .ok (.aload_n 0, 1) := by decide +kernel
theorem dX2_readNumber_58 : decode cX2_readNumber 58 = .ok (.getfield 18, 3) := by decide +kernel
theorem dX2_readNumber_61 : decode cX2_readNumber 61 = .ok (.aload_n 0, 1) := by decide +kernel
theorem dX2_readNumber_62 : decode cX2_readNumber 62 = .ok (.getfield 44, 3) := by decide +kernel
theorem dX2_readNumber_65 : decode cX2_readNumber 65 = .ok (.baload, 1) := by decide +kernel
theorem dX2_readNumber_66 : decode cX2_readNumber 66 = .ok (.iadd, 1) := by decide +kernel
theorem dX2_readNumber_67 : decode cX2_readNumber 67 = .ok (.bipush 48, 2) := by decide +kernel
theorem dX2_readNumber_69 : decode cX2_readNumber 69 = .ok (.isub, 1) := by decide +kernel
theorem dX2_readNumber_70 : decode cX2_readNumber 70 = .ok (.invokestatic 26, 3) := by decide +kernel
theorem dX2_readNumber_73 : decode cX2_readNumber 73 = .ok (.istore_n 3, 1) := by decide +kernel
theorem dX2_readNumber_74 : decode cX2_readNumber 74 = .ok (.aload_n 0, 1) := by decide +kernel
theorem dX2_readNumber_75 : decode cX2_readNumber 75 = .ok (.dup, 1) := by decide +kernel
theorem dX2_readNumber_76 : decode cX2_readNumber 76 = .ok (.getfield 44, 3) := by decide +kernel
theorem dX2_readNumber_79 : decode cX2_readNumber 79 = .ok (.iconst 1, 1) := by decide +kernel
theorem dX2_readNumber_80 : decode cX2_readNumber 80 = .ok (.iadd, 1) := by decide +kernel
theorem dX2_readNumber_81 : decode cX2_readNumber 81 = .ok (.putfield 44, 3) := by decide +kernel
theorem dX2_readNumber_84 : decode cX2_readNumber 84 = .ok (.goto (-73), 3) := by decide +kernel
theorem dX2_readNumber_87 : decode cX2_readNumber 87 = .ok (.aload_n 0, 1) := by decide +kernel
theorem dX2_readNumber_88 : decode cX2_readNumber 88 = .ok (.getfield 44, 3) := by decide +kernel
theorem dX2_readNumber_91 : decode cX2_readNumber 91 = .ok (.iload_n 2, 1) := by decide +kernel
theorem dX2_readNumber_92 : decode cX2_readNumber 92 = .ok (.if_icmp .ne 13, 3) := by decide +kernel
theorem dX2_readNumber_95 : decode cX2_readNumber 95 = .ok (.aload_n 0, 1) := by decide +kernel
theorem dX2_readNumber_96 : decode cX2_readNumber 96 = .ok (.bipush (-2), 2) := by decide +kernel
theorem dX2_readNumber_98 : decode cX2_readNumber 98 = .ok (.iload_n 2, 1) := by decide +kernel
theorem dX2_readNumber_99 : decode cX2_readNumber 99 = .ok (.invokevirtual 85, 3) := by decide +kernel
theorem dX2_readNumber_102 : decode cX2_readNumber 102 = .ok (.goto 20, 3) := by decide +kernel
theorem dX2_readNumber_105 : decode cX2_readNumber 105 = .ok (.iload_n 3, 1) := by decide +kernel
theorem dX2_readNumber_106 : decode cX2_readNumber 106 = .ok (.iconst 1, 1) := by decide +kernel
theorem dX2_readNumber_107 : decode cX2_readNumber 107 = .ok (.if_icmp .lt 8, 3) := by decide +kernel
theorem dX2_readNumber_110 : decode cX2_readNumber 110 = .ok (.iload_n 3, 1) := by decide +kernel
theorem dX2_readNumber_111 : decode cX2_readNumber 111 = .ok (.iload_n 1, 1) := by decide +kernel
theorem dX2_readNumber_112 : decode cX2_readNumber 112 = .ok (.if_icmp .le 10, 3) := by decide +kernel
theorem dX2_readNumber_115 : decode cX2_readNumber 115 = .ok (.aload_n 0, 1) := by decide +kernel
theorem dX2_readNumber_116 : decode cX2_readNumber 116 = .ok (.bipush (-3), 2) := by decide +kernel
theorem dX2_readNumber_118 : decode cX2_readNumber 118 = .ok (.iload_n 2, 1) := by decide +kernel
theorem dX2_readNumber_119 : decode cX2_readNumber 119 = .ok (.invokevirtual 85, 3) := by decide +kernel
theorem dX2_readNumber_122 : decode cX2_readNumber 122 = .ok (.iload_n 3, 1) := by decide +kernel
theorem dX2_readNumber_123 : decode cX2_readNumber 123 = .ok (.ireturn, 1) := by decide +kernel
theorem dX2_readSemicolon_0 : decode cX2_readSemicolon 0 = .ok (.aload_n 0, 1) := by decide +kernel
theorem dX2_readSemicolon_1 : decode cX2_readSemicolon 1 = .ok (.invokevirtual 73, 3) := by decide +kernel
theorem dX2_readSemicolon_4 : decode cX2_readSemicolon 4 = .ok (.aload_n 0, 1) := by decide +kernel
theorem dX2_readSemicolon_5 : decode cX2_readSemicolon 5 = .ok (.getfield 44, 3) := by decide +kernel
theorem dX2_readSemicolon_8 : decode cX2_readSemicolon 8 = .ok (.aload_n 0, 1) := by decide +kernel
theorem dX2_readSemicolon_9 : decode cX2_readSemicolon 9 = .ok (.getfield 35, 3) := by decide +kernel
theorem dX2_readSemicolon_12 : decode cX2_readSemicolon 12 = .ok (.if_icmp .ge 30, 3) := by decide +kernel
theorem dX2_readSemicolon_15 : decode cX2_readSemicolon 15 = .ok (.aload_n 0, 1) := by decide +kernel
theorem dX2_readSemicolon_16 : decode cX2_readSemicolon 16 = .ok (.getfield 18, 3) := by decide +kernel
theorem dX2_readSemicolon_19 : decode cX2_readSemicolon 19 = .ok (.aload_n 0, 1) := by decide +kernel
theorem dX2_readSemicolon_20 : decode cX2_readSemicolon 20 = .ok (.getfield 44, 3) := by decide +kernel
theorem dX2_readSemicolon_23 : decode cX2_readSemicolon 23 = .ok (.baload, 1) := by decide +kernel
theorem dX2_readSemicolon_24 : decode cX2_readSemicolon 24 = .ok (.bipush 59, 2) := by decide +kernel
theorem dX2_readSemicolon_26 : decode cX2_readSemicolon 26 = .ok (.if_icmp .ne 16, 3) := by decide +kernel
theorem dX2_readSemicolon_29 : decode cX2_readSemicolon 29 = .ok (.aload_n 0, 1) := by decide +kernel
theorem dX2_readSemicolon_30 : decode cX2_readSemicolon 30 = .ok (.dup, 1) := by decide +kernel
theorem dX2_readSemicolon_31 : decode cX2_readSemicolon 31 = .ok (.getfield 44, 3) := by decide +kernel
theorem dX2_readSemicolon_34 : decode cX2_readSemicolon 34 = .ok (.iconst 1, 1) := by decide +kernel
theorem dX2_readSemicolon_35 : decode cX2_readSemicolon 35 = .ok (.iadd, 1) := by decide +kernel
theorem dX2_readSemicolon_36 : decode cX2_readSemicolon 36 = .ok (.putfield 44, 3) := by decide +kernel
theorem dX2_readSemicolon_39 : decode cX2_readSemicolon 39 = .ok (.goto 13, 3) := by decide +kernel
theorem dX2_readSemicolon_42 : decode cX2_readSemicolon 42 = .ok (.aload_n 0, 1) := by decide +kernel
theorem dX2_readSemicolon_43 : decode cX2_readSemicolon 43 = .ok (.bipush (-2), 2) := by decide +kernel
theorem dX2_readSemicolon_45 : decode cX2_readSemicolon 45 = .ok (.aload_n 0, 1) := by decide +kernel
theorem dX2_readSemicolon_46 : decode cX2_readSemicolon 46 = .ok (.getfield 44, 3) := by decide +kernel
theorem dX2_readSemicolon_49 : decode cX2_readSemicolon 49 = .ok (.invokevirtual 85, 3) := by decide +kernel
theorem dX2_readSemicolon_52 : decode cX2_readSemicolon 52 = .ok (.return_, 1) := by decide +kernel
theorem dX2_skipSpaces_0 : decode cX2_skipSpaces 0 = .ok (.aload_n 0, 1) := by decide +kernel
theorem dX2_skipSpaces_1 : decode cX2_skipSpaces 1 = .ok (.getfield 44, 3) := by decide +kernel
theorem dX2_skipSpaces_4 : decode cX2_skipSpaces 4 = .ok (.aload_n 0, 1) := by decide +kernel
theorem dX2_skipSpaces_5 : decode cX2_skipSpaces 5 = .ok (.getfield 35, 3) := by decide +kernel
theorem dX2_skipSpaces_8 : decode cX2_skipSpaces 8 = .ok (.if_icmp .ge 30, 3) := by decide +kernel
theorem dX2_skipSpaces_11 : decode cX2_skipSpaces 11 = .ok (.aload_n 0, 1) := by decide +kernel
theorem dX2_skipSpaces_12 : decode cX2_skipSpaces 12 = .ok (.getfield 18, 3) := by decide +kernel
theorem dX2_skipSpaces_15 : decode cX2_skipSpaces 15 = .ok (.aload_n 0, 1) := by decide +kernel
theorem dX2_skipSpaces_16 : decode cX2_skipSpaces 16 = .ok (.getfield 44, 3) := by decide +kernel
theorem dX2_skipSpaces_19 : decode cX2_skipSpaces 19 = .ok (.baload, 1) := by decide +kernel
theorem dX2_skipSpaces_20 : decode cX2_skipSpaces 20 = .ok (.bipush 32, 2) := by decide +kernel
theorem dX2_skipSpaces_22 : decode cX2_skipSpaces 22 = .ok (.if_icmp .ne 16, 3) := by decide +kernel
theorem dX2_skipSpaces_25 : decode cX2_skipSpaces 25 = .ok (.aload_n 0, 1) := by decide +kernel
theorem dX2_skipSpaces_26 : decode cX2_skipSpaces 26 = .ok (.dup, 1) := by decide +kernel
theorem dX2_skipSpaces_27 : decode cX2_skipSpaces 27 = .ok (.getfield 44, 3) := by decide +kernel
theorem dX2_skipSpaces_30 : decode cX2_skipSpaces 30 = .ok (.iconst 1, 1) := by decide +kernel
theorem dX2_skipSpaces_31 : decode cX2_skipSpaces 31 = .ok (.iadd, 1) := by decide +kernel
theorem dX2_skipSpaces_32 : decode cX2_skipSpaces 32 = .ok (.putfield 44, 3) := by decide +kernel
theorem dX2_skipSpaces_35 : decode cX2_skipSpaces 35 = .ok (.goto (-35), 3) := by decide +kernel
theorem dX2_skipSpaces_38 : decode cX2_skipSpaces 38 = .ok (.return_, 1) := by decide +kernel
theorem dX2_hasMore_0 : decode cX2_hasMore 0 = .ok (.aload_n 0, 1) := by decide +kernel
theorem dX2_hasMore_1 : decode cX2_hasMore 1 = .ok (.invokevirtual 73, 3) := by decide +kernel
theorem dX2_hasMore_4 : decode cX2_hasMore 4 = .ok (.aload_n 0, 1) := by decide +kernel
theorem dX2_hasMore_5 : decode cX2_hasMore 5 = .ok (.getfield 44, 3) := by decide +kernel
theorem dX2_hasMore_8 : decode cX2_hasMore 8 = .ok (.aload_n 0, 1) := by decide +kernel
theorem dX2_hasMore_9 : decode cX2_hasMore 9 = .ok (.getfield 35, 3) := by decide +kernel
theorem dX2_hasMore_12 : decode cX2_hasMore 12 = .ok (.if_icmp .ge 7, 3) := by decide +kernel
theorem dX2_hasMore_15 : decode cX2_hasMore 15 = .ok (.iconst 1, 1) := by decide +kernel
theorem dX2_hasMore_16 : decode cX2_hasMore 16 = .ok (.goto 4, 3) := by decide +kernel
theorem dX2_hasMore_19 : decode cX2_hasMore 19 = .ok (.iconst 0, 1) := by decide +kernel
theorem dX2_hasMore_20 : decode cX2_hasMore 20 = .ok (.ireturn, 1) := by decide +kernel
theorem dX2_skipWord_0 : decode cX2_skipWord 0 = .ok (.aload_n 0, 1) := by decide +kernel
theorem dX2_skipWord_1 : decode cX2_skipWord 1 = .ok (.getfield 44, 3) := by decide +kernel
theorem dX2_skipWord_4 : decode cX2_skipWord 4 = .ok (.aload_n 0, 1) := by decide +kernel
theorem dX2_skipWord_5 : decode cX2_skipWord 5 = .ok (.getfield 35, 3) := by decide +kernel
theorem dX2_skipWord_8 : decode cX2_skipWord 8 = .ok (.if_icmp .ge 31, 3) := by decide +kernel
theorem dX2_skipWord_11 : decode cX2_skipWord 11 = .ok (.aload_n 0, 1) := by decide +kernel
theorem dX2_skipWord_12 : decode cX2_skipWord 12 = .ok (.getfield 18, 3) := by decide +kernel
theorem dX2_skipWord_15 : decode cX2_skipWord 15 = .ok (.aload_n 0, 1) := by decide +kernel
theorem dX2_skipWord_16 : decode cX2_skipWord 16 = .ok (.getfield 44, 3) := by decide +kernel
theorem dX2_skipWord_19 : decode cX2_skipWord 19 = .ok (.baload, 1) := by decide +kernel
theorem dX2_skipWord_20 : decode cX2_skipWord 20 = .ok (.invokestatic 123, 3) := by decide +kernel
theorem dX2_skipWord_23 : decode cX2_skipWord 23 = .ok (.ifCond .eq 16, 3) := by decide +kernel
theorem dX2_skipWord_26 : decode cX2_skipWord 26 = .ok (.aload_n 0, 1) := by decide +kernel
theorem dX2_skipWord_27 : decode cX2_skipWord 27 = .ok (.dup, 1) := by decide +kernel
theorem dX2_skipWord_28 : decode cX2_skipWord 28 = .ok (.getfield 44, 3) := by decide +kernel
theorem dX2_skipWord_31 : decode cX2_skipWord 31 = .ok (.iconst 1, 1) := by decide +kernel
theorem dX2_skipWord_32 : decode cX2_skipWord 32 = .ok (.iadd, 1) := by decide +kernel
theorem dX2_skipWord_33 : decode cX2_skipWord 33 = .ok (.putfield 44, 3) := by decide +kernel
theorem dX2_skipWord_36 : decode cX2_skipWord 36 = .ok (.goto (-36), 3) := by decide +kernel
theorem dX2_skipWord_39 : decode cX2_skipWord 39 = .ok (.return_, 1) := by decide +kernel
theorem dX2_isWord_0 : decode cX2_isWord 0 = .ok (.iload_n 1, 1) := by decide +kernel
theorem dX2_isWord_1 : decode cX2_isWord 1 = .ok (.ifCond .lt 16, 3) := by decide +kernel
theorem dX2_isWord_4 : decode cX2_isWord 4 = .ok (.aload_n 0, 1) := by decide +kernel
theorem dX2_isWord_5 : decode cX2_isWord 5 = .ok (.getfield 44, 3) := by decide +kernel
theorem dX2_isWord_8 : decode cX2_isWord 8 = .ok (.iload_n 1, 1) := by decide +kernel
theorem dX2_isWord_9 : decode cX2_isWord 9 = .ok (.isub, 1) := by decide +kernel
theorem dX2_isWord_10 : decode cX2_isWord 10 = .ok (.aload_n 2, 1) := by decide +kernel
theorem dX2_isWord_11 : decode cX2_isWord 11 = .ok (.invokevirtual 136, 3) := by decide +kernel
theorem dX2_isWord_14 : decode cX2_isWord 14 = .ok (.if_icmp .eq 5, 3) := by decide +kernel
theorem dX2_isWord_17 : decode cX2_isWord 17 = .ok (.iconst 0, 1) := by decide +kernel
theorem dX2_isWord_18 : decode cX2_isWord 18 = .ok (.ireturn, 1) := by decide +kernel
theorem dX2_isWord_19 : decode cX2_isWord 19 = .ok (.iconst 0, 1) := by decide +kernel
theorem dX2_isWord_20 : decode cX2_isWord 20 = .ok (.istore_n 3, 1) := by decide +kernel
theorem dX2_isWord_21 : decode cX2_isWord 21 = .ok (.iload_n 3, 1) := by decide +kernel
theorem dX2_isWord_22 : decode cX2_isWord 22 = .ok (.aload_n 2, 1) := by decide +kernel
theorem dX2_isWord_23 : decode cX2_isWord 23 = .ok (.invokevirtual 136, 3) := by decide +kernel
theorem dX2_isWord_26 : decode cX2_isWord 26 = .ok (.if_icmp .ge 37, 3) := by decide +kernel
theorem dX2_isWord_29 : decode cX2_isWord 29 = .ok (.iload_n 1, 1) := by decide +kernel
theorem dX2_isWord_30 : decode cX2_isWord 30 = .ok (.iload_n 3, 1) := by decide +kernel
theorem dX2_isWord_31 : decode cX2_isWord 31 = .ok (.iadd, 1) := by decide +kernel
theorem dX2_isWord_32 : decode cX2_isWord 32 = .ok (.aload_n 0, 1) := by decide +kernel
theorem dX2_isWord_33 : decode cX2_isWord 33 = .ok (.getfield 35, 3) := by decide +kernel
theorem dX2_isWord_36 : decode cX2_isWord 36 = .ok (.if_icmp .ge 27, 3) := by decide +kernel
theorem dX2_isWord_39 : decode cX2_isWord 39 = .ok (.aload_n 0, 1) := by decide +kernel
theorem dX2_isWord_40 : decode cX2_isWord 40 = .ok (.getfield 18, 3) := by decide +kernel
theorem dX2_isWord_43 : decode cX2_isWord 43 = .ok (.iload_n 1, 1) := by decide +kernel
theorem dX2_isWord_44 : decode cX2_isWord 44 = .ok (.iload_n 3, 1) := by decide +kernel
theorem dX2_isWord_45 : decode cX2_isWord 45 = .ok (.iadd, 1) := by decide +kernel
theorem dX2_isWord_46 : decode cX2_isWord 46 = .ok (.baload, 1) := by decide +kernel
theorem dX2_isWord_47 : decode cX2_isWord 47 = .ok (.aload_n 2, 1) := by decide +kernel
theorem dX2_isWord_48 : decode cX2_isWord 48 = .ok (.iload_n 3, 1) := by decide +kernel
theorem dX2_isWord_49 : decode cX2_isWord 49 = .ok (.invokevirtual 141, 3) := by decide +kernel
theorem dX2_isWord_52 : decode cX2_isWord 52 = .ok (.if_icmp .eq 5, 3) := by decide +kernel
theorem dX2_isWord_55 : decode cX2_isWord 55 = .ok (.iconst 0, 1) := by decide +kernel
theorem dX2_isWord_56 : decode cX2_isWord 56 = .ok (.ireturn, 1) := by decide +kernel
theorem dX2_isWord_57 : decode cX2_isWord 57 = .ok (.iinc 3 1, 3) := by decide +kernel
theorem dX2_isWord_60 : decode cX2_isWord 60 = .ok (.goto (-39), 3) := by decide +kernel
theorem dX2_isWord_63 : decode cX2_isWord 63 = .ok (.iconst 1, 1) := by decide +kernel
theorem dX2_isWord_64 : decode cX2_isWord 64 = .ok (.ireturn, 1) := by decide +kernel
theorem dX2_fail_0 : decode cX2_fail 0 = .ok (.aload_n 0, 1) := by decide +kernel
theorem dX2_fail_1 : decode cX2_fail 1 = .ok (.getfield 47, 3) := by decide +kernel
theorem dX2_fail_4 : decode cX2_fail 4 = .ok (.ifCond .ne 13, 3) := by decide +kernel
theorem dX2_fail_7 : decode cX2_fail 7 = .ok (.aload_n 0, 1) := by decide +kernel
theorem dX2_fail_8 : decode cX2_fail 8 = .ok (.iload_n 1, 1) := by decide +kernel
theorem dX2_fail_9 : decode cX2_fail 9 = .ok (.putfield 47, 3) := by decide +kernel
theorem dX2_fail_12 : decode cX2_fail 12 = .ok (.aload_n 0, 1) := by decide +kernel
theorem dX2_fail_13 : decode cX2_fail 13 = .ok (.iload_n 2, 1) := by decide +kernel
theorem dX2_fail_14 : decode cX2_fail 14 = .ok (.putfield 22, 3) := by decide +kernel
theorem dX2_fail_17 : decode cX2_fail 17 = .ok (.return_, 1) := by decide +kernel
theorem dX3_init_0 : decode cX3_init 0 = .ok (.aload_n 0, 1) := by decide +kernel
theorem dX3_init_1 : decode cX3_init 1 = .ok (.invokespecial 3, 3) := by decide +kernel
theorem dX3_init_4 : decode cX3_init 4 = .ok (.aload_n 0, 1) := by decide +kernel
theorem dX3_init_5 : decode cX3_init 5 = .ok (.bipush 96, 2) := by decide +kernel
theorem dX3_init_7 : decode cX3_init 7 = .ok (.newarray .int, 2) := by decide +kernel
theorem dX3_init_9 : decode cX3_init 9 = .ok (.putfield 9, 3) := by decide +kernel
theorem dX3_init_12 : decode cX3_init 12 = .ok (.aload_n 0, 1) := by decide +kernel
theorem dX3_init_13 : decode cX3_init 13 = .ok (.bipush 12, 2) := by decide +kernel
theorem dX3_init_15 : decode cX3_init 15 = .ok (.newarray .int, 2) := by decide +kernel
theorem dX3_init_17 : decode cX3_init 17 = .ok (.putfield 15, 3) := by decide +kernel
theorem dX3_init_20 : decode cX3_init 20 = .ok (.aload_n 0, 1) := by decide +kernel
theorem dX3_init_21 : decode cX3_init 21 = .ok (.bipush 24, 2) := by decide +kernel
theorem dX3_init_23 : decode cX3_init 23 = .ok (.newarray .int, 2) := by decide +kernel
theorem dX3_init_25 : decode cX3_init 25 = .ok (.putfield 18, 3) := by decide +kernel
theorem dX3_init_28 : decode cX3_init 28 = .ok (.aload_n 0, 1) := by decide +kernel
theorem dX3_init_29 : decode cX3_init 29 = .ok (.iconst 1, 1) := by decide +kernel
theorem dX3_init_30 : decode cX3_init 30 = .ok (.iconst 1, 1) := by decide +kernel
theorem dX3_init_31 : decode cX3_init 31 = .ok (.invokevirtual 21, 3) := by decide +kernel
theorem dX3_init_34 : decode cX3_init 34 = .ok (.return_, 1) := by decide +kernel
theorem dX3_startAnew_0 : decode cX3_startAnew 0 = .ok (.aload_n 0, 1) := by decide +kernel
theorem dX3_startAnew_1 : decode cX3_startAnew 1 = .ok (.iload_n 1, 1) := by decide +kernel
theorem dX3_startAnew_2 : decode cX3_startAnew 2 = .ok (.putfield 25, 3) := by decide +kernel
theorem dX3_startAnew_5 : decode cX3_startAnew 5 = .ok (.aload_n 0, 1) := by decide +kernel
theorem dX3_startAnew_6 : decode cX3_startAnew 6 = .ok (.iload_n 2, 1) := by decide +kernel
theorem dX3_startAnew_7 : decode cX3_startAnew 7 = .ok (.putfield 29, 3) := by decide +kernel
theorem dX3_startAnew_10 : decode cX3_startAnew 10 = .ok (.aload_n 0, 1) := by decide +kernel
theorem dX3_startAnew_11 : decode cX3_startAnew 11 = .ok (.iconst 1, 1) := by decide +kernel
theorem dX3_startAnew_12 : decode cX3_startAnew 12 = .ok (.putfield 32, 3) := by decide +kernel
theorem dX3_startAnew_15 : decode cX3_startAnew 15 = .ok (.aload_n 0, 1) := by decide +kernel
theorem dX3_startAnew_16 : decode cX3_startAnew 16 = .ok (.getfield 9, 3) := by decide +kernel
theorem dX3_startAnew_19 : decode cX3_startAnew 19 = .ok (.iconst (-1), 1) := by decide +kernel
theorem dX3_startAnew_20 : decode cX3_startAnew 20 = .ok (.invokestatic 35, 3) := by decide +kernel
theorem dX3_startAnew_23 : decode cX3_startAnew 23 = .ok (.aload_n 0, 1) := by decide +kernel
theorem dX3_startAnew_24 : decode cX3_startAnew 24 = .ok (.getfield 15, 3) := by decide +kernel
theorem dX3_startAnew_27 : decode cX3_startAnew 27 = .ok (.iconst 1, 1) := by decide +kernel
theorem dX3_startAnew_28 : decode cX3_startAnew 28 = .ok (.invokestatic 35, 3) := by decide +kernel
theorem dX3_startAnew_31 : decode cX3_startAnew 31 = .ok (.aload_n 0, 1) := by decide +kernel
theorem dX3_startAnew_32 : decode cX3_startAnew 32 = .ok (.lconst 0, 1) := by decide +kernel
theorem dX3_startAnew_33 : decode cX3_startAnew 33 = .ok (.putfield 41, 3) := by decide +kernel
theorem dX3_startAnew_36 : decode cX3_startAnew 36 = .ok (.aload_n 0, 1) := by decide +kernel
theorem dX3_startAnew_37 : decode cX3_startAnew 37 = .ok (.iconst 0, 1) := by decide +kernel
theorem dX3_startAnew_38 : decode cX3_startAnew 38 = .ok (.putfield 45, 3) := by decide +kernel
theorem dX3_startAnew_41 : decode cX3_startAnew 41 = .ok (.aload_n 0, 1) := by decide +kernel
theorem dX3_startAnew_42 : decode cX3_startAnew 42 = .ok (.iconst 0, 1) := by decide +kernel
theorem dX3_startAnew_43 : decode cX3_startAnew 43 = .ok (.putfield 48, 3) := by decide +kernel
theorem dX3_startAnew_46 : decode cX3_startAnew 46 = .ok (.aload_n 0, 1) := by decide +kernel
theorem dX3_startAnew_47 : decode cX3_startAnew 47 = .ok (.iconst 0, 1) := by decide +kernel
theorem dX3_startAnew_48 : decode cX3_startAnew 48 = .ok (.putfield 51, 3) := by decide +kernel
theorem dX3_startAnew_51 : decode cX3_startAnew 51 = .ok (.return_, 1) := by decide +kernel
theorem dX3_copyFrom_0 : decode cX3_copyFrom 0 = .ok (.aload_n 0, 1) := by decide +kernel
theorem dX3_copyFrom_1 : decode cX3_copyFrom 1 = .ok (.aload_n 1, 1) := by decide +kernel
theorem dX3_copyFrom_2 : decode cX3_copyFrom 2 = .ok (.getfield 25, 3) := by decide +kernel
theorem dX3_copyFrom_5 : decode cX3_copyFrom 5 = .ok (.putfield 25, 3) := by decide +kernel
theorem dX3_copyFrom_8 : decode cX3_copyFrom 8 = .ok (.aload_n 0, 1) := by decide +kernel
theorem dX3_copyFrom_9 : decode cX3_copyFrom 9 = .ok (.aload_n 1, 1) := by decide +kernel
theorem dX3_copyFrom_10 : decode cX3_copyFrom 10 = .ok (.getfield 29, 3) := by decide +kernel
theorem dX3_copyFrom_13 : decode cX3_copyFrom 13 = .ok (.putfield 29, 3) := by decide +kernel
theorem dX3_copyFrom_16 : decode cX3_copyFrom 16 = .ok (.aload_n 0, 1) := by decide +kernel
theorem dX3_copyFrom_17 : decode cX3_copyFrom 17 = .ok (.aload_n 1, 1) := by decide +kernel
theorem dX3_copyFrom_18 : decode cX3_copyFrom 18 = .ok (.getfield 32, 3) := by decide +kernel
theorem dX3_copyFrom_21 : decode cX3_copyFrom 21 = .ok (.putfield 32, 3) := by decide +kernel
theorem dX3_copyFrom_24 : decode cX3_copyFrom 24 = .ok (.aload_n 1, 1) := by decide +kernel
theorem dX3_copyFrom_25 : decode cX3_copyFrom 25 = .ok (.getfield 9, 3) := by decide +kernel
theorem dX3_copyFrom_28 : decode cX3_copyFrom 28 = .ok (.iconst 0, 1) := by decide +kernel
theorem dX3_copyFrom_29 : decode cX3_copyFrom 29 = .ok (.aload_n 0, 1) := by decide +kernel
theorem dX3_copyFrom_30 : decode cX3_copyFrom 30 = .ok (.getfield 9, 3) := by decide +kernel
theorem dX3_copyFrom_33 : decode cX3_copyFrom 33 = .ok (.iconst 0, 1) := by decide +kernel
theorem dX3_copyFrom_34 : decode cX3_copyFrom 34 = .ok (.bipush 96, 2) := by decide +kernel
theorem dX3_copyFrom_36 : decode cX3_copyFrom 36 = .ok (.invokestatic 54, 3) := by decide +kernel
theorem dX3_copyFrom_39 : decode cX3_copyFrom 39 = .ok (.aload_n 1, 1) := by decide +kernel
theorem dX3_copyFrom_40 : decode cX3_copyFrom 40 = .ok (.getfield 15, 3) := by decide +kernel
theorem dX3_copyFrom_43 : decode cX3_copyFrom 43 = .ok (.iconst 0, 1) := by decide +kernel
theorem dX3_copyFrom_44 : decode cX3_copyFrom 44 = .ok (.aload_n 0, 1) := by decide +kernel
theorem dX3_copyFrom_45 : decode cX3_copyFrom 45 = .ok (.getfield 15, 3) := by decide +kernel
theorem dX3_copyFrom_48 : decode cX3_copyFrom 48 = .ok (.iconst 0, 1) := by decide +kernel
theorem dX3_copyFrom_49 : decode cX3_copyFrom 49 = .ok (.bipush 12, 2) := by decide +kernel
theorem dX3_copyFrom_51 : decode cX3_copyFrom 51 = .ok (.invokestatic 54, 3) := by decide +kernel
theorem dX3_copyFrom_54 : decode cX3_copyFrom 54 = .ok (.aload_n 0, 1) := by decide +kernel
theorem dX3_copyFrom_55 : decode cX3_copyFrom 55 = .ok (.aload_n 1, 1) := by decide +kernel
theorem dX3_copyFrom_56 : decode cX3_copyFrom 56 = .ok (.getfield 41, 3) := by decide +kernel
theorem dX3_copyFrom_59 : decode cX3_copyFrom 59 = .ok (.putfield 41, 3) := by decide +kernel
theorem dX3_copyFrom_62 : decode cX3_copyFrom 62 = .ok (.aload_n 1, 1) := by decide +kernel
theorem dX3_copyFrom_63 : decode cX3_copyFrom 63 = .ok (.getfield 18, 3) := by decide +kernel
theorem dX3_copyFrom_66 : decode cX3_copyFrom 66 = .ok (.iconst 0, 1) := by decide +kernel
theorem dX3_copyFrom_67 : decode cX3_copyFrom 67 = .ok (.aload_n 0, 1) := by decide +kernel
theorem dX3_copyFrom_68 : decode cX3_copyFrom 68 = .ok (.getfield 18, 3) := by decide +kernel
theorem dX3_copyFrom_71 : decode cX3_copyFrom 71 = .ok (.iconst 0, 1) := by decide +kernel
theorem dX3_copyFrom_72 : decode cX3_copyFrom 72 = .ok (.bipush 24, 2) := by decide +kernel
theorem dX3_copyFrom_74 : decode cX3_copyFrom 74 = .ok (.invokestatic 54, 3) := by decide +kernel
theorem dX3_copyFrom_77 : decode cX3_copyFrom 77 = .ok (.aload_n 0, 1) := by decide +kernel
theorem dX3_copyFrom_78 : decode cX3_copyFrom 78 = .ok (.aload_n 1, 1) := by decide +kernel
theorem dX3_copyFrom_79 : decode cX3_copyFrom 79 = .ok (.getfield 45, 3) := by decide +kernel
theorem dX3_copyFrom_82 : decode cX3_copyFrom 82 = .ok (.putfield 45, 3) := by decide +kernel
theorem dX3_copyFrom_85 : decode cX3_copyFrom 85 = .ok (.aload_n 0, 1) := by decide +kernel
theorem dX3_copyFrom_86 : decode cX3_copyFrom 86 = .ok (.aload_n 1, 1) := by decide +kernel
theorem dX3_copyFrom_87 : decode cX3_copyFrom 87 = .ok (.getfield 48, 3) := by decide +kernel
theorem dX3_copyFrom_90 : decode cX3_copyFrom 90 = .ok (.putfield 48, 3) := by decide +kernel
theorem dX3_copyFrom_93 : decode cX3_copyFrom 93 = .ok (.aload_n 0, 1) := by decide +kernel
theorem dX3_copyFrom_94 : decode cX3_copyFrom 94 = .ok (.aload_n 1, 1) := by decide +kernel
theorem dX3_copyFrom_95 : decode cX3_copyFrom 95 = .ok (.getfield 51, 3) := by decide +kernel
theorem dX3_copyFrom_98 : decode cX3_copyFrom 98 = .ok (.putfield 51, 3) := by decide +kernel
theorem dX3_copyFrom_101 : decode cX3_copyFrom 101 = .ok (.return_, 1) := by decide +kernel
theorem dX3_countCells_0 : decode cX3_countCells 0 = .ok (.aload_n 0, 1) := by decide +kernel
theorem dX3_countCells_1 : decode cX3_countCells 1 = .ok (.getfield 25, 3) := by decide +kernel
theorem dX3_countCells_4 : decode cX3_countCells 4 = .ok (.aload_n 0, 1) := by decide +kernel
theorem dX3_countCells_5 : decode cX3_countCells 5 = .ok (.getfield 29, 3) := by decide +kernel
theorem dX3_countCells_8 : decode cX3_countCells 8 = .ok (.imul, 1) := by decide +kernel
theorem dX3_countCells_9 : decode cX3_countCells 9 = .ok (.ireturn, 1) := by decide +kernel
theorem dX3_hasPlace_0 : decode cX3_hasPlace 0 = .ok (.iload_n 1, 1) := by decide +kernel
theorem dX3_hasPlace_1 : decode cX3_hasPlace 1 = .ok (.ifCond .eq 8, 3) := by decide +kernel
theorem dX3_hasPlace_4 : decode cX3_hasPlace 4 = .ok (.iload_n 1, 1) := by decide +kernel
theorem dX3_hasPlace_5 : decode cX3_hasPlace 5 = .ok (.iconst 1, 1) := by decide +kernel
theorem dX3_hasPlace_6 : decode cX3_hasPlace 6 = .ok (.if_icmp .ne 19, 3) := by decide +kernel
theorem dX3_hasPlace_9 : decode cX3_hasPlace 9 = .ok (.iload_n 2, 1) := by decide +kernel
theorem dX3_hasPlace_10 : decode cX3_hasPlace 10 = .ok (.ifCond .lt 15, 3) := by decide +kernel
theorem dX3_hasPlace_13 : decode cX3_hasPlace 13 = .ok (.iload_n 2, 1) := by decide +kernel
theorem dX3_hasPlace_14 : decode cX3_hasPlace 14 = .ok (.aload_n 0, 1) := by decide +kernel
theorem dX3_hasPlace_15 : decode cX3_hasPlace 15 = .ok (.invokevirtual 60, 3) := by decide +kernel
theorem dX3_hasPlace_18 : decode cX3_hasPlace 18 = .ok (.if_icmp .ge 7, 3) := by decide +kernel
theorem dX3_hasPlace_21 : decode cX3_hasPlace 21 = .ok (.iconst 1, 1) := by decide +kernel
theorem dX3_hasPlace_22 : decode cX3_hasPlace 22 = .ok (.goto 4, 3) := by decide +kernel
theorem dX3_hasPlace_25 : decode cX3_hasPlace 25 = .ok (.iconst 0, 1) := by decide +kernel
theorem dX3_hasPlace_26 : decode cX3_hasPlace 26 = .ok (.ireturn, 1) := by decide +kernel
theorem dX3_hasSpot_0 : decode cX3_hasSpot 0 = .ok (.iload_n 1, 1) := by decide +kernel
theorem dX3_hasSpot_1 : decode cX3_hasSpot 1 = .ok (.ifCond .lt 35, 3) := by decide +kernel
theorem dX3_hasSpot_4 : decode cX3_hasSpot 4 = .ok (.iload_n 1, 1) := by decide +kernel
theorem dX3_hasSpot_5 : decode cX3_hasSpot 5 = .ok (.bipush 96, 2) := by decide +kernel
theorem dX3_hasSpot_7 : decode cX3_hasSpot 7 = .ok (.if_icmp .ge 29, 3) := by decide +kernel
theorem dX3_hasSpot_10 : decode cX3_hasSpot 10 = .ok (.iload_n 1, 1) := by decide +kernel
theorem dX3_hasSpot_11 : decode cX3_hasSpot 11 = .ok (.invokestatic 64, 3) := by decide +kernel
theorem dX3_hasSpot_14 : decode cX3_hasSpot 14 = .ok (.aload_n 0, 1) := by decide +kernel
theorem dX3_hasSpot_15 : decode cX3_hasSpot 15 = .ok (.getfield 29, 3) := by decide +kernel
theorem dX3_hasSpot_18 : decode cX3_hasSpot 18 = .ok (.if_icmp .ge 18, 3) := by decide +kernel
theorem dX3_hasSpot_21 : decode cX3_hasSpot 21 = .ok (.iload_n 1, 1) := by decide +kernel
theorem dX3_hasSpot_22 : decode cX3_hasSpot 22 = .ok (.invokestatic 68, 3) := by decide +kernel
theorem dX3_hasSpot_25 : decode cX3_hasSpot 25 = .ok (.aload_n 0, 1) := by decide +kernel
theorem dX3_hasSpot_26 : decode cX3_hasSpot 26 = .ok (.getfield 25, 3) := by decide +kernel
theorem dX3_hasSpot_29 : decode cX3_hasSpot 29 = .ok (.if_icmp .ge 7, 3) := by decide +kernel
theorem dX3_hasSpot_32 : decode cX3_hasSpot 32 = .ok (.iconst 1, 1) := by decide +kernel
theorem dX3_hasSpot_33 : decode cX3_hasSpot 33 = .ok (.goto 4, 3) := by decide +kernel
theorem dX3_hasSpot_36 : decode cX3_hasSpot 36 = .ok (.iconst 0, 1) := by decide +kernel
theorem dX3_hasSpot_37 : decode cX3_hasSpot 37 = .ok (.ireturn, 1) := by decide +kernel
theorem dX3_spotOf_0 : decode cX3_spotOf 0 = .ok (.aload_n 0, 1) := by decide +kernel
theorem dX3_spotOf_1 : decode cX3_spotOf 1 = .ok (.getfield 25, 3) := by decide +kernel
theorem dX3_spotOf_4 : decode cX3_spotOf 4 = .ok (.ifCond .le 12, 3) := by decide +kernel
theorem dX3_spotOf_7 : decode cX3_spotOf 7 = .ok (.iload_n 2, 1) := by decide +kernel
theorem dX3_spotOf_8 : decode cX3_spotOf 8 = .ok (.aload_n 0, 1) := by decide +kernel
theorem dX3_spotOf_9 : decode cX3_spotOf 9 = .ok (.getfield 25, 3) := by decide +kernel
theorem dX3_spotOf_12 : decode cX3_spotOf 12 = .ok (.idiv, 1) := by decide +kernel
theorem dX3_spotOf_13 : decode cX3_spotOf 13 = .ok (.goto 4, 3) := by decide +kernel
theorem dX3_spotOf_16 : decode cX3_spotOf 16 = .ok (.iconst 0, 1) := by decide +kernel
theorem dX3_spotOf_17 : decode cX3_spotOf 17 = .ok (.istore_n 3, 1) := by decide +kernel
theorem dX3_spotOf_18 : decode cX3_spotOf 18 = .ok (.iload_n 1, 1) := by decide +kernel
theorem dX3_spotOf_19 : decode cX3_spotOf 19 = .ok (.bipush 48, 2) := by decide +kernel
theorem dX3_spotOf_21 : decode cX3_spotOf 21 = .ok (.imul, 1) := by decide +kernel
theorem dX3_spotOf_22 : decode cX3_spotOf 22 = .ok (.iload_n 3, 1) := by decide +kernel
theorem dX3_spotOf_23 : decode cX3_spotOf 23 = .ok (.bipush 8, 2) := by decide +kernel
theorem dX3_spotOf_25 : decode cX3_spotOf 25 = .ok (.imul, 1) := by decide +kernel
theorem dX3_spotOf_26 : decode cX3_spotOf 26 = .ok (.iadd, 1) := by decide +kernel
theorem dX3_spotOf_27 : decode cX3_spotOf 27 = .ok (.iload_n 2, 1) := by decide +kernel
theorem dX3_spotOf_28 : decode cX3_spotOf 28 = .ok (.iadd, 1) := by decide +kernel
theorem dX3_spotOf_29 : decode cX3_spotOf 29 = .ok (.iload_n 3, 1) := by decide +kernel
theorem dX3_spotOf_30 : decode cX3_spotOf 30 = .ok (.aload_n 0, 1) := by decide +kernel
theorem dX3_spotOf_31 : decode cX3_spotOf 31 = .ok (.getfield 25, 3) := by decide +kernel
theorem dX3_spotOf_34 : decode cX3_spotOf 34 = .ok (.imul, 1) := by decide +kernel
theorem dX3_spotOf_35 : decode cX3_spotOf 35 = .ok (.isub, 1) := by decide +kernel
theorem dX3_spotOf_36 : decode cX3_spotOf 36 = .ok (.ireturn, 1) := by decide +kernel
theorem dX3_placeOf_0 : decode cX3_placeOf 0 = .ok (.iload_n 1, 1) := by decide +kernel
theorem dX3_placeOf_1 : decode cX3_placeOf 1 = .ok (.invokestatic 64, 3) := by decide +kernel
theorem dX3_placeOf_4 : decode cX3_placeOf 4 = .ok (.aload_n 0, 1) := by decide +kernel
theorem dX3_placeOf_5 : decode cX3_placeOf 5 = .ok (.getfield 25, 3) := by decide +kernel
theorem dX3_placeOf_8 : decode cX3_placeOf 8 = .ok (.imul, 1) := by decide +kernel
theorem dX3_placeOf_9 : decode cX3_placeOf 9 = .ok (.iload_n 1, 1) := by decide +kernel
theorem dX3_placeOf_10 : decode cX3_placeOf 10 = .ok (.invokestatic 68, 3) := by decide +kernel
theorem dX3_placeOf_13 : decode cX3_placeOf 13 = .ok (.iadd, 1) := by decide +kernel
theorem dX3_placeOf_14 : decode cX3_placeOf 14 = .ok (.ireturn, 1) := by decide +kernel
theorem dX3_spotBehind_0 : decode cX3_spotBehind 0 = .ok (.iload_n 1, 1) := by decide +kernel
theorem dX3_spotBehind_1 : decode cX3_spotBehind 1 = .ok (.invokestatic 71, 3) := by decide +kernel
theorem dX3_spotBehind_4 : decode cX3_spotBehind 4 = .ok (.ifCond .ne 10, 3) := by decide +kernel
theorem dX3_spotBehind_7 : decode cX3_spotBehind 7 = .ok (.iload_n 1, 1) := by decide +kernel
theorem dX3_spotBehind_8 : decode cX3_spotBehind 8 = .ok (.bipush 48, 2) := by decide +kernel
theorem dX3_spotBehind_10 : decode cX3_spotBehind 10 = .ok (.iadd, 1) := by decide +kernel
theorem dX3_spotBehind_11 : decode cX3_spotBehind 11 = .ok (.goto 7, 3) := by decide +kernel
theorem dX3_spotBehind_14 : decode cX3_spotBehind 14 = .ok (.iload_n 1, 1) := by decide +kernel
theorem dX3_spotBehind_15 : decode cX3_spotBehind 15 = .ok (.bipush 48, 2) := by decide +kernel
theorem dX3_spotBehind_17 : decode cX3_spotBehind 17 = .ok (.isub, 1) := by decide +kernel
theorem dX3_spotBehind_18 : decode cX3_spotBehind 18 = .ok (.istore_n 2, 1) := by decide +kernel
theorem dX3_spotBehind_19 : decode cX3_spotBehind 19 = .ok (.iload_n 2, 1) := by decide +kernel
theorem dX3_spotBehind_20 : decode cX3_spotBehind 20 = .ok (.iload_n 1, 1) := by decide +kernel
theorem dX3_spotBehind_21 : decode cX3_spotBehind 21 = .ok (.invokestatic 68, 3) := by decide +kernel
theorem dX3_spotBehind_24 : decode cX3_spotBehind 24 = .ok (.isub, 1) := by decide +kernel
theorem dX3_spotBehind_25 : decode cX3_spotBehind 25 = .ok (.aload_n 0, 1) := by decide +kernel
theorem dX3_spotBehind_26 : decode cX3_spotBehind 26 = .ok (.getfield 25, 3) := by decide +kernel
theorem dX3_spotBehind_29 : decode cX3_spotBehind 29 = .ok (.iadd, 1) := by decide +kernel
theorem dX3_spotBehind_30 : decode cX3_spotBehind 30 = .ok (.iconst 1, 1) := by decide +kernel
theorem dX3_spotBehind_31 : decode cX3_spotBehind 31 = .ok (.isub, 1) := by decide +kernel
theorem dX3_spotBehind_32 : decode cX3_spotBehind 32 = .ok (.iload_n 1, 1) := by decide +kernel
theorem dX3_spotBehind_33 : decode cX3_spotBehind 33 = .ok (.invokestatic 68, 3) := by decide +kernel
theorem dX3_spotBehind_36 : decode cX3_spotBehind 36 = .ok (.isub, 1) := by decide +kernel
theorem dX3_spotBehind_37 : decode cX3_spotBehind 37 = .ok (.ireturn, 1) := by decide +kernel
theorem dX3_cellOf_0 : decode cX3_cellOf 0 = .ok (.iload_n 1, 1) := by decide +kernel
theorem dX3_cellOf_1 : decode cX3_cellOf 1 = .ok (.invokestatic 71, 3) := by decide +kernel
theorem dX3_cellOf_4 : decode cX3_cellOf 4 = .ok (.ifCond .ne 7, 3) := by decide +kernel
theorem dX3_cellOf_7 : decode cX3_cellOf 7 = .ok (.iload_n 1, 1) := by decide +kernel
theorem dX3_cellOf_8 : decode cX3_cellOf 8 = .ok (.goto 8, 3) := by decide +kernel
theorem dX3_cellOf_11 : decode cX3_cellOf 11 = .ok (.aload_n 0, 1) := by decide +kernel
theorem dX3_cellOf_12 : decode cX3_cellOf 12 = .ok (.iload_n 1, 1) := by decide +kernel
theorem dX3_cellOf_13 : decode cX3_cellOf 13 = .ok (.invokevirtual 74, 3) := by decide +kernel
theorem dX3_cellOf_16 : decode cX3_cellOf 16 = .ok (.ireturn, 1) := by decide +kernel
theorem dX3_letterAt_0 : decode cX3_letterAt 0 = .ok (.aload_n 0, 1) := by decide +kernel
theorem dX3_letterAt_1 : decode cX3_letterAt 1 = .ok (.iload_n 1, 1) := by decide +kernel
theorem dX3_letterAt_2 : decode cX3_letterAt 2 = .ok (.invokevirtual 77, 3) := by decide +kernel
theorem dX3_letterAt_5 : decode cX3_letterAt 5 = .ok (.ifCond .eq 12, 3) := by decide +kernel
theorem dX3_letterAt_8 : decode cX3_letterAt 8 = .ok (.aload_n 0, 1) := by decide +kernel
theorem dX3_letterAt_9 : decode cX3_letterAt 9 = .ok (.getfield 9, 3) := by decide +kernel
theorem dX3_letterAt_12 : decode cX3_letterAt 12 = .ok (.iload_n 1, 1) := by decide +kernel
theorem dX3_letterAt_13 : decode cX3_letterAt 13 = .ok (.iaload, 1) := by decide +kernel
theorem dX3_letterAt_14 : decode cX3_letterAt 14 = .ok (.goto 4, 3) := by decide +kernel
theorem dX3_letterAt_17 : decode cX3_letterAt 17 = .ok (.iconst (-1), 1) := by decide +kernel
theorem dX3_letterAt_18 : decode cX3_letterAt 18 = .ok (.ireturn, 1) := by decide +kernel
theorem dX3_sizeAt_0 : decode cX3_sizeAt 0 = .ok (.aload_n 0, 1) := by decide +kernel
theorem dX3_sizeAt_1 : decode cX3_sizeAt 1 = .ok (.iload_n 1, 1) := by decide +kernel
theorem dX3_sizeAt_2 : decode cX3_sizeAt 2 = .ok (.invokevirtual 77, 3) := by decide +kernel
theorem dX3_sizeAt_5 : decode cX3_sizeAt 5 = .ok (.ifCond .eq 15, 3) := by decide +kernel
theorem dX3_sizeAt_8 : decode cX3_sizeAt 8 = .ok (.aload_n 0, 1) := by decide +kernel
theorem dX3_sizeAt_9 : decode cX3_sizeAt 9 = .ok (.getfield 15, 3) := by decide +kernel
theorem dX3_sizeAt_12 : decode cX3_sizeAt 12 = .ok (.iload_n 1, 1) := by decide +kernel
theorem dX3_sizeAt_13 : decode cX3_sizeAt 13 = .ok (.bipush 8, 2) := by decide +kernel
theorem dX3_sizeAt_15 : decode cX3_sizeAt 15 = .ok (.idiv, 1) := by decide +kernel
theorem dX3_sizeAt_16 : decode cX3_sizeAt 16 = .ok (.iaload, 1) := by decide +kernel
theorem dX3_sizeAt_17 : decode cX3_sizeAt 17 = .ok (.goto 4, 3) := by decide +kernel
theorem dX3_sizeAt_20 : decode cX3_sizeAt 20 = .ok (.iconst 1, 1) := by decide +kernel
theorem dX3_sizeAt_21 : decode cX3_sizeAt 21 = .ok (.ireturn, 1) := by decide +kernel
theorem dX3_isThere_0 : decode cX3_isThere 0 = .ok (.aload_n 0, 1) := by decide +kernel
theorem dX3_isThere_1 : decode cX3_isThere 1 = .ok (.getfield 41, 3) := by decide +kernel
theorem dX3_isThere_4 : decode cX3_isThere 4 = .ok (.lconst 1, 1) := by decide +kernel
theorem dX3_isThere_5 : decode cX3_isThere 5 = .ok (.iload_n 1, 1) := by decide +kernel
theorem dX3_isThere_6 : decode cX3_isThere 6 = .ok (.lshl, 1) := by decide +kernel
theorem dX3_isThere_7 : decode cX3_isThere 7 = .ok (.land, 1) := by decide +kernel
theorem dX3_isThere_8 : decode cX3_isThere 8 = .ok (.lconst 0, 1) := by decide +kernel
theorem dX3_isThere_9 : decode cX3_isThere 9 = .ok (.lcmp, 1) := by decide +kernel
theorem dX3_isThere_10 : decode cX3_isThere 10 = .ok (.ifCond .ne 7, 3) := by decide +kernel
theorem dX3_isThere_13 : decode cX3_isThere 13 = .ok (.iconst 1, 1) := by decide +kernel
theorem dX3_isThere_14 : decode cX3_isThere 14 = .ok (.goto 4, 3) := by decide +kernel
theorem dX3_isThere_17 : decode cX3_isThere 17 = .ok (.iconst 0, 1) := by decide +kernel
theorem dX3_isThere_18 : decode cX3_isThere 18 = .ok (.ireturn, 1) := by decide +kernel
theorem dX3_canUse_0 : decode cX3_canUse 0 = .ok (.aload_n 0, 1) := by decide +kernel
theorem dX3_canUse_1 : decode cX3_canUse 1 = .ok (.iload_n 1, 1) := by decide +kernel
theorem dX3_canUse_2 : decode cX3_canUse 2 = .ok (.invokevirtual 81, 3) := by decide +kernel
theorem dX3_canUse_5 : decode cX3_canUse 5 = .ok (.iconst (-1), 1) := by decide +kernel
theorem dX3_canUse_6 : decode cX3_canUse 6 = .ok (.if_icmp .eq 31, 3) := by decide +kernel
theorem dX3_canUse_9 : decode cX3_canUse 9 = .ok (.aload_n 0, 1) := by decide +kernel
theorem dX3_canUse_10 : decode cX3_canUse 10 = .ok (.aload_n 0, 1) := by decide +kernel
theorem dX3_canUse_11 : decode cX3_canUse 11 = .ok (.iload_n 1, 1) := by decide +kernel
theorem dX3_canUse_12 : decode cX3_canUse 12 = .ok (.invokevirtual 84, 3) := by decide +kernel
theorem dX3_canUse_15 : decode cX3_canUse 15 = .ok (.invokevirtual 87, 3) := by decide +kernel
theorem dX3_canUse_18 : decode cX3_canUse 18 = .ok (.ifCond .eq 19, 3) := by decide +kernel
theorem dX3_canUse_21 : decode cX3_canUse 21 = .ok (.aload_n 0, 1) := by decide +kernel
theorem dX3_canUse_22 : decode cX3_canUse 22 = .ok (.iload_n 1, 1) := by decide +kernel
theorem dX3_canUse_23 : decode cX3_canUse 23 = .ok (.invokevirtual 90, 3) := by decide +kernel
theorem dX3_canUse_26 : decode cX3_canUse 26 = .ok (.aload_n 0, 1) := by decide +kernel
theorem dX3_canUse_27 : decode cX3_canUse 27 = .ok (.getfield 32, 3) := by decide +kernel
theorem dX3_canUse_30 : decode cX3_canUse 30 = .ok (.if_icmp .lt 7, 3) := by decide +kernel
theorem dX3_canUse_33 : decode cX3_canUse 33 = .ok (.iconst 1, 1) := by decide +kernel
theorem dX3_canUse_34 : decode cX3_canUse 34 = .ok (.goto 4, 3) := by decide +kernel
theorem dX3_canUse_37 : decode cX3_canUse 37 = .ok (.iconst 0, 1) := by decide +kernel
theorem dX3_canUse_38 : decode cX3_canUse 38 = .ok (.ireturn, 1) := by decide +kernel
theorem dX3_countThere_0 : decode cX3_countThere 0 = .ok (.aload_n 0, 1) := by decide +kernel
theorem dX3_countThere_1 : decode cX3_countThere 1 = .ok (.invokevirtual 60, 3) := by decide +kernel
theorem dX3_countThere_4 : decode cX3_countThere 4 = .ok (.aload_n 0, 1) := by decide +kernel
theorem dX3_countThere_5 : decode cX3_countThere 5 = .ok (.getfield 41, 3) := by decide +kernel
theorem dX3_countThere_8 : decode cX3_countThere 8 = .ok (.invokestatic 93, 3) := by decide +kernel
theorem dX3_countThere_11 : decode cX3_countThere 11 = .ok (.isub, 1) := by decide +kernel
theorem dX3_countThere_12 : decode cX3_countThere 12 = .ok (.ireturn, 1) := by decide +kernel
theorem dX3_countUsable_0 : decode cX3_countUsable 0 = .ok (.iconst 0, 1) := by decide +kernel
theorem dX3_countUsable_1 : decode cX3_countUsable 1 = .ok (.istore_n 1, 1) := by decide +kernel
theorem dX3_countUsable_2 : decode cX3_countUsable 2 = .ok (.iconst 0, 1) := by decide +kernel
theorem dX3_countUsable_3 : decode cX3_countUsable 3 = .ok (.istore_n 2, 1) := by decide +kernel
theorem dX3_countUsable_4 : decode cX3_countUsable 4 = .ok (.iload_n 2, 1) := by decide +kernel
theorem dX3_countUsable_5 : decode cX3_countUsable 5 = .ok (.bipush 96, 2) := by decide +kernel
theorem dX3_countUsable_7 : decode cX3_countUsable 7 = .ok (.if_icmp .ge 20, 3) := by decide +kernel
theorem dX3_countUsable_10 : decode cX3_countUsable 10 = .ok (.aload_n 0, 1) := by decide +kernel
theorem dX3_countUsable_11 : decode cX3_countUsable 11 = .ok (.iload_n 2, 1) := by decide +kernel
theorem dX3_countUsable_12 : decode cX3_countUsable 12 = .ok (.invokevirtual 99, 3) := by decide +kernel
theorem dX3_countUsable_15 : decode cX3_countUsable 15 = .ok (.ifCond .eq 6, 3) := by decide +kernel
theorem dX3_countUsable_18 : decode cX3_countUsable 18 = .ok (.iinc 1 1, 3) := by decide +kernel
theorem dX3_countUsable_21 : decode cX3_countUsable 21 = .ok (.iinc 2 1, 3) := by decide +kernel
theorem dX3_countUsable_24 : decode cX3_countUsable 24 = .ok (.goto (-20), 3) := by decide +kernel
theorem dX3_countUsable_27 : decode cX3_countUsable 27 = .ok (.iload_n 1, 1) := by decide +kernel
theorem dX3_countUsable_28 : decode cX3_countUsable 28 = .ok (.ireturn, 1) := by decide +kernel
theorem dX3_countUsableOf_0 : decode cX3_countUsableOf 0 = .ok (.iconst 0, 1) := by decide +kernel
theorem dX3_countUsableOf_1 : decode cX3_countUsableOf 1 = .ok (.istore_n 2, 1) := by decide +kernel
theorem dX3_countUsableOf_2 : decode cX3_countUsableOf 2 = .ok (.iconst 0, 1) := by decide +kernel
theorem dX3_countUsableOf_3 : decode cX3_countUsableOf 3 = .ok (.istore_n 3, 1) := by decide +kernel
theorem dX3_countUsableOf_4 : decode cX3_countUsableOf 4 = .ok (.iload_n 3, 1) := by decide +kernel
theorem dX3_countUsableOf_5 : decode cX3_countUsableOf 5 = .ok (.bipush 96, 2) := by decide +kernel
theorem dX3_countUsableOf_7 : decode cX3_countUsableOf 7 = .ok (.if_icmp .ge 29, 3) := by decide +kernel
theorem dX3_countUsableOf_10 : decode cX3_countUsableOf 10 = .ok (.aload_n 0, 1) := by decide +kernel
theorem dX3_countUsableOf_11 : decode cX3_countUsableOf 11 = .ok (.iload_n 3, 1) := by decide +kernel
theorem dX3_countUsableOf_12 : decode cX3_countUsableOf 12 = .ok (.invokevirtual 81, 3) := by decide +kernel
theorem dX3_countUsableOf_15 : decode cX3_countUsableOf 15 = .ok (.iload_n 1, 1) := by decide +kernel
theorem dX3_countUsableOf_16 : decode cX3_countUsableOf 16 = .ok (.if_icmp .ne 14, 3) := by decide +kernel
theorem dX3_countUsableOf_19 : decode cX3_countUsableOf 19 = .ok (.aload_n 0, 1) := by decide +kernel
theorem dX3_countUsableOf_20 : decode cX3_countUsableOf 20 = .ok (.iload_n 3, 1) := by decide +kernel
theorem dX3_countUsableOf_21 : decode cX3_countUsableOf 21 = .ok (.invokevirtual 99, 3) := by decide +kernel
theorem dX3_countUsableOf_24 : decode cX3_countUsableOf 24 = .ok (.ifCond .eq 6, 3) := by decide +kernel
theorem dX3_countUsableOf_27 : decode cX3_countUsableOf 27 = .ok (.iinc 2 1, 3) := by decide +kernel
theorem dX3_countUsableOf_30 : decode cX3_countUsableOf 30 = .ok (.iinc 3 1, 3) := by decide +kernel
theorem dX3_countUsableOf_33 : decode cX3_countUsableOf 33 = .ok (.goto (-29), 3) := by decide +kernel
theorem dX3_countUsableOf_36 : decode cX3_countUsableOf 36 = .ok (.iload_n 2, 1) := by decide +kernel
theorem dX3_countUsableOf_37 : decode cX3_countUsableOf 37 = .ok (.ireturn, 1) := by decide +kernel
theorem dX3_cellsWith_0 : decode cX3_cellsWith 0 = .ok (.lconst 0, 1) := by decide +kernel
theorem dX3_cellsWith_1 : decode cX3_cellsWith 1 = .ok (.lstore_n 2, 1) := by decide +kernel
theorem dX3_cellsWith_2 : decode cX3_cellsWith 2 = .ok (.iconst 0, 1) := by decide +kernel
theorem dX3_cellsWith_3 : decode cX3_cellsWith 3 = .ok (.istore 4, 2) := by decide +kernel
theorem dX3_cellsWith_5 : decode cX3_cellsWith 5 = .ok (.iload 4, 2) := by decide +kernel
theorem dX3_cellsWith_7 : decode cX3_cellsWith 7 = .ok (.bipush 96, 2) := by decide +kernel
theorem dX3_cellsWith_9 : decode cX3_cellsWith 9 = .ok (.if_icmp .ge 39, 3) := by decide +kernel
theorem dX3_cellsWith_12 : decode cX3_cellsWith 12 = .ok (.aload_n 0, 1) := by decide +kernel
theorem dX3_cellsWith_13 : decode cX3_cellsWith 13 = .ok (.iload 4, 2) := by decide +kernel
theorem dX3_cellsWith_15 : decode cX3_cellsWith 15 = .ok (.invokevirtual 81, 3) := by decide +kernel
theorem dX3_cellsWith_18 : decode cX3_cellsWith 18 = .ok (.iload_n 1, 1) := by decide +kernel
theorem dX3_cellsWith_19 : decode cX3_cellsWith 19 = .ok (.if_icmp .ne 23, 3) := by decide +kernel
theorem dX3_cellsWith_22 : decode cX3_cellsWith 22 = .ok (.aload_n 0, 1) := by decide +kernel
theorem dX3_cellsWith_23 : decode cX3_cellsWith 23 = .ok (.iload 4, 2) := by decide +kernel
theorem dX3_cellsWith_25 : decode cX3_cellsWith 25 = .ok (.invokevirtual 99, 3) := by decide +kernel
theorem dX3_cellsWith_28 : decode cX3_cellsWith 28 = .ok (.ifCond .eq 14, 3) := by decide +kernel
theorem dX3_cellsWith_31 : decode cX3_cellsWith 31 = .ok (.lload_n 2, 1) := by decide +kernel
theorem dX3_cellsWith_32 : decode cX3_cellsWith 32 = .ok (.lconst 1, 1) := by decide +kernel
theorem dX3_cellsWith_33 : decode cX3_cellsWith 33 = .ok (.aload_n 0, 1) := by decide +kernel
theorem dX3_cellsWith_34 : decode cX3_cellsWith 34 = .ok (.iload 4, 2) := by decide +kernel
theorem dX3_cellsWith_36 : decode cX3_cellsWith 36 = .ok (.invokevirtual 84, 3) := by decide +kernel
theorem dX3_cellsWith_39 : decode cX3_cellsWith 39 = .ok (.lshl, 1) := by decide +kernel
theorem dX3_cellsWith_40 : decode cX3_cellsWith 40 = .ok (.lor, 1) := by decide +kernel
theorem dX3_cellsWith_41 : decode cX3_cellsWith 41 = .ok (.lstore_n 2, 1) := by decide +kernel
theorem dX3_cellsWith_42 : decode cX3_cellsWith 42 = .ok (.iinc 4 1, 3) := by decide +kernel
theorem dX3_cellsWith_45 : decode cX3_cellsWith 45 = .ok (.goto (-40), 3) := by decide +kernel
theorem dX3_cellsWith_48 : decode cX3_cellsWith 48 = .ok (.lload_n 2, 1) := by decide +kernel
theorem dX3_cellsWith_49 : decode cX3_cellsWith 49 = .ok (.lreturn, 1) := by decide +kernel
theorem dX3_hasMessageLetter_0 : decode cX3_hasMessageLetter 0 = .ok (.iload_n 1, 1) := by decide +kernel
theorem dX3_hasMessageLetter_1 : decode cX3_hasMessageLetter 1 = .ok (.ifCond .lt 21, 3) := by decide +kernel
theorem dX3_hasMessageLetter_4 : decode cX3_hasMessageLetter 4 = .ok (.iload_n 1, 1) := by decide +kernel
theorem dX3_hasMessageLetter_5 : decode cX3_hasMessageLetter 5 = .ok (.aload_n 0, 1) := by decide +kernel
theorem dX3_hasMessageLetter_6 : decode cX3_hasMessageLetter 6 = .ok (.getfield 45, 3) := by decide +kernel
theorem dX3_hasMessageLetter_9 : decode cX3_hasMessageLetter 9 = .ok (.if_icmp .ge 13, 3) := by decide +kernel
theorem dX3_hasMessageLetter_12 : decode cX3_hasMessageLetter 12 = .ok (.iload_n 1, 1) := by decide +kernel
theorem dX3_hasMessageLetter_13 : decode cX3_hasMessageLetter 13 = .ok (.bipush 24, 2) := by decide +kernel
theorem dX3_hasMessageLetter_15 : decode cX3_hasMessageLetter 15 = .ok (.if_icmp .ge 7, 3) := by decide +kernel
theorem dX3_hasMessageLetter_18 : decode cX3_hasMessageLetter 18 = .ok (.iconst 1, 1) := by decide +kernel
theorem dX3_hasMessageLetter_19 : decode cX3_hasMessageLetter 19 = .ok (.goto 4, 3) := by decide +kernel
theorem dX3_hasMessageLetter_22 : decode cX3_hasMessageLetter 22 = .ok (.iconst 0, 1) := by decide +kernel
theorem dX3_hasMessageLetter_23 : decode cX3_hasMessageLetter 23 = .ok (.ireturn, 1) := by decide +kernel
theorem dX3_messageAt_0 : decode cX3_messageAt 0 = .ok (.aload_n 0, 1) := by decide +kernel
theorem dX3_messageAt_1 : decode cX3_messageAt 1 = .ok (.iload_n 1, 1) := by decide +kernel
theorem dX3_messageAt_2 : decode cX3_messageAt 2 = .ok (.invokevirtual 102, 3) := by decide +kernel
theorem dX3_messageAt_5 : decode cX3_messageAt 5 = .ok (.ifCond .eq 12, 3) := by decide +kernel
theorem dX3_messageAt_8 : decode cX3_messageAt 8 = .ok (.aload_n 0, 1) := by decide +kernel
theorem dX3_messageAt_9 : decode cX3_messageAt 9 = .ok (.getfield 18, 3) := by decide +kernel
theorem dX3_messageAt_12 : decode cX3_messageAt 12 = .ok (.iload_n 1, 1) := by decide +kernel
theorem dX3_messageAt_13 : decode cX3_messageAt 13 = .ok (.iaload, 1) := by decide +kernel
theorem dX3_messageAt_14 : decode cX3_messageAt 14 = .ok (.goto 4, 3) := by decide +kernel
theorem dX3_messageAt_17 : decode cX3_messageAt 17 = .ok (.iconst (-1), 1) := by decide +kernel
theorem dX3_messageAt_18 : decode cX3_messageAt 18 = .ok (.ireturn, 1) := by decide +kernel
theorem dX3_countInMessage_0 : decode cX3_countInMessage 0 = .ok (.iconst 0, 1) := by decide +kernel
theorem dX3_countInMessage_1 : decode cX3_countInMessage 1 = .ok (.istore_n 2, 1) := by decide +kernel
theorem dX3_countInMessage_2 : decode cX3_countInMessage 2 = .ok (.iconst 0, 1) := by decide +kernel
theorem dX3_countInMessage_3 : decode cX3_countInMessage 3 = .ok (.istore_n 3, 1) := by decide +kernel
theorem dX3_countInMessage_4 : decode cX3_countInMessage 4 = .ok (.iload_n 3, 1) := by decide +kernel
theorem dX3_countInMessage_5 : decode cX3_countInMessage 5 = .ok (.aload_n 0, 1) := by decide +kernel
theorem dX3_countInMessage_6 : decode cX3_countInMessage 6 = .ok (.getfield 45, 3) := by decide +kernel
theorem dX3_countInMessage_9 : decode cX3_countInMessage 9 = .ok (.if_icmp .ge 21, 3) := by decide +kernel
theorem dX3_countInMessage_12 : decode cX3_countInMessage 12 = .ok (.aload_n 0, 1) := by decide +kernel
theorem dX3_countInMessage_13 : decode cX3_countInMessage 13 = .ok (.iload_n 3, 1) := by decide +kernel
theorem dX3_countInMessage_14 : decode cX3_countInMessage 14 = .ok (.invokevirtual 105, 3) := by decide +kernel
theorem dX3_countInMessage_17 : decode cX3_countInMessage 17 = .ok (.iload_n 1, 1) := by decide +kernel
theorem dX3_countInMessage_18 : decode cX3_countInMessage 18 = .ok (.if_icmp .ne 6, 3) := by decide +kernel
theorem dX3_countInMessage_21 : decode cX3_countInMessage 21 = .ok (.iinc 2 1, 3) := by decide +kernel
theorem dX3_countInMessage_24 : decode cX3_countInMessage 24 = .ok (.iinc 3 1, 3) := by decide +kernel
theorem dX3_countInMessage_27 : decode cX3_countInMessage 27 = .ok (.goto (-23), 3) := by decide +kernel
theorem dX3_countInMessage_30 : decode cX3_countInMessage 30 = .ok (.iload_n 2, 1) := by decide +kernel
theorem dX3_countInMessage_31 : decode cX3_countInMessage 31 = .ok (.ireturn, 1) := by decide +kernel
theorem dX3_isStrip_0 : decode cX3_isStrip 0 = .ok (.iload_n 1, 1) := by decide +kernel
theorem dX3_isStrip_1 : decode cX3_isStrip 1 = .ok (.invokestatic 68, 3) := by decide +kernel
theorem dX3_isStrip_4 : decode cX3_isStrip 4 = .ok (.iload_n 2, 1) := by decide +kernel
theorem dX3_isStrip_5 : decode cX3_isStrip 5 = .ok (.iadd, 1) := by decide +kernel
theorem dX3_isStrip_6 : decode cX3_isStrip 6 = .ok (.aload_n 0, 1) := by decide +kernel
theorem dX3_isStrip_7 : decode cX3_isStrip 7 = .ok (.getfield 25, 3) := by decide +kernel
theorem dX3_isStrip_10 : decode cX3_isStrip 10 = .ok (.if_icmp .le 5, 3) := by decide +kernel
theorem dX3_isStrip_13 : decode cX3_isStrip 13 = .ok (.iconst 0, 1) := by decide +kernel
theorem dX3_isStrip_14 : decode cX3_isStrip 14 = .ok (.ireturn, 1) := by decide +kernel
theorem dX3_isStrip_15 : decode cX3_isStrip 15 = .ok (.iconst 0, 1) := by decide +kernel
theorem dX3_isStrip_16 : decode cX3_isStrip 16 = .ok (.istore_n 3, 1) := by decide +kernel
theorem dX3_isStrip_17 : decode cX3_isStrip 17 = .ok (.iload_n 3, 1) := by decide +kernel
theorem dX3_isStrip_18 : decode cX3_isStrip 18 = .ok (.iload_n 2, 1) := by decide +kernel
theorem dX3_isStrip_19 : decode cX3_isStrip 19 = .ok (.if_icmp .ge 21, 3) := by decide +kernel
theorem dX3_isStrip_22 : decode cX3_isStrip 22 = .ok (.aload_n 0, 1) := by decide +kernel
theorem dX3_isStrip_23 : decode cX3_isStrip 23 = .ok (.iload_n 1, 1) := by decide +kernel
theorem dX3_isStrip_24 : decode cX3_isStrip 24 = .ok (.iload_n 3, 1) := by decide +kernel
theorem dX3_isStrip_25 : decode cX3_isStrip 25 = .ok (.iadd, 1) := by decide +kernel
theorem dX3_isStrip_26 : decode cX3_isStrip 26 = .ok (.invokevirtual 99, 3) := by decide +kernel
theorem dX3_isStrip_29 : decode cX3_isStrip 29 = .ok (.ifCond .ne 5, 3) := by decide +kernel
theorem dX3_isStrip_32 : decode cX3_isStrip 32 = .ok (.iconst 0, 1) := by decide +kernel
theorem dX3_isStrip_33 : decode cX3_isStrip 33 = .ok (.ireturn, 1) := by decide +kernel
theorem dX3_isStrip_34 : decode cX3_isStrip 34 = .ok (.iinc 3 1, 3) := by decide +kernel
theorem dX3_isStrip_37 : decode cX3_isStrip 37 = .ok (.goto (-20), 3) := by decide +kernel
theorem dX3_isStrip_40 : decode cX3_isStrip 40 = .ok (.iconst 1, 1) := by decide +kernel
theorem dX3_isStrip_41 : decode cX3_isStrip 41 = .ok (.ireturn, 1) := by decide +kernel
theorem dX3_cellsOfStrip_0 : decode cX3_cellsOfStrip 0 = .ok (.lconst 0, 1) := by decide +kernel
theorem dX3_cellsOfStrip_1 : decode cX3_cellsOfStrip 1 = .ok (.lstore_n 3, 1) := by decide +kernel
theorem dX3_cellsOfStrip_2 : decode cX3_cellsOfStrip 2 = .ok (.iconst 0, 1) := by decide +kernel
theorem dX3_cellsOfStrip_3 : decode cX3_cellsOfStrip 3 = .ok (.istore 5, 2) := by decide +kernel
theorem dX3_cellsOfStrip_5 : decode cX3_cellsOfStrip 5 = .ok (.iload 5, 2) := by decide +kernel
theorem dX3_cellsOfStrip_7 : decode cX3_cellsOfStrip 7 = .ok (.iload_n 2, 1) := by decide +kernel
theorem dX3_cellsOfStrip_8 : decode cX3_cellsOfStrip 8 = .ok (.if_icmp .ge 22, 3) := by decide +kernel
theorem dX3_cellsOfStrip_11 : decode cX3_cellsOfStrip 11 = .ok (.lload_n 3, 1) := by decide +kernel
theorem dX3_cellsOfStrip_12 : decode cX3_cellsOfStrip 12 = .ok (.lconst 1, 1) := by decide +kernel
theorem dX3_cellsOfStrip_13 : decode cX3_cellsOfStrip 13 = .ok (.aload_n 0, 1) := by decide +kernel
theorem dX3_cellsOfStrip_14 : decode cX3_cellsOfStrip 14 = .ok (.iload_n 1, 1) := by decide +kernel
theorem dX3_cellsOfStrip_15 : decode cX3_cellsOfStrip 15 = .ok (.iload 5, 2) := by decide +kernel
theorem dX3_cellsOfStrip_17 : decode cX3_cellsOfStrip 17 = .ok (.iadd, 1) := by decide +kernel
theorem dX3_cellsOfStrip_18 : decode cX3_cellsOfStrip 18 = .ok (.invokevirtual 84, 3) := by decide +kernel
theorem dX3_cellsOfStrip_21 : decode cX3_cellsOfStrip 21 = .ok (.lshl, 1) := by decide +kernel
theorem dX3_cellsOfStrip_22 : decode cX3_cellsOfStrip 22 = .ok (.lor, 1) := by decide +kernel
theorem dX3_cellsOfStrip_23 : decode cX3_cellsOfStrip 23 = .ok (.lstore_n 3, 1) := by decide +kernel
theorem dX3_cellsOfStrip_24 : decode cX3_cellsOfStrip 24 = .ok (.iinc 5 1, 3) := by decide +kernel
theorem dX3_cellsOfStrip_27 : decode cX3_cellsOfStrip 27 = .ok (.goto (-22), 3) := by decide +kernel
theorem dX3_cellsOfStrip_30 : decode cX3_cellsOfStrip 30 = .ok (.lload_n 3, 1) := by decide +kernel
theorem dX3_cellsOfStrip_31 : decode cX3_cellsOfStrip 31 = .ok (.lreturn, 1) := by decide +kernel
theorem dX3_lettersFrom_0 : decode cX3_lettersFrom 0 = .ok (.aload_n 0, 1) := by decide +kernel
theorem dX3_lettersFrom_1 : decode cX3_lettersFrom 1 = .ok (.getfield 25, 3) := by decide +kernel
theorem dX3_lettersFrom_4 : decode cX3_lettersFrom 4 = .ok (.iload_n 1, 1) := by decide +kernel
theorem dX3_lettersFrom_5 : decode cX3_lettersFrom 5 = .ok (.invokestatic 68, 3) := by decide +kernel
theorem dX3_lettersFrom_8 : decode cX3_lettersFrom 8 = .ok (.isub, 1) := by decide +kernel
theorem dX3_lettersFrom_9 : decode cX3_lettersFrom 9 = .ok (.istore_n 3, 1) := by decide +kernel
theorem dX3_lettersFrom_10 : decode cX3_lettersFrom 10 = .ok (.iconst 0, 1) := by decide +kernel
theorem dX3_lettersFrom_11 : decode cX3_lettersFrom 11 = .ok (.istore 4, 2) := by decide +kernel
theorem dX3_lettersFrom_13 : decode cX3_lettersFrom 13 = .ok (.iload 4, 2) := by decide +kernel
theorem dX3_lettersFrom_15 : decode cX3_lettersFrom 15 = .ok (.iload_n 3, 1) := by decide +kernel
theorem dX3_lettersFrom_16 : decode cX3_lettersFrom 16 = .ok (.if_icmp .ge 39, 3) := by decide +kernel
theorem dX3_lettersFrom_19 : decode cX3_lettersFrom 19 = .ok (.aload_n 0, 1) := by decide +kernel
theorem dX3_lettersFrom_20 : decode cX3_lettersFrom 20 = .ok (.iload_n 1, 1) := by decide +kernel
theorem dX3_lettersFrom_21 : decode cX3_lettersFrom 21 = .ok (.iload 4, 2) := by decide +kernel
theorem dX3_lettersFrom_23 : decode cX3_lettersFrom 23 = .ok (.iadd, 1) := by decide +kernel
theorem dX3_lettersFrom_24 : decode cX3_lettersFrom 24 = .ok (.invokevirtual 81, 3) := by decide +kernel
theorem dX3_lettersFrom_27 : decode cX3_lettersFrom 27 = .ok (.aload_n 0, 1) := by decide +kernel
theorem dX3_lettersFrom_28 : decode cX3_lettersFrom 28 = .ok (.iload_n 2, 1) := by decide +kernel
theorem dX3_lettersFrom_29 : decode cX3_lettersFrom 29 = .ok (.iload 4, 2) := by decide +kernel
theorem dX3_lettersFrom_31 : decode cX3_lettersFrom 31 = .ok (.iadd, 1) := by decide +kernel
theorem dX3_lettersFrom_32 : decode cX3_lettersFrom 32 = .ok (.invokevirtual 105, 3) := by decide +kernel
theorem dX3_lettersFrom_35 : decode cX3_lettersFrom 35 = .ok (.if_icmp .ne 20, 3) := by decide +kernel
theorem dX3_lettersFrom_38 : decode cX3_lettersFrom 38 = .ok (.aload_n 0, 1) := by decide +kernel
theorem dX3_lettersFrom_39 : decode cX3_lettersFrom 39 = .ok (.iload_n 1, 1) := by decide +kernel
theorem dX3_lettersFrom_40 : decode cX3_lettersFrom 40 = .ok (.iload 4, 2) := by decide +kernel
theorem dX3_lettersFrom_42 : decode cX3_lettersFrom 42 = .ok (.iadd, 1) := by decide +kernel
theorem dX3_lettersFrom_43 : decode cX3_lettersFrom 43 = .ok (.invokevirtual 99, 3) := by decide +kernel
theorem dX3_lettersFrom_46 : decode cX3_lettersFrom 46 = .ok (.ifCond .eq 9, 3) := by decide +kernel
theorem dX3_lettersFrom_49 : decode cX3_lettersFrom 49 = .ok (.iinc 4 1, 3) := by decide +kernel
theorem dX3_lettersFrom_52 : decode cX3_lettersFrom 52 = .ok (.goto (-39), 3) := by decide +kernel
theorem dX3_lettersFrom_55 : decode cX3_lettersFrom 55 = .ok (.iload 4, 2) := by decide +kernel
theorem dX3_lettersFrom_57 : decode cX3_lettersFrom 57 = .ok (.ireturn, 1) := by decide +kernel
theorem dX3_take_0 : decode cX3_take 0 = .ok (.aload_n 0, 1) := by decide +kernel
theorem dX3_take_1 : decode cX3_take 1 = .ok (.dup, 1) := by decide +kernel
theorem dX3_take_2 : decode cX3_take 2 = .ok (.getfield 41, 3) := by decide +kernel
theorem dX3_take_5 : decode cX3_take 5 = .ok (.lload_n 1, 1) := by decide +kernel
theorem dX3_take_6 : decode cX3_take 6 = .ok (.lor, 1) := by decide +kernel
theorem dX3_take_7 : decode cX3_take 7 = .ok (.putfield 41, 3) := by decide +kernel
theorem dX3_take_10 : decode cX3_take 10 = .ok (.aload_n 0, 1) := by decide +kernel
theorem dX3_take_11 : decode cX3_take 11 = .ok (.dup, 1) := by decide +kernel
theorem dX3_take_12 : decode cX3_take 12 = .ok (.getfield 48, 3) := by decide +kernel
theorem dX3_take_15 : decode cX3_take 15 = .ok (.iload_n 3, 1) := by decide +kernel
theorem dX3_take_16 : decode cX3_take 16 = .ok (.iadd, 1) := by decide +kernel
theorem dX3_take_17 : decode cX3_take 17 = .ok (.putfield 48, 3) := by decide +kernel
theorem dX3_take_20 : decode cX3_take 20 = .ok (.aload_n 0, 1) := by decide +kernel
theorem dX3_take_21 : decode cX3_take 21 = .ok (.dup, 1) := by decide +kernel
theorem dX3_take_22 : decode cX3_take 22 = .ok (.getfield 51, 3) := by decide +kernel
theorem dX3_take_25 : decode cX3_take 25 = .ok (.lload_n 1, 1) := by decide +kernel
theorem dX3_take_26 : decode cX3_take 26 = .ok (.invokestatic 93, 3) := by decide +kernel
theorem dX3_take_29 : decode cX3_take 29 = .ok (.iadd, 1) := by decide +kernel
theorem dX3_take_30 : decode cX3_take 30 = .ok (.putfield 51, 3) := by decide +kernel
theorem dX3_take_33 : decode cX3_take 33 = .ok (.return_, 1) := by decide +kernel
theorem dX4_init_0 : decode cX4_init 0 = .ok (.aload_n 0, 1) := by decide +kernel
theorem dX4_init_1 : decode cX4_init 1 = .ok (.invokespecial 3, 3) := by decide +kernel
theorem dX4_init_4 : decode cX4_init 4 = .ok (.aload_n 0, 1) := by decide +kernel
theorem dX4_init_5 : decode cX4_init 5 = .ok (.sipush 400, 3) := by decide +kernel
theorem dX4_init_8 : decode cX4_init 8 = .ok (.newarray .byte, 2) := by decide +kernel
theorem dX4_init_10 : decode cX4_init 10 = .ok (.putfield 9, 3) := by decide +kernel
theorem dX4_init_13 : decode cX4_init 13 = .ok (.aload_n 0, 1) := by decide +kernel
theorem dX4_init_14 : decode cX4_init 14 = .ok (.iconst 0, 1) := by decide +kernel
theorem dX4_init_15 : decode cX4_init 15 = .ok (.putfield 13, 3) := by decide +kernel
theorem dX4_init_18 : decode cX4_init 18 = .ok (.aload_n 0, 1) := by decide +kernel
theorem dX4_init_19 : decode cX4_init 19 = .ok (.iconst (-1), 1) := by decide +kernel
theorem dX4_init_20 : decode cX4_init 20 = .ok (.putfield 17, 3) := by decide +kernel
theorem dX4_init_23 : decode cX4_init 23 = .ok (.aload_n 0, 1) := by decide +kernel
theorem dX4_init_24 : decode cX4_init 24 = .ok (.new 20, 3) := by decide +kernel
theorem dX4_init_27 : decode cX4_init 27 = .ok (.dup, 1) := by decide +kernel
theorem dX4_init_28 : decode cX4_init 28 = .ok (.invokespecial 22, 3) := by decide +kernel
theorem dX4_init_31 : decode cX4_init 31 = .ok (.putfield 23, 3) := by decide +kernel
theorem dX4_init_34 : decode cX4_init 34 = .ok (.aload_n 0, 1) := by decide +kernel
theorem dX4_init_35 : decode cX4_init 35 = .ok (.bipush 8, 2) := by decide +kernel
theorem dX4_init_37 : decode cX4_init 37 = .ok (.anewarray 20, 3) := by decide +kernel
theorem dX4_init_40 : decode cX4_init 40 = .ok (.putfield 27, 3) := by decide +kernel
theorem dX4_init_43 : decode cX4_init 43 = .ok (.aload_n 0, 1) := by decide +kernel
theorem dX4_init_44 : decode cX4_init 44 = .ok (.iconst 0, 1) := by decide +kernel
theorem dX4_init_45 : decode cX4_init 45 = .ok (.putfield 31, 3) := by decide +kernel
theorem dX4_init_48 : decode cX4_init 48 = .ok (.aload_n 0, 1) := by decide +kernel
theorem dX4_init_49 : decode cX4_init 49 = .ok (.new 34, 3) := by decide +kernel
theorem dX4_init_52 : decode cX4_init 52 = .ok (.dup, 1) := by decide +kernel
theorem dX4_init_53 : decode cX4_init 53 = .ok (.invokespecial 36, 3) := by decide +kernel
theorem dX4_init_56 : decode cX4_init 56 = .ok (.putfield 37, 3) := by decide +kernel
theorem dX4_init_59 : decode cX4_init 59 = .ok (.aload_n 0, 1) := by decide +kernel
theorem dX4_init_60 : decode cX4_init 60 = .ok (.new 41, 3) := by decide +kernel
theorem dX4_init_63 : decode cX4_init 63 = .ok (.dup, 1) := by decide +kernel
theorem dX4_init_64 : decode cX4_init 64 = .ok (.invokespecial 43, 3) := by decide +kernel
theorem dX4_init_67 : decode cX4_init 67 = .ok (.putfield 44, 3) := by decide +kernel
theorem dX4_init_70 : decode cX4_init 70 = .ok (.aload_n 0, 1) := by decide +kernel
theorem dX4_init_71 : decode cX4_init 71 = .ok (.new 48, 3) := by decide +kernel
theorem dX4_init_74 : decode cX4_init 74 = .ok (.dup, 1) := by decide +kernel
theorem dX4_init_75 : decode cX4_init 75 = .ok (.invokespecial 50, 3) := by decide +kernel
theorem dX4_init_78 : decode cX4_init 78 = .ok (.putfield 51, 3) := by decide +kernel
theorem dX4_init_81 : decode cX4_init 81 = .ok (.aload_n 0, 1) := by decide +kernel
theorem dX4_init_82 : decode cX4_init 82 = .ok (.iconst 0, 1) := by decide +kernel
theorem dX4_init_83 : decode cX4_init 83 = .ok (.putfield 55, 3) := by decide +kernel
theorem dX4_init_86 : decode cX4_init 86 = .ok (.iconst 0, 1) := by decide +kernel
theorem dX4_init_87 : decode cX4_init 87 = .ok (.istore_n 1, 1) := by decide +kernel
theorem dX4_init_88 : decode cX4_init 88 = .ok (.iload_n 1, 1) := by decide +kernel
theorem dX4_init_89 : decode cX4_init 89 = .ok (.bipush 8, 2) := by decide +kernel
theorem dX4_init_91 : decode cX4_init 91 = .ok (.if_icmp .ge 22, 3) := by decide +kernel
theorem dX4_init_94 : decode cX4_init 94 = .ok (.aload_n 0, 1) := by decide +kernel
theorem dX4_init_95 : decode cX4_init 95 = .ok (.getfield 27, 3) := by decide +kernel
theorem dX4_init_98 : decode cX4_init 98 = .ok (.iload_n 1, 1) := by decide +kernel
theorem dX4_init_99 : decode cX4_init 99 = .ok (.new 20, 3) := by decide +kernel
theorem dX4_init_102 : decode cX4_init 102 = .ok (.dup, 1) := by decide +kernel
theorem dX4_init_103 : decode cX4_init 103 = .ok (.invokespecial 22, 3) := by decide +kernel
theorem dX4_init_106 : decode cX4_init 106 = .ok (.aastore, 1) := by decide +kernel
theorem dX4_init_107 : decode cX4_init 107 = .ok (.iinc 1 1, 3) := by decide +kernel
theorem dX4_init_110 : decode cX4_init 110 = .ok (.goto (-22), 3) := by decide +kernel
theorem dX4_init_113 : decode cX4_init 113 = .ok (.return_, 1) := by decide +kernel
theorem dX4_append_0 : decode cX4_append 0 = .ok (.aload_n 0, 1) := by decide +kernel
theorem dX4_append_1 : decode cX4_append 1 = .ok (.getfield 13, 3) := by decide +kernel
theorem dX4_append_4 : decode cX4_append 4 = .ok (.bipush 20, 2) := by decide +kernel
theorem dX4_append_6 : decode cX4_append 6 = .ok (.iadd, 1) := by decide +kernel
theorem dX4_append_7 : decode cX4_append 7 = .ok (.sipush 400, 3) := by decide +kernel
theorem dX4_append_10 : decode cX4_append 10 = .ok (.if_icmp .le 5, 3) := by decide +kernel
theorem dX4_append_13 : decode cX4_append 13 = .ok (.iconst (-1), 1) := by decide +kernel
theorem dX4_append_14 : decode cX4_append 14 = .ok (.ireturn, 1) := by decide +kernel
theorem dX4_append_15 : decode cX4_append 15 = .ok (.aload_n 0, 1) := by decide +kernel
theorem dX4_append_16 : decode cX4_append 16 = .ok (.iload_n 1, 1) := by decide +kernel
theorem dX4_append_17 : decode cX4_append 17 = .ok (.invokevirtual 59, 3) := by decide +kernel
theorem dX4_append_20 : decode cX4_append 20 = .ok (.aload_n 0, 1) := by decide +kernel
theorem dX4_append_21 : decode cX4_append 21 = .ok (.iload_n 2, 1) := by decide +kernel
theorem dX4_append_22 : decode cX4_append 22 = .ok (.invokevirtual 59, 3) := by decide +kernel
theorem dX4_append_25 : decode cX4_append 25 = .ok (.aload_n 0, 1) := by decide +kernel
theorem dX4_append_26 : decode cX4_append 26 = .ok (.iload_n 3, 1) := by decide +kernel
theorem dX4_append_27 : decode cX4_append 27 = .ok (.invokevirtual 59, 3) := by decide +kernel
theorem dX4_append_30 : decode cX4_append 30 = .ok (.aload_n 0, 1) := by decide +kernel
theorem dX4_append_31 : decode cX4_append 31 = .ok (.iload 4, 2) := by decide +kernel
theorem dX4_append_33 : decode cX4_append 33 = .ok (.invokevirtual 59, 3) := by decide +kernel
theorem dX4_append_36 : decode cX4_append 36 = .ok (.aload_n 0, 1) := by decide +kernel
theorem dX4_append_37 : decode cX4_append 37 = .ok (.iload 5, 2) := by decide +kernel
theorem dX4_append_39 : decode cX4_append 39 = .ok (.invokevirtual 59, 3) := by decide +kernel
theorem dX4_append_42 : decode cX4_append 42 = .ok (.aload_n 0, 1) := by decide +kernel
theorem dX4_append_43 : decode cX4_append 43 = .ok (.getfield 13, 3) := by decide +kernel
theorem dX4_append_46 : decode cX4_append 46 = .ok (.ireturn, 1) := by decide +kernel
theorem dX4_load_0 : decode cX4_load 0 = .ok (.iload_n 1, 1) := by decide +kernel
theorem dX4_load_1 : decode cX4_load 1 = .ok (.ifCond .lt 11, 3) := by decide +kernel
theorem dX4_load_4 : decode cX4_load 4 = .ok (.iload_n 1, 1) := by decide +kernel
theorem dX4_load_5 : decode cX4_load 5 = .ok (.aload_n 0, 1) := by decide +kernel
theorem dX4_load_6 : decode cX4_load 6 = .ok (.getfield 13, 3) := by decide +kernel
theorem dX4_load_9 : decode cX4_load 9 = .ok (.if_icmp .le 11, 3) := by decide +kernel
theorem dX4_load_12 : decode cX4_load 12 = .ok (.new 63, 3) := by decide +kernel
theorem dX4_load_15 : decode cX4_load 15 = .ok (.dup, 1) := by decide +kernel
theorem dX4_load_16 : decode cX4_load 16 = .ok (.invokespecial 65, 3) := by decide +kernel
theorem dX4_load_19 : decode cX4_load 19 = .ok (.athrow, 1) := by decide +kernel
theorem dX4_load_20 : decode cX4_load 20 = .ok (.aload_n 0, 1) := by decide +kernel
theorem dX4_load_21 : decode cX4_load 21 = .ok (.getfield 37, 3) := by decide +kernel
theorem dX4_load_24 : decode cX4_load 24 = .ok (.aload_n 0, 1) := by decide +kernel
theorem dX4_load_25 : decode cX4_load 25 = .ok (.getfield 9, 3) := by decide +kernel
theorem dX4_load_28 : decode cX4_load 28 = .ok (.iload_n 1, 1) := by decide +kernel
theorem dX4_load_29 : decode cX4_load 29 = .ok (.invokevirtual 66, 3) := by decide +kernel
theorem dX4_load_32 : decode cX4_load 32 = .ok (.istore_n 2, 1) := by decide +kernel
theorem dX4_load_33 : decode cX4_load 33 = .ok (.aload_n 0, 1) := by decide +kernel
theorem dX4_load_34 : decode cX4_load 34 = .ok (.iconst 0, 1) := by decide +kernel
theorem dX4_load_35 : decode cX4_load 35 = .ok (.putfield 13, 3) := by decide +kernel
theorem dX4_load_38 : decode cX4_load 38 = .ok (.aload_n 0, 1) := by decide +kernel
theorem dX4_load_39 : decode cX4_load 39 = .ok (.aload_n 0, 1) := by decide +kernel
theorem dX4_load_40 : decode cX4_load 40 = .ok (.getfield 37, 3) := by decide +kernel
theorem dX4_load_43 : decode cX4_load 43 = .ok (.getfield 70, 3) := by decide +kernel
theorem dX4_load_46 : decode cX4_load 46 = .ok (.putfield 17, 3) := by decide +kernel
theorem dX4_load_49 : decode cX4_load 49 = .ok (.iload_n 2, 1) := by decide +kernel
theorem dX4_load_50 : decode cX4_load 50 = .ok (.ifCond .ge 5, 3) := by decide +kernel
theorem dX4_load_53 : decode cX4_load 53 = .ok (.iload_n 2, 1) := by decide +kernel
theorem dX4_load_54 : decode cX4_load 54 = .ok (.ireturn, 1) := by decide +kernel
theorem dX4_load_55 : decode cX4_load 55 = .ok (.aload_n 0, 1) := by decide +kernel
theorem dX4_load_56 : decode cX4_load 56 = .ok (.invokevirtual 73, 3) := by decide +kernel
theorem dX4_load_59 : decode cX4_load 59 = .ok (.aload_n 0, 1) := by decide +kernel
theorem dX4_load_60 : decode cX4_load 60 = .ok (.getfield 23, 3) := by decide +kernel
theorem dX4_load_63 : decode cX4_load 63 = .ok (.aload_n 0, 1) := by decide +kernel
theorem dX4_load_64 : decode cX4_load 64 = .ok (.getfield 37, 3) := by decide +kernel
theorem dX4_load_67 : decode cX4_load 67 = .ok (.getfield 76, 3) := by decide +kernel
theorem dX4_load_70 : decode cX4_load 70 = .ok (.invokevirtual 79, 3) := by decide +kernel
theorem dX4_load_73 : decode cX4_load 73 = .ok (.aload_n 0, 1) := by decide +kernel
theorem dX4_load_74 : decode cX4_load 74 = .ok (.getfield 23, 3) := by decide +kernel
theorem dX4_load_77 : decode cX4_load 77 = .ok (.invokevirtual 83, 3) := by decide +kernel
theorem dX4_load_80 : decode cX4_load 80 = .ok (.ireturn, 1) := by decide +kernel
theorem dX4_errorOffset_0 : decode cX4_errorOffset 0 = .ok (.aload_n 0, 1) := by decide +kernel
theorem dX4_errorOffset_1 : decode cX4_errorOffset 1 = .ok (.getfield 17, 3) := by decide +kernel
theorem dX4_errorOffset_4 : decode cX4_errorOffset 4 = .ok (.ireturn, 1) := by decide +kernel
theorem dX4_state_0 : decode cX4_state 0 = .ok (.iload_n 1, 1) := by decide +kernel
theorem dX4_state_1 : decode cX4_state 1 = .ok (.tableswitch 111 0 7 #[47, 55, 63, 71, 79, 87, 95, 103], 47) := by decide +kernel
theorem dX4_state_48 : decode cX4_state 48 = .ok (.aload_n 0, 1) := by decide +kernel
theorem dX4_state_49 : decode cX4_state 49 = .ok (.getfield 23, 3) := by decide +kernel
theorem dX4_state_52 : decode cX4_state 52 = .ok (.getfield 87, 3) := by decide +kernel
theorem dX4_state_55 : decode cX4_state 55 = .ok (.ireturn, 1) := by decide +kernel
theorem dX4_state_56 : decode cX4_state 56 = .ok (.aload_n 0, 1) := by decide +kernel
theorem dX4_state_57 : decode cX4_state 57 = .ok (.getfield 23, 3) := by decide +kernel
theorem dX4_state_60 : decode cX4_state 60 = .ok (.getfield 90, 3) := by decide +kernel
theorem dX4_state_63 : decode cX4_state 63 = .ok (.ireturn, 1) := by decide +kernel
theorem dX4_state_64 : decode cX4_state 64 = .ok (.aload_n 0, 1) := by decide +kernel
theorem dX4_state_65 : decode cX4_state 65 = .ok (.getfield 23, 3) := by decide +kernel
theorem dX4_state_68 : decode cX4_state 68 = .ok (.getfield 93, 3) := by decide +kernel
theorem dX4_state_71 : decode cX4_state 71 = .ok (.ireturn, 1) := by decide +kernel
theorem dX4_state_72 : decode cX4_state 72 = .ok (.aload_n 0, 1) := by decide +kernel
theorem dX4_state_73 : decode cX4_state 73 = .ok (.getfield 23, 3) := by decide +kernel
theorem dX4_state_76 : decode cX4_state 76 = .ok (.invokevirtual 96, 3) := by decide +kernel
theorem dX4_state_79 : decode cX4_state 79 = .ok (.ireturn, 1) := by decide +kernel
theorem dX4_state_80 : decode cX4_state 80 = .ok (.aload_n 0, 1) := by decide +kernel
theorem dX4_state_81 : decode cX4_state 81 = .ok (.getfield 23, 3) := by decide +kernel
theorem dX4_state_84 : decode cX4_state 84 = .ok (.getfield 99, 3) := by decide +kernel
theorem dX4_state_87 : decode cX4_state 87 = .ok (.ireturn, 1) := by decide +kernel
theorem dX4_state_88 : decode cX4_state 88 = .ok (.aload_n 0, 1) := by decide +kernel
theorem dX4_state_89 : decode cX4_state 89 = .ok (.getfield 23, 3) := by decide +kernel
theorem dX4_state_92 : decode cX4_state 92 = .ok (.getfield 102, 3) := by decide +kernel
theorem dX4_state_95 : decode cX4_state 95 = .ok (.ireturn, 1) := by decide +kernel
theorem dX4_state_96 : decode cX4_state 96 = .ok (.aload_n 0, 1) := by decide +kernel
theorem dX4_state_97 : decode cX4_state 97 = .ok (.getfield 23, 3) := by decide +kernel
theorem dX4_state_100 : decode cX4_state 100 = .ok (.getfield 105, 3) := by decide +kernel
theorem dX4_state_103 : decode cX4_state 103 = .ok (.ireturn, 1) := by decide +kernel
theorem dX4_state_104 : decode cX4_state 104 = .ok (.aload_n 0, 1) := by decide +kernel
theorem dX4_state_105 : decode cX4_state 105 = .ok (.getfield 23, 3) := by decide +kernel
theorem dX4_state_108 : decode cX4_state 108 = .ok (.invokevirtual 108, 3) := by decide +kernel
theorem dX4_state_111 : decode cX4_state 111 = .ok (.ireturn, 1) := by decide +kernel
theorem dX4_state_112 : decode cX4_state 112 = .ok (.new 63, 3) := by decide +kernel
theorem dX4_state_115 : decode cX4_state 115 = .ok (.dup, 1) := by decide +kernel
theorem dX4_state_116 : decode cX4_state 116 = .ok (.invokespecial 65, 3) := by decide +kernel
theorem dX4_state_119 : decode cX4_state 119 = .ok (.athrow, 1) := by decide +kernel
theorem dX4_letter_0 : decode cX4_letter 0 = .ok (.aload_n 0, 1) := by decide +kernel
theorem dX4_letter_1 : decode cX4_letter 1 = .ok (.getfield 23, 3) := by decide +kernel
theorem dX4_letter_4 : decode cX4_letter 4 = .ok (.iload_n 1, 1) := by decide +kernel
theorem dX4_letter_5 : decode cX4_letter 5 = .ok (.iload_n 2, 1) := by decide +kernel
theorem dX4_letter_6 : decode cX4_letter 6 = .ok (.invokevirtual 111, 3) := by decide +kernel
theorem dX4_letter_9 : decode cX4_letter 9 = .ok (.ifCond .ne 11, 3) := by decide +kernel
theorem dX4_letter_12 : decode cX4_letter 12 = .ok (.new 115, 3) := by decide +kernel
theorem dX4_letter_15 : decode cX4_letter 15 = .ok (.dup, 1) := by decide +kernel
theorem dX4_letter_16 : decode cX4_letter 16 = .ok (.invokespecial 117, 3) := by decide +kernel
theorem dX4_letter_19 : decode cX4_letter 19 = .ok (.athrow, 1) := by decide +kernel
theorem dX4_letter_20 : decode cX4_letter 20 = .ok (.aload_n 0, 1) := by decide +kernel
theorem dX4_letter_21 : decode cX4_letter 21 = .ok (.aload_n 0, 1) := by decide +kernel
theorem dX4_letter_22 : decode cX4_letter 22 = .ok (.getfield 23, 3) := by decide +kernel
theorem dX4_letter_25 : decode cX4_letter 25 = .ok (.iload_n 1, 1) := by decide +kernel
theorem dX4_letter_26 : decode cX4_letter 26 = .ok (.iload_n 2, 1) := by decide +kernel
theorem dX4_letter_27 : decode cX4_letter 27 = .ok (.invokevirtual 118, 3) := by decide +kernel
theorem dX4_letter_30 : decode cX4_letter 30 = .ok (.invokevirtual 122, 3) := by decide +kernel
theorem dX4_letter_33 : decode cX4_letter 33 = .ok (.ireturn, 1) := by decide +kernel
theorem dX4_place_0 : decode cX4_place 0 = .ok (.aload_n 0, 1) := by decide +kernel
theorem dX4_place_1 : decode cX4_place 1 = .ok (.getfield 23, 3) := by decide +kernel
theorem dX4_place_4 : decode cX4_place 4 = .ok (.iload_n 1, 1) := by decide +kernel
theorem dX4_place_5 : decode cX4_place 5 = .ok (.iload_n 2, 1) := by decide +kernel
theorem dX4_place_6 : decode cX4_place 6 = .ok (.invokevirtual 111, 3) := by decide +kernel
theorem dX4_place_9 : decode cX4_place 9 = .ok (.ifCond .ne 11, 3) := by decide +kernel
theorem dX4_place_12 : decode cX4_place 12 = .ok (.new 115, 3) := by decide +kernel
theorem dX4_place_15 : decode cX4_place 15 = .ok (.dup, 1) := by decide +kernel
theorem dX4_place_16 : decode cX4_place 16 = .ok (.invokespecial 117, 3) := by decide +kernel
theorem dX4_place_19 : decode cX4_place 19 = .ok (.athrow, 1) := by decide +kernel
theorem dX4_place_20 : decode cX4_place 20 = .ok (.aload_n 0, 1) := by decide +kernel
theorem dX4_place_21 : decode cX4_place 21 = .ok (.getfield 23, 3) := by decide +kernel
theorem dX4_place_24 : decode cX4_place 24 = .ok (.iload_n 1, 1) := by decide +kernel
theorem dX4_place_25 : decode cX4_place 25 = .ok (.iload_n 2, 1) := by decide +kernel
theorem dX4_place_26 : decode cX4_place 26 = .ok (.invokevirtual 118, 3) := by decide +kernel
theorem dX4_place_29 : decode cX4_place 29 = .ok (.istore 4, 2) := by decide +kernel
theorem dX4_place_31 : decode cX4_place 31 = .ok (.iload_n 3, 1) := by decide +kernel
theorem dX4_place_32 : decode cX4_place 32 = .ok (.tableswitch 115 0 4 #[36, 53, 63, 80, 98], 36) := by decide +kernel
theorem dX4_place_68 : decode cX4_place 68 = .ok (.aload_n 0, 1) := by decide +kernel
theorem dX4_place_69 : decode cX4_place 69 = .ok (.getfield 23, 3) := by decide +kernel
theorem dX4_place_72 : decode cX4_place 72 = .ok (.aload_n 0, 1) := by decide +kernel
theorem dX4_place_73 : decode cX4_place 73 = .ok (.getfield 23, 3) := by decide +kernel
theorem dX4_place_76 : decode cX4_place 76 = .ok (.iload 4, 2) := by decide +kernel
theorem dX4_place_78 : decode cX4_place 78 = .ok (.invokevirtual 126, 3) := by decide +kernel
theorem dX4_place_81 : decode cX4_place 81 = .ok (.invokevirtual 129, 3) := by decide +kernel
theorem dX4_place_84 : decode cX4_place 84 = .ok (.ireturn, 1) := by decide +kernel
theorem dX4_place_85 : decode cX4_place 85 = .ok (.aload_n 0, 1) := by decide +kernel
theorem dX4_place_86 : decode cX4_place 86 = .ok (.getfield 23, 3) := by decide +kernel
theorem dX4_place_89 : decode cX4_place 89 = .ok (.iload 4, 2) := by decide +kernel
theorem dX4_place_91 : decode cX4_place 91 = .ok (.invokevirtual 132, 3) := by decide +kernel
theorem dX4_place_94 : decode cX4_place 94 = .ok (.ireturn, 1) := by decide +kernel
theorem dX4_place_95 : decode cX4_place 95 = .ok (.aload_n 0, 1) := by decide +kernel
theorem dX4_place_96 : decode cX4_place 96 = .ok (.getfield 23, 3) := by decide +kernel
theorem dX4_place_99 : decode cX4_place 99 = .ok (.aload_n 0, 1) := by decide +kernel
theorem dX4_place_100 : decode cX4_place 100 = .ok (.getfield 23, 3) := by decide +kernel
theorem dX4_place_103 : decode cX4_place 103 = .ok (.iload 4, 2) := by decide +kernel
theorem dX4_place_105 : decode cX4_place 105 = .ok (.invokevirtual 135, 3) := by decide +kernel
theorem dX4_place_108 : decode cX4_place 108 = .ok (.invokevirtual 129, 3) := by decide +kernel
theorem dX4_place_111 : decode cX4_place 111 = .ok (.ireturn, 1) := by decide +kernel
theorem dX4_place_112 : decode cX4_place 112 = .ok (.aload_n 0, 1) := by decide +kernel
theorem dX4_place_113 : decode cX4_place 113 = .ok (.getfield 23, 3) := by decide +kernel
theorem dX4_place_116 : decode cX4_place 116 = .ok (.iload 4, 2) := by decide +kernel
theorem dX4_place_118 : decode cX4_place 118 = .ok (.invokevirtual 138, 3) := by decide +kernel
theorem dX4_place_121 : decode cX4_place 121 = .ok (.ifCond .eq 7, 3) := by decide +kernel
theorem dX4_place_124 : decode cX4_place 124 = .ok (.iconst 1, 1) := by decide +kernel
theorem dX4_place_125 : decode cX4_place 125 = .ok (.goto 4, 3) := by decide +kernel
theorem dX4_place_128 : decode cX4_place 128 = .ok (.iconst 0, 1) := by decide +kernel
theorem dX4_place_129 : decode cX4_place 129 = .ok (.ireturn, 1) := by decide +kernel
theorem dX4_place_130 : decode cX4_place 130 = .ok (.aload_n 0, 1) := by decide +kernel
theorem dX4_place_131 : decode cX4_place 131 = .ok (.getfield 23, 3) := by decide +kernel
theorem dX4_place_134 : decode cX4_place 134 = .ok (.aload_n 0, 1) := by decide +kernel
theorem dX4_place_135 : decode cX4_place 135 = .ok (.getfield 23, 3) := by decide +kernel
theorem dX4_place_138 : decode cX4_place 138 = .ok (.iload 4, 2) := by decide +kernel
theorem dX4_place_140 : decode cX4_place 140 = .ok (.invokevirtual 142, 3) := by decide +kernel
theorem dX4_place_143 : decode cX4_place 143 = .ok (.invokevirtual 145, 3) := by decide +kernel
theorem dX4_place_146 : decode cX4_place 146 = .ok (.ireturn, 1) := by decide +kernel
theorem dX4_place_147 : decode cX4_place 147 = .ok (.new 63, 3) := by decide +kernel
theorem dX4_place_150 : decode cX4_place 150 = .ok (.dup, 1) := by decide +kernel
theorem dX4_place_151 : decode cX4_place 151 = .ok (.invokespecial 65, 3) := by decide +kernel
theorem dX4_place_154 : decode cX4_place 154 = .ok (.athrow, 1) := by decide +kernel
theorem dX4_stock_0 : decode cX4_stock 0 = .ok (.iload_n 1, 1) := by decide +kernel
theorem dX4_stock_1 : decode cX4_stock 1 = .ok (.ifCond .lt 9, 3) := by decide +kernel
theorem dX4_stock_4 : decode cX4_stock 4 = .ok (.iload_n 1, 1) := by decide +kernel
theorem dX4_stock_5 : decode cX4_stock 5 = .ok (.bipush 26, 2) := by decide +kernel
theorem dX4_stock_7 : decode cX4_stock 7 = .ok (.if_icmp .lt 11, 3) := by decide +kernel
theorem dX4_stock_10 : decode cX4_stock 10 = .ok (.new 63, 3) := by decide +kernel
theorem dX4_stock_13 : decode cX4_stock 13 = .ok (.dup, 1) := by decide +kernel
theorem dX4_stock_14 : decode cX4_stock 14 = .ok (.invokespecial 65, 3) := by decide +kernel
theorem dX4_stock_17 : decode cX4_stock 17 = .ok (.athrow, 1) := by decide +kernel
theorem dX4_stock_18 : decode cX4_stock 18 = .ok (.iload_n 2, 1) := by decide +kernel
theorem dX4_stock_19 : decode cX4_stock 19 = .ok (.tableswitch 55 0 2 #[25, 34, 46], 25) := by decide +kernel
theorem dX4_stock_44 : decode cX4_stock 44 = .ok (.aload_n 0, 1) := by decide +kernel
theorem dX4_stock_45 : decode cX4_stock 45 = .ok (.getfield 23, 3) := by decide +kernel
theorem dX4_stock_48 : decode cX4_stock 48 = .ok (.iload_n 1, 1) := by decide +kernel
theorem dX4_stock_49 : decode cX4_stock 49 = .ok (.invokevirtual 148, 3) := by decide +kernel
theorem dX4_stock_52 : decode cX4_stock 52 = .ok (.ireturn, 1) := by decide +kernel
theorem dX4_stock_53 : decode cX4_stock 53 = .ok (.aload_n 0, 1) := by decide +kernel
theorem dX4_stock_54 : decode cX4_stock 54 = .ok (.getfield 23, 3) := by decide +kernel
theorem dX4_stock_57 : decode cX4_stock 57 = .ok (.iload_n 1, 1) := by decide +kernel
theorem dX4_stock_58 : decode cX4_stock 58 = .ok (.invokevirtual 151, 3) := by decide +kernel
theorem dX4_stock_61 : decode cX4_stock 61 = .ok (.invokestatic 155, 3) := by decide +kernel
theorem dX4_stock_64 : decode cX4_stock 64 = .ok (.ireturn, 1) := by decide +kernel
theorem dX4_stock_65 : decode cX4_stock 65 = .ok (.aload_n 0, 1) := by decide +kernel
theorem dX4_stock_66 : decode cX4_stock 66 = .ok (.getfield 23, 3) := by decide +kernel
theorem dX4_stock_69 : decode cX4_stock 69 = .ok (.iload_n 1, 1) := by decide +kernel
theorem dX4_stock_70 : decode cX4_stock 70 = .ok (.invokevirtual 145, 3) := by decide +kernel
theorem dX4_stock_73 : decode cX4_stock 73 = .ok (.ireturn, 1) := by decide +kernel
theorem dX4_stock_74 : decode cX4_stock 74 = .ok (.new 63, 3) := by decide +kernel
theorem dX4_stock_77 : decode cX4_stock 77 = .ok (.dup, 1) := by decide +kernel
theorem dX4_stock_78 : decode cX4_stock 78 = .ok (.invokespecial 65, 3) := by decide +kernel
theorem dX4_stock_81 : decode cX4_stock 81 = .ok (.athrow, 1) := by decide +kernel
theorem dX4_message_0 : decode cX4_message 0 = .ok (.aload_n 0, 1) := by decide +kernel
theorem dX4_message_1 : decode cX4_message 1 = .ok (.getfield 23, 3) := by decide +kernel
theorem dX4_message_4 : decode cX4_message 4 = .ok (.iload_n 1, 1) := by decide +kernel
theorem dX4_message_5 : decode cX4_message 5 = .ok (.invokevirtual 161, 3) := by decide +kernel
theorem dX4_message_8 : decode cX4_message 8 = .ok (.ifCond .ne 11, 3) := by decide +kernel
theorem dX4_message_11 : decode cX4_message 11 = .ok (.new 164, 3) := by decide +kernel
theorem dX4_message_14 : decode cX4_message 14 = .ok (.dup, 1) := by decide +kernel
theorem dX4_message_15 : decode cX4_message 15 = .ok (.invokespecial 166, 3) := by decide +kernel
theorem dX4_message_18 : decode cX4_message 18 = .ok (.athrow, 1) := by decide +kernel
theorem dX4_message_19 : decode cX4_message 19 = .ok (.aload_n 0, 1) := by decide +kernel
theorem dX4_message_20 : decode cX4_message 20 = .ok (.getfield 23, 3) := by decide +kernel
theorem dX4_message_23 : decode cX4_message 23 = .ok (.iload_n 1, 1) := by decide +kernel
theorem dX4_message_24 : decode cX4_message 24 = .ok (.invokevirtual 167, 3) := by decide +kernel
theorem dX4_message_27 : decode cX4_message 27 = .ok (.ireturn, 1) := by decide +kernel
theorem dX4_missing_0 : decode cX4_missing 0 = .ok (.iconst 0, 1) := by decide +kernel
theorem dX4_missing_1 : decode cX4_missing 1 = .ok (.istore_n 1, 1) := by decide +kernel
theorem dX4_missing_2 : decode cX4_missing 2 = .ok (.aload_n 0, 1) := by decide +kernel
theorem dX4_missing_3 : decode cX4_missing 3 = .ok (.getfield 44, 3) := by decide +kernel
theorem dX4_missing_6 : decode cX4_missing 6 = .ok (.invokevirtual 170, 3) := by decide +kernel
theorem dX4_missing_9 : decode cX4_missing 9 = .ok (.iconst 0, 1) := by decide +kernel
theorem dX4_missing_10 : decode cX4_missing 10 = .ok (.istore_n 2, 1) := by decide +kernel
theorem dX4_missing_11 : decode cX4_missing 11 = .ok (.iload_n 2, 1) := by decide +kernel
theorem dX4_missing_12 : decode cX4_missing 12 = .ok (.aload_n 0, 1) := by decide +kernel
theorem dX4_missing_13 : decode cX4_missing 13 = .ok (.getfield 23, 3) := by decide +kernel
theorem dX4_missing_16 : decode cX4_missing 16 = .ok (.getfield 99, 3) := by decide +kernel
theorem dX4_missing_19 : decode cX4_missing 19 = .ok (.if_icmp .ge 37, 3) := by decide +kernel
theorem dX4_missing_22 : decode cX4_missing 22 = .ok (.aload_n 0, 1) := by decide +kernel
theorem dX4_missing_23 : decode cX4_missing 23 = .ok (.getfield 44, 3) := by decide +kernel
theorem dX4_missing_26 : decode cX4_missing 26 = .ok (.aload_n 0, 1) := by decide +kernel
theorem dX4_missing_27 : decode cX4_missing 27 = .ok (.getfield 23, 3) := by decide +kernel
theorem dX4_missing_30 : decode cX4_missing 30 = .ok (.aload_n 0, 1) := by decide +kernel
theorem dX4_missing_31 : decode cX4_missing 31 = .ok (.getfield 23, 3) := by decide +kernel
theorem dX4_missing_34 : decode cX4_missing 34 = .ok (.iload_n 2, 1) := by decide +kernel
theorem dX4_missing_35 : decode cX4_missing 35 = .ok (.invokevirtual 167, 3) := by decide +kernel
theorem dX4_missing_38 : decode cX4_missing 38 = .ok (.invokevirtual 151, 3) := by decide +kernel
theorem dX4_missing_41 : decode cX4_missing 41 = .ok (.invokevirtual 173, 3) := by decide +kernel
theorem dX4_missing_44 : decode cX4_missing 44 = .ok (.ifCond .ne 6, 3) := by decide +kernel
theorem dX4_missing_47 : decode cX4_missing 47 = .ok (.iinc 1 1, 3) := by decide +kernel
theorem dX4_missing_50 : decode cX4_missing 50 = .ok (.iinc 2 1, 3) := by decide +kernel
theorem dX4_missing_53 : decode cX4_missing 53 = .ok (.goto (-42), 3) := by decide +kernel
theorem dX4_missing_56 : decode cX4_missing 56 = .ok (.iload_n 1, 1) := by decide +kernel
theorem dX4_missing_57 : decode cX4_missing 57 = .ok (.ireturn, 1) := by decide +kernel
theorem dX4_cutOf_0 : decode cX4_cutOf 0 = .ok (.iload_n 1, 1) := by decide +kernel
theorem dX4_cutOf_1 : decode cX4_cutOf 1 = .ok (.ifCond .lt 11, 3) := by decide +kernel
theorem dX4_cutOf_4 : decode cX4_cutOf 4 = .ok (.iload_n 1, 1) := by decide +kernel
theorem dX4_cutOf_5 : decode cX4_cutOf 5 = .ok (.aload_n 0, 1) := by decide +kernel
theorem dX4_cutOf_6 : decode cX4_cutOf 6 = .ok (.invokevirtual 177, 3) := by decide +kernel
theorem dX4_cutOf_9 : decode cX4_cutOf 9 = .ok (.if_icmp .lt 11, 3) := by decide +kernel
theorem dX4_cutOf_12 : decode cX4_cutOf 12 = .ok (.new 164, 3) := by decide +kernel
theorem dX4_cutOf_15 : decode cX4_cutOf 15 = .ok (.dup, 1) := by decide +kernel
theorem dX4_cutOf_16 : decode cX4_cutOf 16 = .ok (.invokespecial 166, 3) := by decide +kernel
theorem dX4_cutOf_19 : decode cX4_cutOf 19 = .ok (.athrow, 1) := by decide +kernel
theorem dX4_cutOf_20 : decode cX4_cutOf 20 = .ok (.iload_n 2, 1) := by decide +kernel
theorem dX4_cutOf_21 : decode cX4_cutOf 21 = .ok (.tableswitch 74 0 3 #[31, 40, 52, 68], 31) := by decide +kernel
theorem dX4_cutOf_52 : decode cX4_cutOf 52 = .ok (.aload_n 0, 1) := by decide +kernel
theorem dX4_cutOf_53 : decode cX4_cutOf 53 = .ok (.getfield 51, 3) := by decide +kernel
theorem dX4_cutOf_56 : decode cX4_cutOf 56 = .ok (.iload_n 1, 1) := by decide +kernel
theorem dX4_cutOf_57 : decode cX4_cutOf 57 = .ok (.invokevirtual 180, 3) := by decide +kernel
theorem dX4_cutOf_60 : decode cX4_cutOf 60 = .ok (.ireturn, 1) := by decide +kernel
theorem dX4_cutOf_61 : decode cX4_cutOf 61 = .ok (.aload_n 0, 1) := by decide +kernel
theorem dX4_cutOf_62 : decode cX4_cutOf 62 = .ok (.getfield 51, 3) := by decide +kernel
theorem dX4_cutOf_65 : decode cX4_cutOf 65 = .ok (.iload_n 1, 1) := by decide +kernel
theorem dX4_cutOf_66 : decode cX4_cutOf 66 = .ok (.invokevirtual 183, 3) := by decide +kernel
theorem dX4_cutOf_69 : decode cX4_cutOf 69 = .ok (.invokestatic 186, 3) := by decide +kernel
theorem dX4_cutOf_72 : decode cX4_cutOf 72 = .ok (.ireturn, 1) := by decide +kernel
theorem dX4_cutOf_73 : decode cX4_cutOf 73 = .ok (.aload_n 0, 1) := by decide +kernel
theorem dX4_cutOf_74 : decode cX4_cutOf 74 = .ok (.getfield 23, 3) := by decide +kernel
theorem dX4_cutOf_77 : decode cX4_cutOf 77 = .ok (.aload_n 0, 1) := by decide +kernel
theorem dX4_cutOf_78 : decode cX4_cutOf 78 = .ok (.getfield 51, 3) := by decide +kernel
theorem dX4_cutOf_81 : decode cX4_cutOf 81 = .ok (.iload_n 1, 1) := by decide +kernel
theorem dX4_cutOf_82 : decode cX4_cutOf 82 = .ok (.invokevirtual 183, 3) := by decide +kernel
theorem dX4_cutOf_85 : decode cX4_cutOf 85 = .ok (.invokevirtual 129, 3) := by decide +kernel
theorem dX4_cutOf_88 : decode cX4_cutOf 88 = .ok (.ireturn, 1) := by decide +kernel
theorem dX4_cutOf_89 : decode cX4_cutOf 89 = .ok (.aload_n 0, 1) := by decide +kernel
theorem dX4_cutOf_90 : decode cX4_cutOf 90 = .ok (.iload_n 1, 1) := by decide +kernel
theorem dX4_cutOf_91 : decode cX4_cutOf 91 = .ok (.invokevirtual 189, 3) := by decide +kernel
theorem dX4_cutOf_94 : decode cX4_cutOf 94 = .ok (.ireturn, 1) := by decide +kernel
theorem dX4_cutOf_95 : decode cX4_cutOf 95 = .ok (.new 63, 3) := by decide +kernel
theorem dX4_cutOf_98 : decode cX4_cutOf 98 = .ok (.dup, 1) := by decide +kernel
theorem dX4_cutOf_99 : decode cX4_cutOf 99 = .ok (.invokespecial 65, 3) := by decide +kernel
theorem dX4_cutOf_102 : decode cX4_cutOf 102 = .ok (.athrow, 1) := by decide +kernel
theorem dX4_longest_0 : decode cX4_longest 0 = .ok (.aload_n 0, 1) := by decide +kernel
theorem dX4_longest_1 : decode cX4_longest 1 = .ok (.getfield 23, 3) := by decide +kernel
theorem dX4_longest_4 : decode cX4_longest 4 = .ok (.iload_n 1, 1) := by decide +kernel
theorem dX4_longest_5 : decode cX4_longest 5 = .ok (.invokevirtual 161, 3) := by decide +kernel
theorem dX4_longest_8 : decode cX4_longest 8 = .ok (.ifCond .ne 11, 3) := by decide +kernel
theorem dX4_longest_11 : decode cX4_longest 11 = .ok (.new 164, 3) := by decide +kernel
theorem dX4_longest_14 : decode cX4_longest 14 = .ok (.dup, 1) := by decide +kernel
theorem dX4_longest_15 : decode cX4_longest 15 = .ok (.invokespecial 166, 3) := by decide +kernel
theorem dX4_longest_18 : decode cX4_longest 18 = .ok (.athrow, 1) := by decide +kernel
theorem dX4_longest_19 : decode cX4_longest 19 = .ok (.iconst 0, 1) := by decide +kernel
theorem dX4_longest_20 : decode cX4_longest 20 = .ok (.istore_n 2, 1) := by decide +kernel
theorem dX4_longest_21 : decode cX4_longest 21 = .ok (.iconst 0, 1) := by decide +kernel
theorem dX4_longest_22 : decode cX4_longest 22 = .ok (.istore_n 3, 1) := by decide +kernel
theorem dX4_longest_23 : decode cX4_longest 23 = .ok (.iload_n 3, 1) := by decide +kernel
theorem dX4_longest_24 : decode cX4_longest 24 = .ok (.bipush 96, 2) := by decide +kernel
theorem dX4_longest_26 : decode cX4_longest 26 = .ok (.if_icmp .ge 23, 3) := by decide +kernel
theorem dX4_longest_29 : decode cX4_longest 29 = .ok (.iload_n 2, 1) := by decide +kernel
theorem dX4_longest_30 : decode cX4_longest 30 = .ok (.aload_n 0, 1) := by decide +kernel
theorem dX4_longest_31 : decode cX4_longest 31 = .ok (.getfield 23, 3) := by decide +kernel
theorem dX4_longest_34 : decode cX4_longest 34 = .ok (.iload_n 3, 1) := by decide +kernel
theorem dX4_longest_35 : decode cX4_longest 35 = .ok (.iload_n 1, 1) := by decide +kernel
theorem dX4_longest_36 : decode cX4_longest 36 = .ok (.invokevirtual 207, 3) := by decide +kernel
theorem dX4_longest_39 : decode cX4_longest 39 = .ok (.invokestatic 210, 3) := by decide +kernel
theorem dX4_longest_42 : decode cX4_longest 42 = .ok (.istore_n 2, 1) := by decide +kernel
theorem dX4_longest_43 : decode cX4_longest 43 = .ok (.iinc 3 1, 3) := by decide +kernel
theorem dX4_longest_46 : decode cX4_longest 46 = .ok (.goto (-23), 3) := by decide +kernel
theorem dX4_longest_49 : decode cX4_longest 49 = .ok (.iload_n 2, 1) := by decide +kernel
theorem dX4_longest_50 : decode cX4_longest 50 = .ok (.ireturn, 1) := by decide +kernel
theorem dX4_clashes_0 : decode cX4_clashes 0 = .ok (.iconst 0, 1) := by decide +kernel
theorem dX4_clashes_1 : decode cX4_clashes 1 = .ok (.istore_n 1, 1) := by decide +kernel
theorem dX4_clashes_2 : decode cX4_clashes 2 = .ok (.iconst 0, 1) := by decide +kernel
theorem dX4_clashes_3 : decode cX4_clashes 3 = .ok (.istore_n 2, 1) := by decide +kernel
theorem dX4_clashes_4 : decode cX4_clashes 4 = .ok (.iload_n 2, 1) := by decide +kernel
theorem dX4_clashes_5 : decode cX4_clashes 5 = .ok (.bipush 48, 2) := by decide +kernel
theorem dX4_clashes_7 : decode cX4_clashes 7 = .ok (.if_icmp .ge 35, 3) := by decide +kernel
theorem dX4_clashes_10 : decode cX4_clashes 10 = .ok (.aload_n 0, 1) := by decide +kernel
theorem dX4_clashes_11 : decode cX4_clashes 11 = .ok (.iload_n 2, 1) := by decide +kernel
theorem dX4_clashes_12 : decode cX4_clashes 12 = .ok (.invokevirtual 213, 3) := by decide +kernel
theorem dX4_clashes_15 : decode cX4_clashes 15 = .ok (.ifCond .eq 21, 3) := by decide +kernel
theorem dX4_clashes_18 : decode cX4_clashes 18 = .ok (.aload_n 0, 1) := by decide +kernel
theorem dX4_clashes_19 : decode cX4_clashes 19 = .ok (.aload_n 0, 1) := by decide +kernel
theorem dX4_clashes_20 : decode cX4_clashes 20 = .ok (.getfield 23, 3) := by decide +kernel
theorem dX4_clashes_23 : decode cX4_clashes 23 = .ok (.iload_n 2, 1) := by decide +kernel
theorem dX4_clashes_24 : decode cX4_clashes 24 = .ok (.invokevirtual 135, 3) := by decide +kernel
theorem dX4_clashes_27 : decode cX4_clashes 27 = .ok (.invokevirtual 213, 3) := by decide +kernel
theorem dX4_clashes_30 : decode cX4_clashes 30 = .ok (.ifCond .eq 6, 3) := by decide +kernel
theorem dX4_clashes_33 : decode cX4_clashes 33 = .ok (.iinc 1 1, 3) := by decide +kernel
theorem dX4_clashes_36 : decode cX4_clashes 36 = .ok (.iinc 2 1, 3) := by decide +kernel
theorem dX4_clashes_39 : decode cX4_clashes 39 = .ok (.goto (-35), 3) := by decide +kernel
theorem dX4_clashes_42 : decode cX4_clashes 42 = .ok (.iload_n 1, 1) := by decide +kernel
theorem dX4_clashes_43 : decode cX4_clashes 43 = .ok (.ireturn, 1) := by decide +kernel
theorem dX4_tell_0 : decode cX4_tell 0 = .ok (.iload_n 1, 1) := by decide +kernel
theorem dX4_tell_1 : decode cX4_tell 1 = .ok (.iconst 1, 1) := by decide +kernel
theorem dX4_tell_2 : decode cX4_tell 2 = .ok (.if_icmp .lt 25, 3) := by decide +kernel
theorem dX4_tell_5 : decode cX4_tell 5 = .ok (.iload_n 1, 1) := by decide +kernel
theorem dX4_tell_6 : decode cX4_tell 6 = .ok (.bipush 24, 2) := by decide +kernel
theorem dX4_tell_8 : decode cX4_tell 8 = .ok (.if_icmp .gt 19, 3) := by decide +kernel
theorem dX4_tell_11 : decode cX4_tell 11 = .ok (.iload_n 1, 1) := by decide +kernel
theorem dX4_tell_12 : decode cX4_tell 12 = .ok (.aload_n 0, 1) := by decide +kernel
theorem dX4_tell_13 : decode cX4_tell 13 = .ok (.getfield 13, 3) := by decide +kernel
theorem dX4_tell_16 : decode cX4_tell 16 = .ok (.if_icmp .gt 11, 3) := by decide +kernel
theorem dX4_tell_19 : decode cX4_tell 19 = .ok (.aload_n 0, 1) := by decide +kernel
theorem dX4_tell_20 : decode cX4_tell 20 = .ok (.iload_n 1, 1) := by decide +kernel
theorem dX4_tell_21 : decode cX4_tell 21 = .ok (.invokevirtual 216, 3) := by decide +kernel
theorem dX4_tell_24 : decode cX4_tell 24 = .ok (.ifCond .ne 11, 3) := by decide +kernel
theorem dX4_tell_27 : decode cX4_tell 27 = .ok (.new 63, 3) := by decide +kernel
theorem dX4_tell_30 : decode cX4_tell 30 = .ok (.dup, 1) := by decide +kernel
theorem dX4_tell_31 : decode cX4_tell 31 = .ok (.invokespecial 65, 3) := by decide +kernel
theorem dX4_tell_34 : decode cX4_tell 34 = .ok (.athrow, 1) := by decide +kernel
theorem dX4_tell_35 : decode cX4_tell 35 = .ok (.aload_n 0, 1) := by decide +kernel
theorem dX4_tell_36 : decode cX4_tell 36 = .ok (.invokevirtual 73, 3) := by decide +kernel
theorem dX4_tell_39 : decode cX4_tell 39 = .ok (.iconst 0, 1) := by decide +kernel
theorem dX4_tell_40 : decode cX4_tell 40 = .ok (.istore_n 2, 1) := by decide +kernel
theorem dX4_tell_41 : decode cX4_tell 41 = .ok (.iload_n 2, 1) := by decide +kernel
theorem dX4_tell_42 : decode cX4_tell 42 = .ok (.iload_n 1, 1) := by decide +kernel
theorem dX4_tell_43 : decode cX4_tell 43 = .ok (.if_icmp .ge 27, 3) := by decide +kernel
theorem dX4_tell_46 : decode cX4_tell 46 = .ok (.aload_n 0, 1) := by decide +kernel
theorem dX4_tell_47 : decode cX4_tell 47 = .ok (.getfield 23, 3) := by decide +kernel
theorem dX4_tell_50 : decode cX4_tell 50 = .ok (.getfield 219, 3) := by decide +kernel
theorem dX4_tell_53 : decode cX4_tell 53 = .ok (.iload_n 2, 1) := by decide +kernel
theorem dX4_tell_54 : decode cX4_tell 54 = .ok (.aload_n 0, 1) := by decide +kernel
theorem dX4_tell_55 : decode cX4_tell 55 = .ok (.getfield 9, 3) := by decide +kernel
theorem dX4_tell_58 : decode cX4_tell 58 = .ok (.iload_n 2, 1) := by decide +kernel
theorem dX4_tell_59 : decode cX4_tell 59 = .ok (.baload, 1) := by decide +kernel
theorem dX4_tell_60 : decode cX4_tell 60 = .ok (.bipush 97, 2) := by decide +kernel
theorem dX4_tell_62 : decode cX4_tell 62 = .ok (.isub, 1) := by decide +kernel
theorem dX4_tell_63 : decode cX4_tell 63 = .ok (.iastore, 1) := by decide +kernel
theorem dX4_tell_64 : decode cX4_tell 64 = .ok (.iinc 2 1, 3) := by decide +kernel
theorem dX4_tell_67 : decode cX4_tell 67 = .ok (.goto (-26), 3) := by decide +kernel
theorem dX4_tell_70 : decode cX4_tell 70 = .ok (.aload_n 0, 1) := by decide +kernel
theorem dX4_tell_71 : decode cX4_tell 71 = .ok (.getfield 23, 3) := by decide +kernel
theorem dX4_tell_74 : decode cX4_tell 74 = .ok (.iload_n 1, 1) := by decide +kernel
theorem dX4_tell_75 : decode cX4_tell 75 = .ok (.putfield 99, 3) := by decide +kernel
theorem dX4_tell_78 : decode cX4_tell 78 = .ok (.aload_n 0, 1) := by decide +kernel
theorem dX4_tell_79 : decode cX4_tell 79 = .ok (.iconst 0, 1) := by decide +kernel
theorem dX4_tell_80 : decode cX4_tell 80 = .ok (.putfield 13, 3) := by decide +kernel
theorem dX4_tell_83 : decode cX4_tell 83 = .ok (.aload_n 0, 1) := by decide +kernel
theorem dX4_tell_84 : decode cX4_tell 84 = .ok (.invokevirtual 223, 3) := by decide +kernel
theorem dX4_tell_87 : decode cX4_tell 87 = .ok (.ireturn, 1) := by decide +kernel
theorem dX4_cut_0 : decode cX4_cut 0 = .ok (.aload_n 0, 1) := by decide +kernel
theorem dX4_cut_1 : decode cX4_cut 1 = .ok (.invokevirtual 177, 3) := by decide +kernel
theorem dX4_cut_4 : decode cX4_cut 4 = .ok (.istore_n 1, 1) := by decide +kernel
theorem dX4_cut_5 : decode cX4_cut 5 = .ok (.iload_n 1, 1) := by decide +kernel
theorem dX4_cut_6 : decode cX4_cut 6 = .ok (.ifCond .gt 11, 3) := by decide +kernel
theorem dX4_cut_9 : decode cX4_cut 9 = .ok (.new 226, 3) := by decide +kernel
theorem dX4_cut_12 : decode cX4_cut 12 = .ok (.dup, 1) := by decide +kernel
theorem dX4_cut_13 : decode cX4_cut 13 = .ok (.invokespecial 228, 3) := by decide +kernel
theorem dX4_cut_16 : decode cX4_cut 16 = .ok (.athrow, 1) := by decide +kernel
theorem dX4_cut_17 : decode cX4_cut 17 = .ok (.aload_n 0, 1) := by decide +kernel
theorem dX4_cut_18 : decode cX4_cut 18 = .ok (.invokevirtual 73, 3) := by decide +kernel
theorem dX4_cut_21 : decode cX4_cut 21 = .ok (.aload_n 0, 1) := by decide +kernel
theorem dX4_cut_22 : decode cX4_cut 22 = .ok (.getfield 23, 3) := by decide +kernel
theorem dX4_cut_25 : decode cX4_cut 25 = .ok (.aload_n 0, 1) := by decide +kernel
theorem dX4_cut_26 : decode cX4_cut 26 = .ok (.getfield 51, 3) := by decide +kernel
theorem dX4_cut_29 : decode cX4_cut 29 = .ok (.getfield 203, 3) := by decide +kernel
theorem dX4_cut_32 : decode cX4_cut 32 = .ok (.iload_n 1, 1) := by decide +kernel
theorem dX4_cut_33 : decode cX4_cut 33 = .ok (.invokevirtual 229, 3) := by decide +kernel
theorem dX4_cut_36 : decode cX4_cut 36 = .ok (.iload_n 1, 1) := by decide +kernel
theorem dX4_cut_37 : decode cX4_cut 37 = .ok (.ireturn, 1) := by decide +kernel
theorem dX4_snip_0 : decode cX4_snip 0 = .ok (.aload_n 0, 1) := by decide +kernel
theorem dX4_snip_1 : decode cX4_snip 1 = .ok (.getfield 23, 3) := by decide +kernel
theorem dX4_snip_4 : decode cX4_snip 4 = .ok (.iload_n 1, 1) := by decide +kernel
theorem dX4_snip_5 : decode cX4_snip 5 = .ok (.iload_n 2, 1) := by decide +kernel
theorem dX4_snip_6 : decode cX4_snip 6 = .ok (.invokevirtual 111, 3) := by decide +kernel
theorem dX4_snip_9 : decode cX4_snip 9 = .ok (.ifCond .ne 11, 3) := by decide +kernel
theorem dX4_snip_12 : decode cX4_snip 12 = .ok (.new 115, 3) := by decide +kernel
theorem dX4_snip_15 : decode cX4_snip 15 = .ok (.dup, 1) := by decide +kernel
theorem dX4_snip_16 : decode cX4_snip 16 = .ok (.invokespecial 117, 3) := by decide +kernel
theorem dX4_snip_19 : decode cX4_snip 19 = .ok (.athrow, 1) := by decide +kernel
theorem dX4_snip_20 : decode cX4_snip 20 = .ok (.iload_n 3, 1) := by decide +kernel
theorem dX4_snip_21 : decode cX4_snip 21 = .ok (.iconst 1, 1) := by decide +kernel
theorem dX4_snip_22 : decode cX4_snip 22 = .ok (.if_icmp .lt 9, 3) := by decide +kernel
theorem dX4_snip_25 : decode cX4_snip 25 = .ok (.iload_n 3, 1) := by decide +kernel
theorem dX4_snip_26 : decode cX4_snip 26 = .ok (.bipush 8, 2) := by decide +kernel
theorem dX4_snip_28 : decode cX4_snip 28 = .ok (.if_icmp .le 11, 3) := by decide +kernel
theorem dX4_snip_31 : decode cX4_snip 31 = .ok (.new 63, 3) := by decide +kernel
theorem dX4_snip_34 : decode cX4_snip 34 = .ok (.dup, 1) := by decide +kernel
theorem dX4_snip_35 : decode cX4_snip 35 = .ok (.invokespecial 65, 3) := by decide +kernel
theorem dX4_snip_38 : decode cX4_snip 38 = .ok (.athrow, 1) := by decide +kernel
theorem dX4_snip_39 : decode cX4_snip 39 = .ok (.aload_n 0, 1) := by decide +kernel
theorem dX4_snip_40 : decode cX4_snip 40 = .ok (.getfield 23, 3) := by decide +kernel
theorem dX4_snip_43 : decode cX4_snip 43 = .ok (.iload_n 1, 1) := by decide +kernel
theorem dX4_snip_44 : decode cX4_snip 44 = .ok (.iload_n 2, 1) := by decide +kernel
theorem dX4_snip_45 : decode cX4_snip 45 = .ok (.invokevirtual 118, 3) := by decide +kernel
theorem dX4_snip_48 : decode cX4_snip 48 = .ok (.istore 4, 2) := by decide +kernel
theorem dX4_snip_50 : decode cX4_snip 50 = .ok (.aload_n 0, 1) := by decide +kernel
theorem dX4_snip_51 : decode cX4_snip 51 = .ok (.getfield 23, 3) := by decide +kernel
theorem dX4_snip_54 : decode cX4_snip 54 = .ok (.iload 4, 2) := by decide +kernel
theorem dX4_snip_56 : decode cX4_snip 56 = .ok (.iload_n 3, 1) := by decide +kernel
theorem dX4_snip_57 : decode cX4_snip 57 = .ok (.invokevirtual 233, 3) := by decide +kernel
theorem dX4_snip_60 : decode cX4_snip 60 = .ok (.ifCond .ne 11, 3) := by decide +kernel
theorem dX4_snip_63 : decode cX4_snip 63 = .ok (.new 226, 3) := by decide +kernel
theorem dX4_snip_66 : decode cX4_snip 66 = .ok (.dup, 1) := by decide +kernel
theorem dX4_snip_67 : decode cX4_snip 67 = .ok (.invokespecial 228, 3) := by decide +kernel
theorem dX4_snip_70 : decode cX4_snip 70 = .ok (.athrow, 1) := by decide +kernel
theorem dX4_snip_71 : decode cX4_snip 71 = .ok (.aload_n 0, 1) := by decide +kernel
theorem dX4_snip_72 : decode cX4_snip 72 = .ok (.invokevirtual 73, 3) := by decide +kernel
theorem dX4_snip_75 : decode cX4_snip 75 = .ok (.aload_n 0, 1) := by decide +kernel
theorem dX4_snip_76 : decode cX4_snip 76 = .ok (.getfield 23, 3) := by decide +kernel
theorem dX4_snip_79 : decode cX4_snip 79 = .ok (.aload_n 0, 1) := by decide +kernel
theorem dX4_snip_80 : decode cX4_snip 80 = .ok (.getfield 23, 3) := by decide +kernel
theorem dX4_snip_83 : decode cX4_snip 83 = .ok (.iload 4, 2) := by decide +kernel
theorem dX4_snip_85 : decode cX4_snip 85 = .ok (.iload_n 3, 1) := by decide +kernel
theorem dX4_snip_86 : decode cX4_snip 86 = .ok (.invokevirtual 236, 3) := by decide +kernel
theorem dX4_snip_89 : decode cX4_snip 89 = .ok (.iconst 1, 1) := by decide +kernel
theorem dX4_snip_90 : decode cX4_snip 90 = .ok (.invokevirtual 229, 3) := by decide +kernel
theorem dX4_snip_93 : decode cX4_snip 93 = .ok (.aload_n 0, 1) := by decide +kernel
theorem dX4_snip_94 : decode cX4_snip 94 = .ok (.getfield 23, 3) := by decide +kernel
theorem dX4_snip_97 : decode cX4_snip 97 = .ok (.invokevirtual 96, 3) := by decide +kernel
theorem dX4_snip_100 : decode cX4_snip 100 = .ok (.ireturn, 1) := by decide +kernel
theorem dX4_least_0 : decode cX4_least 0 = .ok (.iload_n 1, 1) := by decide +kernel
theorem dX4_least_1 : decode cX4_least 1 = .ok (.iconst 1, 1) := by decide +kernel
theorem dX4_least_2 : decode cX4_least 2 = .ok (.if_icmp .lt 9, 3) := by decide +kernel
theorem dX4_least_5 : decode cX4_least 5 = .ok (.iload_n 1, 1) := by decide +kernel
theorem dX4_least_6 : decode cX4_least 6 = .ok (.bipush 9, 2) := by decide +kernel
theorem dX4_least_8 : decode cX4_least 8 = .ok (.if_icmp .le 11, 3) := by decide +kernel
theorem dX4_least_11 : decode cX4_least 11 = .ok (.new 63, 3) := by decide +kernel
theorem dX4_least_14 : decode cX4_least 14 = .ok (.dup, 1) := by decide +kernel
theorem dX4_least_15 : decode cX4_least 15 = .ok (.invokespecial 65, 3) := by decide +kernel
theorem dX4_least_18 : decode cX4_least 18 = .ok (.athrow, 1) := by decide +kernel
theorem dX4_least_19 : decode cX4_least 19 = .ok (.aload_n 0, 1) := by decide +kernel
theorem dX4_least_20 : decode cX4_least 20 = .ok (.invokevirtual 73, 3) := by decide +kernel
theorem dX4_least_23 : decode cX4_least 23 = .ok (.aload_n 0, 1) := by decide +kernel
theorem dX4_least_24 : decode cX4_least 24 = .ok (.getfield 23, 3) := by decide +kernel
theorem dX4_least_27 : decode cX4_least 27 = .ok (.getfield 93, 3) := by decide +kernel
theorem dX4_least_30 : decode cX4_least 30 = .ok (.istore_n 2, 1) := by decide +kernel
theorem dX4_least_31 : decode cX4_least 31 = .ok (.aload_n 0, 1) := by decide +kernel
theorem dX4_least_32 : decode cX4_least 32 = .ok (.getfield 23, 3) := by decide +kernel
theorem dX4_least_35 : decode cX4_least 35 = .ok (.iload_n 1, 1) := by decide +kernel
theorem dX4_least_36 : decode cX4_least 36 = .ok (.putfield 93, 3) := by decide +kernel
theorem dX4_least_39 : decode cX4_least 39 = .ok (.iload_n 2, 1) := by decide +kernel
theorem dX4_least_40 : decode cX4_least 40 = .ok (.ireturn, 1) := by decide +kernel
theorem dX4_mend_0 : decode cX4_mend 0 = .ok (.iload_n 1, 1) := by decide +kernel
theorem dX4_mend_1 : decode cX4_mend 1 = .ok (.ifCond .lt 14, 3) := by decide +kernel
theorem dX4_mend_4 : decode cX4_mend 4 = .ok (.iload_n 1, 1) := by decide +kernel
theorem dX4_mend_5 : decode cX4_mend 5 = .ok (.aload_n 0, 1) := by decide +kernel
theorem dX4_mend_6 : decode cX4_mend 6 = .ok (.getfield 23, 3) := by decide +kernel
theorem dX4_mend_9 : decode cX4_mend 9 = .ok (.invokevirtual 83, 3) := by decide +kernel
theorem dX4_mend_12 : decode cX4_mend 12 = .ok (.if_icmp .lt 11, 3) := by decide +kernel
theorem dX4_mend_15 : decode cX4_mend 15 = .ok (.new 115, 3) := by decide +kernel
theorem dX4_mend_18 : decode cX4_mend 18 = .ok (.dup, 1) := by decide +kernel
theorem dX4_mend_19 : decode cX4_mend 19 = .ok (.invokespecial 117, 3) := by decide +kernel
theorem dX4_mend_22 : decode cX4_mend 22 = .ok (.athrow, 1) := by decide +kernel
theorem dX4_mend_23 : decode cX4_mend 23 = .ok (.aload_n 0, 1) := by decide +kernel
theorem dX4_mend_24 : decode cX4_mend 24 = .ok (.getfield 23, 3) := by decide +kernel
theorem dX4_mend_27 : decode cX4_mend 27 = .ok (.iconst 0, 1) := by decide +kernel
theorem dX4_mend_28 : decode cX4_mend 28 = .ok (.iload_n 1, 1) := by decide +kernel
theorem dX4_mend_29 : decode cX4_mend 29 = .ok (.invokevirtual 118, 3) := by decide +kernel
theorem dX4_mend_32 : decode cX4_mend 32 = .ok (.istore_n 2, 1) := by decide +kernel
theorem dX4_mend_33 : decode cX4_mend 33 = .ok (.aload_n 0, 1) := by decide +kernel
theorem dX4_mend_34 : decode cX4_mend 34 = .ok (.getfield 23, 3) := by decide +kernel
theorem dX4_mend_37 : decode cX4_mend 37 = .ok (.iload_n 2, 1) := by decide +kernel
theorem dX4_mend_38 : decode cX4_mend 38 = .ok (.invokevirtual 240, 3) := by decide +kernel
theorem dX4_mend_41 : decode cX4_mend 41 = .ok (.ifCond .eq 11, 3) := by decide +kernel
theorem dX4_mend_44 : decode cX4_mend 44 = .ok (.new 226, 3) := by decide +kernel
theorem dX4_mend_47 : decode cX4_mend 47 = .ok (.dup, 1) := by decide +kernel
theorem dX4_mend_48 : decode cX4_mend 48 = .ok (.invokespecial 228, 3) := by decide +kernel
theorem dX4_mend_51 : decode cX4_mend 51 = .ok (.athrow, 1) := by decide +kernel
theorem dX4_mend_52 : decode cX4_mend 52 = .ok (.aload_n 0, 1) := by decide +kernel
theorem dX4_mend_53 : decode cX4_mend 53 = .ok (.invokevirtual 73, 3) := by decide +kernel
theorem dX4_mend_56 : decode cX4_mend 56 = .ok (.aload_n 0, 1) := by decide +kernel
theorem dX4_mend_57 : decode cX4_mend 57 = .ok (.getfield 23, 3) := by decide +kernel
theorem dX4_mend_60 : decode cX4_mend 60 = .ok (.dup, 1) := by decide +kernel
theorem dX4_mend_61 : decode cX4_mend 61 = .ok (.getfield 243, 3) := by decide +kernel
theorem dX4_mend_64 : decode cX4_mend 64 = .ok (.lconst 1, 1) := by decide +kernel
theorem dX4_mend_65 : decode cX4_mend 65 = .ok (.iload_n 2, 1) := by decide +kernel
theorem dX4_mend_66 : decode cX4_mend 66 = .ok (.lshl, 1) := by decide +kernel
theorem dX4_mend_67 : decode cX4_mend 67 = .ok (.ldc2_w 246, 3) := by decide +kernel
theorem dX4_mend_70 : decode cX4_mend 70 = .ok (.lxor, 1) := by decide +kernel
theorem dX4_mend_71 : decode cX4_mend 71 = .ok (.land, 1) := by decide +kernel
theorem dX4_mend_72 : decode cX4_mend 72 = .ok (.putfield 243, 3) := by decide +kernel
theorem dX4_mend_75 : decode cX4_mend 75 = .ok (.aload_n 0, 1) := by decide +kernel
theorem dX4_mend_76 : decode cX4_mend 76 = .ok (.getfield 23, 3) := by decide +kernel
theorem dX4_mend_79 : decode cX4_mend 79 = .ok (.invokevirtual 96, 3) := by decide +kernel
theorem dX4_mend_82 : decode cX4_mend 82 = .ok (.ireturn, 1) := by decide +kernel
theorem dX4_undo_0 : decode cX4_undo 0 = .ok (.aload_n 0, 1) := by decide +kernel
theorem dX4_undo_1 : decode cX4_undo 1 = .ok (.getfield 31, 3) := by decide +kernel
theorem dX4_undo_4 : decode cX4_undo 4 = .ok (.ifCond .le 12, 3) := by decide +kernel
theorem dX4_undo_7 : decode cX4_undo 7 = .ok (.aload_n 0, 1) := by decide +kernel
theorem dX4_undo_8 : decode cX4_undo 8 = .ok (.getfield 31, 3) := by decide +kernel
theorem dX4_undo_11 : decode cX4_undo 11 = .ok (.bipush 8, 2) := by decide +kernel
theorem dX4_undo_13 : decode cX4_undo 13 = .ok (.if_icmp .le 5, 3) := by decide +kernel
theorem dX4_undo_16 : decode cX4_undo 16 = .ok (.iconst (-1), 1) := by decide +kernel
theorem dX4_undo_17 : decode cX4_undo 17 = .ok (.ireturn, 1) := by decide +kernel
theorem dX4_undo_18 : decode cX4_undo 18 = .ok (.aload_n 0, 1) := by decide +kernel
theorem dX4_undo_19 : decode cX4_undo 19 = .ok (.dup, 1) := by decide +kernel
theorem dX4_undo_20 : decode cX4_undo 20 = .ok (.getfield 31, 3) := by decide +kernel
theorem dX4_undo_23 : decode cX4_undo 23 = .ok (.iconst 1, 1) := by decide +kernel
theorem dX4_undo_24 : decode cX4_undo 24 = .ok (.isub, 1) := by decide +kernel
theorem dX4_undo_25 : decode cX4_undo 25 = .ok (.putfield 31, 3) := by decide +kernel
theorem dX4_undo_28 : decode cX4_undo 28 = .ok (.aload_n 0, 1) := by decide +kernel
theorem dX4_undo_29 : decode cX4_undo 29 = .ok (.getfield 27, 3) := by decide +kernel
theorem dX4_undo_32 : decode cX4_undo 32 = .ok (.aload_n 0, 1) := by decide +kernel
theorem dX4_undo_33 : decode cX4_undo 33 = .ok (.getfield 31, 3) := by decide +kernel
theorem dX4_undo_36 : decode cX4_undo 36 = .ok (.aaload, 1) := by decide +kernel
theorem dX4_undo_37 : decode cX4_undo 37 = .ok (.astore_n 1, 1) := by decide +kernel
theorem dX4_undo_38 : decode cX4_undo 38 = .ok (.aload_n 1, 1) := by decide +kernel
theorem dX4_undo_39 : decode cX4_undo 39 = .ok (.ifnull 11, 3) := by decide +kernel
theorem dX4_undo_42 : decode cX4_undo 42 = .ok (.aload_n 0, 1) := by decide +kernel
theorem dX4_undo_43 : decode cX4_undo 43 = .ok (.getfield 23, 3) := by decide +kernel
theorem dX4_undo_46 : decode cX4_undo 46 = .ok (.aload_n 1, 1) := by decide +kernel
theorem dX4_undo_47 : decode cX4_undo 47 = .ok (.invokevirtual 79, 3) := by decide +kernel
theorem dX4_undo_50 : decode cX4_undo 50 = .ok (.aload_n 0, 1) := by decide +kernel
theorem dX4_undo_51 : decode cX4_undo 51 = .ok (.iconst 0, 1) := by decide +kernel
theorem dX4_undo_52 : decode cX4_undo 52 = .ok (.putfield 55, 3) := by decide +kernel
theorem dX4_undo_55 : decode cX4_undo 55 = .ok (.aload_n 0, 1) := by decide +kernel
theorem dX4_undo_56 : decode cX4_undo 56 = .ok (.getfield 31, 3) := by decide +kernel
theorem dX4_undo_59 : decode cX4_undo 59 = .ok (.ireturn, 1) := by decide +kernel
theorem dX4_checksum_0 : decode cX4_checksum 0 = .ok (.lconst 0, 1) := by decide +kernel
theorem dX4_checksum_1 : decode cX4_checksum 1 = .ok (.lstore_n 1, 1) := by decide +kernel
theorem dX4_checksum_2 : decode cX4_checksum 2 = .ok (.iconst 0, 1) := by decide +kernel
theorem dX4_checksum_3 : decode cX4_checksum 3 = .ok (.istore_n 3, 1) := by decide +kernel
theorem dX4_checksum_4 : decode cX4_checksum 4 = .ok (.iload_n 3, 1) := by decide +kernel
theorem dX4_checksum_5 : decode cX4_checksum 5 = .ok (.bipush 7, 2) := by decide +kernel
theorem dX4_checksum_7 : decode cX4_checksum 7 = .ok (.if_icmp .gt 22, 3) := by decide +kernel
theorem dX4_checksum_10 : decode cX4_checksum 10 = .ok (.ldc2_w 248, 3) := by decide +kernel
theorem dX4_checksum_13 : decode cX4_checksum 13 = .ok (.lload_n 1, 1) := by decide +kernel
theorem dX4_checksum_14 : decode cX4_checksum 14 = .ok (.lmul, 1) := by decide +kernel
theorem dX4_checksum_15 : decode cX4_checksum 15 = .ok (.aload_n 0, 1) := by decide +kernel
theorem dX4_checksum_16 : decode cX4_checksum 16 = .ok (.iload_n 3, 1) := by decide +kernel
theorem dX4_checksum_17 : decode cX4_checksum 17 = .ok (.invokevirtual 250, 3) := by decide +kernel
theorem dX4_checksum_20 : decode cX4_checksum 20 = .ok (.i2l, 1) := by decide +kernel
theorem dX4_checksum_21 : decode cX4_checksum 21 = .ok (.ladd, 1) := by decide +kernel
theorem dX4_checksum_22 : decode cX4_checksum 22 = .ok (.lstore_n 1, 1) := by decide +kernel
theorem dX4_checksum_23 : decode cX4_checksum 23 = .ok (.iinc 3 1, 3) := by decide +kernel
theorem dX4_checksum_26 : decode cX4_checksum 26 = .ok (.goto (-22), 3) := by decide +kernel
theorem dX4_checksum_29 : decode cX4_checksum 29 = .ok (.iconst 0, 1) := by decide +kernel
theorem dX4_checksum_30 : decode cX4_checksum 30 = .ok (.istore_n 3, 1) := by decide +kernel
theorem dX4_checksum_31 : decode cX4_checksum 31 = .ok (.iload_n 3, 1) := by decide +kernel
theorem dX4_checksum_32 : decode cX4_checksum 32 = .ok (.bipush 96, 2) := by decide +kernel
theorem dX4_checksum_34 : decode cX4_checksum 34 = .ok (.if_icmp .ge 49, 3) := by decide +kernel
theorem dX4_checksum_37 : decode cX4_checksum 37 = .ok (.aload_n 0, 1) := by decide +kernel
theorem dX4_checksum_38 : decode cX4_checksum 38 = .ok (.getfield 23, 3) := by decide +kernel
theorem dX4_checksum_41 : decode cX4_checksum 41 = .ok (.iload_n 3, 1) := by decide +kernel
theorem dX4_checksum_42 : decode cX4_checksum 42 = .ok (.invokevirtual 253, 3) := by decide +kernel
theorem dX4_checksum_45 : decode cX4_checksum 45 = .ok (.ifCond .eq 32, 3) := by decide +kernel
theorem dX4_checksum_48 : decode cX4_checksum 48 = .ok (.ldc2_w 248, 3) := by decide +kernel
theorem dX4_checksum_51 : decode cX4_checksum 51 = .ok (.lload_n 1, 1) := by decide +kernel
theorem dX4_checksum_52 : decode cX4_checksum 52 = .ok (.lmul, 1) := by decide +kernel
theorem dX4_checksum_53 : decode cX4_checksum 53 = .ok (.aload_n 0, 1) := by decide +kernel
theorem dX4_checksum_54 : decode cX4_checksum 54 = .ok (.iload_n 3, 1) := by decide +kernel
theorem dX4_checksum_55 : decode cX4_checksum 55 = .ok (.invokevirtual 122, 3) := by decide +kernel
theorem dX4_checksum_58 : decode cX4_checksum 58 = .ok (.i2l, 1) := by decide +kernel
theorem dX4_checksum_59 : decode cX4_checksum 59 = .ok (.ladd, 1) := by decide +kernel
theorem dX4_checksum_60 : decode cX4_checksum 60 = .ok (.lstore_n 1, 1) := by decide +kernel
theorem dX4_checksum_61 : decode cX4_checksum 61 = .ok (.ldc2_w 248, 3) := by decide +kernel
theorem dX4_checksum_64 : decode cX4_checksum 64 = .ok (.lload_n 1, 1) := by decide +kernel
theorem dX4_checksum_65 : decode cX4_checksum 65 = .ok (.lmul, 1) := by decide +kernel
theorem dX4_checksum_66 : decode cX4_checksum 66 = .ok (.aload_n 0, 1) := by decide +kernel
theorem dX4_checksum_67 : decode cX4_checksum 67 = .ok (.getfield 23, 3) := by decide +kernel
theorem dX4_checksum_70 : decode cX4_checksum 70 = .ok (.iload_n 3, 1) := by decide +kernel
theorem dX4_checksum_71 : decode cX4_checksum 71 = .ok (.invokevirtual 132, 3) := by decide +kernel
theorem dX4_checksum_74 : decode cX4_checksum 74 = .ok (.i2l, 1) := by decide +kernel
theorem dX4_checksum_75 : decode cX4_checksum 75 = .ok (.ladd, 1) := by decide +kernel
theorem dX4_checksum_76 : decode cX4_checksum 76 = .ok (.lstore_n 1, 1) := by decide +kernel
theorem dX4_checksum_77 : decode cX4_checksum 77 = .ok (.iinc 3 1, 3) := by decide +kernel
theorem dX4_checksum_80 : decode cX4_checksum 80 = .ok (.goto (-49), 3) := by decide +kernel
theorem dX4_checksum_83 : decode cX4_checksum 83 = .ok (.iconst 0, 1) := by decide +kernel
theorem dX4_checksum_84 : decode cX4_checksum 84 = .ok (.istore_n 3, 1) := by decide +kernel
theorem dX4_checksum_85 : decode cX4_checksum 85 = .ok (.iload_n 3, 1) := by decide +kernel
theorem dX4_checksum_86 : decode cX4_checksum 86 = .ok (.aload_n 0, 1) := by decide +kernel
theorem dX4_checksum_87 : decode cX4_checksum 87 = .ok (.getfield 23, 3) := by decide +kernel
theorem dX4_checksum_90 : decode cX4_checksum 90 = .ok (.getfield 99, 3) := by decide +kernel
theorem dX4_checksum_93 : decode cX4_checksum 93 = .ok (.if_icmp .ge 25, 3) := by decide +kernel
theorem dX4_checksum_96 : decode cX4_checksum 96 = .ok (.ldc2_w 248, 3) := by decide +kernel
theorem dX4_checksum_99 : decode cX4_checksum 99 = .ok (.lload_n 1, 1) := by decide +kernel
theorem dX4_checksum_100 : decode cX4_checksum 100 = .ok (.lmul, 1) := by decide +kernel
theorem dX4_checksum_101 : decode cX4_checksum 101 = .ok (.aload_n 0, 1) := by decide +kernel
theorem dX4_checksum_102 : decode cX4_checksum 102 = .ok (.getfield 23, 3) := by decide +kernel
theorem dX4_checksum_105 : decode cX4_checksum 105 = .ok (.iload_n 3, 1) := by decide +kernel
theorem dX4_checksum_106 : decode cX4_checksum 106 = .ok (.invokevirtual 167, 3) := by decide +kernel
theorem dX4_checksum_109 : decode cX4_checksum 109 = .ok (.i2l, 1) := by decide +kernel
theorem dX4_checksum_110 : decode cX4_checksum 110 = .ok (.ladd, 1) := by decide +kernel
theorem dX4_checksum_111 : decode cX4_checksum 111 = .ok (.lstore_n 1, 1) := by decide +kernel
theorem dX4_checksum_112 : decode cX4_checksum 112 = .ok (.iinc 3 1, 3) := by decide +kernel
theorem dX4_checksum_115 : decode cX4_checksum 115 = .ok (.goto (-30), 3) := by decide +kernel
theorem dX4_checksum_118 : decode cX4_checksum 118 = .ok (.ldc2_w 248, 3) := by decide +kernel
theorem dX4_checksum_121 : decode cX4_checksum 121 = .ok (.lload_n 1, 1) := by decide +kernel
theorem dX4_checksum_122 : decode cX4_checksum 122 = .ok (.lmul, 1) := by decide +kernel
theorem dX4_checksum_123 : decode cX4_checksum 123 = .ok (.aload_n 0, 1) := by decide +kernel
theorem dX4_checksum_124 : decode cX4_checksum 124 = .ok (.invokevirtual 223, 3) := by decide +kernel
theorem dX4_checksum_127 : decode cX4_checksum 127 = .ok (.i2l, 1) := by decide +kernel
theorem dX4_checksum_128 : decode cX4_checksum 128 = .ok (.ladd, 1) := by decide +kernel
theorem dX4_checksum_129 : decode cX4_checksum 129 = .ok (.lstore_n 1, 1) := by decide +kernel
theorem dX4_checksum_130 : decode cX4_checksum 130 = .ok (.ldc2_w 248, 3) := by decide +kernel
theorem dX4_checksum_133 : decode cX4_checksum 133 = .ok (.lload_n 1, 1) := by decide +kernel
theorem dX4_checksum_134 : decode cX4_checksum 134 = .ok (.lmul, 1) := by decide +kernel
theorem dX4_checksum_135 : decode cX4_checksum 135 = .ok (.aload_n 0, 1) := by decide +kernel
theorem dX4_checksum_136 : decode cX4_checksum 136 = .ok (.invokevirtual 177, 3) := by decide +kernel
theorem dX4_checksum_139 : decode cX4_checksum 139 = .ok (.i2l, 1) := by decide +kernel
theorem dX4_checksum_140 : decode cX4_checksum 140 = .ok (.ladd, 1) := by decide +kernel
theorem dX4_checksum_141 : decode cX4_checksum 141 = .ok (.lstore_n 1, 1) := by decide +kernel
theorem dX4_checksum_142 : decode cX4_checksum 142 = .ok (.ldc2_w 248, 3) := by decide +kernel
theorem dX4_checksum_145 : decode cX4_checksum 145 = .ok (.lload_n 1, 1) := by decide +kernel
theorem dX4_checksum_146 : decode cX4_checksum 146 = .ok (.lmul, 1) := by decide +kernel
theorem dX4_checksum_147 : decode cX4_checksum 147 = .ok (.aload_n 0, 1) := by decide +kernel
theorem dX4_checksum_148 : decode cX4_checksum 148 = .ok (.invokevirtual 256, 3) := by decide +kernel
theorem dX4_checksum_151 : decode cX4_checksum 151 = .ok (.i2l, 1) := by decide +kernel
theorem dX4_checksum_152 : decode cX4_checksum 152 = .ok (.ladd, 1) := by decide +kernel
theorem dX4_checksum_153 : decode cX4_checksum 153 = .ok (.lreturn, 1) := by decide +kernel
theorem dX4_putWord_0 : decode cX4_putWord 0 = .ok (.bipush 24, 2) := by decide +kernel
theorem dX4_putWord_2 : decode cX4_putWord 2 = .ok (.istore_n 2, 1) := by decide +kernel
theorem dX4_putWord_3 : decode cX4_putWord 3 = .ok (.iload_n 2, 1) := by decide +kernel
theorem dX4_putWord_4 : decode cX4_putWord 4 = .ok (.ifCond .lt 49, 3) := by decide +kernel
theorem dX4_putWord_7 : decode cX4_putWord 7 = .ok (.aload_n 0, 1) := by decide +kernel
theorem dX4_putWord_8 : decode cX4_putWord 8 = .ok (.getfield 13, 3) := by decide +kernel
theorem dX4_putWord_11 : decode cX4_putWord 11 = .ok (.ifCond .lt 36, 3) := by decide +kernel
theorem dX4_putWord_14 : decode cX4_putWord 14 = .ok (.aload_n 0, 1) := by decide +kernel
theorem dX4_putWord_15 : decode cX4_putWord 15 = .ok (.getfield 13, 3) := by decide +kernel
theorem dX4_putWord_18 : decode cX4_putWord 18 = .ok (.sipush 400, 3) := by decide +kernel
theorem dX4_putWord_21 : decode cX4_putWord 21 = .ok (.if_icmp .ge 26, 3) := by decide +kernel
theorem dX4_putWord_24 : decode cX4_putWord 24 = .ok (.aload_n 0, 1) := by decide +kernel
theorem dX4_putWord_25 : decode cX4_putWord 25 = .ok (.getfield 9, 3) := by decide +kernel
theorem dX4_putWord_28 : decode cX4_putWord 28 = .ok (.aload_n 0, 1) := by decide +kernel
theorem dX4_putWord_29 : decode cX4_putWord 29 = .ok (.getfield 13, 3) := by decide +kernel
theorem dX4_putWord_32 : decode cX4_putWord 32 = .ok (.iload_n 1, 1) := by decide +kernel
theorem dX4_putWord_33 : decode cX4_putWord 33 = .ok (.iload_n 2, 1) := by decide +kernel
theorem dX4_putWord_34 : decode cX4_putWord 34 = .ok (.ishr, 1) := by decide +kernel
theorem dX4_putWord_35 : decode cX4_putWord 35 = .ok (.i2b, 1) := by decide +kernel
theorem dX4_putWord_36 : decode cX4_putWord 36 = .ok (.bastore, 1) := by decide +kernel
theorem dX4_putWord_37 : decode cX4_putWord 37 = .ok (.aload_n 0, 1) := by decide +kernel
theorem dX4_putWord_38 : decode cX4_putWord 38 = .ok (.dup, 1) := by decide +kernel
theorem dX4_putWord_39 : decode cX4_putWord 39 = .ok (.getfield 13, 3) := by decide +kernel
theorem dX4_putWord_42 : decode cX4_putWord 42 = .ok (.iconst 1, 1) := by decide +kernel
theorem dX4_putWord_43 : decode cX4_putWord 43 = .ok (.iadd, 1) := by decide +kernel
theorem dX4_putWord_44 : decode cX4_putWord 44 = .ok (.putfield 13, 3) := by decide +kernel
theorem dX4_putWord_47 : decode cX4_putWord 47 = .ok (.iinc 2 (-8), 3) := by decide +kernel
theorem dX4_putWord_50 : decode cX4_putWord 50 = .ok (.goto (-47), 3) := by decide +kernel
theorem dX4_putWord_53 : decode cX4_putWord 53 = .ok (.return_, 1) := by decide +kernel
theorem dX4_startsWithLetters_0 : decode cX4_startsWithLetters 0 = .ok (.iconst 0, 1) := by decide +kernel
theorem dX4_startsWithLetters_1 : decode cX4_startsWithLetters 1 = .ok (.istore_n 2, 1) := by decide +kernel
theorem dX4_startsWithLetters_2 : decode cX4_startsWithLetters 2 = .ok (.iload_n 2, 1) := by decide +kernel
theorem dX4_startsWithLetters_3 : decode cX4_startsWithLetters 3 = .ok (.iload_n 1, 1) := by decide +kernel
theorem dX4_startsWithLetters_4 : decode cX4_startsWithLetters 4 = .ok (.if_icmp .ge 30, 3) := by decide +kernel
theorem dX4_startsWithLetters_7 : decode cX4_startsWithLetters 7 = .ok (.iload_n 2, 1) := by decide +kernel
theorem dX4_startsWithLetters_8 : decode cX4_startsWithLetters 8 = .ok (.sipush 400, 3) := by decide +kernel
theorem dX4_startsWithLetters_11 : decode cX4_startsWithLetters 11 = .ok (.if_icmp .ge 23, 3) := by decide +kernel
theorem dX4_startsWithLetters_14 : decode cX4_startsWithLetters 14 = .ok (.aload_n 0, 1) := by decide +kernel
theorem dX4_startsWithLetters_15 : decode cX4_startsWithLetters 15 = .ok (.getfield 9, 3) := by decide +kernel
theorem dX4_startsWithLetters_18 : decode cX4_startsWithLetters 18 = .ok (.iload_n 2, 1) := by decide +kernel
theorem dX4_startsWithLetters_19 : decode cX4_startsWithLetters 19 = .ok (.baload, 1) := by decide +kernel
theorem dX4_startsWithLetters_20 : decode cX4_startsWithLetters 20 = .ok (.invokestatic 259, 3) := by decide +kernel
theorem dX4_startsWithLetters_23 : decode cX4_startsWithLetters 23 = .ok (.ifCond .ne 5, 3) := by decide +kernel
theorem dX4_startsWithLetters_26 : decode cX4_startsWithLetters 26 = .ok (.iconst 0, 1) := by decide +kernel
theorem dX4_startsWithLetters_27 : decode cX4_startsWithLetters 27 = .ok (.ireturn, 1) := by decide +kernel
theorem dX4_startsWithLetters_28 : decode cX4_startsWithLetters 28 = .ok (.iinc 2 1, 3) := by decide +kernel
theorem dX4_startsWithLetters_31 : decode cX4_startsWithLetters 31 = .ok (.goto (-29), 3) := by decide +kernel
theorem dX4_startsWithLetters_34 : decode cX4_startsWithLetters 34 = .ok (.iconst 1, 1) := by decide +kernel
theorem dX4_startsWithLetters_35 : decode cX4_startsWithLetters 35 = .ok (.ireturn, 1) := by decide +kernel
theorem dX4_remember_0 : decode cX4_remember 0 = .ok (.aload_n 0, 1) := by decide +kernel
theorem dX4_remember_1 : decode cX4_remember 1 = .ok (.iconst 0, 1) := by decide +kernel
theorem dX4_remember_2 : decode cX4_remember 2 = .ok (.putfield 55, 3) := by decide +kernel
theorem dX4_remember_5 : decode cX4_remember 5 = .ok (.aload_n 0, 1) := by decide +kernel
theorem dX4_remember_6 : decode cX4_remember 6 = .ok (.getfield 31, 3) := by decide +kernel
theorem dX4_remember_9 : decode cX4_remember 9 = .ok (.bipush 8, 2) := by decide +kernel
theorem dX4_remember_11 : decode cX4_remember 11 = .ok (.if_icmp .lt 7, 3) := by decide +kernel
theorem dX4_remember_14 : decode cX4_remember 14 = .ok (.aload_n 0, 1) := by decide +kernel
theorem dX4_remember_15 : decode cX4_remember 15 = .ok (.invokevirtual 262, 3) := by decide +kernel
theorem dX4_remember_18 : decode cX4_remember 18 = .ok (.aload_n 0, 1) := by decide +kernel
theorem dX4_remember_19 : decode cX4_remember 19 = .ok (.getfield 31, 3) := by decide +kernel
theorem dX4_remember_22 : decode cX4_remember 22 = .ok (.ifCond .lt 24, 3) := by decide +kernel
theorem dX4_remember_25 : decode cX4_remember 25 = .ok (.aload_n 0, 1) := by decide +kernel
theorem dX4_remember_26 : decode cX4_remember 26 = .ok (.getfield 31, 3) := by decide +kernel
theorem dX4_remember_29 : decode cX4_remember 29 = .ok (.bipush 8, 2) := by decide +kernel
theorem dX4_remember_31 : decode cX4_remember 31 = .ok (.if_icmp .ge 15, 3) := by decide +kernel
theorem dX4_remember_34 : decode cX4_remember 34 = .ok (.aload_n 0, 1) := by decide +kernel
theorem dX4_remember_35 : decode cX4_remember 35 = .ok (.getfield 27, 3) := by decide +kernel
theorem dX4_remember_38 : decode cX4_remember 38 = .ok (.aload_n 0, 1) := by decide +kernel
theorem dX4_remember_39 : decode cX4_remember 39 = .ok (.getfield 31, 3) := by decide +kernel
theorem dX4_remember_42 : decode cX4_remember 42 = .ok (.aaload, 1) := by decide +kernel
theorem dX4_remember_43 : decode cX4_remember 43 = .ok (.goto 4, 3) := by decide +kernel
theorem dX4_remember_46 : decode cX4_remember 46 = .ok (.aconst_null, 1) := by decide +kernel
theorem dX4_remember_47 : decode cX4_remember 47 = .ok (.astore_n 1, 1) := by decide +kernel
theorem dX4_remember_48 : decode cX4_remember 48 = .ok (.aload_n 1, 1) := by decide +kernel
theorem dX4_remember_49 : decode cX4_remember 49 = .ok (.ifnull 21, 3) := by decide +kernel
theorem dX4_remember_52 : decode cX4_remember 52 = .ok (.aload_n 1, 1) := by decide +kernel
theorem dX4_remember_53 : decode cX4_remember 53 = .ok (.aload_n 0, 1) := by decide +kernel
theorem dX4_remember_54 : decode cX4_remember 54 = .ok (.getfield 23, 3) := by decide +kernel
theorem dX4_remember_57 : decode cX4_remember 57 = .ok (.invokevirtual 79, 3) := by decide +kernel
theorem dX4_remember_60 : decode cX4_remember 60 = .ok (.aload_n 0, 1) := by decide +kernel
theorem dX4_remember_61 : decode cX4_remember 61 = .ok (.dup, 1) := by decide +kernel
theorem dX4_remember_62 : decode cX4_remember 62 = .ok (.getfield 31, 3) := by decide +kernel
theorem dX4_remember_65 : decode cX4_remember 65 = .ok (.iconst 1, 1) := by decide +kernel
theorem dX4_remember_66 : decode cX4_remember 66 = .ok (.iadd, 1) := by decide +kernel
theorem dX4_remember_67 : decode cX4_remember 67 = .ok (.putfield 31, 3) := by decide +kernel
theorem dX4_remember_70 : decode cX4_remember 70 = .ok (.return_, 1) := by decide +kernel
theorem dX4_makeOldestFinal_0 : decode cX4_makeOldestFinal 0 = .ok (.aload_n 0, 1) := by decide +kernel
theorem dX4_makeOldestFinal_1 : decode cX4_makeOldestFinal 1 = .ok (.getfield 27, 3) := by decide +kernel
theorem dX4_makeOldestFinal_4 : decode cX4_makeOldestFinal 4 = .ok (.iconst 0, 1) := by decide +kernel
theorem dX4_makeOldestFinal_5 : decode cX4_makeOldestFinal 5 = .ok (.aaload, 1) := by decide +kernel
theorem dX4_makeOldestFinal_6 : decode cX4_makeOldestFinal 6 = .ok (.astore_n 1, 1) := by decide +kernel
theorem dX4_makeOldestFinal_7 : decode cX4_makeOldestFinal 7 = .ok (.iconst 1, 1) := by decide +kernel
theorem dX4_makeOldestFinal_8 : decode cX4_makeOldestFinal 8 = .ok (.istore_n 2, 1) := by decide +kernel
theorem dX4_makeOldestFinal_9 : decode cX4_makeOldestFinal 9 = .ok (.iload_n 2, 1) := by decide +kernel
theorem dX4_makeOldestFinal_10 : decode cX4_makeOldestFinal 10 = .ok (.bipush 8, 2) := by decide +kernel
theorem dX4_makeOldestFinal_12 : decode cX4_makeOldestFinal 12 = .ok (.if_icmp .ge 23, 3) := by decide +kernel
theorem dX4_makeOldestFinal_15 : decode cX4_makeOldestFinal 15 = .ok (.aload_n 0, 1) := by decide +kernel
theorem dX4_makeOldestFinal_16 : decode cX4_makeOldestFinal 16 = .ok (.getfield 27, 3) := by decide +kernel
theorem dX4_makeOldestFinal_19 : decode cX4_makeOldestFinal 19 = .ok (.iload_n 2, 1) := by decide +kernel
theorem dX4_makeOldestFinal_20 : decode cX4_makeOldestFinal 20 = .ok (.iconst 1, 1) := by decide +kernel
theorem dX4_makeOldestFinal_21 : decode cX4_makeOldestFinal 21 = .ok (.isub, 1) := by decide +kernel
theorem dX4_makeOldestFinal_22 : decode cX4_makeOldestFinal 22 = .ok (.aload_n 0, 1) := by decide +kernel
theorem dX4_makeOldestFinal_23 : decode cX4_makeOldestFinal 23 = .ok (.getfield 27, 3) := by decide +kernel
theorem dX4_makeOldestFinal_26 : decode cX4_makeOldestFinal 26 = .ok (.iload_n 2, 1) := by decide +kernel
theorem dX4_makeOldestFinal_27 : decode cX4_makeOldestFinal 27 = .ok (.aaload, 1) := by decide +kernel
theorem dX4_makeOldestFinal_28 : decode cX4_makeOldestFinal 28 = .ok (.aastore, 1) := by decide +kernel
theorem dX4_makeOldestFinal_29 : decode cX4_makeOldestFinal 29 = .ok (.iinc 2 1, 3) := by decide +kernel
theorem dX4_makeOldestFinal_32 : decode cX4_makeOldestFinal 32 = .ok (.goto (-23), 3) := by decide +kernel
theorem dX4_makeOldestFinal_35 : decode cX4_makeOldestFinal 35 = .ok (.aload_n 0, 1) := by decide +kernel
theorem dX4_makeOldestFinal_36 : decode cX4_makeOldestFinal 36 = .ok (.getfield 27, 3) := by decide +kernel
theorem dX4_makeOldestFinal_39 : decode cX4_makeOldestFinal 39 = .ok (.bipush 7, 2) := by decide +kernel
theorem dX4_makeOldestFinal_41 : decode cX4_makeOldestFinal 41 = .ok (.aload_n 1, 1) := by decide +kernel
theorem dX4_makeOldestFinal_42 : decode cX4_makeOldestFinal 42 = .ok (.aastore, 1) := by decide +kernel
theorem dX4_makeOldestFinal_43 : decode cX4_makeOldestFinal 43 = .ok (.aload_n 0, 1) := by decide +kernel
theorem dX4_makeOldestFinal_44 : decode cX4_makeOldestFinal 44 = .ok (.bipush 7, 2) := by decide +kernel
theorem dX4_makeOldestFinal_46 : decode cX4_makeOldestFinal 46 = .ok (.putfield 31, 3) := by decide +kernel
theorem dX4_makeOldestFinal_49 : decode cX4_makeOldestFinal 49 = .ok (.return_, 1) := by decide +kernel
theorem dX4_letterOrGone_0 : decode cX4_letterOrGone 0 = .ok (.aload_n 0, 1) := by decide +kernel
theorem dX4_letterOrGone_1 : decode cX4_letterOrGone 1 = .ok (.getfield 23, 3) := by decide +kernel
theorem dX4_letterOrGone_4 : decode cX4_letterOrGone 4 = .ok (.aload_n 0, 1) := by decide +kernel
theorem dX4_letterOrGone_5 : decode cX4_letterOrGone 5 = .ok (.getfield 23, 3) := by decide +kernel
theorem dX4_letterOrGone_8 : decode cX4_letterOrGone 8 = .ok (.iload_n 1, 1) := by decide +kernel
theorem dX4_letterOrGone_9 : decode cX4_letterOrGone 9 = .ok (.invokevirtual 126, 3) := by decide +kernel
theorem dX4_letterOrGone_12 : decode cX4_letterOrGone 12 = .ok (.invokevirtual 240, 3) := by decide +kernel
theorem dX4_letterOrGone_15 : decode cX4_letterOrGone 15 = .ok (.ifCond .eq 14, 3) := by decide +kernel
theorem dX4_letterOrGone_18 : decode cX4_letterOrGone 18 = .ok (.aload_n 0, 1) := by decide +kernel
theorem dX4_letterOrGone_19 : decode cX4_letterOrGone 19 = .ok (.getfield 23, 3) := by decide +kernel
theorem dX4_letterOrGone_22 : decode cX4_letterOrGone 22 = .ok (.iload_n 1, 1) := by decide +kernel
theorem dX4_letterOrGone_23 : decode cX4_letterOrGone 23 = .ok (.invokevirtual 142, 3) := by decide +kernel
theorem dX4_letterOrGone_26 : decode cX4_letterOrGone 26 = .ok (.goto 5, 3) := by decide +kernel
theorem dX4_letterOrGone_29 : decode cX4_letterOrGone 29 = .ok (.bipush (-2), 2) := by decide +kernel
theorem dX4_letterOrGone_31 : decode cX4_letterOrGone 31 = .ok (.ireturn, 1) := by decide +kernel
theorem dX4_isUsedByMessage_0 : decode cX4_isUsedByMessage 0 = .ok (.aload_n 0, 1) := by decide +kernel
theorem dX4_isUsedByMessage_1 : decode cX4_isUsedByMessage 1 = .ok (.getfield 23, 3) := by decide +kernel
theorem dX4_isUsedByMessage_4 : decode cX4_isUsedByMessage 4 = .ok (.iload_n 1, 1) := by decide +kernel
theorem dX4_isUsedByMessage_5 : decode cX4_isUsedByMessage 5 = .ok (.invokevirtual 138, 3) := by decide +kernel
theorem dX4_isUsedByMessage_8 : decode cX4_isUsedByMessage 8 = .ok (.ifCond .eq 25, 3) := by decide +kernel
theorem dX4_isUsedByMessage_11 : decode cX4_isUsedByMessage 11 = .ok (.aload_n 0, 1) := by decide +kernel
theorem dX4_isUsedByMessage_12 : decode cX4_isUsedByMessage 12 = .ok (.getfield 23, 3) := by decide +kernel
theorem dX4_isUsedByMessage_15 : decode cX4_isUsedByMessage 15 = .ok (.aload_n 0, 1) := by decide +kernel
theorem dX4_isUsedByMessage_16 : decode cX4_isUsedByMessage 16 = .ok (.getfield 23, 3) := by decide +kernel
theorem dX4_isUsedByMessage_19 : decode cX4_isUsedByMessage 19 = .ok (.iload_n 1, 1) := by decide +kernel
theorem dX4_isUsedByMessage_20 : decode cX4_isUsedByMessage 20 = .ok (.invokevirtual 142, 3) := by decide +kernel
theorem dX4_isUsedByMessage_23 : decode cX4_isUsedByMessage 23 = .ok (.invokevirtual 145, 3) := by decide +kernel
theorem dX4_isUsedByMessage_26 : decode cX4_isUsedByMessage 26 = .ok (.ifCond .le 7, 3) := by decide +kernel
theorem dX4_isUsedByMessage_29 : decode cX4_isUsedByMessage 29 = .ok (.iconst 1, 1) := by decide +kernel
theorem dX4_isUsedByMessage_30 : decode cX4_isUsedByMessage 30 = .ok (.goto 4, 3) := by decide +kernel
theorem dX4_isUsedByMessage_33 : decode cX4_isUsedByMessage 33 = .ok (.iconst 0, 1) := by decide +kernel
theorem dX4_isUsedByMessage_34 : decode cX4_isUsedByMessage 34 = .ok (.ireturn, 1) := by decide +kernel
theorem dX4_bestCuts_0 : decode cX4_bestCuts 0 = .ok (.aload_n 0, 1) := by decide +kernel
theorem dX4_bestCuts_1 : decode cX4_bestCuts 1 = .ok (.getfield 23, 3) := by decide +kernel
theorem dX4_bestCuts_4 : decode cX4_bestCuts 4 = .ok (.getfield 99, 3) := by decide +kernel
theorem dX4_bestCuts_7 : decode cX4_bestCuts 7 = .ok (.bipush 8, 2) := by decide +kernel
theorem dX4_bestCuts_9 : decode cX4_bestCuts 9 = .ok (.if_icmp .le 6, 3) := by decide +kernel
theorem dX4_bestCuts_12 : decode cX4_bestCuts 12 = .ok (.bipush (-2), 2) := by decide +kernel
theorem dX4_bestCuts_14 : decode cX4_bestCuts 14 = .ok (.ireturn, 1) := by decide +kernel
theorem dX4_bestCuts_15 : decode cX4_bestCuts 15 = .ok (.aload_n 0, 1) := by decide +kernel
theorem dX4_bestCuts_16 : decode cX4_bestCuts 16 = .ok (.getfield 55, 3) := by decide +kernel
theorem dX4_bestCuts_19 : decode cX4_bestCuts 19 = .ok (.ifCond .ne 28, 3) := by decide +kernel
theorem dX4_bestCuts_22 : decode cX4_bestCuts 22 = .ok (.aload_n 0, 1) := by decide +kernel
theorem dX4_bestCuts_23 : decode cX4_bestCuts 23 = .ok (.getfield 51, 3) := by decide +kernel
theorem dX4_bestCuts_26 : decode cX4_bestCuts 26 = .ok (.aload_n 0, 1) := by decide +kernel
theorem dX4_bestCuts_27 : decode cX4_bestCuts 27 = .ok (.getfield 23, 3) := by decide +kernel
theorem dX4_bestCuts_30 : decode cX4_bestCuts 30 = .ok (.invokevirtual 265, 3) := by decide +kernel
theorem dX4_bestCuts_33 : decode cX4_bestCuts 33 = .ok (.aload_n 0, 1) := by decide +kernel
theorem dX4_bestCuts_34 : decode cX4_bestCuts 34 = .ok (.getfield 51, 3) := by decide +kernel
theorem dX4_bestCuts_37 : decode cX4_bestCuts 37 = .ok (.lconst 0, 1) := by decide +kernel
theorem dX4_bestCuts_38 : decode cX4_bestCuts 38 = .ok (.invokevirtual 200, 3) := by decide +kernel
theorem dX4_bestCuts_41 : decode cX4_bestCuts 41 = .ok (.pop, 1) := by decide +kernel
theorem dX4_bestCuts_42 : decode cX4_bestCuts 42 = .ok (.aload_n 0, 1) := by decide +kernel
theorem dX4_bestCuts_43 : decode cX4_bestCuts 43 = .ok (.iconst 1, 1) := by decide +kernel
theorem dX4_bestCuts_44 : decode cX4_bestCuts 44 = .ok (.putfield 55, 3) := by decide +kernel
theorem dX4_bestCuts_47 : decode cX4_bestCuts 47 = .ok (.aload_n 0, 1) := by decide +kernel
theorem dX4_bestCuts_48 : decode cX4_bestCuts 48 = .ok (.getfield 51, 3) := by decide +kernel
theorem dX4_bestCuts_51 : decode cX4_bestCuts 51 = .ok (.getfield 268, 3) := by decide +kernel
theorem dX4_bestCuts_54 : decode cX4_bestCuts 54 = .ok (.ireturn, 1) := by decide +kernel
theorem dX4_sizeOfCut_0 : decode cX4_sizeOfCut 0 = .ok (.aload_n 0, 1) := by decide +kernel
theorem dX4_sizeOfCut_1 : decode cX4_sizeOfCut 1 = .ok (.getfield 23, 3) := by decide +kernel
theorem dX4_sizeOfCut_4 : decode cX4_sizeOfCut 4 = .ok (.aload_n 0, 1) := by decide +kernel
theorem dX4_sizeOfCut_5 : decode cX4_sizeOfCut 5 = .ok (.getfield 51, 3) := by decide +kernel
theorem dX4_sizeOfCut_8 : decode cX4_sizeOfCut 8 = .ok (.iload_n 1, 1) := by decide +kernel
theorem dX4_sizeOfCut_9 : decode cX4_sizeOfCut 9 = .ok (.invokevirtual 183, 3) := by decide +kernel
theorem dX4_sizeOfCut_12 : decode cX4_sizeOfCut 12 = .ok (.invokevirtual 132, 3) := by decide +kernel
theorem dX4_sizeOfCut_15 : decode cX4_sizeOfCut 15 = .ok (.ireturn, 1) := by decide +kernel
theorem dX4_sizesOfCut_0 : decode cX4_sizesOfCut 0 = .ok (.aload_n 0, 1) := by decide +kernel
theorem dX4_sizesOfCut_1 : decode cX4_sizesOfCut 1 = .ok (.getfield 51, 3) := by decide +kernel
theorem dX4_sizesOfCut_4 : decode cX4_sizesOfCut 4 = .ok (.iload_n 1, 1) := by decide +kernel
theorem dX4_sizesOfCut_5 : decode cX4_sizesOfCut 5 = .ok (.invokevirtual 180, 3) := by decide +kernel
theorem dX4_sizesOfCut_8 : decode cX4_sizesOfCut 8 = .ok (.aload_n 0, 1) := by decide +kernel
theorem dX4_sizesOfCut_9 : decode cX4_sizesOfCut 9 = .ok (.iload_n 1, 1) := by decide +kernel
theorem dX4_sizesOfCut_10 : decode cX4_sizesOfCut 10 = .ok (.invokevirtual 192, 3) := by decide +kernel
theorem dX4_sizesOfCut_13 : decode cX4_sizesOfCut 13 = .ok (.imul, 1) := by decide +kernel
theorem dX4_sizesOfCut_14 : decode cX4_sizesOfCut 14 = .ok (.ireturn, 1) := by decide +kernel
theorem dX4_isLetter_0 : decode cX4_isLetter 0 = .ok (.iload_n 0, 1) := by decide +kernel
theorem dX4_isLetter_1 : decode cX4_isLetter 1 = .ok (.bipush 97, 2) := by decide +kernel
theorem dX4_isLetter_3 : decode cX4_isLetter 3 = .ok (.if_icmp .lt 13, 3) := by decide +kernel
theorem dX4_isLetter_6 : decode cX4_isLetter 6 = .ok (.iload_n 0, 1) := by decide +kernel
theorem dX4_isLetter_7 : decode cX4_isLetter 7 = .ok (.bipush 122, 2) := by decide +kernel
theorem dX4_isLetter_9 : decode cX4_isLetter 9 = .ok (.if_icmp .gt 7, 3) := by decide +kernel
theorem dX4_isLetter_12 : decode cX4_isLetter 12 = .ok (.iconst 1, 1) := by decide +kernel
theorem dX4_isLetter_13 : decode cX4_isLetter 13 = .ok (.goto 4, 3) := by decide +kernel
theorem dX4_isLetter_16 : decode cX4_isLetter 16 = .ok (.iconst 0, 1) := by decide +kernel
theorem dX4_isLetter_17 : decode cX4_isLetter 17 = .ok (.ireturn, 1) := by decide +kernel
theorem dX4_sideOf_0 : decode cX4_sideOf 0 = .ok (.iload_n 0, 1) := by decide +kernel
theorem dX4_sideOf_1 : decode cX4_sideOf 1 = .ok (.bipush 48, 2) := by decide +kernel
theorem dX4_sideOf_3 : decode cX4_sideOf 3 = .ok (.if_icmp .ge 7, 3) := by decide +kernel
theorem dX4_sideOf_6 : decode cX4_sideOf 6 = .ok (.iconst 0, 1) := by decide +kernel
theorem dX4_sideOf_7 : decode cX4_sideOf 7 = .ok (.goto 4, 3) := by decide +kernel
theorem dX4_sideOf_10 : decode cX4_sideOf 10 = .ok (.iconst 1, 1) := by decide +kernel
theorem dX4_sideOf_11 : decode cX4_sideOf 11 = .ok (.ireturn, 1) := by decide +kernel
theorem dX4_rowOf_0 : decode cX4_rowOf 0 = .ok (.iload_n 0, 1) := by decide +kernel
theorem dX4_rowOf_1 : decode cX4_rowOf 1 = .ok (.bipush 48, 2) := by decide +kernel
theorem dX4_rowOf_3 : decode cX4_rowOf 3 = .ok (.irem, 1) := by decide +kernel
theorem dX4_rowOf_4 : decode cX4_rowOf 4 = .ok (.bipush 8, 2) := by decide +kernel
theorem dX4_rowOf_6 : decode cX4_rowOf 6 = .ok (.idiv, 1) := by decide +kernel
theorem dX4_rowOf_7 : decode cX4_rowOf 7 = .ok (.ireturn, 1) := by decide +kernel
theorem dX4_columnOf_0 : decode cX4_columnOf 0 = .ok (.iload_n 0, 1) := by decide +kernel
theorem dX4_columnOf_1 : decode cX4_columnOf 1 = .ok (.bipush 8, 2) := by decide +kernel
theorem dX4_columnOf_3 : decode cX4_columnOf 3 = .ok (.irem, 1) := by decide +kernel
theorem dX4_columnOf_4 : decode cX4_columnOf 4 = .ok (.ireturn, 1) := by decide +kernel
theorem dX5_init_0 : decode cX5_init 0 = .ok (.aload_n 0, 1) := by decide +kernel
theorem dX5_init_1 : decode cX5_init 1 = .ok (.invokespecial 1, 3) := by decide +kernel
theorem dX5_init_4 : decode cX5_init 4 = .ok (.aload_n 0, 1) := by decide +kernel
theorem dX5_init_5 : decode cX5_init 5 = .ok (.iload_n 1, 1) := by decide +kernel
theorem dX5_init_6 : decode cX5_init 6 = .ok (.putfield 7, 3) := by decide +kernel
theorem dX5_init_9 : decode cX5_init 9 = .ok (.return_, 1) := by decide +kernel
theorem dX5_below_0 : decode cX5_below 0 = .ok (.aload_n 0, 1) := by decide +kernel
theorem dX5_below_1 : decode cX5_below 1 = .ok (.ldc 13, 2) := by decide +kernel
theorem dX5_below_3 : decode cX5_below 3 = .ok (.aload_n 0, 1) := by decide +kernel
theorem dX5_below_4 : decode cX5_below 4 = .ok (.getfield 7, 3) := by decide +kernel
theorem dX5_below_7 : decode cX5_below 7 = .ok (.imul, 1) := by decide +kernel
theorem dX5_below_8 : decode cX5_below 8 = .ok (.sipush 12345, 3) := by decide +kernel
theorem dX5_below_11 : decode cX5_below 11 = .ok (.iadd, 1) := by decide +kernel
theorem dX5_below_12 : decode cX5_below 12 = .ok (.putfield 7, 3) := by decide +kernel
theorem dX5_below_15 : decode cX5_below 15 = .ok (.aload_n 0, 1) := by decide +kernel
theorem dX5_below_16 : decode cX5_below 16 = .ok (.getfield 7, 3) := by decide +kernel
theorem dX5_below_19 : decode cX5_below 19 = .ok (.bipush 16, 2) := by decide +kernel
theorem dX5_below_21 : decode cX5_below 21 = .ok (.iushr, 1) := by decide +kernel
theorem dX5_below_22 : decode cX5_below 22 = .ok (.iload_n 1, 1) := by decide +kernel
theorem dX5_below_23 : decode cX5_below 23 = .ok (.irem, 1) := by decide +kernel
theorem dX5_below_24 : decode cX5_below 24 = .ok (.ireturn, 1) := by decide +kernel
theorem dX6_init_0 : decode cX6_init 0 = .ok (.aload_n 0, 1) := by decide +kernel
theorem dX6_init_1 : decode cX6_init 1 = .ok (.invokespecial 1, 3) := by decide +kernel
theorem dX6_init_4 : decode cX6_init 4 = .ok (.aload_n 0, 1) := by decide +kernel
theorem dX6_init_5 : decode cX6_init 5 = .ok (.iconst 1, 1) := by decide +kernel
theorem dX6_init_6 : decode cX6_init 6 = .ok (.putfield 7, 3) := by decide +kernel
theorem dX6_init_9 : decode cX6_init 9 = .ok (.aload_n 0, 1) := by decide +kernel
theorem dX6_init_10 : decode cX6_init 10 = .ok (.iconst 1, 1) := by decide +kernel
theorem dX6_init_11 : decode cX6_init 11 = .ok (.putfield 13, 3) := by decide +kernel
theorem dX6_init_14 : decode cX6_init 14 = .ok (.aload_n 0, 1) := by decide +kernel
theorem dX6_init_15 : decode cX6_init 15 = .ok (.iconst 2, 1) := by decide +kernel
theorem dX6_init_16 : decode cX6_init 16 = .ok (.anewarray 16, 3) := by decide +kernel
theorem dX6_init_19 : decode cX6_init 19 = .ok (.dup, 1) := by decide +kernel
theorem dX6_init_20 : decode cX6_init 20 = .ok (.iconst 0, 1) := by decide +kernel
theorem dX6_init_21 : decode cX6_init 21 = .ok (.ldc 18, 2) := by decide +kernel
theorem dX6_init_23 : decode cX6_init 23 = .ok (.aastore, 1) := by decide +kernel
theorem dX6_init_24 : decode cX6_init 24 = .ok (.dup, 1) := by decide +kernel
theorem dX6_init_25 : decode cX6_init 25 = .ok (.iconst 1, 1) := by decide +kernel
theorem dX6_init_26 : decode cX6_init 26 = .ok (.ldc 18, 2) := by decide +kernel
theorem dX6_init_28 : decode cX6_init 28 = .ok (.aastore, 1) := by decide +kernel
theorem dX6_init_29 : decode cX6_init 29 = .ok (.putfield 20, 3) := by decide +kernel
theorem dX6_init_32 : decode cX6_init 32 = .ok (.aload_n 0, 1) := by decide +kernel
theorem dX6_init_33 : decode cX6_init 33 = .ok (.iconst 2, 1) := by decide +kernel
theorem dX6_init_34 : decode cX6_init 34 = .ok (.newarray .int, 2) := by decide +kernel
theorem dX6_init_36 : decode cX6_init 36 = .ok (.dup, 1) := by decide +kernel
theorem dX6_init_37 : decode cX6_init 37 = .ok (.iconst 0, 1) := by decide +kernel
theorem dX6_init_38 : decode cX6_init 38 = .ok (.iconst 1, 1) := by decide +kernel
theorem dX6_init_39 : decode cX6_init 39 = .ok (.iastore, 1) := by decide +kernel
theorem dX6_init_40 : decode cX6_init 40 = .ok (.dup, 1) := by decide +kernel
theorem dX6_init_41 : decode cX6_init 41 = .ok (.iconst 1, 1) := by decide +kernel
theorem dX6_init_42 : decode cX6_init 42 = .ok (.iconst 1, 1) := by decide +kernel
theorem dX6_init_43 : decode cX6_init 43 = .ok (.iastore, 1) := by decide +kernel
theorem dX6_init_44 : decode cX6_init 44 = .ok (.putfield 24, 3) := by decide +kernel
theorem dX6_init_47 : decode cX6_init 47 = .ok (.aload_n 0, 1) := by decide +kernel
theorem dX6_init_48 : decode cX6_init 48 = .ok (.iconst 1, 1) := by decide +kernel
theorem dX6_init_49 : decode cX6_init 49 = .ok (.putfield 28, 3) := by decide +kernel
theorem dX6_init_52 : decode cX6_init 52 = .ok (.aload_n 0, 1) := by decide +kernel
theorem dX6_init_53 : decode cX6_init 53 = .ok (.iconst 1, 1) := by decide +kernel
theorem dX6_init_54 : decode cX6_init 54 = .ok (.newarray .boolean, 2) := by decide +kernel
theorem dX6_init_56 : decode cX6_init 56 = .ok (.putfield 31, 3) := by decide +kernel
theorem dX6_init_59 : decode cX6_init 59 = .ok (.aload_n 0, 1) := by decide +kernel
theorem dX6_init_60 : decode cX6_init 60 = .ok (.ldc 35, 2) := by decide +kernel
theorem dX6_init_62 : decode cX6_init 62 = .ok (.putfield 37, 3) := by decide +kernel
theorem dX6_init_65 : decode cX6_init 65 = .ok (.aload_n 0, 1) := by decide +kernel
theorem dX6_init_66 : decode cX6_init 66 = .ok (.bipush 24, 2) := by decide +kernel
theorem dX6_init_68 : decode cX6_init 68 = .ok (.newarray .int, 2) := by decide +kernel
theorem dX6_init_70 : decode cX6_init 70 = .ok (.putfield 41, 3) := by decide +kernel
theorem dX6_init_73 : decode cX6_init 73 = .ok (.aload_n 0, 1) := by decide +kernel
theorem dX6_init_74 : decode cX6_init 74 = .ok (.bipush 24, 2) := by decide +kernel
theorem dX6_init_76 : decode cX6_init 76 = .ok (.newarray .int, 2) := by decide +kernel
theorem dX6_init_78 : decode cX6_init 78 = .ok (.putfield 44, 3) := by decide +kernel
theorem dX6_init_81 : decode cX6_init 81 = .ok (.return_, 1) := by decide +kernel
theorem dX6_copy_0 : decode cX6_copy 0 = .ok (.new 8, 3) := by decide +kernel
theorem dX6_copy_3 : decode cX6_copy 3 = .ok (.dup, 1) := by decide +kernel
theorem dX6_copy_4 : decode cX6_copy 4 = .ok (.invokespecial 47, 3) := by decide +kernel
theorem dX6_copy_7 : decode cX6_copy 7 = .ok (.astore_n 1, 1) := by decide +kernel
theorem dX6_copy_8 : decode cX6_copy 8 = .ok (.aload_n 1, 1) := by decide +kernel
theorem dX6_copy_9 : decode cX6_copy 9 = .ok (.aload_n 0, 1) := by decide +kernel
theorem dX6_copy_10 : decode cX6_copy 10 = .ok (.getfield 7, 3) := by decide +kernel
theorem dX6_copy_13 : decode cX6_copy 13 = .ok (.putfield 7, 3) := by decide +kernel
theorem dX6_copy_16 : decode cX6_copy 16 = .ok (.aload_n 1, 1) := by decide +kernel
theorem dX6_copy_17 : decode cX6_copy 17 = .ok (.aload_n 0, 1) := by decide +kernel
theorem dX6_copy_18 : decode cX6_copy 18 = .ok (.getfield 13, 3) := by decide +kernel
theorem dX6_copy_21 : decode cX6_copy 21 = .ok (.putfield 13, 3) := by decide +kernel
theorem dX6_copy_24 : decode cX6_copy 24 = .ok (.aload_n 1, 1) := by decide +kernel
theorem dX6_copy_25 : decode cX6_copy 25 = .ok (.aload_n 0, 1) := by decide +kernel
theorem dX6_copy_26 : decode cX6_copy 26 = .ok (.getfield 20, 3) := by decide +kernel
theorem dX6_copy_29 : decode cX6_copy 29 = .ok (.putfield 20, 3) := by decide +kernel
theorem dX6_copy_32 : decode cX6_copy 32 = .ok (.aload_n 1, 1) := by decide +kernel
theorem dX6_copy_33 : decode cX6_copy 33 = .ok (.aload_n 0, 1) := by decide +kernel
theorem dX6_copy_34 : decode cX6_copy 34 = .ok (.getfield 24, 3) := by decide +kernel
theorem dX6_copy_37 : decode cX6_copy 37 = .ok (.putfield 24, 3) := by decide +kernel
theorem dX6_copy_40 : decode cX6_copy 40 = .ok (.aload_n 1, 1) := by decide +kernel
theorem dX6_copy_41 : decode cX6_copy 41 = .ok (.aload_n 0, 1) := by decide +kernel
theorem dX6_copy_42 : decode cX6_copy 42 = .ok (.getfield 28, 3) := by decide +kernel
theorem dX6_copy_45 : decode cX6_copy 45 = .ok (.putfield 28, 3) := by decide +kernel
theorem dX6_copy_48 : decode cX6_copy 48 = .ok (.aload_n 1, 1) := by decide +kernel
theorem dX6_copy_49 : decode cX6_copy 49 = .ok (.aload_n 0, 1) := by decide +kernel
theorem dX6_copy_50 : decode cX6_copy 50 = .ok (.getfield 31, 3) := by decide +kernel
theorem dX6_copy_53 : decode cX6_copy 53 = .ok (.invokevirtual 48, 3) := by decide +kernel
theorem dX6_copy_56 : decode cX6_copy 56 = .ok (.checkcast 49, 3) := by decide +kernel
theorem dX6_copy_59 : decode cX6_copy 59 = .ok (.putfield 31, 3) := by decide +kernel
theorem dX6_copy_62 : decode cX6_copy 62 = .ok (.aload_n 1, 1) := by decide +kernel
theorem dX6_copy_63 : decode cX6_copy 63 = .ok (.aload_n 0, 1) := by decide +kernel
theorem dX6_copy_64 : decode cX6_copy 64 = .ok (.getfield 37, 3) := by decide +kernel
theorem dX6_copy_67 : decode cX6_copy 67 = .ok (.putfield 37, 3) := by decide +kernel
theorem dX6_copy_70 : decode cX6_copy 70 = .ok (.aload_n 1, 1) := by decide +kernel
theorem dX6_copy_71 : decode cX6_copy 71 = .ok (.aload_n 0, 1) := by decide +kernel
theorem dX6_copy_72 : decode cX6_copy 72 = .ok (.getfield 53, 3) := by decide +kernel
theorem dX6_copy_75 : decode cX6_copy 75 = .ok (.putfield 53, 3) := by decide +kernel
theorem dX6_copy_78 : decode cX6_copy 78 = .ok (.aload_n 1, 1) := by decide +kernel
theorem dX6_copy_79 : decode cX6_copy 79 = .ok (.aload_n 0, 1) := by decide +kernel
theorem dX6_copy_80 : decode cX6_copy 80 = .ok (.getfield 56, 3) := by decide +kernel
theorem dX6_copy_83 : decode cX6_copy 83 = .ok (.putfield 56, 3) := by decide +kernel
theorem dX6_copy_86 : decode cX6_copy 86 = .ok (.aload_n 1, 1) := by decide +kernel
theorem dX6_copy_87 : decode cX6_copy 87 = .ok (.areturn, 1) := by decide +kernel
theorem dX6_all_0 : decode cX6_all 0 = .ok (.aload_n 0, 1) := by decide +kernel
theorem dX6_all_1 : decode cX6_all 1 = .ok (.getfield 7, 3) := by decide +kernel
theorem dX6_all_4 : decode cX6_all 4 = .ok (.aload_n 0, 1) := by decide +kernel
theorem dX6_all_5 : decode cX6_all 5 = .ok (.getfield 13, 3) := by decide +kernel
theorem dX6_all_8 : decode cX6_all 8 = .ok (.imul, 1) := by decide +kernel
theorem dX6_all_9 : decode cX6_all 9 = .ok (.ireturn, 1) := by decide +kernel
theorem dX6_sign_0 : decode cX6_sign 0 = .ok (.aload_n 0, 1) := by decide +kernel
theorem dX6_sign_1 : decode cX6_sign 1 = .ok (.getfield 20, 3) := by decide +kernel
theorem dX6_sign_4 : decode cX6_sign 4 = .ok (.iload_n 1, 1) := by decide +kernel
theorem dX6_sign_5 : decode cX6_sign 5 = .ok (.aload_n 0, 1) := by decide +kernel
theorem dX6_sign_6 : decode cX6_sign 6 = .ok (.getfield 13, 3) := by decide +kernel
theorem dX6_sign_9 : decode cX6_sign 9 = .ok (.imul, 1) := by decide +kernel
theorem dX6_sign_10 : decode cX6_sign 10 = .ok (.iload_n 2, 1) := by decide +kernel
theorem dX6_sign_11 : decode cX6_sign 11 = .ok (.aload_n 0, 1) := by decide +kernel
theorem dX6_sign_12 : decode cX6_sign 12 = .ok (.getfield 7, 3) := by decide +kernel
theorem dX6_sign_15 : decode cX6_sign 15 = .ok (.idiv, 1) := by decide +kernel
theorem dX6_sign_16 : decode cX6_sign 16 = .ok (.iadd, 1) := by decide +kernel
theorem dX6_sign_17 : decode cX6_sign 17 = .ok (.aaload, 1) := by decide +kernel
theorem dX6_sign_18 : decode cX6_sign 18 = .ok (.iload_n 2, 1) := by decide +kernel
theorem dX6_sign_19 : decode cX6_sign 19 = .ok (.aload_n 0, 1) := by decide +kernel
theorem dX6_sign_20 : decode cX6_sign 20 = .ok (.getfield 7, 3) := by decide +kernel
theorem dX6_sign_23 : decode cX6_sign 23 = .ok (.irem, 1) := by decide +kernel
theorem dX6_sign_24 : decode cX6_sign 24 = .ok (.invokevirtual 59, 3) := by decide +kernel
theorem dX6_sign_27 : decode cX6_sign 27 = .ok (.ireturn, 1) := by decide +kernel
theorem dX6_size_0 : decode cX6_size 0 = .ok (.aload_n 0, 1) := by decide +kernel
theorem dX6_size_1 : decode cX6_size 1 = .ok (.getfield 24, 3) := by decide +kernel
theorem dX6_size_4 : decode cX6_size 4 = .ok (.iload_n 1, 1) := by decide +kernel
theorem dX6_size_5 : decode cX6_size 5 = .ok (.aload_n 0, 1) := by decide +kernel
theorem dX6_size_6 : decode cX6_size 6 = .ok (.getfield 13, 3) := by decide +kernel
theorem dX6_size_9 : decode cX6_size 9 = .ok (.imul, 1) := by decide +kernel
theorem dX6_size_10 : decode cX6_size 10 = .ok (.iload_n 2, 1) := by decide +kernel
theorem dX6_size_11 : decode cX6_size 11 = .ok (.aload_n 0, 1) := by decide +kernel
theorem dX6_size_12 : decode cX6_size 12 = .ok (.getfield 7, 3) := by decide +kernel
theorem dX6_size_15 : decode cX6_size 15 = .ok (.idiv, 1) := by decide +kernel
theorem dX6_size_16 : decode cX6_size 16 = .ok (.iadd, 1) := by decide +kernel
theorem dX6_size_17 : decode cX6_size 17 = .ok (.iaload, 1) := by decide +kernel
theorem dX6_size_18 : decode cX6_size 18 = .ok (.ireturn, 1) := by decide +kernel
theorem dX6_cell_0 : decode cX6_cell 0 = .ok (.iload_n 1, 1) := by decide +kernel
theorem dX6_cell_1 : decode cX6_cell 1 = .ok (.ifCond .ne 5, 3) := by decide +kernel
theorem dX6_cell_4 : decode cX6_cell 4 = .ok (.iload_n 2, 1) := by decide +kernel
theorem dX6_cell_5 : decode cX6_cell 5 = .ok (.ireturn, 1) := by decide +kernel
theorem dX6_cell_6 : decode cX6_cell 6 = .ok (.iload_n 2, 1) := by decide +kernel
theorem dX6_cell_7 : decode cX6_cell 7 = .ok (.aload_n 0, 1) := by decide +kernel
theorem dX6_cell_8 : decode cX6_cell 8 = .ok (.getfield 7, 3) := by decide +kernel
theorem dX6_cell_11 : decode cX6_cell 11 = .ok (.idiv, 1) := by decide +kernel
theorem dX6_cell_12 : decode cX6_cell 12 = .ok (.aload_n 0, 1) := by decide +kernel
theorem dX6_cell_13 : decode cX6_cell 13 = .ok (.getfield 7, 3) := by decide +kernel
theorem dX6_cell_16 : decode cX6_cell 16 = .ok (.imul, 1) := by decide +kernel
theorem dX6_cell_17 : decode cX6_cell 17 = .ok (.aload_n 0, 1) := by decide +kernel
theorem dX6_cell_18 : decode cX6_cell 18 = .ok (.getfield 7, 3) := by decide +kernel
theorem dX6_cell_21 : decode cX6_cell 21 = .ok (.iadd, 1) := by decide +kernel
theorem dX6_cell_22 : decode cX6_cell 22 = .ok (.iconst 1, 1) := by decide +kernel
theorem dX6_cell_23 : decode cX6_cell 23 = .ok (.isub, 1) := by decide +kernel
theorem dX6_cell_24 : decode cX6_cell 24 = .ok (.istore_n 3, 1) := by decide +kernel
theorem dX6_cell_25 : decode cX6_cell 25 = .ok (.iload_n 3, 1) := by decide +kernel
theorem dX6_cell_26 : decode cX6_cell 26 = .ok (.iload_n 2, 1) := by decide +kernel
theorem dX6_cell_27 : decode cX6_cell 27 = .ok (.aload_n 0, 1) := by decide +kernel
theorem dX6_cell_28 : decode cX6_cell 28 = .ok (.getfield 7, 3) := by decide +kernel
theorem dX6_cell_31 : decode cX6_cell 31 = .ok (.irem, 1) := by decide +kernel
theorem dX6_cell_32 : decode cX6_cell 32 = .ok (.isub, 1) := by decide +kernel
theorem dX6_cell_33 : decode cX6_cell 33 = .ok (.ireturn, 1) := by decide +kernel
theorem dX6_canUse_0 : decode cX6_canUse 0 = .ok (.aload_n 0, 1) := by decide +kernel
theorem dX6_canUse_1 : decode cX6_canUse 1 = .ok (.iload_n 1, 1) := by decide +kernel
theorem dX6_canUse_2 : decode cX6_canUse 2 = .ok (.iload_n 2, 1) := by decide +kernel
theorem dX6_canUse_3 : decode cX6_canUse 3 = .ok (.invokevirtual 63, 3) := by decide +kernel
theorem dX6_canUse_6 : decode cX6_canUse 6 = .ok (.bipush 45, 2) := by decide +kernel
theorem dX6_canUse_8 : decode cX6_canUse 8 = .ok (.if_icmp .eq 34, 3) := by decide +kernel
theorem dX6_canUse_11 : decode cX6_canUse 11 = .ok (.aload_n 0, 1) := by decide +kernel
theorem dX6_canUse_12 : decode cX6_canUse 12 = .ok (.getfield 31, 3) := by decide +kernel
theorem dX6_canUse_15 : decode cX6_canUse 15 = .ok (.aload_n 0, 1) := by decide +kernel
theorem dX6_canUse_16 : decode cX6_canUse 16 = .ok (.iload_n 1, 1) := by decide +kernel
theorem dX6_canUse_17 : decode cX6_canUse 17 = .ok (.iload_n 2, 1) := by decide +kernel
theorem dX6_canUse_18 : decode cX6_canUse 18 = .ok (.invokevirtual 67, 3) := by decide +kernel
theorem dX6_canUse_21 : decode cX6_canUse 21 = .ok (.baload, 1) := by decide +kernel
theorem dX6_canUse_22 : decode cX6_canUse 22 = .ok (.ifCond .ne 20, 3) := by decide +kernel
theorem dX6_canUse_25 : decode cX6_canUse 25 = .ok (.aload_n 0, 1) := by decide +kernel
theorem dX6_canUse_26 : decode cX6_canUse 26 = .ok (.iload_n 1, 1) := by decide +kernel
theorem dX6_canUse_27 : decode cX6_canUse 27 = .ok (.iload_n 2, 1) := by decide +kernel
theorem dX6_canUse_28 : decode cX6_canUse 28 = .ok (.invokevirtual 71, 3) := by decide +kernel
theorem dX6_canUse_31 : decode cX6_canUse 31 = .ok (.aload_n 0, 1) := by decide +kernel
theorem dX6_canUse_32 : decode cX6_canUse 32 = .ok (.getfield 28, 3) := by decide +kernel
theorem dX6_canUse_35 : decode cX6_canUse 35 = .ok (.if_icmp .lt 7, 3) := by decide +kernel
theorem dX6_canUse_38 : decode cX6_canUse 38 = .ok (.iconst 1, 1) := by decide +kernel
theorem dX6_canUse_39 : decode cX6_canUse 39 = .ok (.goto 4, 3) := by decide +kernel
theorem dX6_canUse_42 : decode cX6_canUse 42 = .ok (.iconst 0, 1) := by decide +kernel
theorem dX6_canUse_43 : decode cX6_canUse 43 = .ok (.ireturn, 1) := by decide +kernel
theorem dX6_has_0 : decode cX6_has 0 = .ok (.iconst 0, 1) := by decide +kernel
theorem dX6_has_1 : decode cX6_has 1 = .ok (.istore_n 3, 1) := by decide +kernel
theorem dX6_has_2 : decode cX6_has 2 = .ok (.iload_n 3, 1) := by decide +kernel
theorem dX6_has_3 : decode cX6_has 3 = .ok (.iconst 2, 1) := by decide +kernel
theorem dX6_has_4 : decode cX6_has 4 = .ok (.if_icmp .ge 40, 3) := by decide +kernel
theorem dX6_has_7 : decode cX6_has 7 = .ok (.aload_n 0, 1) := by decide +kernel
theorem dX6_has_8 : decode cX6_has 8 = .ok (.iload_n 3, 1) := by decide +kernel
theorem dX6_has_9 : decode cX6_has 9 = .ok (.iload_n 1, 1) := by decide +kernel
theorem dX6_has_10 : decode cX6_has 10 = .ok (.invokevirtual 67, 3) := by decide +kernel
theorem dX6_has_13 : decode cX6_has 13 = .ok (.istore 4, 2) := by decide +kernel
theorem dX6_has_15 : decode cX6_has 15 = .ok (.aload_n 0, 1) := by decide +kernel
theorem dX6_has_16 : decode cX6_has 16 = .ok (.iload_n 3, 1) := by decide +kernel
theorem dX6_has_17 : decode cX6_has 17 = .ok (.iload 4, 2) := by decide +kernel
theorem dX6_has_19 : decode cX6_has 19 = .ok (.invokevirtual 74, 3) := by decide +kernel
theorem dX6_has_22 : decode cX6_has 22 = .ok (.ifCond .eq 16, 3) := by decide +kernel
theorem dX6_has_25 : decode cX6_has 25 = .ok (.aload_n 0, 1) := by decide +kernel
theorem dX6_has_26 : decode cX6_has 26 = .ok (.iload_n 3, 1) := by decide +kernel
theorem dX6_has_27 : decode cX6_has 27 = .ok (.iload 4, 2) := by decide +kernel
theorem dX6_has_29 : decode cX6_has 29 = .ok (.invokevirtual 63, 3) := by decide +kernel
theorem dX6_has_32 : decode cX6_has 32 = .ok (.iload_n 2, 1) := by decide +kernel
theorem dX6_has_33 : decode cX6_has 33 = .ok (.if_icmp .ne 5, 3) := by decide +kernel
theorem dX6_has_36 : decode cX6_has 36 = .ok (.iconst 1, 1) := by decide +kernel
theorem dX6_has_37 : decode cX6_has 37 = .ok (.ireturn, 1) := by decide +kernel
theorem dX6_has_38 : decode cX6_has 38 = .ok (.iinc 3 1, 3) := by decide +kernel
theorem dX6_has_41 : decode cX6_has 41 = .ok (.goto (-39), 3) := by decide +kernel
theorem dX6_has_44 : decode cX6_has 44 = .ok (.iconst 0, 1) := by decide +kernel
theorem dX6_has_45 : decode cX6_has 45 = .ok (.ireturn, 1) := by decide +kernel
theorem dX6_letter_0 : decode cX6_letter 0 = .ok (.aload_n 0, 1) := by decide +kernel
theorem dX6_letter_1 : decode cX6_letter 1 = .ok (.getfield 31, 3) := by decide +kernel
theorem dX6_letter_4 : decode cX6_letter 4 = .ok (.aload_n 0, 1) := by decide +kernel
theorem dX6_letter_5 : decode cX6_letter 5 = .ok (.iload_n 1, 1) := by decide +kernel
theorem dX6_letter_6 : decode cX6_letter 6 = .ok (.iload_n 2, 1) := by decide +kernel
theorem dX6_letter_7 : decode cX6_letter 7 = .ok (.invokevirtual 67, 3) := by decide +kernel
theorem dX6_letter_10 : decode cX6_letter 10 = .ok (.baload, 1) := by decide +kernel
theorem dX6_letter_11 : decode cX6_letter 11 = .ok (.ifCond .eq 8, 3) := by decide +kernel
theorem dX6_letter_14 : decode cX6_letter 14 = .ok (.bipush (-2), 2) := by decide +kernel
theorem dX6_letter_16 : decode cX6_letter 16 = .ok (.goto 27, 3) := by decide +kernel
theorem dX6_letter_19 : decode cX6_letter 19 = .ok (.aload_n 0, 1) := by decide +kernel
theorem dX6_letter_20 : decode cX6_letter 20 = .ok (.iload_n 1, 1) := by decide +kernel
theorem dX6_letter_21 : decode cX6_letter 21 = .ok (.iload_n 2, 1) := by decide +kernel
theorem dX6_letter_22 : decode cX6_letter 22 = .ok (.invokevirtual 63, 3) := by decide +kernel
theorem dX6_letter_25 : decode cX6_letter 25 = .ok (.bipush 45, 2) := by decide +kernel
theorem dX6_letter_27 : decode cX6_letter 27 = .ok (.if_icmp .ne 7, 3) := by decide +kernel
theorem dX6_letter_30 : decode cX6_letter 30 = .ok (.iconst (-1), 1) := by decide +kernel
theorem dX6_letter_31 : decode cX6_letter 31 = .ok (.goto 12, 3) := by decide +kernel
theorem dX6_letter_34 : decode cX6_letter 34 = .ok (.aload_n 0, 1) := by decide +kernel
theorem dX6_letter_35 : decode cX6_letter 35 = .ok (.iload_n 1, 1) := by decide +kernel
theorem dX6_letter_36 : decode cX6_letter 36 = .ok (.iload_n 2, 1) := by decide +kernel
theorem dX6_letter_37 : decode cX6_letter 37 = .ok (.invokevirtual 63, 3) := by decide +kernel
theorem dX6_letter_40 : decode cX6_letter 40 = .ok (.bipush 97, 2) := by decide +kernel
theorem dX6_letter_42 : decode cX6_letter 42 = .ok (.isub, 1) := by decide +kernel
theorem dX6_letter_43 : decode cX6_letter 43 = .ok (.ireturn, 1) := by decide +kernel
theorem dX6_many_0 : decode cX6_many 0 = .ok (.iconst 0, 1) := by decide +kernel
theorem dX6_many_1 : decode cX6_many 1 = .ok (.istore_n 2, 1) := by decide +kernel
theorem dX6_many_2 : decode cX6_many 2 = .ok (.iconst 0, 1) := by decide +kernel
theorem dX6_many_3 : decode cX6_many 3 = .ok (.istore_n 3, 1) := by decide +kernel
theorem dX6_many_4 : decode cX6_many 4 = .ok (.iload_n 3, 1) := by decide +kernel
theorem dX6_many_5 : decode cX6_many 5 = .ok (.aload_n 0, 1) := by decide +kernel
theorem dX6_many_6 : decode cX6_many 6 = .ok (.getfield 37, 3) := by decide +kernel
theorem dX6_many_9 : decode cX6_many 9 = .ok (.invokevirtual 78, 3) := by decide +kernel
theorem dX6_many_12 : decode cX6_many 12 = .ok (.if_icmp .ge 24, 3) := by decide +kernel
theorem dX6_many_15 : decode cX6_many 15 = .ok (.aload_n 0, 1) := by decide +kernel
theorem dX6_many_16 : decode cX6_many 16 = .ok (.getfield 37, 3) := by decide +kernel
theorem dX6_many_19 : decode cX6_many 19 = .ok (.iload_n 3, 1) := by decide +kernel
theorem dX6_many_20 : decode cX6_many 20 = .ok (.invokevirtual 59, 3) := by decide +kernel
theorem dX6_many_23 : decode cX6_many 23 = .ok (.iload_n 1, 1) := by decide +kernel
theorem dX6_many_24 : decode cX6_many 24 = .ok (.if_icmp .ne 6, 3) := by decide +kernel
theorem dX6_many_27 : decode cX6_many 27 = .ok (.iinc 2 1, 3) := by decide +kernel
theorem dX6_many_30 : decode cX6_many 30 = .ok (.iinc 3 1, 3) := by decide +kernel
theorem dX6_many_33 : decode cX6_many 33 = .ok (.goto (-29), 3) := by decide +kernel
theorem dX6_many_36 : decode cX6_many 36 = .ok (.iload_n 2, 1) := by decide +kernel
theorem dX6_many_37 : decode cX6_many 37 = .ok (.ireturn, 1) := by decide +kernel
theorem dX6_missing_0 : decode cX6_missing 0 = .ok (.iconst 0, 1) := by decide +kernel
theorem dX6_missing_1 : decode cX6_missing 1 = .ok (.istore_n 1, 1) := by decide +kernel
theorem dX6_missing_2 : decode cX6_missing 2 = .ok (.iconst 0, 1) := by decide +kernel
theorem dX6_missing_3 : decode cX6_missing 3 = .ok (.istore_n 2, 1) := by decide +kernel
theorem dX6_missing_4 : decode cX6_missing 4 = .ok (.iload_n 2, 1) := by decide +kernel
theorem dX6_missing_5 : decode cX6_missing 5 = .ok (.iconst 1, 1) := by decide +kernel
theorem dX6_missing_6 : decode cX6_missing 6 = .ok (.aload_n 0, 1) := by decide +kernel
theorem dX6_missing_7 : decode cX6_missing 7 = .ok (.getfield 37, 3) := by decide +kernel
theorem dX6_missing_10 : decode cX6_missing 10 = .ok (.invokevirtual 78, 3) := by decide +kernel
theorem dX6_missing_13 : decode cX6_missing 13 = .ok (.ishl, 1) := by decide +kernel
theorem dX6_missing_14 : decode cX6_missing 14 = .ok (.if_icmp .ge 117, 3) := by decide +kernel
theorem dX6_missing_17 : decode cX6_missing 17 = .ok (.iconst 0, 1) := by decide +kernel
theorem dX6_missing_18 : decode cX6_missing 18 = .ok (.istore_n 3, 1) := by decide +kernel
theorem dX6_missing_19 : decode cX6_missing 19 = .ok (.iconst 0, 1) := by decide +kernel
theorem dX6_missing_20 : decode cX6_missing 20 = .ok (.istore 4, 2) := by decide +kernel
theorem dX6_missing_22 : decode cX6_missing 22 = .ok (.iload 4, 2) := by decide +kernel
theorem dX6_missing_24 : decode cX6_missing 24 = .ok (.aload_n 0, 1) := by decide +kernel
theorem dX6_missing_25 : decode cX6_missing 25 = .ok (.invokevirtual 82, 3) := by decide +kernel
theorem dX6_missing_28 : decode cX6_missing 28 = .ok (.if_icmp .ge 86, 3) := by decide +kernel
theorem dX6_missing_31 : decode cX6_missing 31 = .ok (.iconst 0, 1) := by decide +kernel
theorem dX6_missing_32 : decode cX6_missing 32 = .ok (.istore 5, 2) := by decide +kernel
theorem dX6_missing_34 : decode cX6_missing 34 = .ok (.iconst 0, 1) := by decide +kernel
theorem dX6_missing_35 : decode cX6_missing 35 = .ok (.istore 6, 2) := by decide +kernel
theorem dX6_missing_37 : decode cX6_missing 37 = .ok (.iload 6, 2) := by decide +kernel
theorem dX6_missing_39 : decode cX6_missing 39 = .ok (.aload_n 0, 1) := by decide +kernel
theorem dX6_missing_40 : decode cX6_missing 40 = .ok (.getfield 37, 3) := by decide +kernel
theorem dX6_missing_43 : decode cX6_missing 43 = .ok (.invokevirtual 78, 3) := by decide +kernel
theorem dX6_missing_46 : decode cX6_missing 46 = .ok (.if_icmp .ge 49, 3) := by decide +kernel
theorem dX6_missing_49 : decode cX6_missing 49 = .ok (.iload 5, 2) := by decide +kernel
theorem dX6_missing_51 : decode cX6_missing 51 = .ok (.ifCond .ne 44, 3) := by decide +kernel
theorem dX6_missing_54 : decode cX6_missing 54 = .ok (.iload_n 2, 1) := by decide +kernel
theorem dX6_missing_55 : decode cX6_missing 55 = .ok (.iload 6, 2) := by decide +kernel
theorem dX6_missing_57 : decode cX6_missing 57 = .ok (.ishr, 1) := by decide +kernel
theorem dX6_missing_58 : decode cX6_missing 58 = .ok (.iconst 1, 1) := by decide +kernel
theorem dX6_missing_59 : decode cX6_missing 59 = .ok (.iand, 1) := by decide +kernel
theorem dX6_missing_60 : decode cX6_missing 60 = .ok (.iconst 1, 1) := by decide +kernel
theorem dX6_missing_61 : decode cX6_missing 61 = .ok (.if_icmp .ne 25, 3) := by decide +kernel
theorem dX6_missing_64 : decode cX6_missing 64 = .ok (.aload_n 0, 1) := by decide +kernel
theorem dX6_missing_65 : decode cX6_missing 65 = .ok (.iload 4, 2) := by decide +kernel
theorem dX6_missing_67 : decode cX6_missing 67 = .ok (.aload_n 0, 1) := by decide +kernel
theorem dX6_missing_68 : decode cX6_missing 68 = .ok (.getfield 37, 3) := by decide +kernel
theorem dX6_missing_71 : decode cX6_missing 71 = .ok (.iload 6, 2) := by decide +kernel
theorem dX6_missing_73 : decode cX6_missing 73 = .ok (.invokevirtual 59, 3) := by decide +kernel
theorem dX6_missing_76 : decode cX6_missing 76 = .ok (.invokevirtual 85, 3) := by decide +kernel
theorem dX6_missing_79 : decode cX6_missing 79 = .ok (.ifCond .eq 7, 3) := by decide +kernel
theorem dX6_missing_82 : decode cX6_missing 82 = .ok (.iconst 1, 1) := by decide +kernel
theorem dX6_missing_83 : decode cX6_missing 83 = .ok (.goto 4, 3) := by decide +kernel
theorem dX6_missing_86 : decode cX6_missing 86 = .ok (.iconst 0, 1) := by decide +kernel
theorem dX6_missing_87 : decode cX6_missing 87 = .ok (.istore 5, 2) := by decide +kernel
theorem dX6_missing_89 : decode cX6_missing 89 = .ok (.iinc 6 1, 3) := by decide +kernel
theorem dX6_missing_92 : decode cX6_missing 92 = .ok (.goto (-55), 3) := by decide +kernel
theorem dX6_missing_95 : decode cX6_missing 95 = .ok (.iload_n 3, 1) := by decide +kernel
theorem dX6_missing_96 : decode cX6_missing 96 = .ok (.iload 5, 2) := by decide +kernel
theorem dX6_missing_98 : decode cX6_missing 98 = .ok (.ifCond .eq 7, 3) := by decide +kernel
theorem dX6_missing_101 : decode cX6_missing 101 = .ok (.iconst 1, 1) := by decide +kernel
theorem dX6_missing_102 : decode cX6_missing 102 = .ok (.goto 4, 3) := by decide +kernel
theorem dX6_missing_105 : decode cX6_missing 105 = .ok (.iconst 0, 1) := by decide +kernel
theorem dX6_missing_106 : decode cX6_missing 106 = .ok (.iadd, 1) := by decide +kernel
theorem dX6_missing_107 : decode cX6_missing 107 = .ok (.istore_n 3, 1) := by decide +kernel
theorem dX6_missing_108 : decode cX6_missing 108 = .ok (.iinc 4 1, 3) := by decide +kernel
theorem dX6_missing_111 : decode cX6_missing 111 = .ok (.goto (-89), 3) := by decide +kernel
theorem dX6_missing_114 : decode cX6_missing 114 = .ok (.iload_n 1, 1) := by decide +kernel
theorem dX6_missing_115 : decode cX6_missing 115 = .ok (.iload_n 2, 1) := by decide +kernel
theorem dX6_missing_116 : decode cX6_missing 116 = .ok (.invokestatic 89, 3) := by decide +kernel
theorem dX6_missing_119 : decode cX6_missing 119 = .ok (.iload_n 3, 1) := by decide +kernel
theorem dX6_missing_120 : decode cX6_missing 120 = .ok (.isub, 1) := by decide +kernel
theorem dX6_missing_121 : decode cX6_missing 121 = .ok (.invokestatic 95, 3) := by decide +kernel
theorem dX6_missing_124 : decode cX6_missing 124 = .ok (.istore_n 1, 1) := by decide +kernel
theorem dX6_missing_125 : decode cX6_missing 125 = .ok (.iinc 2 1, 3) := by decide +kernel
theorem dX6_missing_128 : decode cX6_missing 128 = .ok (.goto (-124), 3) := by decide +kernel
theorem dX6_missing_131 : decode cX6_missing 131 = .ok (.iload_n 1, 1) := by decide +kernel
theorem dX6_missing_132 : decode cX6_missing 132 = .ok (.ireturn, 1) := by decide +kernel
theorem dX6_isStrip_0 : decode cX6_isStrip 0 = .ok (.iload_n 2, 1) := by decide +kernel
theorem dX6_isStrip_1 : decode cX6_isStrip 1 = .ok (.aload_n 0, 1) := by decide +kernel
theorem dX6_isStrip_2 : decode cX6_isStrip 2 = .ok (.getfield 7, 3) := by decide +kernel
theorem dX6_isStrip_5 : decode cX6_isStrip 5 = .ok (.irem, 1) := by decide +kernel
theorem dX6_isStrip_6 : decode cX6_isStrip 6 = .ok (.iload_n 3, 1) := by decide +kernel
theorem dX6_isStrip_7 : decode cX6_isStrip 7 = .ok (.iadd, 1) := by decide +kernel
theorem dX6_isStrip_8 : decode cX6_isStrip 8 = .ok (.aload_n 0, 1) := by decide +kernel
theorem dX6_isStrip_9 : decode cX6_isStrip 9 = .ok (.getfield 7, 3) := by decide +kernel
theorem dX6_isStrip_12 : decode cX6_isStrip 12 = .ok (.if_icmp .le 5, 3) := by decide +kernel
theorem dX6_isStrip_15 : decode cX6_isStrip 15 = .ok (.iconst 0, 1) := by decide +kernel
theorem dX6_isStrip_16 : decode cX6_isStrip 16 = .ok (.ireturn, 1) := by decide +kernel
theorem dX6_isStrip_17 : decode cX6_isStrip 17 = .ok (.iconst 0, 1) := by decide +kernel
theorem dX6_isStrip_18 : decode cX6_isStrip 18 = .ok (.istore 4, 2) := by decide +kernel
theorem dX6_isStrip_20 : decode cX6_isStrip 20 = .ok (.iload 4, 2) := by decide +kernel
theorem dX6_isStrip_22 : decode cX6_isStrip 22 = .ok (.iload_n 3, 1) := by decide +kernel
theorem dX6_isStrip_23 : decode cX6_isStrip 23 = .ok (.if_icmp .ge 23, 3) := by decide +kernel
theorem dX6_isStrip_26 : decode cX6_isStrip 26 = .ok (.aload_n 0, 1) := by decide +kernel
theorem dX6_isStrip_27 : decode cX6_isStrip 27 = .ok (.iload_n 1, 1) := by decide +kernel
theorem dX6_isStrip_28 : decode cX6_isStrip 28 = .ok (.iload_n 2, 1) := by decide +kernel
theorem dX6_isStrip_29 : decode cX6_isStrip 29 = .ok (.iload 4, 2) := by decide +kernel
theorem dX6_isStrip_31 : decode cX6_isStrip 31 = .ok (.iadd, 1) := by decide +kernel
theorem dX6_isStrip_32 : decode cX6_isStrip 32 = .ok (.invokevirtual 74, 3) := by decide +kernel
theorem dX6_isStrip_35 : decode cX6_isStrip 35 = .ok (.ifCond .ne 5, 3) := by decide +kernel
theorem dX6_isStrip_38 : decode cX6_isStrip 38 = .ok (.iconst 0, 1) := by decide +kernel
theorem dX6_isStrip_39 : decode cX6_isStrip 39 = .ok (.ireturn, 1) := by decide +kernel
theorem dX6_isStrip_40 : decode cX6_isStrip 40 = .ok (.iinc 4 1, 3) := by decide +kernel
theorem dX6_isStrip_43 : decode cX6_isStrip 43 = .ok (.goto (-23), 3) := by decide +kernel
theorem dX6_isStrip_46 : decode cX6_isStrip 46 = .ok (.iconst 1, 1) := by decide +kernel
theorem dX6_isStrip_47 : decode cX6_isStrip 47 = .ok (.ireturn, 1) := by decide +kernel
theorem dX6_says_0 : decode cX6_says 0 = .ok (.iload 4, 2) := by decide +kernel
theorem dX6_says_2 : decode cX6_says 2 = .ok (.iload_n 3, 1) := by decide +kernel
theorem dX6_says_3 : decode cX6_says 3 = .ok (.iadd, 1) := by decide +kernel
theorem dX6_says_4 : decode cX6_says 4 = .ok (.aload_n 0, 1) := by decide +kernel
theorem dX6_says_5 : decode cX6_says 5 = .ok (.getfield 37, 3) := by decide +kernel
theorem dX6_says_8 : decode cX6_says 8 = .ok (.invokevirtual 78, 3) := by decide +kernel
theorem dX6_says_11 : decode cX6_says 11 = .ok (.if_icmp .gt 13, 3) := by decide +kernel
theorem dX6_says_14 : decode cX6_says 14 = .ok (.aload_n 0, 1) := by decide +kernel
theorem dX6_says_15 : decode cX6_says 15 = .ok (.iload_n 1, 1) := by decide +kernel
theorem dX6_says_16 : decode cX6_says 16 = .ok (.iload_n 2, 1) := by decide +kernel
theorem dX6_says_17 : decode cX6_says 17 = .ok (.iload_n 3, 1) := by decide +kernel
theorem dX6_says_18 : decode cX6_says 18 = .ok (.invokevirtual 100, 3) := by decide +kernel
theorem dX6_says_21 : decode cX6_says 21 = .ok (.ifCond .ne 5, 3) := by decide +kernel
theorem dX6_says_24 : decode cX6_says 24 = .ok (.iconst 0, 1) := by decide +kernel
theorem dX6_says_25 : decode cX6_says 25 = .ok (.ireturn, 1) := by decide +kernel
theorem dX6_says_26 : decode cX6_says 26 = .ok (.iconst 0, 1) := by decide +kernel
theorem dX6_says_27 : decode cX6_says 27 = .ok (.istore 5, 2) := by decide +kernel
theorem dX6_says_29 : decode cX6_says 29 = .ok (.iload 5, 2) := by decide +kernel
theorem dX6_says_31 : decode cX6_says 31 = .ok (.iload_n 3, 1) := by decide +kernel
theorem dX6_says_32 : decode cX6_says 32 = .ok (.if_icmp .ge 35, 3) := by decide +kernel
theorem dX6_says_35 : decode cX6_says 35 = .ok (.aload_n 0, 1) := by decide +kernel
theorem dX6_says_36 : decode cX6_says 36 = .ok (.iload_n 1, 1) := by decide +kernel
theorem dX6_says_37 : decode cX6_says 37 = .ok (.iload_n 2, 1) := by decide +kernel
theorem dX6_says_38 : decode cX6_says 38 = .ok (.iload 5, 2) := by decide +kernel
theorem dX6_says_40 : decode cX6_says 40 = .ok (.iadd, 1) := by decide +kernel
theorem dX6_says_41 : decode cX6_says 41 = .ok (.invokevirtual 63, 3) := by decide +kernel
theorem dX6_says_44 : decode cX6_says 44 = .ok (.aload_n 0, 1) := by decide +kernel
theorem dX6_says_45 : decode cX6_says 45 = .ok (.getfield 37, 3) := by decide +kernel
theorem dX6_says_48 : decode cX6_says 48 = .ok (.iload 4, 2) := by decide +kernel
theorem dX6_says_50 : decode cX6_says 50 = .ok (.iload 5, 2) := by decide +kernel
theorem dX6_says_52 : decode cX6_says 52 = .ok (.iadd, 1) := by decide +kernel
theorem dX6_says_53 : decode cX6_says 53 = .ok (.invokevirtual 59, 3) := by decide +kernel
theorem dX6_says_56 : decode cX6_says 56 = .ok (.if_icmp .eq 5, 3) := by decide +kernel
theorem dX6_says_59 : decode cX6_says 59 = .ok (.iconst 0, 1) := by decide +kernel
theorem dX6_says_60 : decode cX6_says 60 = .ok (.ireturn, 1) := by decide +kernel
theorem dX6_says_61 : decode cX6_says 61 = .ok (.iinc 5 1, 3) := by decide +kernel
theorem dX6_says_64 : decode cX6_says 64 = .ok (.goto (-35), 3) := by decide +kernel
theorem dX6_says_67 : decode cX6_says 67 = .ok (.iconst 1, 1) := by decide +kernel
theorem dX6_says_68 : decode cX6_says 68 = .ok (.ireturn, 1) := by decide +kernel
theorem dX6_isAhead_0 : decode cX6_isAhead 0 = .ok (.iload_n 1, 1) := by decide +kernel
theorem dX6_isAhead_1 : decode cX6_isAhead 1 = .ok (.aload_n 0, 1) := by decide +kernel
theorem dX6_isAhead_2 : decode cX6_isAhead 2 = .ok (.getfield 108, 3) := by decide +kernel
theorem dX6_isAhead_5 : decode cX6_isAhead 5 = .ok (.if_icmp .eq 17, 3) := by decide +kernel
theorem dX6_isAhead_8 : decode cX6_isAhead 8 = .ok (.iload_n 1, 1) := by decide +kernel
theorem dX6_isAhead_9 : decode cX6_isAhead 9 = .ok (.aload_n 0, 1) := by decide +kernel
theorem dX6_isAhead_10 : decode cX6_isAhead 10 = .ok (.getfield 108, 3) := by decide +kernel
theorem dX6_isAhead_13 : decode cX6_isAhead 13 = .ok (.if_icmp .ge 7, 3) := by decide +kernel
theorem dX6_isAhead_16 : decode cX6_isAhead 16 = .ok (.iconst 1, 1) := by decide +kernel
theorem dX6_isAhead_17 : decode cX6_isAhead 17 = .ok (.goto 4, 3) := by decide +kernel
theorem dX6_isAhead_20 : decode cX6_isAhead 20 = .ok (.iconst 0, 1) := by decide +kernel
theorem dX6_isAhead_21 : decode cX6_isAhead 21 = .ok (.ireturn, 1) := by decide +kernel
theorem dX6_isAhead_22 : decode cX6_isAhead 22 = .ok (.iconst 0, 1) := by decide +kernel
theorem dX6_isAhead_23 : decode cX6_isAhead 23 = .ok (.istore_n 2, 1) := by decide +kernel
theorem dX6_isAhead_24 : decode cX6_isAhead 24 = .ok (.iload_n 2, 1) := by decide +kernel
theorem dX6_isAhead_25 : decode cX6_isAhead 25 = .ok (.iload_n 1, 1) := by decide +kernel
theorem dX6_isAhead_26 : decode cX6_isAhead 26 = .ok (.if_icmp .ge 45, 3) := by decide +kernel
theorem dX6_isAhead_29 : decode cX6_isAhead 29 = .ok (.aload_n 0, 1) := by decide +kernel
theorem dX6_isAhead_30 : decode cX6_isAhead 30 = .ok (.getfield 41, 3) := by decide +kernel
theorem dX6_isAhead_33 : decode cX6_isAhead 33 = .ok (.iload_n 2, 1) := by decide +kernel
theorem dX6_isAhead_34 : decode cX6_isAhead 34 = .ok (.iaload, 1) := by decide +kernel
theorem dX6_isAhead_35 : decode cX6_isAhead 35 = .ok (.aload_n 0, 1) := by decide +kernel
theorem dX6_isAhead_36 : decode cX6_isAhead 36 = .ok (.getfield 44, 3) := by decide +kernel
theorem dX6_isAhead_39 : decode cX6_isAhead 39 = .ok (.iload_n 2, 1) := by decide +kernel
theorem dX6_isAhead_40 : decode cX6_isAhead 40 = .ok (.iaload, 1) := by decide +kernel
theorem dX6_isAhead_41 : decode cX6_isAhead 41 = .ok (.if_icmp .eq 24, 3) := by decide +kernel
theorem dX6_isAhead_44 : decode cX6_isAhead 44 = .ok (.aload_n 0, 1) := by decide +kernel
theorem dX6_isAhead_45 : decode cX6_isAhead 45 = .ok (.getfield 41, 3) := by decide +kernel
theorem dX6_isAhead_48 : decode cX6_isAhead 48 = .ok (.iload_n 2, 1) := by decide +kernel
theorem dX6_isAhead_49 : decode cX6_isAhead 49 = .ok (.iaload, 1) := by decide +kernel
theorem dX6_isAhead_50 : decode cX6_isAhead 50 = .ok (.aload_n 0, 1) := by decide +kernel
theorem dX6_isAhead_51 : decode cX6_isAhead 51 = .ok (.getfield 44, 3) := by decide +kernel
theorem dX6_isAhead_54 : decode cX6_isAhead 54 = .ok (.iload_n 2, 1) := by decide +kernel
theorem dX6_isAhead_55 : decode cX6_isAhead 55 = .ok (.iaload, 1) := by decide +kernel
theorem dX6_isAhead_56 : decode cX6_isAhead 56 = .ok (.if_icmp .ge 7, 3) := by decide +kernel
theorem dX6_isAhead_59 : decode cX6_isAhead 59 = .ok (.iconst 1, 1) := by decide +kernel
theorem dX6_isAhead_60 : decode cX6_isAhead 60 = .ok (.goto 4, 3) := by decide +kernel
theorem dX6_isAhead_63 : decode cX6_isAhead 63 = .ok (.iconst 0, 1) := by decide +kernel
theorem dX6_isAhead_64 : decode cX6_isAhead 64 = .ok (.ireturn, 1) := by decide +kernel
theorem dX6_isAhead_65 : decode cX6_isAhead 65 = .ok (.iinc 2 1, 3) := by decide +kernel
theorem dX6_isAhead_68 : decode cX6_isAhead 68 = .ok (.goto (-44), 3) := by decide +kernel
theorem dX6_isAhead_71 : decode cX6_isAhead 71 = .ok (.iconst 0, 1) := by decide +kernel
theorem dX6_isAhead_72 : decode cX6_isAhead 72 = .ok (.ireturn, 1) := by decide +kernel
theorem dX6_tries_0 : decode cX6_tries 0 = .ok (.iload_n 2, 1) := by decide +kernel
theorem dX6_tries_1 : decode cX6_tries 1 = .ok (.aload_n 0, 1) := by decide +kernel
theorem dX6_tries_2 : decode cX6_tries 2 = .ok (.getfield 108, 3) := by decide +kernel
theorem dX6_tries_5 : decode cX6_tries 5 = .ok (.if_icmp .le 4, 3) := by decide +kernel
theorem dX6_tries_8 : decode cX6_tries 8 = .ok (.return_, 1) := by decide +kernel
theorem dX6_tries_9 : decode cX6_tries 9 = .ok (.iload_n 1, 1) := by decide +kernel
theorem dX6_tries_10 : decode cX6_tries 10 = .ok (.aload_n 0, 1) := by decide +kernel
theorem dX6_tries_11 : decode cX6_tries 11 = .ok (.getfield 37, 3) := by decide +kernel
theorem dX6_tries_14 : decode cX6_tries 14 = .ok (.invokevirtual 78, 3) := by decide +kernel
theorem dX6_tries_17 : decode cX6_tries 17 = .ok (.if_icmp .ne 43, 3) := by decide +kernel
theorem dX6_tries_20 : decode cX6_tries 20 = .ok (.aload_n 0, 1) := by decide +kernel
theorem dX6_tries_21 : decode cX6_tries 21 = .ok (.iload_n 2, 1) := by decide +kernel
theorem dX6_tries_22 : decode cX6_tries 22 = .ok (.invokevirtual 111, 3) := by decide +kernel
theorem dX6_tries_25 : decode cX6_tries 25 = .ok (.ifCond .ne 4, 3) := by decide +kernel
theorem dX6_tries_28 : decode cX6_tries 28 = .ok (.return_, 1) := by decide +kernel
theorem dX6_tries_29 : decode cX6_tries 29 = .ok (.aload_n 0, 1) := by decide +kernel
theorem dX6_tries_30 : decode cX6_tries 30 = .ok (.iload_n 2, 1) := by decide +kernel
theorem dX6_tries_31 : decode cX6_tries 31 = .ok (.putfield 108, 3) := by decide +kernel
theorem dX6_tries_34 : decode cX6_tries 34 = .ok (.iconst 0, 1) := by decide +kernel
theorem dX6_tries_35 : decode cX6_tries 35 = .ok (.istore_n 3, 1) := by decide +kernel
theorem dX6_tries_36 : decode cX6_tries 36 = .ok (.iload_n 3, 1) := by decide +kernel
theorem dX6_tries_37 : decode cX6_tries 37 = .ok (.iload_n 2, 1) := by decide +kernel
theorem dX6_tries_38 : decode cX6_tries 38 = .ok (.if_icmp .ge 21, 3) := by decide +kernel
theorem dX6_tries_41 : decode cX6_tries 41 = .ok (.aload_n 0, 1) := by decide +kernel
theorem dX6_tries_42 : decode cX6_tries 42 = .ok (.getfield 44, 3) := by decide +kernel
theorem dX6_tries_45 : decode cX6_tries 45 = .ok (.iload_n 3, 1) := by decide +kernel
theorem dX6_tries_46 : decode cX6_tries 46 = .ok (.aload_n 0, 1) := by decide +kernel
theorem dX6_tries_47 : decode cX6_tries 47 = .ok (.getfield 41, 3) := by decide +kernel
theorem dX6_tries_50 : decode cX6_tries 50 = .ok (.iload_n 3, 1) := by decide +kernel
theorem dX6_tries_51 : decode cX6_tries 51 = .ok (.iaload, 1) := by decide +kernel
theorem dX6_tries_52 : decode cX6_tries 52 = .ok (.iastore, 1) := by decide +kernel
theorem dX6_tries_53 : decode cX6_tries 53 = .ok (.iinc 3 1, 3) := by decide +kernel
theorem dX6_tries_56 : decode cX6_tries 56 = .ok (.goto (-20), 3) := by decide +kernel
theorem dX6_tries_59 : decode cX6_tries 59 = .ok (.return_, 1) := by decide +kernel
theorem dX6_tries_60 : decode cX6_tries 60 = .ok (.iconst 1, 1) := by decide +kernel
theorem dX6_tries_61 : decode cX6_tries 61 = .ok (.istore_n 3, 1) := by decide +kernel
theorem dX6_tries_62 : decode cX6_tries 62 = .ok (.iload_n 3, 1) := by decide +kernel
theorem dX6_tries_63 : decode cX6_tries 63 = .ok (.ifCond .lt 155, 3) := by decide +kernel
theorem dX6_tries_66 : decode cX6_tries 66 = .ok (.iconst 0, 1) := by decide +kernel
theorem dX6_tries_67 : decode cX6_tries 67 = .ok (.istore 4, 2) := by decide +kernel
theorem dX6_tries_69 : decode cX6_tries 69 = .ok (.iload 4, 2) := by decide +kernel
theorem dX6_tries_71 : decode cX6_tries 71 = .ok (.aload_n 0, 1) := by decide +kernel
theorem dX6_tries_72 : decode cX6_tries 72 = .ok (.invokevirtual 82, 3) := by decide +kernel
theorem dX6_tries_75 : decode cX6_tries 75 = .ok (.if_icmp .ge 137, 3) := by decide +kernel
theorem dX6_tries_78 : decode cX6_tries 78 = .ok (.lconst 0, 1) := by decide +kernel
theorem dX6_tries_79 : decode cX6_tries 79 = .ok (.lstore 5, 2) := by decide +kernel
theorem dX6_tries_81 : decode cX6_tries 81 = .ok (.iconst 1, 1) := by decide +kernel
theorem dX6_tries_82 : decode cX6_tries 82 = .ok (.istore 7, 2) := by decide +kernel
theorem dX6_tries_84 : decode cX6_tries 84 = .ok (.iload 7, 2) := by decide +kernel
theorem dX6_tries_86 : decode cX6_tries 86 = .ok (.aload_n 0, 1) := by decide +kernel
theorem dX6_tries_87 : decode cX6_tries 87 = .ok (.getfield 7, 3) := by decide +kernel
theorem dX6_tries_90 : decode cX6_tries 90 = .ok (.if_icmp .gt 116, 3) := by decide +kernel
theorem dX6_tries_93 : decode cX6_tries 93 = .ok (.aload_n 0, 1) := by decide +kernel
theorem dX6_tries_94 : decode cX6_tries 94 = .ok (.iload_n 3, 1) := by decide +kernel
theorem dX6_tries_95 : decode cX6_tries 95 = .ok (.iload 4, 2) := by decide +kernel
theorem dX6_tries_97 : decode cX6_tries 97 = .ok (.iload 7, 2) := by decide +kernel
theorem dX6_tries_99 : decode cX6_tries 99 = .ok (.iload_n 1, 1) := by decide +kernel
theorem dX6_tries_100 : decode cX6_tries 100 = .ok (.invokevirtual 104, 3) := by decide +kernel
theorem dX6_tries_103 : decode cX6_tries 103 = .ok (.ifCond .eq 103, 3) := by decide +kernel
theorem dX6_tries_106 : decode cX6_tries 106 = .ok (.lload 5, 2) := by decide +kernel
theorem dX6_tries_108 : decode cX6_tries 108 = .ok (.lconst 1, 1) := by decide +kernel
theorem dX6_tries_109 : decode cX6_tries 109 = .ok (.aload_n 0, 1) := by decide +kernel
theorem dX6_tries_110 : decode cX6_tries 110 = .ok (.iload_n 3, 1) := by decide +kernel
theorem dX6_tries_111 : decode cX6_tries 111 = .ok (.iload 4, 2) := by decide +kernel
theorem dX6_tries_113 : decode cX6_tries 113 = .ok (.iload 7, 2) := by decide +kernel
theorem dX6_tries_115 : decode cX6_tries 115 = .ok (.iadd, 1) := by decide +kernel
theorem dX6_tries_116 : decode cX6_tries 116 = .ok (.iconst 1, 1) := by decide +kernel
theorem dX6_tries_117 : decode cX6_tries 117 = .ok (.isub, 1) := by decide +kernel
theorem dX6_tries_118 : decode cX6_tries 118 = .ok (.invokevirtual 67, 3) := by decide +kernel
theorem dX6_tries_121 : decode cX6_tries 121 = .ok (.lshl, 1) := by decide +kernel
theorem dX6_tries_122 : decode cX6_tries 122 = .ok (.lor, 1) := by decide +kernel
theorem dX6_tries_123 : decode cX6_tries 123 = .ok (.lstore 5, 2) := by decide +kernel
theorem dX6_tries_125 : decode cX6_tries 125 = .ok (.aload_n 0, 1) := by decide +kernel
theorem dX6_tries_126 : decode cX6_tries 126 = .ok (.getfield 115, 3) := by decide +kernel
theorem dX6_tries_129 : decode cX6_tries 129 = .ok (.lload 5, 2) := by decide +kernel
theorem dX6_tries_131 : decode cX6_tries 131 = .ok (.land, 1) := by decide +kernel
theorem dX6_tries_132 : decode cX6_tries 132 = .ok (.lconst 0, 1) := by decide +kernel
theorem dX6_tries_133 : decode cX6_tries 133 = .ok (.lcmp, 1) := by decide +kernel
theorem dX6_tries_134 : decode cX6_tries 134 = .ok (.ifCond .eq 6, 3) := by decide +kernel
theorem dX6_tries_137 : decode cX6_tries 137 = .ok (.goto 63, 3) := by decide +kernel
theorem dX6_tries_140 : decode cX6_tries 140 = .ok (.aload_n 0, 1) := by decide +kernel
theorem dX6_tries_141 : decode cX6_tries 141 = .ok (.getfield 41, 3) := by decide +kernel
theorem dX6_tries_144 : decode cX6_tries 144 = .ok (.iload_n 2, 1) := by decide +kernel
theorem dX6_tries_145 : decode cX6_tries 145 = .ok (.sipush 1000, 3) := by decide +kernel
theorem dX6_tries_148 : decode cX6_tries 148 = .ok (.bipush 9, 2) := by decide +kernel
theorem dX6_tries_150 : decode cX6_tries 150 = .ok (.iload 7, 2) := by decide +kernel
theorem dX6_tries_152 : decode cX6_tries 152 = .ok (.isub, 1) := by decide +kernel
theorem dX6_tries_153 : decode cX6_tries 153 = .ok (.imul, 1) := by decide +kernel
theorem dX6_tries_154 : decode cX6_tries 154 = .ok (.bipush 100, 2) := by decide +kernel
theorem dX6_tries_156 : decode cX6_tries 156 = .ok (.iload_n 3, 1) := by decide +kernel
theorem dX6_tries_157 : decode cX6_tries 157 = .ok (.imul, 1) := by decide +kernel
theorem dX6_tries_158 : decode cX6_tries 158 = .ok (.iadd, 1) := by decide +kernel
theorem dX6_tries_159 : decode cX6_tries 159 = .ok (.iload 4, 2) := by decide +kernel
theorem dX6_tries_161 : decode cX6_tries 161 = .ok (.iadd, 1) := by decide +kernel
theorem dX6_tries_162 : decode cX6_tries 162 = .ok (.iastore, 1) := by decide +kernel
theorem dX6_tries_163 : decode cX6_tries 163 = .ok (.aload_n 0, 1) := by decide +kernel
theorem dX6_tries_164 : decode cX6_tries 164 = .ok (.dup, 1) := by decide +kernel
theorem dX6_tries_165 : decode cX6_tries 165 = .ok (.getfield 115, 3) := by decide +kernel
theorem dX6_tries_168 : decode cX6_tries 168 = .ok (.lload 5, 2) := by decide +kernel
theorem dX6_tries_170 : decode cX6_tries 170 = .ok (.lor, 1) := by decide +kernel
theorem dX6_tries_171 : decode cX6_tries 171 = .ok (.putfield 115, 3) := by decide +kernel
theorem dX6_tries_174 : decode cX6_tries 174 = .ok (.aload_n 0, 1) := by decide +kernel
theorem dX6_tries_175 : decode cX6_tries 175 = .ok (.iload_n 1, 1) := by decide +kernel
theorem dX6_tries_176 : decode cX6_tries 176 = .ok (.iload 7, 2) := by decide +kernel
theorem dX6_tries_178 : decode cX6_tries 178 = .ok (.iadd, 1) := by decide +kernel
theorem dX6_tries_179 : decode cX6_tries 179 = .ok (.iload_n 2, 1) := by decide +kernel
theorem dX6_tries_180 : decode cX6_tries 180 = .ok (.iconst 1, 1) := by decide +kernel
theorem dX6_tries_181 : decode cX6_tries 181 = .ok (.iadd, 1) := by decide +kernel
theorem dX6_tries_182 : decode cX6_tries 182 = .ok (.invokevirtual 119, 3) := by decide +kernel
theorem dX6_tries_185 : decode cX6_tries 185 = .ok (.aload_n 0, 1) := by decide +kernel
theorem dX6_tries_186 : decode cX6_tries 186 = .ok (.dup, 1) := by decide +kernel
theorem dX6_tries_187 : decode cX6_tries 187 = .ok (.getfield 115, 3) := by decide +kernel
theorem dX6_tries_190 : decode cX6_tries 190 = .ok (.lload 5, 2) := by decide +kernel
theorem dX6_tries_192 : decode cX6_tries 192 = .ok (.ldc2_w 123, 3) := by decide +kernel
theorem dX6_tries_195 : decode cX6_tries 195 = .ok (.lxor, 1) := by decide +kernel
theorem dX6_tries_196 : decode cX6_tries 196 = .ok (.land, 1) := by decide +kernel
theorem dX6_tries_197 : decode cX6_tries 197 = .ok (.putfield 115, 3) := by decide +kernel
theorem dX6_tries_200 : decode cX6_tries 200 = .ok (.iinc 7 1, 3) := by decide +kernel
theorem dX6_tries_203 : decode cX6_tries 203 = .ok (.goto (-119), 3) := by decide +kernel
theorem dX6_tries_206 : decode cX6_tries 206 = .ok (.iinc 4 1, 3) := by decide +kernel
theorem dX6_tries_209 : decode cX6_tries 209 = .ok (.goto (-140), 3) := by decide +kernel
theorem dX6_tries_212 : decode cX6_tries 212 = .ok (.iinc 3 (-1), 3) := by decide +kernel
theorem dX6_tries_215 : decode cX6_tries 215 = .ok (.goto (-153), 3) := by decide +kernel
theorem dX6_tries_218 : decode cX6_tries 218 = .ok (.return_, 1) := by decide +kernel
theorem dX6_plan_0 : decode cX6_plan 0 = .ok (.aload_n 0, 1) := by decide +kernel
theorem dX6_plan_1 : decode cX6_plan 1 = .ok (.bipush 99, 2) := by decide +kernel
theorem dX6_plan_3 : decode cX6_plan 3 = .ok (.putfield 108, 3) := by decide +kernel
theorem dX6_plan_6 : decode cX6_plan 6 = .ok (.aload_n 0, 1) := by decide +kernel
theorem dX6_plan_7 : decode cX6_plan 7 = .ok (.lconst 0, 1) := by decide +kernel
theorem dX6_plan_8 : decode cX6_plan 8 = .ok (.putfield 115, 3) := by decide +kernel
theorem dX6_plan_11 : decode cX6_plan 11 = .ok (.aload_n 0, 1) := by decide +kernel
theorem dX6_plan_12 : decode cX6_plan 12 = .ok (.getfield 37, 3) := by decide +kernel
theorem dX6_plan_15 : decode cX6_plan 15 = .ok (.invokevirtual 78, 3) := by decide +kernel
theorem dX6_plan_18 : decode cX6_plan 18 = .ok (.bipush 8, 2) := by decide +kernel
theorem dX6_plan_20 : decode cX6_plan 20 = .ok (.if_icmp .le 6, 3) := by decide +kernel
theorem dX6_plan_23 : decode cX6_plan 23 = .ok (.bipush (-2), 2) := by decide +kernel
theorem dX6_plan_25 : decode cX6_plan 25 = .ok (.ireturn, 1) := by decide +kernel
theorem dX6_plan_26 : decode cX6_plan 26 = .ok (.aload_n 0, 1) := by decide +kernel
theorem dX6_plan_27 : decode cX6_plan 27 = .ok (.iconst 0, 1) := by decide +kernel
theorem dX6_plan_28 : decode cX6_plan 28 = .ok (.iconst 0, 1) := by decide +kernel
theorem dX6_plan_29 : decode cX6_plan 29 = .ok (.invokevirtual 119, 3) := by decide +kernel
theorem dX6_plan_32 : decode cX6_plan 32 = .ok (.aload_n 0, 1) := by decide +kernel
theorem dX6_plan_33 : decode cX6_plan 33 = .ok (.getfield 108, 3) := by decide +kernel
theorem dX6_plan_36 : decode cX6_plan 36 = .ok (.bipush 99, 2) := by decide +kernel
theorem dX6_plan_38 : decode cX6_plan 38 = .ok (.if_icmp .ne 7, 3) := by decide +kernel
theorem dX6_plan_41 : decode cX6_plan 41 = .ok (.iconst (-1), 1) := by decide +kernel
theorem dX6_plan_42 : decode cX6_plan 42 = .ok (.goto 7, 3) := by decide +kernel
theorem dX6_plan_45 : decode cX6_plan 45 = .ok (.aload_n 0, 1) := by decide +kernel
theorem dX6_plan_46 : decode cX6_plan 46 = .ok (.getfield 108, 3) := by decide +kernel
theorem dX6_plan_49 : decode cX6_plan 49 = .ok (.ireturn, 1) := by decide +kernel
theorem dX6_ofCut_0 : decode cX6_ofCut 0 = .ok (.bipush 9, 2) := by decide +kernel
theorem dX6_ofCut_2 : decode cX6_ofCut 2 = .ok (.aload_n 0, 1) := by decide +kernel
theorem dX6_ofCut_3 : decode cX6_ofCut 3 = .ok (.getfield 44, 3) := by decide +kernel
theorem dX6_ofCut_6 : decode cX6_ofCut 6 = .ok (.iload_n 1, 1) := by decide +kernel
theorem dX6_ofCut_7 : decode cX6_ofCut 7 = .ok (.iaload, 1) := by decide +kernel
theorem dX6_ofCut_8 : decode cX6_ofCut 8 = .ok (.sipush 1000, 3) := by decide +kernel
theorem dX6_ofCut_11 : decode cX6_ofCut 11 = .ok (.idiv, 1) := by decide +kernel
theorem dX6_ofCut_12 : decode cX6_ofCut 12 = .ok (.isub, 1) := by decide +kernel
theorem dX6_ofCut_13 : decode cX6_ofCut 13 = .ok (.istore_n 3, 1) := by decide +kernel
theorem dX6_ofCut_14 : decode cX6_ofCut 14 = .ok (.aload_n 0, 1) := by decide +kernel
theorem dX6_ofCut_15 : decode cX6_ofCut 15 = .ok (.getfield 44, 3) := by decide +kernel
theorem dX6_ofCut_18 : decode cX6_ofCut 18 = .ok (.iload_n 1, 1) := by decide +kernel
theorem dX6_ofCut_19 : decode cX6_ofCut 19 = .ok (.iaload, 1) := by decide +kernel
theorem dX6_ofCut_20 : decode cX6_ofCut 20 = .ok (.bipush 100, 2) := by decide +kernel
theorem dX6_ofCut_22 : decode cX6_ofCut 22 = .ok (.idiv, 1) := by decide +kernel
theorem dX6_ofCut_23 : decode cX6_ofCut 23 = .ok (.bipush 10, 2) := by decide +kernel
theorem dX6_ofCut_25 : decode cX6_ofCut 25 = .ok (.irem, 1) := by decide +kernel
theorem dX6_ofCut_26 : decode cX6_ofCut 26 = .ok (.istore 4, 2) := by decide +kernel
theorem dX6_ofCut_28 : decode cX6_ofCut 28 = .ok (.aload_n 0, 1) := by decide +kernel
theorem dX6_ofCut_29 : decode cX6_ofCut 29 = .ok (.getfield 44, 3) := by decide +kernel
theorem dX6_ofCut_32 : decode cX6_ofCut 32 = .ok (.iload_n 1, 1) := by decide +kernel
theorem dX6_ofCut_33 : decode cX6_ofCut 33 = .ok (.iaload, 1) := by decide +kernel
theorem dX6_ofCut_34 : decode cX6_ofCut 34 = .ok (.bipush 100, 2) := by decide +kernel
theorem dX6_ofCut_36 : decode cX6_ofCut 36 = .ok (.irem, 1) := by decide +kernel
theorem dX6_ofCut_37 : decode cX6_ofCut 37 = .ok (.istore 5, 2) := by decide +kernel
theorem dX6_ofCut_39 : decode cX6_ofCut 39 = .ok (.iload_n 2, 1) := by decide +kernel
theorem dX6_ofCut_40 : decode cX6_ofCut 40 = .ok (.ifCond .ne 7, 3) := by decide +kernel
theorem dX6_ofCut_43 : decode cX6_ofCut 43 = .ok (.iload_n 3, 1) := by decide +kernel
theorem dX6_ofCut_44 : decode cX6_ofCut 44 = .ok (.goto 33, 3) := by decide +kernel
theorem dX6_ofCut_47 : decode cX6_ofCut 47 = .ok (.iload_n 2, 1) := by decide +kernel
theorem dX6_ofCut_48 : decode cX6_ofCut 48 = .ok (.iconst 1, 1) := by decide +kernel
theorem dX6_ofCut_49 : decode cX6_ofCut 49 = .ok (.if_icmp .ne 8, 3) := by decide +kernel
theorem dX6_ofCut_52 : decode cX6_ofCut 52 = .ok (.iload 4, 2) := by decide +kernel
theorem dX6_ofCut_54 : decode cX6_ofCut 54 = .ok (.goto 23, 3) := by decide +kernel
theorem dX6_ofCut_57 : decode cX6_ofCut 57 = .ok (.iload_n 2, 1) := by decide +kernel
theorem dX6_ofCut_58 : decode cX6_ofCut 58 = .ok (.iconst 2, 1) := by decide +kernel
theorem dX6_ofCut_59 : decode cX6_ofCut 59 = .ok (.if_icmp .ne 8, 3) := by decide +kernel
theorem dX6_ofCut_62 : decode cX6_ofCut 62 = .ok (.iload 5, 2) := by decide +kernel
theorem dX6_ofCut_64 : decode cX6_ofCut 64 = .ok (.goto 13, 3) := by decide +kernel
theorem dX6_ofCut_67 : decode cX6_ofCut 67 = .ok (.iload_n 3, 1) := by decide +kernel
theorem dX6_ofCut_68 : decode cX6_ofCut 68 = .ok (.aload_n 0, 1) := by decide +kernel
theorem dX6_ofCut_69 : decode cX6_ofCut 69 = .ok (.iload 4, 2) := by decide +kernel
theorem dX6_ofCut_71 : decode cX6_ofCut 71 = .ok (.iload 5, 2) := by decide +kernel
theorem dX6_ofCut_73 : decode cX6_ofCut 73 = .ok (.invokevirtual 71, 3) := by decide +kernel
theorem dX6_ofCut_76 : decode cX6_ofCut 76 = .ok (.imul, 1) := by decide +kernel
theorem dX6_ofCut_77 : decode cX6_ofCut 77 = .ok (.ireturn, 1) := by decide +kernel
theorem dX6_cutsOff_0 : decode cX6_cutsOff 0 = .ok (.iconst 0, 1) := by decide +kernel
theorem dX6_cutsOff_1 : decode cX6_cutsOff 1 = .ok (.istore 4, 2) := by decide +kernel
theorem dX6_cutsOff_3 : decode cX6_cutsOff 3 = .ok (.iload 4, 2) := by decide +kernel
theorem dX6_cutsOff_5 : decode cX6_cutsOff 5 = .ok (.iload_n 3, 1) := by decide +kernel
theorem dX6_cutsOff_6 : decode cX6_cutsOff 6 = .ok (.if_icmp .ge 24, 3) := by decide +kernel
theorem dX6_cutsOff_9 : decode cX6_cutsOff 9 = .ok (.aload_n 0, 1) := by decide +kernel
theorem dX6_cutsOff_10 : decode cX6_cutsOff 10 = .ok (.getfield 31, 3) := by decide +kernel
theorem dX6_cutsOff_13 : decode cX6_cutsOff 13 = .ok (.aload_n 0, 1) := by decide +kernel
theorem dX6_cutsOff_14 : decode cX6_cutsOff 14 = .ok (.iload_n 1, 1) := by decide +kernel
theorem dX6_cutsOff_15 : decode cX6_cutsOff 15 = .ok (.iload_n 2, 1) := by decide +kernel
theorem dX6_cutsOff_16 : decode cX6_cutsOff 16 = .ok (.iload 4, 2) := by decide +kernel
theorem dX6_cutsOff_18 : decode cX6_cutsOff 18 = .ok (.iadd, 1) := by decide +kernel
theorem dX6_cutsOff_19 : decode cX6_cutsOff 19 = .ok (.invokevirtual 67, 3) := by decide +kernel
theorem dX6_cutsOff_22 : decode cX6_cutsOff 22 = .ok (.iconst 1, 1) := by decide +kernel
theorem dX6_cutsOff_23 : decode cX6_cutsOff 23 = .ok (.bastore, 1) := by decide +kernel
theorem dX6_cutsOff_24 : decode cX6_cutsOff 24 = .ok (.iinc 4 1, 3) := by decide +kernel
theorem dX6_cutsOff_27 : decode cX6_cutsOff 27 = .ok (.goto (-24), 3) := by decide +kernel
theorem dX6_cutsOff_30 : decode cX6_cutsOff 30 = .ok (.aload_n 0, 1) := by decide +kernel
theorem dX6_cutsOff_31 : decode cX6_cutsOff 31 = .ok (.dup, 1) := by decide +kernel
theorem dX6_cutsOff_32 : decode cX6_cutsOff 32 = .ok (.getfield 53, 3) := by decide +kernel
theorem dX6_cutsOff_35 : decode cX6_cutsOff 35 = .ok (.iconst 1, 1) := by decide +kernel
theorem dX6_cutsOff_36 : decode cX6_cutsOff 36 = .ok (.iadd, 1) := by decide +kernel
theorem dX6_cutsOff_37 : decode cX6_cutsOff 37 = .ok (.putfield 53, 3) := by decide +kernel
theorem dX6_cutsOff_40 : decode cX6_cutsOff 40 = .ok (.aload_n 0, 1) := by decide +kernel
theorem dX6_cutsOff_41 : decode cX6_cutsOff 41 = .ok (.dup, 1) := by decide +kernel
theorem dX6_cutsOff_42 : decode cX6_cutsOff 42 = .ok (.getfield 56, 3) := by decide +kernel
theorem dX6_cutsOff_45 : decode cX6_cutsOff 45 = .ok (.iload_n 3, 1) := by decide +kernel
theorem dX6_cutsOff_46 : decode cX6_cutsOff 46 = .ok (.iadd, 1) := by decide +kernel
theorem dX6_cutsOff_47 : decode cX6_cutsOff 47 = .ok (.putfield 56, 3) := by decide +kernel
theorem dX6_cutsOff_50 : decode cX6_cutsOff 50 = .ok (.return_, 1) := by decide +kernel
theorem dX6_cutsPlan_0 : decode cX6_cutsPlan 0 = .ok (.iconst 0, 1) := by decide +kernel
theorem dX6_cutsPlan_1 : decode cX6_cutsPlan 1 = .ok (.istore_n 2, 1) := by decide +kernel
theorem dX6_cutsPlan_2 : decode cX6_cutsPlan 2 = .ok (.iload_n 2, 1) := by decide +kernel
theorem dX6_cutsPlan_3 : decode cX6_cutsPlan 3 = .ok (.iload_n 1, 1) := by decide +kernel
theorem dX6_cutsPlan_4 : decode cX6_cutsPlan 4 = .ok (.if_icmp .ge 31, 3) := by decide +kernel
theorem dX6_cutsPlan_7 : decode cX6_cutsPlan 7 = .ok (.aload_n 0, 1) := by decide +kernel
theorem dX6_cutsPlan_8 : decode cX6_cutsPlan 8 = .ok (.aload_n 0, 1) := by decide +kernel
theorem dX6_cutsPlan_9 : decode cX6_cutsPlan 9 = .ok (.iload_n 2, 1) := by decide +kernel
theorem dX6_cutsPlan_10 : decode cX6_cutsPlan 10 = .ok (.iconst 1, 1) := by decide +kernel
theorem dX6_cutsPlan_11 : decode cX6_cutsPlan 11 = .ok (.invokevirtual 125, 3) := by decide +kernel
theorem dX6_cutsPlan_14 : decode cX6_cutsPlan 14 = .ok (.aload_n 0, 1) := by decide +kernel
theorem dX6_cutsPlan_15 : decode cX6_cutsPlan 15 = .ok (.iload_n 2, 1) := by decide +kernel
theorem dX6_cutsPlan_16 : decode cX6_cutsPlan 16 = .ok (.iconst 2, 1) := by decide +kernel
theorem dX6_cutsPlan_17 : decode cX6_cutsPlan 17 = .ok (.invokevirtual 125, 3) := by decide +kernel
theorem dX6_cutsPlan_20 : decode cX6_cutsPlan 20 = .ok (.aload_n 0, 1) := by decide +kernel
theorem dX6_cutsPlan_21 : decode cX6_cutsPlan 21 = .ok (.iload_n 2, 1) := by decide +kernel
theorem dX6_cutsPlan_22 : decode cX6_cutsPlan 22 = .ok (.iconst 0, 1) := by decide +kernel
theorem dX6_cutsPlan_23 : decode cX6_cutsPlan 23 = .ok (.invokevirtual 125, 3) := by decide +kernel
theorem dX6_cutsPlan_26 : decode cX6_cutsPlan 26 = .ok (.invokevirtual 128, 3) := by decide +kernel
theorem dX6_cutsPlan_29 : decode cX6_cutsPlan 29 = .ok (.iinc 2 1, 3) := by decide +kernel
theorem dX6_cutsPlan_32 : decode cX6_cutsPlan 32 = .ok (.goto (-30), 3) := by decide +kernel
theorem dX6_cutsPlan_35 : decode cX6_cutsPlan 35 = .ok (.return_, 1) := by decide +kernel
theorem dX6_there_0 : decode cX6_there 0 = .ok (.iconst 0, 1) := by decide +kernel
theorem dX6_there_1 : decode cX6_there 1 = .ok (.istore_n 1, 1) := by decide +kernel
theorem dX6_there_2 : decode cX6_there 2 = .ok (.aload_n 0, 1) := by decide +kernel
theorem dX6_there_3 : decode cX6_there 3 = .ok (.getfield 31, 3) := by decide +kernel
theorem dX6_there_6 : decode cX6_there 6 = .ok (.astore_n 2, 1) := by decide +kernel
theorem dX6_there_7 : decode cX6_there 7 = .ok (.aload_n 2, 1) := by decide +kernel
theorem dX6_there_8 : decode cX6_there 8 = .ok (.arraylength, 1) := by decide +kernel
theorem dX6_there_9 : decode cX6_there 9 = .ok (.istore_n 3, 1) := by decide +kernel
theorem dX6_there_10 : decode cX6_there 10 = .ok (.iconst 0, 1) := by decide +kernel
theorem dX6_there_11 : decode cX6_there 11 = .ok (.istore 4, 2) := by decide +kernel
theorem dX6_there_13 : decode cX6_there 13 = .ok (.iload 4, 2) := by decide +kernel
theorem dX6_there_15 : decode cX6_there 15 = .ok (.iload_n 3, 1) := by decide +kernel
theorem dX6_there_16 : decode cX6_there 16 = .ok (.if_icmp .ge 23, 3) := by decide +kernel
theorem dX6_there_19 : decode cX6_there 19 = .ok (.aload_n 2, 1) := by decide +kernel
theorem dX6_there_20 : decode cX6_there 20 = .ok (.iload 4, 2) := by decide +kernel
theorem dX6_there_22 : decode cX6_there 22 = .ok (.baload, 1) := by decide +kernel
theorem dX6_there_23 : decode cX6_there 23 = .ok (.istore 5, 2) := by decide +kernel
theorem dX6_there_25 : decode cX6_there 25 = .ok (.iload 5, 2) := by decide +kernel
theorem dX6_there_27 : decode cX6_there 27 = .ok (.ifCond .ne 6, 3) := by decide +kernel
theorem dX6_there_30 : decode cX6_there 30 = .ok (.iinc 1 1, 3) := by decide +kernel
theorem dX6_there_33 : decode cX6_there 33 = .ok (.iinc 4 1, 3) := by decide +kernel
theorem dX6_there_36 : decode cX6_there 36 = .ok (.goto (-23), 3) := by decide +kernel
theorem dX6_there_39 : decode cX6_there 39 = .ok (.iload_n 1, 1) := by decide +kernel
theorem dX6_there_40 : decode cX6_there 40 = .ok (.ireturn, 1) := by decide +kernel
theorem dX6_clashes_0 : decode cX6_clashes 0 = .ok (.iconst 0, 1) := by decide +kernel
theorem dX6_clashes_1 : decode cX6_clashes 1 = .ok (.istore_n 1, 1) := by decide +kernel
theorem dX6_clashes_2 : decode cX6_clashes 2 = .ok (.iconst 0, 1) := by decide +kernel
theorem dX6_clashes_3 : decode cX6_clashes 3 = .ok (.istore_n 2, 1) := by decide +kernel
theorem dX6_clashes_4 : decode cX6_clashes 4 = .ok (.iload_n 2, 1) := by decide +kernel
theorem dX6_clashes_5 : decode cX6_clashes 5 = .ok (.aload_n 0, 1) := by decide +kernel
theorem dX6_clashes_6 : decode cX6_clashes 6 = .ok (.invokevirtual 82, 3) := by decide +kernel
theorem dX6_clashes_9 : decode cX6_clashes 9 = .ok (.if_icmp .ge 76, 3) := by decide +kernel
theorem dX6_clashes_12 : decode cX6_clashes 12 = .ok (.iconst 1, 1) := by decide +kernel
theorem dX6_clashes_13 : decode cX6_clashes 13 = .ok (.istore_n 3, 1) := by decide +kernel
theorem dX6_clashes_14 : decode cX6_clashes 14 = .ok (.iconst 0, 1) := by decide +kernel
theorem dX6_clashes_15 : decode cX6_clashes 15 = .ok (.istore 4, 2) := by decide +kernel
theorem dX6_clashes_17 : decode cX6_clashes 17 = .ok (.iload 4, 2) := by decide +kernel
theorem dX6_clashes_19 : decode cX6_clashes 19 = .ok (.iconst 2, 1) := by decide +kernel
theorem dX6_clashes_20 : decode cX6_clashes 20 = .ok (.if_icmp .ge 52, 3) := by decide +kernel
theorem dX6_clashes_23 : decode cX6_clashes 23 = .ok (.aload_n 0, 1) := by decide +kernel
theorem dX6_clashes_24 : decode cX6_clashes 24 = .ok (.iload 4, 2) := by decide +kernel
theorem dX6_clashes_26 : decode cX6_clashes 26 = .ok (.iload_n 2, 1) := by decide +kernel
theorem dX6_clashes_27 : decode cX6_clashes 27 = .ok (.invokevirtual 67, 3) := by decide +kernel
theorem dX6_clashes_30 : decode cX6_clashes 30 = .ok (.istore 5, 2) := by decide +kernel
theorem dX6_clashes_32 : decode cX6_clashes 32 = .ok (.iload_n 3, 1) := by decide +kernel
theorem dX6_clashes_33 : decode cX6_clashes 33 = .ok (.aload_n 0, 1) := by decide +kernel
theorem dX6_clashes_34 : decode cX6_clashes 34 = .ok (.iload 4, 2) := by decide +kernel
theorem dX6_clashes_36 : decode cX6_clashes 36 = .ok (.iload 5, 2) := by decide +kernel
theorem dX6_clashes_38 : decode cX6_clashes 38 = .ok (.invokevirtual 74, 3) := by decide +kernel
theorem dX6_clashes_41 : decode cX6_clashes 41 = .ok (.ifCond .eq 22, 3) := by decide +kernel
theorem dX6_clashes_44 : decode cX6_clashes 44 = .ok (.aload_n 0, 1) := by decide +kernel
theorem dX6_clashes_45 : decode cX6_clashes 45 = .ok (.aload_n 0, 1) := by decide +kernel
theorem dX6_clashes_46 : decode cX6_clashes 46 = .ok (.iload 4, 2) := by decide +kernel
theorem dX6_clashes_48 : decode cX6_clashes 48 = .ok (.iload 5, 2) := by decide +kernel
theorem dX6_clashes_50 : decode cX6_clashes 50 = .ok (.invokevirtual 63, 3) := by decide +kernel
theorem dX6_clashes_53 : decode cX6_clashes 53 = .ok (.invokevirtual 132, 3) := by decide +kernel
theorem dX6_clashes_56 : decode cX6_clashes 56 = .ok (.ifCond .le 7, 3) := by decide +kernel
theorem dX6_clashes_59 : decode cX6_clashes 59 = .ok (.iconst 1, 1) := by decide +kernel
theorem dX6_clashes_60 : decode cX6_clashes 60 = .ok (.goto 4, 3) := by decide +kernel
theorem dX6_clashes_63 : decode cX6_clashes 63 = .ok (.iconst 0, 1) := by decide +kernel
theorem dX6_clashes_64 : decode cX6_clashes 64 = .ok (.iand, 1) := by decide +kernel
theorem dX6_clashes_65 : decode cX6_clashes 65 = .ok (.istore_n 3, 1) := by decide +kernel
theorem dX6_clashes_66 : decode cX6_clashes 66 = .ok (.iinc 4 1, 3) := by decide +kernel
theorem dX6_clashes_69 : decode cX6_clashes 69 = .ok (.goto (-52), 3) := by decide +kernel
theorem dX6_clashes_72 : decode cX6_clashes 72 = .ok (.iload_n 3, 1) := by decide +kernel
theorem dX6_clashes_73 : decode cX6_clashes 73 = .ok (.ifCond .eq 6, 3) := by decide +kernel
theorem dX6_clashes_76 : decode cX6_clashes 76 = .ok (.iinc 1 1, 3) := by decide +kernel
theorem dX6_clashes_79 : decode cX6_clashes 79 = .ok (.iinc 2 1, 3) := by decide +kernel
theorem dX6_clashes_82 : decode cX6_clashes 82 = .ok (.goto (-78), 3) := by decide +kernel
theorem dX6_clashes_85 : decode cX6_clashes 85 = .ok (.iload_n 1, 1) := by decide +kernel
theorem dX6_clashes_86 : decode cX6_clashes 86 = .ok (.ireturn, 1) := by decide +kernel
theorem dX6_told_0 : decode cX6_told 0 = .ok (.iconst 0, 1) := by decide +kernel
theorem dX6_told_1 : decode cX6_told 1 = .ok (.istore_n 2, 1) := by decide +kernel
theorem dX6_told_2 : decode cX6_told 2 = .ok (.iconst 0, 1) := by decide +kernel
theorem dX6_told_3 : decode cX6_told 3 = .ok (.istore_n 3, 1) := by decide +kernel
theorem dX6_told_4 : decode cX6_told 4 = .ok (.iload_n 3, 1) := by decide +kernel
theorem dX6_told_5 : decode cX6_told 5 = .ok (.iconst 2, 1) := by decide +kernel
theorem dX6_told_6 : decode cX6_told 6 = .ok (.if_icmp .ge 40, 3) := by decide +kernel
theorem dX6_told_9 : decode cX6_told 9 = .ok (.iconst 0, 1) := by decide +kernel
theorem dX6_told_10 : decode cX6_told 10 = .ok (.istore 4, 2) := by decide +kernel
theorem dX6_told_12 : decode cX6_told 12 = .ok (.iload 4, 2) := by decide +kernel
theorem dX6_told_14 : decode cX6_told 14 = .ok (.aload_n 0, 1) := by decide +kernel
theorem dX6_told_15 : decode cX6_told 15 = .ok (.invokevirtual 82, 3) := by decide +kernel
theorem dX6_told_18 : decode cX6_told 18 = .ok (.if_icmp .ge 22, 3) := by decide +kernel
theorem dX6_told_21 : decode cX6_told 21 = .ok (.aload_n 0, 1) := by decide +kernel
theorem dX6_told_22 : decode cX6_told 22 = .ok (.iload_n 3, 1) := by decide +kernel
theorem dX6_told_23 : decode cX6_told 23 = .ok (.iload 4, 2) := by decide +kernel
theorem dX6_told_25 : decode cX6_told 25 = .ok (.invokevirtual 74, 3) := by decide +kernel
theorem dX6_told_28 : decode cX6_told 28 = .ok (.ifCond .eq 6, 3) := by decide +kernel
theorem dX6_told_31 : decode cX6_told 31 = .ok (.iinc 2 1, 3) := by decide +kernel
theorem dX6_told_34 : decode cX6_told 34 = .ok (.iinc 4 1, 3) := by decide +kernel
theorem dX6_told_37 : decode cX6_told 37 = .ok (.goto (-25), 3) := by decide +kernel
theorem dX6_told_40 : decode cX6_told 40 = .ok (.iinc 3 1, 3) := by decide +kernel
theorem dX6_told_43 : decode cX6_told 43 = .ok (.goto (-39), 3) := by decide +kernel
theorem dX6_told_46 : decode cX6_told 46 = .ok (.iload_n 1, 1) := by decide +kernel
theorem dX6_told_47 : decode cX6_told 47 = .ok (.ifCond .ne 10, 3) := by decide +kernel
theorem dX6_told_50 : decode cX6_told 50 = .ok (.aload_n 0, 1) := by decide +kernel
theorem dX6_told_51 : decode cX6_told 51 = .ok (.getfield 7, 3) := by decide +kernel
theorem dX6_told_54 : decode cX6_told 54 = .ok (.goto 80, 3) := by decide +kernel
theorem dX6_told_57 : decode cX6_told 57 = .ok (.iload_n 1, 1) := by decide +kernel
theorem dX6_told_58 : decode cX6_told 58 = .ok (.iconst 1, 1) := by decide +kernel
theorem dX6_told_59 : decode cX6_told 59 = .ok (.if_icmp .ne 10, 3) := by decide +kernel
theorem dX6_told_62 : decode cX6_told 62 = .ok (.aload_n 0, 1) := by decide +kernel
theorem dX6_told_63 : decode cX6_told 63 = .ok (.getfield 13, 3) := by decide +kernel
theorem dX6_told_66 : decode cX6_told 66 = .ok (.goto 68, 3) := by decide +kernel
theorem dX6_told_69 : decode cX6_told 69 = .ok (.iload_n 1, 1) := by decide +kernel
theorem dX6_told_70 : decode cX6_told 70 = .ok (.iconst 2, 1) := by decide +kernel
theorem dX6_told_71 : decode cX6_told 71 = .ok (.if_icmp .ne 10, 3) := by decide +kernel
theorem dX6_told_74 : decode cX6_told 74 = .ok (.aload_n 0, 1) := by decide +kernel
theorem dX6_told_75 : decode cX6_told 75 = .ok (.getfield 28, 3) := by decide +kernel
theorem dX6_told_78 : decode cX6_told 78 = .ok (.goto 56, 3) := by decide +kernel
theorem dX6_told_81 : decode cX6_told 81 = .ok (.iload_n 1, 1) := by decide +kernel
theorem dX6_told_82 : decode cX6_told 82 = .ok (.iconst 3, 1) := by decide +kernel
theorem dX6_told_83 : decode cX6_told 83 = .ok (.if_icmp .ne 10, 3) := by decide +kernel
theorem dX6_told_86 : decode cX6_told 86 = .ok (.aload_n 0, 1) := by decide +kernel
theorem dX6_told_87 : decode cX6_told 87 = .ok (.invokevirtual 136, 3) := by decide +kernel
theorem dX6_told_90 : decode cX6_told 90 = .ok (.goto 44, 3) := by decide +kernel
theorem dX6_told_93 : decode cX6_told 93 = .ok (.iload_n 1, 1) := by decide +kernel
theorem dX6_told_94 : decode cX6_told 94 = .ok (.iconst 4, 1) := by decide +kernel
theorem dX6_told_95 : decode cX6_told 95 = .ok (.if_icmp .ne 13, 3) := by decide +kernel
theorem dX6_told_98 : decode cX6_told 98 = .ok (.aload_n 0, 1) := by decide +kernel
theorem dX6_told_99 : decode cX6_told 99 = .ok (.getfield 37, 3) := by decide +kernel
theorem dX6_told_102 : decode cX6_told 102 = .ok (.invokevirtual 78, 3) := by decide +kernel
theorem dX6_told_105 : decode cX6_told 105 = .ok (.goto 29, 3) := by decide +kernel
theorem dX6_told_108 : decode cX6_told 108 = .ok (.iload_n 1, 1) := by decide +kernel
theorem dX6_told_109 : decode cX6_told 109 = .ok (.iconst 5, 1) := by decide +kernel
theorem dX6_told_110 : decode cX6_told 110 = .ok (.if_icmp .ne 10, 3) := by decide +kernel
theorem dX6_told_113 : decode cX6_told 113 = .ok (.aload_n 0, 1) := by decide +kernel
theorem dX6_told_114 : decode cX6_told 114 = .ok (.getfield 53, 3) := by decide +kernel
theorem dX6_told_117 : decode cX6_told 117 = .ok (.goto 17, 3) := by decide +kernel
theorem dX6_told_120 : decode cX6_told 120 = .ok (.iload_n 1, 1) := by decide +kernel
theorem dX6_told_121 : decode cX6_told 121 = .ok (.bipush 6, 2) := by decide +kernel
theorem dX6_told_123 : decode cX6_told 123 = .ok (.if_icmp .ne 10, 3) := by decide +kernel
theorem dX6_told_126 : decode cX6_told 126 = .ok (.aload_n 0, 1) := by decide +kernel
theorem dX6_told_127 : decode cX6_told 127 = .ok (.getfield 56, 3) := by decide +kernel
theorem dX6_told_130 : decode cX6_told 130 = .ok (.goto 4, 3) := by decide +kernel
theorem dX6_told_133 : decode cX6_told 133 = .ok (.iload_n 2, 1) := by decide +kernel
theorem dX6_told_134 : decode cX6_told 134 = .ok (.ireturn, 1) := by decide +kernel
theorem dX6_checksum_0 : decode cX6_checksum 0 = .ok (.lconst 0, 1) := by decide +kernel
theorem dX6_checksum_1 : decode cX6_checksum 1 = .ok (.lstore_n 1, 1) := by decide +kernel
theorem dX6_checksum_2 : decode cX6_checksum 2 = .ok (.iconst 0, 1) := by decide +kernel
theorem dX6_checksum_3 : decode cX6_checksum 3 = .ok (.istore_n 3, 1) := by decide +kernel
theorem dX6_checksum_4 : decode cX6_checksum 4 = .ok (.iload_n 3, 1) := by decide +kernel
theorem dX6_checksum_5 : decode cX6_checksum 5 = .ok (.bipush 8, 2) := by decide +kernel
theorem dX6_checksum_7 : decode cX6_checksum 7 = .ok (.if_icmp .ge 22, 3) := by decide +kernel
theorem dX6_checksum_10 : decode cX6_checksum 10 = .ok (.ldc2_w 139, 3) := by decide +kernel
theorem dX6_checksum_13 : decode cX6_checksum 13 = .ok (.lload_n 1, 1) := by decide +kernel
theorem dX6_checksum_14 : decode cX6_checksum 14 = .ok (.lmul, 1) := by decide +kernel
theorem dX6_checksum_15 : decode cX6_checksum 15 = .ok (.aload_n 0, 1) := by decide +kernel
theorem dX6_checksum_16 : decode cX6_checksum 16 = .ok (.iload_n 3, 1) := by decide +kernel
theorem dX6_checksum_17 : decode cX6_checksum 17 = .ok (.invokevirtual 141, 3) := by decide +kernel
theorem dX6_checksum_20 : decode cX6_checksum 20 = .ok (.i2l, 1) := by decide +kernel
theorem dX6_checksum_21 : decode cX6_checksum 21 = .ok (.ladd, 1) := by decide +kernel
theorem dX6_checksum_22 : decode cX6_checksum 22 = .ok (.lstore_n 1, 1) := by decide +kernel
theorem dX6_checksum_23 : decode cX6_checksum 23 = .ok (.iinc 3 1, 3) := by decide +kernel
theorem dX6_checksum_26 : decode cX6_checksum 26 = .ok (.goto (-22), 3) := by decide +kernel
theorem dX6_checksum_29 : decode cX6_checksum 29 = .ok (.iconst 0, 1) := by decide +kernel
theorem dX6_checksum_30 : decode cX6_checksum 30 = .ok (.istore_n 3, 1) := by decide +kernel
theorem dX6_checksum_31 : decode cX6_checksum 31 = .ok (.iload_n 3, 1) := by decide +kernel
theorem dX6_checksum_32 : decode cX6_checksum 32 = .ok (.iconst 2, 1) := by decide +kernel
theorem dX6_checksum_33 : decode cX6_checksum 33 = .ok (.if_icmp .ge 55, 3) := by decide +kernel
theorem dX6_checksum_36 : decode cX6_checksum 36 = .ok (.iconst 0, 1) := by decide +kernel
theorem dX6_checksum_37 : decode cX6_checksum 37 = .ok (.istore 4, 2) := by decide +kernel
theorem dX6_checksum_39 : decode cX6_checksum 39 = .ok (.iload 4, 2) := by decide +kernel
theorem dX6_checksum_41 : decode cX6_checksum 41 = .ok (.aload_n 0, 1) := by decide +kernel
theorem dX6_checksum_42 : decode cX6_checksum 42 = .ok (.invokevirtual 82, 3) := by decide +kernel
theorem dX6_checksum_45 : decode cX6_checksum 45 = .ok (.if_icmp .ge 37, 3) := by decide +kernel
theorem dX6_checksum_48 : decode cX6_checksum 48 = .ok (.ldc2_w 139, 3) := by decide +kernel
theorem dX6_checksum_51 : decode cX6_checksum 51 = .ok (.ldc2_w 139, 3) := by decide +kernel
theorem dX6_checksum_54 : decode cX6_checksum 54 = .ok (.lload_n 1, 1) := by decide +kernel
theorem dX6_checksum_55 : decode cX6_checksum 55 = .ok (.lmul, 1) := by decide +kernel
theorem dX6_checksum_56 : decode cX6_checksum 56 = .ok (.aload_n 0, 1) := by decide +kernel
theorem dX6_checksum_57 : decode cX6_checksum 57 = .ok (.iload_n 3, 1) := by decide +kernel
theorem dX6_checksum_58 : decode cX6_checksum 58 = .ok (.iload 4, 2) := by decide +kernel
theorem dX6_checksum_60 : decode cX6_checksum 60 = .ok (.invokevirtual 144, 3) := by decide +kernel
theorem dX6_checksum_63 : decode cX6_checksum 63 = .ok (.i2l, 1) := by decide +kernel
theorem dX6_checksum_64 : decode cX6_checksum 64 = .ok (.ladd, 1) := by decide +kernel
theorem dX6_checksum_65 : decode cX6_checksum 65 = .ok (.lmul, 1) := by decide +kernel
theorem dX6_checksum_66 : decode cX6_checksum 66 = .ok (.aload_n 0, 1) := by decide +kernel
theorem dX6_checksum_67 : decode cX6_checksum 67 = .ok (.iload_n 3, 1) := by decide +kernel
theorem dX6_checksum_68 : decode cX6_checksum 68 = .ok (.iload 4, 2) := by decide +kernel
theorem dX6_checksum_70 : decode cX6_checksum 70 = .ok (.invokevirtual 71, 3) := by decide +kernel
theorem dX6_checksum_73 : decode cX6_checksum 73 = .ok (.i2l, 1) := by decide +kernel
theorem dX6_checksum_74 : decode cX6_checksum 74 = .ok (.ladd, 1) := by decide +kernel
theorem dX6_checksum_75 : decode cX6_checksum 75 = .ok (.lstore_n 1, 1) := by decide +kernel
theorem dX6_checksum_76 : decode cX6_checksum 76 = .ok (.iinc 4 1, 3) := by decide +kernel
theorem dX6_checksum_79 : decode cX6_checksum 79 = .ok (.goto (-40), 3) := by decide +kernel
theorem dX6_checksum_82 : decode cX6_checksum 82 = .ok (.iinc 3 1, 3) := by decide +kernel
theorem dX6_checksum_85 : decode cX6_checksum 85 = .ok (.goto (-54), 3) := by decide +kernel
theorem dX6_checksum_88 : decode cX6_checksum 88 = .ok (.iconst 0, 1) := by decide +kernel
theorem dX6_checksum_89 : decode cX6_checksum 89 = .ok (.istore_n 3, 1) := by decide +kernel
theorem dX6_checksum_90 : decode cX6_checksum 90 = .ok (.iload_n 3, 1) := by decide +kernel
theorem dX6_checksum_91 : decode cX6_checksum 91 = .ok (.aload_n 0, 1) := by decide +kernel
theorem dX6_checksum_92 : decode cX6_checksum 92 = .ok (.getfield 37, 3) := by decide +kernel
theorem dX6_checksum_95 : decode cX6_checksum 95 = .ok (.invokevirtual 78, 3) := by decide +kernel
theorem dX6_checksum_98 : decode cX6_checksum 98 = .ok (.if_icmp .ge 29, 3) := by decide +kernel
theorem dX6_checksum_101 : decode cX6_checksum 101 = .ok (.ldc2_w 139, 3) := by decide +kernel
theorem dX6_checksum_104 : decode cX6_checksum 104 = .ok (.lload_n 1, 1) := by decide +kernel
theorem dX6_checksum_105 : decode cX6_checksum 105 = .ok (.lmul, 1) := by decide +kernel
theorem dX6_checksum_106 : decode cX6_checksum 106 = .ok (.aload_n 0, 1) := by decide +kernel
theorem dX6_checksum_107 : decode cX6_checksum 107 = .ok (.getfield 37, 3) := by decide +kernel
theorem dX6_checksum_110 : decode cX6_checksum 110 = .ok (.iload_n 3, 1) := by decide +kernel
theorem dX6_checksum_111 : decode cX6_checksum 111 = .ok (.invokevirtual 59, 3) := by decide +kernel
theorem dX6_checksum_114 : decode cX6_checksum 114 = .ok (.i2l, 1) := by decide +kernel
theorem dX6_checksum_115 : decode cX6_checksum 115 = .ok (.ladd, 1) := by decide +kernel
theorem dX6_checksum_116 : decode cX6_checksum 116 = .ok (.ldc2_w 147, 3) := by decide +kernel
theorem dX6_checksum_119 : decode cX6_checksum 119 = .ok (.lsub, 1) := by decide +kernel
theorem dX6_checksum_120 : decode cX6_checksum 120 = .ok (.lstore_n 1, 1) := by decide +kernel
theorem dX6_checksum_121 : decode cX6_checksum 121 = .ok (.iinc 3 1, 3) := by decide +kernel
theorem dX6_checksum_124 : decode cX6_checksum 124 = .ok (.goto (-34), 3) := by decide +kernel
theorem dX6_checksum_127 : decode cX6_checksum 127 = .ok (.ldc2_w 139, 3) := by decide +kernel
theorem dX6_checksum_130 : decode cX6_checksum 130 = .ok (.lload_n 1, 1) := by decide +kernel
theorem dX6_checksum_131 : decode cX6_checksum 131 = .ok (.lmul, 1) := by decide +kernel
theorem dX6_checksum_132 : decode cX6_checksum 132 = .ok (.aload_n 0, 1) := by decide +kernel
theorem dX6_checksum_133 : decode cX6_checksum 133 = .ok (.invokevirtual 149, 3) := by decide +kernel
theorem dX6_checksum_136 : decode cX6_checksum 136 = .ok (.i2l, 1) := by decide +kernel
theorem dX6_checksum_137 : decode cX6_checksum 137 = .ok (.ladd, 1) := by decide +kernel
theorem dX6_checksum_138 : decode cX6_checksum 138 = .ok (.lstore_n 1, 1) := by decide +kernel
theorem dX6_checksum_139 : decode cX6_checksum 139 = .ok (.ldc2_w 139, 3) := by decide +kernel
theorem dX6_checksum_142 : decode cX6_checksum 142 = .ok (.lload_n 1, 1) := by decide +kernel
theorem dX6_checksum_143 : decode cX6_checksum 143 = .ok (.lmul, 1) := by decide +kernel
theorem dX6_checksum_144 : decode cX6_checksum 144 = .ok (.aload_n 0, 1) := by decide +kernel
theorem dX6_checksum_145 : decode cX6_checksum 145 = .ok (.getfield 37, 3) := by decide +kernel
theorem dX6_checksum_148 : decode cX6_checksum 148 = .ok (.invokevirtual 78, 3) := by decide +kernel
theorem dX6_checksum_151 : decode cX6_checksum 151 = .ok (.ifCond .ne 7, 3) := by decide +kernel
theorem dX6_checksum_154 : decode cX6_checksum 154 = .ok (.iconst 0, 1) := by decide +kernel
theorem dX6_checksum_155 : decode cX6_checksum 155 = .ok (.goto 7, 3) := by decide +kernel
theorem dX6_checksum_158 : decode cX6_checksum 158 = .ok (.aload_n 0, 1) := by decide +kernel
theorem dX6_checksum_159 : decode cX6_checksum 159 = .ok (.invokevirtual 152, 3) := by decide +kernel
theorem dX6_checksum_162 : decode cX6_checksum 162 = .ok (.i2l, 1) := by decide +kernel
theorem dX6_checksum_163 : decode cX6_checksum 163 = .ok (.ladd, 1) := by decide +kernel
theorem dX6_checksum_164 : decode cX6_checksum 164 = .ok (.lstore_n 1, 1) := by decide +kernel
theorem dX6_checksum_165 : decode cX6_checksum 165 = .ok (.ldc2_w 139, 3) := by decide +kernel
theorem dX6_checksum_168 : decode cX6_checksum 168 = .ok (.lload_n 1, 1) := by decide +kernel
theorem dX6_checksum_169 : decode cX6_checksum 169 = .ok (.lmul, 1) := by decide +kernel
theorem dX6_checksum_170 : decode cX6_checksum 170 = .ok (.aload_n 0, 1) := by decide +kernel
theorem dX6_checksum_171 : decode cX6_checksum 171 = .ok (.invokevirtual 155, 3) := by decide +kernel
theorem dX6_checksum_174 : decode cX6_checksum 174 = .ok (.i2l, 1) := by decide +kernel
theorem dX6_checksum_175 : decode cX6_checksum 175 = .ok (.ladd, 1) := by decide +kernel
theorem dX6_checksum_176 : decode cX6_checksum 176 = .ok (.lreturn, 1) := by decide +kernel
theorem dJ5_init_d00df_0 : decode cJ5_init_d00df 0 = .ok (.aload_n 0, 1) := by decide +kernel
theorem dJ5_init_d00df_1 : decode cJ5_init_d00df 1 = .ok (.invokespecial 3, 3) := by decide +kernel
theorem dJ5_init_d00df_4 : decode cJ5_init_d00df 4 = .ok (.getstatic 18, 3) := by decide +kernel
theorem dJ5_init_d00df_7 : decode cJ5_init_d00df 7 = .ok (.ifCond .eq 18, 3) := by decide +kernel
theorem dJ5_init_d00df_10 : decode cJ5_init_d00df 10 = .ok (.aload_n 0, 1) := by decide +kernel
theorem dJ5_init_d00df_11 : decode cJ5_init_d00df 11 = .ok (.iload_n 1, 1) := by decide +kernel
theorem dJ5_init_d00df_12 : decode cJ5_init_d00df 12 = .ok (.newarray .byte, 2) := by decide +kernel
theorem dJ5_init_d00df_14 : decode cJ5_init_d00df 14 = .ok (.putfield 15, 3) := by decide +kernel
theorem dJ5_init_d00df_17 : decode cJ5_init_d00df 17 = .ok (.aload_n 0, 1) := by decide +kernel
theorem dJ5_init_d00df_18 : decode cJ5_init_d00df 18 = .ok (.iconst 0, 1) := by decide +kernel
theorem dJ5_init_d00df_19 : decode cJ5_init_d00df 19 = .ok (.putfield 22, 3) := by decide +kernel
theorem dJ5_init_d00df_22 : decode cJ5_init_d00df 22 = .ok (.goto 16, 3) := by decide +kernel
theorem dJ5_init_d00df_25 : decode cJ5_init_d00df 25 = .ok (.aload_n 0, 1) := by decide +kernel
theorem dJ5_init_d00df_26 : decode cJ5_init_d00df 26 = .ok (.iload_n 1, 1) := by decide +kernel
theorem dJ5_init_d00df_27 : decode cJ5_init_d00df 27 = .ok (.invokestatic 26, 3) := by decide +kernel
theorem dJ5_init_d00df_30 : decode cJ5_init_d00df 30 = .ok (.putfield 15, 3) := by decide +kernel
theorem dJ5_init_d00df_33 : decode cJ5_init_d00df 33 = .ok (.aload_n 0, 1) := by decide +kernel
theorem dJ5_init_d00df_34 : decode cJ5_init_d00df 34 = .ok (.iconst 1, 1) := by decide +kernel
theorem dJ5_init_d00df_35 : decode cJ5_init_d00df 35 = .ok (.putfield 22, 3) := by decide +kernel
theorem dJ5_init_d00df_38 : decode cJ5_init_d00df 38 = .ok (.return_, 1) := by decide +kernel
theorem dJ5_length_8abf5_0 : decode cJ5_length_8abf5 0 = .ok (.aload_n 0, 1) := by decide +kernel
theorem dJ5_length_8abf5_1 : decode cJ5_length_8abf5 1 = .ok (.getfield 79, 3) := by decide +kernel
theorem dJ5_length_8abf5_4 : decode cJ5_length_8abf5 4 = .ok (.ireturn, 1) := by decide +kernel
theorem dJ5_ensureCapacityInternal_d00df_0 : decode cJ5_ensureCapacityInternal_d00df 0 = .ok (.aload_n 0, 1) := by decide +kernel
theorem dJ5_ensureCapacityInternal_d00df_1 : decode cJ5_ensureCapacityInternal_d00df 1 = .ok (.getfield 15, 3) := by decide +kernel
theorem dJ5_ensureCapacityInternal_d00df_4 : decode cJ5_ensureCapacityInternal_d00df 4 = .ok (.arraylength, 1) := by decide +kernel
theorem dJ5_ensureCapacityInternal_d00df_5 : decode cJ5_ensureCapacityInternal_d00df 5 = .ok (.aload_n 0, 1) := by decide +kernel
theorem dJ5_ensureCapacityInternal_d00df_6 : decode cJ5_ensureCapacityInternal_d00df 6 = .ok (.getfield 22, 3) := by decide +kernel
theorem dJ5_ensureCapacityInternal_d00df_9 : decode cJ5_ensureCapacityInternal_d00df 9 = .ok (.ishr, 1) := by decide +kernel
theorem dJ5_ensureCapacityInternal_d00df_10 : decode cJ5_ensureCapacityInternal_d00df 10 = .ok (.istore_n 2, 1) := by decide +kernel
theorem dJ5_ensureCapacityInternal_d00df_11 : decode cJ5_ensureCapacityInternal_d00df 11 = .ok (.iload_n 1, 1) := by decide +kernel
theorem dJ5_ensureCapacityInternal_d00df_12 : decode cJ5_ensureCapacityInternal_d00df 12 = .ok (.iload_n 2, 1) := by decide +kernel
theorem dJ5_ensureCapacityInternal_d00df_13 : decode cJ5_ensureCapacityInternal_d00df 13 = .ok (.isub, 1) := by decide +kernel
theorem dJ5_ensureCapacityInternal_d00df_14 : decode cJ5_ensureCapacityInternal_d00df 14 = .ok (.ifCond .le 24, 3) := by decide +kernel
theorem dJ5_ensureCapacityInternal_d00df_17 : decode cJ5_ensureCapacityInternal_d00df 17 = .ok (.aload_n 0, 1) := by decide +kernel
theorem dJ5_ensureCapacityInternal_d00df_18 : decode cJ5_ensureCapacityInternal_d00df 18 = .ok (.aload_n 0, 1) := by decide +kernel
theorem dJ5_ensureCapacityInternal_d00df_19 : decode cJ5_ensureCapacityInternal_d00df 19 = .ok (.getfield 15, 3) := by decide +kernel
theorem dJ5_ensureCapacityInternal_d00df_22 : decode cJ5_ensureCapacityInternal_d00df 22 = .ok (.aload_n 0, 1) := by decide +kernel
theorem dJ5_ensureCapacityInternal_d00df_23 : decode cJ5_ensureCapacityInternal_d00df 23 = .ok (.iload_n 1, 1) := by decide +kernel
theorem dJ5_ensureCapacityInternal_d00df_24 : decode cJ5_ensureCapacityInternal_d00df 24 = .ok (.invokevirtual 104, 3) := by decide +kernel
theorem dJ5_ensureCapacityInternal_d00df_27 : decode cJ5_ensureCapacityInternal_d00df 27 = .ok (.aload_n 0, 1) := by decide +kernel
theorem dJ5_ensureCapacityInternal_d00df_28 : decode cJ5_ensureCapacityInternal_d00df 28 = .ok (.getfield 22, 3) := by decide +kernel
theorem dJ5_ensureCapacityInternal_d00df_31 : decode cJ5_ensureCapacityInternal_d00df 31 = .ok (.ishl, 1) := by decide +kernel
theorem dJ5_ensureCapacityInternal_d00df_32 : decode cJ5_ensureCapacityInternal_d00df 32 = .ok (.invokestatic 108, 3) := by decide +kernel
theorem dJ5_ensureCapacityInternal_d00df_35 : decode cJ5_ensureCapacityInternal_d00df 35 = .ok (.putfield 15, 3) := by decide +kernel
theorem dJ5_ensureCapacityInternal_d00df_38 : decode cJ5_ensureCapacityInternal_d00df 38 = .ok (.return_, 1) := by decide +kernel
theorem dJ5_newCapacity_0f7a4_0 : decode cJ5_newCapacity_0f7a4 0 = .ok (.aload_n 0, 1) := by decide +kernel
theorem dJ5_newCapacity_0f7a4_1 : decode cJ5_newCapacity_0f7a4 1 = .ok (.getfield 15, 3) := by decide +kernel
theorem dJ5_newCapacity_0f7a4_4 : decode cJ5_newCapacity_0f7a4 4 = .ok (.arraylength, 1) := by decide +kernel
theorem dJ5_newCapacity_0f7a4_5 : decode cJ5_newCapacity_0f7a4 5 = .ok (.istore_n 2, 1) := by decide +kernel
theorem dJ5_newCapacity_0f7a4_6 : decode cJ5_newCapacity_0f7a4 6 = .ok (.iload_n 1, 1) := by decide +kernel
theorem dJ5_newCapacity_0f7a4_7 : decode cJ5_newCapacity_0f7a4 7 = .ok (.aload_n 0, 1) := by decide +kernel
theorem dJ5_newCapacity_0f7a4_8 : decode cJ5_newCapacity_0f7a4 8 = .ok (.getfield 22, 3) := by decide +kernel
theorem dJ5_newCapacity_0f7a4_11 : decode cJ5_newCapacity_0f7a4 11 = .ok (.ishl, 1) := by decide +kernel
theorem dJ5_newCapacity_0f7a4_12 : decode cJ5_newCapacity_0f7a4 12 = .ok (.istore_n 3, 1) := by decide +kernel
theorem dJ5_newCapacity_0f7a4_13 : decode cJ5_newCapacity_0f7a4 13 = .ok (.iload_n 3, 1) := by decide +kernel
theorem dJ5_newCapacity_0f7a4_14 : decode cJ5_newCapacity_0f7a4 14 = .ok (.iload_n 2, 1) := by decide +kernel
theorem dJ5_newCapacity_0f7a4_15 : decode cJ5_newCapacity_0f7a4 15 = .ok (.isub, 1) := by decide +kernel
theorem dJ5_newCapacity_0f7a4_16 : decode cJ5_newCapacity_0f7a4 16 = .ok (.istore 4, 2) := by decide +kernel
theorem dJ5_newCapacity_0f7a4_18 : decode cJ5_newCapacity_0f7a4 18 = .ok (.iload_n 2, 1) := by decide +kernel
theorem dJ5_newCapacity_0f7a4_19 : decode cJ5_newCapacity_0f7a4 19 = .ok (.iload 4, 2) := by decide +kernel
theorem dJ5_newCapacity_0f7a4_21 : decode cJ5_newCapacity_0f7a4 21 = .ok (.iload_n 2, 1) := by decide +kernel
theorem dJ5_newCapacity_0f7a4_22 : decode cJ5_newCapacity_0f7a4 22 = .ok (.iconst 2, 1) := by decide +kernel
theorem dJ5_newCapacity_0f7a4_23 : decode cJ5_newCapacity_0f7a4 23 = .ok (.aload_n 0, 1) := by decide +kernel
theorem dJ5_newCapacity_0f7a4_24 : decode cJ5_newCapacity_0f7a4 24 = .ok (.getfield 22, 3) := by decide +kernel
theorem dJ5_newCapacity_0f7a4_27 : decode cJ5_newCapacity_0f7a4 27 = .ok (.ishl, 1) := by decide +kernel
theorem dJ5_newCapacity_0f7a4_28 : decode cJ5_newCapacity_0f7a4 28 = .ok (.iadd, 1) := by decide +kernel
theorem dJ5_newCapacity_0f7a4_29 : decode cJ5_newCapacity_0f7a4 29 = .ok (.invokestatic 114, 3) := by decide +kernel
theorem dJ5_newCapacity_0f7a4_32 : decode cJ5_newCapacity_0f7a4 32 = .ok (.istore 5, 2) := by decide +kernel
theorem dJ5_newCapacity_0f7a4_34 : decode cJ5_newCapacity_0f7a4 34 = .ok (.iload 5, 2) := by decide +kernel
theorem dJ5_newCapacity_0f7a4_36 : decode cJ5_newCapacity_0f7a4 36 = .ok (.ldc 39, 2) := by decide +kernel
theorem dJ5_newCapacity_0f7a4_38 : decode cJ5_newCapacity_0f7a4 38 = .ok (.if_icmp .ne 13, 3) := by decide +kernel
theorem dJ5_newCapacity_0f7a4_41 : decode cJ5_newCapacity_0f7a4 41 = .ok (.new 120, 3) := by decide +kernel
theorem dJ5_newCapacity_0f7a4_44 : decode cJ5_newCapacity_0f7a4 44 = .ok (.dup, 1) := by decide +kernel
theorem dJ5_newCapacity_0f7a4_45 : decode cJ5_newCapacity_0f7a4 45 = .ok (.ldc 122, 2) := by decide +kernel
theorem dJ5_newCapacity_0f7a4_47 : decode cJ5_newCapacity_0f7a4 47 = .ok (.invokespecial 124, 3) := by decide +kernel
theorem dJ5_newCapacity_0f7a4_50 : decode cJ5_newCapacity_0f7a4 50 = .ok (.athrow, 1) := by decide +kernel
theorem dJ5_newCapacity_0f7a4_51 : decode cJ5_newCapacity_0f7a4 51 = .ok (.iload 5, 2) := by decide +kernel
theorem dJ5_newCapacity_0f7a4_53 : decode cJ5_newCapacity_0f7a4 53 = .ok (.aload_n 0, 1) := by decide +kernel
theorem dJ5_newCapacity_0f7a4_54 : decode cJ5_newCapacity_0f7a4 54 = .ok (.getfield 22, 3) := by decide +kernel
theorem dJ5_newCapacity_0f7a4_57 : decode cJ5_newCapacity_0f7a4 57 = .ok (.ishr, 1) := by decide +kernel
theorem dJ5_newCapacity_0f7a4_58 : decode cJ5_newCapacity_0f7a4 58 = .ok (.ireturn, 1) := by decide +kernel
theorem dJ5_inflate_da8c8_0 : decode cJ5_inflate_da8c8 0 = .ok (.aload_n 0, 1) := by decide +kernel
theorem dJ5_inflate_da8c8_1 : decode cJ5_inflate_da8c8 1 = .ok (.invokevirtual 83, 3) := by decide +kernel
theorem dJ5_inflate_da8c8_4 : decode cJ5_inflate_da8c8 4 = .ok (.ifCond .ne 4, 3) := by decide +kernel
theorem dJ5_inflate_da8c8_7 : decode cJ5_inflate_da8c8 7 = .ok (.return_, 1) := by decide +kernel
theorem dJ5_inflate_da8c8_8 : decode cJ5_inflate_da8c8 8 = .ok (.aload_n 0, 1) := by decide +kernel
theorem dJ5_inflate_da8c8_9 : decode cJ5_inflate_da8c8 9 = .ok (.getfield 15, 3) := by decide +kernel
theorem dJ5_inflate_da8c8_12 : decode cJ5_inflate_da8c8 12 = .ok (.arraylength, 1) := by decide +kernel
theorem dJ5_inflate_da8c8_13 : decode cJ5_inflate_da8c8 13 = .ok (.invokestatic 26, 3) := by decide +kernel
theorem dJ5_inflate_da8c8_16 : decode cJ5_inflate_da8c8 16 = .ok (.astore_n 1, 1) := by decide +kernel
theorem dJ5_inflate_da8c8_17 : decode cJ5_inflate_da8c8 17 = .ok (.aload_n 0, 1) := by decide +kernel
theorem dJ5_inflate_da8c8_18 : decode cJ5_inflate_da8c8 18 = .ok (.getfield 15, 3) := by decide +kernel
theorem dJ5_inflate_da8c8_21 : decode cJ5_inflate_da8c8 21 = .ok (.iconst 0, 1) := by decide +kernel
theorem dJ5_inflate_da8c8_22 : decode cJ5_inflate_da8c8 22 = .ok (.aload_n 1, 1) := by decide +kernel
theorem dJ5_inflate_da8c8_23 : decode cJ5_inflate_da8c8 23 = .ok (.iconst 0, 1) := by decide +kernel
theorem dJ5_inflate_da8c8_24 : decode cJ5_inflate_da8c8 24 = .ok (.aload_n 0, 1) := by decide +kernel
theorem dJ5_inflate_da8c8_25 : decode cJ5_inflate_da8c8 25 = .ok (.getfield 79, 3) := by decide +kernel
theorem dJ5_inflate_da8c8_28 : decode cJ5_inflate_da8c8 28 = .ok (.invokestatic 125, 3) := by decide +kernel
theorem dJ5_inflate_da8c8_31 : decode cJ5_inflate_da8c8 31 = .ok (.aload_n 0, 1) := by decide +kernel
theorem dJ5_inflate_da8c8_32 : decode cJ5_inflate_da8c8 32 = .ok (.aload_n 1, 1) := by decide +kernel
theorem dJ5_inflate_da8c8_33 : decode cJ5_inflate_da8c8 33 = .ok (.putfield 15, 3) := by decide +kernel
theorem dJ5_inflate_da8c8_36 : decode cJ5_inflate_da8c8 36 = .ok (.aload_n 0, 1) := by decide +kernel
theorem dJ5_inflate_da8c8_37 : decode cJ5_inflate_da8c8 37 = .ok (.iconst 1, 1) := by decide +kernel
theorem dJ5_inflate_da8c8_38 : decode cJ5_inflate_da8c8 38 = .ok (.putfield 22, 3) := by decide +kernel
theorem dJ5_inflate_da8c8_41 : decode cJ5_inflate_da8c8 41 = .ok (.return_, 1) := by decide +kernel
theorem dJ5_append_cf1ce_0 : decode cJ5_append_cf1ce 0 = .ok (.aload_n 1, 1) := by decide +kernel
theorem dJ5_append_cf1ce_1 : decode cJ5_append_cf1ce 1 = .ok (.ifnonnull 8, 3) := by decide +kernel
theorem dJ5_append_cf1ce_4 : decode cJ5_append_cf1ce 4 = .ok (.aload_n 0, 1) := by decide +kernel
theorem dJ5_append_cf1ce_5 : decode cJ5_append_cf1ce 5 = .ok (.invokevirtual 204, 3) := by decide +kernel
theorem dJ5_append_cf1ce_8 : decode cJ5_append_cf1ce 8 = .ok (.areturn, 1) := by decide +kernel
theorem dJ5_append_cf1ce_9 : decode cJ5_append_cf1ce 9 = .ok (.aload_n 1, 1) := by decide +kernel
theorem dJ5_append_cf1ce_10 : decode cJ5_append_cf1ce 10 = .ok (.invokevirtual 32, 3) := by decide +kernel
theorem dJ5_append_cf1ce_13 : decode cJ5_append_cf1ce 13 = .ok (.istore_n 2, 1) := by decide +kernel
theorem dJ5_append_cf1ce_14 : decode cJ5_append_cf1ce 14 = .ok (.aload_n 0, 1) := by decide +kernel
theorem dJ5_append_cf1ce_15 : decode cJ5_append_cf1ce 15 = .ok (.aload_n 0, 1) := by decide +kernel
theorem dJ5_append_cf1ce_16 : decode cJ5_append_cf1ce 16 = .ok (.getfield 79, 3) := by decide +kernel
theorem dJ5_append_cf1ce_19 : decode cJ5_append_cf1ce 19 = .ok (.iload_n 2, 1) := by decide +kernel
theorem dJ5_append_cf1ce_20 : decode cJ5_append_cf1ce 20 = .ok (.iadd, 1) := by decide +kernel
theorem dJ5_append_cf1ce_21 : decode cJ5_append_cf1ce 21 = .ok (.invokevirtual 100, 3) := by decide +kernel
theorem dJ5_append_cf1ce_24 : decode cJ5_append_cf1ce 24 = .ok (.aload_n 0, 1) := by decide +kernel
theorem dJ5_append_cf1ce_25 : decode cJ5_append_cf1ce 25 = .ok (.aload_n 0, 1) := by decide +kernel
theorem dJ5_append_cf1ce_26 : decode cJ5_append_cf1ce 26 = .ok (.getfield 79, 3) := by decide +kernel
theorem dJ5_append_cf1ce_29 : decode cJ5_append_cf1ce 29 = .ok (.aload_n 1, 1) := by decide +kernel
theorem dJ5_append_cf1ce_30 : decode cJ5_append_cf1ce 30 = .ok (.invokevirtual 208, 3) := by decide +kernel
theorem dJ5_append_cf1ce_33 : decode cJ5_append_cf1ce 33 = .ok (.aload_n 0, 1) := by decide +kernel
theorem dJ5_append_cf1ce_34 : decode cJ5_append_cf1ce 34 = .ok (.dup, 1) := by decide +kernel
theorem dJ5_append_cf1ce_35 : decode cJ5_append_cf1ce 35 = .ok (.getfield 79, 3) := by decide +kernel
theorem dJ5_append_cf1ce_38 : decode cJ5_append_cf1ce 38 = .ok (.iload_n 2, 1) := by decide +kernel
theorem dJ5_append_cf1ce_39 : decode cJ5_append_cf1ce 39 = .ok (.iadd, 1) := by decide +kernel
theorem dJ5_append_cf1ce_40 : decode cJ5_append_cf1ce 40 = .ok (.putfield 79, 3) := by decide +kernel
theorem dJ5_append_cf1ce_43 : decode cJ5_append_cf1ce 43 = .ok (.aload_n 0, 1) := by decide +kernel
theorem dJ5_append_cf1ce_44 : decode cJ5_append_cf1ce 44 = .ok (.areturn, 1) := by decide +kernel
theorem dJ5_appendNull_278bc_0 : decode cJ5_appendNull_278bc 0 = .ok (.aload_n 0, 1) := by decide +kernel
theorem dJ5_appendNull_278bc_1 : decode cJ5_appendNull_278bc 1 = .ok (.aload_n 0, 1) := by decide +kernel
theorem dJ5_appendNull_278bc_2 : decode cJ5_appendNull_278bc 2 = .ok (.getfield 79, 3) := by decide +kernel
theorem dJ5_appendNull_278bc_5 : decode cJ5_appendNull_278bc 5 = .ok (.iconst 4, 1) := by decide +kernel
theorem dJ5_appendNull_278bc_6 : decode cJ5_appendNull_278bc 6 = .ok (.iadd, 1) := by decide +kernel
theorem dJ5_appendNull_278bc_7 : decode cJ5_appendNull_278bc 7 = .ok (.invokevirtual 100, 3) := by decide +kernel
theorem dJ5_appendNull_278bc_10 : decode cJ5_appendNull_278bc 10 = .ok (.aload_n 0, 1) := by decide +kernel
theorem dJ5_appendNull_278bc_11 : decode cJ5_appendNull_278bc 11 = .ok (.getfield 79, 3) := by decide +kernel
theorem dJ5_appendNull_278bc_14 : decode cJ5_appendNull_278bc 14 = .ok (.istore_n 1, 1) := by decide +kernel
theorem dJ5_appendNull_278bc_15 : decode cJ5_appendNull_278bc 15 = .ok (.aload_n 0, 1) := by decide +kernel
theorem dJ5_appendNull_278bc_16 : decode cJ5_appendNull_278bc 16 = .ok (.getfield 15, 3) := by decide +kernel
theorem dJ5_appendNull_278bc_19 : decode cJ5_appendNull_278bc 19 = .ok (.astore_n 2, 1) := by decide +kernel
theorem dJ5_appendNull_278bc_20 : decode cJ5_appendNull_278bc 20 = .ok (.aload_n 0, 1) := by decide +kernel
theorem dJ5_appendNull_278bc_21 : decode cJ5_appendNull_278bc 21 = .ok (.invokevirtual 83, 3) := by decide +kernel
theorem dJ5_appendNull_278bc_24 : decode cJ5_appendNull_278bc 24 = .ok (.ifCond .eq 38, 3) := by decide +kernel
theorem dJ5_appendNull_278bc_27 : decode cJ5_appendNull_278bc 27 = .ok (.aload_n 2, 1) := by decide +kernel
theorem dJ5_appendNull_278bc_28 : decode cJ5_appendNull_278bc 28 = .ok (.iload_n 1, 1) := by decide +kernel
theorem dJ5_appendNull_278bc_29 : decode cJ5_appendNull_278bc 29 = .ok (.iinc 1 1, 3) := by decide +kernel
theorem dJ5_appendNull_278bc_32 : decode cJ5_appendNull_278bc 32 = .ok (.bipush 110, 2) := by decide +kernel
theorem dJ5_appendNull_278bc_34 : decode cJ5_appendNull_278bc 34 = .ok (.bastore, 1) := by decide +kernel
theorem dJ5_appendNull_278bc_35 : decode cJ5_appendNull_278bc 35 = .ok (.aload_n 2, 1) := by decide +kernel
theorem dJ5_appendNull_278bc_36 : decode cJ5_appendNull_278bc 36 = .ok (.iload_n 1, 1) := by decide +kernel
theorem dJ5_appendNull_278bc_37 : decode cJ5_appendNull_278bc 37 = .ok (.iinc 1 1, 3) := by decide +kernel
theorem dJ5_appendNull_278bc_40 : decode cJ5_appendNull_278bc 40 = .ok (.bipush 117, 2) := by decide +kernel
theorem dJ5_appendNull_278bc_42 : decode cJ5_appendNull_278bc 42 = .ok (.bastore, 1) := by decide +kernel
theorem dJ5_appendNull_278bc_43 : decode cJ5_appendNull_278bc 43 = .ok (.aload_n 2, 1) := by decide +kernel
theorem dJ5_appendNull_278bc_44 : decode cJ5_appendNull_278bc 44 = .ok (.iload_n 1, 1) := by decide +kernel
theorem dJ5_appendNull_278bc_45 : decode cJ5_appendNull_278bc 45 = .ok (.iinc 1 1, 3) := by decide +kernel
theorem dJ5_appendNull_278bc_48 : decode cJ5_appendNull_278bc 48 = .ok (.bipush 108, 2) := by decide +kernel
theorem dJ5_appendNull_278bc_50 : decode cJ5_appendNull_278bc 50 = .ok (.bastore, 1) := by decide +kernel
theorem dJ5_appendNull_278bc_51 : decode cJ5_appendNull_278bc 51 = .ok (.aload_n 2, 1) := by decide +kernel
theorem dJ5_appendNull_278bc_52 : decode cJ5_appendNull_278bc 52 = .ok (.iload_n 1, 1) := by decide +kernel
theorem dJ5_appendNull_278bc_53 : decode cJ5_appendNull_278bc 53 = .ok (.iinc 1 1, 3) := by decide +kernel
theorem dJ5_appendNull_278bc_56 : decode cJ5_appendNull_278bc 56 = .ok (.bipush 108, 2) := by decide +kernel
theorem dJ5_appendNull_278bc_58 : decode cJ5_appendNull_278bc 58 = .ok (.bastore, 1) := by decide +kernel
theorem dJ5_appendNull_278bc_59 : decode cJ5_appendNull_278bc 59 = .ok (.goto 17, 3) := by decide +kernel
theorem dJ5_appendNull_278bc_62 : decode cJ5_appendNull_278bc 62 = .ok (.aload_n 2, 1) := by decide +kernel
theorem dJ5_appendNull_278bc_63 : decode cJ5_appendNull_278bc 63 = .ok (.iload_n 1, 1) := by decide +kernel
theorem dJ5_appendNull_278bc_64 : decode cJ5_appendNull_278bc 64 = .ok (.bipush 110, 2) := by decide +kernel
theorem dJ5_appendNull_278bc_66 : decode cJ5_appendNull_278bc 66 = .ok (.bipush 117, 2) := by decide +kernel
theorem dJ5_appendNull_278bc_68 : decode cJ5_appendNull_278bc 68 = .ok (.bipush 108, 2) := by decide +kernel
theorem dJ5_appendNull_278bc_70 : decode cJ5_appendNull_278bc 70 = .ok (.bipush 108, 2) := by decide +kernel
theorem dJ5_appendNull_278bc_72 : decode cJ5_appendNull_278bc 72 = .ok (.invokestatic 226, 3) := by decide +kernel
theorem dJ5_appendNull_278bc_75 : decode cJ5_appendNull_278bc 75 = .ok (.istore_n 1, 1) := by decide +kernel
theorem dJ5_appendNull_278bc_76 : decode cJ5_appendNull_278bc 76 = .ok (.aload_n 0, 1) := by decide +kernel
theorem dJ5_appendNull_278bc_77 : decode cJ5_appendNull_278bc 77 = .ok (.iload_n 1, 1) := by decide +kernel
theorem dJ5_appendNull_278bc_78 : decode cJ5_appendNull_278bc 78 = .ok (.putfield 79, 3) := by decide +kernel
theorem dJ5_appendNull_278bc_81 : decode cJ5_appendNull_278bc 81 = .ok (.aload_n 0, 1) := by decide +kernel
theorem dJ5_appendNull_278bc_82 : decode cJ5_appendNull_278bc 82 = .ok (.areturn, 1) := by decide +kernel
theorem dJ5_append_3fe6f_0 : decode cJ5_append_3fe6f 0 = .ok (.aload_n 0, 1) := by decide +kernel
theorem dJ5_append_3fe6f_1 : decode cJ5_append_3fe6f 1 = .ok (.aload_n 0, 1) := by decide +kernel
theorem dJ5_append_3fe6f_2 : decode cJ5_append_3fe6f 2 = .ok (.getfield 79, 3) := by decide +kernel
theorem dJ5_append_3fe6f_5 : decode cJ5_append_3fe6f 5 = .ok (.iconst 1, 1) := by decide +kernel
theorem dJ5_append_3fe6f_6 : decode cJ5_append_3fe6f 6 = .ok (.iadd, 1) := by decide +kernel
theorem dJ5_append_3fe6f_7 : decode cJ5_append_3fe6f 7 = .ok (.invokevirtual 100, 3) := by decide +kernel
theorem dJ5_append_3fe6f_10 : decode cJ5_append_3fe6f 10 = .ok (.aload_n 0, 1) := by decide +kernel
theorem dJ5_append_3fe6f_11 : decode cJ5_append_3fe6f 11 = .ok (.invokevirtual 83, 3) := by decide +kernel
theorem dJ5_append_3fe6f_14 : decode cJ5_append_3fe6f 14 = .ok (.ifCond .eq 31, 3) := by decide +kernel
theorem dJ5_append_3fe6f_17 : decode cJ5_append_3fe6f 17 = .ok (.iload_n 1, 1) := by decide +kernel
theorem dJ5_append_3fe6f_18 : decode cJ5_append_3fe6f 18 = .ok (.invokestatic 191, 3) := by decide +kernel
theorem dJ5_append_3fe6f_21 : decode cJ5_append_3fe6f 21 = .ok (.ifCond .eq 24, 3) := by decide +kernel
theorem dJ5_append_3fe6f_24 : decode cJ5_append_3fe6f 24 = .ok (.aload_n 0, 1) := by decide +kernel
theorem dJ5_append_3fe6f_25 : decode cJ5_append_3fe6f 25 = .ok (.getfield 15, 3) := by decide +kernel
theorem dJ5_append_3fe6f_28 : decode cJ5_append_3fe6f 28 = .ok (.aload_n 0, 1) := by decide +kernel
theorem dJ5_append_3fe6f_29 : decode cJ5_append_3fe6f 29 = .ok (.dup, 1) := by decide +kernel
theorem dJ5_append_3fe6f_30 : decode cJ5_append_3fe6f 30 = .ok (.getfield 79, 3) := by decide +kernel
theorem dJ5_append_3fe6f_33 : decode cJ5_append_3fe6f 33 = .ok (.dup_x1, 1) := by decide +kernel
theorem dJ5_append_3fe6f_34 : decode cJ5_append_3fe6f 34 = .ok (.iconst 1, 1) := by decide +kernel
theorem dJ5_append_3fe6f_35 : decode cJ5_append_3fe6f 35 = .ok (.iadd, 1) := by decide +kernel
theorem dJ5_append_3fe6f_36 : decode cJ5_append_3fe6f 36 = .ok (.putfield 79, 3) := by decide +kernel
theorem dJ5_append_3fe6f_39 : decode cJ5_append_3fe6f 39 = .ok (.iload_n 1, 1) := by decide +kernel
theorem dJ5_append_3fe6f_40 : decode cJ5_append_3fe6f 40 = .ok (.i2b, 1) := by decide +kernel
theorem dJ5_append_3fe6f_41 : decode cJ5_append_3fe6f 41 = .ok (.bastore, 1) := by decide +kernel
theorem dJ5_append_3fe6f_42 : decode cJ5_append_3fe6f 42 = .ok (.goto 33, 3) := by decide +kernel
theorem dJ5_append_3fe6f_45 : decode cJ5_append_3fe6f 45 = .ok (.aload_n 0, 1) := by decide +kernel
theorem dJ5_append_3fe6f_46 : decode cJ5_append_3fe6f 46 = .ok (.invokevirtual 83, 3) := by decide +kernel
theorem dJ5_append_3fe6f_49 : decode cJ5_append_3fe6f 49 = .ok (.ifCond .eq 7, 3) := by decide +kernel
theorem dJ5_append_3fe6f_52 : decode cJ5_append_3fe6f 52 = .ok (.aload_n 0, 1) := by decide +kernel
theorem dJ5_append_3fe6f_53 : decode cJ5_append_3fe6f 53 = .ok (.invokevirtual 195, 3) := by decide +kernel
theorem dJ5_append_3fe6f_56 : decode cJ5_append_3fe6f 56 = .ok (.aload_n 0, 1) := by decide +kernel
theorem dJ5_append_3fe6f_57 : decode cJ5_append_3fe6f 57 = .ok (.getfield 15, 3) := by decide +kernel
theorem dJ5_append_3fe6f_60 : decode cJ5_append_3fe6f 60 = .ok (.aload_n 0, 1) := by decide +kernel
theorem dJ5_append_3fe6f_61 : decode cJ5_append_3fe6f 61 = .ok (.dup, 1) := by decide +kernel
theorem dJ5_append_3fe6f_62 : decode cJ5_append_3fe6f 62 = .ok (.getfield 79, 3) := by decide +kernel
theorem dJ5_append_3fe6f_65 : decode cJ5_append_3fe6f 65 = .ok (.dup_x1, 1) := by decide +kernel
theorem dJ5_append_3fe6f_66 : decode cJ5_append_3fe6f 66 = .ok (.iconst 1, 1) := by decide +kernel
theorem dJ5_append_3fe6f_67 : decode cJ5_append_3fe6f 67 = .ok (.iadd, 1) := by decide +kernel
theorem dJ5_append_3fe6f_68 : decode cJ5_append_3fe6f 68 = .ok (.putfield 79, 3) := by decide +kernel
theorem dJ5_append_3fe6f_71 : decode cJ5_append_3fe6f 71 = .ok (.iload_n 1, 1) := by decide +kernel
theorem dJ5_append_3fe6f_72 : decode cJ5_append_3fe6f 72 = .ok (.invokestatic 197, 3) := by decide +kernel
theorem dJ5_append_3fe6f_75 : decode cJ5_append_3fe6f 75 = .ok (.aload_n 0, 1) := by decide +kernel
theorem dJ5_append_3fe6f_76 : decode cJ5_append_3fe6f 76 = .ok (.areturn, 1) := by decide +kernel
theorem dJ5_append_c97b9_0 : decode cJ5_append_c97b9 0 = .ok (.aload_n 0, 1) := by decide +kernel
theorem dJ5_append_c97b9_1 : decode cJ5_append_c97b9 1 = .ok (.getfield 79, 3) := by decide +kernel
theorem dJ5_append_c97b9_4 : decode cJ5_append_c97b9 4 = .ok (.istore_n 2, 1) := by decide +kernel
theorem dJ5_append_c97b9_5 : decode cJ5_append_c97b9 5 = .ok (.iload_n 2, 1) := by decide +kernel
theorem dJ5_append_c97b9_6 : decode cJ5_append_c97b9 6 = .ok (.iload_n 1, 1) := by decide +kernel
theorem dJ5_append_c97b9_7 : decode cJ5_append_c97b9 7 = .ok (.invokestatic 245, 3) := by decide +kernel
theorem dJ5_append_c97b9_10 : decode cJ5_append_c97b9 10 = .ok (.iadd, 1) := by decide +kernel
theorem dJ5_append_c97b9_11 : decode cJ5_append_c97b9 11 = .ok (.istore_n 3, 1) := by decide +kernel
theorem dJ5_append_c97b9_12 : decode cJ5_append_c97b9 12 = .ok (.aload_n 0, 1) := by decide +kernel
theorem dJ5_append_c97b9_13 : decode cJ5_append_c97b9 13 = .ok (.iload_n 3, 1) := by decide +kernel
theorem dJ5_append_c97b9_14 : decode cJ5_append_c97b9 14 = .ok (.invokevirtual 100, 3) := by decide +kernel
theorem dJ5_append_c97b9_17 : decode cJ5_append_c97b9 17 = .ok (.aload_n 0, 1) := by decide +kernel
theorem dJ5_append_c97b9_18 : decode cJ5_append_c97b9 18 = .ok (.invokevirtual 83, 3) := by decide +kernel
theorem dJ5_append_c97b9_21 : decode cJ5_append_c97b9 21 = .ok (.ifCond .eq 16, 3) := by decide +kernel
theorem dJ5_append_c97b9_24 : decode cJ5_append_c97b9 24 = .ok (.iload_n 1, 1) := by decide +kernel
theorem dJ5_append_c97b9_25 : decode cJ5_append_c97b9 25 = .ok (.iload_n 3, 1) := by decide +kernel
theorem dJ5_append_c97b9_26 : decode cJ5_append_c97b9 26 = .ok (.aload_n 0, 1) := by decide +kernel
theorem dJ5_append_c97b9_27 : decode cJ5_append_c97b9 27 = .ok (.getfield 15, 3) := by decide +kernel
theorem dJ5_append_c97b9_30 : decode cJ5_append_c97b9 30 = .ok (.invokestatic 248, 3) := by decide +kernel
theorem dJ5_append_c97b9_33 : decode cJ5_append_c97b9 33 = .ok (.pop, 1) := by decide +kernel
theorem dJ5_append_c97b9_34 : decode cJ5_append_c97b9 34 = .ok (.goto 14, 3) := by decide +kernel
theorem dJ5_append_c97b9_37 : decode cJ5_append_c97b9 37 = .ok (.iload_n 1, 1) := by decide +kernel
theorem dJ5_append_c97b9_38 : decode cJ5_append_c97b9 38 = .ok (.iload_n 2, 1) := by decide +kernel
theorem dJ5_append_c97b9_39 : decode cJ5_append_c97b9 39 = .ok (.iload_n 3, 1) := by decide +kernel
theorem dJ5_append_c97b9_40 : decode cJ5_append_c97b9 40 = .ok (.aload_n 0, 1) := by decide +kernel
theorem dJ5_append_c97b9_41 : decode cJ5_append_c97b9 41 = .ok (.getfield 15, 3) := by decide +kernel
theorem dJ5_append_c97b9_44 : decode cJ5_append_c97b9 44 = .ok (.invokestatic 251, 3) := by decide +kernel
theorem dJ5_append_c97b9_47 : decode cJ5_append_c97b9 47 = .ok (.pop, 1) := by decide +kernel
theorem dJ5_append_c97b9_48 : decode cJ5_append_c97b9 48 = .ok (.aload_n 0, 1) := by decide +kernel
theorem dJ5_append_c97b9_49 : decode cJ5_append_c97b9 49 = .ok (.iload_n 3, 1) := by decide +kernel
theorem dJ5_append_c97b9_50 : decode cJ5_append_c97b9 50 = .ok (.putfield 79, 3) := by decide +kernel
theorem dJ5_append_c97b9_53 : decode cJ5_append_c97b9 53 = .ok (.aload_n 0, 1) := by decide +kernel
theorem dJ5_append_c97b9_54 : decode cJ5_append_c97b9 54 = .ok (.areturn, 1) := by decide +kernel
theorem dJ5_getValue_6d5f1_0 : decode cJ5_getValue_6d5f1 0 = .ok (.aload_n 0, 1) := by decide +kernel
theorem dJ5_getValue_6d5f1_1 : decode cJ5_getValue_6d5f1 1 = .ok (.getfield 15, 3) := by decide +kernel
theorem dJ5_getValue_6d5f1_4 : decode cJ5_getValue_6d5f1 4 = .ok (.areturn, 1) := by decide +kernel
theorem dJ5_isLatin1_aae02_0 : decode cJ5_isLatin1_aae02 0 = .ok (.getstatic 18, 3) := by decide +kernel
theorem dJ5_isLatin1_aae02_3 : decode cJ5_isLatin1_aae02 3 = .ok (.ifCond .eq 14, 3) := by decide +kernel
theorem dJ5_isLatin1_aae02_6 : decode cJ5_isLatin1_aae02 6 = .ok (.aload_n 0, 1) := by decide +kernel
theorem dJ5_isLatin1_aae02_7 : decode cJ5_isLatin1_aae02 7 = .ok (.getfield 22, 3) := by decide +kernel
theorem dJ5_isLatin1_aae02_10 : decode cJ5_isLatin1_aae02 10 = .ok (.ifCond .ne 7, 3) := by decide +kernel
theorem dJ5_isLatin1_aae02_13 : decode cJ5_isLatin1_aae02 13 = .ok (.iconst 1, 1) := by decide +kernel
theorem dJ5_isLatin1_aae02_14 : decode cJ5_isLatin1_aae02 14 = .ok (.goto 4, 3) := by decide +kernel
theorem dJ5_isLatin1_aae02_17 : decode cJ5_isLatin1_aae02 17 = .ok (.iconst 0, 1) := by decide +kernel
theorem dJ5_isLatin1_aae02_18 : decode cJ5_isLatin1_aae02 18 = .ok (.ireturn, 1) := by decide +kernel
theorem dJ5_inflateIfNeededFor_a7421_0 : decode cJ5_inflateIfNeededFor_a7421 0 = .ok (.getstatic 18, 3) := by decide +kernel
theorem dJ5_inflateIfNeededFor_a7421_3 : decode cJ5_inflateIfNeededFor_a7421 3 = .ok (.ifCond .eq 18, 3) := by decide +kernel
theorem dJ5_inflateIfNeededFor_a7421_6 : decode cJ5_inflateIfNeededFor_a7421 6 = .ok (.aload_n 0, 1) := by decide +kernel
theorem dJ5_inflateIfNeededFor_a7421_7 : decode cJ5_inflateIfNeededFor_a7421 7 = .ok (.getfield 22, 3) := by decide +kernel
theorem dJ5_inflateIfNeededFor_a7421_10 : decode cJ5_inflateIfNeededFor_a7421 10 = .ok (.aload_n 1, 1) := by decide +kernel
theorem dJ5_inflateIfNeededFor_a7421_11 : decode cJ5_inflateIfNeededFor_a7421 11 = .ok (.invokevirtual 40, 3) := by decide +kernel
theorem dJ5_inflateIfNeededFor_a7421_14 : decode cJ5_inflateIfNeededFor_a7421 14 = .ok (.if_icmp .eq 7, 3) := by decide +kernel
theorem dJ5_inflateIfNeededFor_a7421_17 : decode cJ5_inflateIfNeededFor_a7421 17 = .ok (.aload_n 0, 1) := by decide +kernel
theorem dJ5_inflateIfNeededFor_a7421_18 : decode cJ5_inflateIfNeededFor_a7421 18 = .ok (.invokevirtual 195, 3) := by decide +kernel
theorem dJ5_inflateIfNeededFor_a7421_21 : decode cJ5_inflateIfNeededFor_a7421 21 = .ok (.return_, 1) := by decide +kernel
theorem dJ5_putStringAt_47b60_0 : decode cJ5_putStringAt_47b60 0 = .ok (.aload_n 0, 1) := by decide +kernel
theorem dJ5_putStringAt_47b60_1 : decode cJ5_putStringAt_47b60 1 = .ok (.aload_n 2, 1) := by decide +kernel
theorem dJ5_putStringAt_47b60_2 : decode cJ5_putStringAt_47b60 2 = .ok (.invokevirtual 397, 3) := by decide +kernel
theorem dJ5_putStringAt_47b60_5 : decode cJ5_putStringAt_47b60 5 = .ok (.aload_n 2, 1) := by decide +kernel
theorem dJ5_putStringAt_47b60_6 : decode cJ5_putStringAt_47b60 6 = .ok (.aload_n 0, 1) := by decide +kernel
theorem dJ5_putStringAt_47b60_7 : decode cJ5_putStringAt_47b60 7 = .ok (.getfield 15, 3) := by decide +kernel
theorem dJ5_putStringAt_47b60_10 : decode cJ5_putStringAt_47b60 10 = .ok (.iload_n 1, 1) := by decide +kernel
theorem dJ5_putStringAt_47b60_11 : decode cJ5_putStringAt_47b60 11 = .ok (.aload_n 0, 1) := by decide +kernel
theorem dJ5_putStringAt_47b60_12 : decode cJ5_putStringAt_47b60 12 = .ok (.getfield 22, 3) := by decide +kernel
theorem dJ5_putStringAt_47b60_15 : decode cJ5_putStringAt_47b60 15 = .ok (.invokevirtual 399, 3) := by decide +kernel
theorem dJ5_putStringAt_47b60_18 : decode cJ5_putStringAt_47b60 18 = .ok (.return_, 1) := by decide +kernel
theorem dJ6_getChars_ba4f3_0 : decode cJ6_getChars_ba4f3 0 = .ok (.iload_n 1, 1) := by decide +kernel
theorem dJ6_getChars_ba4f3_1 : decode cJ6_getChars_ba4f3 1 = .ok (.istore 5, 2) := by decide +kernel
theorem dJ6_getChars_ba4f3_3 : decode cJ6_getChars_ba4f3 3 = .ok (.iload_n 0, 1) := by decide +kernel
theorem dJ6_getChars_ba4f3_4 : decode cJ6_getChars_ba4f3 4 = .ok (.ifCond .ge 7, 3) := by decide +kernel
theorem dJ6_getChars_ba4f3_7 : decode cJ6_getChars_ba4f3 7 = .ok (.iconst 1, 1) := by decide +kernel
theorem dJ6_getChars_ba4f3_8 : decode cJ6_getChars_ba4f3 8 = .ok (.goto 4, 3) := by decide +kernel
theorem dJ6_getChars_ba4f3_11 : decode cJ6_getChars_ba4f3 11 = .ok (.iconst 0, 1) := by decide +kernel
theorem dJ6_getChars_ba4f3_12 : decode cJ6_getChars_ba4f3 12 = .ok (.istore 6, 2) := by decide +kernel
theorem dJ6_getChars_ba4f3_14 : decode cJ6_getChars_ba4f3 14 = .ok (.iload 6, 2) := by decide +kernel
theorem dJ6_getChars_ba4f3_16 : decode cJ6_getChars_ba4f3 16 = .ok (.ifCond .ne 6, 3) := by decide +kernel
theorem dJ6_getChars_ba4f3_19 : decode cJ6_getChars_ba4f3 19 = .ok (.iload_n 0, 1) := by decide +kernel
theorem dJ6_getChars_ba4f3_20 : decode cJ6_getChars_ba4f3 20 = .ok (.ineg, 1) := by decide +kernel
theorem dJ6_getChars_ba4f3_21 : decode cJ6_getChars_ba4f3 21 = .ok (.istore_n 0, 1) := by decide +kernel
theorem dJ6_getChars_ba4f3_22 : decode cJ6_getChars_ba4f3 22 = .ok (.iload_n 0, 1) := by decide +kernel
theorem dJ6_getChars_ba4f3_23 : decode cJ6_getChars_ba4f3 23 = .ok (.bipush (-100), 2) := by decide +kernel
theorem dJ6_getChars_ba4f3_25 : decode cJ6_getChars_ba4f3 25 = .ok (.if_icmp .gt 47, 3) := by decide +kernel
theorem dJ6_getChars_ba4f3_28 : decode cJ6_getChars_ba4f3 28 = .ok (.iload_n 0, 1) := by decide +kernel
theorem dJ6_getChars_ba4f3_29 : decode cJ6_getChars_ba4f3 29 = .ok (.bipush 100, 2) := by decide +kernel
theorem dJ6_getChars_ba4f3_31 : decode cJ6_getChars_ba4f3 31 = .ok (.idiv, 1) := by decide +kernel
theorem dJ6_getChars_ba4f3_32 : decode cJ6_getChars_ba4f3 32 = .ok (.istore_n 3, 1) := by decide +kernel
theorem dJ6_getChars_ba4f3_33 : decode cJ6_getChars_ba4f3 33 = .ok (.iload_n 3, 1) := by decide +kernel
theorem dJ6_getChars_ba4f3_34 : decode cJ6_getChars_ba4f3 34 = .ok (.bipush 100, 2) := by decide +kernel
theorem dJ6_getChars_ba4f3_36 : decode cJ6_getChars_ba4f3 36 = .ok (.imul, 1) := by decide +kernel
theorem dJ6_getChars_ba4f3_37 : decode cJ6_getChars_ba4f3 37 = .ok (.iload_n 0, 1) := by decide +kernel
theorem dJ6_getChars_ba4f3_38 : decode cJ6_getChars_ba4f3 38 = .ok (.isub, 1) := by decide +kernel
theorem dJ6_getChars_ba4f3_39 : decode cJ6_getChars_ba4f3 39 = .ok (.istore 4, 2) := by decide +kernel
theorem dJ6_getChars_ba4f3_41 : decode cJ6_getChars_ba4f3 41 = .ok (.iload_n 3, 1) := by decide +kernel
theorem dJ6_getChars_ba4f3_42 : decode cJ6_getChars_ba4f3 42 = .ok (.istore_n 0, 1) := by decide +kernel
theorem dJ6_getChars_ba4f3_43 : decode cJ6_getChars_ba4f3 43 = .ok (.aload_n 2, 1) := by decide +kernel
theorem dJ6_getChars_ba4f3_44 : decode cJ6_getChars_ba4f3 44 = .ok (.iinc 5 (-1), 3) := by decide +kernel
theorem dJ6_getChars_ba4f3_47 : decode cJ6_getChars_ba4f3 47 = .ok (.iload 5, 2) := by decide +kernel
theorem dJ6_getChars_ba4f3_49 : decode cJ6_getChars_ba4f3 49 = .ok (.getstatic 83, 3) := by decide +kernel
theorem dJ6_getChars_ba4f3_52 : decode cJ6_getChars_ba4f3 52 = .ok (.iload 4, 2) := by decide +kernel
theorem dJ6_getChars_ba4f3_54 : decode cJ6_getChars_ba4f3 54 = .ok (.baload, 1) := by decide +kernel
theorem dJ6_getChars_ba4f3_55 : decode cJ6_getChars_ba4f3 55 = .ok (.bastore, 1) := by decide +kernel
theorem dJ6_getChars_ba4f3_56 : decode cJ6_getChars_ba4f3 56 = .ok (.aload_n 2, 1) := by decide +kernel
theorem dJ6_getChars_ba4f3_57 : decode cJ6_getChars_ba4f3 57 = .ok (.iinc 5 (-1), 3) := by decide +kernel
theorem dJ6_getChars_ba4f3_60 : decode cJ6_getChars_ba4f3 60 = .ok (.iload 5, 2) := by decide +kernel
theorem dJ6_getChars_ba4f3_62 : decode cJ6_getChars_ba4f3 62 = .ok (.getstatic 87, 3) := by decide +kernel
theorem dJ6_getChars_ba4f3_65 : decode cJ6_getChars_ba4f3 65 = .ok (.iload 4, 2) := by decide +kernel
theorem dJ6_getChars_ba4f3_67 : decode cJ6_getChars_ba4f3 67 = .ok (.baload, 1) := by decide +kernel
theorem dJ6_getChars_ba4f3_68 : decode cJ6_getChars_ba4f3 68 = .ok (.bastore, 1) := by decide +kernel
theorem dJ6_getChars_ba4f3_69 : decode cJ6_getChars_ba4f3 69 = .ok (.goto (-47), 3) := by decide +kernel
theorem dJ6_getChars_ba4f3_72 : decode cJ6_getChars_ba4f3 72 = .ok (.aload_n 2, 1) := by decide +kernel
theorem dJ6_getChars_ba4f3_73 : decode cJ6_getChars_ba4f3 73 = .ok (.iinc 5 (-1), 3) := by decide +kernel
theorem dJ6_getChars_ba4f3_76 : decode cJ6_getChars_ba4f3 76 = .ok (.iload 5, 2) := by decide +kernel
theorem dJ6_getChars_ba4f3_78 : decode cJ6_getChars_ba4f3 78 = .ok (.getstatic 83, 3) := by decide +kernel
theorem dJ6_getChars_ba4f3_81 : decode cJ6_getChars_ba4f3 81 = .ok (.iload_n 0, 1) := by decide +kernel
theorem dJ6_getChars_ba4f3_82 : decode cJ6_getChars_ba4f3 82 = .ok (.ineg, 1) := by decide +kernel
theorem dJ6_getChars_ba4f3_83 : decode cJ6_getChars_ba4f3 83 = .ok (.baload, 1) := by decide +kernel
theorem dJ6_getChars_ba4f3_84 : decode cJ6_getChars_ba4f3 84 = .ok (.bastore, 1) := by decide +kernel
theorem dJ6_getChars_ba4f3_85 : decode cJ6_getChars_ba4f3 85 = .ok (.iload_n 0, 1) := by decide +kernel
theorem dJ6_getChars_ba4f3_86 : decode cJ6_getChars_ba4f3 86 = .ok (.bipush (-9), 2) := by decide +kernel
theorem dJ6_getChars_ba4f3_88 : decode cJ6_getChars_ba4f3 88 = .ok (.if_icmp .ge 16, 3) := by decide +kernel
theorem dJ6_getChars_ba4f3_91 : decode cJ6_getChars_ba4f3 91 = .ok (.aload_n 2, 1) := by decide +kernel
theorem dJ6_getChars_ba4f3_92 : decode cJ6_getChars_ba4f3 92 = .ok (.iinc 5 (-1), 3) := by decide +kernel
theorem dJ6_getChars_ba4f3_95 : decode cJ6_getChars_ba4f3 95 = .ok (.iload 5, 2) := by decide +kernel
theorem dJ6_getChars_ba4f3_97 : decode cJ6_getChars_ba4f3 97 = .ok (.getstatic 87, 3) := by decide +kernel
theorem dJ6_getChars_ba4f3_100 : decode cJ6_getChars_ba4f3 100 = .ok (.iload_n 0, 1) := by decide +kernel
theorem dJ6_getChars_ba4f3_101 : decode cJ6_getChars_ba4f3 101 = .ok (.ineg, 1) := by decide +kernel
theorem dJ6_getChars_ba4f3_102 : decode cJ6_getChars_ba4f3 102 = .ok (.baload, 1) := by decide +kernel
theorem dJ6_getChars_ba4f3_103 : decode cJ6_getChars_ba4f3 103 = .ok (.bastore, 1) := by decide +kernel
theorem dJ6_getChars_ba4f3_104 : decode cJ6_getChars_ba4f3 104 = .ok (.iload 6, 2) := by decide +kernel
theorem dJ6_getChars_ba4f3_106 : decode cJ6_getChars_ba4f3 106 = .ok (.ifCond .eq 12, 3) := by decide +kernel
theorem dJ6_getChars_ba4f3_109 : decode cJ6_getChars_ba4f3 109 = .ok (.aload_n 2, 1) := by decide +kernel
theorem dJ6_getChars_ba4f3_110 : decode cJ6_getChars_ba4f3 110 = .ok (.iinc 5 (-1), 3) := by decide +kernel
theorem dJ6_getChars_ba4f3_113 : decode cJ6_getChars_ba4f3 113 = .ok (.iload 5, 2) := by decide +kernel
theorem dJ6_getChars_ba4f3_115 : decode cJ6_getChars_ba4f3 115 = .ok (.bipush 45, 2) := by decide +kernel
theorem dJ6_getChars_ba4f3_117 : decode cJ6_getChars_ba4f3 117 = .ok (.bastore, 1) := by decide +kernel
theorem dJ6_getChars_ba4f3_118 : decode cJ6_getChars_ba4f3 118 = .ok (.iload 5, 2) := by decide +kernel
theorem dJ6_getChars_ba4f3_120 : decode cJ6_getChars_ba4f3 120 = .ok (.ireturn, 1) := by decide +kernel
theorem dJ6_stringSize_0f7a4_0 : decode cJ6_stringSize_0f7a4 0 = .ok (.iconst 1, 1) := by decide +kernel
theorem dJ6_stringSize_0f7a4_1 : decode cJ6_stringSize_0f7a4 1 = .ok (.istore_n 1, 1) := by decide +kernel
theorem dJ6_stringSize_0f7a4_2 : decode cJ6_stringSize_0f7a4 2 = .ok (.iload_n 0, 1) := by decide +kernel
theorem dJ6_stringSize_0f7a4_3 : decode cJ6_stringSize_0f7a4 3 = .ok (.ifCond .lt 8, 3) := by decide +kernel
theorem dJ6_stringSize_0f7a4_6 : decode cJ6_stringSize_0f7a4 6 = .ok (.iconst 0, 1) := by decide +kernel
theorem dJ6_stringSize_0f7a4_7 : decode cJ6_stringSize_0f7a4 7 = .ok (.istore_n 1, 1) := by decide +kernel
theorem dJ6_stringSize_0f7a4_8 : decode cJ6_stringSize_0f7a4 8 = .ok (.iload_n 0, 1) := by decide +kernel
theorem dJ6_stringSize_0f7a4_9 : decode cJ6_stringSize_0f7a4 9 = .ok (.ineg, 1) := by decide +kernel
theorem dJ6_stringSize_0f7a4_10 : decode cJ6_stringSize_0f7a4 10 = .ok (.istore_n 0, 1) := by decide +kernel
theorem dJ6_stringSize_0f7a4_11 : decode cJ6_stringSize_0f7a4 11 = .ok (.bipush (-10), 2) := by decide +kernel
theorem dJ6_stringSize_0f7a4_13 : decode cJ6_stringSize_0f7a4 13 = .ok (.istore_n 2, 1) := by decide +kernel
theorem dJ6_stringSize_0f7a4_14 : decode cJ6_stringSize_0f7a4 14 = .ok (.iconst 1, 1) := by decide +kernel
theorem dJ6_stringSize_0f7a4_15 : decode cJ6_stringSize_0f7a4 15 = .ok (.istore_n 3, 1) := by decide +kernel
theorem dJ6_stringSize_0f7a4_16 : decode cJ6_stringSize_0f7a4 16 = .ok (.iload_n 3, 1) := by decide +kernel
theorem dJ6_stringSize_0f7a4_17 : decode cJ6_stringSize_0f7a4 17 = .ok (.bipush 10, 2) := by decide +kernel
theorem dJ6_stringSize_0f7a4_19 : decode cJ6_stringSize_0f7a4 19 = .ok (.if_icmp .ge 23, 3) := by decide +kernel
theorem dJ6_stringSize_0f7a4_22 : decode cJ6_stringSize_0f7a4 22 = .ok (.iload_n 0, 1) := by decide +kernel
theorem dJ6_stringSize_0f7a4_23 : decode cJ6_stringSize_0f7a4 23 = .ok (.iload_n 2, 1) := by decide +kernel
theorem dJ6_stringSize_0f7a4_24 : decode cJ6_stringSize_0f7a4 24 = .ok (.if_icmp .le 7, 3) := by decide +kernel
theorem dJ6_stringSize_0f7a4_27 : decode cJ6_stringSize_0f7a4 27 = .ok (.iload_n 3, 1) := by decide +kernel
theorem dJ6_stringSize_0f7a4_28 : decode cJ6_stringSize_0f7a4 28 = .ok (.iload_n 1, 1) := by decide +kernel
theorem dJ6_stringSize_0f7a4_29 : decode cJ6_stringSize_0f7a4 29 = .ok (.iadd, 1) := by decide +kernel
theorem dJ6_stringSize_0f7a4_30 : decode cJ6_stringSize_0f7a4 30 = .ok (.ireturn, 1) := by decide +kernel
theorem dJ6_stringSize_0f7a4_31 : decode cJ6_stringSize_0f7a4 31 = .ok (.bipush 10, 2) := by decide +kernel
theorem dJ6_stringSize_0f7a4_33 : decode cJ6_stringSize_0f7a4 33 = .ok (.iload_n 2, 1) := by decide +kernel
theorem dJ6_stringSize_0f7a4_34 : decode cJ6_stringSize_0f7a4 34 = .ok (.imul, 1) := by decide +kernel
theorem dJ6_stringSize_0f7a4_35 : decode cJ6_stringSize_0f7a4 35 = .ok (.istore_n 2, 1) := by decide +kernel
theorem dJ6_stringSize_0f7a4_36 : decode cJ6_stringSize_0f7a4 36 = .ok (.iinc 3 1, 3) := by decide +kernel
theorem dJ6_stringSize_0f7a4_39 : decode cJ6_stringSize_0f7a4 39 = .ok (.goto (-23), 3) := by decide +kernel
theorem dJ6_stringSize_0f7a4_42 : decode cJ6_stringSize_0f7a4 42 = .ok (.bipush 10, 2) := by decide +kernel
theorem dJ6_stringSize_0f7a4_44 : decode cJ6_stringSize_0f7a4 44 = .ok (.iload_n 1, 1) := by decide +kernel
theorem dJ6_stringSize_0f7a4_45 : decode cJ6_stringSize_0f7a4 45 = .ok (.iadd, 1) := by decide +kernel
theorem dJ6_stringSize_0f7a4_46 : decode cJ6_stringSize_0f7a4 46 = .ok (.ireturn, 1) := by decide +kernel
theorem dJ6_bitCount_0f7a4_0 : decode cJ6_bitCount_0f7a4 0 = .ok (.iload_n 0, 1) := by decide +kernel
theorem dJ6_bitCount_0f7a4_1 : decode cJ6_bitCount_0f7a4 1 = .ok (.iload_n 0, 1) := by decide +kernel
theorem dJ6_bitCount_0f7a4_2 : decode cJ6_bitCount_0f7a4 2 = .ok (.iconst 1, 1) := by decide +kernel
theorem dJ6_bitCount_0f7a4_3 : decode cJ6_bitCount_0f7a4 3 = .ok (.iushr, 1) := by decide +kernel
theorem dJ6_bitCount_0f7a4_4 : decode cJ6_bitCount_0f7a4 4 = .ok (.ldc_w 265, 3) := by decide +kernel
theorem dJ6_bitCount_0f7a4_7 : decode cJ6_bitCount_0f7a4 7 = .ok (.iand, 1) := by decide +kernel
theorem dJ6_bitCount_0f7a4_8 : decode cJ6_bitCount_0f7a4 8 = .ok (.isub, 1) := by decide +kernel
theorem dJ6_bitCount_0f7a4_9 : decode cJ6_bitCount_0f7a4 9 = .ok (.istore_n 0, 1) := by decide +kernel
theorem dJ6_bitCount_0f7a4_10 : decode cJ6_bitCount_0f7a4 10 = .ok (.iload_n 0, 1) := by decide +kernel
theorem dJ6_bitCount_0f7a4_11 : decode cJ6_bitCount_0f7a4 11 = .ok (.ldc_w 266, 3) := by decide +kernel
theorem dJ6_bitCount_0f7a4_14 : decode cJ6_bitCount_0f7a4 14 = .ok (.iand, 1) := by decide +kernel
theorem dJ6_bitCount_0f7a4_15 : decode cJ6_bitCount_0f7a4 15 = .ok (.iload_n 0, 1) := by decide +kernel
theorem dJ6_bitCount_0f7a4_16 : decode cJ6_bitCount_0f7a4 16 = .ok (.iconst 2, 1) := by decide +kernel
theorem dJ6_bitCount_0f7a4_17 : decode cJ6_bitCount_0f7a4 17 = .ok (.iushr, 1) := by decide +kernel
theorem dJ6_bitCount_0f7a4_18 : decode cJ6_bitCount_0f7a4 18 = .ok (.ldc_w 266, 3) := by decide +kernel
theorem dJ6_bitCount_0f7a4_21 : decode cJ6_bitCount_0f7a4 21 = .ok (.iand, 1) := by decide +kernel
theorem dJ6_bitCount_0f7a4_22 : decode cJ6_bitCount_0f7a4 22 = .ok (.iadd, 1) := by decide +kernel
theorem dJ6_bitCount_0f7a4_23 : decode cJ6_bitCount_0f7a4 23 = .ok (.istore_n 0, 1) := by decide +kernel
theorem dJ6_bitCount_0f7a4_24 : decode cJ6_bitCount_0f7a4 24 = .ok (.iload_n 0, 1) := by decide +kernel
theorem dJ6_bitCount_0f7a4_25 : decode cJ6_bitCount_0f7a4 25 = .ok (.iload_n 0, 1) := by decide +kernel
theorem dJ6_bitCount_0f7a4_26 : decode cJ6_bitCount_0f7a4 26 = .ok (.iconst 4, 1) := by decide +kernel
theorem dJ6_bitCount_0f7a4_27 : decode cJ6_bitCount_0f7a4 27 = .ok (.iushr, 1) := by decide +kernel
theorem dJ6_bitCount_0f7a4_28 : decode cJ6_bitCount_0f7a4 28 = .ok (.iadd, 1) := by decide +kernel
theorem dJ6_bitCount_0f7a4_29 : decode cJ6_bitCount_0f7a4 29 = .ok (.ldc_w 267, 3) := by decide +kernel
theorem dJ6_bitCount_0f7a4_32 : decode cJ6_bitCount_0f7a4 32 = .ok (.iand, 1) := by decide +kernel
theorem dJ6_bitCount_0f7a4_33 : decode cJ6_bitCount_0f7a4 33 = .ok (.istore_n 0, 1) := by decide +kernel
theorem dJ6_bitCount_0f7a4_34 : decode cJ6_bitCount_0f7a4 34 = .ok (.iload_n 0, 1) := by decide +kernel
theorem dJ6_bitCount_0f7a4_35 : decode cJ6_bitCount_0f7a4 35 = .ok (.iload_n 0, 1) := by decide +kernel
theorem dJ6_bitCount_0f7a4_36 : decode cJ6_bitCount_0f7a4 36 = .ok (.bipush 8, 2) := by decide +kernel
theorem dJ6_bitCount_0f7a4_38 : decode cJ6_bitCount_0f7a4 38 = .ok (.iushr, 1) := by decide +kernel
theorem dJ6_bitCount_0f7a4_39 : decode cJ6_bitCount_0f7a4 39 = .ok (.iadd, 1) := by decide +kernel
theorem dJ6_bitCount_0f7a4_40 : decode cJ6_bitCount_0f7a4 40 = .ok (.istore_n 0, 1) := by decide +kernel
theorem dJ6_bitCount_0f7a4_41 : decode cJ6_bitCount_0f7a4 41 = .ok (.iload_n 0, 1) := by decide +kernel
theorem dJ6_bitCount_0f7a4_42 : decode cJ6_bitCount_0f7a4 42 = .ok (.iload_n 0, 1) := by decide +kernel
theorem dJ6_bitCount_0f7a4_43 : decode cJ6_bitCount_0f7a4 43 = .ok (.bipush 16, 2) := by decide +kernel
theorem dJ6_bitCount_0f7a4_45 : decode cJ6_bitCount_0f7a4 45 = .ok (.iushr, 1) := by decide +kernel
theorem dJ6_bitCount_0f7a4_46 : decode cJ6_bitCount_0f7a4 46 = .ok (.iadd, 1) := by decide +kernel
theorem dJ6_bitCount_0f7a4_47 : decode cJ6_bitCount_0f7a4 47 = .ok (.istore_n 0, 1) := by decide +kernel
theorem dJ6_bitCount_0f7a4_48 : decode cJ6_bitCount_0f7a4 48 = .ok (.iload_n 0, 1) := by decide +kernel
theorem dJ6_bitCount_0f7a4_49 : decode cJ6_bitCount_0f7a4 49 = .ok (.bipush 63, 2) := by decide +kernel
theorem dJ6_bitCount_0f7a4_51 : decode cJ6_bitCount_0f7a4 51 = .ok (.iand, 1) := by decide +kernel
theorem dJ6_bitCount_0f7a4_52 : decode cJ6_bitCount_0f7a4 52 = .ok (.ireturn, 1) := by decide +kernel
theorem dJ13_bitCount_95d88_0 : decode cJ13_bitCount_95d88 0 = .ok (.lload_n 0, 1) := by decide +kernel
theorem dJ13_bitCount_95d88_1 : decode cJ13_bitCount_95d88 1 = .ok (.lload_n 0, 1) := by decide +kernel
theorem dJ13_bitCount_95d88_2 : decode cJ13_bitCount_95d88 2 = .ok (.iconst 1, 1) := by decide +kernel
theorem dJ13_bitCount_95d88_3 : decode cJ13_bitCount_95d88 3 = .ok (.lushr, 1) := by decide +kernel
theorem dJ13_bitCount_95d88_4 : decode cJ13_bitCount_95d88 4 = .ok (.ldc2_w 314, 3) := by decide +kernel
theorem dJ13_bitCount_95d88_7 : decode cJ13_bitCount_95d88 7 = .ok (.land, 1) := by decide +kernel
theorem dJ13_bitCount_95d88_8 : decode cJ13_bitCount_95d88 8 = .ok (.lsub, 1) := by decide +kernel
theorem dJ13_bitCount_95d88_9 : decode cJ13_bitCount_95d88 9 = .ok (.lstore_n 0, 1) := by decide +kernel
theorem dJ13_bitCount_95d88_10 : decode cJ13_bitCount_95d88 10 = .ok (.lload_n 0, 1) := by decide +kernel
theorem dJ13_bitCount_95d88_11 : decode cJ13_bitCount_95d88 11 = .ok (.ldc2_w 316, 3) := by decide +kernel
theorem dJ13_bitCount_95d88_14 : decode cJ13_bitCount_95d88 14 = .ok (.land, 1) := by decide +kernel
theorem dJ13_bitCount_95d88_15 : decode cJ13_bitCount_95d88 15 = .ok (.lload_n 0, 1) := by decide +kernel
theorem dJ13_bitCount_95d88_16 : decode cJ13_bitCount_95d88 16 = .ok (.iconst 2, 1) := by decide +kernel
theorem dJ13_bitCount_95d88_17 : decode cJ13_bitCount_95d88 17 = .ok (.lushr, 1) := by decide +kernel
theorem dJ13_bitCount_95d88_18 : decode cJ13_bitCount_95d88 18 = .ok (.ldc2_w 316, 3) := by decide +kernel
theorem dJ13_bitCount_95d88_21 : decode cJ13_bitCount_95d88 21 = .ok (.land, 1) := by decide +kernel
theorem dJ13_bitCount_95d88_22 : decode cJ13_bitCount_95d88 22 = .ok (.ladd, 1) := by decide +kernel
theorem dJ13_bitCount_95d88_23 : decode cJ13_bitCount_95d88 23 = .ok (.lstore_n 0, 1) := by decide +kernel
theorem dJ13_bitCount_95d88_24 : decode cJ13_bitCount_95d88 24 = .ok (.lload_n 0, 1) := by decide +kernel
theorem dJ13_bitCount_95d88_25 : decode cJ13_bitCount_95d88 25 = .ok (.lload_n 0, 1) := by decide +kernel
theorem dJ13_bitCount_95d88_26 : decode cJ13_bitCount_95d88 26 = .ok (.iconst 4, 1) := by decide +kernel
theorem dJ13_bitCount_95d88_27 : decode cJ13_bitCount_95d88 27 = .ok (.lushr, 1) := by decide +kernel
theorem dJ13_bitCount_95d88_28 : decode cJ13_bitCount_95d88 28 = .ok (.ladd, 1) := by decide +kernel
theorem dJ13_bitCount_95d88_29 : decode cJ13_bitCount_95d88 29 = .ok (.ldc2_w 318, 3) := by decide +kernel
theorem dJ13_bitCount_95d88_32 : decode cJ13_bitCount_95d88 32 = .ok (.land, 1) := by decide +kernel
theorem dJ13_bitCount_95d88_33 : decode cJ13_bitCount_95d88 33 = .ok (.lstore_n 0, 1) := by decide +kernel
theorem dJ13_bitCount_95d88_34 : decode cJ13_bitCount_95d88 34 = .ok (.lload_n 0, 1) := by decide +kernel
theorem dJ13_bitCount_95d88_35 : decode cJ13_bitCount_95d88 35 = .ok (.lload_n 0, 1) := by decide +kernel
theorem dJ13_bitCount_95d88_36 : decode cJ13_bitCount_95d88 36 = .ok (.bipush 8, 2) := by decide +kernel
theorem dJ13_bitCount_95d88_38 : decode cJ13_bitCount_95d88 38 = .ok (.lushr, 1) := by decide +kernel
theorem dJ13_bitCount_95d88_39 : decode cJ13_bitCount_95d88 39 = .ok (.ladd, 1) := by decide +kernel
theorem dJ13_bitCount_95d88_40 : decode cJ13_bitCount_95d88 40 = .ok (.lstore_n 0, 1) := by decide +kernel
theorem dJ13_bitCount_95d88_41 : decode cJ13_bitCount_95d88 41 = .ok (.lload_n 0, 1) := by decide +kernel
theorem dJ13_bitCount_95d88_42 : decode cJ13_bitCount_95d88 42 = .ok (.lload_n 0, 1) := by decide +kernel
theorem dJ13_bitCount_95d88_43 : decode cJ13_bitCount_95d88 43 = .ok (.bipush 16, 2) := by decide +kernel
theorem dJ13_bitCount_95d88_45 : decode cJ13_bitCount_95d88 45 = .ok (.lushr, 1) := by decide +kernel
theorem dJ13_bitCount_95d88_46 : decode cJ13_bitCount_95d88 46 = .ok (.ladd, 1) := by decide +kernel
theorem dJ13_bitCount_95d88_47 : decode cJ13_bitCount_95d88 47 = .ok (.lstore_n 0, 1) := by decide +kernel
theorem dJ13_bitCount_95d88_48 : decode cJ13_bitCount_95d88 48 = .ok (.lload_n 0, 1) := by decide +kernel
theorem dJ13_bitCount_95d88_49 : decode cJ13_bitCount_95d88 49 = .ok (.lload_n 0, 1) := by decide +kernel
theorem dJ13_bitCount_95d88_50 : decode cJ13_bitCount_95d88 50 = .ok (.bipush 32, 2) := by decide +kernel
theorem dJ13_bitCount_95d88_52 : decode cJ13_bitCount_95d88 52 = .ok (.lushr, 1) := by decide +kernel
theorem dJ13_bitCount_95d88_53 : decode cJ13_bitCount_95d88 53 = .ok (.ladd, 1) := by decide +kernel
theorem dJ13_bitCount_95d88_54 : decode cJ13_bitCount_95d88 54 = .ok (.lstore_n 0, 1) := by decide +kernel
theorem dJ13_bitCount_95d88_55 : decode cJ13_bitCount_95d88 55 = .ok (.lload_n 0, 1) := by decide +kernel
theorem dJ13_bitCount_95d88_56 : decode cJ13_bitCount_95d88 56 = .ok (.l2i, 1) := by decide +kernel
theorem dJ13_bitCount_95d88_57 : decode cJ13_bitCount_95d88 57 = .ok (.bipush 127, 2) := by decide +kernel
theorem dJ13_bitCount_95d88_59 : decode cJ13_bitCount_95d88 59 = .ok (.iand, 1) := by decide +kernel
theorem dJ13_bitCount_95d88_60 : decode cJ13_bitCount_95d88 60 = .ok (.ireturn, 1) := by decide +kernel
theorem dJ9_max_7cf53_0 : decode cJ9_max_7cf53 0 = .ok (.iload_n 0, 1) := by decide +kernel
theorem dJ9_max_7cf53_1 : decode cJ9_max_7cf53 1 = .ok (.iload_n 1, 1) := by decide +kernel
theorem dJ9_max_7cf53_2 : decode cJ9_max_7cf53 2 = .ok (.if_icmp .lt 7, 3) := by decide +kernel
theorem dJ9_max_7cf53_5 : decode cJ9_max_7cf53 5 = .ok (.iload_n 0, 1) := by decide +kernel
theorem dJ9_max_7cf53_6 : decode cJ9_max_7cf53 6 = .ok (.goto 4, 3) := by decide +kernel
theorem dJ9_max_7cf53_9 : decode cJ9_max_7cf53 9 = .ok (.iload_n 1, 1) := by decide +kernel
theorem dJ9_max_7cf53_10 : decode cJ9_max_7cf53 10 = .ok (.ireturn, 1) := by decide +kernel
theorem dJ9_min_7cf53_0 : decode cJ9_min_7cf53 0 = .ok (.iload_n 0, 1) := by decide +kernel
theorem dJ9_min_7cf53_1 : decode cJ9_min_7cf53 1 = .ok (.iload_n 1, 1) := by decide +kernel
theorem dJ9_min_7cf53_2 : decode cJ9_min_7cf53 2 = .ok (.if_icmp .gt 7, 3) := by decide +kernel
theorem dJ9_min_7cf53_5 : decode cJ9_min_7cf53 5 = .ok (.iload_n 0, 1) := by decide +kernel
theorem dJ9_min_7cf53_6 : decode cJ9_min_7cf53 6 = .ok (.goto 4, 3) := by decide +kernel
theorem dJ9_min_7cf53_9 : decode cJ9_min_7cf53 9 = .ok (.iload_n 1, 1) := by decide +kernel
theorem dJ9_min_7cf53_10 : decode cJ9_min_7cf53 10 = .ok (.ireturn, 1) := by decide +kernel
theorem dJ0_init_81219_0 : decode cJ0_init_81219 0 = .ok (.aload_n 0, 1) := by decide +kernel
theorem dJ0_init_81219_1 : decode cJ0_init_81219 1 = .ok (.aload_n 1, 1) := by decide +kernel
theorem dJ0_init_81219_2 : decode cJ0_init_81219 2 = .ok (.aconst_null, 1) := by decide +kernel
theorem dJ0_init_81219_3 : decode cJ0_init_81219 3 = .ok (.invokespecial 489, 3) := by decide +kernel
theorem dJ0_init_81219_6 : decode cJ0_init_81219 6 = .ok (.return_, 1) := by decide +kernel
theorem dJ0_length_8abf5_0 : decode cJ0_length_8abf5 0 = .ok (.aload_n 0, 1) := by decide +kernel
theorem dJ0_length_8abf5_1 : decode cJ0_length_8abf5 1 = .ok (.getfield 9, 3) := by decide +kernel
theorem dJ0_length_8abf5_4 : decode cJ0_length_8abf5 4 = .ok (.arraylength, 1) := by decide +kernel
theorem dJ0_length_8abf5_5 : decode cJ0_length_8abf5 5 = .ok (.aload_n 0, 1) := by decide +kernel
theorem dJ0_length_8abf5_6 : decode cJ0_length_8abf5 6 = .ok (.invokevirtual 335, 3) := by decide +kernel
theorem dJ0_length_8abf5_9 : decode cJ0_length_8abf5 9 = .ok (.ishr, 1) := by decide +kernel
theorem dJ0_length_8abf5_10 : decode cJ0_length_8abf5 10 = .ok (.ireturn, 1) := by decide +kernel
theorem dJ0_charAt_5068e_0 : decode cJ0_charAt_5068e 0 = .ok (.aload_n 0, 1) := by decide +kernel
theorem dJ0_charAt_5068e_1 : decode cJ0_charAt_5068e 1 = .ok (.invokevirtual 492, 3) := by decide +kernel
theorem dJ0_charAt_5068e_4 : decode cJ0_charAt_5068e 4 = .ok (.ifCond .eq 12, 3) := by decide +kernel
theorem dJ0_charAt_5068e_7 : decode cJ0_charAt_5068e 7 = .ok (.aload_n 0, 1) := by decide +kernel
theorem dJ0_charAt_5068e_8 : decode cJ0_charAt_5068e 8 = .ok (.getfield 9, 3) := by decide +kernel
theorem dJ0_charAt_5068e_11 : decode cJ0_charAt_5068e 11 = .ok (.iload_n 1, 1) := by decide +kernel
theorem dJ0_charAt_5068e_12 : decode cJ0_charAt_5068e 12 = .ok (.invokestatic 495, 3) := by decide +kernel
theorem dJ0_charAt_5068e_15 : decode cJ0_charAt_5068e 15 = .ok (.ireturn, 1) := by decide +kernel
theorem dJ0_charAt_5068e_16 : decode cJ0_charAt_5068e 16 = .ok (.aload_n 0, 1) := by decide +kernel
theorem dJ0_charAt_5068e_17 : decode cJ0_charAt_5068e 17 = .ok (.getfield 9, 3) := by decide +kernel
theorem dJ0_charAt_5068e_20 : decode cJ0_charAt_5068e 20 = .ok (.iload_n 1, 1) := by decide +kernel
theorem dJ0_charAt_5068e_21 : decode cJ0_charAt_5068e 21 = .ok (.invokestatic 498, 3) := by decide +kernel
theorem dJ0_charAt_5068e_24 : decode cJ0_charAt_5068e 24 = .ok (.ireturn, 1) := by decide +kernel
theorem dJ0_getBytes_840e7_0 : decode cJ0_getBytes_840e7 0 = .ok (.aload_n 0, 1) := by decide +kernel
theorem dJ0_getBytes_840e7_1 : decode cJ0_getBytes_840e7 1 = .ok (.invokevirtual 335, 3) := by decide +kernel
theorem dJ0_getBytes_840e7_4 : decode cJ0_getBytes_840e7 4 = .ok (.iload_n 3, 1) := by decide +kernel
theorem dJ0_getBytes_840e7_5 : decode cJ0_getBytes_840e7 5 = .ok (.if_icmp .ne 23, 3) := by decide +kernel
theorem dJ0_getBytes_840e7_8 : decode cJ0_getBytes_840e7 8 = .ok (.aload_n 0, 1) := by decide +kernel
theorem dJ0_getBytes_840e7_9 : decode cJ0_getBytes_840e7 9 = .ok (.getfield 9, 3) := by decide +kernel
theorem dJ0_getBytes_840e7_12 : decode cJ0_getBytes_840e7 12 = .ok (.iconst 0, 1) := by decide +kernel
theorem dJ0_getBytes_840e7_13 : decode cJ0_getBytes_840e7 13 = .ok (.aload_n 1, 1) := by decide +kernel
theorem dJ0_getBytes_840e7_14 : decode cJ0_getBytes_840e7 14 = .ok (.iload_n 2, 1) := by decide +kernel
theorem dJ0_getBytes_840e7_15 : decode cJ0_getBytes_840e7 15 = .ok (.iload_n 3, 1) := by decide +kernel
theorem dJ0_getBytes_840e7_16 : decode cJ0_getBytes_840e7 16 = .ok (.ishl, 1) := by decide +kernel
theorem dJ0_getBytes_840e7_17 : decode cJ0_getBytes_840e7 17 = .ok (.aload_n 0, 1) := by decide +kernel
theorem dJ0_getBytes_840e7_18 : decode cJ0_getBytes_840e7 18 = .ok (.getfield 9, 3) := by decide +kernel
theorem dJ0_getBytes_840e7_21 : decode cJ0_getBytes_840e7 21 = .ok (.arraylength, 1) := by decide +kernel
theorem dJ0_getBytes_840e7_22 : decode cJ0_getBytes_840e7 22 = .ok (.invokestatic 212, 3) := by decide +kernel
theorem dJ0_getBytes_840e7_25 : decode cJ0_getBytes_840e7 25 = .ok (.goto 18, 3) := by decide +kernel
theorem dJ0_getBytes_840e7_28 : decode cJ0_getBytes_840e7 28 = .ok (.aload_n 0, 1) := by decide +kernel
theorem dJ0_getBytes_840e7_29 : decode cJ0_getBytes_840e7 29 = .ok (.getfield 9, 3) := by decide +kernel
theorem dJ0_getBytes_840e7_32 : decode cJ0_getBytes_840e7 32 = .ok (.iconst 0, 1) := by decide +kernel
theorem dJ0_getBytes_840e7_33 : decode cJ0_getBytes_840e7 33 = .ok (.aload_n 1, 1) := by decide +kernel
theorem dJ0_getBytes_840e7_34 : decode cJ0_getBytes_840e7 34 = .ok (.iload_n 2, 1) := by decide +kernel
theorem dJ0_getBytes_840e7_35 : decode cJ0_getBytes_840e7 35 = .ok (.aload_n 0, 1) := by decide +kernel
theorem dJ0_getBytes_840e7_36 : decode cJ0_getBytes_840e7 36 = .ok (.getfield 9, 3) := by decide +kernel
theorem dJ0_getBytes_840e7_39 : decode cJ0_getBytes_840e7 39 = .ok (.arraylength, 1) := by decide +kernel
theorem dJ0_getBytes_840e7_40 : decode cJ0_getBytes_840e7 40 = .ok (.invokestatic 106, 3) := by decide +kernel
theorem dJ0_getBytes_840e7_43 : decode cJ0_getBytes_840e7 43 = .ok (.return_, 1) := by decide +kernel
theorem dJ0_init_db425_0 : decode cJ0_init_db425 0 = .ok (.aload_n 0, 1) := by decide +kernel
theorem dJ0_init_db425_1 : decode cJ0_init_db425 1 = .ok (.invokespecial 1, 3) := by decide +kernel
theorem dJ0_init_db425_4 : decode cJ0_init_db425 4 = .ok (.aload_n 1, 1) := by decide +kernel
theorem dJ0_init_db425_5 : decode cJ0_init_db425 5 = .ok (.invokevirtual 552, 3) := by decide +kernel
theorem dJ0_init_db425_8 : decode cJ0_init_db425 8 = .ok (.astore_n 3, 1) := by decide +kernel
theorem dJ0_init_db425_9 : decode cJ0_init_db425 9 = .ok (.aload_n 1, 1) := by decide +kernel
theorem dJ0_init_db425_10 : decode cJ0_init_db425 10 = .ok (.invokevirtual 549, 3) := by decide +kernel
theorem dJ0_init_db425_13 : decode cJ0_init_db425 13 = .ok (.istore 4, 2) := by decide +kernel
theorem dJ0_init_db425_15 : decode cJ0_init_db425 15 = .ok (.aload_n 1, 1) := by decide +kernel
theorem dJ0_init_db425_16 : decode cJ0_init_db425 16 = .ok (.invokevirtual 1047, 3) := by decide +kernel
theorem dJ0_init_db425_19 : decode cJ0_init_db425 19 = .ok (.ifCond .eq 22, 3) := by decide +kernel
theorem dJ0_init_db425_22 : decode cJ0_init_db425 22 = .ok (.aload_n 0, 1) := by decide +kernel
theorem dJ0_init_db425_23 : decode cJ0_init_db425 23 = .ok (.iconst 0, 1) := by decide +kernel
theorem dJ0_init_db425_24 : decode cJ0_init_db425 24 = .ok (.putfield 15, 3) := by decide +kernel
theorem dJ0_init_db425_27 : decode cJ0_init_db425 27 = .ok (.aload_n 0, 1) := by decide +kernel
theorem dJ0_init_db425_28 : decode cJ0_init_db425 28 = .ok (.aload_n 3, 1) := by decide +kernel
theorem dJ0_init_db425_29 : decode cJ0_init_db425 29 = .ok (.iconst 0, 1) := by decide +kernel
theorem dJ0_init_db425_30 : decode cJ0_init_db425 30 = .ok (.iload 4, 2) := by decide +kernel
theorem dJ0_init_db425_32 : decode cJ0_init_db425 32 = .ok (.invokestatic 54, 3) := by decide +kernel
theorem dJ0_init_db425_35 : decode cJ0_init_db425 35 = .ok (.putfield 9, 3) := by decide +kernel
theorem dJ0_init_db425_38 : decode cJ0_init_db425 38 = .ok (.goto 59, 3) := by decide +kernel
theorem dJ0_init_db425_41 : decode cJ0_init_db425 41 = .ok (.getstatic 38, 3) := by decide +kernel
theorem dJ0_init_db425_44 : decode cJ0_init_db425 44 = .ok (.ifCond .eq 35, 3) := by decide +kernel
theorem dJ0_init_db425_47 : decode cJ0_init_db425 47 = .ok (.aload_n 1, 1) := by decide +kernel
theorem dJ0_init_db425_48 : decode cJ0_init_db425 48 = .ok (.getfield 1048, 3) := by decide +kernel
theorem dJ0_init_db425_51 : decode cJ0_init_db425 51 = .ok (.ifCond .eq 28, 3) := by decide +kernel
theorem dJ0_init_db425_54 : decode cJ0_init_db425 54 = .ok (.aload_n 0, 1) := by decide +kernel
theorem dJ0_init_db425_55 : decode cJ0_init_db425 55 = .ok (.aload_n 3, 1) := by decide +kernel
theorem dJ0_init_db425_56 : decode cJ0_init_db425 56 = .ok (.iconst 0, 1) := by decide +kernel
theorem dJ0_init_db425_57 : decode cJ0_init_db425 57 = .ok (.iload 4, 2) := by decide +kernel
theorem dJ0_init_db425_59 : decode cJ0_init_db425 59 = .ok (.invokestatic 1051, 3) := by decide +kernel
theorem dJ0_init_db425_62 : decode cJ0_init_db425 62 = .ok (.putfield 9, 3) := by decide +kernel
theorem dJ0_init_db425_65 : decode cJ0_init_db425 65 = .ok (.aload_n 0, 1) := by decide +kernel
theorem dJ0_init_db425_66 : decode cJ0_init_db425 66 = .ok (.aload_n 0, 1) := by decide +kernel
theorem dJ0_init_db425_67 : decode cJ0_init_db425 67 = .ok (.getfield 9, 3) := by decide +kernel
theorem dJ0_init_db425_70 : decode cJ0_init_db425 70 = .ok (.iload 4, 2) := by decide +kernel
theorem dJ0_init_db425_72 : decode cJ0_init_db425 72 = .ok (.invokestatic 47, 3) := by decide +kernel
theorem dJ0_init_db425_75 : decode cJ0_init_db425 75 = .ok (.putfield 15, 3) := by decide +kernel
theorem dJ0_init_db425_78 : decode cJ0_init_db425 78 = .ok (.return_, 1) := by decide +kernel
theorem dJ0_init_db425_79 : decode cJ0_init_db425 79 = .ok (.aload_n 0, 1) := by decide +kernel
theorem dJ0_init_db425_80 : decode cJ0_init_db425 80 = .ok (.iconst 1, 1) := by decide +kernel
theorem dJ0_init_db425_81 : decode cJ0_init_db425 81 = .ok (.putfield 15, 3) := by decide +kernel
theorem dJ0_init_db425_84 : decode cJ0_init_db425 84 = .ok (.aload_n 0, 1) := by decide +kernel
theorem dJ0_init_db425_85 : decode cJ0_init_db425 85 = .ok (.aload_n 3, 1) := by decide +kernel
theorem dJ0_init_db425_86 : decode cJ0_init_db425 86 = .ok (.iconst 0, 1) := by decide +kernel
theorem dJ0_init_db425_87 : decode cJ0_init_db425 87 = .ok (.iload 4, 2) := by decide +kernel
theorem dJ0_init_db425_89 : decode cJ0_init_db425 89 = .ok (.iconst 1, 1) := by decide +kernel
theorem dJ0_init_db425_90 : decode cJ0_init_db425 90 = .ok (.ishl, 1) := by decide +kernel
theorem dJ0_init_db425_91 : decode cJ0_init_db425 91 = .ok (.invokestatic 54, 3) := by decide +kernel
theorem dJ0_init_db425_94 : decode cJ0_init_db425 94 = .ok (.putfield 9, 3) := by decide +kernel
theorem dJ0_init_db425_97 : decode cJ0_init_db425 97 = .ok (.return_, 1) := by decide +kernel
theorem dJ0_coder_7d493_0 : decode cJ0_coder_7d493 0 = .ok (.getstatic 38, 3) := by decide +kernel
theorem dJ0_coder_7d493_3 : decode cJ0_coder_7d493 3 = .ok (.ifCond .eq 10, 3) := by decide +kernel
theorem dJ0_coder_7d493_6 : decode cJ0_coder_7d493 6 = .ok (.aload_n 0, 1) := by decide +kernel
theorem dJ0_coder_7d493_7 : decode cJ0_coder_7d493 7 = .ok (.getfield 15, 3) := by decide +kernel
theorem dJ0_coder_7d493_10 : decode cJ0_coder_7d493 10 = .ok (.goto 4, 3) := by decide +kernel
theorem dJ0_coder_7d493_13 : decode cJ0_coder_7d493 13 = .ok (.iconst 1, 1) := by decide +kernel
theorem dJ0_coder_7d493_14 : decode cJ0_coder_7d493 14 = .ok (.ireturn, 1) := by decide +kernel
theorem dJ0_isLatin1_aae02_0 : decode cJ0_isLatin1_aae02 0 = .ok (.getstatic 38, 3) := by decide +kernel
theorem dJ0_isLatin1_aae02_3 : decode cJ0_isLatin1_aae02 3 = .ok (.ifCond .eq 14, 3) := by decide +kernel
theorem dJ0_isLatin1_aae02_6 : decode cJ0_isLatin1_aae02 6 = .ok (.aload_n 0, 1) := by decide +kernel
theorem dJ0_isLatin1_aae02_7 : decode cJ0_isLatin1_aae02 7 = .ok (.getfield 15, 3) := by decide +kernel
theorem dJ0_isLatin1_aae02_10 : decode cJ0_isLatin1_aae02 10 = .ok (.ifCond .ne 7, 3) := by decide +kernel
theorem dJ0_isLatin1_aae02_13 : decode cJ0_isLatin1_aae02 13 = .ok (.iconst 1, 1) := by decide +kernel
theorem dJ0_isLatin1_aae02_14 : decode cJ0_isLatin1_aae02 14 = .ok (.goto 4, 3) := by decide +kernel
theorem dJ0_isLatin1_aae02_17 : decode cJ0_isLatin1_aae02 17 = .ok (.iconst 0, 1) := by decide +kernel
theorem dJ0_isLatin1_aae02_18 : decode cJ0_isLatin1_aae02 18 = .ok (.ireturn, 1) := by decide +kernel
theorem dJ0_checkIndex_df160_0 : decode cJ0_checkIndex_df160 0 = .ok (.iload_n 0, 1) := by decide +kernel
theorem dJ0_checkIndex_df160_1 : decode cJ0_checkIndex_df160 1 = .ok (.iload_n 1, 1) := by decide +kernel
theorem dJ0_checkIndex_df160_2 : decode cJ0_checkIndex_df160 2 = .ok (.getstatic 1053, 3) := by decide +kernel
theorem dJ0_checkIndex_df160_5 : decode cJ0_checkIndex_df160 5 = .ok (.invokestatic 1059, 3) := by decide +kernel
theorem dJ0_checkIndex_df160_8 : decode cJ0_checkIndex_df160 8 = .ok (.pop, 1) := by decide +kernel
theorem dJ0_checkIndex_df160_9 : decode cJ0_checkIndex_df160 9 = .ok (.return_, 1) := by decide +kernel
theorem dJ0_checkBoundsOffCount_cabcc_0 : decode cJ0_checkBoundsOffCount_cabcc 0 = .ok (.iload_n 0, 1) := by decide +kernel
theorem dJ0_checkBoundsOffCount_cabcc_1 : decode cJ0_checkBoundsOffCount_cabcc 1 = .ok (.iload_n 1, 1) := by decide +kernel
theorem dJ0_checkBoundsOffCount_cabcc_2 : decode cJ0_checkBoundsOffCount_cabcc 2 = .ok (.iload_n 2, 1) := by decide +kernel
theorem dJ0_checkBoundsOffCount_cabcc_3 : decode cJ0_checkBoundsOffCount_cabcc 3 = .ok (.getstatic 1053, 3) := by decide +kernel
theorem dJ0_checkBoundsOffCount_cabcc_6 : decode cJ0_checkBoundsOffCount_cabcc 6 = .ok (.invokestatic 1065, 3) := by decide +kernel
theorem dJ0_checkBoundsOffCount_cabcc_9 : decode cJ0_checkBoundsOffCount_cabcc 9 = .ok (.ireturn, 1) := by decide +kernel
theorem dJ0_checkBoundsBeginEnd_23922_0 : decode cJ0_checkBoundsBeginEnd_23922 0 = .ok (.iload_n 0, 1) := by decide +kernel
theorem dJ0_checkBoundsBeginEnd_23922_1 : decode cJ0_checkBoundsBeginEnd_23922 1 = .ok (.iload_n 1, 1) := by decide +kernel
theorem dJ0_checkBoundsBeginEnd_23922_2 : decode cJ0_checkBoundsBeginEnd_23922 2 = .ok (.iload_n 2, 1) := by decide +kernel
theorem dJ0_checkBoundsBeginEnd_23922_3 : decode cJ0_checkBoundsBeginEnd_23922 3 = .ok (.getstatic 1053, 3) := by decide +kernel
theorem dJ0_checkBoundsBeginEnd_23922_6 : decode cJ0_checkBoundsBeginEnd_23922 6 = .ok (.invokestatic 1062, 3) := by decide +kernel
theorem dJ0_checkBoundsBeginEnd_23922_9 : decode cJ0_checkBoundsBeginEnd_23922 9 = .ok (.pop, 1) := by decide +kernel
theorem dJ0_checkBoundsBeginEnd_23922_10 : decode cJ0_checkBoundsBeginEnd_23922 10 = .ok (.return_, 1) := by decide +kernel
theorem dJ4_init_da8c8_0 : decode cJ4_init_da8c8 0 = .ok (.aload_n 0, 1) := by decide +kernel
theorem dJ4_init_da8c8_1 : decode cJ4_init_da8c8 1 = .ok (.bipush 16, 2) := by decide +kernel
theorem dJ4_init_da8c8_3 : decode cJ4_init_da8c8 3 = .ok (.invokespecial 1, 3) := by decide +kernel
theorem dJ4_init_da8c8_6 : decode cJ4_init_da8c8 6 = .ok (.return_, 1) := by decide +kernel
theorem dJ4_append_15ec4_0 : decode cJ4_append_15ec4 0 = .ok (.aload_n 0, 1) := by decide +kernel
theorem dJ4_append_15ec4_1 : decode cJ4_append_15ec4 1 = .ok (.aload_n 1, 1) := by decide +kernel
theorem dJ4_append_15ec4_2 : decode cJ4_append_15ec4 2 = .ok (.invokespecial 29, 3) := by decide +kernel
theorem dJ4_append_15ec4_5 : decode cJ4_append_15ec4 5 = .ok (.pop, 1) := by decide +kernel
theorem dJ4_append_15ec4_6 : decode cJ4_append_15ec4 6 = .ok (.aload_n 0, 1) := by decide +kernel
theorem dJ4_append_15ec4_7 : decode cJ4_append_15ec4 7 = .ok (.areturn, 1) := by decide +kernel
theorem dJ4_append_cf468_0 : decode cJ4_append_cf468 0 = .ok (.aload_n 0, 1) := by decide +kernel
theorem dJ4_append_cf468_1 : decode cJ4_append_cf468 1 = .ok (.iload_n 1, 1) := by decide +kernel
theorem dJ4_append_cf468_2 : decode cJ4_append_cf468 2 = .ok (.invokespecial 50, 3) := by decide +kernel
theorem dJ4_append_cf468_5 : decode cJ4_append_cf468 5 = .ok (.pop, 1) := by decide +kernel
theorem dJ4_append_cf468_6 : decode cJ4_append_cf468 6 = .ok (.aload_n 0, 1) := by decide +kernel
theorem dJ4_append_cf468_7 : decode cJ4_append_cf468 7 = .ok (.areturn, 1) := by decide +kernel
theorem dJ4_append_bf812_0 : decode cJ4_append_bf812 0 = .ok (.aload_n 0, 1) := by decide +kernel
theorem dJ4_append_bf812_1 : decode cJ4_append_bf812 1 = .ok (.iload_n 1, 1) := by decide +kernel
theorem dJ4_append_bf812_2 : decode cJ4_append_bf812 2 = .ok (.invokespecial 53, 3) := by decide +kernel
theorem dJ4_append_bf812_5 : decode cJ4_append_bf812 5 = .ok (.pop, 1) := by decide +kernel
theorem dJ4_append_bf812_6 : decode cJ4_append_bf812 6 = .ok (.aload_n 0, 1) := by decide +kernel
theorem dJ4_append_bf812_7 : decode cJ4_append_bf812 7 = .ok (.areturn, 1) := by decide +kernel
theorem dJ4_toString_0e30d_0 : decode cJ4_toString_0e30d 0 = .ok (.new 18, 3) := by decide +kernel
theorem dJ4_toString_0e30d_3 : decode cJ4_toString_0e30d 3 = .ok (.dup, 1) := by decide +kernel
theorem dJ4_toString_0e30d_4 : decode cJ4_toString_0e30d 4 = .ok (.aload_n 0, 1) := by decide +kernel
theorem dJ4_toString_0e30d_5 : decode cJ4_toString_0e30d 5 = .ok (.invokespecial 137, 3) := by decide +kernel
theorem dJ4_toString_0e30d_8 : decode cJ4_toString_0e30d 8 = .ok (.areturn, 1) := by decide +kernel
theorem dJ4_length_8abf5_0 : decode cJ4_length_8abf5 0 = .ok (.aload_n 0, 1) := by decide +kernel
theorem dJ4_length_8abf5_1 : decode cJ4_length_8abf5 1 = .ok (.invokespecial 343, 3) := by decide +kernel
theorem dJ4_length_8abf5_4 : decode cJ4_length_8abf5 4 = .ok (.ireturn, 1) := by decide +kernel
theorem dJ1_charAt_3b067_0 : decode cJ1_charAt_3b067 0 = .ok (.iload_n 1, 1) := by decide +kernel
theorem dJ1_charAt_3b067_1 : decode cJ1_charAt_3b067 1 = .ok (.aload_n 0, 1) := by decide +kernel
theorem dJ1_charAt_3b067_2 : decode cJ1_charAt_3b067 2 = .ok (.arraylength, 1) := by decide +kernel
theorem dJ1_charAt_3b067_3 : decode cJ1_charAt_3b067 3 = .ok (.invokestatic 9, 3) := by decide +kernel
theorem dJ1_charAt_3b067_6 : decode cJ1_charAt_3b067 6 = .ok (.aload_n 0, 1) := by decide +kernel
theorem dJ1_charAt_3b067_7 : decode cJ1_charAt_3b067 7 = .ok (.iload_n 1, 1) := by decide +kernel
theorem dJ1_charAt_3b067_8 : decode cJ1_charAt_3b067 8 = .ok (.baload, 1) := by decide +kernel
theorem dJ1_charAt_3b067_9 : decode cJ1_charAt_3b067 9 = .ok (.sipush 255, 3) := by decide +kernel
theorem dJ1_charAt_3b067_12 : decode cJ1_charAt_3b067 12 = .ok (.iand, 1) := by decide +kernel
theorem dJ1_charAt_3b067_13 : decode cJ1_charAt_3b067 13 = .ok (.i2c, 1) := by decide +kernel
theorem dJ1_charAt_3b067_14 : decode cJ1_charAt_3b067 14 = .ok (.ireturn, 1) := by decide +kernel
theorem dJ1_canEncode_fc78d_0 : decode cJ1_canEncode_fc78d 0 = .ok (.iload_n 0, 1) := by decide +kernel
theorem dJ1_canEncode_fc78d_1 : decode cJ1_canEncode_fc78d 1 = .ok (.sipush 255, 3) := by decide +kernel
theorem dJ1_canEncode_fc78d_4 : decode cJ1_canEncode_fc78d 4 = .ok (.if_icmp .gt 7, 3) := by decide +kernel
theorem dJ1_canEncode_fc78d_7 : decode cJ1_canEncode_fc78d 7 = .ok (.iconst 1, 1) := by decide +kernel
theorem dJ1_canEncode_fc78d_8 : decode cJ1_canEncode_fc78d 8 = .ok (.goto 4, 3) := by decide +kernel
theorem dJ1_canEncode_fc78d_11 : decode cJ1_canEncode_fc78d 11 = .ok (.iconst 0, 1) := by decide +kernel
theorem dJ1_canEncode_fc78d_12 : decode cJ1_canEncode_fc78d 12 = .ok (.ireturn, 1) := by decide +kernel
theorem dJ1_inflate_0e8fd_0 : decode cJ1_inflate_0e8fd 0 = .ok (.aload_n 0, 1) := by decide +kernel
theorem dJ1_inflate_0e8fd_1 : decode cJ1_inflate_0e8fd 1 = .ok (.iload_n 1, 1) := by decide +kernel
theorem dJ1_inflate_0e8fd_2 : decode cJ1_inflate_0e8fd 2 = .ok (.aload_n 2, 1) := by decide +kernel
theorem dJ1_inflate_0e8fd_3 : decode cJ1_inflate_0e8fd 3 = .ok (.iload_n 3, 1) := by decide +kernel
theorem dJ1_inflate_0e8fd_4 : decode cJ1_inflate_0e8fd 4 = .ok (.iload 4, 2) := by decide +kernel
theorem dJ1_inflate_0e8fd_6 : decode cJ1_inflate_0e8fd 6 = .ok (.invokestatic 240, 3) := by decide +kernel
theorem dJ1_inflate_0e8fd_9 : decode cJ1_inflate_0e8fd 9 = .ok (.return_, 1) := by decide +kernel
theorem dJ2_newBytesFor_77867_0 : decode cJ2_newBytesFor_77867 0 = .ok (.iload_n 0, 1) := by decide +kernel
theorem dJ2_newBytesFor_77867_1 : decode cJ2_newBytesFor_77867 1 = .ok (.invokestatic 11, 3) := by decide +kernel
theorem dJ2_newBytesFor_77867_4 : decode cJ2_newBytesFor_77867 4 = .ok (.newarray .byte, 2) := by decide +kernel
theorem dJ2_newBytesFor_77867_6 : decode cJ2_newBytesFor_77867 6 = .ok (.areturn, 1) := by decide +kernel
theorem dJ2_newBytesLength_0f7a4_0 : decode cJ2_newBytesLength_0f7a4 0 = .ok (.iload_n 0, 1) := by decide +kernel
theorem dJ2_newBytesLength_0f7a4_1 : decode cJ2_newBytesLength_0f7a4 1 = .ok (.ifCond .ge 11, 3) := by decide +kernel
theorem dJ2_newBytesLength_0f7a4_4 : decode cJ2_newBytesLength_0f7a4 4 = .ok (.new 17, 3) := by decide +kernel
theorem dJ2_newBytesLength_0f7a4_7 : decode cJ2_newBytesLength_0f7a4 7 = .ok (.dup, 1) := by decide +kernel
theorem dJ2_newBytesLength_0f7a4_8 : decode cJ2_newBytesLength_0f7a4 8 = .ok (.invokespecial 19, 3) := by decide +kernel
theorem dJ2_newBytesLength_0f7a4_11 : decode cJ2_newBytesLength_0f7a4 11 = .ok (.athrow, 1) := by decide +kernel
theorem dJ2_newBytesLength_0f7a4_12 : decode cJ2_newBytesLength_0f7a4 12 = .ok (.iload_n 0, 1) := by decide +kernel
theorem dJ2_newBytesLength_0f7a4_13 : decode cJ2_newBytesLength_0f7a4 13 = .ok (.ldc 20, 2) := by decide +kernel
theorem dJ2_newBytesLength_0f7a4_15 : decode cJ2_newBytesLength_0f7a4 15 = .ok (.if_icmp .lt 40, 3) := by decide +kernel
theorem dJ2_newBytesLength_0f7a4_18 : decode cJ2_newBytesLength_0f7a4 18 = .ok (.new 21, 3) := by decide +kernel
theorem dJ2_newBytesLength_0f7a4_21 : decode cJ2_newBytesLength_0f7a4 21 = .ok (.dup, 1) := by decide +kernel
theorem dJ2_newBytesLength_0f7a4_22 : decode cJ2_newBytesLength_0f7a4 22 = .ok (.new 23, 3) := by decide +kernel
theorem dJ2_newBytesLength_0f7a4_25 : decode cJ2_newBytesLength_0f7a4 25 = .ok (.dup, 1) := by decide +kernel
theorem dJ2_newBytesLength_0f7a4_26 : decode cJ2_newBytesLength_0f7a4 26 = .ok (.invokespecial 25, 3) := by decide +kernel
theorem dJ2_newBytesLength_0f7a4_29 : decode cJ2_newBytesLength_0f7a4 29 = .ok (.ldc 26, 2) := by decide +kernel
theorem dJ2_newBytesLength_0f7a4_31 : decode cJ2_newBytesLength_0f7a4 31 = .ok (.invokevirtual 28, 3) := by decide +kernel
theorem dJ2_newBytesLength_0f7a4_34 : decode cJ2_newBytesLength_0f7a4 34 = .ok (.iload_n 0, 1) := by decide +kernel
theorem dJ2_newBytesLength_0f7a4_35 : decode cJ2_newBytesLength_0f7a4 35 = .ok (.invokevirtual 32, 3) := by decide +kernel
theorem dJ2_newBytesLength_0f7a4_38 : decode cJ2_newBytesLength_0f7a4 38 = .ok (.ldc 35, 2) := by decide +kernel
theorem dJ2_newBytesLength_0f7a4_40 : decode cJ2_newBytesLength_0f7a4 40 = .ok (.invokevirtual 28, 3) := by decide +kernel
theorem dJ2_newBytesLength_0f7a4_43 : decode cJ2_newBytesLength_0f7a4 43 = .ok (.ldc 20, 2) := by decide +kernel
theorem dJ2_newBytesLength_0f7a4_45 : decode cJ2_newBytesLength_0f7a4 45 = .ok (.invokevirtual 32, 3) := by decide +kernel
theorem dJ2_newBytesLength_0f7a4_48 : decode cJ2_newBytesLength_0f7a4 48 = .ok (.invokevirtual 37, 3) := by decide +kernel
theorem dJ2_newBytesLength_0f7a4_51 : decode cJ2_newBytesLength_0f7a4 51 = .ok (.invokespecial 41, 3) := by decide +kernel
theorem dJ2_newBytesLength_0f7a4_54 : decode cJ2_newBytesLength_0f7a4 54 = .ok (.athrow, 1) := by decide +kernel
theorem dJ2_newBytesLength_0f7a4_55 : decode cJ2_newBytesLength_0f7a4 55 = .ok (.iload_n 0, 1) := by decide +kernel
theorem dJ2_newBytesLength_0f7a4_56 : decode cJ2_newBytesLength_0f7a4 56 = .ok (.iconst 1, 1) := by decide +kernel
theorem dJ2_newBytesLength_0f7a4_57 : decode cJ2_newBytesLength_0f7a4 57 = .ok (.ishl, 1) := by decide +kernel
theorem dJ2_newBytesLength_0f7a4_58 : decode cJ2_newBytesLength_0f7a4 58 = .ok (.ireturn, 1) := by decide +kernel
theorem dJ2_putChar_b72d1_0 : decode cJ2_putChar_b72d1 0 = .ok (.getstatic 44, 3) := by decide +kernel
theorem dJ2_putChar_b72d1_3 : decode cJ2_putChar_b72d1 3 = .ok (.ifCond .ne 25, 3) := by decide +kernel
theorem dJ2_putChar_b72d1_6 : decode cJ2_putChar_b72d1 6 = .ok (.iload_n 1, 1) := by decide +kernel
theorem dJ2_putChar_b72d1_7 : decode cJ2_putChar_b72d1 7 = .ok (.ifCond .lt 11, 3) := by decide +kernel
theorem dJ2_putChar_b72d1_10 : decode cJ2_putChar_b72d1 10 = .ok (.iload_n 1, 1) := by decide +kernel
theorem dJ2_putChar_b72d1_11 : decode cJ2_putChar_b72d1 11 = .ok (.aload_n 0, 1) := by decide +kernel
theorem dJ2_putChar_b72d1_12 : decode cJ2_putChar_b72d1 12 = .ok (.invokestatic 48, 3) := by decide +kernel
theorem dJ2_putChar_b72d1_15 : decode cJ2_putChar_b72d1 15 = .ok (.if_icmp .lt 13, 3) := by decide +kernel
theorem dJ2_putChar_b72d1_18 : decode cJ2_putChar_b72d1 18 = .ok (.new 52, 3) := by decide +kernel
theorem dJ2_putChar_b72d1_21 : decode cJ2_putChar_b72d1 21 = .ok (.dup, 1) := by decide +kernel
theorem dJ2_putChar_b72d1_22 : decode cJ2_putChar_b72d1 22 = .ok (.ldc 54, 2) := by decide +kernel
theorem dJ2_putChar_b72d1_24 : decode cJ2_putChar_b72d1 24 = .ok (.invokespecial 56, 3) := by decide +kernel
theorem dJ2_putChar_b72d1_27 : decode cJ2_putChar_b72d1 27 = .ok (.athrow, 1) := by decide +kernel
theorem dJ2_putChar_b72d1_28 : decode cJ2_putChar_b72d1 28 = .ok (.iload_n 1, 1) := by decide +kernel
theorem dJ2_putChar_b72d1_29 : decode cJ2_putChar_b72d1 29 = .ok (.iconst 1, 1) := by decide +kernel
theorem dJ2_putChar_b72d1_30 : decode cJ2_putChar_b72d1 30 = .ok (.ishl, 1) := by decide +kernel
theorem dJ2_putChar_b72d1_31 : decode cJ2_putChar_b72d1 31 = .ok (.istore_n 1, 1) := by decide +kernel
theorem dJ2_putChar_b72d1_32 : decode cJ2_putChar_b72d1 32 = .ok (.aload_n 0, 1) := by decide +kernel
theorem dJ2_putChar_b72d1_33 : decode cJ2_putChar_b72d1 33 = .ok (.iload_n 1, 1) := by decide +kernel
theorem dJ2_putChar_b72d1_34 : decode cJ2_putChar_b72d1 34 = .ok (.iinc 1 1, 3) := by decide +kernel
theorem dJ2_putChar_b72d1_37 : decode cJ2_putChar_b72d1 37 = .ok (.iload_n 2, 1) := by decide +kernel
theorem dJ2_putChar_b72d1_38 : decode cJ2_putChar_b72d1 38 = .ok (.getstatic 59, 3) := by decide +kernel
theorem dJ2_putChar_b72d1_41 : decode cJ2_putChar_b72d1 41 = .ok (.ishr, 1) := by decide +kernel
theorem dJ2_putChar_b72d1_42 : decode cJ2_putChar_b72d1 42 = .ok (.i2b, 1) := by decide +kernel
theorem dJ2_putChar_b72d1_43 : decode cJ2_putChar_b72d1 43 = .ok (.bastore, 1) := by decide +kernel
theorem dJ2_putChar_b72d1_44 : decode cJ2_putChar_b72d1 44 = .ok (.aload_n 0, 1) := by decide +kernel
theorem dJ2_putChar_b72d1_45 : decode cJ2_putChar_b72d1 45 = .ok (.iload_n 1, 1) := by decide +kernel
theorem dJ2_putChar_b72d1_46 : decode cJ2_putChar_b72d1 46 = .ok (.iload_n 2, 1) := by decide +kernel
theorem dJ2_putChar_b72d1_47 : decode cJ2_putChar_b72d1 47 = .ok (.getstatic 63, 3) := by decide +kernel
theorem dJ2_putChar_b72d1_50 : decode cJ2_putChar_b72d1 50 = .ok (.ishr, 1) := by decide +kernel
theorem dJ2_putChar_b72d1_51 : decode cJ2_putChar_b72d1 51 = .ok (.i2b, 1) := by decide +kernel
theorem dJ2_putChar_b72d1_52 : decode cJ2_putChar_b72d1 52 = .ok (.bastore, 1) := by decide +kernel
theorem dJ2_putChar_b72d1_53 : decode cJ2_putChar_b72d1 53 = .ok (.return_, 1) := by decide +kernel
theorem dJ2_getChar_3b067_0 : decode cJ2_getChar_3b067 0 = .ok (.getstatic 44, 3) := by decide +kernel
theorem dJ2_getChar_3b067_3 : decode cJ2_getChar_3b067 3 = .ok (.ifCond .ne 25, 3) := by decide +kernel
theorem dJ2_getChar_3b067_6 : decode cJ2_getChar_3b067 6 = .ok (.iload_n 1, 1) := by decide +kernel
theorem dJ2_getChar_3b067_7 : decode cJ2_getChar_3b067 7 = .ok (.ifCond .lt 11, 3) := by decide +kernel
theorem dJ2_getChar_3b067_10 : decode cJ2_getChar_3b067 10 = .ok (.iload_n 1, 1) := by decide +kernel
theorem dJ2_getChar_3b067_11 : decode cJ2_getChar_3b067 11 = .ok (.aload_n 0, 1) := by decide +kernel
theorem dJ2_getChar_3b067_12 : decode cJ2_getChar_3b067 12 = .ok (.invokestatic 48, 3) := by decide +kernel
theorem dJ2_getChar_3b067_15 : decode cJ2_getChar_3b067 15 = .ok (.if_icmp .lt 13, 3) := by decide +kernel
theorem dJ2_getChar_3b067_18 : decode cJ2_getChar_3b067 18 = .ok (.new 52, 3) := by decide +kernel
theorem dJ2_getChar_3b067_21 : decode cJ2_getChar_3b067 21 = .ok (.dup, 1) := by decide +kernel
theorem dJ2_getChar_3b067_22 : decode cJ2_getChar_3b067 22 = .ok (.ldc 54, 2) := by decide +kernel
theorem dJ2_getChar_3b067_24 : decode cJ2_getChar_3b067 24 = .ok (.invokespecial 56, 3) := by decide +kernel
theorem dJ2_getChar_3b067_27 : decode cJ2_getChar_3b067 27 = .ok (.athrow, 1) := by decide +kernel
theorem dJ2_getChar_3b067_28 : decode cJ2_getChar_3b067 28 = .ok (.iload_n 1, 1) := by decide +kernel
theorem dJ2_getChar_3b067_29 : decode cJ2_getChar_3b067 29 = .ok (.iconst 1, 1) := by decide +kernel
theorem dJ2_getChar_3b067_30 : decode cJ2_getChar_3b067 30 = .ok (.ishl, 1) := by decide +kernel
theorem dJ2_getChar_3b067_31 : decode cJ2_getChar_3b067 31 = .ok (.istore_n 1, 1) := by decide +kernel
theorem dJ2_getChar_3b067_32 : decode cJ2_getChar_3b067 32 = .ok (.aload_n 0, 1) := by decide +kernel
theorem dJ2_getChar_3b067_33 : decode cJ2_getChar_3b067 33 = .ok (.iload_n 1, 1) := by decide +kernel
theorem dJ2_getChar_3b067_34 : decode cJ2_getChar_3b067 34 = .ok (.iinc 1 1, 3) := by decide +kernel
theorem dJ2_getChar_3b067_37 : decode cJ2_getChar_3b067 37 = .ok (.baload, 1) := by decide +kernel
theorem dJ2_getChar_3b067_38 : decode cJ2_getChar_3b067 38 = .ok (.sipush 255, 3) := by decide +kernel
theorem dJ2_getChar_3b067_41 : decode cJ2_getChar_3b067 41 = .ok (.iand, 1) := by decide +kernel
theorem dJ2_getChar_3b067_42 : decode cJ2_getChar_3b067 42 = .ok (.getstatic 59, 3) := by decide +kernel
theorem dJ2_getChar_3b067_45 : decode cJ2_getChar_3b067 45 = .ok (.ishl, 1) := by decide +kernel
theorem dJ2_getChar_3b067_46 : decode cJ2_getChar_3b067 46 = .ok (.aload_n 0, 1) := by decide +kernel
theorem dJ2_getChar_3b067_47 : decode cJ2_getChar_3b067 47 = .ok (.iload_n 1, 1) := by decide +kernel
theorem dJ2_getChar_3b067_48 : decode cJ2_getChar_3b067 48 = .ok (.baload, 1) := by decide +kernel
theorem dJ2_getChar_3b067_49 : decode cJ2_getChar_3b067 49 = .ok (.sipush 255, 3) := by decide +kernel
theorem dJ2_getChar_3b067_52 : decode cJ2_getChar_3b067 52 = .ok (.iand, 1) := by decide +kernel
theorem dJ2_getChar_3b067_53 : decode cJ2_getChar_3b067 53 = .ok (.getstatic 63, 3) := by decide +kernel
theorem dJ2_getChar_3b067_56 : decode cJ2_getChar_3b067 56 = .ok (.ishl, 1) := by decide +kernel
theorem dJ2_getChar_3b067_57 : decode cJ2_getChar_3b067 57 = .ok (.ior, 1) := by decide +kernel
theorem dJ2_getChar_3b067_58 : decode cJ2_getChar_3b067 58 = .ok (.i2c, 1) := by decide +kernel
theorem dJ2_getChar_3b067_59 : decode cJ2_getChar_3b067 59 = .ok (.ireturn, 1) := by decide +kernel
theorem dJ2_length_9d52b_0 : decode cJ2_length_9d52b 0 = .ok (.aload_n 0, 1) := by decide +kernel
theorem dJ2_length_9d52b_1 : decode cJ2_length_9d52b 1 = .ok (.arraylength, 1) := by decide +kernel
theorem dJ2_length_9d52b_2 : decode cJ2_length_9d52b 2 = .ok (.iconst 1, 1) := by decide +kernel
theorem dJ2_length_9d52b_3 : decode cJ2_length_9d52b 3 = .ok (.ishr, 1) := by decide +kernel
theorem dJ2_length_9d52b_4 : decode cJ2_length_9d52b 4 = .ok (.ireturn, 1) := by decide +kernel
theorem dJ2_coderFromArrayLen_85cad_0 : decode cJ2_coderFromArrayLen_85cad 0 = .ok (.iload_n 1, 1) := by decide +kernel
theorem dJ2_coderFromArrayLen_85cad_1 : decode cJ2_coderFromArrayLen_85cad 1 = .ok (.aload_n 0, 1) := by decide +kernel
theorem dJ2_coderFromArrayLen_85cad_2 : decode cJ2_coderFromArrayLen_85cad 2 = .ok (.arraylength, 1) := by decide +kernel
theorem dJ2_coderFromArrayLen_85cad_3 : decode cJ2_coderFromArrayLen_85cad 3 = .ok (.isub, 1) := by decide +kernel
theorem dJ2_coderFromArrayLen_85cad_4 : decode cJ2_coderFromArrayLen_85cad 4 = .ok (.bipush 31, 2) := by decide +kernel
theorem dJ2_coderFromArrayLen_85cad_6 : decode cJ2_coderFromArrayLen_85cad 6 = .ok (.iushr, 1) := by decide +kernel
theorem dJ2_coderFromArrayLen_85cad_7 : decode cJ2_coderFromArrayLen_85cad 7 = .ok (.i2b, 1) := by decide +kernel
theorem dJ2_coderFromArrayLen_85cad_8 : decode cJ2_coderFromArrayLen_85cad 8 = .ok (.ireturn, 1) := by decide +kernel
theorem dJ2_compress_39247_0 : decode cJ2_compress_39247 0 = .ok (.iload_n 2, 1) := by decide +kernel
theorem dJ2_compress_39247_1 : decode cJ2_compress_39247 1 = .ok (.newarray .byte, 2) := by decide +kernel
theorem dJ2_compress_39247_3 : decode cJ2_compress_39247 3 = .ok (.astore_n 3, 1) := by decide +kernel
theorem dJ2_compress_39247_4 : decode cJ2_compress_39247 4 = .ok (.aload_n 0, 1) := by decide +kernel
theorem dJ2_compress_39247_5 : decode cJ2_compress_39247 5 = .ok (.iload_n 1, 1) := by decide +kernel
theorem dJ2_compress_39247_6 : decode cJ2_compress_39247 6 = .ok (.aload_n 3, 1) := by decide +kernel
theorem dJ2_compress_39247_7 : decode cJ2_compress_39247 7 = .ok (.iconst 0, 1) := by decide +kernel
theorem dJ2_compress_39247_8 : decode cJ2_compress_39247 8 = .ok (.iload_n 2, 1) := by decide +kernel
theorem dJ2_compress_39247_9 : decode cJ2_compress_39247 9 = .ok (.invokestatic 123, 3) := by decide +kernel
theorem dJ2_compress_39247_12 : decode cJ2_compress_39247 12 = .ok (.istore 4, 2) := by decide +kernel
theorem dJ2_compress_39247_14 : decode cJ2_compress_39247 14 = .ok (.iload 4, 2) := by decide +kernel
theorem dJ2_compress_39247_16 : decode cJ2_compress_39247 16 = .ok (.iload_n 2, 1) := by decide +kernel
theorem dJ2_compress_39247_17 : decode cJ2_compress_39247 17 = .ok (.if_icmp .eq 47, 3) := by decide +kernel
theorem dJ2_compress_39247_20 : decode cJ2_compress_39247 20 = .ok (.aload_n 0, 1) := by decide +kernel
theorem dJ2_compress_39247_21 : decode cJ2_compress_39247 21 = .ok (.iload_n 1, 1) := by decide +kernel
theorem dJ2_compress_39247_22 : decode cJ2_compress_39247 22 = .ok (.iconst 1, 1) := by decide +kernel
theorem dJ2_compress_39247_23 : decode cJ2_compress_39247 23 = .ok (.ishl, 1) := by decide +kernel
theorem dJ2_compress_39247_24 : decode cJ2_compress_39247 24 = .ok (.iload_n 1, 1) := by decide +kernel
theorem dJ2_compress_39247_25 : decode cJ2_compress_39247 25 = .ok (.iload_n 2, 1) := by decide +kernel
theorem dJ2_compress_39247_26 : decode cJ2_compress_39247 26 = .ok (.iadd, 1) := by decide +kernel
theorem dJ2_compress_39247_27 : decode cJ2_compress_39247 27 = .ok (.invokestatic 11, 3) := by decide +kernel
theorem dJ2_compress_39247_30 : decode cJ2_compress_39247 30 = .ok (.invokestatic 126, 3) := by decide +kernel
theorem dJ2_compress_39247_33 : decode cJ2_compress_39247 33 = .ok (.astore 5, 2) := by decide +kernel
theorem dJ2_compress_39247_35 : decode cJ2_compress_39247 35 = .ok (.aload 5, 2) := by decide +kernel
theorem dJ2_compress_39247_37 : decode cJ2_compress_39247 37 = .ok (.iload 4, 2) := by decide +kernel
theorem dJ2_compress_39247_39 : decode cJ2_compress_39247 39 = .ok (.invokestatic 71, 3) := by decide +kernel
theorem dJ2_compress_39247_42 : decode cJ2_compress_39247 42 = .ok (.sipush 255, 3) := by decide +kernel
theorem dJ2_compress_39247_45 : decode cJ2_compress_39247 45 = .ok (.if_icmp .gt 16, 3) := by decide +kernel
theorem dJ2_compress_39247_48 : decode cJ2_compress_39247 48 = .ok (.aload 5, 2) := by decide +kernel
theorem dJ2_compress_39247_50 : decode cJ2_compress_39247 50 = .ok (.iconst 0, 1) := by decide +kernel
theorem dJ2_compress_39247_51 : decode cJ2_compress_39247 51 = .ok (.aload_n 3, 1) := by decide +kernel
theorem dJ2_compress_39247_52 : decode cJ2_compress_39247 52 = .ok (.iconst 0, 1) := by decide +kernel
theorem dJ2_compress_39247_53 : decode cJ2_compress_39247 53 = .ok (.iload_n 2, 1) := by decide +kernel
theorem dJ2_compress_39247_54 : decode cJ2_compress_39247 54 = .ok (.invokestatic 123, 3) := by decide +kernel
theorem dJ2_compress_39247_57 : decode cJ2_compress_39247 57 = .ok (.iload_n 2, 1) := by decide +kernel
theorem dJ2_compress_39247_58 : decode cJ2_compress_39247 58 = .ok (.if_icmp .eq 6, 3) := by decide +kernel
theorem dJ2_compress_39247_61 : decode cJ2_compress_39247 61 = .ok (.aload 5, 2) := by decide +kernel
theorem dJ2_compress_39247_63 : decode cJ2_compress_39247 63 = .ok (.areturn, 1) := by decide +kernel
theorem dJ2_compress_39247_64 : decode cJ2_compress_39247 64 = .ok (.aload_n 3, 1) := by decide +kernel
theorem dJ2_compress_39247_65 : decode cJ2_compress_39247 65 = .ok (.areturn, 1) := by decide +kernel
theorem dJ2_compress_5af95_0 : decode cJ2_compress_5af95 0 = .ok (.iload_n 1, 1) := by decide +kernel
theorem dJ2_compress_5af95_1 : decode cJ2_compress_5af95 1 = .ok (.iload 4, 2) := by decide +kernel
theorem dJ2_compress_5af95_3 : decode cJ2_compress_5af95 3 = .ok (.aload_n 0, 1) := by decide +kernel
theorem dJ2_compress_5af95_4 : decode cJ2_compress_5af95 4 = .ok (.invokestatic 173, 3) := by decide +kernel
theorem dJ2_compress_5af95_7 : decode cJ2_compress_5af95 7 = .ok (.iconst 0, 1) := by decide +kernel
theorem dJ2_compress_5af95_8 : decode cJ2_compress_5af95 8 = .ok (.istore 5, 2) := by decide +kernel
theorem dJ2_compress_5af95_10 : decode cJ2_compress_5af95 10 = .ok (.iload 5, 2) := by decide +kernel
theorem dJ2_compress_5af95_12 : decode cJ2_compress_5af95 12 = .ok (.iload 4, 2) := by decide +kernel
theorem dJ2_compress_5af95_14 : decode cJ2_compress_5af95 14 = .ok (.if_icmp .ge 39, 3) := by decide +kernel
theorem dJ2_compress_5af95_17 : decode cJ2_compress_5af95 17 = .ok (.aload_n 0, 1) := by decide +kernel
theorem dJ2_compress_5af95_18 : decode cJ2_compress_5af95 18 = .ok (.iload_n 1, 1) := by decide +kernel
theorem dJ2_compress_5af95_19 : decode cJ2_compress_5af95 19 = .ok (.invokestatic 71, 3) := by decide +kernel
theorem dJ2_compress_5af95_22 : decode cJ2_compress_5af95 22 = .ok (.istore 6, 2) := by decide +kernel
theorem dJ2_compress_5af95_24 : decode cJ2_compress_5af95 24 = .ok (.iload 6, 2) := by decide +kernel
theorem dJ2_compress_5af95_26 : decode cJ2_compress_5af95 26 = .ok (.sipush 255, 3) := by decide +kernel
theorem dJ2_compress_5af95_29 : decode cJ2_compress_5af95 29 = .ok (.if_icmp .le 6, 3) := by decide +kernel
theorem dJ2_compress_5af95_32 : decode cJ2_compress_5af95 32 = .ok (.iload 5, 2) := by decide +kernel
theorem dJ2_compress_5af95_34 : decode cJ2_compress_5af95 34 = .ok (.ireturn, 1) := by decide +kernel
theorem dJ2_compress_5af95_35 : decode cJ2_compress_5af95 35 = .ok (.aload_n 2, 1) := by decide +kernel
theorem dJ2_compress_5af95_36 : decode cJ2_compress_5af95 36 = .ok (.iload_n 3, 1) := by decide +kernel
theorem dJ2_compress_5af95_37 : decode cJ2_compress_5af95 37 = .ok (.iload 6, 2) := by decide +kernel
theorem dJ2_compress_5af95_39 : decode cJ2_compress_5af95 39 = .ok (.i2b, 1) := by decide +kernel
theorem dJ2_compress_5af95_40 : decode cJ2_compress_5af95 40 = .ok (.bastore, 1) := by decide +kernel
theorem dJ2_compress_5af95_41 : decode cJ2_compress_5af95 41 = .ok (.iinc 1 1, 3) := by decide +kernel
theorem dJ2_compress_5af95_44 : decode cJ2_compress_5af95 44 = .ok (.iinc 3 1, 3) := by decide +kernel
theorem dJ2_compress_5af95_47 : decode cJ2_compress_5af95 47 = .ok (.iinc 5 1, 3) := by decide +kernel
theorem dJ2_compress_5af95_50 : decode cJ2_compress_5af95 50 = .ok (.goto (-40), 3) := by decide +kernel
theorem dJ2_compress_5af95_53 : decode cJ2_compress_5af95 53 = .ok (.iload 4, 2) := by decide +kernel
theorem dJ2_compress_5af95_55 : decode cJ2_compress_5af95 55 = .ok (.ireturn, 1) := by decide +kernel
theorem dJ2_putCharSB_b72d1_0 : decode cJ2_putCharSB_b72d1 0 = .ok (.iload_n 1, 1) := by decide +kernel
theorem dJ2_putCharSB_b72d1_1 : decode cJ2_putCharSB_b72d1 1 = .ok (.aload_n 0, 1) := by decide +kernel
theorem dJ2_putCharSB_b72d1_2 : decode cJ2_putCharSB_b72d1 2 = .ok (.invokestatic 67, 3) := by decide +kernel
theorem dJ2_putCharSB_b72d1_5 : decode cJ2_putCharSB_b72d1 5 = .ok (.aload_n 0, 1) := by decide +kernel
theorem dJ2_putCharSB_b72d1_6 : decode cJ2_putCharSB_b72d1 6 = .ok (.iload_n 1, 1) := by decide +kernel
theorem dJ2_putCharSB_b72d1_7 : decode cJ2_putCharSB_b72d1 7 = .ok (.iload_n 2, 1) := by decide +kernel
theorem dJ2_putCharSB_b72d1_8 : decode cJ2_putCharSB_b72d1 8 = .ok (.invokestatic 111, 3) := by decide +kernel
theorem dJ2_putCharSB_b72d1_11 : decode cJ2_putCharSB_b72d1 11 = .ok (.return_, 1) := by decide +kernel
theorem dJ2_getChars_46870_0 : decode cJ2_getChars_46870 0 = .ok (.iload_n 1, 1) := by decide +kernel
theorem dJ2_getChars_46870_1 : decode cJ2_getChars_46870 1 = .ok (.iload_n 2, 1) := by decide +kernel
theorem dJ2_getChars_46870_2 : decode cJ2_getChars_46870 2 = .ok (.aload_n 3, 1) := by decide +kernel
theorem dJ2_getChars_46870_3 : decode cJ2_getChars_46870 3 = .ok (.invokestatic 96, 3) := by decide +kernel
theorem dJ2_getChars_46870_6 : decode cJ2_getChars_46870 6 = .ok (.iload_n 0, 1) := by decide +kernel
theorem dJ2_getChars_46870_7 : decode cJ2_getChars_46870 7 = .ok (.iload_n 2, 1) := by decide +kernel
theorem dJ2_getChars_46870_8 : decode cJ2_getChars_46870 8 = .ok (.aload_n 3, 1) := by decide +kernel
theorem dJ2_getChars_46870_9 : decode cJ2_getChars_46870 9 = .ok (.invokestatic 393, 3) := by decide +kernel
theorem dJ2_getChars_46870_12 : decode cJ2_getChars_46870 12 = .ok (.istore 4, 2) := by decide +kernel
theorem dJ2_getChars_46870_14 : decode cJ2_getChars_46870 14 = .ok (.getstatic 44, 3) := by decide +kernel
theorem dJ2_getChars_46870_17 : decode cJ2_getChars_46870 17 = .ok (.ifCond .ne 17, 3) := by decide +kernel
theorem dJ2_getChars_46870_20 : decode cJ2_getChars_46870 20 = .ok (.iload_n 1, 1) := by decide +kernel
theorem dJ2_getChars_46870_21 : decode cJ2_getChars_46870 21 = .ok (.iload 4, 2) := by decide +kernel
theorem dJ2_getChars_46870_23 : decode cJ2_getChars_46870 23 = .ok (.if_icmp .eq 11, 3) := by decide +kernel
theorem dJ2_getChars_46870_26 : decode cJ2_getChars_46870 26 = .ok (.new 52, 3) := by decide +kernel
theorem dJ2_getChars_46870_29 : decode cJ2_getChars_46870 29 = .ok (.dup, 1) := by decide +kernel
theorem dJ2_getChars_46870_30 : decode cJ2_getChars_46870 30 = .ok (.invokespecial 66, 3) := by decide +kernel
theorem dJ2_getChars_46870_33 : decode cJ2_getChars_46870 33 = .ok (.athrow, 1) := by decide +kernel
theorem dJ2_getChars_46870_34 : decode cJ2_getChars_46870 34 = .ok (.iload 4, 2) := by decide +kernel
theorem dJ2_getChars_46870_36 : decode cJ2_getChars_46870 36 = .ok (.ireturn, 1) := by decide +kernel
theorem dJ2_putCharsAt_cd4e5_0 : decode cJ2_putCharsAt_cd4e5 0 = .ok (.iload_n 1, 1) := by decide +kernel
theorem dJ2_putCharsAt_cd4e5_1 : decode cJ2_putCharsAt_cd4e5 1 = .ok (.iconst 4, 1) := by decide +kernel
theorem dJ2_putCharsAt_cd4e5_2 : decode cJ2_putCharsAt_cd4e5 2 = .ok (.iadd, 1) := by decide +kernel
theorem dJ2_putCharsAt_cd4e5_3 : decode cJ2_putCharsAt_cd4e5 3 = .ok (.istore 6, 2) := by decide +kernel
theorem dJ2_putCharsAt_cd4e5_5 : decode cJ2_putCharsAt_cd4e5 5 = .ok (.iload_n 1, 1) := by decide +kernel
theorem dJ2_putCharsAt_cd4e5_6 : decode cJ2_putCharsAt_cd4e5 6 = .ok (.iload 6, 2) := by decide +kernel
theorem dJ2_putCharsAt_cd4e5_8 : decode cJ2_putCharsAt_cd4e5 8 = .ok (.aload_n 0, 1) := by decide +kernel
theorem dJ2_putCharsAt_cd4e5_9 : decode cJ2_putCharsAt_cd4e5 9 = .ok (.invokestatic 96, 3) := by decide +kernel
theorem dJ2_putCharsAt_cd4e5_12 : decode cJ2_putCharsAt_cd4e5 12 = .ok (.aload_n 0, 1) := by decide +kernel
theorem dJ2_putCharsAt_cd4e5_13 : decode cJ2_putCharsAt_cd4e5 13 = .ok (.iload_n 1, 1) := by decide +kernel
theorem dJ2_putCharsAt_cd4e5_14 : decode cJ2_putCharsAt_cd4e5 14 = .ok (.iinc 1 1, 3) := by decide +kernel
theorem dJ2_putCharsAt_cd4e5_17 : decode cJ2_putCharsAt_cd4e5 17 = .ok (.iload_n 2, 1) := by decide +kernel
theorem dJ2_putCharsAt_cd4e5_18 : decode cJ2_putCharsAt_cd4e5 18 = .ok (.invokestatic 111, 3) := by decide +kernel
theorem dJ2_putCharsAt_cd4e5_21 : decode cJ2_putCharsAt_cd4e5 21 = .ok (.aload_n 0, 1) := by decide +kernel
theorem dJ2_putCharsAt_cd4e5_22 : decode cJ2_putCharsAt_cd4e5 22 = .ok (.iload_n 1, 1) := by decide +kernel
theorem dJ2_putCharsAt_cd4e5_23 : decode cJ2_putCharsAt_cd4e5 23 = .ok (.iinc 1 1, 3) := by decide +kernel
theorem dJ2_putCharsAt_cd4e5_26 : decode cJ2_putCharsAt_cd4e5 26 = .ok (.iload_n 3, 1) := by decide +kernel
theorem dJ2_putCharsAt_cd4e5_27 : decode cJ2_putCharsAt_cd4e5 27 = .ok (.invokestatic 111, 3) := by decide +kernel
theorem dJ2_putCharsAt_cd4e5_30 : decode cJ2_putCharsAt_cd4e5 30 = .ok (.aload_n 0, 1) := by decide +kernel
theorem dJ2_putCharsAt_cd4e5_31 : decode cJ2_putCharsAt_cd4e5 31 = .ok (.iload_n 1, 1) := by decide +kernel
theorem dJ2_putCharsAt_cd4e5_32 : decode cJ2_putCharsAt_cd4e5 32 = .ok (.iinc 1 1, 3) := by decide +kernel
theorem dJ2_putCharsAt_cd4e5_35 : decode cJ2_putCharsAt_cd4e5 35 = .ok (.iload 4, 2) := by decide +kernel
theorem dJ2_putCharsAt_cd4e5_37 : decode cJ2_putCharsAt_cd4e5 37 = .ok (.invokestatic 111, 3) := by decide +kernel
theorem dJ2_putCharsAt_cd4e5_40 : decode cJ2_putCharsAt_cd4e5 40 = .ok (.aload_n 0, 1) := by decide +kernel
theorem dJ2_putCharsAt_cd4e5_41 : decode cJ2_putCharsAt_cd4e5 41 = .ok (.iload_n 1, 1) := by decide +kernel
theorem dJ2_putCharsAt_cd4e5_42 : decode cJ2_putCharsAt_cd4e5 42 = .ok (.iinc 1 1, 3) := by decide +kernel
theorem dJ2_putCharsAt_cd4e5_45 : decode cJ2_putCharsAt_cd4e5 45 = .ok (.iload 5, 2) := by decide +kernel
theorem dJ2_putCharsAt_cd4e5_47 : decode cJ2_putCharsAt_cd4e5 47 = .ok (.invokestatic 111, 3) := by decide +kernel
theorem dJ2_putCharsAt_cd4e5_50 : decode cJ2_putCharsAt_cd4e5 50 = .ok (.getstatic 44, 3) := by decide +kernel
theorem dJ2_putCharsAt_cd4e5_53 : decode cJ2_putCharsAt_cd4e5 53 = .ok (.ifCond .ne 17, 3) := by decide +kernel
theorem dJ2_putCharsAt_cd4e5_56 : decode cJ2_putCharsAt_cd4e5 56 = .ok (.iload_n 1, 1) := by decide +kernel
theorem dJ2_putCharsAt_cd4e5_57 : decode cJ2_putCharsAt_cd4e5 57 = .ok (.iload 6, 2) := by decide +kernel
theorem dJ2_putCharsAt_cd4e5_59 : decode cJ2_putCharsAt_cd4e5 59 = .ok (.if_icmp .eq 11, 3) := by decide +kernel
theorem dJ2_putCharsAt_cd4e5_62 : decode cJ2_putCharsAt_cd4e5 62 = .ok (.new 52, 3) := by decide +kernel
theorem dJ2_putCharsAt_cd4e5_65 : decode cJ2_putCharsAt_cd4e5 65 = .ok (.dup, 1) := by decide +kernel
theorem dJ2_putCharsAt_cd4e5_66 : decode cJ2_putCharsAt_cd4e5 66 = .ok (.invokespecial 66, 3) := by decide +kernel
theorem dJ2_putCharsAt_cd4e5_69 : decode cJ2_putCharsAt_cd4e5 69 = .ok (.athrow, 1) := by decide +kernel
theorem dJ2_putCharsAt_cd4e5_70 : decode cJ2_putCharsAt_cd4e5 70 = .ok (.iload 6, 2) := by decide +kernel
theorem dJ2_putCharsAt_cd4e5_72 : decode cJ2_putCharsAt_cd4e5 72 = .ok (.ireturn, 1) := by decide +kernel
theorem dJ2_charAt_3b067_0 : decode cJ2_charAt_3b067 0 = .ok (.iload_n 1, 1) := by decide +kernel
theorem dJ2_charAt_3b067_1 : decode cJ2_charAt_3b067 1 = .ok (.aload_n 0, 1) := by decide +kernel
theorem dJ2_charAt_3b067_2 : decode cJ2_charAt_3b067 2 = .ok (.invokestatic 67, 3) := by decide +kernel
theorem dJ2_charAt_3b067_5 : decode cJ2_charAt_3b067 5 = .ok (.aload_n 0, 1) := by decide +kernel
theorem dJ2_charAt_3b067_6 : decode cJ2_charAt_3b067 6 = .ok (.iload_n 1, 1) := by decide +kernel
theorem dJ2_charAt_3b067_7 : decode cJ2_charAt_3b067 7 = .ok (.invokestatic 71, 3) := by decide +kernel
theorem dJ2_charAt_3b067_10 : decode cJ2_charAt_3b067 10 = .ok (.ireturn, 1) := by decide +kernel
theorem dJ2_inflate_0e8fd_0 : decode cJ2_inflate_0e8fd 0 = .ok (.iload_n 3, 1) := by decide +kernel
theorem dJ2_inflate_0e8fd_1 : decode cJ2_inflate_0e8fd 1 = .ok (.iload 4, 2) := by decide +kernel
theorem dJ2_inflate_0e8fd_3 : decode cJ2_inflate_0e8fd 3 = .ok (.aload_n 2, 1) := by decide +kernel
theorem dJ2_inflate_0e8fd_4 : decode cJ2_inflate_0e8fd 4 = .ok (.invokestatic 173, 3) := by decide +kernel
theorem dJ2_inflate_0e8fd_7 : decode cJ2_inflate_0e8fd 7 = .ok (.iconst 0, 1) := by decide +kernel
theorem dJ2_inflate_0e8fd_8 : decode cJ2_inflate_0e8fd 8 = .ok (.istore 5, 2) := by decide +kernel
theorem dJ2_inflate_0e8fd_10 : decode cJ2_inflate_0e8fd 10 = .ok (.iload 5, 2) := by decide +kernel
theorem dJ2_inflate_0e8fd_12 : decode cJ2_inflate_0e8fd 12 = .ok (.iload 4, 2) := by decide +kernel
theorem dJ2_inflate_0e8fd_14 : decode cJ2_inflate_0e8fd 14 = .ok (.if_icmp .ge 27, 3) := by decide +kernel
theorem dJ2_inflate_0e8fd_17 : decode cJ2_inflate_0e8fd 17 = .ok (.aload_n 2, 1) := by decide +kernel
theorem dJ2_inflate_0e8fd_18 : decode cJ2_inflate_0e8fd 18 = .ok (.iload_n 3, 1) := by decide +kernel
theorem dJ2_inflate_0e8fd_19 : decode cJ2_inflate_0e8fd 19 = .ok (.iinc 3 1, 3) := by decide +kernel
theorem dJ2_inflate_0e8fd_22 : decode cJ2_inflate_0e8fd 22 = .ok (.aload_n 0, 1) := by decide +kernel
theorem dJ2_inflate_0e8fd_23 : decode cJ2_inflate_0e8fd 23 = .ok (.iload_n 1, 1) := by decide +kernel
theorem dJ2_inflate_0e8fd_24 : decode cJ2_inflate_0e8fd 24 = .ok (.iinc 1 1, 3) := by decide +kernel
theorem dJ2_inflate_0e8fd_27 : decode cJ2_inflate_0e8fd 27 = .ok (.baload, 1) := by decide +kernel
theorem dJ2_inflate_0e8fd_28 : decode cJ2_inflate_0e8fd 28 = .ok (.sipush 255, 3) := by decide +kernel
theorem dJ2_inflate_0e8fd_31 : decode cJ2_inflate_0e8fd 31 = .ok (.iand, 1) := by decide +kernel
theorem dJ2_inflate_0e8fd_32 : decode cJ2_inflate_0e8fd 32 = .ok (.invokestatic 111, 3) := by decide +kernel
theorem dJ2_inflate_0e8fd_35 : decode cJ2_inflate_0e8fd 35 = .ok (.iinc 5 1, 3) := by decide +kernel
theorem dJ2_inflate_0e8fd_38 : decode cJ2_inflate_0e8fd 38 = .ok (.goto (-28), 3) := by decide +kernel
theorem dJ2_inflate_0e8fd_41 : decode cJ2_inflate_0e8fd 41 = .ok (.return_, 1) := by decide +kernel
theorem dJ2_getChars_ba4f3_0 : decode cJ2_getChars_ba4f3 0 = .ok (.iload_n 1, 1) := by decide +kernel
theorem dJ2_getChars_ba4f3_1 : decode cJ2_getChars_ba4f3 1 = .ok (.istore 5, 2) := by decide +kernel
theorem dJ2_getChars_ba4f3_3 : decode cJ2_getChars_ba4f3 3 = .ok (.iload_n 0, 1) := by decide +kernel
theorem dJ2_getChars_ba4f3_4 : decode cJ2_getChars_ba4f3 4 = .ok (.ifCond .ge 7, 3) := by decide +kernel
theorem dJ2_getChars_ba4f3_7 : decode cJ2_getChars_ba4f3 7 = .ok (.iconst 1, 1) := by decide +kernel
theorem dJ2_getChars_ba4f3_8 : decode cJ2_getChars_ba4f3 8 = .ok (.goto 4, 3) := by decide +kernel
theorem dJ2_getChars_ba4f3_11 : decode cJ2_getChars_ba4f3 11 = .ok (.iconst 0, 1) := by decide +kernel
theorem dJ2_getChars_ba4f3_12 : decode cJ2_getChars_ba4f3 12 = .ok (.istore 6, 2) := by decide +kernel
theorem dJ2_getChars_ba4f3_14 : decode cJ2_getChars_ba4f3 14 = .ok (.iload 6, 2) := by decide +kernel
theorem dJ2_getChars_ba4f3_16 : decode cJ2_getChars_ba4f3 16 = .ok (.ifCond .ne 6, 3) := by decide +kernel
theorem dJ2_getChars_ba4f3_19 : decode cJ2_getChars_ba4f3 19 = .ok (.iload_n 0, 1) := by decide +kernel
theorem dJ2_getChars_ba4f3_20 : decode cJ2_getChars_ba4f3 20 = .ok (.ineg, 1) := by decide +kernel
theorem dJ2_getChars_ba4f3_21 : decode cJ2_getChars_ba4f3 21 = .ok (.istore_n 0, 1) := by decide +kernel
theorem dJ2_getChars_ba4f3_22 : decode cJ2_getChars_ba4f3 22 = .ok (.iload_n 0, 1) := by decide +kernel
theorem dJ2_getChars_ba4f3_23 : decode cJ2_getChars_ba4f3 23 = .ok (.bipush (-100), 2) := by decide +kernel
theorem dJ2_getChars_ba4f3_25 : decode cJ2_getChars_ba4f3 25 = .ok (.if_icmp .gt 51, 3) := by decide +kernel
theorem dJ2_getChars_ba4f3_28 : decode cJ2_getChars_ba4f3 28 = .ok (.iload_n 0, 1) := by decide +kernel
theorem dJ2_getChars_ba4f3_29 : decode cJ2_getChars_ba4f3 29 = .ok (.bipush 100, 2) := by decide +kernel
theorem dJ2_getChars_ba4f3_31 : decode cJ2_getChars_ba4f3 31 = .ok (.idiv, 1) := by decide +kernel
theorem dJ2_getChars_ba4f3_32 : decode cJ2_getChars_ba4f3 32 = .ok (.istore_n 3, 1) := by decide +kernel
theorem dJ2_getChars_ba4f3_33 : decode cJ2_getChars_ba4f3 33 = .ok (.iload_n 3, 1) := by decide +kernel
theorem dJ2_getChars_ba4f3_34 : decode cJ2_getChars_ba4f3 34 = .ok (.bipush 100, 2) := by decide +kernel
theorem dJ2_getChars_ba4f3_36 : decode cJ2_getChars_ba4f3 36 = .ok (.imul, 1) := by decide +kernel
theorem dJ2_getChars_ba4f3_37 : decode cJ2_getChars_ba4f3 37 = .ok (.iload_n 0, 1) := by decide +kernel
theorem dJ2_getChars_ba4f3_38 : decode cJ2_getChars_ba4f3 38 = .ok (.isub, 1) := by decide +kernel
theorem dJ2_getChars_ba4f3_39 : decode cJ2_getChars_ba4f3 39 = .ok (.istore 4, 2) := by decide +kernel
theorem dJ2_getChars_ba4f3_41 : decode cJ2_getChars_ba4f3 41 = .ok (.iload_n 3, 1) := by decide +kernel
theorem dJ2_getChars_ba4f3_42 : decode cJ2_getChars_ba4f3 42 = .ok (.istore_n 0, 1) := by decide +kernel
theorem dJ2_getChars_ba4f3_43 : decode cJ2_getChars_ba4f3 43 = .ok (.aload_n 2, 1) := by decide +kernel
theorem dJ2_getChars_ba4f3_44 : decode cJ2_getChars_ba4f3 44 = .ok (.iinc 5 (-1), 3) := by decide +kernel
theorem dJ2_getChars_ba4f3_47 : decode cJ2_getChars_ba4f3 47 = .ok (.iload 5, 2) := by decide +kernel
theorem dJ2_getChars_ba4f3_49 : decode cJ2_getChars_ba4f3 49 = .ok (.getstatic 403, 3) := by decide +kernel
theorem dJ2_getChars_ba4f3_52 : decode cJ2_getChars_ba4f3 52 = .ok (.iload 4, 2) := by decide +kernel
theorem dJ2_getChars_ba4f3_54 : decode cJ2_getChars_ba4f3 54 = .ok (.baload, 1) := by decide +kernel
theorem dJ2_getChars_ba4f3_55 : decode cJ2_getChars_ba4f3 55 = .ok (.invokestatic 111, 3) := by decide +kernel
theorem dJ2_getChars_ba4f3_58 : decode cJ2_getChars_ba4f3 58 = .ok (.aload_n 2, 1) := by decide +kernel
theorem dJ2_getChars_ba4f3_59 : decode cJ2_getChars_ba4f3 59 = .ok (.iinc 5 (-1), 3) := by decide +kernel
theorem dJ2_getChars_ba4f3_62 : decode cJ2_getChars_ba4f3 62 = .ok (.iload 5, 2) := by decide +kernel
theorem dJ2_getChars_ba4f3_64 : decode cJ2_getChars_ba4f3 64 = .ok (.getstatic 407, 3) := by decide +kernel
theorem dJ2_getChars_ba4f3_67 : decode cJ2_getChars_ba4f3 67 = .ok (.iload 4, 2) := by decide +kernel
theorem dJ2_getChars_ba4f3_69 : decode cJ2_getChars_ba4f3 69 = .ok (.baload, 1) := by decide +kernel
theorem dJ2_getChars_ba4f3_70 : decode cJ2_getChars_ba4f3 70 = .ok (.invokestatic 111, 3) := by decide +kernel
theorem dJ2_getChars_ba4f3_73 : decode cJ2_getChars_ba4f3 73 = .ok (.goto (-51), 3) := by decide +kernel
theorem dJ2_getChars_ba4f3_76 : decode cJ2_getChars_ba4f3 76 = .ok (.aload_n 2, 1) := by decide +kernel
theorem dJ2_getChars_ba4f3_77 : decode cJ2_getChars_ba4f3 77 = .ok (.iinc 5 (-1), 3) := by decide +kernel
theorem dJ2_getChars_ba4f3_80 : decode cJ2_getChars_ba4f3 80 = .ok (.iload 5, 2) := by decide +kernel
theorem dJ2_getChars_ba4f3_82 : decode cJ2_getChars_ba4f3 82 = .ok (.getstatic 403, 3) := by decide +kernel
theorem dJ2_getChars_ba4f3_85 : decode cJ2_getChars_ba4f3 85 = .ok (.iload_n 0, 1) := by decide +kernel
theorem dJ2_getChars_ba4f3_86 : decode cJ2_getChars_ba4f3 86 = .ok (.ineg, 1) := by decide +kernel
theorem dJ2_getChars_ba4f3_87 : decode cJ2_getChars_ba4f3 87 = .ok (.baload, 1) := by decide +kernel
theorem dJ2_getChars_ba4f3_88 : decode cJ2_getChars_ba4f3 88 = .ok (.invokestatic 111, 3) := by decide +kernel
theorem dJ2_getChars_ba4f3_91 : decode cJ2_getChars_ba4f3 91 = .ok (.iload_n 0, 1) := by decide +kernel
theorem dJ2_getChars_ba4f3_92 : decode cJ2_getChars_ba4f3 92 = .ok (.bipush (-9), 2) := by decide +kernel
theorem dJ2_getChars_ba4f3_94 : decode cJ2_getChars_ba4f3 94 = .ok (.if_icmp .ge 18, 3) := by decide +kernel
theorem dJ2_getChars_ba4f3_97 : decode cJ2_getChars_ba4f3 97 = .ok (.aload_n 2, 1) := by decide +kernel
theorem dJ2_getChars_ba4f3_98 : decode cJ2_getChars_ba4f3 98 = .ok (.iinc 5 (-1), 3) := by decide +kernel
theorem dJ2_getChars_ba4f3_101 : decode cJ2_getChars_ba4f3 101 = .ok (.iload 5, 2) := by decide +kernel
theorem dJ2_getChars_ba4f3_103 : decode cJ2_getChars_ba4f3 103 = .ok (.getstatic 407, 3) := by decide +kernel
theorem dJ2_getChars_ba4f3_106 : decode cJ2_getChars_ba4f3 106 = .ok (.iload_n 0, 1) := by decide +kernel
theorem dJ2_getChars_ba4f3_107 : decode cJ2_getChars_ba4f3 107 = .ok (.ineg, 1) := by decide +kernel
theorem dJ2_getChars_ba4f3_108 : decode cJ2_getChars_ba4f3 108 = .ok (.baload, 1) := by decide +kernel
theorem dJ2_getChars_ba4f3_109 : decode cJ2_getChars_ba4f3 109 = .ok (.invokestatic 111, 3) := by decide +kernel
theorem dJ2_getChars_ba4f3_112 : decode cJ2_getChars_ba4f3 112 = .ok (.iload 6, 2) := by decide +kernel
theorem dJ2_getChars_ba4f3_114 : decode cJ2_getChars_ba4f3 114 = .ok (.ifCond .eq 14, 3) := by decide +kernel
theorem dJ2_getChars_ba4f3_117 : decode cJ2_getChars_ba4f3 117 = .ok (.aload_n 2, 1) := by decide +kernel
theorem dJ2_getChars_ba4f3_118 : decode cJ2_getChars_ba4f3 118 = .ok (.iinc 5 (-1), 3) := by decide +kernel
theorem dJ2_getChars_ba4f3_121 : decode cJ2_getChars_ba4f3 121 = .ok (.iload 5, 2) := by decide +kernel
theorem dJ2_getChars_ba4f3_123 : decode cJ2_getChars_ba4f3 123 = .ok (.bipush 45, 2) := by decide +kernel
theorem dJ2_getChars_ba4f3_125 : decode cJ2_getChars_ba4f3 125 = .ok (.invokestatic 111, 3) := by decide +kernel
theorem dJ2_getChars_ba4f3_128 : decode cJ2_getChars_ba4f3 128 = .ok (.iload 5, 2) := by decide +kernel
theorem dJ2_getChars_ba4f3_130 : decode cJ2_getChars_ba4f3 130 = .ok (.ireturn, 1) := by decide +kernel
theorem dJ2_checkIndex_2214a_0 : decode cJ2_checkIndex_2214a 0 = .ok (.iload_n 0, 1) := by decide +kernel
theorem dJ2_checkIndex_2214a_1 : decode cJ2_checkIndex_2214a 1 = .ok (.aload_n 1, 1) := by decide +kernel
theorem dJ2_checkIndex_2214a_2 : decode cJ2_checkIndex_2214a 2 = .ok (.invokestatic 48, 3) := by decide +kernel
theorem dJ2_checkIndex_2214a_5 : decode cJ2_checkIndex_2214a 5 = .ok (.invokestatic 414, 3) := by decide +kernel
theorem dJ2_checkIndex_2214a_8 : decode cJ2_checkIndex_2214a 8 = .ok (.return_, 1) := by decide +kernel
theorem dJ2_checkBoundsBeginEnd_d044e_0 : decode cJ2_checkBoundsBeginEnd_d044e 0 = .ok (.iload_n 0, 1) := by decide +kernel
theorem dJ2_checkBoundsBeginEnd_d044e_1 : decode cJ2_checkBoundsBeginEnd_d044e 1 = .ok (.iload_n 1, 1) := by decide +kernel
theorem dJ2_checkBoundsBeginEnd_d044e_2 : decode cJ2_checkBoundsBeginEnd_d044e 2 = .ok (.aload_n 2, 1) := by decide +kernel
theorem dJ2_checkBoundsBeginEnd_d044e_3 : decode cJ2_checkBoundsBeginEnd_d044e 3 = .ok (.invokestatic 48, 3) := by decide +kernel
theorem dJ2_checkBoundsBeginEnd_d044e_6 : decode cJ2_checkBoundsBeginEnd_d044e 6 = .ok (.invokestatic 241, 3) := by decide +kernel
theorem dJ2_checkBoundsBeginEnd_d044e_9 : decode cJ2_checkBoundsBeginEnd_d044e 9 = .ok (.return_, 1) := by decide +kernel
theorem dJ2_checkBoundsOffCount_d044e_0 : decode cJ2_checkBoundsOffCount_d044e 0 = .ok (.iload_n 0, 1) := by decide +kernel
theorem dJ2_checkBoundsOffCount_d044e_1 : decode cJ2_checkBoundsOffCount_d044e 1 = .ok (.iload_n 1, 1) := by decide +kernel
theorem dJ2_checkBoundsOffCount_d044e_2 : decode cJ2_checkBoundsOffCount_d044e 2 = .ok (.aload_n 2, 1) := by decide +kernel
theorem dJ2_checkBoundsOffCount_d044e_3 : decode cJ2_checkBoundsOffCount_d044e 3 = .ok (.invokestatic 48, 3) := by decide +kernel
theorem dJ2_checkBoundsOffCount_d044e_6 : decode cJ2_checkBoundsOffCount_d044e 6 = .ok (.invokestatic 419, 3) := by decide +kernel
theorem dJ2_checkBoundsOffCount_d044e_9 : decode cJ2_checkBoundsOffCount_d044e 9 = .ok (.pop, 1) := by decide +kernel
theorem dJ2_checkBoundsOffCount_d044e_10 : decode cJ2_checkBoundsOffCount_d044e 10 = .ok (.return_, 1) := by decide +kernel
theorem dJ7_fill_53178_0 : decode cJ7_fill_53178 0 = .ok (.iconst 0, 1) := by decide +kernel
theorem dJ7_fill_53178_1 : decode cJ7_fill_53178 1 = .ok (.istore_n 2, 1) := by decide +kernel
theorem dJ7_fill_53178_2 : decode cJ7_fill_53178 2 = .ok (.aload_n 0, 1) := by decide +kernel
theorem dJ7_fill_53178_3 : decode cJ7_fill_53178 3 = .ok (.arraylength, 1) := by decide +kernel
theorem dJ7_fill_53178_4 : decode cJ7_fill_53178 4 = .ok (.istore_n 3, 1) := by decide +kernel
theorem dJ7_fill_53178_5 : decode cJ7_fill_53178 5 = .ok (.iload_n 2, 1) := by decide +kernel
theorem dJ7_fill_53178_6 : decode cJ7_fill_53178 6 = .ok (.iload_n 3, 1) := by decide +kernel
theorem dJ7_fill_53178_7 : decode cJ7_fill_53178 7 = .ok (.if_icmp .ge 13, 3) := by decide +kernel
theorem dJ7_fill_53178_10 : decode cJ7_fill_53178 10 = .ok (.aload_n 0, 1) := by decide +kernel
theorem dJ7_fill_53178_11 : decode cJ7_fill_53178 11 = .ok (.iload_n 2, 1) := by decide +kernel
theorem dJ7_fill_53178_12 : decode cJ7_fill_53178 12 = .ok (.iload_n 1, 1) := by decide +kernel
theorem dJ7_fill_53178_13 : decode cJ7_fill_53178 13 = .ok (.iastore, 1) := by decide +kernel
theorem dJ7_fill_53178_14 : decode cJ7_fill_53178 14 = .ok (.iinc 2 1, 3) := by decide +kernel
theorem dJ7_fill_53178_17 : decode cJ7_fill_53178 17 = .ok (.goto (-12), 3) := by decide +kernel
theorem dJ7_fill_53178_20 : decode cJ7_fill_53178 20 = .ok (.return_, 1) := by decide +kernel
theorem dJ7_copyOf_9075b_0 : decode cJ7_copyOf_9075b 0 = .ok (.iload_n 1, 1) := by decide +kernel
theorem dJ7_copyOf_9075b_1 : decode cJ7_copyOf_9075b 1 = .ok (.aload_n 0, 1) := by decide +kernel
theorem dJ7_copyOf_9075b_2 : decode cJ7_copyOf_9075b 2 = .ok (.arraylength, 1) := by decide +kernel
theorem dJ7_copyOf_9075b_3 : decode cJ7_copyOf_9075b 3 = .ok (.if_icmp .ne 11, 3) := by decide +kernel
theorem dJ7_copyOf_9075b_6 : decode cJ7_copyOf_9075b 6 = .ok (.aload_n 0, 1) := by decide +kernel
theorem dJ7_copyOf_9075b_7 : decode cJ7_copyOf_9075b 7 = .ok (.invokevirtual 310, 3) := by decide +kernel
theorem dJ7_copyOf_9075b_10 : decode cJ7_copyOf_9075b 10 = .ok (.checkcast 311, 3) := by decide +kernel
theorem dJ7_copyOf_9075b_13 : decode cJ7_copyOf_9075b 13 = .ok (.areturn, 1) := by decide +kernel
theorem dJ7_copyOf_9075b_14 : decode cJ7_copyOf_9075b 14 = .ok (.iload_n 1, 1) := by decide +kernel
theorem dJ7_copyOf_9075b_15 : decode cJ7_copyOf_9075b 15 = .ok (.newarray .byte, 2) := by decide +kernel
theorem dJ7_copyOf_9075b_17 : decode cJ7_copyOf_9075b 17 = .ok (.astore_n 2, 1) := by decide +kernel
theorem dJ7_copyOf_9075b_18 : decode cJ7_copyOf_9075b 18 = .ok (.aload_n 0, 1) := by decide +kernel
theorem dJ7_copyOf_9075b_19 : decode cJ7_copyOf_9075b 19 = .ok (.iconst 0, 1) := by decide +kernel
theorem dJ7_copyOf_9075b_20 : decode cJ7_copyOf_9075b 20 = .ok (.aload_n 2, 1) := by decide +kernel
theorem dJ7_copyOf_9075b_21 : decode cJ7_copyOf_9075b 21 = .ok (.iconst 0, 1) := by decide +kernel
theorem dJ7_copyOf_9075b_22 : decode cJ7_copyOf_9075b 22 = .ok (.aload_n 0, 1) := by decide +kernel
theorem dJ7_copyOf_9075b_23 : decode cJ7_copyOf_9075b 23 = .ok (.arraylength, 1) := by decide +kernel
theorem dJ7_copyOf_9075b_24 : decode cJ7_copyOf_9075b 24 = .ok (.iload_n 1, 1) := by decide +kernel
theorem dJ7_copyOf_9075b_25 : decode cJ7_copyOf_9075b 25 = .ok (.invokestatic 304, 3) := by decide +kernel
theorem dJ7_copyOf_9075b_28 : decode cJ7_copyOf_9075b 28 = .ok (.invokestatic 150, 3) := by decide +kernel
theorem dJ7_copyOf_9075b_31 : decode cJ7_copyOf_9075b 31 = .ok (.aload_n 2, 1) := by decide +kernel
theorem dJ7_copyOf_9075b_32 : decode cJ7_copyOf_9075b 32 = .ok (.areturn, 1) := by decide +kernel
theorem dJ7_checkLength_df160_0 : decode cJ7_checkLength_df160 0 = .ok (.iload_n 1, 1) := by decide +kernel
theorem dJ7_checkLength_df160_1 : decode cJ7_checkLength_df160 1 = .ok (.iload_n 0, 1) := by decide +kernel
theorem dJ7_checkLength_df160_2 : decode cJ7_checkLength_df160 2 = .ok (.if_icmp .ge 35, 3) := by decide +kernel
theorem dJ7_checkLength_df160_5 : decode cJ7_checkLength_df160 5 = .ok (.new 43, 3) := by decide +kernel
theorem dJ7_checkLength_df160_8 : decode cJ7_checkLength_df160 8 = .ok (.dup, 1) := by decide +kernel
theorem dJ7_checkLength_df160_9 : decode cJ7_checkLength_df160 9 = .ok (.new 45, 3) := by decide +kernel
theorem dJ7_checkLength_df160_12 : decode cJ7_checkLength_df160 12 = .ok (.dup, 1) := by decide +kernel
theorem dJ7_checkLength_df160_13 : decode cJ7_checkLength_df160 13 = .ok (.invokespecial 47, 3) := by decide +kernel
theorem dJ7_checkLength_df160_16 : decode cJ7_checkLength_df160 16 = .ok (.iload_n 0, 1) := by decide +kernel
theorem dJ7_checkLength_df160_17 : decode cJ7_checkLength_df160 17 = .ok (.invokevirtual 54, 3) := by decide +kernel
theorem dJ7_checkLength_df160_20 : decode cJ7_checkLength_df160 20 = .ok (.ldc_w 337, 3) := by decide +kernel
theorem dJ7_checkLength_df160_23 : decode cJ7_checkLength_df160 23 = .ok (.invokevirtual 50, 3) := by decide +kernel
theorem dJ7_checkLength_df160_26 : decode cJ7_checkLength_df160 26 = .ok (.iload_n 1, 1) := by decide +kernel
theorem dJ7_checkLength_df160_27 : decode cJ7_checkLength_df160 27 = .ok (.invokevirtual 54, 3) := by decide +kernel
theorem dJ7_checkLength_df160_30 : decode cJ7_checkLength_df160 30 = .ok (.invokevirtual 61, 3) := by decide +kernel
theorem dJ7_checkLength_df160_33 : decode cJ7_checkLength_df160 33 = .ok (.invokespecial 65, 3) := by decide +kernel
theorem dJ7_checkLength_df160_36 : decode cJ7_checkLength_df160 36 = .ok (.athrow, 1) := by decide +kernel
theorem dJ7_checkLength_df160_37 : decode cJ7_checkLength_df160 37 = .ok (.return_, 1) := by decide +kernel
theorem dJ7_copyOfRange_39247_0 : decode cJ7_copyOfRange_39247 0 = .ok (.iload_n 1, 1) := by decide +kernel
theorem dJ7_copyOfRange_39247_1 : decode cJ7_copyOfRange_39247 1 = .ok (.ifCond .ne 9, 3) := by decide +kernel
theorem dJ7_copyOfRange_39247_4 : decode cJ7_copyOfRange_39247 4 = .ok (.iload_n 2, 1) := by decide +kernel
theorem dJ7_copyOfRange_39247_5 : decode cJ7_copyOfRange_39247 5 = .ok (.aload_n 0, 1) := by decide +kernel
theorem dJ7_copyOfRange_39247_6 : decode cJ7_copyOfRange_39247 6 = .ok (.arraylength, 1) := by decide +kernel
theorem dJ7_copyOfRange_39247_7 : decode cJ7_copyOfRange_39247 7 = .ok (.if_icmp .eq 10, 3) := by decide +kernel
theorem dJ7_copyOfRange_39247_10 : decode cJ7_copyOfRange_39247 10 = .ok (.aload_n 0, 1) := by decide +kernel
theorem dJ7_copyOfRange_39247_11 : decode cJ7_copyOfRange_39247 11 = .ok (.iload_n 1, 1) := by decide +kernel
theorem dJ7_copyOfRange_39247_12 : decode cJ7_copyOfRange_39247 12 = .ok (.iload_n 2, 1) := by decide +kernel
theorem dJ7_copyOfRange_39247_13 : decode cJ7_copyOfRange_39247 13 = .ok (.invokestatic 339, 3) := by decide +kernel
theorem dJ7_copyOfRange_39247_16 : decode cJ7_copyOfRange_39247 16 = .ok (.areturn, 1) := by decide +kernel
theorem dJ7_copyOfRange_39247_17 : decode cJ7_copyOfRange_39247 17 = .ok (.aload_n 0, 1) := by decide +kernel
theorem dJ7_copyOfRange_39247_18 : decode cJ7_copyOfRange_39247 18 = .ok (.invokevirtual 310, 3) := by decide +kernel
theorem dJ7_copyOfRange_39247_21 : decode cJ7_copyOfRange_39247 21 = .ok (.checkcast 311, 3) := by decide +kernel
theorem dJ7_copyOfRange_39247_24 : decode cJ7_copyOfRange_39247 24 = .ok (.areturn, 1) := by decide +kernel
theorem dJ7_copyOfRangeByte_39247_0 : decode cJ7_copyOfRangeByte_39247 0 = .ok (.iload_n 1, 1) := by decide +kernel
theorem dJ7_copyOfRangeByte_39247_1 : decode cJ7_copyOfRangeByte_39247 1 = .ok (.iload_n 2, 1) := by decide +kernel
theorem dJ7_copyOfRangeByte_39247_2 : decode cJ7_copyOfRangeByte_39247 2 = .ok (.invokestatic 343, 3) := by decide +kernel
theorem dJ7_copyOfRangeByte_39247_5 : decode cJ7_copyOfRangeByte_39247 5 = .ok (.iload_n 2, 1) := by decide +kernel
theorem dJ7_copyOfRangeByte_39247_6 : decode cJ7_copyOfRangeByte_39247 6 = .ok (.iload_n 1, 1) := by decide +kernel
theorem dJ7_copyOfRangeByte_39247_7 : decode cJ7_copyOfRangeByte_39247 7 = .ok (.isub, 1) := by decide +kernel
theorem dJ7_copyOfRangeByte_39247_8 : decode cJ7_copyOfRangeByte_39247 8 = .ok (.istore_n 3, 1) := by decide +kernel
theorem dJ7_copyOfRangeByte_39247_9 : decode cJ7_copyOfRangeByte_39247 9 = .ok (.iload_n 3, 1) := by decide +kernel
theorem dJ7_copyOfRangeByte_39247_10 : decode cJ7_copyOfRangeByte_39247 10 = .ok (.newarray .byte, 2) := by decide +kernel
theorem dJ7_copyOfRangeByte_39247_12 : decode cJ7_copyOfRangeByte_39247 12 = .ok (.astore 4, 2) := by decide +kernel
theorem dJ7_copyOfRangeByte_39247_14 : decode cJ7_copyOfRangeByte_39247 14 = .ok (.aload_n 0, 1) := by decide +kernel
theorem dJ7_copyOfRangeByte_39247_15 : decode cJ7_copyOfRangeByte_39247 15 = .ok (.iload_n 1, 1) := by decide +kernel
theorem dJ7_copyOfRangeByte_39247_16 : decode cJ7_copyOfRangeByte_39247 16 = .ok (.aload 4, 2) := by decide +kernel
theorem dJ7_copyOfRangeByte_39247_18 : decode cJ7_copyOfRangeByte_39247 18 = .ok (.iconst 0, 1) := by decide +kernel
theorem dJ7_copyOfRangeByte_39247_19 : decode cJ7_copyOfRangeByte_39247 19 = .ok (.aload_n 0, 1) := by decide +kernel
theorem dJ7_copyOfRangeByte_39247_20 : decode cJ7_copyOfRangeByte_39247 20 = .ok (.arraylength, 1) := by decide +kernel
theorem dJ7_copyOfRangeByte_39247_21 : decode cJ7_copyOfRangeByte_39247 21 = .ok (.iload_n 1, 1) := by decide +kernel
theorem dJ7_copyOfRangeByte_39247_22 : decode cJ7_copyOfRangeByte_39247 22 = .ok (.isub, 1) := by decide +kernel
theorem dJ7_copyOfRangeByte_39247_23 : decode cJ7_copyOfRangeByte_39247 23 = .ok (.iload_n 3, 1) := by decide +kernel
theorem dJ7_copyOfRangeByte_39247_24 : decode cJ7_copyOfRangeByte_39247 24 = .ok (.invokestatic 304, 3) := by decide +kernel
theorem dJ7_copyOfRangeByte_39247_27 : decode cJ7_copyOfRangeByte_39247 27 = .ok (.invokestatic 150, 3) := by decide +kernel
theorem dJ7_copyOfRangeByte_39247_30 : decode cJ7_copyOfRangeByte_39247 30 = .ok (.aload 4, 2) := by decide +kernel
theorem dJ7_copyOfRangeByte_39247_32 : decode cJ7_copyOfRangeByte_39247 32 = .ok (.areturn, 1) := by decide +kernel
theorem dJ8_newLength_cabcc_0 : decode cJ8_newLength_cabcc 0 = .ok (.iload_n 0, 1) := by decide +kernel
theorem dJ8_newLength_cabcc_1 : decode cJ8_newLength_cabcc 1 = .ok (.iload_n 1, 1) := by decide +kernel
theorem dJ8_newLength_cabcc_2 : decode cJ8_newLength_cabcc 2 = .ok (.iload_n 2, 1) := by decide +kernel
theorem dJ8_newLength_cabcc_3 : decode cJ8_newLength_cabcc 3 = .ok (.invokestatic 194, 3) := by decide +kernel
theorem dJ8_newLength_cabcc_6 : decode cJ8_newLength_cabcc 6 = .ok (.iadd, 1) := by decide +kernel
theorem dJ8_newLength_cabcc_7 : decode cJ8_newLength_cabcc 7 = .ok (.istore_n 3, 1) := by decide +kernel
theorem dJ8_newLength_cabcc_8 : decode cJ8_newLength_cabcc 8 = .ok (.iconst 0, 1) := by decide +kernel
theorem dJ8_newLength_cabcc_9 : decode cJ8_newLength_cabcc 9 = .ok (.iload_n 3, 1) := by decide +kernel
theorem dJ8_newLength_cabcc_10 : decode cJ8_newLength_cabcc 10 = .ok (.if_icmp .ge 11, 3) := by decide +kernel
theorem dJ8_newLength_cabcc_13 : decode cJ8_newLength_cabcc 13 = .ok (.iload_n 3, 1) := by decide +kernel
theorem dJ8_newLength_cabcc_14 : decode cJ8_newLength_cabcc 14 = .ok (.ldc 200, 2) := by decide +kernel
theorem dJ8_newLength_cabcc_16 : decode cJ8_newLength_cabcc 16 = .ok (.if_icmp .gt 5, 3) := by decide +kernel
theorem dJ8_newLength_cabcc_19 : decode cJ8_newLength_cabcc 19 = .ok (.iload_n 3, 1) := by decide +kernel
theorem dJ8_newLength_cabcc_20 : decode cJ8_newLength_cabcc 20 = .ok (.ireturn, 1) := by decide +kernel
theorem dJ8_newLength_cabcc_21 : decode cJ8_newLength_cabcc 21 = .ok (.iload_n 0, 1) := by decide +kernel
theorem dJ8_newLength_cabcc_22 : decode cJ8_newLength_cabcc 22 = .ok (.iload_n 1, 1) := by decide +kernel
theorem dJ8_newLength_cabcc_23 : decode cJ8_newLength_cabcc 23 = .ok (.invokestatic 201, 3) := by decide +kernel
theorem dJ8_newLength_cabcc_26 : decode cJ8_newLength_cabcc 26 = .ok (.ireturn, 1) := by decide +kernel
theorem dJ8_hugeLength_7cf53_0 : decode cJ8_hugeLength_7cf53 0 = .ok (.iload_n 0, 1) := by decide +kernel
theorem dJ8_hugeLength_7cf53_1 : decode cJ8_hugeLength_7cf53 1 = .ok (.iload_n 1, 1) := by decide +kernel
theorem dJ8_hugeLength_7cf53_2 : decode cJ8_hugeLength_7cf53 2 = .ok (.iadd, 1) := by decide +kernel
theorem dJ8_hugeLength_7cf53_3 : decode cJ8_hugeLength_7cf53 3 = .ok (.istore_n 2, 1) := by decide +kernel
theorem dJ8_hugeLength_7cf53_4 : decode cJ8_hugeLength_7cf53 4 = .ok (.iload_n 2, 1) := by decide +kernel
theorem dJ8_hugeLength_7cf53_5 : decode cJ8_hugeLength_7cf53 5 = .ok (.ifCond .ge 44, 3) := by decide +kernel
theorem dJ8_hugeLength_7cf53_8 : decode cJ8_hugeLength_7cf53 8 = .ok (.new 204, 3) := by decide +kernel
theorem dJ8_hugeLength_7cf53_11 : decode cJ8_hugeLength_7cf53 11 = .ok (.dup, 1) := by decide +kernel
theorem dJ8_hugeLength_7cf53_12 : decode cJ8_hugeLength_7cf53 12 = .ok (.new 89, 3) := by decide +kernel
theorem dJ8_hugeLength_7cf53_15 : decode cJ8_hugeLength_7cf53 15 = .ok (.dup, 1) := by decide +kernel
theorem dJ8_hugeLength_7cf53_16 : decode cJ8_hugeLength_7cf53 16 = .ok (.invokespecial 91, 3) := by decide +kernel
theorem dJ8_hugeLength_7cf53_19 : decode cJ8_hugeLength_7cf53 19 = .ok (.ldc 206, 2) := by decide +kernel
theorem dJ8_hugeLength_7cf53_21 : decode cJ8_hugeLength_7cf53 21 = .ok (.invokevirtual 94, 3) := by decide +kernel
theorem dJ8_hugeLength_7cf53_24 : decode cJ8_hugeLength_7cf53 24 = .ok (.iload_n 0, 1) := by decide +kernel
theorem dJ8_hugeLength_7cf53_25 : decode cJ8_hugeLength_7cf53 25 = .ok (.invokevirtual 98, 3) := by decide +kernel
theorem dJ8_hugeLength_7cf53_28 : decode cJ8_hugeLength_7cf53 28 = .ok (.ldc 208, 2) := by decide +kernel
theorem dJ8_hugeLength_7cf53_30 : decode cJ8_hugeLength_7cf53 30 = .ok (.invokevirtual 94, 3) := by decide +kernel
theorem dJ8_hugeLength_7cf53_33 : decode cJ8_hugeLength_7cf53 33 = .ok (.iload_n 1, 1) := by decide +kernel
theorem dJ8_hugeLength_7cf53_34 : decode cJ8_hugeLength_7cf53 34 = .ok (.invokevirtual 98, 3) := by decide +kernel
theorem dJ8_hugeLength_7cf53_37 : decode cJ8_hugeLength_7cf53 37 = .ok (.ldc 210, 2) := by decide +kernel
theorem dJ8_hugeLength_7cf53_39 : decode cJ8_hugeLength_7cf53 39 = .ok (.invokevirtual 94, 3) := by decide +kernel
theorem dJ8_hugeLength_7cf53_42 : decode cJ8_hugeLength_7cf53 42 = .ok (.invokevirtual 101, 3) := by decide +kernel
theorem dJ8_hugeLength_7cf53_45 : decode cJ8_hugeLength_7cf53 45 = .ok (.invokespecial 212, 3) := by decide +kernel
theorem dJ8_hugeLength_7cf53_48 : decode cJ8_hugeLength_7cf53 48 = .ok (.athrow, 1) := by decide +kernel
theorem dJ8_hugeLength_7cf53_49 : decode cJ8_hugeLength_7cf53 49 = .ok (.iload_n 2, 1) := by decide +kernel
theorem dJ8_hugeLength_7cf53_50 : decode cJ8_hugeLength_7cf53 50 = .ok (.ldc 200, 2) := by decide +kernel
theorem dJ8_hugeLength_7cf53_52 : decode cJ8_hugeLength_7cf53 52 = .ok (.if_icmp .gt 6, 3) := by decide +kernel
theorem dJ8_hugeLength_7cf53_55 : decode cJ8_hugeLength_7cf53 55 = .ok (.ldc 200, 2) := by decide +kernel
theorem dJ8_hugeLength_7cf53_57 : decode cJ8_hugeLength_7cf53 57 = .ok (.ireturn, 1) := by decide +kernel
theorem dJ8_hugeLength_7cf53_58 : decode cJ8_hugeLength_7cf53 58 = .ok (.iload_n 2, 1) := by decide +kernel
theorem dJ8_hugeLength_7cf53_59 : decode cJ8_hugeLength_7cf53 59 = .ok (.ireturn, 1) := by decide +kernel
theorem dJ3_checkIndex_8e157_0 : decode cJ3_checkIndex_8e157 0 = .ok (.iload_n 0, 1) := by decide +kernel
theorem dJ3_checkIndex_8e157_1 : decode cJ3_checkIndex_8e157 1 = .ok (.ifCond .lt 8, 3) := by decide +kernel
theorem dJ3_checkIndex_8e157_4 : decode cJ3_checkIndex_8e157 4 = .ok (.iload_n 0, 1) := by decide +kernel
theorem dJ3_checkIndex_8e157_5 : decode cJ3_checkIndex_8e157 5 = .ok (.iload_n 1, 1) := by decide +kernel
theorem dJ3_checkIndex_8e157_6 : decode cJ3_checkIndex_8e157 6 = .ok (.if_icmp .lt 10, 3) := by decide +kernel
theorem dJ3_checkIndex_8e157_9 : decode cJ3_checkIndex_8e157 9 = .ok (.aload_n 2, 1) := by decide +kernel
theorem dJ3_checkIndex_8e157_10 : decode cJ3_checkIndex_8e157 10 = .ok (.iload_n 0, 1) := by decide +kernel
theorem dJ3_checkIndex_8e157_11 : decode cJ3_checkIndex_8e157 11 = .ok (.iload_n 1, 1) := by decide +kernel
theorem dJ3_checkIndex_8e157_12 : decode cJ3_checkIndex_8e157 12 = .ok (.invokestatic 95, 3) := by decide +kernel
theorem dJ3_checkIndex_8e157_15 : decode cJ3_checkIndex_8e157 15 = .ok (.athrow, 1) := by decide +kernel
theorem dJ3_checkIndex_8e157_16 : decode cJ3_checkIndex_8e157 16 = .ok (.iload_n 0, 1) := by decide +kernel
theorem dJ3_checkIndex_8e157_17 : decode cJ3_checkIndex_8e157 17 = .ok (.ireturn, 1) := by decide +kernel
theorem dJ3_checkFromToIndex_8c36e_0 : decode cJ3_checkFromToIndex_8c36e 0 = .ok (.iload_n 0, 1) := by decide +kernel
theorem dJ3_checkFromToIndex_8c36e_1 : decode cJ3_checkFromToIndex_8c36e 1 = .ok (.ifCond .lt 13, 3) := by decide +kernel
theorem dJ3_checkFromToIndex_8c36e_4 : decode cJ3_checkFromToIndex_8c36e 4 = .ok (.iload_n 0, 1) := by decide +kernel
theorem dJ3_checkFromToIndex_8c36e_5 : decode cJ3_checkFromToIndex_8c36e 5 = .ok (.iload_n 1, 1) := by decide +kernel
theorem dJ3_checkFromToIndex_8c36e_6 : decode cJ3_checkFromToIndex_8c36e 6 = .ok (.if_icmp .gt 8, 3) := by decide +kernel
theorem dJ3_checkFromToIndex_8c36e_9 : decode cJ3_checkFromToIndex_8c36e 9 = .ok (.iload_n 1, 1) := by decide +kernel
theorem dJ3_checkFromToIndex_8c36e_10 : decode cJ3_checkFromToIndex_8c36e 10 = .ok (.iload_n 2, 1) := by decide +kernel
theorem dJ3_checkFromToIndex_8c36e_11 : decode cJ3_checkFromToIndex_8c36e 11 = .ok (.if_icmp .le 11, 3) := by decide +kernel
theorem dJ3_checkFromToIndex_8c36e_14 : decode cJ3_checkFromToIndex_8c36e 14 = .ok (.aload_n 3, 1) := by decide +kernel
theorem dJ3_checkFromToIndex_8c36e_15 : decode cJ3_checkFromToIndex_8c36e 15 = .ok (.iload_n 0, 1) := by decide +kernel
theorem dJ3_checkFromToIndex_8c36e_16 : decode cJ3_checkFromToIndex_8c36e 16 = .ok (.iload_n 1, 1) := by decide +kernel
theorem dJ3_checkFromToIndex_8c36e_17 : decode cJ3_checkFromToIndex_8c36e 17 = .ok (.iload_n 2, 1) := by decide +kernel
theorem dJ3_checkFromToIndex_8c36e_18 : decode cJ3_checkFromToIndex_8c36e 18 = .ok (.invokestatic 99, 3) := by decide +kernel
theorem dJ3_checkFromToIndex_8c36e_21 : decode cJ3_checkFromToIndex_8c36e 21 = .ok (.athrow, 1) := by decide +kernel
theorem dJ3_checkFromToIndex_8c36e_22 : decode cJ3_checkFromToIndex_8c36e 22 = .ok (.iload_n 0, 1) := by decide +kernel
theorem dJ3_checkFromToIndex_8c36e_23 : decode cJ3_checkFromToIndex_8c36e 23 = .ok (.ireturn, 1) := by decide +kernel
theorem dJ3_checkFromIndexSize_8c36e_0 : decode cJ3_checkFromIndexSize_8c36e 0 = .ok (.iload_n 2, 1) := by decide +kernel
theorem dJ3_checkFromIndexSize_8c36e_1 : decode cJ3_checkFromIndexSize_8c36e 1 = .ok (.iload_n 0, 1) := by decide +kernel
theorem dJ3_checkFromIndexSize_8c36e_2 : decode cJ3_checkFromIndexSize_8c36e 2 = .ok (.ior, 1) := by decide +kernel
theorem dJ3_checkFromIndexSize_8c36e_3 : decode cJ3_checkFromIndexSize_8c36e 3 = .ok (.iload_n 1, 1) := by decide +kernel
theorem dJ3_checkFromIndexSize_8c36e_4 : decode cJ3_checkFromIndexSize_8c36e 4 = .ok (.ior, 1) := by decide +kernel
theorem dJ3_checkFromIndexSize_8c36e_5 : decode cJ3_checkFromIndexSize_8c36e 5 = .ok (.ifCond .lt 10, 3) := by decide +kernel
theorem dJ3_checkFromIndexSize_8c36e_8 : decode cJ3_checkFromIndexSize_8c36e 8 = .ok (.iload_n 1, 1) := by decide +kernel
theorem dJ3_checkFromIndexSize_8c36e_9 : decode cJ3_checkFromIndexSize_8c36e 9 = .ok (.iload_n 2, 1) := by decide +kernel
theorem dJ3_checkFromIndexSize_8c36e_10 : decode cJ3_checkFromIndexSize_8c36e 10 = .ok (.iload_n 0, 1) := by decide +kernel
theorem dJ3_checkFromIndexSize_8c36e_11 : decode cJ3_checkFromIndexSize_8c36e 11 = .ok (.isub, 1) := by decide +kernel
theorem dJ3_checkFromIndexSize_8c36e_12 : decode cJ3_checkFromIndexSize_8c36e 12 = .ok (.if_icmp .le 11, 3) := by decide +kernel
theorem dJ3_checkFromIndexSize_8c36e_15 : decode cJ3_checkFromIndexSize_8c36e 15 = .ok (.aload_n 3, 1) := by decide +kernel
theorem dJ3_checkFromIndexSize_8c36e_16 : decode cJ3_checkFromIndexSize_8c36e 16 = .ok (.iload_n 0, 1) := by decide +kernel
theorem dJ3_checkFromIndexSize_8c36e_17 : decode cJ3_checkFromIndexSize_8c36e 17 = .ok (.iload_n 1, 1) := by decide +kernel
theorem dJ3_checkFromIndexSize_8c36e_18 : decode cJ3_checkFromIndexSize_8c36e 18 = .ok (.iload_n 2, 1) := by decide +kernel
theorem dJ3_checkFromIndexSize_8c36e_19 : decode cJ3_checkFromIndexSize_8c36e 19 = .ok (.invokestatic 103, 3) := by decide +kernel
theorem dJ3_checkFromIndexSize_8c36e_22 : decode cJ3_checkFromIndexSize_8c36e 22 = .ok (.athrow, 1) := by decide +kernel
theorem dJ3_checkFromIndexSize_8c36e_23 : decode cJ3_checkFromIndexSize_8c36e 23 = .ok (.iload_n 0, 1) := by decide +kernel
theorem dJ3_checkFromIndexSize_8c36e_24 : decode cJ3_checkFromIndexSize_8c36e 24 = .ok (.ireturn, 1) := by decide +kernel
theorem dL_put_0 : decode cL_put 0 = .ok (.aload_n 1, 1) := by decide +kernel
theorem dL_put_1 : decode cL_put 1 = .ok (.iconst 1, 1) := by decide +kernel
theorem dL_put_2 : decode cL_put 2 = .ok (.aload_n 1, 1) := by decide +kernel
theorem dL_put_3 : decode cL_put 3 = .ok (.iconst 0, 1) := by decide +kernel
theorem dL_put_4 : decode cL_put 4 = .ok (.iaload, 1) := by decide +kernel
theorem dL_put_5 : decode cL_put 5 = .ok (.bipush 20, 2) := by decide +kernel
theorem dL_put_7 : decode cL_put 7 = .ok (.irem, 1) := by decide +kernel
theorem dL_put_8 : decode cL_put 8 = .ok (.iconst 4, 1) := by decide +kernel
theorem dL_put_9 : decode cL_put 9 = .ok (.idiv, 1) := by decide +kernel
theorem dL_put_10 : decode cL_put 10 = .ok (.iadd, 1) := by decide +kernel
theorem dL_put_11 : decode cL_put 11 = .ok (.dup2, 1) := by decide +kernel
theorem dL_put_12 : decode cL_put 12 = .ok (.iaload, 1) := by decide +kernel
theorem dL_put_13 : decode cL_put 13 = .ok (.iload_n 2, 1) := by decide +kernel
theorem dL_put_14 : decode cL_put 14 = .ok (.bipush 24, 2) := by decide +kernel
theorem dL_put_16 : decode cL_put 16 = .ok (.bipush 8, 2) := by decide +kernel
theorem dL_put_18 : decode cL_put 18 = .ok (.aload_n 1, 1) := by decide +kernel
theorem dL_put_19 : decode cL_put 19 = .ok (.iconst 0, 1) := by decide +kernel
theorem dL_put_20 : decode cL_put 20 = .ok (.iaload, 1) := by decide +kernel
theorem dL_put_21 : decode cL_put 21 = .ok (.iconst 4, 1) := by decide +kernel
theorem dL_put_22 : decode cL_put 22 = .ok (.irem, 1) := by decide +kernel
theorem dL_put_23 : decode cL_put 23 = .ok (.imul, 1) := by decide +kernel
theorem dL_put_24 : decode cL_put 24 = .ok (.isub, 1) := by decide +kernel
theorem dL_put_25 : decode cL_put 25 = .ok (.ishl, 1) := by decide +kernel
theorem dL_put_26 : decode cL_put 26 = .ok (.ior, 1) := by decide +kernel
theorem dL_put_27 : decode cL_put 27 = .ok (.iastore, 1) := by decide +kernel
theorem dL_put_28 : decode cL_put 28 = .ok (.aload_n 1, 1) := by decide +kernel
theorem dL_put_29 : decode cL_put 29 = .ok (.iconst 0, 1) := by decide +kernel
theorem dL_put_30 : decode cL_put 30 = .ok (.dup2, 1) := by decide +kernel
theorem dL_put_31 : decode cL_put 31 = .ok (.iaload, 1) := by decide +kernel
theorem dL_put_32 : decode cL_put 32 = .ok (.iconst 1, 1) := by decide +kernel
theorem dL_put_33 : decode cL_put 33 = .ok (.iadd, 1) := by decide +kernel
theorem dL_put_34 : decode cL_put 34 = .ok (.iastore, 1) := by decide +kernel
theorem dL_put_35 : decode cL_put 35 = .ok (.aload_n 1, 1) := by decide +kernel
theorem dL_put_36 : decode cL_put 36 = .ok (.iconst 0, 1) := by decide +kernel
theorem dL_put_37 : decode cL_put 37 = .ok (.iaload, 1) := by decide +kernel
theorem dL_put_38 : decode cL_put 38 = .ok (.bipush 20, 2) := by decide +kernel
theorem dL_put_40 : decode cL_put 40 = .ok (.irem, 1) := by decide +kernel
theorem dL_put_41 : decode cL_put 41 = .ok (.ifCond .ne 8, 3) := by decide +kernel
theorem dL_put_44 : decode cL_put 44 = .ok (.aload_n 0, 1) := by decide +kernel
theorem dL_put_45 : decode cL_put 45 = .ok (.aload_n 1, 1) := by decide +kernel
theorem dL_put_46 : decode cL_put 46 = .ok (.invokestatic 7, 3) := by decide +kernel
theorem dL_put_49 : decode cL_put 49 = .ok (.return_, 1) := by decide +kernel
theorem dL_flush_0 : decode cL_flush 0 = .ok (.aload_n 0, 1) := by decide +kernel
theorem dL_flush_1 : decode cL_flush 1 = .ok (.aload_n 1, 1) := by decide +kernel
theorem dL_flush_2 : decode cL_flush 2 = .ok (.iconst 1, 1) := by decide +kernel
theorem dL_flush_3 : decode cL_flush 3 = .ok (.iaload, 1) := by decide +kernel
theorem dL_flush_4 : decode cL_flush 4 = .ok (.aload_n 1, 1) := by decide +kernel
theorem dL_flush_5 : decode cL_flush 5 = .ok (.iconst 2, 1) := by decide +kernel
theorem dL_flush_6 : decode cL_flush 6 = .ok (.iaload, 1) := by decide +kernel
theorem dL_flush_7 : decode cL_flush 7 = .ok (.aload_n 1, 1) := by decide +kernel
theorem dL_flush_8 : decode cL_flush 8 = .ok (.iconst 3, 1) := by decide +kernel
theorem dL_flush_9 : decode cL_flush 9 = .ok (.iaload, 1) := by decide +kernel
theorem dL_flush_10 : decode cL_flush 10 = .ok (.aload_n 1, 1) := by decide +kernel
theorem dL_flush_11 : decode cL_flush 11 = .ok (.iconst 4, 1) := by decide +kernel
theorem dL_flush_12 : decode cL_flush 12 = .ok (.iaload, 1) := by decide +kernel
theorem dL_flush_13 : decode cL_flush 13 = .ok (.aload_n 1, 1) := by decide +kernel
theorem dL_flush_14 : decode cL_flush 14 = .ok (.iconst 5, 1) := by decide +kernel
theorem dL_flush_15 : decode cL_flush 15 = .ok (.iaload, 1) := by decide +kernel
theorem dL_flush_16 : decode cL_flush 16 = .ok (.invokevirtual 13, 3) := by decide +kernel
theorem dL_flush_19 : decode cL_flush 19 = .ok (.pop, 1) := by decide +kernel
theorem dL_flush_20 : decode cL_flush 20 = .ok (.iconst 1, 1) := by decide +kernel
theorem dL_flush_21 : decode cL_flush 21 = .ok (.istore_n 2, 1) := by decide +kernel
theorem dL_flush_22 : decode cL_flush 22 = .ok (.iload_n 2, 1) := by decide +kernel
theorem dL_flush_23 : decode cL_flush 23 = .ok (.bipush 6, 2) := by decide +kernel
theorem dL_flush_25 : decode cL_flush 25 = .ok (.if_icmp .ge 13, 3) := by decide +kernel
theorem dL_flush_28 : decode cL_flush 28 = .ok (.aload_n 1, 1) := by decide +kernel
theorem dL_flush_29 : decode cL_flush 29 = .ok (.iload_n 2, 1) := by decide +kernel
theorem dL_flush_30 : decode cL_flush 30 = .ok (.iconst 0, 1) := by decide +kernel
theorem dL_flush_31 : decode cL_flush 31 = .ok (.iastore, 1) := by decide +kernel
theorem dL_flush_32 : decode cL_flush 32 = .ok (.iinc 2 1, 3) := by decide +kernel
theorem dL_flush_35 : decode cL_flush 35 = .ok (.goto (-13), 3) := by decide +kernel
theorem dL_flush_38 : decode cL_flush 38 = .ok (.return_, 1) := by decide +kernel
theorem dL_loadText_0 : decode cL_loadText 0 = .ok (.aload_n 1, 1) := by decide +kernel
theorem dL_loadText_1 : decode cL_loadText 1 = .ok (.iconst 0, 1) := by decide +kernel
theorem dL_loadText_2 : decode cL_loadText 2 = .ok (.iaload, 1) := by decide +kernel
theorem dL_loadText_3 : decode cL_loadText 3 = .ok (.istore_n 2, 1) := by decide +kernel
theorem dL_loadText_4 : decode cL_loadText 4 = .ok (.iload_n 2, 1) := by decide +kernel
theorem dL_loadText_5 : decode cL_loadText 5 = .ok (.bipush 20, 2) := by decide +kernel
theorem dL_loadText_7 : decode cL_loadText 7 = .ok (.irem, 1) := by decide +kernel
theorem dL_loadText_8 : decode cL_loadText 8 = .ok (.ifCond .le 8, 3) := by decide +kernel
theorem dL_loadText_11 : decode cL_loadText 11 = .ok (.aload_n 0, 1) := by decide +kernel
theorem dL_loadText_12 : decode cL_loadText 12 = .ok (.aload_n 1, 1) := by decide +kernel
theorem dL_loadText_13 : decode cL_loadText 13 = .ok (.invokestatic 7, 3) := by decide +kernel
theorem dL_loadText_16 : decode cL_loadText 16 = .ok (.aload_n 1, 1) := by decide +kernel
theorem dL_loadText_17 : decode cL_loadText 17 = .ok (.iconst 0, 1) := by decide +kernel
theorem dL_loadText_18 : decode cL_loadText 18 = .ok (.iconst 0, 1) := by decide +kernel
theorem dL_loadText_19 : decode cL_loadText 19 = .ok (.iastore, 1) := by decide +kernel
theorem dL_loadText_20 : decode cL_loadText 20 = .ok (.aload_n 0, 1) := by decide +kernel
theorem dL_loadText_21 : decode cL_loadText 21 = .ok (.iload_n 2, 1) := by decide +kernel
theorem dL_loadText_22 : decode cL_loadText 22 = .ok (.invokestatic 19, 3) := by decide +kernel
theorem dL_loadText_25 : decode cL_loadText 25 = .ok (.ireturn, 1) := by decide +kernel
theorem dL_write_0 : decode cL_write 0 = .ok (.iconst 0, 1) := by decide +kernel
theorem dL_write_1 : decode cL_write 1 = .ok (.istore_n 3, 1) := by decide +kernel
theorem dL_write_2 : decode cL_write 2 = .ok (.iload_n 3, 1) := by decide +kernel
theorem dL_write_3 : decode cL_write 3 = .ok (.aload_n 2, 1) := by decide +kernel
theorem dL_write_4 : decode cL_write 4 = .ok (.invokevirtual 23, 3) := by decide +kernel
theorem dL_write_7 : decode cL_write 7 = .ok (.if_icmp .ge 19, 3) := by decide +kernel
theorem dL_write_10 : decode cL_write 10 = .ok (.aload_n 0, 1) := by decide +kernel
theorem dL_write_11 : decode cL_write 11 = .ok (.aload_n 1, 1) := by decide +kernel
theorem dL_write_12 : decode cL_write 12 = .ok (.aload_n 2, 1) := by decide +kernel
theorem dL_write_13 : decode cL_write 13 = .ok (.iload_n 3, 1) := by decide +kernel
theorem dL_write_14 : decode cL_write 14 = .ok (.invokevirtual 29, 3) := by decide +kernel
theorem dL_write_17 : decode cL_write 17 = .ok (.invokestatic 33, 3) := by decide +kernel
theorem dL_write_20 : decode cL_write 20 = .ok (.iinc 3 1, 3) := by decide +kernel
theorem dL_write_23 : decode cL_write 23 = .ok (.goto (-21), 3) := by decide +kernel
theorem dL_write_26 : decode cL_write 26 = .ok (.return_, 1) := by decide +kernel
theorem dL_writeNumber_0 : decode cL_writeNumber 0 = .ok (.iconst 1, 1) := by decide +kernel
theorem dL_writeNumber_1 : decode cL_writeNumber 1 = .ok (.istore_n 3, 1) := by decide +kernel
theorem dL_writeNumber_2 : decode cL_writeNumber 2 = .ok (.iload_n 3, 1) := by decide +kernel
theorem dL_writeNumber_3 : decode cL_writeNumber 3 = .ok (.iload_n 2, 1) := by decide +kernel
theorem dL_writeNumber_4 : decode cL_writeNumber 4 = .ok (.bipush 10, 2) := by decide +kernel
theorem dL_writeNumber_6 : decode cL_writeNumber 6 = .ok (.idiv, 1) := by decide +kernel
theorem dL_writeNumber_7 : decode cL_writeNumber 7 = .ok (.if_icmp .gt 11, 3) := by decide +kernel
theorem dL_writeNumber_10 : decode cL_writeNumber 10 = .ok (.iload_n 3, 1) := by decide +kernel
theorem dL_writeNumber_11 : decode cL_writeNumber 11 = .ok (.bipush 10, 2) := by decide +kernel
theorem dL_writeNumber_13 : decode cL_writeNumber 13 = .ok (.imul, 1) := by decide +kernel
theorem dL_writeNumber_14 : decode cL_writeNumber 14 = .ok (.istore_n 3, 1) := by decide +kernel
theorem dL_writeNumber_15 : decode cL_writeNumber 15 = .ok (.goto (-13), 3) := by decide +kernel
theorem dL_writeNumber_18 : decode cL_writeNumber 18 = .ok (.iload_n 3, 1) := by decide +kernel
theorem dL_writeNumber_19 : decode cL_writeNumber 19 = .ok (.ifCond .le 25, 3) := by decide +kernel
theorem dL_writeNumber_22 : decode cL_writeNumber 22 = .ok (.aload_n 0, 1) := by decide +kernel
theorem dL_writeNumber_23 : decode cL_writeNumber 23 = .ok (.aload_n 1, 1) := by decide +kernel
theorem dL_writeNumber_24 : decode cL_writeNumber 24 = .ok (.bipush 48, 2) := by decide +kernel
theorem dL_writeNumber_26 : decode cL_writeNumber 26 = .ok (.iload_n 2, 1) := by decide +kernel
theorem dL_writeNumber_27 : decode cL_writeNumber 27 = .ok (.iload_n 3, 1) := by decide +kernel
theorem dL_writeNumber_28 : decode cL_writeNumber 28 = .ok (.idiv, 1) := by decide +kernel
theorem dL_writeNumber_29 : decode cL_writeNumber 29 = .ok (.bipush 10, 2) := by decide +kernel
theorem dL_writeNumber_31 : decode cL_writeNumber 31 = .ok (.irem, 1) := by decide +kernel
theorem dL_writeNumber_32 : decode cL_writeNumber 32 = .ok (.iadd, 1) := by decide +kernel
theorem dL_writeNumber_33 : decode cL_writeNumber 33 = .ok (.invokestatic 33, 3) := by decide +kernel
theorem dL_writeNumber_36 : decode cL_writeNumber 36 = .ok (.iload_n 3, 1) := by decide +kernel
theorem dL_writeNumber_37 : decode cL_writeNumber 37 = .ok (.bipush 10, 2) := by decide +kernel
theorem dL_writeNumber_39 : decode cL_writeNumber 39 = .ok (.idiv, 1) := by decide +kernel
theorem dL_writeNumber_40 : decode cL_writeNumber 40 = .ok (.istore_n 3, 1) := by decide +kernel
theorem dL_writeNumber_41 : decode cL_writeNumber 41 = .ok (.goto (-23), 3) := by decide +kernel
theorem dL_writeNumber_44 : decode cL_writeNumber 44 = .ok (.return_, 1) := by decide +kernel
theorem dL_load_0 : decode cL_load 0 = .ok (.aload_n 0, 1) := by decide +kernel
theorem dL_load_1 : decode cL_load 1 = .ok (.iload_n 1, 1) := by decide +kernel
theorem dL_load_2 : decode cL_load 2 = .ok (.invokevirtual 37, 3) := by decide +kernel
theorem dL_load_5 : decode cL_load 5 = .ok (.ireturn, 1) := by decide +kernel
theorem dL_load_6 : decode cL_load 6 = .ok (.astore_n 2, 1) := by decide +kernel
theorem dL_load_7 : decode cL_load 7 = .ok (.ldc 42, 2) := by decide +kernel
theorem dL_load_9 : decode cL_load 9 = .ok (.ireturn, 1) := by decide +kernel
theorem dL_state_0 : decode cL_state 0 = .ok (.aload_n 0, 1) := by decide +kernel
theorem dL_state_1 : decode cL_state 1 = .ok (.iload_n 1, 1) := by decide +kernel
theorem dL_state_2 : decode cL_state 2 = .ok (.invokevirtual 43, 3) := by decide +kernel
theorem dL_state_5 : decode cL_state 5 = .ok (.ireturn, 1) := by decide +kernel
theorem dL_state_6 : decode cL_state 6 = .ok (.astore_n 2, 1) := by decide +kernel
theorem dL_state_7 : decode cL_state 7 = .ok (.ldc 42, 2) := by decide +kernel
theorem dL_state_9 : decode cL_state 9 = .ok (.ireturn, 1) := by decide +kernel
theorem dL_letter_0 : decode cL_letter 0 = .ok (.aload_n 0, 1) := by decide +kernel
theorem dL_letter_1 : decode cL_letter 1 = .ok (.iload_n 1, 1) := by decide +kernel
theorem dL_letter_2 : decode cL_letter 2 = .ok (.iload_n 2, 1) := by decide +kernel
theorem dL_letter_3 : decode cL_letter 3 = .ok (.invokevirtual 46, 3) := by decide +kernel
theorem dL_letter_6 : decode cL_letter 6 = .ok (.ireturn, 1) := by decide +kernel
theorem dL_letter_7 : decode cL_letter 7 = .ok (.astore_n 3, 1) := by decide +kernel
theorem dL_letter_8 : decode cL_letter 8 = .ok (.ldc 52, 2) := by decide +kernel
theorem dL_letter_10 : decode cL_letter 10 = .ok (.ireturn, 1) := by decide +kernel
theorem dL_place_0 : decode cL_place 0 = .ok (.aload_n 0, 1) := by decide +kernel
theorem dL_place_1 : decode cL_place 1 = .ok (.iload_n 1, 1) := by decide +kernel
theorem dL_place_2 : decode cL_place 2 = .ok (.iload_n 2, 1) := by decide +kernel
theorem dL_place_3 : decode cL_place 3 = .ok (.iload_n 3, 1) := by decide +kernel
theorem dL_place_4 : decode cL_place 4 = .ok (.invokevirtual 53, 3) := by decide +kernel
theorem dL_place_7 : decode cL_place 7 = .ok (.ireturn, 1) := by decide +kernel
theorem dL_place_8 : decode cL_place 8 = .ok (.astore 4, 2) := by decide +kernel
theorem dL_place_10 : decode cL_place 10 = .ok (.ldc 52, 2) := by decide +kernel
theorem dL_place_12 : decode cL_place 12 = .ok (.ireturn, 1) := by decide +kernel
theorem dL_place_13 : decode cL_place 13 = .ok (.astore 4, 2) := by decide +kernel
theorem dL_place_15 : decode cL_place 15 = .ok (.ldc 42, 2) := by decide +kernel
theorem dL_place_17 : decode cL_place 17 = .ok (.ireturn, 1) := by decide +kernel
theorem dL_stock_0 : decode cL_stock 0 = .ok (.aload_n 0, 1) := by decide +kernel
theorem dL_stock_1 : decode cL_stock 1 = .ok (.iload_n 1, 1) := by decide +kernel
theorem dL_stock_2 : decode cL_stock 2 = .ok (.iload_n 2, 1) := by decide +kernel
theorem dL_stock_3 : decode cL_stock 3 = .ok (.invokevirtual 57, 3) := by decide +kernel
theorem dL_stock_6 : decode cL_stock 6 = .ok (.ireturn, 1) := by decide +kernel
theorem dL_stock_7 : decode cL_stock 7 = .ok (.astore_n 3, 1) := by decide +kernel
theorem dL_stock_8 : decode cL_stock 8 = .ok (.ldc 42, 2) := by decide +kernel
theorem dL_stock_10 : decode cL_stock 10 = .ok (.ireturn, 1) := by decide +kernel
theorem dL_message_0 : decode cL_message 0 = .ok (.aload_n 0, 1) := by decide +kernel
theorem dL_message_1 : decode cL_message 1 = .ok (.iload_n 1, 1) := by decide +kernel
theorem dL_message_2 : decode cL_message 2 = .ok (.invokevirtual 60, 3) := by decide +kernel
theorem dL_message_5 : decode cL_message 5 = .ok (.ireturn, 1) := by decide +kernel
theorem dL_message_6 : decode cL_message 6 = .ok (.astore_n 2, 1) := by decide +kernel
theorem dL_message_7 : decode cL_message 7 = .ok (.ldc 65, 2) := by decide +kernel
theorem dL_message_9 : decode cL_message 9 = .ok (.ireturn, 1) := by decide +kernel
theorem dL_cutOf_0 : decode cL_cutOf 0 = .ok (.aload_n 0, 1) := by decide +kernel
theorem dL_cutOf_1 : decode cL_cutOf 1 = .ok (.iload_n 1, 1) := by decide +kernel
theorem dL_cutOf_2 : decode cL_cutOf 2 = .ok (.iload_n 2, 1) := by decide +kernel
theorem dL_cutOf_3 : decode cL_cutOf 3 = .ok (.invokevirtual 66, 3) := by decide +kernel
theorem dL_cutOf_6 : decode cL_cutOf 6 = .ok (.ireturn, 1) := by decide +kernel
theorem dL_cutOf_7 : decode cL_cutOf 7 = .ok (.astore_n 3, 1) := by decide +kernel
theorem dL_cutOf_8 : decode cL_cutOf 8 = .ok (.ldc 65, 2) := by decide +kernel
theorem dL_cutOf_10 : decode cL_cutOf 10 = .ok (.ireturn, 1) := by decide +kernel
theorem dL_cutOf_11 : decode cL_cutOf 11 = .ok (.astore_n 3, 1) := by decide +kernel
theorem dL_cutOf_12 : decode cL_cutOf 12 = .ok (.ldc 42, 2) := by decide +kernel
theorem dL_cutOf_14 : decode cL_cutOf 14 = .ok (.ireturn, 1) := by decide +kernel
theorem dL_longest_0 : decode cL_longest 0 = .ok (.aload_n 0, 1) := by decide +kernel
theorem dL_longest_1 : decode cL_longest 1 = .ok (.iload_n 1, 1) := by decide +kernel
theorem dL_longest_2 : decode cL_longest 2 = .ok (.invokevirtual 69, 3) := by decide +kernel
theorem dL_longest_5 : decode cL_longest 5 = .ok (.ireturn, 1) := by decide +kernel
theorem dL_longest_6 : decode cL_longest 6 = .ok (.astore_n 2, 1) := by decide +kernel
theorem dL_longest_7 : decode cL_longest 7 = .ok (.ldc 65, 2) := by decide +kernel
theorem dL_longest_9 : decode cL_longest 9 = .ok (.ireturn, 1) := by decide +kernel
theorem dL_tell_0 : decode cL_tell 0 = .ok (.aload_n 0, 1) := by decide +kernel
theorem dL_tell_1 : decode cL_tell 1 = .ok (.iload_n 1, 1) := by decide +kernel
theorem dL_tell_2 : decode cL_tell 2 = .ok (.invokevirtual 72, 3) := by decide +kernel
theorem dL_tell_5 : decode cL_tell 5 = .ok (.ireturn, 1) := by decide +kernel
theorem dL_tell_6 : decode cL_tell 6 = .ok (.astore_n 2, 1) := by decide +kernel
theorem dL_tell_7 : decode cL_tell 7 = .ok (.ldc 42, 2) := by decide +kernel
theorem dL_tell_9 : decode cL_tell 9 = .ok (.ireturn, 1) := by decide +kernel
theorem dL_cut_0 : decode cL_cut 0 = .ok (.aload_n 0, 1) := by decide +kernel
theorem dL_cut_1 : decode cL_cut 1 = .ok (.invokevirtual 75, 3) := by decide +kernel
theorem dL_cut_4 : decode cL_cut 4 = .ok (.ireturn, 1) := by decide +kernel
theorem dL_cut_5 : decode cL_cut 5 = .ok (.astore_n 1, 1) := by decide +kernel
theorem dL_cut_6 : decode cL_cut 6 = .ok (.ldc 80, 2) := by decide +kernel
theorem dL_cut_8 : decode cL_cut 8 = .ok (.ireturn, 1) := by decide +kernel
theorem dL_snip_0 : decode cL_snip 0 = .ok (.aload_n 0, 1) := by decide +kernel
theorem dL_snip_1 : decode cL_snip 1 = .ok (.iload_n 1, 1) := by decide +kernel
theorem dL_snip_2 : decode cL_snip 2 = .ok (.iload_n 2, 1) := by decide +kernel
theorem dL_snip_3 : decode cL_snip 3 = .ok (.iload_n 3, 1) := by decide +kernel
theorem dL_snip_4 : decode cL_snip 4 = .ok (.invokevirtual 81, 3) := by decide +kernel
theorem dL_snip_7 : decode cL_snip 7 = .ok (.ireturn, 1) := by decide +kernel
theorem dL_snip_8 : decode cL_snip 8 = .ok (.astore 4, 2) := by decide +kernel
theorem dL_snip_10 : decode cL_snip 10 = .ok (.ldc 52, 2) := by decide +kernel
theorem dL_snip_12 : decode cL_snip 12 = .ok (.ireturn, 1) := by decide +kernel
theorem dL_snip_13 : decode cL_snip 13 = .ok (.astore 4, 2) := by decide +kernel
theorem dL_snip_15 : decode cL_snip 15 = .ok (.ldc 42, 2) := by decide +kernel
theorem dL_snip_17 : decode cL_snip 17 = .ok (.ireturn, 1) := by decide +kernel
theorem dL_snip_18 : decode cL_snip 18 = .ok (.astore 4, 2) := by decide +kernel
theorem dL_snip_20 : decode cL_snip 20 = .ok (.ldc 80, 2) := by decide +kernel
theorem dL_snip_22 : decode cL_snip 22 = .ok (.ireturn, 1) := by decide +kernel
theorem dL_least_0 : decode cL_least 0 = .ok (.aload_n 0, 1) := by decide +kernel
theorem dL_least_1 : decode cL_least 1 = .ok (.iload_n 1, 1) := by decide +kernel
theorem dL_least_2 : decode cL_least 2 = .ok (.invokevirtual 84, 3) := by decide +kernel
theorem dL_least_5 : decode cL_least 5 = .ok (.ireturn, 1) := by decide +kernel
theorem dL_least_6 : decode cL_least 6 = .ok (.astore_n 2, 1) := by decide +kernel
theorem dL_least_7 : decode cL_least 7 = .ok (.ldc 42, 2) := by decide +kernel
theorem dL_least_9 : decode cL_least 9 = .ok (.ireturn, 1) := by decide +kernel
theorem dL_mend_0 : decode cL_mend 0 = .ok (.aload_n 0, 1) := by decide +kernel
theorem dL_mend_1 : decode cL_mend 1 = .ok (.iload_n 1, 1) := by decide +kernel
theorem dL_mend_2 : decode cL_mend 2 = .ok (.invokevirtual 87, 3) := by decide +kernel
theorem dL_mend_5 : decode cL_mend 5 = .ok (.ireturn, 1) := by decide +kernel
theorem dL_mend_6 : decode cL_mend 6 = .ok (.astore_n 2, 1) := by decide +kernel
theorem dL_mend_7 : decode cL_mend 7 = .ok (.ldc 52, 2) := by decide +kernel
theorem dL_mend_9 : decode cL_mend 9 = .ok (.ireturn, 1) := by decide +kernel
theorem dL_mend_10 : decode cL_mend 10 = .ok (.astore_n 2, 1) := by decide +kernel
theorem dL_mend_11 : decode cL_mend 11 = .ok (.ldc 80, 2) := by decide +kernel
theorem dL_mend_13 : decode cL_mend 13 = .ok (.ireturn, 1) := by decide +kernel
theorem dL_tellText_0 : decode cL_tellText 0 = .ok (.aload_n 0, 1) := by decide +kernel
theorem dL_tellText_1 : decode cL_tellText 1 = .ok (.aload_n 1, 1) := by decide +kernel
theorem dL_tellText_2 : decode cL_tellText 2 = .ok (.aload_n 2, 1) := by decide +kernel
theorem dL_tellText_3 : decode cL_tellText 3 = .ok (.invokestatic 90, 3) := by decide +kernel
theorem dL_tellText_6 : decode cL_tellText 6 = .ok (.aload_n 2, 1) := by decide +kernel
theorem dL_tellText_7 : decode cL_tellText 7 = .ok (.invokevirtual 23, 3) := by decide +kernel
theorem dL_tellText_10 : decode cL_tellText 10 = .ok (.bipush 20, 2) := by decide +kernel
theorem dL_tellText_12 : decode cL_tellText 12 = .ok (.irem, 1) := by decide +kernel
theorem dL_tellText_13 : decode cL_tellText 13 = .ok (.ifCond .le 8, 3) := by decide +kernel
theorem dL_tellText_16 : decode cL_tellText 16 = .ok (.aload_n 0, 1) := by decide +kernel
theorem dL_tellText_17 : decode cL_tellText 17 = .ok (.aload_n 1, 1) := by decide +kernel
theorem dL_tellText_18 : decode cL_tellText 18 = .ok (.invokestatic 7, 3) := by decide +kernel
theorem dL_tellText_21 : decode cL_tellText 21 = .ok (.aload_n 1, 1) := by decide +kernel
theorem dL_tellText_22 : decode cL_tellText 22 = .ok (.iconst 0, 1) := by decide +kernel
theorem dL_tellText_23 : decode cL_tellText 23 = .ok (.iconst 0, 1) := by decide +kernel
theorem dL_tellText_24 : decode cL_tellText 24 = .ok (.iastore, 1) := by decide +kernel
theorem dL_tellText_25 : decode cL_tellText 25 = .ok (.aload_n 0, 1) := by decide +kernel
theorem dL_tellText_26 : decode cL_tellText 26 = .ok (.aload_n 2, 1) := by decide +kernel
theorem dL_tellText_27 : decode cL_tellText 27 = .ok (.invokevirtual 23, 3) := by decide +kernel
theorem dL_tellText_30 : decode cL_tellText 30 = .ok (.invokestatic 94, 3) := by decide +kernel
theorem dL_tellText_33 : decode cL_tellText 33 = .ok (.ireturn, 1) := by decide +kernel
theorem dL_randomWord_0 : decode cL_randomWord 0 = .ok (.ldc 96, 2) := by decide +kernel
theorem dL_randomWord_2 : decode cL_randomWord 2 = .ok (.astore_n 1, 1) := by decide +kernel
theorem dL_randomWord_3 : decode cL_randomWord 3 = .ok (.iconst 1, 1) := by decide +kernel
theorem dL_randomWord_4 : decode cL_randomWord 4 = .ok (.aload_n 0, 1) := by decide +kernel
theorem dL_randomWord_5 : decode cL_randomWord 5 = .ok (.aload_n 0, 1) := by decide +kernel
theorem dL_randomWord_6 : decode cL_randomWord 6 = .ok (.iconst 4, 1) := by decide +kernel
theorem dL_randomWord_7 : decode cL_randomWord 7 = .ok (.invokevirtual 98, 3) := by decide +kernel
theorem dL_randomWord_10 : decode cL_randomWord 10 = .ok (.ifCond .ne 8, 3) := by decide +kernel
theorem dL_randomWord_13 : decode cL_randomWord 13 = .ok (.bipush 9, 2) := by decide +kernel
theorem dL_randomWord_15 : decode cL_randomWord 15 = .ok (.goto 4, 3) := by decide +kernel
theorem dL_randomWord_18 : decode cL_randomWord 18 = .ok (.iconst 5, 1) := by decide +kernel
theorem dL_randomWord_19 : decode cL_randomWord 19 = .ok (.invokevirtual 98, 3) := by decide +kernel
theorem dL_randomWord_22 : decode cL_randomWord 22 = .ok (.iadd, 1) := by decide +kernel
theorem dL_randomWord_23 : decode cL_randomWord 23 = .ok (.istore_n 2, 1) := by decide +kernel
theorem dL_randomWord_24 : decode cL_randomWord 24 = .ok (.iload_n 2, 1) := by decide +kernel
theorem dL_randomWord_25 : decode cL_randomWord 25 = .ok (.ifCond .le 36, 3) := by decide +kernel
theorem dL_randomWord_28 : decode cL_randomWord 28 = .ok (.new 103, 3) := by decide +kernel
theorem dL_randomWord_31 : decode cL_randomWord 31 = .ok (.dup, 1) := by decide +kernel
theorem dL_randomWord_32 : decode cL_randomWord 32 = .ok (.invokespecial 105, 3) := by decide +kernel
theorem dL_randomWord_35 : decode cL_randomWord 35 = .ok (.aload_n 1, 1) := by decide +kernel
theorem dL_randomWord_36 : decode cL_randomWord 36 = .ok (.invokevirtual 106, 3) := by decide +kernel
theorem dL_randomWord_39 : decode cL_randomWord 39 = .ok (.bipush 97, 2) := by decide +kernel
theorem dL_randomWord_41 : decode cL_randomWord 41 = .ok (.aload_n 0, 1) := by decide +kernel
theorem dL_randomWord_42 : decode cL_randomWord 42 = .ok (.iconst 4, 1) := by decide +kernel
theorem dL_randomWord_43 : decode cL_randomWord 43 = .ok (.invokevirtual 98, 3) := by decide +kernel
theorem dL_randomWord_46 : decode cL_randomWord 46 = .ok (.iadd, 1) := by decide +kernel
theorem dL_randomWord_47 : decode cL_randomWord 47 = .ok (.i2c, 1) := by decide +kernel
theorem dL_randomWord_48 : decode cL_randomWord 48 = .ok (.invokevirtual 109, 3) := by decide +kernel
theorem dL_randomWord_51 : decode cL_randomWord 51 = .ok (.invokevirtual 112, 3) := by decide +kernel
theorem dL_randomWord_54 : decode cL_randomWord 54 = .ok (.astore_n 1, 1) := by decide +kernel
theorem dL_randomWord_55 : decode cL_randomWord 55 = .ok (.iinc 2 (-1), 3) := by decide +kernel
theorem dL_randomWord_58 : decode cL_randomWord 58 = .ok (.goto (-34), 3) := by decide +kernel
theorem dL_randomWord_61 : decode cL_randomWord 61 = .ok (.aload_n 1, 1) := by decide +kernel
theorem dL_randomWord_62 : decode cL_randomWord 62 = .ok (.areturn, 1) := by decide +kernel
theorem dL_randomSheet_0 : decode cL_randomSheet 0 = .ok (.new 116, 3) := by decide +kernel
theorem dL_randomSheet_3 : decode cL_randomSheet 3 = .ok (.dup, 1) := by decide +kernel
theorem dL_randomSheet_4 : decode cL_randomSheet 4 = .ok (.invokespecial 118, 3) := by decide +kernel
theorem dL_randomSheet_7 : decode cL_randomSheet 7 = .ok (.astore_n 3, 1) := by decide +kernel
theorem dL_randomSheet_8 : decode cL_randomSheet 8 = .ok (.aload_n 3, 1) := by decide +kernel
theorem dL_randomSheet_9 : decode cL_randomSheet 9 = .ok (.iconst 1, 1) := by decide +kernel
theorem dL_randomSheet_10 : decode cL_randomSheet 10 = .ok (.aload_n 2, 1) := by decide +kernel
theorem dL_randomSheet_11 : decode cL_randomSheet 11 = .ok (.iconst 4, 1) := by decide +kernel
theorem dL_randomSheet_12 : decode cL_randomSheet 12 = .ok (.invokevirtual 98, 3) := by decide +kernel
theorem dL_randomSheet_15 : decode cL_randomSheet 15 = .ok (.iadd, 1) := by decide +kernel
theorem dL_randomSheet_16 : decode cL_randomSheet 16 = .ok (.putfield 119, 3) := by decide +kernel
theorem dL_randomSheet_19 : decode cL_randomSheet 19 = .ok (.aload_n 3, 1) := by decide +kernel
theorem dL_randomSheet_20 : decode cL_randomSheet 20 = .ok (.iconst 1, 1) := by decide +kernel
theorem dL_randomSheet_21 : decode cL_randomSheet 21 = .ok (.aload_n 2, 1) := by decide +kernel
theorem dL_randomSheet_22 : decode cL_randomSheet 22 = .ok (.iconst 3, 1) := by decide +kernel
theorem dL_randomSheet_23 : decode cL_randomSheet 23 = .ok (.invokevirtual 98, 3) := by decide +kernel
theorem dL_randomSheet_26 : decode cL_randomSheet 26 = .ok (.iadd, 1) := by decide +kernel
theorem dL_randomSheet_27 : decode cL_randomSheet 27 = .ok (.putfield 123, 3) := by decide +kernel
theorem dL_randomSheet_30 : decode cL_randomSheet 30 = .ok (.aload_n 3, 1) := by decide +kernel
theorem dL_randomSheet_31 : decode cL_randomSheet 31 = .ok (.aload_n 3, 1) := by decide +kernel
theorem dL_randomSheet_32 : decode cL_randomSheet 32 = .ok (.invokevirtual 126, 3) := by decide +kernel
theorem dL_randomSheet_35 : decode cL_randomSheet 35 = .ok (.newarray .boolean, 2) := by decide +kernel
theorem dL_randomSheet_37 : decode cL_randomSheet 37 = .ok (.putfield 129, 3) := by decide +kernel
theorem dL_randomSheet_40 : decode cL_randomSheet 40 = .ok (.aload_n 3, 1) := by decide +kernel
theorem dL_randomSheet_41 : decode cL_randomSheet 41 = .ok (.iconst 2, 1) := by decide +kernel
theorem dL_randomSheet_42 : decode cL_randomSheet 42 = .ok (.aload_n 3, 1) := by decide +kernel
theorem dL_randomSheet_43 : decode cL_randomSheet 43 = .ok (.getfield 123, 3) := by decide +kernel
theorem dL_randomSheet_46 : decode cL_randomSheet 46 = .ok (.imul, 1) := by decide +kernel
theorem dL_randomSheet_47 : decode cL_randomSheet 47 = .ok (.anewarray 24, 3) := by decide +kernel
theorem dL_randomSheet_50 : decode cL_randomSheet 50 = .ok (.putfield 133, 3) := by decide +kernel
theorem dL_randomSheet_53 : decode cL_randomSheet 53 = .ok (.aload_n 3, 1) := by decide +kernel
theorem dL_randomSheet_54 : decode cL_randomSheet 54 = .ok (.iconst 2, 1) := by decide +kernel
theorem dL_randomSheet_55 : decode cL_randomSheet 55 = .ok (.aload_n 3, 1) := by decide +kernel
theorem dL_randomSheet_56 : decode cL_randomSheet 56 = .ok (.getfield 123, 3) := by decide +kernel
theorem dL_randomSheet_59 : decode cL_randomSheet 59 = .ok (.imul, 1) := by decide +kernel
theorem dL_randomSheet_60 : decode cL_randomSheet 60 = .ok (.newarray .int, 2) := by decide +kernel
theorem dL_randomSheet_62 : decode cL_randomSheet 62 = .ok (.putfield 137, 3) := by decide +kernel
theorem dL_randomSheet_65 : decode cL_randomSheet 65 = .ok (.aload_n 0, 1) := by decide +kernel
theorem dL_randomSheet_66 : decode cL_randomSheet 66 = .ok (.aload_n 1, 1) := by decide +kernel
theorem dL_randomSheet_67 : decode cL_randomSheet 67 = .ok (.ldc 141, 2) := by decide +kernel
theorem dL_randomSheet_69 : decode cL_randomSheet 69 = .ok (.invokestatic 90, 3) := by decide +kernel
theorem dL_randomSheet_72 : decode cL_randomSheet 72 = .ok (.aload_n 0, 1) := by decide +kernel
theorem dL_randomSheet_73 : decode cL_randomSheet 73 = .ok (.aload_n 1, 1) := by decide +kernel
theorem dL_randomSheet_74 : decode cL_randomSheet 74 = .ok (.aload_n 3, 1) := by decide +kernel
theorem dL_randomSheet_75 : decode cL_randomSheet 75 = .ok (.getfield 119, 3) := by decide +kernel
theorem dL_randomSheet_78 : decode cL_randomSheet 78 = .ok (.invokestatic 143, 3) := by decide +kernel
theorem dL_randomSheet_81 : decode cL_randomSheet 81 = .ok (.aload_n 0, 1) := by decide +kernel
theorem dL_randomSheet_82 : decode cL_randomSheet 82 = .ok (.aload_n 1, 1) := by decide +kernel
theorem dL_randomSheet_83 : decode cL_randomSheet 83 = .ok (.ldc 146, 2) := by decide +kernel
theorem dL_randomSheet_85 : decode cL_randomSheet 85 = .ok (.invokestatic 90, 3) := by decide +kernel
theorem dL_randomSheet_88 : decode cL_randomSheet 88 = .ok (.aload_n 0, 1) := by decide +kernel
theorem dL_randomSheet_89 : decode cL_randomSheet 89 = .ok (.aload_n 1, 1) := by decide +kernel
theorem dL_randomSheet_90 : decode cL_randomSheet 90 = .ok (.aload_n 3, 1) := by decide +kernel
theorem dL_randomSheet_91 : decode cL_randomSheet 91 = .ok (.getfield 123, 3) := by decide +kernel
theorem dL_randomSheet_94 : decode cL_randomSheet 94 = .ok (.invokestatic 143, 3) := by decide +kernel
theorem dL_randomSheet_97 : decode cL_randomSheet 97 = .ok (.iconst 0, 1) := by decide +kernel
theorem dL_randomSheet_98 : decode cL_randomSheet 98 = .ok (.istore 4, 2) := by decide +kernel
theorem dL_randomSheet_100 : decode cL_randomSheet 100 = .ok (.iload 4, 2) := by decide +kernel
theorem dL_randomSheet_102 : decode cL_randomSheet 102 = .ok (.iconst 2, 1) := by decide +kernel
theorem dL_randomSheet_103 : decode cL_randomSheet 103 = .ok (.aload_n 3, 1) := by decide +kernel
theorem dL_randomSheet_104 : decode cL_randomSheet 104 = .ok (.getfield 123, 3) := by decide +kernel
theorem dL_randomSheet_107 : decode cL_randomSheet 107 = .ok (.imul, 1) := by decide +kernel
theorem dL_randomSheet_108 : decode cL_randomSheet 108 = .ok (.if_icmp .ge 132, 3) := by decide +kernel
theorem dL_randomSheet_111 : decode cL_randomSheet 111 = .ok (.iload 4, 2) := by decide +kernel
theorem dL_randomSheet_113 : decode cL_randomSheet 113 = .ok (.aload_n 3, 1) := by decide +kernel
theorem dL_randomSheet_114 : decode cL_randomSheet 114 = .ok (.getfield 123, 3) := by decide +kernel
theorem dL_randomSheet_117 : decode cL_randomSheet 117 = .ok (.irem, 1) := by decide +kernel
theorem dL_randomSheet_118 : decode cL_randomSheet 118 = .ok (.ifCond .ne 20, 3) := by decide +kernel
theorem dL_randomSheet_121 : decode cL_randomSheet 121 = .ok (.aload_n 0, 1) := by decide +kernel
theorem dL_randomSheet_122 : decode cL_randomSheet 122 = .ok (.aload_n 1, 1) := by decide +kernel
theorem dL_randomSheet_123 : decode cL_randomSheet 123 = .ok (.iload 4, 2) := by decide +kernel
theorem dL_randomSheet_125 : decode cL_randomSheet 125 = .ok (.ifCond .ne 8, 3) := by decide +kernel
theorem dL_randomSheet_128 : decode cL_randomSheet 128 = .ok (.ldc 148, 2) := by decide +kernel
theorem dL_randomSheet_130 : decode cL_randomSheet 130 = .ok (.goto 5, 3) := by decide +kernel
theorem dL_randomSheet_133 : decode cL_randomSheet 133 = .ok (.ldc 150, 2) := by decide +kernel
theorem dL_randomSheet_135 : decode cL_randomSheet 135 = .ok (.invokestatic 90, 3) := by decide +kernel
theorem dL_randomSheet_138 : decode cL_randomSheet 138 = .ok (.ldc 96, 2) := by decide +kernel
theorem dL_randomSheet_140 : decode cL_randomSheet 140 = .ok (.astore 5, 2) := by decide +kernel
theorem dL_randomSheet_142 : decode cL_randomSheet 142 = .ok (.iconst 0, 1) := by decide +kernel
theorem dL_randomSheet_143 : decode cL_randomSheet 143 = .ok (.istore 6, 2) := by decide +kernel
theorem dL_randomSheet_145 : decode cL_randomSheet 145 = .ok (.iload 6, 2) := by decide +kernel
theorem dL_randomSheet_147 : decode cL_randomSheet 147 = .ok (.aload_n 3, 1) := by decide +kernel
theorem dL_randomSheet_148 : decode cL_randomSheet 148 = .ok (.getfield 119, 3) := by decide +kernel
theorem dL_randomSheet_151 : decode cL_randomSheet 151 = .ok (.if_icmp .ge 52, 3) := by decide +kernel
theorem dL_randomSheet_154 : decode cL_randomSheet 154 = .ok (.new 103, 3) := by decide +kernel
theorem dL_randomSheet_157 : decode cL_randomSheet 157 = .ok (.dup, 1) := by decide +kernel
theorem dL_randomSheet_158 : decode cL_randomSheet 158 = .ok (.invokespecial 105, 3) := by decide +kernel
theorem dL_randomSheet_161 : decode cL_randomSheet 161 = .ok (.aload 5, 2) := by decide +kernel
theorem dL_randomSheet_163 : decode cL_randomSheet 163 = .ok (.invokevirtual 106, 3) := by decide +kernel
theorem dL_randomSheet_166 : decode cL_randomSheet 166 = .ok (.aload_n 2, 1) := by decide +kernel
theorem dL_randomSheet_167 : decode cL_randomSheet 167 = .ok (.bipush 6, 2) := by decide +kernel
theorem dL_randomSheet_169 : decode cL_randomSheet 169 = .ok (.invokevirtual 98, 3) := by decide +kernel
theorem dL_randomSheet_172 : decode cL_randomSheet 172 = .ok (.ifCond .ne 8, 3) := by decide +kernel
theorem dL_randomSheet_175 : decode cL_randomSheet 175 = .ok (.bipush 45, 2) := by decide +kernel
theorem dL_randomSheet_177 : decode cL_randomSheet 177 = .ok (.goto 11, 3) := by decide +kernel
theorem dL_randomSheet_180 : decode cL_randomSheet 180 = .ok (.bipush 97, 2) := by decide +kernel
theorem dL_randomSheet_182 : decode cL_randomSheet 182 = .ok (.aload_n 2, 1) := by decide +kernel
theorem dL_randomSheet_183 : decode cL_randomSheet 183 = .ok (.iconst 4, 1) := by decide +kernel
theorem dL_randomSheet_184 : decode cL_randomSheet 184 = .ok (.invokevirtual 98, 3) := by decide +kernel
theorem dL_randomSheet_187 : decode cL_randomSheet 187 = .ok (.iadd, 1) := by decide +kernel
theorem dL_randomSheet_188 : decode cL_randomSheet 188 = .ok (.i2c, 1) := by decide +kernel
theorem dL_randomSheet_189 : decode cL_randomSheet 189 = .ok (.invokevirtual 109, 3) := by decide +kernel
theorem dL_randomSheet_192 : decode cL_randomSheet 192 = .ok (.invokevirtual 112, 3) := by decide +kernel
theorem dL_randomSheet_195 : decode cL_randomSheet 195 = .ok (.astore 5, 2) := by decide +kernel
theorem dL_randomSheet_197 : decode cL_randomSheet 197 = .ok (.iinc 6 1, 3) := by decide +kernel
theorem dL_randomSheet_200 : decode cL_randomSheet 200 = .ok (.goto (-55), 3) := by decide +kernel
theorem dL_randomSheet_203 : decode cL_randomSheet 203 = .ok (.aload_n 3, 1) := by decide +kernel
theorem dL_randomSheet_204 : decode cL_randomSheet 204 = .ok (.getfield 133, 3) := by decide +kernel
theorem dL_randomSheet_207 : decode cL_randomSheet 207 = .ok (.iload 4, 2) := by decide +kernel
theorem dL_randomSheet_209 : decode cL_randomSheet 209 = .ok (.aload 5, 2) := by decide +kernel
theorem dL_randomSheet_211 : decode cL_randomSheet 211 = .ok (.aastore, 1) := by decide +kernel
theorem dL_randomSheet_212 : decode cL_randomSheet 212 = .ok (.aload_n 0, 1) := by decide +kernel
theorem dL_randomSheet_213 : decode cL_randomSheet 213 = .ok (.aload_n 1, 1) := by decide +kernel
theorem dL_randomSheet_214 : decode cL_randomSheet 214 = .ok (.ldc 146, 2) := by decide +kernel
theorem dL_randomSheet_216 : decode cL_randomSheet 216 = .ok (.invokestatic 90, 3) := by decide +kernel
theorem dL_randomSheet_219 : decode cL_randomSheet 219 = .ok (.aload_n 0, 1) := by decide +kernel
theorem dL_randomSheet_220 : decode cL_randomSheet 220 = .ok (.aload_n 1, 1) := by decide +kernel
theorem dL_randomSheet_221 : decode cL_randomSheet 221 = .ok (.aload 5, 2) := by decide +kernel
theorem dL_randomSheet_223 : decode cL_randomSheet 223 = .ok (.invokestatic 90, 3) := by decide +kernel
theorem dL_randomSheet_226 : decode cL_randomSheet 226 = .ok (.aload_n 3, 1) := by decide +kernel
theorem dL_randomSheet_227 : decode cL_randomSheet 227 = .ok (.getfield 137, 3) := by decide +kernel
theorem dL_randomSheet_230 : decode cL_randomSheet 230 = .ok (.iload 4, 2) := by decide +kernel
theorem dL_randomSheet_232 : decode cL_randomSheet 232 = .ok (.iconst 1, 1) := by decide +kernel
theorem dL_randomSheet_233 : decode cL_randomSheet 233 = .ok (.iastore, 1) := by decide +kernel
theorem dL_randomSheet_234 : decode cL_randomSheet 234 = .ok (.iinc 4 1, 3) := by decide +kernel
theorem dL_randomSheet_237 : decode cL_randomSheet 237 = .ok (.goto (-137), 3) := by decide +kernel
theorem dL_randomSheet_240 : decode cL_randomSheet 240 = .ok (.aload_n 2, 1) := by decide +kernel
theorem dL_randomSheet_241 : decode cL_randomSheet 241 = .ok (.iconst 2, 1) := by decide +kernel
theorem dL_randomSheet_242 : decode cL_randomSheet 242 = .ok (.invokevirtual 98, 3) := by decide +kernel
theorem dL_randomSheet_245 : decode cL_randomSheet 245 = .ok (.ifCond .ne 63, 3) := by decide +kernel
theorem dL_randomSheet_248 : decode cL_randomSheet 248 = .ok (.aload_n 0, 1) := by decide +kernel
theorem dL_randomSheet_249 : decode cL_randomSheet 249 = .ok (.aload_n 1, 1) := by decide +kernel
theorem dL_randomSheet_250 : decode cL_randomSheet 250 = .ok (.ldc 152, 2) := by decide +kernel
theorem dL_randomSheet_252 : decode cL_randomSheet 252 = .ok (.invokestatic 90, 3) := by decide +kernel
theorem dL_randomSheet_255 : decode cL_randomSheet 255 = .ok (.iconst 0, 1) := by decide +kernel
theorem dL_randomSheet_256 : decode cL_randomSheet 256 = .ok (.istore 4, 2) := by decide +kernel
theorem dL_randomSheet_258 : decode cL_randomSheet 258 = .ok (.iload 4, 2) := by decide +kernel
theorem dL_randomSheet_260 : decode cL_randomSheet 260 = .ok (.iconst 2, 1) := by decide +kernel
theorem dL_randomSheet_261 : decode cL_randomSheet 261 = .ok (.aload_n 3, 1) := by decide +kernel
theorem dL_randomSheet_262 : decode cL_randomSheet 262 = .ok (.getfield 123, 3) := by decide +kernel
theorem dL_randomSheet_265 : decode cL_randomSheet 265 = .ok (.imul, 1) := by decide +kernel
theorem dL_randomSheet_266 : decode cL_randomSheet 266 = .ok (.if_icmp .ge 42, 3) := by decide +kernel
theorem dL_randomSheet_269 : decode cL_randomSheet 269 = .ok (.aload_n 3, 1) := by decide +kernel
theorem dL_randomSheet_270 : decode cL_randomSheet 270 = .ok (.getfield 137, 3) := by decide +kernel
theorem dL_randomSheet_273 : decode cL_randomSheet 273 = .ok (.iload 4, 2) := by decide +kernel
theorem dL_randomSheet_275 : decode cL_randomSheet 275 = .ok (.iconst 1, 1) := by decide +kernel
theorem dL_randomSheet_276 : decode cL_randomSheet 276 = .ok (.aload_n 2, 1) := by decide +kernel
theorem dL_randomSheet_277 : decode cL_randomSheet 277 = .ok (.iconst 4, 1) := by decide +kernel
theorem dL_randomSheet_278 : decode cL_randomSheet 278 = .ok (.invokevirtual 98, 3) := by decide +kernel
theorem dL_randomSheet_281 : decode cL_randomSheet 281 = .ok (.iadd, 1) := by decide +kernel
theorem dL_randomSheet_282 : decode cL_randomSheet 282 = .ok (.iastore, 1) := by decide +kernel
theorem dL_randomSheet_283 : decode cL_randomSheet 283 = .ok (.aload_n 0, 1) := by decide +kernel
theorem dL_randomSheet_284 : decode cL_randomSheet 284 = .ok (.aload_n 1, 1) := by decide +kernel
theorem dL_randomSheet_285 : decode cL_randomSheet 285 = .ok (.ldc 146, 2) := by decide +kernel
theorem dL_randomSheet_287 : decode cL_randomSheet 287 = .ok (.invokestatic 90, 3) := by decide +kernel
theorem dL_randomSheet_290 : decode cL_randomSheet 290 = .ok (.aload_n 0, 1) := by decide +kernel
theorem dL_randomSheet_291 : decode cL_randomSheet 291 = .ok (.aload_n 1, 1) := by decide +kernel
theorem dL_randomSheet_292 : decode cL_randomSheet 292 = .ok (.aload_n 3, 1) := by decide +kernel
theorem dL_randomSheet_293 : decode cL_randomSheet 293 = .ok (.getfield 137, 3) := by decide +kernel
theorem dL_randomSheet_296 : decode cL_randomSheet 296 = .ok (.iload 4, 2) := by decide +kernel
theorem dL_randomSheet_298 : decode cL_randomSheet 298 = .ok (.iaload, 1) := by decide +kernel
theorem dL_randomSheet_299 : decode cL_randomSheet 299 = .ok (.invokestatic 143, 3) := by decide +kernel
theorem dL_randomSheet_302 : decode cL_randomSheet 302 = .ok (.iinc 4 1, 3) := by decide +kernel
theorem dL_randomSheet_305 : decode cL_randomSheet 305 = .ok (.goto (-47), 3) := by decide +kernel
theorem dL_randomSheet_308 : decode cL_randomSheet 308 = .ok (.aload_n 2, 1) := by decide +kernel
theorem dL_randomSheet_309 : decode cL_randomSheet 309 = .ok (.iconst 3, 1) := by decide +kernel
theorem dL_randomSheet_310 : decode cL_randomSheet 310 = .ok (.invokevirtual 98, 3) := by decide +kernel
theorem dL_randomSheet_313 : decode cL_randomSheet 313 = .ok (.ifCond .ne 30, 3) := by decide +kernel
theorem dL_randomSheet_316 : decode cL_randomSheet 316 = .ok (.aload_n 3, 1) := by decide +kernel
theorem dL_randomSheet_317 : decode cL_randomSheet 317 = .ok (.iconst 1, 1) := by decide +kernel
theorem dL_randomSheet_318 : decode cL_randomSheet 318 = .ok (.aload_n 2, 1) := by decide +kernel
theorem dL_randomSheet_319 : decode cL_randomSheet 319 = .ok (.iconst 3, 1) := by decide +kernel
theorem dL_randomSheet_320 : decode cL_randomSheet 320 = .ok (.invokevirtual 98, 3) := by decide +kernel
theorem dL_randomSheet_323 : decode cL_randomSheet 323 = .ok (.iadd, 1) := by decide +kernel
theorem dL_randomSheet_324 : decode cL_randomSheet 324 = .ok (.putfield 154, 3) := by decide +kernel
theorem dL_randomSheet_327 : decode cL_randomSheet 327 = .ok (.aload_n 0, 1) := by decide +kernel
theorem dL_randomSheet_328 : decode cL_randomSheet 328 = .ok (.aload_n 1, 1) := by decide +kernel
theorem dL_randomSheet_329 : decode cL_randomSheet 329 = .ok (.ldc 156, 2) := by decide +kernel
theorem dL_randomSheet_331 : decode cL_randomSheet 331 = .ok (.invokestatic 90, 3) := by decide +kernel
theorem dL_randomSheet_334 : decode cL_randomSheet 334 = .ok (.aload_n 0, 1) := by decide +kernel
theorem dL_randomSheet_335 : decode cL_randomSheet 335 = .ok (.aload_n 1, 1) := by decide +kernel
theorem dL_randomSheet_336 : decode cL_randomSheet 336 = .ok (.aload_n 3, 1) := by decide +kernel
theorem dL_randomSheet_337 : decode cL_randomSheet 337 = .ok (.getfield 154, 3) := by decide +kernel
theorem dL_randomSheet_340 : decode cL_randomSheet 340 = .ok (.invokestatic 143, 3) := by decide +kernel
theorem dL_randomSheet_343 : decode cL_randomSheet 343 = .ok (.aload_n 0, 1) := by decide +kernel
theorem dL_randomSheet_344 : decode cL_randomSheet 344 = .ok (.aload_n 1, 1) := by decide +kernel
theorem dL_randomSheet_345 : decode cL_randomSheet 345 = .ok (.ldc 158, 2) := by decide +kernel
theorem dL_randomSheet_347 : decode cL_randomSheet 347 = .ok (.invokestatic 90, 3) := by decide +kernel
theorem dL_randomSheet_350 : decode cL_randomSheet 350 = .ok (.aload_n 0, 1) := by decide +kernel
theorem dL_randomSheet_351 : decode cL_randomSheet 351 = .ok (.aload_n 1, 1) := by decide +kernel
theorem dL_randomSheet_352 : decode cL_randomSheet 352 = .ok (.invokestatic 160, 3) := by decide +kernel
theorem dL_randomSheet_355 : decode cL_randomSheet 355 = .ok (.aload_n 3, 1) := by decide +kernel
theorem dL_randomSheet_356 : decode cL_randomSheet 356 = .ok (.invokevirtual 126, 3) := by decide +kernel
theorem dL_randomSheet_359 : decode cL_randomSheet 359 = .ok (.if_icmp .ne 7, 3) := by decide +kernel
theorem dL_randomSheet_362 : decode cL_randomSheet 362 = .ok (.aload_n 3, 1) := by decide +kernel
theorem dL_randomSheet_363 : decode cL_randomSheet 363 = .ok (.goto 4, 3) := by decide +kernel
theorem dL_randomSheet_366 : decode cL_randomSheet 366 = .ok (.aconst_null, 1) := by decide +kernel
theorem dL_randomSheet_367 : decode cL_randomSheet 367 = .ok (.areturn, 1) := by decide +kernel
theorem dL_agrees_0 : decode cL_agrees 0 = .ok (.aload_n 0, 1) := by decide +kernel
theorem dL_agrees_1 : decode cL_agrees 1 = .ok (.invokevirtual 164, 3) := by decide +kernel
theorem dL_agrees_4 : decode cL_agrees 4 = .ok (.aload_n 1, 1) := by decide +kernel
theorem dL_agrees_5 : decode cL_agrees 5 = .ok (.invokevirtual 168, 3) := by decide +kernel
theorem dL_agrees_8 : decode cL_agrees 8 = .ok (.lcmp, 1) := by decide +kernel
theorem dL_agrees_9 : decode cL_agrees 9 = .ok (.ifCond .ne 59, 3) := by decide +kernel
theorem dL_agrees_12 : decode cL_agrees 12 = .ok (.aload_n 0, 1) := by decide +kernel
theorem dL_agrees_13 : decode cL_agrees 13 = .ok (.bipush 8, 2) := by decide +kernel
theorem dL_agrees_15 : decode cL_agrees 15 = .ok (.invokestatic 169, 3) := by decide +kernel
theorem dL_agrees_18 : decode cL_agrees 18 = .ok (.ldc 42, 2) := by decide +kernel
theorem dL_agrees_20 : decode cL_agrees 20 = .ok (.if_icmp .ne 48, 3) := by decide +kernel
theorem dL_agrees_23 : decode cL_agrees 23 = .ok (.aload_n 0, 1) := by decide +kernel
theorem dL_agrees_24 : decode cL_agrees 24 = .ok (.iconst 2, 1) := by decide +kernel
theorem dL_agrees_25 : decode cL_agrees 25 = .ok (.iconst 0, 1) := by decide +kernel
theorem dL_agrees_26 : decode cL_agrees 26 = .ok (.invokestatic 171, 3) := by decide +kernel
theorem dL_agrees_29 : decode cL_agrees 29 = .ok (.ldc 52, 2) := by decide +kernel
theorem dL_agrees_31 : decode cL_agrees 31 = .ok (.if_icmp .ne 37, 3) := by decide +kernel
theorem dL_agrees_34 : decode cL_agrees 34 = .ok (.aload_n 0, 1) := by decide +kernel
theorem dL_agrees_35 : decode cL_agrees 35 = .ok (.iconst 0, 1) := by decide +kernel
theorem dL_agrees_36 : decode cL_agrees 36 = .ok (.aload_n 1, 1) := by decide +kernel
theorem dL_agrees_37 : decode cL_agrees 37 = .ok (.invokevirtual 126, 3) := by decide +kernel
theorem dL_agrees_40 : decode cL_agrees 40 = .ok (.invokestatic 171, 3) := by decide +kernel
theorem dL_agrees_43 : decode cL_agrees 43 = .ok (.ldc 52, 2) := by decide +kernel
theorem dL_agrees_45 : decode cL_agrees 45 = .ok (.if_icmp .ne 23, 3) := by decide +kernel
theorem dL_agrees_48 : decode cL_agrees 48 = .ok (.aload_n 0, 1) := by decide +kernel
theorem dL_agrees_49 : decode cL_agrees 49 = .ok (.aload_n 1, 1) := by decide +kernel
theorem dL_agrees_50 : decode cL_agrees 50 = .ok (.getfield 174, 3) := by decide +kernel
theorem dL_agrees_53 : decode cL_agrees 53 = .ok (.invokevirtual 23, 3) := by decide +kernel
theorem dL_agrees_56 : decode cL_agrees 56 = .ok (.invokestatic 177, 3) := by decide +kernel
theorem dL_agrees_59 : decode cL_agrees 59 = .ok (.ldc 65, 2) := by decide +kernel
theorem dL_agrees_61 : decode cL_agrees 61 = .ok (.if_icmp .ne 7, 3) := by decide +kernel
theorem dL_agrees_64 : decode cL_agrees 64 = .ok (.iconst 1, 1) := by decide +kernel
theorem dL_agrees_65 : decode cL_agrees 65 = .ok (.goto 4, 3) := by decide +kernel
theorem dL_agrees_68 : decode cL_agrees 68 = .ok (.iconst 0, 1) := by decide +kernel
theorem dL_agrees_69 : decode cL_agrees 69 = .ok (.istore_n 2, 1) := by decide +kernel
theorem dL_agrees_70 : decode cL_agrees 70 = .ok (.iconst 0, 1) := by decide +kernel
theorem dL_agrees_71 : decode cL_agrees 71 = .ok (.istore_n 3, 1) := by decide +kernel
theorem dL_agrees_72 : decode cL_agrees 72 = .ok (.iload_n 3, 1) := by decide +kernel
theorem dL_agrees_73 : decode cL_agrees 73 = .ok (.bipush 8, 2) := by decide +kernel
theorem dL_agrees_75 : decode cL_agrees 75 = .ok (.if_icmp .ge 32, 3) := by decide +kernel
theorem dL_agrees_78 : decode cL_agrees 78 = .ok (.iload_n 2, 1) := by decide +kernel
theorem dL_agrees_79 : decode cL_agrees 79 = .ok (.ifCond .eq 28, 3) := by decide +kernel
theorem dL_agrees_82 : decode cL_agrees 82 = .ok (.aload_n 0, 1) := by decide +kernel
theorem dL_agrees_83 : decode cL_agrees 83 = .ok (.iload_n 3, 1) := by decide +kernel
theorem dL_agrees_84 : decode cL_agrees 84 = .ok (.invokestatic 169, 3) := by decide +kernel
theorem dL_agrees_87 : decode cL_agrees 87 = .ok (.aload_n 1, 1) := by decide +kernel
theorem dL_agrees_88 : decode cL_agrees 88 = .ok (.iload_n 3, 1) := by decide +kernel
theorem dL_agrees_89 : decode cL_agrees 89 = .ok (.invokevirtual 179, 3) := by decide +kernel
theorem dL_agrees_92 : decode cL_agrees 92 = .ok (.if_icmp .ne 7, 3) := by decide +kernel
theorem dL_agrees_95 : decode cL_agrees 95 = .ok (.iconst 1, 1) := by decide +kernel
theorem dL_agrees_96 : decode cL_agrees 96 = .ok (.goto 4, 3) := by decide +kernel
theorem dL_agrees_99 : decode cL_agrees 99 = .ok (.iconst 0, 1) := by decide +kernel
theorem dL_agrees_100 : decode cL_agrees 100 = .ok (.istore_n 2, 1) := by decide +kernel
theorem dL_agrees_101 : decode cL_agrees 101 = .ok (.iinc 3 1, 3) := by decide +kernel
theorem dL_agrees_104 : decode cL_agrees 104 = .ok (.goto (-32), 3) := by decide +kernel
theorem dL_agrees_107 : decode cL_agrees 107 = .ok (.iload_n 2, 1) := by decide +kernel
theorem dL_agrees_108 : decode cL_agrees 108 = .ok (.ireturn, 1) := by decide +kernel
theorem dL_law_0 : decode cL_law 0 = .ok (.iconst 1, 1) := by decide +kernel
theorem dL_law_1 : decode cL_law 1 = .ok (.istore_n 1, 1) := by decide +kernel
theorem dL_law_2 : decode cL_law 2 = .ok (.iconst 0, 1) := by decide +kernel
theorem dL_law_3 : decode cL_law 3 = .ok (.istore_n 2, 1) := by decide +kernel
theorem dL_law_4 : decode cL_law 4 = .ok (.iload_n 2, 1) := by decide +kernel
theorem dL_law_5 : decode cL_law 5 = .ok (.aload_n 0, 1) := by decide +kernel
theorem dL_law_6 : decode cL_law 6 = .ok (.arraylength, 1) := by decide +kernel
theorem dL_law_7 : decode cL_law 7 = .ok (.if_icmp .ge 931, 3) := by decide +kernel
theorem dL_law_10 : decode cL_law 10 = .ok (.iload_n 2, 1) := by decide +kernel
theorem dL_law_11 : decode cL_law 11 = .ok (.iconst 2, 1) := by decide +kernel
theorem dL_law_12 : decode cL_law 12 = .ok (.if_icmp .ge 926, 3) := by decide +kernel
theorem dL_law_15 : decode cL_law 15 = .ok (.iload_n 1, 1) := by decide +kernel
theorem dL_law_16 : decode cL_law 16 = .ok (.ifCond .eq 922, 3) := by decide +kernel
theorem dL_law_19 : decode cL_law 19 = .ok (.new 14, 3) := by decide +kernel
theorem dL_law_22 : decode cL_law 22 = .ok (.dup, 1) := by decide +kernel
theorem dL_law_23 : decode cL_law 23 = .ok (.invokespecial 182, 3) := by decide +kernel
theorem dL_law_26 : decode cL_law 26 = .ok (.astore_n 3, 1) := by decide +kernel
theorem dL_law_27 : decode cL_law 27 = .ok (.bipush 8, 2) := by decide +kernel
theorem dL_law_29 : decode cL_law 29 = .ok (.newarray .int, 2) := by decide +kernel
theorem dL_law_31 : decode cL_law 31 = .ok (.astore 4, 2) := by decide +kernel
theorem dL_law_33 : decode cL_law 33 = .ok (.new 99, 3) := by decide +kernel
theorem dL_law_36 : decode cL_law 36 = .ok (.dup, 1) := by decide +kernel
theorem dL_law_37 : decode cL_law 37 = .ok (.aload_n 0, 1) := by decide +kernel
theorem dL_law_38 : decode cL_law 38 = .ok (.iload_n 2, 1) := by decide +kernel
theorem dL_law_39 : decode cL_law 39 = .ok (.iaload, 1) := by decide +kernel
theorem dL_law_40 : decode cL_law 40 = .ok (.invokespecial 183, 3) := by decide +kernel
theorem dL_law_43 : decode cL_law 43 = .ok (.astore 5, 2) := by decide +kernel
theorem dL_law_45 : decode cL_law 45 = .ok (.aload_n 3, 1) := by decide +kernel
theorem dL_law_46 : decode cL_law 46 = .ok (.new 116, 3) := by decide +kernel
theorem dL_law_49 : decode cL_law 49 = .ok (.dup, 1) := by decide +kernel
theorem dL_law_50 : decode cL_law 50 = .ok (.invokespecial 118, 3) := by decide +kernel
theorem dL_law_53 : decode cL_law 53 = .ok (.invokestatic 186, 3) := by decide +kernel
theorem dL_law_56 : decode cL_law 56 = .ok (.ifCond .eq 126, 3) := by decide +kernel
theorem dL_law_59 : decode cL_law 59 = .ok (.aload_n 3, 1) := by decide +kernel
theorem dL_law_60 : decode cL_law 60 = .ok (.invokevirtual 190, 3) := by decide +kernel
theorem dL_law_63 : decode cL_law 63 = .ok (.iconst (-1), 1) := by decide +kernel
theorem dL_law_64 : decode cL_law 64 = .ok (.if_icmp .ne 118, 3) := by decide +kernel
theorem dL_law_67 : decode cL_law 67 = .ok (.aload_n 3, 1) := by decide +kernel
theorem dL_law_68 : decode cL_law 68 = .ok (.invokevirtual 193, 3) := by decide +kernel
theorem dL_law_71 : decode cL_law 71 = .ok (.iconst (-1), 1) := by decide +kernel
theorem dL_law_72 : decode cL_law 72 = .ok (.if_icmp .ne 110, 3) := by decide +kernel
theorem dL_law_75 : decode cL_law 75 = .ok (.aload_n 3, 1) := by decide +kernel
theorem dL_law_76 : decode cL_law 76 = .ok (.iconst 1, 1) := by decide +kernel
theorem dL_law_77 : decode cL_law 77 = .ok (.invokestatic 94, 3) := by decide +kernel
theorem dL_law_80 : decode cL_law 80 = .ok (.ldc 42, 2) := by decide +kernel
theorem dL_law_82 : decode cL_law 82 = .ok (.if_icmp .ne 100, 3) := by decide +kernel
theorem dL_law_85 : decode cL_law 85 = .ok (.aload_n 3, 1) := by decide +kernel
theorem dL_law_86 : decode cL_law 86 = .ok (.invokestatic 196, 3) := by decide +kernel
theorem dL_law_89 : decode cL_law 89 = .ok (.ldc 80, 2) := by decide +kernel
theorem dL_law_91 : decode cL_law 91 = .ok (.if_icmp .ne 91, 3) := by decide +kernel
theorem dL_law_94 : decode cL_law 94 = .ok (.aload_n 3, 1) := by decide +kernel
theorem dL_law_95 : decode cL_law 95 = .ok (.iconst 0, 1) := by decide +kernel
theorem dL_law_96 : decode cL_law 96 = .ok (.iconst 0, 1) := by decide +kernel
theorem dL_law_97 : decode cL_law 97 = .ok (.iconst 1, 1) := by decide +kernel
theorem dL_law_98 : decode cL_law 98 = .ok (.invokestatic 199, 3) := by decide +kernel
theorem dL_law_101 : decode cL_law 101 = .ok (.ldc 80, 2) := by decide +kernel
theorem dL_law_103 : decode cL_law 103 = .ok (.if_icmp .ne 79, 3) := by decide +kernel
theorem dL_law_106 : decode cL_law 106 = .ok (.aload_n 3, 1) := by decide +kernel
theorem dL_law_107 : decode cL_law 107 = .ok (.iconst 0, 1) := by decide +kernel
theorem dL_law_108 : decode cL_law 108 = .ok (.iconst 1, 1) := by decide +kernel
theorem dL_law_109 : decode cL_law 109 = .ok (.iconst 1, 1) := by decide +kernel
theorem dL_law_110 : decode cL_law 110 = .ok (.invokestatic 199, 3) := by decide +kernel
theorem dL_law_113 : decode cL_law 113 = .ok (.ldc 52, 2) := by decide +kernel
theorem dL_law_115 : decode cL_law 115 = .ok (.if_icmp .ne 67, 3) := by decide +kernel
theorem dL_law_118 : decode cL_law 118 = .ok (.aload_n 3, 1) := by decide +kernel
theorem dL_law_119 : decode cL_law 119 = .ok (.iconst 0, 1) := by decide +kernel
theorem dL_law_120 : decode cL_law 120 = .ok (.iconst 0, 1) := by decide +kernel
theorem dL_law_121 : decode cL_law 121 = .ok (.bipush 9, 2) := by decide +kernel
theorem dL_law_123 : decode cL_law 123 = .ok (.invokestatic 199, 3) := by decide +kernel
theorem dL_law_126 : decode cL_law 126 = .ok (.ldc 42, 2) := by decide +kernel
theorem dL_law_128 : decode cL_law 128 = .ok (.if_icmp .ne 54, 3) := by decide +kernel
theorem dL_law_131 : decode cL_law 131 = .ok (.aload_n 3, 1) := by decide +kernel
theorem dL_law_132 : decode cL_law 132 = .ok (.bipush 10, 2) := by decide +kernel
theorem dL_law_134 : decode cL_law 134 = .ok (.invokestatic 202, 3) := by decide +kernel
theorem dL_law_137 : decode cL_law 137 = .ok (.ldc 42, 2) := by decide +kernel
theorem dL_law_139 : decode cL_law 139 = .ok (.if_icmp .ne 43, 3) := by decide +kernel
theorem dL_law_142 : decode cL_law 142 = .ok (.aload_n 3, 1) := by decide +kernel
theorem dL_law_143 : decode cL_law 143 = .ok (.iconst 0, 1) := by decide +kernel
theorem dL_law_144 : decode cL_law 144 = .ok (.invokestatic 204, 3) := by decide +kernel
theorem dL_law_147 : decode cL_law 147 = .ok (.ldc 80, 2) := by decide +kernel
theorem dL_law_149 : decode cL_law 149 = .ok (.if_icmp .ne 33, 3) := by decide +kernel
theorem dL_law_152 : decode cL_law 152 = .ok (.aload_n 3, 1) := by decide +kernel
theorem dL_law_153 : decode cL_law 153 = .ok (.iconst 1, 1) := by decide +kernel
theorem dL_law_154 : decode cL_law 154 = .ok (.invokestatic 204, 3) := by decide +kernel
theorem dL_law_157 : decode cL_law 157 = .ok (.ldc 52, 2) := by decide +kernel
theorem dL_law_159 : decode cL_law 159 = .ok (.if_icmp .ne 23, 3) := by decide +kernel
theorem dL_law_162 : decode cL_law 162 = .ok (.aload_n 3, 1) := by decide +kernel
theorem dL_law_163 : decode cL_law 163 = .ok (.iconst 2, 1) := by decide +kernel
theorem dL_law_164 : decode cL_law 164 = .ok (.invokestatic 202, 3) := by decide +kernel
theorem dL_law_167 : decode cL_law 167 = .ok (.iconst 1, 1) := by decide +kernel
theorem dL_law_168 : decode cL_law 168 = .ok (.if_icmp .ne 14, 3) := by decide +kernel
theorem dL_law_171 : decode cL_law 171 = .ok (.aload_n 3, 1) := by decide +kernel
theorem dL_law_172 : decode cL_law 172 = .ok (.invokevirtual 193, 3) := by decide +kernel
theorem dL_law_175 : decode cL_law 175 = .ok (.ifCond .ne 7, 3) := by decide +kernel
theorem dL_law_178 : decode cL_law 178 = .ok (.iconst 1, 1) := by decide +kernel
theorem dL_law_179 : decode cL_law 179 = .ok (.goto 4, 3) := by decide +kernel
theorem dL_law_182 : decode cL_law 182 = .ok (.iconst 0, 1) := by decide +kernel
theorem dL_law_183 : decode cL_law 183 = .ok (.istore_n 1, 1) := by decide +kernel
theorem dL_law_184 : decode cL_law 184 = .ok (.aload_n 3, 1) := by decide +kernel
theorem dL_law_185 : decode cL_law 185 = .ok (.aload 4, 2) := by decide +kernel
theorem dL_law_187 : decode cL_law 187 = .ok (.aload 5, 2) := by decide +kernel
theorem dL_law_189 : decode cL_law 189 = .ok (.invokestatic 206, 3) := by decide +kernel
theorem dL_law_192 : decode cL_law 192 = .ok (.astore 6, 2) := by decide +kernel
theorem dL_law_194 : decode cL_law 194 = .ok (.aload 6, 2) := by decide +kernel
theorem dL_law_196 : decode cL_law 196 = .ok (.ifnonnull 5, 3) := by decide +kernel
theorem dL_law_199 : decode cL_law 199 = .ok (.iconst 0, 1) := by decide +kernel
theorem dL_law_200 : decode cL_law 200 = .ok (.ireturn, 1) := by decide +kernel
theorem dL_law_201 : decode cL_law 201 = .ok (.iload_n 1, 1) := by decide +kernel
theorem dL_law_202 : decode cL_law 202 = .ok (.ifCond .eq 16, 3) := by decide +kernel
theorem dL_law_205 : decode cL_law 205 = .ok (.aload_n 3, 1) := by decide +kernel
theorem dL_law_206 : decode cL_law 206 = .ok (.aload 6, 2) := by decide +kernel
theorem dL_law_208 : decode cL_law 208 = .ok (.invokestatic 186, 3) := by decide +kernel
theorem dL_law_211 : decode cL_law 211 = .ok (.ifCond .eq 7, 3) := by decide +kernel
theorem dL_law_214 : decode cL_law 214 = .ok (.iconst 1, 1) := by decide +kernel
theorem dL_law_215 : decode cL_law 215 = .ok (.goto 4, 3) := by decide +kernel
theorem dL_law_218 : decode cL_law 218 = .ok (.iconst 0, 1) := by decide +kernel
theorem dL_law_219 : decode cL_law 219 = .ok (.istore_n 1, 1) := by decide +kernel
theorem dL_law_220 : decode cL_law 220 = .ok (.bipush 9, 2) := by decide +kernel
theorem dL_law_222 : decode cL_law 222 = .ok (.anewarray 116, 3) := by decide +kernel
theorem dL_law_225 : decode cL_law 225 = .ok (.astore 7, 2) := by decide +kernel
theorem dL_law_227 : decode cL_law 227 = .ok (.iconst 0, 1) := by decide +kernel
theorem dL_law_228 : decode cL_law 228 = .ok (.istore 8, 2) := by decide +kernel
theorem dL_law_230 : decode cL_law 230 = .ok (.iconst 0, 1) := by decide +kernel
theorem dL_law_231 : decode cL_law 231 = .ok (.istore 9, 2) := by decide +kernel
theorem dL_law_233 : decode cL_law 233 = .ok (.iload 9, 2) := by decide +kernel
theorem dL_law_235 : decode cL_law 235 = .ok (.bipush 18, 2) := by decide +kernel
theorem dL_law_237 : decode cL_law 237 = .ok (.if_icmp .ge 558, 3) := by decide +kernel
theorem dL_law_240 : decode cL_law 240 = .ok (.iload_n 1, 1) := by decide +kernel
theorem dL_law_241 : decode cL_law 241 = .ok (.ifCond .eq 554, 3) := by decide +kernel
theorem dL_law_244 : decode cL_law 244 = .ok (.aload 6, 2) := by decide +kernel
theorem dL_law_246 : decode cL_law 246 = .ok (.invokevirtual 210, 3) := by decide +kernel
theorem dL_law_249 : decode cL_law 249 = .ok (.astore 10, 2) := by decide +kernel
theorem dL_law_251 : decode cL_law 251 = .ok (.iconst 1, 1) := by decide +kernel
theorem dL_law_252 : decode cL_law 252 = .ok (.istore 11, 2) := by decide +kernel
theorem dL_law_254 : decode cL_law 254 = .ok (.aload 5, 2) := by decide +kernel
theorem dL_law_256 : decode cL_law 256 = .ok (.bipush 7, 2) := by decide +kernel
theorem dL_law_258 : decode cL_law 258 = .ok (.invokevirtual 98, 3) := by decide +kernel
theorem dL_law_261 : decode cL_law 261 = .ok (.tableswitch 367 0 4 #[35, 35, 73, 147, 298], 35) := by decide +kernel
theorem dL_law_296 : decode cL_law 296 = .ok (.aload 6, 2) := by decide +kernel
theorem dL_law_298 : decode cL_law 298 = .ok (.aload 5, 2) := by decide +kernel
theorem dL_law_300 : decode cL_law 300 = .ok (.invokestatic 214, 3) := by decide +kernel
theorem dL_law_303 : decode cL_law 303 = .ok (.putfield 174, 3) := by decide +kernel
theorem dL_law_306 : decode cL_law 306 = .ok (.aload_n 3, 1) := by decide +kernel
theorem dL_law_307 : decode cL_law 307 = .ok (.aload 4, 2) := by decide +kernel
theorem dL_law_309 : decode cL_law 309 = .ok (.aload 6, 2) := by decide +kernel
theorem dL_law_311 : decode cL_law 311 = .ok (.getfield 174, 3) := by decide +kernel
theorem dL_law_314 : decode cL_law 314 = .ok (.invokestatic 218, 3) := by decide +kernel
theorem dL_law_317 : decode cL_law 317 = .ok (.aload 6, 2) := by decide +kernel
theorem dL_law_319 : decode cL_law 319 = .ok (.invokevirtual 222, 3) := by decide +kernel
theorem dL_law_322 : decode cL_law 322 = .ok (.if_icmp .ne 7, 3) := by decide +kernel
theorem dL_law_325 : decode cL_law 325 = .ok (.iconst 1, 1) := by decide +kernel
theorem dL_law_326 : decode cL_law 326 = .ok (.goto 4, 3) := by decide +kernel
theorem dL_law_329 : decode cL_law 329 = .ok (.iconst 0, 1) := by decide +kernel
theorem dL_law_330 : decode cL_law 330 = .ok (.istore_n 1, 1) := by decide +kernel
theorem dL_law_331 : decode cL_law 331 = .ok (.goto 398, 3) := by decide +kernel
theorem dL_law_334 : decode cL_law 334 = .ok (.aload 6, 2) := by decide +kernel
theorem dL_law_336 : decode cL_law 336 = .ok (.getfield 174, 3) := by decide +kernel
theorem dL_law_339 : decode cL_law 339 = .ok (.invokevirtual 23, 3) := by decide +kernel
theorem dL_law_342 : decode cL_law 342 = .ok (.ifCond .ne 7, 3) := by decide +kernel
theorem dL_law_345 : decode cL_law 345 = .ok (.iconst 0, 1) := by decide +kernel
theorem dL_law_346 : decode cL_law 346 = .ok (.goto 8, 3) := by decide +kernel
theorem dL_law_349 : decode cL_law 349 = .ok (.aload 6, 2) := by decide +kernel
theorem dL_law_351 : decode cL_law 351 = .ok (.invokevirtual 225, 3) := by decide +kernel
theorem dL_law_354 : decode cL_law 354 = .ok (.istore 12, 2) := by decide +kernel
theorem dL_law_356 : decode cL_law 356 = .ok (.iload 12, 2) := by decide +kernel
theorem dL_law_358 : decode cL_law 358 = .ok (.ifCond .le 7, 3) := by decide +kernel
theorem dL_law_361 : decode cL_law 361 = .ok (.iconst 1, 1) := by decide +kernel
theorem dL_law_362 : decode cL_law 362 = .ok (.goto 4, 3) := by decide +kernel
theorem dL_law_365 : decode cL_law 365 = .ok (.iconst 0, 1) := by decide +kernel
theorem dL_law_366 : decode cL_law 366 = .ok (.istore 11, 2) := by decide +kernel
theorem dL_law_368 : decode cL_law 368 = .ok (.iload 11, 2) := by decide +kernel
theorem dL_law_370 : decode cL_law 370 = .ok (.ifCond .eq 10, 3) := by decide +kernel
theorem dL_law_373 : decode cL_law 373 = .ok (.aload 6, 2) := by decide +kernel
theorem dL_law_375 : decode cL_law 375 = .ok (.iload 12, 2) := by decide +kernel
theorem dL_law_377 : decode cL_law 377 = .ok (.invokevirtual 228, 3) := by decide +kernel
theorem dL_law_380 : decode cL_law 380 = .ok (.aload_n 3, 1) := by decide +kernel
theorem dL_law_381 : decode cL_law 381 = .ok (.invokestatic 196, 3) := by decide +kernel
theorem dL_law_384 : decode cL_law 384 = .ok (.iload 11, 2) := by decide +kernel
theorem dL_law_386 : decode cL_law 386 = .ok (.ifCond .eq 8, 3) := by decide +kernel
theorem dL_law_389 : decode cL_law 389 = .ok (.iload 12, 2) := by decide +kernel
theorem dL_law_391 : decode cL_law 391 = .ok (.goto 5, 3) := by decide +kernel
theorem dL_law_394 : decode cL_law 394 = .ok (.ldc 80, 2) := by decide +kernel
theorem dL_law_396 : decode cL_law 396 = .ok (.if_icmp .ne 7, 3) := by decide +kernel
theorem dL_law_399 : decode cL_law 399 = .ok (.iconst 1, 1) := by decide +kernel
theorem dL_law_400 : decode cL_law 400 = .ok (.goto 4, 3) := by decide +kernel
theorem dL_law_403 : decode cL_law 403 = .ok (.iconst 0, 1) := by decide +kernel
theorem dL_law_404 : decode cL_law 404 = .ok (.istore_n 1, 1) := by decide +kernel
theorem dL_law_405 : decode cL_law 405 = .ok (.goto 324, 3) := by decide +kernel
theorem dL_law_408 : decode cL_law 408 = .ok (.aload 5, 2) := by decide +kernel
theorem dL_law_410 : decode cL_law 410 = .ok (.iconst 2, 1) := by decide +kernel
theorem dL_law_411 : decode cL_law 411 = .ok (.invokevirtual 98, 3) := by decide +kernel
theorem dL_law_414 : decode cL_law 414 = .ok (.istore 13, 2) := by decide +kernel
theorem dL_law_416 : decode cL_law 416 = .ok (.aload 5, 2) := by decide +kernel
theorem dL_law_418 : decode cL_law 418 = .ok (.aload 6, 2) := by decide +kernel
theorem dL_law_420 : decode cL_law 420 = .ok (.invokevirtual 126, 3) := by decide +kernel
theorem dL_law_423 : decode cL_law 423 = .ok (.iconst 1, 1) := by decide +kernel
theorem dL_law_424 : decode cL_law 424 = .ok (.iadd, 1) := by decide +kernel
theorem dL_law_425 : decode cL_law 425 = .ok (.invokevirtual 98, 3) := by decide +kernel
theorem dL_law_428 : decode cL_law 428 = .ok (.istore 14, 2) := by decide +kernel
theorem dL_law_430 : decode cL_law 430 = .ok (.aload 5, 2) := by decide +kernel
theorem dL_law_432 : decode cL_law 432 = .ok (.iconst 4, 1) := by decide +kernel
theorem dL_law_433 : decode cL_law 433 = .ok (.invokevirtual 98, 3) := by decide +kernel
theorem dL_law_436 : decode cL_law 436 = .ok (.istore 15, 2) := by decide +kernel
theorem dL_law_438 : decode cL_law 438 = .ok (.iload 14, 2) := by decide +kernel
theorem dL_law_440 : decode cL_law 440 = .ok (.aload 6, 2) := by decide +kernel
theorem dL_law_442 : decode cL_law 442 = .ok (.invokevirtual 126, 3) := by decide +kernel
theorem dL_law_445 : decode cL_law 445 = .ok (.if_icmp .ge 7, 3) := by decide +kernel
theorem dL_law_448 : decode cL_law 448 = .ok (.iconst 1, 1) := by decide +kernel
theorem dL_law_449 : decode cL_law 449 = .ok (.goto 4, 3) := by decide +kernel
theorem dL_law_452 : decode cL_law 452 = .ok (.iconst 0, 1) := by decide +kernel
theorem dL_law_453 : decode cL_law 453 = .ok (.istore 16, 2) := by decide +kernel
theorem dL_law_455 : decode cL_law 455 = .ok (.iload 16, 2) := by decide +kernel
theorem dL_law_457 : decode cL_law 457 = .ok (.ifCond .eq 26, 3) := by decide +kernel
theorem dL_law_460 : decode cL_law 460 = .ok (.iload 15, 2) := by decide +kernel
theorem dL_law_462 : decode cL_law 462 = .ok (.ifCond .le 21, 3) := by decide +kernel
theorem dL_law_465 : decode cL_law 465 = .ok (.aload 6, 2) := by decide +kernel
theorem dL_law_467 : decode cL_law 467 = .ok (.iload 13, 2) := by decide +kernel
theorem dL_law_469 : decode cL_law 469 = .ok (.iload 14, 2) := by decide +kernel
theorem dL_law_471 : decode cL_law 471 = .ok (.iload 15, 2) := by decide +kernel
theorem dL_law_473 : decode cL_law 473 = .ok (.invokevirtual 231, 3) := by decide +kernel
theorem dL_law_476 : decode cL_law 476 = .ok (.ifCond .eq 7, 3) := by decide +kernel
theorem dL_law_479 : decode cL_law 479 = .ok (.iconst 1, 1) := by decide +kernel
theorem dL_law_480 : decode cL_law 480 = .ok (.goto 4, 3) := by decide +kernel
theorem dL_law_483 : decode cL_law 483 = .ok (.iconst 0, 1) := by decide +kernel
theorem dL_law_484 : decode cL_law 484 = .ok (.istore 11, 2) := by decide +kernel
theorem dL_law_486 : decode cL_law 486 = .ok (.iload 11, 2) := by decide +kernel
theorem dL_law_488 : decode cL_law 488 = .ok (.ifCond .eq 14, 3) := by decide +kernel
theorem dL_law_491 : decode cL_law 491 = .ok (.aload 6, 2) := by decide +kernel
theorem dL_law_493 : decode cL_law 493 = .ok (.iload 13, 2) := by decide +kernel
theorem dL_law_495 : decode cL_law 495 = .ok (.iload 14, 2) := by decide +kernel
theorem dL_law_497 : decode cL_law 497 = .ok (.iload 15, 2) := by decide +kernel
theorem dL_law_499 : decode cL_law 499 = .ok (.invokevirtual 235, 3) := by decide +kernel
theorem dL_law_502 : decode cL_law 502 = .ok (.aload_n 3, 1) := by decide +kernel
theorem dL_law_503 : decode cL_law 503 = .ok (.iload 13, 2) := by decide +kernel
theorem dL_law_505 : decode cL_law 505 = .ok (.iload 14, 2) := by decide +kernel
theorem dL_law_507 : decode cL_law 507 = .ok (.iload 15, 2) := by decide +kernel
theorem dL_law_509 : decode cL_law 509 = .ok (.invokestatic 199, 3) := by decide +kernel
theorem dL_law_512 : decode cL_law 512 = .ok (.iload 11, 2) := by decide +kernel
theorem dL_law_514 : decode cL_law 514 = .ok (.ifCond .eq 11, 3) := by decide +kernel
theorem dL_law_517 : decode cL_law 517 = .ok (.aload 6, 2) := by decide +kernel
theorem dL_law_519 : decode cL_law 519 = .ok (.invokevirtual 239, 3) := by decide +kernel
theorem dL_law_522 : decode cL_law 522 = .ok (.goto 25, 3) := by decide +kernel
theorem dL_law_525 : decode cL_law 525 = .ok (.iload 16, 2) := by decide +kernel
theorem dL_law_527 : decode cL_law 527 = .ok (.ifCond .ne 8, 3) := by decide +kernel
theorem dL_law_530 : decode cL_law 530 = .ok (.ldc 52, 2) := by decide +kernel
theorem dL_law_532 : decode cL_law 532 = .ok (.goto 15, 3) := by decide +kernel
theorem dL_law_535 : decode cL_law 535 = .ok (.iload 15, 2) := by decide +kernel
theorem dL_law_537 : decode cL_law 537 = .ok (.ifCond .ne 8, 3) := by decide +kernel
theorem dL_law_540 : decode cL_law 540 = .ok (.ldc 42, 2) := by decide +kernel
theorem dL_law_542 : decode cL_law 542 = .ok (.goto 5, 3) := by decide +kernel
theorem dL_law_545 : decode cL_law 545 = .ok (.ldc 80, 2) := by decide +kernel
theorem dL_law_547 : decode cL_law 547 = .ok (.if_icmp .ne 7, 3) := by decide +kernel
theorem dL_law_550 : decode cL_law 550 = .ok (.iconst 1, 1) := by decide +kernel
theorem dL_law_551 : decode cL_law 551 = .ok (.goto 4, 3) := by decide +kernel
theorem dL_law_554 : decode cL_law 554 = .ok (.iconst 0, 1) := by decide +kernel
theorem dL_law_555 : decode cL_law 555 = .ok (.istore_n 1, 1) := by decide +kernel
theorem dL_law_556 : decode cL_law 556 = .ok (.goto 173, 3) := by decide +kernel
theorem dL_law_559 : decode cL_law 559 = .ok (.aload 5, 2) := by decide +kernel
theorem dL_law_561 : decode cL_law 561 = .ok (.iconst 5, 1) := by decide +kernel
theorem dL_law_562 : decode cL_law 562 = .ok (.invokevirtual 98, 3) := by decide +kernel
theorem dL_law_565 : decode cL_law 565 = .ok (.istore 17, 2) := by decide +kernel
theorem dL_law_567 : decode cL_law 567 = .ok (.iload 17, 2) := by decide +kernel
theorem dL_law_569 : decode cL_law 569 = .ok (.ifCond .le 7, 3) := by decide +kernel
theorem dL_law_572 : decode cL_law 572 = .ok (.iconst 1, 1) := by decide +kernel
theorem dL_law_573 : decode cL_law 573 = .ok (.goto 4, 3) := by decide +kernel
theorem dL_law_576 : decode cL_law 576 = .ok (.iconst 0, 1) := by decide +kernel
theorem dL_law_577 : decode cL_law 577 = .ok (.istore 11, 2) := by decide +kernel
theorem dL_law_579 : decode cL_law 579 = .ok (.aload 6, 2) := by decide +kernel
theorem dL_law_581 : decode cL_law 581 = .ok (.getfield 154, 3) := by decide +kernel
theorem dL_law_584 : decode cL_law 584 = .ok (.istore 18, 2) := by decide +kernel
theorem dL_law_586 : decode cL_law 586 = .ok (.iload 11, 2) := by decide +kernel
theorem dL_law_588 : decode cL_law 588 = .ok (.ifCond .eq 10, 3) := by decide +kernel
theorem dL_law_591 : decode cL_law 591 = .ok (.aload 6, 2) := by decide +kernel
theorem dL_law_593 : decode cL_law 593 = .ok (.iload 17, 2) := by decide +kernel
theorem dL_law_595 : decode cL_law 595 = .ok (.putfield 154, 3) := by decide +kernel
theorem dL_law_598 : decode cL_law 598 = .ok (.aload_n 3, 1) := by decide +kernel
theorem dL_law_599 : decode cL_law 599 = .ok (.iload 17, 2) := by decide +kernel
theorem dL_law_601 : decode cL_law 601 = .ok (.invokestatic 202, 3) := by decide +kernel
theorem dL_law_604 : decode cL_law 604 = .ok (.iload 11, 2) := by decide +kernel
theorem dL_law_606 : decode cL_law 606 = .ok (.ifCond .eq 8, 3) := by decide +kernel
theorem dL_law_609 : decode cL_law 609 = .ok (.iload 18, 2) := by decide +kernel
theorem dL_law_611 : decode cL_law 611 = .ok (.goto 5, 3) := by decide +kernel
theorem dL_law_614 : decode cL_law 614 = .ok (.ldc 42, 2) := by decide +kernel
theorem dL_law_616 : decode cL_law 616 = .ok (.if_icmp .ne 7, 3) := by decide +kernel
theorem dL_law_619 : decode cL_law 619 = .ok (.iconst 1, 1) := by decide +kernel
theorem dL_law_620 : decode cL_law 620 = .ok (.goto 4, 3) := by decide +kernel
theorem dL_law_623 : decode cL_law 623 = .ok (.iconst 0, 1) := by decide +kernel
theorem dL_law_624 : decode cL_law 624 = .ok (.istore_n 1, 1) := by decide +kernel
theorem dL_law_625 : decode cL_law 625 = .ok (.goto 104, 3) := by decide +kernel
theorem dL_law_628 : decode cL_law 628 = .ok (.aload 5, 2) := by decide +kernel
theorem dL_law_630 : decode cL_law 630 = .ok (.aload 6, 2) := by decide +kernel
theorem dL_law_632 : decode cL_law 632 = .ok (.invokevirtual 126, 3) := by decide +kernel
theorem dL_law_635 : decode cL_law 635 = .ok (.iconst 1, 1) := by decide +kernel
theorem dL_law_636 : decode cL_law 636 = .ok (.iadd, 1) := by decide +kernel
theorem dL_law_637 : decode cL_law 637 = .ok (.invokevirtual 98, 3) := by decide +kernel
theorem dL_law_640 : decode cL_law 640 = .ok (.istore 19, 2) := by decide +kernel
theorem dL_law_642 : decode cL_law 642 = .ok (.iload 19, 2) := by decide +kernel
theorem dL_law_644 : decode cL_law 644 = .ok (.aload 6, 2) := by decide +kernel
theorem dL_law_646 : decode cL_law 646 = .ok (.invokevirtual 126, 3) := by decide +kernel
theorem dL_law_649 : decode cL_law 649 = .ok (.if_icmp .ge 18, 3) := by decide +kernel
theorem dL_law_652 : decode cL_law 652 = .ok (.aload 6, 2) := by decide +kernel
theorem dL_law_654 : decode cL_law 654 = .ok (.getfield 129, 3) := by decide +kernel
theorem dL_law_657 : decode cL_law 657 = .ok (.iload 19, 2) := by decide +kernel
theorem dL_law_659 : decode cL_law 659 = .ok (.baload, 1) := by decide +kernel
theorem dL_law_660 : decode cL_law 660 = .ok (.ifCond .eq 7, 3) := by decide +kernel
theorem dL_law_663 : decode cL_law 663 = .ok (.iconst 1, 1) := by decide +kernel
theorem dL_law_664 : decode cL_law 664 = .ok (.goto 4, 3) := by decide +kernel
theorem dL_law_667 : decode cL_law 667 = .ok (.iconst 0, 1) := by decide +kernel
theorem dL_law_668 : decode cL_law 668 = .ok (.istore 11, 2) := by decide +kernel
theorem dL_law_670 : decode cL_law 670 = .ok (.iload 11, 2) := by decide +kernel
theorem dL_law_672 : decode cL_law 672 = .ok (.ifCond .eq 12, 3) := by decide +kernel
theorem dL_law_675 : decode cL_law 675 = .ok (.aload 6, 2) := by decide +kernel
theorem dL_law_677 : decode cL_law 677 = .ok (.getfield 129, 3) := by decide +kernel
theorem dL_law_680 : decode cL_law 680 = .ok (.iload 19, 2) := by decide +kernel
theorem dL_law_682 : decode cL_law 682 = .ok (.iconst 0, 1) := by decide +kernel
theorem dL_law_683 : decode cL_law 683 = .ok (.bastore, 1) := by decide +kernel
theorem dL_law_684 : decode cL_law 684 = .ok (.aload_n 3, 1) := by decide +kernel
theorem dL_law_685 : decode cL_law 685 = .ok (.iload 19, 2) := by decide +kernel
theorem dL_law_687 : decode cL_law 687 = .ok (.invokestatic 204, 3) := by decide +kernel
theorem dL_law_690 : decode cL_law 690 = .ok (.iload 11, 2) := by decide +kernel
theorem dL_law_692 : decode cL_law 692 = .ok (.ifCond .eq 11, 3) := by decide +kernel
theorem dL_law_695 : decode cL_law 695 = .ok (.aload 6, 2) := by decide +kernel
theorem dL_law_697 : decode cL_law 697 = .ok (.invokevirtual 239, 3) := by decide +kernel
theorem dL_law_700 : decode cL_law 700 = .ok (.goto 20, 3) := by decide +kernel
theorem dL_law_703 : decode cL_law 703 = .ok (.iload 19, 2) := by decide +kernel
theorem dL_law_705 : decode cL_law 705 = .ok (.aload 6, 2) := by decide +kernel
theorem dL_law_707 : decode cL_law 707 = .ok (.invokevirtual 126, 3) := by decide +kernel
theorem dL_law_710 : decode cL_law 710 = .ok (.if_icmp .ge 8, 3) := by decide +kernel
theorem dL_law_713 : decode cL_law 713 = .ok (.ldc 80, 2) := by decide +kernel
theorem dL_law_715 : decode cL_law 715 = .ok (.goto 5, 3) := by decide +kernel
theorem dL_law_718 : decode cL_law 718 = .ok (.ldc 52, 2) := by decide +kernel
theorem dL_law_720 : decode cL_law 720 = .ok (.if_icmp .ne 7, 3) := by decide +kernel
theorem dL_law_723 : decode cL_law 723 = .ok (.iconst 1, 1) := by decide +kernel
theorem dL_law_724 : decode cL_law 724 = .ok (.goto 4, 3) := by decide +kernel
theorem dL_law_727 : decode cL_law 727 = .ok (.iconst 0, 1) := by decide +kernel
theorem dL_law_728 : decode cL_law 728 = .ok (.istore_n 1, 1) := by decide +kernel
theorem dL_law_729 : decode cL_law 729 = .ok (.iload 11, 2) := by decide +kernel
theorem dL_law_731 : decode cL_law 731 = .ok (.ifCond .eq 39, 3) := by decide +kernel
theorem dL_law_734 : decode cL_law 734 = .ok (.bipush 8, 2) := by decide +kernel
theorem dL_law_736 : decode cL_law 736 = .ok (.istore 12, 2) := by decide +kernel
theorem dL_law_738 : decode cL_law 738 = .ok (.iload 12, 2) := by decide +kernel
theorem dL_law_740 : decode cL_law 740 = .ok (.ifCond .le 21, 3) := by decide +kernel
theorem dL_law_743 : decode cL_law 743 = .ok (.aload 7, 2) := by decide +kernel
theorem dL_law_745 : decode cL_law 745 = .ok (.iload 12, 2) := by decide +kernel
theorem dL_law_747 : decode cL_law 747 = .ok (.aload 7, 2) := by decide +kernel
theorem dL_law_749 : decode cL_law 749 = .ok (.iload 12, 2) := by decide +kernel
theorem dL_law_751 : decode cL_law 751 = .ok (.iconst 1, 1) := by decide +kernel
theorem dL_law_752 : decode cL_law 752 = .ok (.isub, 1) := by decide +kernel
theorem dL_law_753 : decode cL_law 753 = .ok (.aaload, 1) := by decide +kernel
theorem dL_law_754 : decode cL_law 754 = .ok (.aastore, 1) := by decide +kernel
theorem dL_law_755 : decode cL_law 755 = .ok (.iinc 12 (-1), 3) := by decide +kernel
theorem dL_law_758 : decode cL_law 758 = .ok (.goto (-20), 3) := by decide +kernel
theorem dL_law_761 : decode cL_law 761 = .ok (.aload 7, 2) := by decide +kernel
theorem dL_law_763 : decode cL_law 763 = .ok (.iconst 0, 1) := by decide +kernel
theorem dL_law_764 : decode cL_law 764 = .ok (.aload 10, 2) := by decide +kernel
theorem dL_law_766 : decode cL_law 766 = .ok (.aastore, 1) := by decide +kernel
theorem dL_law_767 : decode cL_law 767 = .ok (.iinc 8 1, 3) := by decide +kernel
theorem dL_law_770 : decode cL_law 770 = .ok (.iload_n 1, 1) := by decide +kernel
theorem dL_law_771 : decode cL_law 771 = .ok (.ifCond .eq 16, 3) := by decide +kernel
theorem dL_law_774 : decode cL_law 774 = .ok (.aload_n 3, 1) := by decide +kernel
theorem dL_law_775 : decode cL_law 775 = .ok (.aload 6, 2) := by decide +kernel
theorem dL_law_777 : decode cL_law 777 = .ok (.invokestatic 186, 3) := by decide +kernel
theorem dL_law_780 : decode cL_law 780 = .ok (.ifCond .eq 7, 3) := by decide +kernel
theorem dL_law_783 : decode cL_law 783 = .ok (.iconst 1, 1) := by decide +kernel
theorem dL_law_784 : decode cL_law 784 = .ok (.goto 4, 3) := by decide +kernel
theorem dL_law_787 : decode cL_law 787 = .ok (.iconst 0, 1) := by decide +kernel
theorem dL_law_788 : decode cL_law 788 = .ok (.istore_n 1, 1) := by decide +kernel
theorem dL_law_789 : decode cL_law 789 = .ok (.iinc 9 1, 3) := by decide +kernel
theorem dL_law_792 : decode cL_law 792 = .ok (.goto (-559), 3) := by decide +kernel
theorem dL_law_795 : decode cL_law 795 = .ok (.iconst 0, 1) := by decide +kernel
theorem dL_law_796 : decode cL_law 796 = .ok (.istore 9, 2) := by decide +kernel
theorem dL_law_798 : decode cL_law 798 = .ok (.iload 9, 2) := by decide +kernel
theorem dL_law_800 : decode cL_law 800 = .ok (.bipush 8, 2) := by decide +kernel
theorem dL_law_802 : decode cL_law 802 = .ok (.if_icmp .ge 45, 3) := by decide +kernel
theorem dL_law_805 : decode cL_law 805 = .ok (.iload 9, 2) := by decide +kernel
theorem dL_law_807 : decode cL_law 807 = .ok (.iload 8, 2) := by decide +kernel
theorem dL_law_809 : decode cL_law 809 = .ok (.if_icmp .ge 38, 3) := by decide +kernel
theorem dL_law_812 : decode cL_law 812 = .ok (.iload_n 1, 1) := by decide +kernel
theorem dL_law_813 : decode cL_law 813 = .ok (.ifCond .eq 34, 3) := by decide +kernel
theorem dL_law_816 : decode cL_law 816 = .ok (.aload_n 3, 1) := by decide +kernel
theorem dL_law_817 : decode cL_law 817 = .ok (.invokevirtual 193, 3) := by decide +kernel
theorem dL_law_820 : decode cL_law 820 = .ok (.ifCond .lt 19, 3) := by decide +kernel
theorem dL_law_823 : decode cL_law 823 = .ok (.aload_n 3, 1) := by decide +kernel
theorem dL_law_824 : decode cL_law 824 = .ok (.aload 7, 2) := by decide +kernel
theorem dL_law_826 : decode cL_law 826 = .ok (.iload 9, 2) := by decide +kernel
theorem dL_law_828 : decode cL_law 828 = .ok (.aaload, 1) := by decide +kernel
theorem dL_law_829 : decode cL_law 829 = .ok (.invokestatic 186, 3) := by decide +kernel
theorem dL_law_832 : decode cL_law 832 = .ok (.ifCond .eq 7, 3) := by decide +kernel
theorem dL_law_835 : decode cL_law 835 = .ok (.iconst 1, 1) := by decide +kernel
theorem dL_law_836 : decode cL_law 836 = .ok (.goto 4, 3) := by decide +kernel
theorem dL_law_839 : decode cL_law 839 = .ok (.iconst 0, 1) := by decide +kernel
theorem dL_law_840 : decode cL_law 840 = .ok (.istore_n 1, 1) := by decide +kernel
theorem dL_law_841 : decode cL_law 841 = .ok (.iinc 9 1, 3) := by decide +kernel
theorem dL_law_844 : decode cL_law 844 = .ok (.goto (-46), 3) := by decide +kernel
theorem dL_law_847 : decode cL_law 847 = .ok (.iload_n 1, 1) := by decide +kernel
theorem dL_law_848 : decode cL_law 848 = .ok (.ifCond .eq 82, 3) := by decide +kernel
theorem dL_law_851 : decode cL_law 851 = .ok (.aload_n 3, 1) := by decide +kernel
theorem dL_law_852 : decode cL_law 852 = .ok (.iconst 1, 1) := by decide +kernel
theorem dL_law_853 : decode cL_law 853 = .ok (.invokestatic 19, 3) := by decide +kernel
theorem dL_law_856 : decode cL_law 856 = .ok (.ldc 42, 2) := by decide +kernel
theorem dL_law_858 : decode cL_law 858 = .ok (.if_icmp .ne 72, 3) := by decide +kernel
theorem dL_law_861 : decode cL_law 861 = .ok (.aload_n 3, 1) := by decide +kernel
theorem dL_law_862 : decode cL_law 862 = .ok (.iconst (-1), 1) := by decide +kernel
theorem dL_law_863 : decode cL_law 863 = .ok (.iconst 0, 1) := by decide +kernel
theorem dL_law_864 : decode cL_law 864 = .ok (.iconst 0, 1) := by decide +kernel
theorem dL_law_865 : decode cL_law 865 = .ok (.invokestatic 242, 3) := by decide +kernel
theorem dL_law_868 : decode cL_law 868 = .ok (.ldc 52, 2) := by decide +kernel
theorem dL_law_870 : decode cL_law 870 = .ok (.if_icmp .ne 60, 3) := by decide +kernel
theorem dL_law_873 : decode cL_law 873 = .ok (.aload_n 3, 1) := by decide +kernel
theorem dL_law_874 : decode cL_law 874 = .ok (.bipush 26, 2) := by decide +kernel
theorem dL_law_876 : decode cL_law 876 = .ok (.iconst 0, 1) := by decide +kernel
theorem dL_law_877 : decode cL_law 877 = .ok (.invokestatic 244, 3) := by decide +kernel
theorem dL_law_880 : decode cL_law 880 = .ok (.ldc 42, 2) := by decide +kernel
theorem dL_law_882 : decode cL_law 882 = .ok (.if_icmp .ne 48, 3) := by decide +kernel
theorem dL_law_885 : decode cL_law 885 = .ok (.aload_n 3, 1) := by decide +kernel
theorem dL_law_886 : decode cL_law 886 = .ok (.iconst (-1), 1) := by decide +kernel
theorem dL_law_887 : decode cL_law 887 = .ok (.invokestatic 246, 3) := by decide +kernel
theorem dL_law_890 : decode cL_law 890 = .ok (.ldc 65, 2) := by decide +kernel
theorem dL_law_892 : decode cL_law 892 = .ok (.if_icmp .ne 38, 3) := by decide +kernel
theorem dL_law_895 : decode cL_law 895 = .ok (.aload_n 3, 1) := by decide +kernel
theorem dL_law_896 : decode cL_law 896 = .ok (.iconst (-1), 1) := by decide +kernel
theorem dL_law_897 : decode cL_law 897 = .ok (.iconst 0, 1) := by decide +kernel
theorem dL_law_898 : decode cL_law 898 = .ok (.invokestatic 248, 3) := by decide +kernel
theorem dL_law_901 : decode cL_law 901 = .ok (.ldc 65, 2) := by decide +kernel
theorem dL_law_903 : decode cL_law 903 = .ok (.if_icmp .ne 27, 3) := by decide +kernel
theorem dL_law_906 : decode cL_law 906 = .ok (.aload_n 3, 1) := by decide +kernel
theorem dL_law_907 : decode cL_law 907 = .ok (.iconst 0, 1) := by decide +kernel
theorem dL_law_908 : decode cL_law 908 = .ok (.invokestatic 94, 3) := by decide +kernel
theorem dL_law_911 : decode cL_law 911 = .ok (.ldc 42, 2) := by decide +kernel
theorem dL_law_913 : decode cL_law 913 = .ok (.if_icmp .ne 17, 3) := by decide +kernel
theorem dL_law_916 : decode cL_law 916 = .ok (.aload_n 3, 1) := by decide +kernel
theorem dL_law_917 : decode cL_law 917 = .ok (.iconst 0, 1) := by decide +kernel
theorem dL_law_918 : decode cL_law 918 = .ok (.invokestatic 202, 3) := by decide +kernel
theorem dL_law_921 : decode cL_law 921 = .ok (.ldc 42, 2) := by decide +kernel
theorem dL_law_923 : decode cL_law 923 = .ok (.if_icmp .ne 7, 3) := by decide +kernel
theorem dL_law_926 : decode cL_law 926 = .ok (.iconst 1, 1) := by decide +kernel
theorem dL_law_927 : decode cL_law 927 = .ok (.goto 4, 3) := by decide +kernel
theorem dL_law_930 : decode cL_law 930 = .ok (.iconst 0, 1) := by decide +kernel
theorem dL_law_931 : decode cL_law 931 = .ok (.istore_n 1, 1) := by decide +kernel
theorem dL_law_932 : decode cL_law 932 = .ok (.iinc 2 1, 3) := by decide +kernel
theorem dL_law_935 : decode cL_law 935 = .ok (.goto (-931), 3) := by decide +kernel
theorem dL_law_938 : decode cL_law 938 = .ok (.iload_n 1, 1) := by decide +kernel
theorem dL_law_939 : decode cL_law 939 = .ok (.ireturn, 1) := by decide +kernel
end
section
/-! THE ABSTRACT MACHINE: a heap of numbered cells; the kinds of the fixed ones stand in one table, the others bear theirs in their number; a judgement AW over it, sound by the kit's rows -/
abbrev AH : Type := Nat × (Nat → Nat → Int32) × (Nat → Nat → Int64) × (Nat → Nat → Option Nat)
def hN (h : AH) : Nat := h.1
def hI (h : AH) : Nat → Nat → Int32 := h.2.1
def hL (h : AH) : Nat → Nat → Int64 := h.2.2.1
def hR (h : AH) : Nat → Nat → Option Nat := h.2.2.2
def up2 {α : Type} (f : Nat → Nat → α) (a j : Nat) (x : α) : Nat → Nat → α := fun b k => if b = a ∧ k = j then x else f b k
def upr {α : Type} (f : Nat → Nat → α) (a : Nat) (g : Nat → α) : Nat → Nat → α := fun b => if b = a then g else f b
def sI (h : AH) (a j : Nat) (x : Int32) : AH := (hN h, up2 (hI h) a j x, hL h, hR h)
def sL (h : AH) (a j : Nat) (x : Int64) : AH := (hN h, hI h, up2 (hL h) a j x, hR h)
def sR (h : AH) (a j : Nat) (x : Option Nat) : AH := (hN h, hI h, hL h, up2 (hR h) a j x)
def rI (h : AH) (a : Nat) (g : Nat → Int32) : AH := (hN h, upr (hI h) a g, hL h, hR h)
def nw (h : AH) : AH := (hN h + 1, upr (hI h) (hN h) (fun _ => 0), upr (hL h) (hN h) (fun _ => 0), upr (hR h) (hN h) (fun _ => none))
def nwM (h : AH) (n : Nat) : AH := (hN h + 1 + n, (fun b => if hN h ≤ b ∧ b ≤ hN h + n then (fun _ => 0) else hI h b), (fun b => if hN h ≤ b ∧ b ≤ hN h + n then (fun _ => 0) else hL h b),
  (fun b => if b = hN h then (fun i => if i < n then some (hN h + 1 + i) else none) else if hN h < b ∧ b ≤ hN h + n then (fun _ => none) else hR h b))
/-- a new cell of the name c behind the law's fixed cells -/
def cod : List Nat → Nat
  | [] => 0
  | a :: l => 2 ^ a * (2 * cod l + 1)
theorem pow2_odd {m n : Nat} : ∀ (a b : Nat), 2 ^ a * (2 * m + 1) = 2 ^ b * (2 * n + 1) → a = b ∧ m = n
  | 0, 0, h => by simp only [Nat.pow_zero, Nat.one_mul] at h; exact ⟨rfl, by omega⟩
  | 0, b + 1, h => by
    rw [Nat.pow_succ, Nat.mul_comm (2 ^ b) 2, Nat.mul_assoc] at h
    simp only [Nat.pow_zero, Nat.one_mul] at h
    omega
  | a + 1, 0, h => by
    rw [Nat.pow_succ, Nat.mul_comm (2 ^ a) 2, Nat.mul_assoc] at h
    simp only [Nat.pow_zero, Nat.one_mul] at h
    omega
  | a + 1, b + 1, h => by
    rw [Nat.pow_succ, Nat.pow_succ, Nat.mul_comm (2 ^ a) 2, Nat.mul_comm (2 ^ b) 2, Nat.mul_assoc, Nat.mul_assoc] at h
    have := pow2_odd a b (Nat.eq_of_mul_eq_mul_left (by decide) h)
    exact ⟨by omega, this.2⟩
theorem cod_pos (a : Nat) (l : List Nat) : 0 < cod (a :: l) := Nat.mul_pos (Nat.pow_pos (by decide)) (by omega)
theorem cod_inj : ∀ (l l2 : List Nat), cod l = cod l2 → l = l2
  | [], [], _ => rfl
  | [], b :: l2, h => absurd h (by have := cod_pos b l2; simp only [cod] at *; omega)
  | a :: l, [], h => absurd h (by have := cod_pos a l; simp only [cod] at *; omega)
  | a :: l, b :: l2, h => by
    obtain ⟨e1, e2⟩ := pow2_odd a b h
    rw [e1, cod_inj l l2 e2]
noncomputable def dec (n : Nat) : List Nat := @dite _ (∃ l, cod l = n) (Classical.propDecidable _) (fun h => Classical.choose h) (fun _ => [])
theorem dec_cod (l : List Nat) : dec (cod l) = l := by
  have h : ∃ l2, cod l2 = cod l := ⟨l, rfl⟩
  unfold dec
  rw [dif_pos h]
  exact cod_inj _ _ (Classical.choose_spec h)
/-- the cells that a stamp N has: the law's fixed ones, then those with a name of their own -/
noncomputable def dyn (N : Nat) : List Nat := dec (N - 68)
noncomputable def hC (N : Nat) : List Nat := List.range (min N 68) ++ dyn N
def prN (N a : Nat) : Prop := a ∈ hC N
noncomputable def dl (N : Nat) : Nat := (dyn N).length
noncomputable def adn (N c : Nat) : Nat := 68 + cod (dyn N ++ [c])
/-- names: a number in the order of the making, and what kind -/
def nm (k q : Nat) : Nat := 2000 + 1024 * k + q
def nmI (a : Nat) : Nat := (a - 2000) / 1024
def dOK (l : List Nat) : Prop := ∀ i a, l[i]? = some a → ∃ q, q < 1024 ∧ a = nm i q
noncomputable def nwD (h : AH) (c : Nat) : AH := (adn (hN h) c, upr (hI h) c (fun _ => 0), upr (hL h) c (fun _ => 0), upr (hR h) c (fun _ => none))
theorem dyn_low {N : Nat} (h : N ≤ 68) : dyn N = [] := by
  unfold dyn
  rw [Nat.sub_eq_zero_of_le h]
  exact dec_cod []
theorem dyn_adn {N c : Nat} : dyn (adn N c) = dyn N ++ [c] := by
  show dec (68 + cod (dyn N ++ [c]) - 68) = _
  rw [Nat.add_sub_cancel_left, dec_cod]
theorem adn_ge {N c : Nat} : 68 ≤ adn N c := Nat.le_add_right _ _
theorem dl_adn {N c : Nat} : dl (adn N c) = dl N + 1 := by unfold dl; rw [dyn_adn, List.length_append]; rfl
theorem prN_iff {N a : Nat} : prN N a ↔ (a < N ∧ a < 68) ∨ a ∈ dyn N := by
  unfold prN hC
  rw [List.mem_append, List.mem_range, Nat.lt_min]
theorem prN_low {N a : Nat} (h : N ≤ 68) : prN N a ↔ a < N := by
  rw [prN_iff, dyn_low h]
  simp
  omega
theorem prN_st {N a : Nat} (h : a < N) (h2 : a < 68) : prN N a := prN_iff.mpr (Or.inl ⟨h, h2⟩)
theorem prN_adn {N c a : Nat} (h : 68 ≤ N) : prN (adn N c) a ↔ prN N a ∨ a = c := by
  rw [prN_iff, prN_iff, dyn_adn, List.mem_append, List.mem_singleton]
  have := @adn_ge N c
  constructor
  · rintro (z | z | z)
    · exact Or.inl (Or.inl (by omega))
    · exact Or.inl (Or.inr z)
    · exact Or.inr z
  · rintro ((z | z) | z)
    · exact Or.inl (by omega)
    · exact Or.inr (Or.inl z)
    · exact Or.inr (Or.inr z)
theorem dOK_mem {l : List Nat} (h : dOK l) {a : Nat} (ha : a ∈ l) : ∃ k q, k < l.length ∧ q < 1024 ∧ a = nm k q := by
  obtain ⟨i, hi⟩ := List.mem_iff_getElem?.mp ha
  obtain ⟨q, hq, e⟩ := h i a hi
  exact ⟨i, q, (List.getElem?_eq_some_iff.mp hi).1, hq, e⟩
theorem nm_inj {i j q r : Nat} (hq : q < 1024) (hr : r < 1024) (e : nm i q = nm j r) : i = j ∧ q = r := by unfold nm at e; omega
theorem dOK_nd {l : List Nat} (h : dOK l) : l.Nodup := by
  rw [List.nodup_iff_pairwise_ne, List.pairwise_iff_getElem]
  intro i j hi hj hij e
  obtain ⟨q, hq, e1⟩ := h i _ (List.getElem?_eq_getElem hi)
  obtain ⟨r, hr, e2⟩ := h j _ (List.getElem?_eq_getElem hj)
  rw [e1, e2] at e
  have := (nm_inj hq hr e).1
  omega
theorem hC_nd {N : Nat} (h : dOK (dyn N)) : (hC N).Nodup := by
  unfold hC
  rw [List.nodup_append]
  refine ⟨List.nodup_range, dOK_nd h, fun a ha b hb e => ?_⟩
  have ha := List.mem_range.mp ha
  obtain ⟨k, q, -, -, e2⟩ := dOK_mem h hb
  unfold nm at e2
  omega
theorem dOK_add {N k q : Nat} (h : dOK (dyn N)) (hk : k = dl N) (hq : q < 1024) : dOK (dyn (adn N (nm k q))) := by
  rw [dyn_adn]
  intro i a hi
  rcases Nat.lt_or_ge i (dyn N).length with z | z
  · rw [List.getElem?_append_left z] at hi
    exact h i a hi
  · rw [List.getElem?_append_right z] at hi
    have e0 : i - (dyn N).length = 0 := by
      have := (List.getElem?_eq_some_iff.mp hi).1
      simp at this
      omega
    rw [e0] at hi
    cases hi
    exact ⟨q, hq, by rw [hk, show i = dl N by unfold dl; omega]⟩
theorem nm_new {N k q : Nat} (h : dOK (dyn N)) (hk : k = dl N) (hq : q < 1024) : ¬ prN N (nm k q) := by
  rw [prN_iff]
  rintro (z | z)
  · unfold nm at z; omega
  · obtain ⟨i, r, hi, hr, e⟩ := dOK_mem h z
    have := (nm_inj hq hr e).1
    unfold dl at hk
    omega
/-- the kinds of the fixed cells, in the order of their making: .inl class, .inr (0 int, 1 byte, 2 boolean, 3 long, 4 Sheet, 5 int[] rows, 6 String, 7 the law's Sheet; length) -/
def shL : List (Nat ⊕ (Nat × Nat)) :=
  [.inl 4, .inr (1, 400), .inl 3, .inr (0, 96), .inr (0, 12), .inr (0, 24), .inr (4, 8), .inl 2, .inl 3, .inr (0, 96), .inr (0, 12), .inr (0, 24), .inr (1, 400),
   .inl 0, .inr (3, 24), .inr (0, 48), .inl 1, .inl 0, .inr (3, 24), .inr (0, 48), .inr (3, 8), .inr (3, 96), .inr (5, 8),
   .inr (0, 96), .inr (0, 96), .inr (0, 96), .inr (0, 96), .inr (0, 96), .inr (0, 96), .inr (0, 96), .inr (0, 96), .inr (0, 9), .inr (0, 8), .inr (0, 8),
   .inl 3, .inr (0, 96), .inr (0, 12), .inr (0, 24), .inl 3, .inr (0, 96), .inr (0, 12), .inr (0, 24), .inl 3, .inr (0, 96), .inr (0, 12), .inr (0, 24), .inl 3, .inr (0, 96), .inr (0, 12), .inr (0, 24),
   .inl 3, .inr (0, 96), .inr (0, 12), .inr (0, 24), .inl 3, .inr (0, 96), .inr (0, 12), .inr (0, 24), .inl 3, .inr (0, 96), .inr (0, 12), .inr (0, 24), .inl 3, .inr (0, 96), .inr (0, 12), .inr (0, 24),
   .inr (0, 8), .inl 5]
def shK (a : Nat) : Option (Nat ⊕ (Nat × Nat)) := shL[a]?
def kdK (q : Nat) : Option (Nat ⊕ (Nat × Nat)) := if q < 9 then some (.inl q) else if 16 ≤ q ∧ q < 528 then some (.inr ((q - 16) / 64, (q - 16) % 64)) else none
def kdA (a : Nat) : Option (Nat ⊕ (Nat × Nat)) := if a < 2000 then shK a else kdK ((a - 2000) % 1024)
def qA (t n : Nat) : Nat := 16 + 64 * t + n
theorem shK_lt {a : Nat} {k : Nat ⊕ (Nat × Nat)} (hs : shK a = some k) : a < 68 := by
  have := (List.getElem?_eq_some_iff.mp hs).1
  simpa [shL] using this
theorem kdA_sh {a : Nat} {k : Nat ⊕ (Nat × Nat)} (hs : shK a = some k) : kdA a = some k := by
  have := shK_lt hs
  unfold kdA
  rw [if_pos (by omega)]
  exact hs
theorem kdA_nm {k q : Nat} (hq : q < 1024) : kdA (nm k q) = kdK q := by
  unfold kdA nm
  rw [if_neg (by omega), show (2000 + 1024 * k + q - 2000) % 1024 = q by omega]
theorem kdA_c {k q : Nat} (hq : q < 9) : kdA (nm k q) = some (.inl q) := by rw [kdA_nm (by omega)]; exact if_pos hq
theorem kdA_a {k t n : Nat} (ht : t < 8) (hn : n < 64) : kdA (nm k (qA t n)) = some (.inr (t, n)) := by
  unfold qA
  rw [kdA_nm (by omega)]
  unfold kdK
  rw [if_neg (by omega), if_pos (by omega), show (16 + 64 * t + n - 16) / 64 = t by omega, show (16 + 64 * t + n - 16) % 64 = n by omega]
theorem pr_sh {h : AH} {a : Nat} {k : Nat ⊕ (Nat × Nat)} (hs : shK a = some k) (ha : a < hN h) : prN (hN h) a := prN_st ha (shK_lt hs)
def nF (ci : Nat) : Nat := match ci with | 0 => 4 | 1 => 10 | 2 => 10 | 3 => 10 | 4 => 10 | 5 => 1 | 6 => 13 | _ => 4
def fT (ci : Nat) : Nat → FieldType := match ci with | 0 => tyX0 | 1 => tyX1 | 2 => tyX2 | 3 => tyX3 | 4 => tyX4 | 5 => tyX5 | 6 => tyX6 | 7 => tyJ0 | _ => tyJ4
def cT (ci : Nat) : u_T := match ci with | 0 => TX0 | 1 => TX1 | 2 => TX2 | 3 => TX3 | 4 => TX4 | 5 => TX5 | 6 => TX6 | 7 => TJ0 | _ => TJ4
def cR (ci : Nat) : String := match ci with | 0 => RX0 | 1 => RX1 | 2 => RX2 | 3 => RX3 | 4 => RX4 | 5 => RX5 | 6 => RX6 | 7 => RJ0 | _ => RJ4
def kT (ty : FieldType) : Nat := match ty with | .long => 1 | .object _ => 2 | .array _ => 2 | _ => 0
def fK (ci k : Nat) : Nat := kT (fT ci k)
def tyF (t : Nat) : FieldType := match t with | 0 => .int | 1 => .byte | 2 => .boolean | 3 => .long | 4 => .object "LetterCuts$Sheet" | 5 => .array .int | 6 => .object "java/lang/String" | _ => .object "LetterCutsLaw$Sheet"
def tysOf (cls : Nat → ClassId) : List (ClassId × FieldType) := [(cls 0, .int), (cls 1, .byte), (cls 2, .boolean), (cls 3, .long), (cls 4, .object "LetterCuts$Sheet"), (cls 5, .array .int), (cls 6, .object "java/lang/String"), (cls 7, .object "LetterCutsLaw$Sheet")]
def fv (ad : Nat → Nat) (h : AH) (a ci k : Nat) : Value := if fK ci k = 0 then .int (hI h a k) else if fK ci k = 1 then .long (hL h a k) else va_rf ((hR h a k).map ad)
def aC (ad : Nat → Nat) (h : AH) (a t n : Nat) : vp_A := (n, if t ≤ 2 then .inl (hI h a) else if t = 3 then .inr (.inl (hL h a)) else .inr (.inr (.inr (.inr (fun j => (hR h a j).map ad)))))
def ceK (cls : Nat → ClassId) (ad : Nat → Nat) (h : AH) (a : Nat) (k : Option (Nat ⊕ (Nat × Nat))) : va_E := match k with
  | some (.inl ci) => .inr (ci, (List.range (nF ci)).map (fv ad h a ci))
  | some (.inr (t, n)) => .inl (cls t, aC ad h a t n)
  | none => .inr (0, [])
def ce (cls : Nat → ClassId) (ad : Nat → Nat) (h : AH) (a : Nat) : va_E := ceK cls ad h a (kdA a)
noncomputable def wld (cls : Nat → ClassId) (ad : Nat → Nat) (h : AH) : va_W := (hC (hN h)).map (fun a => (ad a, ce cls ad h a))
/-- what lies outside the world, by fixed numbers -/
def ext (a : Nat) : Prop := 1000 ≤ a ∧ a < 1100 ∧ a ≠ 1030
theorem ext_no {N a : Nat} (h : dOK (dyn N)) (ha : ext a) : ¬ prN N a := by
  rw [prN_iff]
  unfold ext at ha
  rintro (z | z)
  · omega
  · obtain ⟨k, q, -, -, e⟩ := dOK_mem h z
    unfold nm at e
    omega
def wfh (h : AH) : Prop := dOK (dyn (hN h)) ∧ ∀ a j k, prN (hN h) a → hR h a j = some k → prN (hN h) k ∨ ext k
/-- an abstract value's own value: the cells by their addresses -/
def cv (ad : Nat → Nat) : Value → Value
  | .ref a => .ref (ad a)
  | v => v
theorem cv_cat (ad : Nat → Nat) (v : Value) : (cv ad v).category = v.category := by cases v <;> rfl
-- locals
def lget (i : Nat) : List (Nat × Value) → Option Value
  | [] => none
  | q :: r => if q.1 = i then some q.2 else lget i r
def lins (i : Nat) (v : Value) : List (Nat × Value) → List (Nat × Value)
  | [] => [(i, v)]
  | q :: r => if i < q.1 then (i, v) :: q :: r else q :: lins i v r
def ls1 (i : Nat) (v : Value) (ls : List (Nat × Value)) : List (Nat × Value) := lins i v (ls.filter (fun q => !(q.1 == i) && !(q.1 + 1 == i && q.2.category == 2)))
def ls2 (i : Nat) (v : Value) (ls : List (Nat × Value)) : List (Nat × Value) := lins i v (ls.filter (fun q => !(q.1 == i) && (!(q.1 == i + 1) && !(q.1 + 1 == i && q.2.category == 2))))
def cl1 (ad : Nat → Nat) (q : Nat × Value) : Nat × Value := (q.1, cv ad q.2)
theorem lget_mem {i : Nat} {v : Value} : ∀ {ls : List (Nat × Value)}, lget i ls = some v → (i, v) ∈ ls
  | [], h => by simp [lget] at h
  | q :: r, h => by
    unfold lget at h
    split at h
    · rename_i e
      cases h
      rw [← e]
      exact List.mem_cons_self
    · exact List.mem_cons_of_mem _ (lget_mem h)
theorem lins_mem {i : Nat} {v : Value} {q : Nat × Value} : ∀ {l : List (Nat × Value)}, q ∈ lins i v l → q ∈ (i, v) :: l
  | [], h => h
  | p :: r, h => by
    unfold lins at h
    split at h
    · exact h
    · rcases List.mem_cons.mp h with rfl | h
      · simp
      · rcases List.mem_cons.mp (lins_mem h) with rfl | h
        · simp
        · exact List.mem_cons_of_mem _ (List.mem_cons_of_mem _ h)
theorem lv_has_of {A : Array Slot} {n : Nat} {l l' : List (Nat × Value)} (h : lv_has A n l) (hs : ∀ q ∈ l', q ∈ l) : lv_has A n l' := ⟨h.1, h.2.1, fun q hq => h.2.2 q (hs q hq)⟩
theorem filt_map {ad : Nat → Nat} {f : Nat × Value → Bool} (hf : ∀ q, f (cl1 ad q) = f q) (ls : List (Nat × Value)) : (ls.map (cl1 ad)).filter f = (ls.filter f).map (cl1 ad) := by
  induction ls with
  | nil => rfl
  | cons q r ih =>
    rw [List.map_cons, List.filter_cons, List.filter_cons, hf q]
    split
    · rw [ih, List.map_cons]
    · exact ih
theorem ls1_has {A : Array Slot} {n : Nat} {ad : Nat → Nat} {i : Nat} {v : Value} {ls : List (Nat × Value)} (h : lv_has A n ((i, cv ad v) :: (ls.map (cl1 ad)).filter (fun q => !(q.1 == i) && !(q.1 + 1 == i && q.2.category == 2)))) : lv_has A n ((ls1 i v ls).map (cl1 ad)) := by
  rw [filt_map (fun q => by simp only [cl1, cv_cat])] at h
  refine lv_has_of h (fun q hq => ?_)
  obtain ⟨p, hp, rfl⟩ := List.mem_map.mp hq
  rcases List.mem_cons.mp (lins_mem hp) with rfl | hp
  · exact List.mem_cons_self
  · exact List.mem_cons_of_mem _ (List.mem_map.mpr ⟨p, hp, rfl⟩)
theorem ls2_has {A : Array Slot} {n : Nat} {ad : Nat → Nat} {i : Nat} {v : Value} {ls : List (Nat × Value)} (h : lv_has A n ((i, cv ad v) :: (ls.map (cl1 ad)).filter (fun q => !(q.1 == i) && (!(q.1 == i + 1) && !(q.1 + 1 == i && q.2.category == 2))))) : lv_has A n ((ls2 i v ls).map (cl1 ad)) := by
  rw [filt_map (fun q => by simp only [cl1, cv_cat])] at h
  refine lv_has_of h (fun q hq => ?_)
  obtain ⟨p, hp, rfl⟩ := List.mem_map.mp hq
  rcases List.mem_cons.mp (lins_mem hp) with rfl | hp
  · exact List.mem_cons_self
  · exact List.mem_cons_of_mem _ (List.mem_map.mpr ⟨p, hp, rfl⟩)
theorem lget_at {A : Array Slot} {n : Nat} {ad : Nat → Nat} {i : Nat} {v : Value} {ls : List (Nat × Value)} (h : lv_has A n (ls.map (cl1 ad))) (hv : lget i ls = some v) : A[i]? = some (.val (cv ad v)) :=
  h.2.2 (i, cv ad v) (List.mem_map.mpr ⟨(i, v), lget_mem hv, rfl⟩)
-- the world's cells
theorem wld_at {cls : Nat → ClassId} {ad : Nat → Nat} {h : AH} {a : Nat} (ha : prN (hN h) a) : ∃ i : Nat, (hC (hN h))[i]? = some a ∧ (wld cls ad h)[i]? = some (ad a, ce cls ad h a) := by
  obtain ⟨i, hi⟩ := List.mem_iff_getElem?.mp ha
  exact ⟨i, hi, by unfold wld; rw [List.getElem?_map, hi]; rfl⟩
theorem ce_congr {cls : Nat → ClassId} {ad ad' : Nat → Nat} {h h' : AH} {a : Nat} (e1 : hI h' a = hI h a) (e2 : hL h' a = hL h a) (e3 : ∀ j, (hR h' a j).map ad' = (hR h a j).map ad) : ce cls ad' h' a = ce cls ad h a := by
  have f : ∀ ci, fv ad' h' a ci = fv ad h a ci := fun ci => funext fun k => by simp only [fv, e1, e2, e3]
  have g : ∀ t n, aC ad' h' a t n = aC ad h a t n := fun t n => by simp only [aC, e1, e2, funext e3]
  unfold ce ceK
  split
  · rw [f]
  · rw [g]
  · rfl
theorem wld_set {cls : Nat → ClassId} {ad : Nat → Nat} {h h' : AH} {a i : Nat} {e : va_E} (hi : (hC (hN h))[i]? = some a) (hw : wfh h) (hn : hN h' = hN h) (ho : ∀ b, b ≠ a → ce cls ad h' b = ce cls ad h b) (he : e = ce cls ad h' a) : (wld cls ad h).set i (ad a, e) = wld cls ad h' := by
  subst he
  apply List.ext_getElem?
  intro j
  have hlen := (List.getElem?_eq_some_iff.mp hi).1
  unfold wld
  rw [List.getElem?_set, hn, List.getElem?_map, List.getElem?_map, List.length_map]
  by_cases e : i = j
  · subst e
    rw [if_pos rfl, if_pos hlen, hi]
    rfl
  · rw [if_neg e]
    cases hj : (hC (hN h))[j]? with
    | none => rfl
    | some b =>
      have hne : b ≠ a := by
        intro z
        subst z
        obtain ⟨l1, e1⟩ := List.getElem?_eq_some_iff.mp hi
        obtain ⟨l2, e2⟩ := List.getElem?_eq_some_iff.mp hj
        have nd := List.pairwise_iff_getElem.mp (List.nodup_iff_pairwise_ne.mp (hC_nd hw.1))
        rcases Nat.lt_or_gt_of_ne e with z | z
        · exact nd i j l1 l2 z (e1.trans e2.symm)
        · exact nd j i l2 l1 z (e2.trans e1.symm)
      simp only [Option.map_some, ho b hne]
theorem range_set {f : Nat → Value} {n k : Nat} {v : Value} (hk : k < n) : ((List.range n).map f).set k v = (List.range n).map (fun j => if j = k then v else f j) := by
  apply List.ext_getElem?
  intro i
  rw [List.getElem?_set]
  by_cases hi : i < n
  · by_cases e : k = i
    · subst e
      simp [hk]
    · have e' : ¬ i = k := fun q => e q.symm
      simp [e, e', hi]
  · have e : ¬ k = i := fun q => hi (q ▸ hk)
    have e' : ¬ i = k := fun q => e q.symm
    simp [e, e', hi]
-- read and write of the abstract heap
theorem up2_row {α : Type} {f : Nat → Nat → α} {a j b : Nat} {x : α} (hb : b ≠ a) : up2 f a j x b = f b := funext fun k => if_neg (fun q => hb q.1)
theorem upr_row {α : Type} {f : Nat → Nat → α} {a b : Nat} {g : Nat → α} (hb : b ≠ a) : upr f a g b = f b := if_neg hb
theorem up2_self {α : Type} {f : Nat → Nat → α} {a j k : Nat} {x : α} : up2 f a j x a k = if k = j then x else f a k := by
  by_cases e : k = j <;> simp [up2, e]
theorem hN_sI {h : AH} {a j : Nat} {x : Int32} : hN (sI h a j x) = hN h := rfl
theorem hN_sL {h : AH} {a j : Nat} {x : Int64} : hN (sL h a j x) = hN h := rfl
theorem hN_sR {h : AH} {a j : Nat} {x : Option Nat} : hN (sR h a j x) = hN h := rfl
theorem hN_rI {h : AH} {a : Nat} {g : Nat → Int32} : hN (rI h a g) = hN h := rfl
theorem hI_sI {h : AH} {a j b k : Nat} {x : Int32} : hI (sI h a j x) b k = if b = a ∧ k = j then x else hI h b k := rfl
theorem hL_sI {h : AH} {a j : Nat} {x : Int32} : hL (sI h a j x) = hL h := rfl
theorem hR_sI {h : AH} {a j : Nat} {x : Int32} : hR (sI h a j x) = hR h := rfl
theorem hI_sL {h : AH} {a j : Nat} {x : Int64} : hI (sL h a j x) = hI h := rfl
theorem hL_sL {h : AH} {a j b k : Nat} {x : Int64} : hL (sL h a j x) b k = if b = a ∧ k = j then x else hL h b k := rfl
theorem hR_sL {h : AH} {a j : Nat} {x : Int64} : hR (sL h a j x) = hR h := rfl
theorem hI_sR {h : AH} {a j : Nat} {x : Option Nat} : hI (sR h a j x) = hI h := rfl
theorem hL_sR {h : AH} {a j : Nat} {x : Option Nat} : hL (sR h a j x) = hL h := rfl
theorem hR_sR {h : AH} {a j b k : Nat} {x : Option Nat} : hR (sR h a j x) b k = if b = a ∧ k = j then x else hR h b k := rfl
theorem hI_rI {h : AH} {a b : Nat} {g : Nat → Int32} : hI (rI h a g) b = if b = a then g else hI h b := rfl
theorem hL_rI {h : AH} {a : Nat} {g : Nat → Int32} : hL (rI h a g) = hL h := rfl
theorem hR_rI {h : AH} {a : Nat} {g : Nat → Int32} : hR (rI h a g) = hR h := rfl
-- the kinds
theorem ce_obj {cls : Nat → ClassId} {ad : Nat → Nat} {h : AH} {a ci : Nat} (hs : kdA a = some (.inl ci)) : ce cls ad h a = .inr (ci, (List.range (nF ci)).map (fv ad h a ci)) := by unfold ce; rw [hs]; rfl
theorem ce_arr {cls : Nat → ClassId} {ad : Nat → Nat} {h : AH} {a t n : Nat} (hs : kdA a = some (.inr (t, n))) : ce cls ad h a = .inl (cls t, aC ad h a t n) := by unfold ce; rw [hs]; rfl
theorem kdK_ok {q : Nat} {x : Nat ⊕ (Nat × Nat)} (h : kdK q = some x) : (∀ ci, x = .inl ci → ci < 9) ∧ ∀ t n, x = .inr (t, n) → t < 8 ∧ n ≤ 4096 := by
  unfold kdK at h
  split at h
  · cases h
    refine ⟨fun ci e => ?_, fun t n e => (by cases e)⟩
    cases e
    assumption
  · split at h
    · cases h
      refine ⟨fun ci e => (by cases e), fun t n e => ?_⟩
      cases e
      omega
    · cases h
theorem shK_ok {a : Nat} {x : Nat ⊕ (Nat × Nat)} (h : shK a = some x) : (∀ ci, x = .inl ci → ci < 9) ∧ ∀ t n, x = .inr (t, n) → t < 8 ∧ n ≤ 4096 := by
  have h1 : shL.all (fun x => match x with | .inl ci => decide (ci < 9) | .inr (t, n) => decide (t < 8) && decide (n ≤ 4096)) = true := by decide +kernel
  have h2 := List.all_eq_true.mp h1 x (List.mem_of_getElem? h)
  refine ⟨fun ci e => ?_, fun t n e => ?_⟩
  · subst e; simpa using h2
  · subst e; simpa using h2
theorem kdA_ok {a : Nat} {x : Nat ⊕ (Nat × Nat)} (h : kdA a = some x) : (∀ ci, x = .inl ci → ci < 9) ∧ ∀ t n, x = .inr (t, n) → t < 8 ∧ n ≤ 4096 := by
  unfold kdA at h
  split at h
  · exact shK_ok h
  · exact kdK_ok h
theorem kdA_ci {a ci : Nat} (hs : kdA a = some (.inl ci)) : ci < 9 := (kdA_ok hs).1 ci rfl
theorem kdA_len {a t n : Nat} (hs : kdA a = some (.inr (t, n))) : t < 8 ∧ n ≤ 4096 := (kdA_ok hs).2 t n rfl
theorem shK_len {a t n : Nat} (hs : shK a = some (.inr (t, n))) : t < 8 ∧ n ≤ 4096 := (shK_ok hs).2 t n rfl
theorem vwCl_at {ci : Nat} (h : ci < 9) : vwCl[ci]? = some (cR ci, cT ci, nF ci) := by
  match ci, h with
  | 0, _ => rfl
  | 1, _ => rfl
  | 2, _ => rfl
  | 3, _ => rfl
  | 4, _ => rfl
  | 5, _ => rfl
  | 6, _ => rfl
  | 7, _ => rfl
  | 8, _ => rfl
end
section
/-! what a method finds around its world: the script, five String constants, two statics of Throwable, words that change form under warming -/
/-- the last: whether the end forgets the cells (the law's does) -/
abbrev XT : Type := (Nat × Nat × (Nat → Int32)) × (Nat → Nat) × (Nat → Nat) × Nat × Bool
def xF (X : XT) : Bool := X.2.2.2.2
def isNw : Cond → Bool
  | .methodLinkNest .. => true
  | .fieldLinkNest .. => true
  | .castable .. => true
  | .declares .. => true
  | _ => false
def zLen : List Nat := [4, 5, 4, 5, 5, 1, 0, 5, 1, 6, 5, 6, 7, 2]
def zByt : List (List Int32) := [[112, 97, 103, 101], [102, 114, 111, 110, 116], [98, 97, 99, 107], [115, 105, 122, 101, 115], [108, 101, 97, 115, 116], [45], [], [112, 97, 103, 101, 32], [32], [59, 102, 114, 111, 110, 116], [59, 98, 97, 99, 107], [59, 115, 105, 122, 101, 115], [59, 108, 101, 97, 115, 116, 32], [32, 59]]
def zStr : List (String × Nat × String × Nat) := [(RX2, 79, "page", 0), (RX2, 99, "front", 1), (RX2, 105, "back", 2), (RX2, 107, "sizes", 3), (RX2, 112, "least", 4), (RX6, 18, "-", 5), (RX6, 35, "", 6), (RL, 96, "", 6), (RL, 141, "page ", 7), (RL, 146, " ", 8), (RL, 148, ";front", 9), (RL, 150, ";back", 10), (RL, 152, ";sizes", 11), (RL, 156, ";least ", 12), (RL, 158, " ;", 13)]
abbrev eIA : String := "java/lang/IllegalArgumentException"
abbrev eIO : String := "java/lang/IndexOutOfBoundsException"
abbrev eNS : String := "java/util/NoSuchElementException"
abbrev eIS : String := "java/lang/IllegalStateException"
def zNc : List (String × String) := [(eIA, eIO), (eIA, eNS), (eIS, eIO), (eIS, eIA)]
abbrev zF1 : String := "jdk/internal/util/Preconditions"
abbrev zF2 : String := "SIOOBE_FORMATTER"
abbrev zF3 : String := "Ljava/util/function/BiFunction;"
def EV (X : XT) (A : Nat → Prop) (U : State) (H : Heap) : Prop :=
  (∀ w, w ∈ tables_1 → isNw w = true → va_Nw w U) ∧ (∀ q ∈ zNc, va_Nc q.1 q.2 U) ∧ (va_AO "LetterCuts$Sheet" U ∧ va_AO "java/lang/String" U ∧ va_AO "LetterCutsLaw$Sheet" U) ∧ va_AOA .int U ∧
  vk_S 14 zLen zByt X.2.1 X.2.2.1 A U H ∧ (∀ q ∈ zStr, vk_R q.1 q.2.1 q.2.2.1 (X.2.1 q.2.2.2) U) ∧
  va_Z "java/lang/String" "COMPACT_STRINGS" "Z" (.int 1) A U H ∧ vx_Zq Bundle.tN "UNASSIGNED_STACK" Bundle.steD A U H ∧ vx_Zq Bundle.tN "SUPPRESSED_SENTINEL" Bundle.listD A U H ∧
  (va_X X.1.1 X.1.2.1 X.1.2.2 U H ∧ X.1.1 < H.size ∧ ¬ A X.1.1) ∧ (va_Z zF1 zF2 zF3 .null A U H ∨ va_Z zF1 zF2 zF3 (.ref X.2.2.2.1) A U H)
theorem nw_warm {s U : State} (hW : s.WarmedH U.vm) {w : Cond} (hw : isNw w = true) (h : va_Nw w s) : va_Nw w U := by
  cases w <;> first | exact va_Nw.warmM hW h | exact va_Nw.warmF hW h | exact va_Nw.warmC hW h | exact va_Nw.warmD hW h | (simp [isNw] at hw)
theorem nw_same {U U' : State} (hv : U.vm = U'.vm) {w : Cond} (hw : isNw w = true) (h : va_Nw w U) : va_Nw w U' := by
  cases w <;> first | exact va_Nw.same rfl hv h | (simp [isNw] at hw)
theorem va_AOA.moved {ty : FieldType} {u U : State} (hvm : u.vm.Alike U.vm) (h : va_AOA ty u) : va_AOA ty U := by
  unfold va_AOA at h
  rw [← Cond.arrayOver_setVmC (args := #[]) hvm (.array ty)] at h
  exact h
theorem EV.call {X : XT} {A A' : Nat → Prop} {s U : State} {H : Heap} {locs : List Loc} (h : EV X A s s.heap) (hW : s.WarmedH U.vm) (hU : U.heap = H) (hS : va_S A s.heap H locs) (hA : ∀ q, A' q → A q) : EV X A' U U.heap := by
  subst hU
  obtain ⟨h1, h2, h3, h4, h5, h6, h7, h8, h9, ⟨h10, h11, h12⟩, h13⟩ := h
  exact ⟨fun w hw hn => nw_warm hW hn (h1 w hw hn), fun q hq => va_Nc.moved hW.alike (h2 q hq), ⟨va_AO.moved hW.alike h3.1, va_AO.moved hW.alike h3.2.1, va_AO.moved hW.alike h3.2.2⟩, va_AOA.moved hW.alike h4,
    ((h5.kept hS.2.1).narrow hA).moved hW.alike, fun q hq => vk_R.warm hW (h6 q hq), ((h7.kept hS.2.1).narrow hA).moved hW.alike, ((h8.kept hS.2.1).narrow hA).moved hW.alike, ((h9.kept hS.2.1).narrow hA).moved hW.alike,
    ⟨(h10.kept (hS.2.1 _ h11 h12)).moved hW.alike, Nat.lt_of_lt_of_le h11 hS.1, fun z => h12 (hA _ z)⟩, h13.imp (fun z => ((z.kept hS.2.1).narrow hA).moved hW.alike) (fun z => ((z.kept hS.2.1).narrow hA).moved hW.alike)⟩
theorem EV.same {X : XT} {A : Nat → Prop} {U U' : State} {H : Heap} (hv : U'.vm = U.vm) (h : EV X A U H) : EV X A U' H := by
  have ha : U.vm.Alike U'.vm := by rw [hv]; exact Vm.Alike.refl _
  obtain ⟨h1, h2, h3, h4, h5, h6, h7, h8, h9, ⟨h10, h11, h12⟩, h13⟩ := h
  exact ⟨fun w hw hn => nw_same hv.symm hn (h1 w hw hn), fun q hq => va_Nc.moved ha (h2 q hq), ⟨va_AO.moved ha h3.1, va_AO.moved ha h3.2.1, va_AO.moved ha h3.2.2⟩, va_AOA.moved ha h4,
    h5.moved ha, fun q hq => vk_R.same hv (h6 q hq), h7.moved ha, h8.moved ha, h9.moved ha, ⟨h10.moved ha, h11, h12⟩, h13.imp (fun z => z.moved ha) (fun z => z.moved ha)⟩
/-- the addresses of the script, the Strings and their bytes, under the numbers from 1000 on -/
def adOK (X : XT) (ad : Nat → Nat) : Prop := ad 1000 = X.1.1 ∧ (∀ i, i < 14 → ad (1001 + i) = X.2.1 i) ∧ (∀ i, i < 14 → ad (1041 + i) = X.2.2.1 i) ∧ ad 1020 = X.2.2.2.1
/-! the judgement -/
abbrev MT : Type := MethodName × ByteArray × Nat × Option FieldType × List (Nat × Nat × Nat × Nat)
abbrev Res : Type := Option Value ⊕ String
def mN (t : MT) : MethodName := t.1
def mB (t : MT) : ByteArray := t.2.1
def mL (t : MT) : Nat := t.2.2.1
def mR (t : MT) : Option FieldType := t.2.2.2.1
def mH (t : MT) : List (Nat × Nat × Nat × Nat) := t.2.2.2.2
def CX (X : XT) (mt : MT) (l : Launch) (d : Nat) (R : Room) (p : Program) (s : State) (m : MethodId) (args : Array Value) (meth : Method) (c : Code) (A : Nat → Prop) (G : va_G) (cls : Nat → ClassId) : Prop :=
  p.tables.exec = Jvm.exec ∧ c.code = mB mt ∧ c.maxLocals = mL mt ∧ s.vm.findClass (mN mt).cls = some m.cls ∧ (∀ w, w ∈ lw_tbl → goodWord w = true → w.before args s = true) ∧ meth.locks = false ∧ l.stackTraces = false ∧
  c.exceptionTable.toList = tableOf (mH mt) ∧ meth.name = (mN mt).name ∧ (∀ q, s.heap.size ≤ q → A q) ∧ va_K G vwCl (tysOf cls) s ∧ EV X A s s.heap ∧ d ≤ R.frames ∧ 40 * d ≤ R.locals
def WD (X : XT) (A : Nat → Prop) (G : va_G) (cls : Nat → ClassId) (s : State) (h : AH) (ad : Nat → Nat) (H : Heap) (locs : List Loc) : Prop :=
  va_P G vwCl (wld cls ad h) H ∧ va_D A (wld cls ad h) ∧ va_S A s.heap H locs ∧ wfh h ∧ adOK X ad
def retOK (mt : MT) (ins : Instr) (v : Option Value) : Prop := (v = none ∧ ins = .return_ ∧ mR mt = none) ∨ (∃ x ty, v = some (.int x) ∧ ins = .ireturn ∧ mR mt = some ty ∧ narrow ty (.int x) = .int x) ∨ (∃ x, v = some (.long x) ∧ ins = .lreturn ∧ mR mt = some .long) ∨ (∃ x, v = some (.double x) ∧ ins = .dreturn ∧ mR mt = some .double) ∨ (∃ a ty, v = some (.ref a) ∧ ins = .areturn ∧ mR mt = some ty ∧ a ≠ 1030 ∧ kT ty = 2)
/-- 'throw new E()' at pc, and the words that it wants -/
def thrOK (mt : MT) (pc : Nat) (E : String) : Prop := ∃ ik ic names, decode (mB mt) pc = .ok (.new ik, 3) ∧ decode (mB mt) (pc + 3) = .ok (.dup, 1) ∧ decode (mB mt) (pc + 4) = .ok (.invokespecial ic, 3) ∧ decode (mB mt) (pc + 7) = .ok (.athrow, 1) ∧
  Bundle.fit E = true ∧ (∀ n ∈ names, Bundle.fit n = true) ∧ names.length ≤ 3 ∧ (∀ w ∈ Cond.classLink (mN mt).cls ik E :: Cond.initialized E :: vx_at0 (mN mt).cls ic E names, w ∈ lw_tbl ∧ goodWord w = true ∨ w ∈ tables_1 ∧ isNw w = true) ∧ mH mt = []
def FIN (X : XT) (mt : MT) (p : Program) (l : Launch) (e : Env) (R : Room) (s : State) (m : MethodId) (args : Array Value) (below : List Frame) (meth : Method) (c : Code) (A : Nat → Prop) (G : va_G) (cls : Nat → ClassId) (Z : State → Prop) (n : Nat) (ad : Nat → Nat) (Q : Res → AH → Prop) : Prop :=
  (∀ (v : Option Value) (h' : AH), Q (.inl v) h' → ∀ (ad' : Nat → Nat) (H' : Heap) (locs' : List Loc) (cells' slots' : Nat) (lsA : Array Slot) (pc : Nat) (ins : Instr), (xF X = false → ∀ a, (prN n a ∨ ¬ prN (hN h') a) → ad' a = ad a) → (xF X = false → ∀ a, prN n a → prN (hN h') a) → WD X A G cls s h' ad' H' locs' → cells' ≤ R.cells → slots' ≤ R.slots →
    decode (mB mt) pc = .ok (ins, 1) → retOK mt ins v → W p l e R s m args below meth c H' locs' cells' slots' Z (F0 m pc lsA ((v.map (cv ad')).toList))) ∧
  (∀ (E : String) (h' : AH), Q (.inr E) h' → ∀ (ad' : Nat → Nat) (H' : Heap) (locs' : List Loc) (cells' slots' : Nat) (lsA : Array Slot) (pc : Nat) (st : List Value), (xF X = false → ∀ a, (prN n a ∨ ¬ prN (hN h') a) → ad' a = ad a) → (xF X = false → ∀ a, prN n a → prN (hN h') a) → WD X A G cls s h' ad' H' locs' → cells' + 1 ≤ R.cells → slots' + 6 ≤ R.slots →
    lsA.size = c.maxLocals → (st.map fun v => v.category).sum ≤ 8 → 8 ≤ R.frames → 320 ≤ R.locals → thrOK mt pc E → W p l e R s m args below meth c H' locs' cells' slots' Z (F0 m pc lsA st))
def AW (X : XT) (mt : MT) (d kc ks pc : Nat) (ls : List (Nat × Value)) (st : List Value) (h : AH) (Q : Res → AH → Prop) : Prop :=
  ∀ (p : Program) (l : Launch) (e : Env) (R : Room) (s : State) (m : MethodId) (args : Array Value) (below : List Frame) (meth : Method) (c : Code) (A : Nat → Prop) (G : va_G) (cls : Nat → ClassId) (Z : State → Prop) (H : Heap) (locs : List Loc) (cells slots : Nat) (ad : Nat → Nat) (lsA : Array Slot),
    CX X mt l d R p s m args meth c A G cls → FIN X mt p l e R s m args below meth c A G cls Z (hN h) ad Q → WD X A G cls s h ad H locs → cells + kc ≤ R.cells → slots + ks ≤ R.slots → lv_has lsA (mL mt) (ls.map (cl1 ad)) →
    W p l e R s m args below meth c H locs cells slots Z (F0 m pc lsA (st.map (cv ad)))
end
section
/-! rows of AW: instructions that leave the heap alone -/
theorem AW.p1 {X : XT} {mt : MT} {d kc ks pc pc' : Nat} {ls : List (Nat × Value)} {st st' : List Value} {h : AH} {Q : Res → AH → Prop}
    (row : ∀ (p : Program) (l : Launch) (e : Env) (R : Room) (s : State) (m : MethodId) (args : Array Value) (below : List Frame) (meth : Method) (c : Code) (H : Heap) (locs : List Loc) (cells slots : Nat) (Z : State → Prop) (lsA : Array Slot) (ad : Nat → Nat), p.tables.exec = Jvm.exec → c.code = mB mt → s.vm.findClass (mN mt).cls = some m.cls → (∀ w, w ∈ lw_tbl → goodWord w = true → w.before args s = true) → lv_has lsA (mL mt) (ls.map (cl1 ad)) →
      W p l e R s m args below meth c H locs cells slots Z (F0 m pc' lsA (st'.map (cv ad))) → W p l e R s m args below meth c H locs cells slots Z (F0 m pc lsA (st.map (cv ad))))
    (k : AW X mt d kc ks pc' ls st' h Q) : AW X mt d kc ks pc ls st h Q := by
  intro p l e R s m args below meth c A G cls Z H locs cells slots ad lsA C F D hc hs hl
  exact row p l e R s m args below meth c H locs cells slots Z lsA ad C.1 C.2.1 C.2.2.2.1 C.2.2.2.2.1 hl (k p l e R s m args below meth c A G cls Z H locs cells slots ad lsA C F D hc hs hl)
section RW5
variable {X : XT} {mt : MT} {d kc ks pc : Nat} {ls ls' : List (Nat × Value)} {st : List Value} {h : AH} {Q : Res → AH → Prop}
theorem a_null  (hd : decode (mB mt) pc = .ok (.aconst_null, 1))  (k : AW X mt d kc ks (pc + 1) ls (.null :: st) h Q) : AW X mt d kc ks pc ls (st) h Q := AW.p1 (fun _ _ _ _ _ _ _ _ _ _ _ _ _ _ _ _ _ hx hb ho hw hl k => lv_null hx hb hd k) k
theorem a_iconst {n : Int} {v : Int32} (hd : decode (mB mt) pc = .ok (.iconst n, 1)) (hv : Int32.ofInt n = v) (k : AW X mt d kc ks (pc + 1) ls (.int v :: st) h Q) : AW X mt d kc ks pc ls (st) h Q := AW.p1 (fun _ _ _ _ _ _ _ _ _ _ _ _ _ _ _ _ _ hx hb ho hw hl k => lv_iconst hx hb hd hv k) k
theorem a_bipush {n : Int} {v : Int32} (hd : decode (mB mt) pc = .ok (.bipush n, 2)) (hv : (Int8.ofInt n).toInt32 = v) (k : AW X mt d kc ks (pc + 2) ls (.int v :: st) h Q) : AW X mt d kc ks pc ls (st) h Q := AW.p1 (fun _ _ _ _ _ _ _ _ _ _ _ _ _ _ _ _ _ hx hb ho hw hl k => lv_bipush hx hb hd hv k) k
theorem a_sipush {n : Int} {v : Int32} (hd : decode (mB mt) pc = .ok (.sipush n, 3)) (hv : (Int16.ofInt n).toInt32 = v) (k : AW X mt d kc ks (pc + 3) ls (.int v :: st) h Q) : AW X mt d kc ks pc ls (st) h Q := AW.p1 (fun _ _ _ _ _ _ _ _ _ _ _ _ _ _ _ _ _ hx hb ho hw hl k => lv_sipush hx hb hd hv k) k
theorem a_lconst {n : Fin 2} {v : Int64} (hd : decode (mB mt) pc = .ok (.lconst n, 1)) (hv : Int64.ofNat (n : Nat) = v) (k : AW X mt d kc ks (pc + 1) ls (.long v :: st) h Q) : AW X mt d kc ks pc ls (st) h Q := AW.p1 (fun _ _ _ _ _ _ _ _ _ _ _ _ _ _ _ _ _ hx hb ho hw hl k => lv_lconst hx hb hd hv k) k
theorem a_dconst0  (hd : decode (mB mt) pc = .ok (.dconst 0, 1))  (k : AW X mt d kc ks (pc + 1) ls (.double FP.dconst0 :: st) h Q) : AW X mt d kc ks pc ls (st) h Q := AW.p1 (fun _ _ _ _ _ _ _ _ _ _ _ _ _ _ _ _ _ hx hb ho hw hl k => lv_dconst0 hx hb hd k) k
theorem a_ldc {i : Nat} {v : Int32} (hd : decode (mB mt) pc = .ok (.ldc i, 2)) (hc : Cond.constant (mN mt).cls i v ∈ lw_tbl) (k : AW X mt d kc ks (pc + 2) ls (.int v :: st) h Q) : AW X mt d kc ks pc ls (st) h Q := AW.p1 (fun _ _ _ _ _ _ _ _ _ _ _ _ _ _ _ _ _ hx hb ho hw hl k => lv_ldc hx hb ho (hw _ hc rfl) hd k) k
theorem a_ldc2 {i : Nat} {v : Int64} (hd : decode (mB mt) pc = .ok (.ldc2_w i, 3)) (hc : Cond.constantLong (mN mt).cls i v ∈ lw_tbl) (k : AW X mt d kc ks (pc + 3) ls (.long v :: st) h Q) : AW X mt d kc ks pc ls (st) h Q := AW.p1 (fun _ _ _ _ _ _ _ _ _ _ _ _ _ _ _ _ _ hx hb ho hw hl k => lv_ldc2 hx hb ho (hw _ hc rfl) hd k) k
theorem a_iload_n {n : Fin 4} {i : Nat} {x : Int32} (hd : decode (mB mt) pc = .ok (.iload_n n, 1)) (hi : (n : Nat) = i) (hv : lget i ls = some (.int x)) (k : AW X mt d kc ks (pc + 1) ls (.int x :: st) h Q) : AW X mt d kc ks pc ls (st) h Q := AW.p1 (fun _ _ _ _ _ _ _ _ _ _ _ _ _ _ _ _ _ hx hb ho hw hl k => lv_iload_n hx hb hd hi (lget_at hl hv) k) k
theorem a_iload {i : Nat} {x : Int32} (hd : decode (mB mt) pc = .ok (.iload i, 2)) (hv : lget i ls = some (.int x)) (k : AW X mt d kc ks (pc + 2) ls (.int x :: st) h Q) : AW X mt d kc ks pc ls (st) h Q := AW.p1 (fun _ _ _ _ _ _ _ _ _ _ _ _ _ _ _ _ _ hx hb ho hw hl k => lv_iload hx hb hd (lget_at hl hv) k) k
theorem a_lload_n {n : Fin 4} {i : Nat} {x : Int64} (hd : decode (mB mt) pc = .ok (.lload_n n, 1)) (hi : (n : Nat) = i) (hv : lget i ls = some (.long x)) (k : AW X mt d kc ks (pc + 1) ls (.long x :: st) h Q) : AW X mt d kc ks pc ls (st) h Q := AW.p1 (fun _ _ _ _ _ _ _ _ _ _ _ _ _ _ _ _ _ hx hb ho hw hl k => lv_lload_n hx hb hd hi (lget_at hl hv) k) k
theorem a_lload {i : Nat} {x : Int64} (hd : decode (mB mt) pc = .ok (.lload i, 2)) (hv : lget i ls = some (.long x)) (k : AW X mt d kc ks (pc + 2) ls (.long x :: st) h Q) : AW X mt d kc ks pc ls (st) h Q := AW.p1 (fun _ _ _ _ _ _ _ _ _ _ _ _ _ _ _ _ _ hx hb ho hw hl k => lv_lload hx hb hd (lget_at hl hv) k) k
theorem a_dload_n {n : Fin 4} {i : Nat} {x : UInt64} (hd : decode (mB mt) pc = .ok (.dload_n n, 1)) (hi : (n : Nat) = i) (hv : lget i ls = some (.double x)) (k : AW X mt d kc ks (pc + 1) ls (.double x :: st) h Q) : AW X mt d kc ks pc ls (st) h Q := AW.p1 (fun _ _ _ _ _ _ _ _ _ _ _ _ _ _ _ _ _ hx hb ho hw hl k => lv_dload_n hx hb hd hi (lget_at hl hv) k) k
theorem a_dload {i : Nat} {x : UInt64} (hd : decode (mB mt) pc = .ok (.dload i, 2)) (hv : lget i ls = some (.double x)) (k : AW X mt d kc ks (pc + 2) ls (.double x :: st) h Q) : AW X mt d kc ks pc ls (st) h Q := AW.p1 (fun _ _ _ _ _ _ _ _ _ _ _ _ _ _ _ _ _ hx hb ho hw hl k => lv_dload hx hb hd (lget_at hl hv) k) k
theorem a_aload_n {n : Fin 4} {i : Nat} {x : Nat} (hd : decode (mB mt) pc = .ok (.aload_n n, 1)) (hi : (n : Nat) = i) (hv : lget i ls = some (.ref x)) (k : AW X mt d kc ks (pc + 1) ls (.ref x :: st) h Q) : AW X mt d kc ks pc ls (st) h Q := AW.p1 (fun _ _ _ _ _ _ _ _ _ _ _ _ _ _ _ _ _ hx hb ho hw hl k => lv_aload_n hx hb hd hi (lget_at hl hv) k) k
theorem a_aload {i : Nat} {x : Nat} (hd : decode (mB mt) pc = .ok (.aload i, 2)) (hv : lget i ls = some (.ref x)) (k : AW X mt d kc ks (pc + 2) ls (.ref x :: st) h Q) : AW X mt d kc ks pc ls (st) h Q := AW.p1 (fun _ _ _ _ _ _ _ _ _ _ _ _ _ _ _ _ _ hx hb ho hw hl k => lv_aload hx hb hd (lget_at hl hv) k) k
theorem a_dup {v : Value} (hd : decode (mB mt) pc = .ok (.dup, 1)) (hv : v.category = 1) (k : AW X mt d kc ks (pc + 1) ls (v :: v :: st) h Q) : AW X mt d kc ks pc ls (v :: st) h Q := AW.p1 (fun _ _ _ _ _ _ _ _ _ _ _ _ _ _ _ _ _ hx hb ho hw hl k => lv_dup hx hb hd ((cv_cat _ v).trans hv) k) k
theorem a_pop {v : Value} (hd : decode (mB mt) pc = .ok (.pop, 1)) (hv : v.category = 1) (k : AW X mt d kc ks (pc + 1) ls (st) h Q) : AW X mt d kc ks pc ls (v :: st) h Q := AW.p1 (fun _ _ _ _ _ _ _ _ _ _ _ _ _ _ _ _ _ hx hb ho hw hl k => lv_pop hx hb hd ((cv_cat _ v).trans hv) k) k
theorem a_dup2_11 {v w : Value} (hd : decode (mB mt) pc = .ok (.dup2, 1)) (hv : v.category = 1) (hw1 : w.category = 1) (k : AW X mt d kc ks (pc + 1) ls (v :: w :: v :: w :: st) h Q) : AW X mt d kc ks pc ls (v :: w :: st) h Q := AW.p1 (fun _ _ _ _ _ _ _ _ _ _ _ _ _ _ _ _ _ hx hb ho hw hl k => lv_dup2_11 hx hb hd ((cv_cat _ v).trans hv) ((cv_cat _ w).trans hw1) k) k
theorem a_dup2_2 {v : Value} (hd : decode (mB mt) pc = .ok (.dup2, 1)) (hv : v.category = 2) (k : AW X mt d kc ks (pc + 1) ls (v :: v :: st) h Q) : AW X mt d kc ks pc ls (v :: st) h Q := AW.p1 (fun _ _ _ _ _ _ _ _ _ _ _ _ _ _ _ _ _ hx hb ho hw hl k => lv_dup2_2 hx hb hd ((cv_cat _ v).trans hv) k) k
theorem a_iadd {x y : Int32} (hd : decode (mB mt) pc = .ok (.iadd, 1))  (k : AW X mt d kc ks (pc + 1) ls (.int (x + y) :: st) h Q) : AW X mt d kc ks pc ls (.int y :: .int x :: st) h Q := AW.p1 (fun _ _ _ _ _ _ _ _ _ _ _ _ _ _ _ _ _ hx hb ho hw hl k => lv_iadd hx hb hd k) k
theorem a_isub {x y : Int32} (hd : decode (mB mt) pc = .ok (.isub, 1))  (k : AW X mt d kc ks (pc + 1) ls (.int (x - y) :: st) h Q) : AW X mt d kc ks pc ls (.int y :: .int x :: st) h Q := AW.p1 (fun _ _ _ _ _ _ _ _ _ _ _ _ _ _ _ _ _ hx hb ho hw hl k => lv_isub hx hb hd k) k
theorem a_imul {x y : Int32} (hd : decode (mB mt) pc = .ok (.imul, 1))  (k : AW X mt d kc ks (pc + 1) ls (.int (x * y) :: st) h Q) : AW X mt d kc ks pc ls (.int y :: .int x :: st) h Q := AW.p1 (fun _ _ _ _ _ _ _ _ _ _ _ _ _ _ _ _ _ hx hb ho hw hl k => lv_imul hx hb hd k) k
theorem a_iand {x y : Int32} (hd : decode (mB mt) pc = .ok (.iand, 1))  (k : AW X mt d kc ks (pc + 1) ls (.int (x &&& y) :: st) h Q) : AW X mt d kc ks pc ls (.int y :: .int x :: st) h Q := AW.p1 (fun _ _ _ _ _ _ _ _ _ _ _ _ _ _ _ _ _ hx hb ho hw hl k => lv_iand hx hb hd k) k
theorem a_ior {x y : Int32} (hd : decode (mB mt) pc = .ok (.ior, 1))  (k : AW X mt d kc ks (pc + 1) ls (.int (x ||| y) :: st) h Q) : AW X mt d kc ks pc ls (.int y :: .int x :: st) h Q := AW.p1 (fun _ _ _ _ _ _ _ _ _ _ _ _ _ _ _ _ _ hx hb ho hw hl k => lv_ior hx hb hd k) k
theorem a_ishl {x y : Int32} (hd : decode (mB mt) pc = .ok (.ishl, 1))  (k : AW X mt d kc ks (pc + 1) ls (.int (x <<< (y &&& 31)) :: st) h Q) : AW X mt d kc ks pc ls (.int y :: .int x :: st) h Q := AW.p1 (fun _ _ _ _ _ _ _ _ _ _ _ _ _ _ _ _ _ hx hb ho hw hl k => lv_ishl hx hb hd k) k
theorem a_ishr {x y : Int32} (hd : decode (mB mt) pc = .ok (.ishr, 1))  (k : AW X mt d kc ks (pc + 1) ls (.int (x >>> (y &&& 31)) :: st) h Q) : AW X mt d kc ks pc ls (.int y :: .int x :: st) h Q := AW.p1 (fun _ _ _ _ _ _ _ _ _ _ _ _ _ _ _ _ _ hx hb ho hw hl k => lv_ishr hx hb hd k) k
theorem a_idiv {x y : Int32} (hd : decode (mB mt) pc = .ok (.idiv, 1)) (hy : ¬ y = 0) (k : AW X mt d kc ks (pc + 1) ls (.int (x / y) :: st) h Q) : AW X mt d kc ks pc ls (.int y :: .int x :: st) h Q := AW.p1 (fun _ _ _ _ _ _ _ _ _ _ _ _ _ _ _ _ _ hx hb ho hw hl k => lv_idiv hx hb hd hy k) k
theorem a_irem {x y : Int32} (hd : decode (mB mt) pc = .ok (.irem, 1)) (hy : ¬ y = 0) (k : AW X mt d kc ks (pc + 1) ls (.int (x - x / y * y) :: st) h Q) : AW X mt d kc ks pc ls (.int y :: .int x :: st) h Q := AW.p1 (fun _ _ _ _ _ _ _ _ _ _ _ _ _ _ _ _ _ hx hb ho hw hl k => lv_irem hx hb hd hy k) k
theorem a_iushr {x y : Int32} (hd : decode (mB mt) pc = .ok (.iushr, 1))  (k : AW X mt d kc ks (pc + 1) ls (.int ((x.toUInt32 >>> (y.toUInt32 &&& Int32.toUInt32 31)).toInt32) :: st) h Q) : AW X mt d kc ks pc ls (.int y :: .int x :: st) h Q := AW.p1 (fun _ _ _ _ _ _ _ _ _ _ _ _ _ _ _ _ _ hx hb ho hw hl k => lv_iushr hx hb hd rfl k) k
theorem a_dup_x1 {v w : Value} (hd : decode (mB mt) pc = .ok (.dup_x1, 1)) (hv : v.category = 1) (hw1 : w.category = 1) (k : AW X mt d kc ks (pc + 1) ls (v :: w :: v :: st) h Q) : AW X mt d kc ks pc ls (v :: w :: st) h Q := AW.p1 (fun _ _ _ _ _ _ _ _ _ _ _ _ _ _ _ _ _ hx hb ho hw hl k => lv_dup_x1 hx hb hd ((cv_cat _ v).trans hv) ((cv_cat _ w).trans hw1) k) k
theorem a_ldc_w {i : Nat} {v : Int32} (hd : decode (mB mt) pc = .ok (.ldc_w i, 3)) (hc : Cond.constant (mN mt).cls i v ∈ lw_tbl) (k : AW X mt d kc ks (pc + 3) ls (.int v :: st) h Q) : AW X mt d kc ks pc ls (st) h Q := AW.p1 (fun _ _ _ _ _ _ _ _ _ _ _ _ _ _ _ _ _ hx hb ho hw hl k => lv_ldcw hx hb ho (hw _ hc rfl) hd k) k
theorem a_ineg {x : Int32} (hd : decode (mB mt) pc = .ok (.ineg, 1))  (k : AW X mt d kc ks (pc + 1) ls (.int (-x) :: st) h Q) : AW X mt d kc ks pc ls (.int x :: st) h Q := AW.p1 (fun _ _ _ _ _ _ _ _ _ _ _ _ _ _ _ _ _ hx hb ho hw hl k => lv_ineg hx hb hd k) k
theorem a_ladd {x y : Int64} (hd : decode (mB mt) pc = .ok (.ladd, 1))  (k : AW X mt d kc ks (pc + 1) ls (.long (x + y) :: st) h Q) : AW X mt d kc ks pc ls (.long y :: .long x :: st) h Q := AW.p1 (fun _ _ _ _ _ _ _ _ _ _ _ _ _ _ _ _ _ hx hb ho hw hl k => lv_ladd hx hb hd k) k
theorem a_lsub {x y : Int64} (hd : decode (mB mt) pc = .ok (.lsub, 1))  (k : AW X mt d kc ks (pc + 1) ls (.long (x - y) :: st) h Q) : AW X mt d kc ks pc ls (.long y :: .long x :: st) h Q := AW.p1 (fun _ _ _ _ _ _ _ _ _ _ _ _ _ _ _ _ _ hx hb ho hw hl k => lv_lsub hx hb hd k) k
theorem a_lmul {x y : Int64} (hd : decode (mB mt) pc = .ok (.lmul, 1))  (k : AW X mt d kc ks (pc + 1) ls (.long (x * y) :: st) h Q) : AW X mt d kc ks pc ls (.long y :: .long x :: st) h Q := AW.p1 (fun _ _ _ _ _ _ _ _ _ _ _ _ _ _ _ _ _ hx hb ho hw hl k => lv_lmul hx hb hd k) k
theorem a_land {x y : Int64} (hd : decode (mB mt) pc = .ok (.land, 1))  (k : AW X mt d kc ks (pc + 1) ls (.long (x &&& y) :: st) h Q) : AW X mt d kc ks pc ls (.long y :: .long x :: st) h Q := AW.p1 (fun _ _ _ _ _ _ _ _ _ _ _ _ _ _ _ _ _ hx hb ho hw hl k => lv_land hx hb hd k) k
theorem a_lor {x y : Int64} (hd : decode (mB mt) pc = .ok (.lor, 1))  (k : AW X mt d kc ks (pc + 1) ls (.long (x ||| y) :: st) h Q) : AW X mt d kc ks pc ls (.long y :: .long x :: st) h Q := AW.p1 (fun _ _ _ _ _ _ _ _ _ _ _ _ _ _ _ _ _ hx hb ho hw hl k => lv_lor hx hb hd k) k
theorem a_lxor {x y : Int64} (hd : decode (mB mt) pc = .ok (.lxor, 1))  (k : AW X mt d kc ks (pc + 1) ls (.long (x ^^^ y) :: st) h Q) : AW X mt d kc ks pc ls (.long y :: .long x :: st) h Q := AW.p1 (fun _ _ _ _ _ _ _ _ _ _ _ _ _ _ _ _ _ hx hb ho hw hl k => lv_lxor hx hb hd k) k
theorem a_lshl {x : Int64} {y : Int32} (hd : decode (mB mt) pc = .ok (.lshl, 1))  (k : AW X mt d kc ks (pc + 1) ls (.long (x <<< (y.toInt64 &&& 63)) :: st) h Q) : AW X mt d kc ks pc ls (.int y :: .long x :: st) h Q := AW.p1 (fun _ _ _ _ _ _ _ _ _ _ _ _ _ _ _ _ _ hx hb ho hw hl k => lv_lshl hx hb hd rfl k) k
theorem a_lshr {x : Int64} {y : Int32} (hd : decode (mB mt) pc = .ok (.lshr, 1))  (k : AW X mt d kc ks (pc + 1) ls (.long (x >>> (y.toInt64 &&& 63)) :: st) h Q) : AW X mt d kc ks pc ls (.int y :: .long x :: st) h Q := AW.p1 (fun _ _ _ _ _ _ _ _ _ _ _ _ _ _ _ _ _ hx hb ho hw hl k => lv_lshr hx hb hd rfl k) k
theorem a_lushr {x : Int64} {y : Int32} (hd : decode (mB mt) pc = .ok (.lushr, 1))  (k : AW X mt d kc ks (pc + 1) ls (.long ((x.toUInt64 >>> (y.toInt64.toUInt64 &&& Int64.toUInt64 63)).toInt64) :: st) h Q) : AW X mt d kc ks pc ls (.int y :: .long x :: st) h Q := AW.p1 (fun _ _ _ _ _ _ _ _ _ _ _ _ _ _ _ _ _ hx hb ho hw hl k => lv_lushr hx hb hd rfl k) k
theorem a_i2l {x : Int32} (hd : decode (mB mt) pc = .ok (.i2l, 1))  (k : AW X mt d kc ks (pc + 1) ls (.long x.toInt64 :: st) h Q) : AW X mt d kc ks pc ls (.int x :: st) h Q := AW.p1 (fun _ _ _ _ _ _ _ _ _ _ _ _ _ _ _ _ _ hx hb ho hw hl k => lv_i2l hx hb hd rfl k) k
theorem a_l2i {x : Int64} (hd : decode (mB mt) pc = .ok (.l2i, 1))  (k : AW X mt d kc ks (pc + 1) ls (.int x.toInt32 :: st) h Q) : AW X mt d kc ks pc ls (.long x :: st) h Q := AW.p1 (fun _ _ _ _ _ _ _ _ _ _ _ _ _ _ _ _ _ hx hb ho hw hl k => lv_l2i hx hb hd rfl k) k
theorem a_i2b {x : Int32} (hd : decode (mB mt) pc = .ok (.i2b, 1))  (k : AW X mt d kc ks (pc + 1) ls (.int x.toInt8.toInt32 :: st) h Q) : AW X mt d kc ks pc ls (.int x :: st) h Q := AW.p1 (fun _ _ _ _ _ _ _ _ _ _ _ _ _ _ _ _ _ hx hb ho hw hl k => lv_i2b hx hb hd rfl k) k
theorem a_i2c {x : Int32} (hd : decode (mB mt) pc = .ok (.i2c, 1))  (k : AW X mt d kc ks (pc + 1) ls (.int (x.toUInt32 % 65536).toInt32 :: st) h Q) : AW X mt d kc ks pc ls (.int x :: st) h Q := AW.p1 (fun _ _ _ _ _ _ _ _ _ _ _ _ _ _ _ _ _ hx hb ho hw hl k => lv_i2c hx hb hd rfl k) k
theorem a_i2d {x : Int32} (hd : decode (mB mt) pc = .ok (.i2d, 1))  (k : AW X mt d kc ks (pc + 1) ls (.double (FP.i2d x) :: st) h Q) : AW X mt d kc ks pc ls (.int x :: st) h Q := AW.p1 (fun _ _ _ _ _ _ _ _ _ _ _ _ _ _ _ _ _ hx hb ho hw hl k => lv_i2d hx hb hd k) k
theorem a_ddiv {x y : UInt64} (hd : decode (mB mt) pc = .ok (.ddiv, 1)) (hn : vf_n64 (FP.ddiv x y)) (k : AW X mt d kc ks (pc + 1) ls (.double (FP.ddiv x y) :: st) h Q) : AW X mt d kc ks pc ls (.double y :: .double x :: st) h Q := AW.p1 (fun _ _ _ _ _ _ _ _ _ _ _ _ _ _ _ _ _ hx hb ho hw hl k => lv_ddiv hx hb hd hn k) k
theorem a_dcmp {x y : UInt64} {op : CmpOp} (hd : decode (mB mt) pc = .ok (.dcmp op, 1))  (k : AW X mt d kc ks (pc + 1) ls (.int (Op.cmpValue (FP.dcmp x y) op) :: st) h Q) : AW X mt d kc ks pc ls (.double y :: .double x :: st) h Q := AW.p1 (fun _ _ _ _ _ _ _ _ _ _ _ _ _ _ _ _ _ hx hb ho hw hl k => lv_dcmp hx hb hd k) k
theorem a_lcmp {x y : Int64} (hd : decode (mB mt) pc = .ok (.lcmp, 1))  (k : AW X mt d kc ks (pc + 1) ls (.int (lg_cmp x y) :: st) h Q) : AW X mt d kc ks pc ls (.long y :: .long x :: st) h Q := AW.p1 (fun _ _ _ _ _ _ _ _ _ _ _ _ _ _ _ _ _ hx hb ho hw hl k => W.lcmp hx hb hd k) k
theorem a_istore_n {n : Fin 4} {i : Nat} {x : Int32} (hd : decode (mB mt) pc = .ok (.istore_n n, 1)) (hi : (n : Nat) = i) (hn : i < mL mt) (hl : ls1 i (.int x) ls = ls') (k : AW X mt d kc ks (pc + 1) ls' st h Q) : AW X mt d kc ks pc ls (.int x :: st) h Q := by
  intro p l e R s m args below meth c A G cls Z H locs cells slots ad lsA C F D hc hs hA
  subst hl
  exact lv_istore_n C.1 C.2.1 hd hi hA hn rfl (fun lsB hB => k p l e R s m args below meth c A G cls Z H locs cells slots ad lsB C F D hc hs (ls1_has (v := .int x) hB))
theorem a_istore {i : Nat} {x : Int32} (hd : decode (mB mt) pc = .ok (.istore i, 2)) (hn : i < mL mt) (hl : ls1 i (.int x) ls = ls') (k : AW X mt d kc ks (pc + 2) ls' st h Q) : AW X mt d kc ks pc ls (.int x :: st) h Q := by
  intro p l e R s m args below meth c A G cls Z H locs cells slots ad lsA C F D hc hs hA
  subst hl
  exact lv_istore C.1 C.2.1 hd hA hn rfl (fun lsB hB => k p l e R s m args below meth c A G cls Z H locs cells slots ad lsB C F D hc hs (ls1_has (v := .int x) hB))
theorem a_lstore_n {n : Fin 4} {i : Nat} {x : Int64} (hd : decode (mB mt) pc = .ok (.lstore_n n, 1)) (hi : (n : Nat) = i) (hn : i + 1 < mL mt) (hl : ls2 i (.long x) ls = ls') (k : AW X mt d kc ks (pc + 1) ls' st h Q) : AW X mt d kc ks pc ls (.long x :: st) h Q := by
  intro p l e R s m args below meth c A G cls Z H locs cells slots ad lsA C F D hc hs hA
  subst hl
  exact lv_lstore_n C.1 C.2.1 hd hi hA hn rfl (fun lsB hB => k p l e R s m args below meth c A G cls Z H locs cells slots ad lsB C F D hc hs (ls2_has (v := .long x) hB))
theorem a_lstore {i : Nat} {x : Int64} (hd : decode (mB mt) pc = .ok (.lstore i, 2)) (hn : i + 1 < mL mt) (hl : ls2 i (.long x) ls = ls') (k : AW X mt d kc ks (pc + 2) ls' st h Q) : AW X mt d kc ks pc ls (.long x :: st) h Q := by
  intro p l e R s m args below meth c A G cls Z H locs cells slots ad lsA C F D hc hs hA
  subst hl
  exact lv_lstore C.1 C.2.1 hd hA hn rfl (fun lsB hB => k p l e R s m args below meth c A G cls Z H locs cells slots ad lsB C F D hc hs (ls2_has (v := .long x) hB))
theorem a_dstore_n {n : Fin 4} {i : Nat} {x : UInt64} (hd : decode (mB mt) pc = .ok (.dstore_n n, 1)) (hi : (n : Nat) = i) (hn : i + 1 < mL mt) (hl : ls2 i (.double x) ls = ls') (k : AW X mt d kc ks (pc + 1) ls' st h Q) : AW X mt d kc ks pc ls (.double x :: st) h Q := by
  intro p l e R s m args below meth c A G cls Z H locs cells slots ad lsA C F D hc hs hA
  subst hl
  exact lv_dstore_n C.1 C.2.1 hd hi hA hn rfl (fun lsB hB => k p l e R s m args below meth c A G cls Z H locs cells slots ad lsB C F D hc hs (ls2_has (v := .double x) hB))
theorem a_dstore {i : Nat} {x : UInt64} (hd : decode (mB mt) pc = .ok (.dstore i, 2)) (hn : i + 1 < mL mt) (hl : ls2 i (.double x) ls = ls') (k : AW X mt d kc ks (pc + 2) ls' st h Q) : AW X mt d kc ks pc ls (.double x :: st) h Q := by
  intro p l e R s m args below meth c A G cls Z H locs cells slots ad lsA C F D hc hs hA
  subst hl
  exact lv_dstore C.1 C.2.1 hd hA hn rfl (fun lsB hB => k p l e R s m args below meth c A G cls Z H locs cells slots ad lsB C F D hc hs (ls2_has (v := .double x) hB))
theorem a_astore_n {n : Fin 4} {i : Nat} {x : Nat} (hd : decode (mB mt) pc = .ok (.astore_n n, 1)) (hi : (n : Nat) = i) (hn : i < mL mt) (hl : ls1 i (.ref x) ls = ls') (k : AW X mt d kc ks (pc + 1) ls' st h Q) : AW X mt d kc ks pc ls (.ref x :: st) h Q := by
  intro p l e R s m args below meth c A G cls Z H locs cells slots ad lsA C F D hc hs hA
  subst hl
  exact lv_astore_n C.1 C.2.1 hd hi hA hn rfl (fun lsB hB => k p l e R s m args below meth c A G cls Z H locs cells slots ad lsB C F D hc hs (ls1_has (v := .ref x) hB))
theorem a_astore {i : Nat} {x : Nat} (hd : decode (mB mt) pc = .ok (.astore i, 2)) (hn : i < mL mt) (hl : ls1 i (.ref x) ls = ls') (k : AW X mt d kc ks (pc + 2) ls' st h Q) : AW X mt d kc ks pc ls (.ref x :: st) h Q := by
  intro p l e R s m args below meth c A G cls Z H locs cells slots ad lsA C F D hc hs hA
  subst hl
  exact lv_astore C.1 C.2.1 hd hA hn rfl (fun lsB hB => k p l e R s m args below meth c A G cls Z H locs cells slots ad lsB C F D hc hs (ls1_has (v := .ref x) hB))
theorem a_iinc {i : Nat} {n : Int} {x v : Int32} (hd : decode (mB mt) pc = .ok (.iinc i n, 3)) (hv : lget i ls = some (.int x)) (hx : x + Int32.ofInt n = v) (hn : i < mL mt) (hl : ls1 i (.int v) ls = ls') (k : AW X mt d kc ks (pc + 3) ls' st h Q) : AW X mt d kc ks pc ls st h Q := by
  intro p l e R s m args below meth c A G cls Z H locs cells slots ad lsA C F D hc hs hA
  subst hl
  obtain ⟨j, hj⟩ := List.getElem?_of_mem (List.mem_map.mpr ⟨(i, Value.int x), lget_mem hv, rfl⟩ : ((i, Value.int x) : Nat × Value) ∈ ls.map (cl1 ad))
  exact lv_iinc C.1 C.2.1 hd hA hj hx hn rfl (fun lsB hB => k p l e R s m args below meth c A G cls Z H locs cells slots ad lsB C F D hc hs (ls1_has (v := .int v) hB))
theorem a_if_eq {x : Int32} {off : Int} {tgt : Nat} (hd : decode (mB mt) pc = .ok (.ifCond .eq off, 3)) (ht : (pc : Int) + off = (tgt : Int)) (kt : x = 0 → AW X mt d kc ks tgt ls st h Q) (kf : ¬ x = 0 → AW X mt d kc ks (pc + 3) ls st h Q) : AW X mt d kc ks pc ls (.int x :: st) h Q := by
  intro p l e R s m args below meth c A G cls Z H locs cells slots ad lsA C F D hc hs hA
  exact lv_if_eq C.1 C.2.1 hd ht (fun q => kt q p l e R s m args below meth c A G cls Z H locs cells slots ad lsA C F D hc hs hA) (fun q => kf q p l e R s m args below meth c A G cls Z H locs cells slots ad lsA C F D hc hs hA)
theorem a_icmp_eq {x y : Int32} {off : Int} {tgt : Nat} (hd : decode (mB mt) pc = .ok (.if_icmp .eq off, 3)) (ht : (pc : Int) + off = (tgt : Int)) (kt : x = y → AW X mt d kc ks tgt ls st h Q) (kf : ¬ x = y → AW X mt d kc ks (pc + 3) ls st h Q) : AW X mt d kc ks pc ls (.int y :: .int x :: st) h Q := by
  intro p l e R s m args below meth c A G cls Z H locs cells slots ad lsA C F D hc hs hA
  exact lv_icmp_eq C.1 C.2.1 hd ht (fun q => kt q p l e R s m args below meth c A G cls Z H locs cells slots ad lsA C F D hc hs hA) (fun q => kf q p l e R s m args below meth c A G cls Z H locs cells slots ad lsA C F D hc hs hA)
theorem a_if_ne {x : Int32} {off : Int} {tgt : Nat} (hd : decode (mB mt) pc = .ok (.ifCond .ne off, 3)) (ht : (pc : Int) + off = (tgt : Int)) (kt : ¬ x = 0 → AW X mt d kc ks tgt ls st h Q) (kf : x = 0 → AW X mt d kc ks (pc + 3) ls st h Q) : AW X mt d kc ks pc ls (.int x :: st) h Q := by
  intro p l e R s m args below meth c A G cls Z H locs cells slots ad lsA C F D hc hs hA
  exact lv_if_ne C.1 C.2.1 hd ht (fun q => kt q p l e R s m args below meth c A G cls Z H locs cells slots ad lsA C F D hc hs hA) (fun q => kf q p l e R s m args below meth c A G cls Z H locs cells slots ad lsA C F D hc hs hA)
theorem a_icmp_ne {x y : Int32} {off : Int} {tgt : Nat} (hd : decode (mB mt) pc = .ok (.if_icmp .ne off, 3)) (ht : (pc : Int) + off = (tgt : Int)) (kt : ¬ x = y → AW X mt d kc ks tgt ls st h Q) (kf : x = y → AW X mt d kc ks (pc + 3) ls st h Q) : AW X mt d kc ks pc ls (.int y :: .int x :: st) h Q := by
  intro p l e R s m args below meth c A G cls Z H locs cells slots ad lsA C F D hc hs hA
  exact lv_icmp_ne C.1 C.2.1 hd ht (fun q => kt q p l e R s m args below meth c A G cls Z H locs cells slots ad lsA C F D hc hs hA) (fun q => kf q p l e R s m args below meth c A G cls Z H locs cells slots ad lsA C F D hc hs hA)
theorem a_if_lt {x : Int32} {off : Int} {tgt : Nat} (hd : decode (mB mt) pc = .ok (.ifCond .lt off, 3)) (ht : (pc : Int) + off = (tgt : Int)) (kt : x < 0 → AW X mt d kc ks tgt ls st h Q) (kf : ¬ x < 0 → AW X mt d kc ks (pc + 3) ls st h Q) : AW X mt d kc ks pc ls (.int x :: st) h Q := by
  intro p l e R s m args below meth c A G cls Z H locs cells slots ad lsA C F D hc hs hA
  exact lv_if_lt C.1 C.2.1 hd ht (fun q => kt q p l e R s m args below meth c A G cls Z H locs cells slots ad lsA C F D hc hs hA) (fun q => kf q p l e R s m args below meth c A G cls Z H locs cells slots ad lsA C F D hc hs hA)
theorem a_icmp_lt {x y : Int32} {off : Int} {tgt : Nat} (hd : decode (mB mt) pc = .ok (.if_icmp .lt off, 3)) (ht : (pc : Int) + off = (tgt : Int)) (kt : x < y → AW X mt d kc ks tgt ls st h Q) (kf : ¬ x < y → AW X mt d kc ks (pc + 3) ls st h Q) : AW X mt d kc ks pc ls (.int y :: .int x :: st) h Q := by
  intro p l e R s m args below meth c A G cls Z H locs cells slots ad lsA C F D hc hs hA
  exact lv_icmp_lt C.1 C.2.1 hd ht (fun q => kt q p l e R s m args below meth c A G cls Z H locs cells slots ad lsA C F D hc hs hA) (fun q => kf q p l e R s m args below meth c A G cls Z H locs cells slots ad lsA C F D hc hs hA)
theorem a_if_ge {x : Int32} {off : Int} {tgt : Nat} (hd : decode (mB mt) pc = .ok (.ifCond .ge off, 3)) (ht : (pc : Int) + off = (tgt : Int)) (kt : 0 ≤ x → AW X mt d kc ks tgt ls st h Q) (kf : ¬ 0 ≤ x → AW X mt d kc ks (pc + 3) ls st h Q) : AW X mt d kc ks pc ls (.int x :: st) h Q := by
  intro p l e R s m args below meth c A G cls Z H locs cells slots ad lsA C F D hc hs hA
  exact lv_if_ge C.1 C.2.1 hd ht (fun q => kt q p l e R s m args below meth c A G cls Z H locs cells slots ad lsA C F D hc hs hA) (fun q => kf q p l e R s m args below meth c A G cls Z H locs cells slots ad lsA C F D hc hs hA)
theorem a_icmp_ge {x y : Int32} {off : Int} {tgt : Nat} (hd : decode (mB mt) pc = .ok (.if_icmp .ge off, 3)) (ht : (pc : Int) + off = (tgt : Int)) (kt : y ≤ x → AW X mt d kc ks tgt ls st h Q) (kf : ¬ y ≤ x → AW X mt d kc ks (pc + 3) ls st h Q) : AW X mt d kc ks pc ls (.int y :: .int x :: st) h Q := by
  intro p l e R s m args below meth c A G cls Z H locs cells slots ad lsA C F D hc hs hA
  exact lv_icmp_ge C.1 C.2.1 hd ht (fun q => kt q p l e R s m args below meth c A G cls Z H locs cells slots ad lsA C F D hc hs hA) (fun q => kf q p l e R s m args below meth c A G cls Z H locs cells slots ad lsA C F D hc hs hA)
theorem a_if_gt {x : Int32} {off : Int} {tgt : Nat} (hd : decode (mB mt) pc = .ok (.ifCond .gt off, 3)) (ht : (pc : Int) + off = (tgt : Int)) (kt : 0 < x → AW X mt d kc ks tgt ls st h Q) (kf : ¬ 0 < x → AW X mt d kc ks (pc + 3) ls st h Q) : AW X mt d kc ks pc ls (.int x :: st) h Q := by
  intro p l e R s m args below meth c A G cls Z H locs cells slots ad lsA C F D hc hs hA
  exact lv_if_gt C.1 C.2.1 hd ht (fun q => kt q p l e R s m args below meth c A G cls Z H locs cells slots ad lsA C F D hc hs hA) (fun q => kf q p l e R s m args below meth c A G cls Z H locs cells slots ad lsA C F D hc hs hA)
theorem a_icmp_gt {x y : Int32} {off : Int} {tgt : Nat} (hd : decode (mB mt) pc = .ok (.if_icmp .gt off, 3)) (ht : (pc : Int) + off = (tgt : Int)) (kt : y < x → AW X mt d kc ks tgt ls st h Q) (kf : ¬ y < x → AW X mt d kc ks (pc + 3) ls st h Q) : AW X mt d kc ks pc ls (.int y :: .int x :: st) h Q := by
  intro p l e R s m args below meth c A G cls Z H locs cells slots ad lsA C F D hc hs hA
  exact lv_icmp_gt C.1 C.2.1 hd ht (fun q => kt q p l e R s m args below meth c A G cls Z H locs cells slots ad lsA C F D hc hs hA) (fun q => kf q p l e R s m args below meth c A G cls Z H locs cells slots ad lsA C F D hc hs hA)
theorem a_if_le {x : Int32} {off : Int} {tgt : Nat} (hd : decode (mB mt) pc = .ok (.ifCond .le off, 3)) (ht : (pc : Int) + off = (tgt : Int)) (kt : x ≤ 0 → AW X mt d kc ks tgt ls st h Q) (kf : ¬ x ≤ 0 → AW X mt d kc ks (pc + 3) ls st h Q) : AW X mt d kc ks pc ls (.int x :: st) h Q := by
  intro p l e R s m args below meth c A G cls Z H locs cells slots ad lsA C F D hc hs hA
  exact lv_if_le C.1 C.2.1 hd ht (fun q => kt q p l e R s m args below meth c A G cls Z H locs cells slots ad lsA C F D hc hs hA) (fun q => kf q p l e R s m args below meth c A G cls Z H locs cells slots ad lsA C F D hc hs hA)
theorem a_icmp_le {x y : Int32} {off : Int} {tgt : Nat} (hd : decode (mB mt) pc = .ok (.if_icmp .le off, 3)) (ht : (pc : Int) + off = (tgt : Int)) (kt : x ≤ y → AW X mt d kc ks tgt ls st h Q) (kf : ¬ x ≤ y → AW X mt d kc ks (pc + 3) ls st h Q) : AW X mt d kc ks pc ls (.int y :: .int x :: st) h Q := by
  intro p l e R s m args below meth c A G cls Z H locs cells slots ad lsA C F D hc hs hA
  exact lv_icmp_le C.1 C.2.1 hd ht (fun q => kt q p l e R s m args below meth c A G cls Z H locs cells slots ad lsA C F D hc hs hA) (fun q => kf q p l e R s m args below meth c A G cls Z H locs cells slots ad lsA C F D hc hs hA)
theorem a_goto {off : Int} {tgt : Nat} (hd : decode (mB mt) pc = .ok (.goto off, 3)) (ht : (pc : Int) + off = (tgt : Int)) (k : AW X mt d kc ks tgt ls st h Q) : AW X mt d kc ks pc ls st h Q := AW.p1 (fun _ _ _ _ _ _ _ _ _ _ _ _ _ _ _ _ _ hx hb _ _ _ k => lv_goto hx hb hd ht k) k
theorem a_ifnull {off : Int} {x : Nat} (hd : decode (mB mt) pc = .ok (.ifnull off, 3)) (k : AW X mt d kc ks (pc + 3) ls st h Q) : AW X mt d kc ks pc ls (.ref x :: st) h Q := AW.p1 (fun _ _ _ _ _ _ _ _ _ _ _ _ _ _ _ _ _ hx hb _ _ _ k => lv_ifnull hx hb hd k) k
theorem a_ifnonnull {off : Int} {tgt : Nat} {x : Nat} (hd : decode (mB mt) pc = .ok (.ifnonnull off, 3)) (ht : (pc : Int) + off = (tgt : Int)) (k : AW X mt d kc ks tgt ls st h Q) : AW X mt d kc ks pc ls (.ref x :: st) h Q := AW.p1 (fun _ _ _ _ _ _ _ _ _ _ _ _ _ _ _ _ _ hx hb _ _ _ k => lv_ifnonnull hx hb hd ht k) k
theorem a_tableIn {dflt lo hi : Int} {offs : Array Int} {len : Nat} {x : Int32} {off : Int} {tgt : Nat} (hd : decode (mB mt) pc = .ok (.tableswitch dflt lo hi offs, len)) (h1 : ¬ x.toInt < lo) (h2 : ¬ hi < x.toInt) (h3 : offs[(x.toInt - lo).toNat]? = some off) (ht : (pc : Int) + off = (tgt : Int)) (k : AW X mt d kc ks tgt ls st h Q) : AW X mt d kc ks pc ls (.int x :: st) h Q := AW.p1 (fun _ _ _ _ _ _ _ _ _ _ _ _ _ _ _ _ _ hx hb _ _ _ k => lv_tableIn hx hb hd h1 h2 h3 ht k) k
theorem a_tableOut {dflt lo hi : Int} {offs : Array Int} {len : Nat} {x : Int32} {tgt : Nat} (hd : decode (mB mt) pc = .ok (.tableswitch dflt lo hi offs, len)) (h1 : x.toInt < lo ∨ hi < x.toInt) (ht : (pc : Int) + dflt = (tgt : Int)) (k : AW X mt d kc ks tgt ls st h Q) : AW X mt d kc ks pc ls (.int x :: st) h Q := AW.p1 (fun _ _ _ _ _ _ _ _ _ _ _ _ _ _ _ _ _ hx hb _ _ _ k => lv_tableOut hx hb hd h1 ht k) k
/-- the top of the stack, said otherwise -/
theorem a_top {v v' : Value} (e : v = v') (k : AW X mt d kc ks pc ls (v' :: st) h Q) : AW X mt d kc ks pc ls (v :: st) h Q := by rw [e]; exact k
theorem a_heap {h' : AH} (e : h = h') (k : AW X mt d kc ks pc ls st h' Q) : AW X mt d kc ks pc ls st h Q := by rw [e]; exact k
theorem a_locs (e : ls = ls') (k : AW X mt d kc ks pc ls' st h Q) : AW X mt d kc ks pc ls st h Q := by rw [e]; exact k
/-- fewer locals -/
theorem a_drop (hs : ∀ q ∈ ls', q ∈ ls) (k : AW X mt d kc ks pc ls' st h Q) : AW X mt d kc ks pc ls st h Q := by
  intro p l e R s m args below meth c A G cls Z H locs cells slots ad lsA C F D hc hs2 hA
  refine k p l e R s m args below meth c A G cls Z H locs cells slots ad lsA C F D hc hs2 (lv_has_of hA (fun q hq => ?_))
  obtain ⟨z, hz, rfl⟩ := List.mem_map.mp hq
  exact List.mem_map.mpr ⟨z, hs z hz, rfl⟩
theorem a_room {kc' ks' : Nat} (h1 : kc' ≤ kc) (h2 : ks' ≤ ks) (k : AW X mt d kc' ks' pc ls st h Q) : AW X mt d kc ks pc ls st h Q := by
  intro p l e R s m args below meth c A G cls Z H locs cells slots ad lsA C F D hc hs hA
  exact k p l e R s m args below meth c A G cls Z H locs cells slots ad lsA C F D (by omega) (by omega) hA
/-- the same judgement, a weaker end -/
theorem a_post {Q' : Res → AH → Prop} (hq : ∀ r h2, Q' r h2 → Q r h2) (k : AW X mt d kc ks pc ls st h Q') : AW X mt d kc ks pc ls st h Q := by
  intro p l e R s m args below meth c A G cls Z H locs cells slots ad lsA C F D hc hs hA
  exact k p l e R s m args below meth c A G cls Z H locs cells slots ad lsA C ⟨fun v h2 q => F.1 v h2 (hq _ _ q), fun E h2 q => F.2 E h2 (hq _ _ q)⟩ D hc hs hA
end RW5
end
section
/-! ===== BEGIN a constructor that throws (launches without stack traces) ===== -/
section VXIA
variable {p : Program} {l : Launch} {e : Env} {R : Room} {s : State} {m : MethodId} {args : Array Value} {below : List Frame} {meth : Method} {c : Code} {T : State} {locs : List Loc} {cells slots : Nat}
theorem vx_callI (X : Stand p l e R s m args below meth c T locs cells slots) (hexec : p.tables.exec = Jvm.exec) {own : String} {index : Nat} {y : MethodName} {bytes : ByteArray} {maxL : Nat}
    (hown : s.vm.findClass own = some m.cls) (hy1 : y.name = "<init>") (hlink : (Cond.methodLink own index y).before args s = true) (hinst : (Cond.instanceMethod y).before args s = true)
    (hcode : (Cond.code y bytes maxL none).before args s = true) (hy : y.cls ≠ "java/lang/invoke/MethodHandle" ∧ y.cls ≠ "java/lang/invoke/VarHandle")
    {W9 : Nat} {Pre : Pt → Array Value → Prop} {Post : Pt → Array Value → Option Value → Pt → Prop} {PostX : Pt → Array Value → Addr → Pt → Prop} (hK : vx_Back l R p e below s args y 3 W9 Pre Post PostX)
    {g : JFrame} (hg : g.method = m) (hsize : g.locals.size = c.maxLocals) {a : Addr} {argsL rest : List Value} (hlen : ∀ sig, parseMethodDescriptor y.desc = some sig → argsL.length = sig.parameters.length)
    (hstack : g.stack = argsL.reverse ++ .ref a :: rest) (hW : 2 * g.monitorRoom + (rest.map fun v => v.category).sum ≤ W9) (hdg : decode c.code g.pc = .ok (.invokespecial index, 3))
    (hpre : ∀ vm₁, s.WarmedH vm₁ → Pre ⟨T.setVm vm₁, locs, cells, slots⟩ (Value.ref a :: argsL).toArray) :
    (∃ (v : Option Value) (vm₁ : Vm) (B : Pt), s.WarmedH vm₁ ∧ Stand p l e R s m args below meth c B.U B.locs B.cells B.slots ∧ Post ⟨T.setVm vm₁, locs, cells, slots⟩ (Value.ref a :: argsL).toArray v B ∧
      ∀ target, Steps p.tables e below (B.U.setTop { g with pc := g.pc + 3, stack := v.toList ++ rest }) target → Steps p.tables e below (T.setTop g) target) ∨
    (∃ (q : Addr) (vm₁ : Vm) (B : Pt), s.WarmedH vm₁ ∧ Stand p l e R s m args below meth c B.U B.locs B.cells B.slots ∧ PostX ⟨T.setVm vm₁, locs, cells, slots⟩ (Value.ref a :: argsL).toArray q B ∧
      Steps p.tables e below (T.setTop g) ((B.U.setTop { g with stack := rest }).pushFrame (.throwing q))) := by
  subst hg
  have hpl : e.platform.magicAccessors = ({} : Platform).magicAccessors := by rw [X.admits.platform]
  obtain ⟨mk, methM, cM, kP, vm₁, hnamed, hmethM, hcodeM, -, hlocalsM, -, hkP, -, hW₁, hstep₁⟩ := Steps.initColdArgs (e := e) X.here hexec X.warmed hpl hown hy1 hy hlink hinst hcode (f := g) rfl hlen hstack hdg
  have X₁ := X.noted hW₁
  rcases hK g.method meth c ⟨T.setVm vm₁, locs, cells, slots⟩ { g with stack := rest } (.invokespecial index) mk (Value.ref a :: argsL).toArray X₁ rfl hsize hdg hW (X₁.named hnamed) (hpre vm₁ X₁.warmed) with ⟨v, B, X', hpost, hsteps⟩ | ⟨q, B, X', hpost, hsteps⟩
  · exact Or.inl ⟨v, vm₁, B, X₁.warmed, X', hpost, fun target h => hstep₁ _ fun acts => by rw [doInvoke_state]; exact hsteps.trans h⟩
  · exact Or.inr ⟨q, vm₁, B, X₁.warmed, X', hpost, hstep₁ _ fun acts => by rw [doInvoke_state]; exact hsteps⟩
end VXIA
section VXIB
variable {p : Program} {l : Launch} {e : Env} {R : Room} {s : State} {m : MethodId} {args : Array Value} {below : List Frame} {meth : Method} {c : Code} {H : Heap} {locs : List Loc} {cells slots : Nat}
variable {y : MethodName} {bytes cc : ByteArray} {maxL nL mc ms n index : Nat} {ret : Option FieldType} {ws : List Cond} {rm : Room} {Pc : Array Value → State → Prop} {Qc : Array Value → State → Outcome → State → Prop} {XC : String → State → State → Prop} {free : Addr → Prop} {Ts : List Cond} {own C : String} {b : Addr} {As rest : List Value} {g : JFrame}
theorem vx_runI (S : CallFix p m c cc nL s args Ts own) (hM : vx_Met l y ws rm Pc Qc XC mc ms free) (cw : CallB R s args own index y bytes maxL none ws rm mc ms n ∧ y.name = "<init>" ∧ (Cond.instanceMethod y).before args s = true) (hp : PreS s H Pc (.ref b :: As))
    (hg : g.method = m) (hn : As.length = n) (hsize : g.locals.size = nL) (hstack : g.stack = As.reverse ++ .ref b :: rest) (hW : 2 * g.monitorRoom + (rest.map fun v => v.category).sum ≤ 8) (hdg : decode cc g.pc = .ok (.invokespecial index, 3)) (hf : cells + mc ≤ R.cells ∧ slots + ms ≤ R.slots) :
    vx_Run p l e R s m args below meth c H locs cells slots mc ms g rest (Qc (Value.ref b :: As).toArray) XC free := by
  have hK : vx_Back l R p e below s args y 3 8 (PreOf R mc ms Pc) (PostOf Qc mc ms free) (vx_Post XC mc ms free) := vx_callBack cw.1 hM hp.1
  obtain ⟨⟨-, -, -, -, -, -, hcode, -, hy, hlen, hl⟩, hy1, hin⟩ := cw
  obtain ⟨hx, hb, hml, ho, -⟩ := S
  have hPc := hp.2
  intro T hT X
  rcases vx_callI X hx (bytes := bytes) (maxL := maxL) ho hy1 hl hin hcode hy hK hg (hsize.trans hml.symm) (a := b) (argsL := As) (rest := rest) (fun sig h => hn.trans (hlen sig h)) hstack hW (by rw [hb]; exact hdg)
    (fun vm₁ hW₁ => ⟨hf.1, hf.2, hPc (T.setVm vm₁) hT hW₁⟩) with ⟨v, vm₁, ⟨U', l2, c2, s2⟩, hW₁, X', ⟨g', mk, t, L, e1, e2, hq, h1, hL, h2, h3⟩, st⟩ | ⟨q, vm₁, ⟨U', l2, c2, s2⟩, hW₁, X', ⟨g', mk, t, L, E, ce, e1, e2, hq, hce, hcv, hcl, h1, hL, h2, h3⟩, st⟩
  · dsimp only [Pt.U, Pt.locs, Pt.cells, Pt.slots] at X' e1 e2 h1 h2 h3 st
    subst h1; subst h2; subst h3
    exact Or.inl ⟨v, (T.setVm vm₁).calling g' mk (Value.ref b :: As).toArray, t, U', L, hT, X', hL, e1, e2, hq, st⟩
  · dsimp only [Pt.U, Pt.locs, Pt.cells, Pt.slots] at X' e1 e2 h1 h2 h3 st hcl
    subst h1; subst h2; subst h3
    exact Or.inr ⟨q, (T.setVm vm₁).calling g' mk (Value.ref b :: As).toArray, t, U', L, E, ce, hT, X', hL, e1, e2, hq, hce, hcv, vx_cls hW₁ hcl, st⟩
end VXIB
/-! ===== END ===== -/
/-! ===== BEGIN a private constructor of a nest mate that throws ===== -/
section VXIC
variable {p : Program} {l : Launch} {e : Env} {R : Room} {s : State} {m : MethodId} {args : Array Value} {below : List Frame} {meth : Method} {c : Code} {T : State} {locs : List Loc} {cells slots : Nat}
theorem vx_callIN (X : Stand p l e R s m args below meth c T locs cells slots) (hexec : p.tables.exec = Jvm.exec) {own : String} {index : Nat} {host : String} {y : MethodName} {bytes : ByteArray} {maxL : Nat}
    (hown : s.vm.findClass own = some m.cls) (hy1 : y.name = "<init>") (hlink : (Cond.methodLinkNest own index y host).before args s = true) (hinst : (Cond.instanceMethod y).before args s = true)
    (hcode : (Cond.code y bytes maxL none).before args s = true) (hy : y.cls ≠ "java/lang/invoke/MethodHandle" ∧ y.cls ≠ "java/lang/invoke/VarHandle")
    {W9 : Nat} {Pre : Pt → Array Value → Prop} {Post : Pt → Array Value → Option Value → Pt → Prop} {PostX : Pt → Array Value → Addr → Pt → Prop} (hK : vx_Back l R p e below s args y 3 W9 Pre Post PostX)
    {g : JFrame} (hg : g.method = m) (hsize : g.locals.size = c.maxLocals) {a : Addr} {argsL rest : List Value} (hlen : ∀ sig, parseMethodDescriptor y.desc = some sig → argsL.length = sig.parameters.length)
    (hstack : g.stack = argsL.reverse ++ .ref a :: rest) (hW : 2 * g.monitorRoom + (rest.map fun v => v.category).sum ≤ W9) (hdg : decode c.code g.pc = .ok (.invokespecial index, 3))
    (hpre : ∀ vm₁, s.WarmedH vm₁ → Pre ⟨T.setVm vm₁, locs, cells, slots⟩ (Value.ref a :: argsL).toArray) :
    (∃ (v : Option Value) (vm₁ : Vm) (B : Pt), s.WarmedH vm₁ ∧ Stand p l e R s m args below meth c B.U B.locs B.cells B.slots ∧ Post ⟨T.setVm vm₁, locs, cells, slots⟩ (Value.ref a :: argsL).toArray v B ∧
      ∀ target, Steps p.tables e below (B.U.setTop { g with pc := g.pc + 3, stack := v.toList ++ rest }) target → Steps p.tables e below (T.setTop g) target) ∨
    (∃ (q : Addr) (vm₁ : Vm) (B : Pt), s.WarmedH vm₁ ∧ Stand p l e R s m args below meth c B.U B.locs B.cells B.slots ∧ PostX ⟨T.setVm vm₁, locs, cells, slots⟩ (Value.ref a :: argsL).toArray q B ∧
      Steps p.tables e below (T.setTop g) ((B.U.setTop { g with stack := rest }).pushFrame (.throwing q))) := by
  subst hg
  have hpl : e.platform.magicAccessors = ({} : Platform).magicAccessors := by rw [X.admits.platform]
  obtain ⟨mk, methM, cM, kP, vm₁, hnamed, hmethM, hcodeM, -, hlocalsM, -, hkP, -, hW₁, hstep₁⟩ := Steps.initColdArgsNest (e := e) X.here hexec X.warmed hpl hown hy1 hy hlink hinst hcode (f := g) rfl hlen hstack hdg
  have X₁ := X.noted hW₁
  rcases hK g.method meth c ⟨T.setVm vm₁, locs, cells, slots⟩ { g with stack := rest } (.invokespecial index) mk (Value.ref a :: argsL).toArray X₁ rfl hsize hdg hW (X₁.named hnamed) (hpre vm₁ X₁.warmed) with ⟨v, B, X', hpost, hsteps⟩ | ⟨q, B, X', hpost, hsteps⟩
  · exact Or.inl ⟨v, vm₁, B, X₁.warmed, X', hpost, fun target h => hstep₁ _ fun acts => by rw [doInvoke_state]; exact hsteps.trans h⟩
  · exact Or.inr ⟨q, vm₁, B, X₁.warmed, X', hpost, hstep₁ _ fun acts => by rw [doInvoke_state]; exact hsteps⟩
end VXIC
section VXID
variable {p : Program} {l : Launch} {e : Env} {R : Room} {s : State} {m : MethodId} {args : Array Value} {below : List Frame} {meth : Method} {c : Code} {H : Heap} {locs : List Loc} {cells slots : Nat}
theorem vx_runIN {y : MethodName} {bytes cc : ByteArray} {maxL nL mc ms n index : Nat} {ws : List Cond} {rm : Room} {Pc : Array Value → State → Prop} {Qc : Array Value → State → Outcome → State → Prop} {XC : String → State → State → Prop} {free : Addr → Prop} {Ts : List Cond} {own host : String} {b : Addr} {As rest : List Value} {g : JFrame}
    (S : CallFix p m c cc nL s args Ts own) (hM : vx_Met l y ws rm Pc Qc XC mc ms free) (cw : va_CN R s args own index y host bytes maxL none ws rm mc ms n ∧ y.name = "<init>" ∧ (Cond.instanceMethod y).before args s = true) (hp : PreS s H Pc (.ref b :: As))
    (hg : g.method = m) (hn : As.length = n) (hsize : g.locals.size = nL) (hstack : g.stack = As.reverse ++ .ref b :: rest) (hW : 2 * g.monitorRoom + (rest.map fun v => v.category).sum ≤ 8) (hdg : decode cc g.pc = .ok (.invokespecial index, 3)) (hf : cells + mc ≤ R.cells ∧ slots + ms ≤ R.slots) :
    vx_Run p l e R s m args below meth c H locs cells slots mc ms g rest (Qc (Value.ref b :: As).toArray) XC free := by
  obtain ⟨⟨⟨hrc, hrs, hfr, hlo, hws, hcw⟩, hcode, hini, hy, hlen, hl⟩, hx1, hx2⟩ := cw
  have hK : vx_Back l R p e below s args y 3 8 (PreOf R mc ms Pc) (PostOf Qc mc ms free) (vx_Post XC mc ms free) := vx_back (bytes := bytes) (maxL := maxL) (ret := none) hM hp.1 hrc hrs hfr hlo hws hcw (fun a' U hW => word_at hW (Or.inl (by first | rfl | simp [Cond.onTables, Cond.keeps, Cond.steady])) hini)
  obtain ⟨hx, hb, hml, ho, -⟩ := S
  have hPc := hp.2
  intro T hT X
  rcases vx_callIN X hx (bytes := bytes) (maxL := maxL) ho hx1 hl hx2 hcode hy hK hg (hsize.trans hml.symm) (a := b) (argsL := As) (rest := rest) (fun sig h => hn.trans (hlen sig h)) hstack hW (by rw [hb]; exact hdg)
    (fun vm₁ hW₁ => ⟨hf.1, hf.2, hPc (T.setVm vm₁) hT hW₁⟩) with ⟨v, vm₁, ⟨U', l2, c2, s2⟩, hW₁, X', ⟨g', mk, t, L, e1, e2, hq, h1, hL, h2, h3⟩, st⟩ | ⟨q, vm₁, ⟨U', l2, c2, s2⟩, hW₁, X', ⟨g', mk, t, L, E, ce, e1, e2, hq, hce, hcv, hcl, h1, hL, h2, h3⟩, st⟩
  · dsimp only [Pt.U, Pt.locs, Pt.cells, Pt.slots] at X' e1 e2 h1 h2 h3 st
    subst h1; subst h2; subst h3
    exact Or.inl ⟨v, (T.setVm vm₁).calling g' mk (Value.ref b :: As).toArray, t, U', L, hT, X', hL, e1, e2, hq, st⟩
  · dsimp only [Pt.U, Pt.locs, Pt.cells, Pt.slots] at X' e1 e2 h1 h2 h3 st hcl
    subst h1; subst h2; subst h3
    exact Or.inr ⟨q, (T.setVm vm₁).calling g' mk (Value.ref b :: As).toArray, t, U', L, E, ce, hT, X', hL, e1, e2, hq, hce, hcv, vx_cls hW₁ hcl, st⟩
end VXID
/-! ===== END ===== -/
/-! ===== BEGIN a method of a class above, found by the receiver, that may throw (follows va_callVU, va_runU of this kit) ===== -/
section
variable {p : Program} {l : Launch} {e : Env} {R : Room} {s : State} {m : MethodId} {args : Array Value} {below : List Frame} {meth : Method} {c : Code} {H : Heap} {locs : List Loc} {cells slots : Nat}
theorem vx_callVU {T : State} {locs : List Loc} {cells slots : Nat} (X : Stand p l e R s m args below meth c T locs cells slots) (hexec : p.tables.exec = Jvm.exec) {own C owner : String} {index : Nat} {x y : MethodName} {bytes : ByteArray} {maxL : Nat} {ret : Option FieldType}
    (hown : s.vm.findClass own = some m.cls) (hlink : (Cond.methodLink own index x).before args s = true) (hsame : (Cond.sameMethod x.cls owner x.name x.desc).before args s = true)
    (hd0 : va_Decl s ⟨owner, x.name, x.desc⟩) (howner : owner ≠ "java/lang/invoke/MethodHandle" ∧ owner ≠ "java/lang/invoke/VarHandle")
    (hsel : (Cond.selects C x y).before args s = true) (hinst : (Cond.instanceMethod y).before args s = true) (hcode : (Cond.code y bytes maxL ret).before args s = true)
    {W : Nat} {Pre : Pt → Array Value → Prop} {Post : Pt → Array Value → Option Value → Pt → Prop} {PostX : Pt → Array Value → Addr → Pt → Prop} (hK : vx_Back l R p e below s args y 3 W Pre Post PostX)
    {b : Addr} {cellB : Cell} (hcell : T.heap[b]? = some cellB) (hobj : cellB.vm.isStatics = false) (hcls : s.vm.findClass C = some cellB.cls)
    {g : JFrame} (hg : g.method = m) (hsize : g.locals.size = c.maxLocals) {argsL rest : List Value} (hlen : ∀ sig, parseMethodDescriptor x.desc = some sig → argsL.length = sig.parameters.length)
    (hstack : g.stack = argsL.reverse ++ .ref b :: rest) (hW : 2 * g.monitorRoom + (rest.map fun v => v.category).sum ≤ W) (hdg : decode c.code g.pc = .ok (.invokevirtual index, 3))
    (hpre : ∀ vm₁, s.WarmedH vm₁ → Pre ⟨T.setVm vm₁, locs, cells, slots⟩ (Value.ref b :: argsL).toArray) :
    (∃ (v : Option Value) (vm₁ : Vm) (B : Pt), s.WarmedH vm₁ ∧ Stand p l e R s m args below meth c B.U B.locs B.cells B.slots ∧ Post ⟨T.setVm vm₁, locs, cells, slots⟩ (Value.ref b :: argsL).toArray v B ∧
      ∀ target, Steps p.tables e below (B.U.setTop { g with pc := g.pc + 3, stack := v.toList ++ rest }) target → Steps p.tables e below (T.setTop g) target) ∨
    (∃ (q : Addr) (vm₁ : Vm) (B : Pt), s.WarmedH vm₁ ∧ Stand p l e R s m args below meth c B.U B.locs B.cells B.slots ∧ PostX ⟨T.setVm vm₁, locs, cells, slots⟩ (Value.ref b :: argsL).toArray q B ∧
      Steps p.tables e below (T.setTop g) ((B.U.setTop { g with stack := rest }).pushFrame (.throwing q))) := by
  obtain ⟨r0, r, hn, hrm, hstR, hsigR⟩ := hd0
  obtain ⟨cn, ck, r1, hcn, hck, hni, hf, hn1⟩ := Cond.sameMethod_found hsame
  cases hn.symm.trans hn1
  obtain ⟨mk, methM, hnamed, hmethM, -, habM⟩ := Cond.instanceMethod_spec hinst
  obtain ⟨c2, r2, m2, q1, q2, q3, q4, kP, hkP, hkPi⟩ := Cond.selects_spec hsel
  cases hcls.symm.trans q1
  cases hf.symm.trans q2
  cases hnamed.symm.trans q3
  have hselP : selectMethod e.platform s.vm cellB.cls r0 = .method mk := by rw [Launch.admits_selectMethod X.admits]; exact q4
  obtain ⟨vm₁, X₁, hstep₁⟩ := X.invokevirtualUp hexec hown hlink hsame howner hn hrm hstR (a := b) (cell := cellB) hcell
    (fun z h => by rw [h] at hobj; cases hobj) hselP hmethM habM hkP hkPi (g := g) hg (argsL := argsL) (rest := rest) (hlen _ hsigR) hstack hdg
  rcases hK m meth c ⟨T.setVm vm₁, locs, cells, slots⟩ { g with stack := rest } (.invokevirtual index) mk (Value.ref b :: argsL).toArray X₁ hg hsize hdg hW (X₁.named hnamed) (hpre vm₁ X₁.warmed) with ⟨v, B, X', hpost, hsteps⟩ | ⟨q, B, X', hpost, hsteps⟩
  · exact Or.inl ⟨v, vm₁, B, X₁.warmed, X', hpost, fun target h => hstep₁ _ fun acts => by rw [doInvoke_state]; exact hsteps.trans h⟩
  · exact Or.inr ⟨q, vm₁, B, X₁.warmed, X', hpost, hstep₁ _ fun acts => by rw [doInvoke_state]; exact hsteps⟩
theorem vx_runU {x y : MethodName} {bytes cc : ByteArray} {maxL nL mc ms n index : Nat} {ret : Option FieldType} {ws : List Cond} {rm : Room} {Pc : Array Value → State → Prop} {Qc : Array Value → State → Outcome → State → Prop} {XC : String → State → State → Prop} {free : Addr → Prop} {Ts : List Cond} {own C owner : String} {b : Addr} {As rest : List Value} {g : JFrame}
    (S : CallFix p m c cc nL s args Ts own) (hM : vx_Met l y ws rm Pc Qc XC mc ms free) (cw : va_CU R s args own C owner index x y bytes maxL ret ws rm mc ms n) (hp : PreV s H C b Pc As)
    (hg : g.method = m) (hn : As.length = n) (hsize : g.locals.size = nL) (hstack : g.stack = As.reverse ++ .ref b :: rest) (hW : 2 * g.monitorRoom + (rest.map fun v => v.category).sum ≤ 8) (hdg : decode cc g.pc = .ok (.invokevirtual index, 3)) (hf : cells + mc ≤ R.cells ∧ slots + ms ≤ R.slots) :
    vx_Run p l e R s m args below meth c H locs cells slots mc ms g rest (Qc (Value.ref b :: As).toArray) XC free := by
  obtain ⟨hrc, hrs, hfr, hlo, hws, hcw⟩ := cw.back
  have hini := cw.init
  have hK : vx_Back l R p e below s args y 3 8 (PreOf R mc ms Pc) (PostOf Qc mc ms free) (vx_Post XC mc ms free) := vx_back (bytes := bytes) (maxL := maxL) (ret := ret) hM hp.1 hrc hrs hfr hlo hws hcw (fun a' U hW => word_at hW (Or.inl (by first | rfl | simp [Cond.onTables, Cond.keeps, Cond.steady])) hini)
  obtain ⟨hx, hb, hml, ho, -⟩ := S
  obtain ⟨-, ⟨cellB, hcB, hoB, hclB⟩, hPc⟩ := hp
  intro T hT X
  rcases vx_callVU X hx (C := C) (owner := owner) (bytes := bytes) (maxL := maxL) (ret := ret) ho cw.link cw.same cw.decl cw.notMH cw.sel cw.inst cw.code hK (by rw [hT]; exact hcB) hoB hclB hg (hsize.trans hml.symm) (argsL := As) (rest := rest) (fun sig h => hn.trans (cw.len sig h)) hstack hW (by rw [hb]; exact hdg)
    (fun vm₁ hW₁ => ⟨hf.1, hf.2, hPc (T.setVm vm₁) hT hW₁⟩) with ⟨v, vm₁, ⟨U', l2, c2, s2⟩, hW₁, X', ⟨g', mk, t, L, e1, e2, hq, h1, hL, h2, h3⟩, st⟩ | ⟨q, vm₁, ⟨U', l2, c2, s2⟩, hW₁, X', ⟨g', mk, t, L, E, ce, e1, e2, hq, hce, hcv, hcl, h1, hL, h2, h3⟩, st⟩
  · dsimp only [Pt.U, Pt.locs, Pt.cells, Pt.slots] at X' e1 e2 h1 h2 h3 st
    subst h1; subst h2; subst h3
    exact Or.inl ⟨v, (T.setVm vm₁).calling g' mk (Value.ref b :: As).toArray, t, U', L, hT, X', hL, e1, e2, hq, st⟩
  · dsimp only [Pt.U, Pt.locs, Pt.cells, Pt.slots] at X' e1 e2 h1 h2 h3 st hcl
    subst h1; subst h2; subst h3
    exact Or.inr ⟨q, (T.setVm vm₁).calling g' mk (Value.ref b :: As).toArray, t, U', L, E, ce, hT, X', hL, e1, e2, hq, hce, hcv, vx_cls hW₁ hcl, st⟩
end
/-! ===== END ===== -/
/-! ===== BEGIN super.m(..) that may throw (follows va_callSU, va_runSU) ===== -/
section
variable {p : Program} {l : Launch} {e : Env} {R : Room} {s : State} {m : MethodId} {args : Array Value} {below : List Frame} {meth : Method} {c : Code} {H : Heap} {locs : List Loc} {cells slots : Nat}
theorem vx_callSU {T : State} {locs : List Loc} {cells slots : Nat} (X : Stand p l e R s m args below meth c T locs cells slots) (hexec : p.tables.exec = Jvm.exec) {own : String} {index : Nat} {y : MethodName} {bytes : ByteArray} {maxL : Nat} {ret : Option FieldType}
    (hown : s.vm.findClass own = some m.cls) (hlink : (Cond.methodLink own index y).before args s = true) (hsame : (Cond.sameMethod y.cls y.cls y.name y.desc).before args s = true) (hsup : (Cond.superclass own y.cls).before args s = true)
    (hinst : (Cond.instanceMethod y).before args s = true) (hcode : (Cond.code y bytes maxL ret).before args s = true) (hno : y.name ≠ "<init>")
    {W : Nat} {Pre : Pt → Array Value → Prop} {Post : Pt → Array Value → Option Value → Pt → Prop} {PostX : Pt → Array Value → Addr → Pt → Prop} (hK : vx_Back l R p e below s args y 3 W Pre Post PostX)
    {b : Addr} {cellB : Cell} {kB : Class} (hcell : T.heap[b]? = some cellB) (hobj : cellB.vm.isStatics = false) (hkB : s.vm.classes[cellB.cls]? = some kB)
    {g : JFrame} (hg : g.method = m) (hsize : g.locals.size = c.maxLocals) {argsL rest : List Value} (hlen : ∀ sig, parseMethodDescriptor y.desc = some sig → argsL.length = sig.parameters.length)
    (hstack : g.stack = argsL.reverse ++ .ref b :: rest) (hW : 2 * g.monitorRoom + (rest.map fun v => v.category).sum ≤ W) (hdg : decode c.code g.pc = .ok (.invokespecial index, 3))
    (hpre : ∀ vm₁, s.WarmedH vm₁ → Pre ⟨T.setVm vm₁, locs, cells, slots⟩ (Value.ref b :: argsL).toArray) :
    (∃ (v : Option Value) (vm₁ : Vm) (B : Pt), s.WarmedH vm₁ ∧ Stand p l e R s m args below meth c B.U B.locs B.cells B.slots ∧ Post ⟨T.setVm vm₁, locs, cells, slots⟩ (Value.ref b :: argsL).toArray v B ∧
      ∀ target, Steps p.tables e below (B.U.setTop { g with pc := g.pc + 3, stack := v.toList ++ rest }) target → Steps p.tables e below (T.setTop g) target) ∨
    (∃ (q : Addr) (vm₁ : Vm) (B : Pt), s.WarmedH vm₁ ∧ Stand p l e R s m args below meth c B.U B.locs B.cells B.slots ∧ PostX ⟨T.setVm vm₁, locs, cells, slots⟩ (Value.ref b :: argsL).toArray q B ∧
      Steps p.tables e below (T.setTop g) ((B.U.setTop { g with stack := rest }).pushFrame (.throwing q))) := by
  obtain ⟨mk, methM, hnamed, hmethM, hstM, habM⟩ := Cond.instanceMethod_spec hinst
  obtain ⟨methM', cM, hmethM', -, -, -, -, -, -, hsigM⟩ := Cond.code_spec hnamed hcode
  cases hmethM.symm.trans hmethM'
  obtain ⟨ps, dk, kp, hps, hdk, hkp, hsuper, -, -, hnid⟩ := Cond.superclass_spec hown hsup
  have hn : s.methodNamed? ⟨y.cls, y.name, y.desc⟩ = some mk := hnamed
  have hpm : ps = mk.cls := Option.some.inj (hps.symm.trans (findClass_of_methodNamed hnamed))
  have hsub : s.vm.isSubclass ps mk.cls = true := by rw [hpm]; simp [Vm.isSubclass, Vm.isSubclassAux]
  obtain ⟨vm₁, X₁, hstep₁⟩ := X.invokespecialUp hexec hown hlink hsame hn hmethM hstM habM hno hdk hnid hps hsuper hsub (a := b) (cell := cellB) hcell
    (fun z h => by rw [h] at hobj; cases hobj) hkB (g := g) hg (argsL := argsL) (rest := rest) (hlen _ hsigM) hstack hdg
  rcases hK m meth c ⟨T.setVm vm₁, locs, cells, slots⟩ { g with stack := rest } (.invokespecial index) mk (Value.ref b :: argsL).toArray X₁ hg hsize hdg hW (X₁.named hnamed) (hpre vm₁ X₁.warmed) with ⟨v, B, X', hpost, hsteps⟩ | ⟨q, B, X', hpost, hsteps⟩
  · exact Or.inl ⟨v, vm₁, B, X₁.warmed, X', hpost, fun target h => hstep₁ _ (by rw [doInvoke_state]; exact hsteps.trans h)⟩
  · exact Or.inr ⟨q, vm₁, B, X₁.warmed, X', hpost, hstep₁ _ (by rw [doInvoke_state]; exact hsteps)⟩
theorem vx_runSU {y : MethodName} {bytes cc : ByteArray} {maxL nL mc ms n index : Nat} {ret : Option FieldType} {ws : List Cond} {rm : Room} {Pc : Array Value → State → Prop} {Qc : Array Value → State → Outcome → State → Prop} {XC : String → State → State → Prop} {free : Addr → Prop} {Ts : List Cond} {own C : String} {cC : ClassId} {b : Addr} {As rest : List Value} {g : JFrame}
    (hat : ClassAt s C cC) (S : CallFix p m c cc nL s args Ts own) (hM : vx_Met l y ws rm Pc Qc XC mc ms free) (cw : va_CS R s args own index y bytes maxL ret ws rm mc ms n) (hp : PreV s H C b Pc As)
    (hg : g.method = m) (hn : As.length = n) (hsize : g.locals.size = nL) (hstack : g.stack = As.reverse ++ .ref b :: rest) (hW : 2 * g.monitorRoom + (rest.map fun v => v.category).sum ≤ 8) (hdg : decode cc g.pc = .ok (.invokespecial index, 3)) (hf : cells + mc ≤ R.cells ∧ slots + ms ≤ R.slots) :
    vx_Run p l e R s m args below meth c H locs cells slots mc ms g rest (Qc (Value.ref b :: As).toArray) XC free := by
  obtain ⟨⟨hrc, hrs, hfr, hlo, hws, hcw⟩, hl1, hl2, hl3, hl4, hini, hcode, hno, hlen⟩ := cw
  have hK : vx_Back l R p e below s args y 3 8 (PreOf R mc ms Pc) (PostOf Qc mc ms free) (vx_Post XC mc ms free) := vx_back (bytes := bytes) (maxL := maxL) (ret := ret) hM hp.1 hrc hrs hfr hlo hws hcw (fun a' U hW => word_at hW (Or.inl (by first | rfl | simp [Cond.onTables, Cond.keeps, Cond.steady])) hini)
  obtain ⟨hx, hb, hml, ho, -⟩ := S
  obtain ⟨-, ⟨cellB, hcB, hoB, hclB⟩, hPc⟩ := hp
  obtain ⟨hfc, kB, hkB, -⟩ := hat
  cases hfc.symm.trans hclB
  intro T hT X
  rcases vx_callSU X hx (bytes := bytes) (maxL := maxL) (ret := ret) ho hl1 hl2 hl3 hl4 hcode hno hK (by rw [hT]; exact hcB) hoB hkB hg (hsize.trans hml.symm) (argsL := As) (rest := rest) (fun sig h => hn.trans (hlen sig h)) hstack hW (by rw [hb]; exact hdg)
    (fun vm₁ hW₁ => ⟨hf.1, hf.2, hPc (T.setVm vm₁) hT hW₁⟩) with ⟨v, vm₁, ⟨U', l2, c2, s2⟩, hW₁, X', ⟨g', mk, t, L, e1, e2, hq, h1, hL, h2, h3⟩, st⟩ | ⟨q, vm₁, ⟨U', l2, c2, s2⟩, hW₁, X', ⟨g', mk, t, L, E, ce, e1, e2, hq, hce, hcv, hcl, h1, hL, h2, h3⟩, st⟩
  · dsimp only [Pt.U, Pt.locs, Pt.cells, Pt.slots] at X' e1 e2 h1 h2 h3 st
    subst h1; subst h2; subst h3
    exact Or.inl ⟨v, (T.setVm vm₁).calling g' mk (Value.ref b :: As).toArray, t, U', L, hT, X', hL, e1, e2, hq, st⟩
  · dsimp only [Pt.U, Pt.locs, Pt.cells, Pt.slots] at X' e1 e2 h1 h2 h3 st hcl
    subst h1; subst h2; subst h3
    exact Or.inr ⟨q, (T.setVm vm₁).calling g' mk (Value.ref b :: As).toArray, t, U', L, E, ce, hT, X', hL, e1, e2, hq, hce, hcv, vx_cls hW₁ hcl, st⟩
end
/-! ===== END ===== -/
/-! ===== BEGIN a private method of a nest mate that may throw (follows va_callVN, va_callSN, va_runVN, va_runSN) ===== -/
section
variable {p : Program} {l : Launch} {e : Env} {R : Room} {s : State} {m : MethodId} {args : Array Value} {below : List Frame} {meth : Method} {c : Code} {H : Heap} {locs : List Loc} {cells slots : Nat}
variable {T : State}
theorem vx_callVN (X : Stand p l e R s m args below meth c T locs cells slots) (hexec : p.tables.exec = Jvm.exec) {own C : String} {index : Nat} {host : String} {y : MethodName} {bytes : ByteArray} {maxL : Nat} {ret : Option FieldType}
    (hown : s.vm.findClass own = some m.cls) (hlink : (Cond.methodLinkNest own index y host).before args s = true) (hinst : (Cond.instanceMethod y).before args s = true) (hsel : (Cond.selects C y y).before args s = true)
    (hcode : (Cond.code y bytes maxL ret).before args s = true) (hy : y.cls ≠ "java/lang/invoke/MethodHandle" ∧ y.cls ≠ "java/lang/invoke/VarHandle")
    {W : Nat} {Pre : Pt → Array Value → Prop} {Post : Pt → Array Value → Option Value → Pt → Prop} {PostX : Pt → Array Value → Addr → Pt → Prop} (hK : vx_Back l R p e below s args y 3 W Pre Post PostX)
    {b : Addr} {cellB : Cell} (hcell : T.heap[b]? = some cellB) (hobj : cellB.vm.isStatics = false) (hcls : s.vm.findClass C = some cellB.cls)
    {g : JFrame} (hg : g.method = m) (hsize : g.locals.size = c.maxLocals) {argsL rest : List Value} (hlen : ∀ sig, parseMethodDescriptor y.desc = some sig → argsL.length = sig.parameters.length)
    (hstack : g.stack = argsL.reverse ++ .ref b :: rest) (hW : 2 * g.monitorRoom + (rest.map fun v => v.category).sum ≤ W) (hdg : decode c.code g.pc = .ok (.invokevirtual index, 3))
    (hpre : ∀ vm₁, s.WarmedH vm₁ → Pre ⟨T.setVm vm₁, locs, cells, slots⟩ (Value.ref b :: argsL).toArray) :
    (∃ (v : Option Value) (vm₁ : Vm) (B : Pt), s.WarmedH vm₁ ∧ Stand p l e R s m args below meth c B.U B.locs B.cells B.slots ∧ Post ⟨T.setVm vm₁, locs, cells, slots⟩ (Value.ref b :: argsL).toArray v B ∧
      ∀ target, Steps p.tables e below (B.U.setTop { g with pc := g.pc + 3, stack := v.toList ++ rest }) target → Steps p.tables e below (T.setTop g) target) ∨
    (∃ (q : Addr) (vm₁ : Vm) (B : Pt), s.WarmedH vm₁ ∧ Stand p l e R s m args below meth c B.U B.locs B.cells B.slots ∧ PostX ⟨T.setVm vm₁, locs, cells, slots⟩ (Value.ref b :: argsL).toArray q B ∧
      Steps p.tables e below (T.setTop g) ((B.U.setTop { g with stack := rest }).pushFrame (.throwing q))) := by
  obtain ⟨mk, methM, hnamed, hmethM, hstM, habM⟩ := Cond.instanceMethod_spec hinst
  obtain ⟨methM', cM, hmethM', -, -, -, -, -, -, hsigM⟩ := Cond.code_spec hnamed hcode
  cases hmethM.symm.trans hmethM'
  obtain ⟨c2, r2, m2, q1, q2, q3, q4, kP, hkP, hkPi⟩ := Cond.selects_spec hsel
  cases hcls.symm.trans q1
  cases (State.methodFound?_of_named hnamed hy).symm.trans q2
  cases hnamed.symm.trans q3
  have hselP : selectMethod e.platform s.vm cellB.cls mk = .method mk := by rw [Launch.admits_selectMethod X.admits]; exact q4
  obtain ⟨vm₁, X₁, hstep₁⟩ := X.invokevirtualNest hexec hown hlink hnamed hmethM hstM hkP hkPi hy (a := b) (cell := cellB) hcell
    (fun z h => by rw [h] at hobj; cases hobj) hselP hmethM habM hkP hkPi (g := g) hg (argsL := argsL) (rest := rest) (hlen _ hsigM) hstack hdg
  rcases hK m meth c ⟨T.setVm vm₁, locs, cells, slots⟩ { g with stack := rest } (.invokevirtual index) mk (Value.ref b :: argsL).toArray X₁ hg hsize hdg hW (X₁.named hnamed) (hpre vm₁ X₁.warmed) with ⟨v, B, X', hpost, hsteps⟩ | ⟨q, B, X', hpost, hsteps⟩
  · exact Or.inl ⟨v, vm₁, B, X₁.warmed, X', hpost, fun target h => hstep₁ _ fun acts => by rw [doInvoke_state]; exact hsteps.trans h⟩
  · exact Or.inr ⟨q, vm₁, B, X₁.warmed, X', hpost, hstep₁ _ fun acts => by rw [doInvoke_state]; exact hsteps⟩
theorem vx_callSN (X : Stand p l e R s m args below meth c T locs cells slots) (hexec : p.tables.exec = Jvm.exec) {own : String} {index : Nat} {host : String} {y : MethodName} {bytes : ByteArray} {maxL : Nat} {ret : Option FieldType}
    (hown : s.vm.findClass own = some m.cls) (hlink : (Cond.methodLinkNest own index y host).before args s = true) (hstat : (Cond.static y).before args s = true) (hinit : (Cond.initialized y.cls).before args s = true)
    (hcode : (Cond.code y bytes maxL ret).before args s = true) (hy : y.cls ≠ "java/lang/invoke/MethodHandle" ∧ y.cls ≠ "java/lang/invoke/VarHandle")
    {W : Nat} {Pre : Pt → Array Value → Prop} {Post : Pt → Array Value → Option Value → Pt → Prop} {PostX : Pt → Array Value → Addr → Pt → Prop} (hK : vx_Back l R p e below s args y 3 W Pre Post PostX)
    {g : JFrame} (hg : g.method = m) (hsize : g.locals.size = c.maxLocals) {argsL rest : List Value} (hlen : ∀ sig, parseMethodDescriptor y.desc = some sig → argsL.length = sig.parameters.length)
    (hstack : g.stack = argsL.reverse ++ rest) (hW : 2 * g.monitorRoom + (rest.map fun v => v.category).sum ≤ W) (hdg : decode c.code g.pc = .ok (.invokestatic index, 3))
    (hpre : ∀ vm₁, s.WarmedH vm₁ → Pre ⟨T.setVm vm₁, locs, cells, slots⟩ argsL.toArray) :
    (∃ (v : Option Value) (vm₁ : Vm) (B : Pt), s.WarmedH vm₁ ∧ Stand p l e R s m args below meth c B.U B.locs B.cells B.slots ∧ Post ⟨T.setVm vm₁, locs, cells, slots⟩ argsL.toArray v B ∧
      ∀ target, Steps p.tables e below (B.U.setTop { g with pc := g.pc + 3, stack := v.toList ++ rest }) target → Steps p.tables e below (T.setTop g) target) ∨
    (∃ (q : Addr) (vm₁ : Vm) (B : Pt), s.WarmedH vm₁ ∧ Stand p l e R s m args below meth c B.U B.locs B.cells B.slots ∧ PostX ⟨T.setVm vm₁, locs, cells, slots⟩ argsL.toArray q B ∧
      Steps p.tables e below (T.setTop g) ((B.U.setTop { g with stack := rest }).pushFrame (.throwing q))) := by
  obtain ⟨mk, hnamed⟩ := Cond.code_named hcode
  obtain ⟨methM, cM, hmethM, -, -, -, -, -, -, hsigM⟩ := Cond.code_spec hnamed hcode
  have hstatic : methM.isStatic = true := Cond.static_spec hnamed hmethM hstat
  obtain ⟨kP, hkP, -⟩ := className_of_methodNamed hnamed
  have hinitP : kP.init = .initialized := Cond.initialized_spec (findClass_of_methodNamed hnamed) hkP hinit
  obtain ⟨vm₁, X₁, hstep₁⟩ := X.invokestaticNest hexec hown hlink hnamed hmethM hstatic hkP hinitP hy (g := g) hg (argsL := argsL) (rest := rest) (hlen _ hsigM) hstack hdg
  rcases hK m meth c ⟨T.setVm vm₁, locs, cells, slots⟩ { g with stack := rest } (.invokestatic index) mk argsL.toArray X₁ hg hsize hdg hW (X₁.named hnamed) (hpre vm₁ X₁.warmed) with ⟨v, B, X', hpost, hsteps⟩ | ⟨q, B, X', hpost, hsteps⟩
  · exact Or.inl ⟨v, vm₁, B, X₁.warmed, X', hpost, fun target h => hstep₁ _ fun acts => by rw [doInvoke_state]; exact hsteps.trans h⟩
  · exact Or.inr ⟨q, vm₁, B, X₁.warmed, X', hpost, hstep₁ _ fun acts => by rw [doInvoke_state]; exact hsteps⟩
theorem vx_runVN {y : MethodName} {bytes cc : ByteArray} {maxL nL mc ms n index : Nat} {ret : Option FieldType} {ws : List Cond} {rm : Room} {Pc : Array Value → State → Prop} {Qc : Array Value → State → Outcome → State → Prop} {XC : String → State → State → Prop} {free : Addr → Prop} {Ts : List Cond} {own C host : String} {b : Addr} {As rest : List Value} {g : JFrame}
    (S : CallFix p m c cc nL s args Ts own) (hM : vx_Met l y ws rm Pc Qc XC mc ms free) (cw : va_CN R s args own index y host bytes maxL ret ws rm mc ms n ∧ (Cond.instanceMethod y).before args s = true ∧ (Cond.selects C y y).before args s = true) (hp : PreV s H C b Pc As)
    (hg : g.method = m) (hn : As.length = n) (hsize : g.locals.size = nL) (hstack : g.stack = As.reverse ++ .ref b :: rest) (hW : 2 * g.monitorRoom + (rest.map fun v => v.category).sum ≤ 8) (hdg : decode cc g.pc = .ok (.invokevirtual index, 3)) (hf : cells + mc ≤ R.cells ∧ slots + ms ≤ R.slots) :
    vx_Run p l e R s m args below meth c H locs cells slots mc ms g rest (Qc (Value.ref b :: As).toArray) XC free := by
  obtain ⟨⟨⟨hrc, hrs, hfr, hlo, hws, hcw⟩, hcode, hini, hy, hlen, hl⟩, hx1, hx2⟩ := cw
  have hK : vx_Back l R p e below s args y 3 8 (PreOf R mc ms Pc) (PostOf Qc mc ms free) (vx_Post XC mc ms free) := vx_back (bytes := bytes) (maxL := maxL) (ret := ret) hM hp.1 hrc hrs hfr hlo hws hcw (fun a' U hW => word_at hW (Or.inl (by first | rfl | simp [Cond.onTables, Cond.keeps, Cond.steady])) hini)
  obtain ⟨hx, hb, hml, ho, -⟩ := S
  obtain ⟨-, ⟨cellB, hcB, hoB, hclB⟩, hPc⟩ := hp
  intro T hT X
  rcases vx_callVN X hx (C := C) (bytes := bytes) (maxL := maxL) (ret := ret) ho hl hx1 hx2 hcode hy hK (by rw [hT]; exact hcB) hoB hclB hg (hsize.trans hml.symm) (argsL := As) (rest := rest) (fun sig h => hn.trans (hlen sig h)) hstack hW (by rw [hb]; exact hdg)
    (fun vm₁ hW₁ => ⟨hf.1, hf.2, hPc (T.setVm vm₁) hT hW₁⟩) with ⟨v, vm₁, ⟨U', l2, c2, s2⟩, hW₁, X', ⟨g', mk, t, L, e1, e2, hq, h1, hL, h2, h3⟩, st⟩ | ⟨q, vm₁, ⟨U', l2, c2, s2⟩, hW₁, X', ⟨g', mk, t, L, E, ce, e1, e2, hq, hce, hcv, hcl, h1, hL, h2, h3⟩, st⟩
  · dsimp only [Pt.U, Pt.locs, Pt.cells, Pt.slots] at X' e1 e2 h1 h2 h3 st
    subst h1; subst h2; subst h3
    exact Or.inl ⟨v, (T.setVm vm₁).calling g' mk (Value.ref b :: As).toArray, t, U', L, hT, X', hL, e1, e2, hq, st⟩
  · dsimp only [Pt.U, Pt.locs, Pt.cells, Pt.slots] at X' e1 e2 h1 h2 h3 st hcl
    subst h1; subst h2; subst h3
    exact Or.inr ⟨q, (T.setVm vm₁).calling g' mk (Value.ref b :: As).toArray, t, U', L, E, ce, hT, X', hL, e1, e2, hq, hce, hcv, vx_cls hW₁ hcl, st⟩
theorem vx_runSN {y : MethodName} {bytes cc : ByteArray} {maxL nL mc ms n index : Nat} {ret : Option FieldType} {ws : List Cond} {rm : Room} {Pc : Array Value → State → Prop} {Qc : Array Value → State → Outcome → State → Prop} {XC : String → State → State → Prop} {free : Addr → Prop} {Ts : List Cond} {own host : String} {As rest : List Value} {g : JFrame}
    (S : CallFix p m c cc nL s args Ts own) (hM : vx_Met l y ws rm Pc Qc XC mc ms free) (cw : va_CN R s args own index y host bytes maxL ret ws rm mc ms n ∧ (Cond.static y).before args s = true ∧ True) (hp : PreS s H Pc As)
    (hg : g.method = m) (hn : As.length = n) (hsize : g.locals.size = nL) (hstack : g.stack = As.reverse ++ rest) (hW : 2 * g.monitorRoom + (rest.map fun v => v.category).sum ≤ 8) (hdg : decode cc g.pc = .ok (.invokestatic index, 3)) (hf : cells + mc ≤ R.cells ∧ slots + ms ≤ R.slots) :
    vx_Run p l e R s m args below meth c H locs cells slots mc ms g rest (Qc As.toArray) XC free := by
  obtain ⟨⟨⟨hrc, hrs, hfr, hlo, hws, hcw⟩, hcode, hini, hy, hlen, hl⟩, hx1, hx2⟩ := cw
  have hK : vx_Back l R p e below s args y 3 8 (PreOf R mc ms Pc) (PostOf Qc mc ms free) (vx_Post XC mc ms free) := vx_back (bytes := bytes) (maxL := maxL) (ret := ret) hM hp.1 hrc hrs hfr hlo hws hcw (fun a' U hW => word_at hW (Or.inl (by first | rfl | simp [Cond.onTables, Cond.keeps, Cond.steady])) hini)
  obtain ⟨hx, hb, hml, ho, -⟩ := S
  have hPc := hp.2
  intro T hT X
  rcases vx_callSN X hx (bytes := bytes) (maxL := maxL) (ret := ret) ho hl hx1 hini hcode hy hK hg (hsize.trans hml.symm) (argsL := As) (rest := rest) (fun sig h => hn.trans (hlen sig h)) hstack hW (by rw [hb]; exact hdg)
    (fun vm₁ hW₁ => ⟨hf.1, hf.2, hPc (T.setVm vm₁) hT hW₁⟩) with ⟨v, vm₁, ⟨U', l2, c2, s2⟩, hW₁, X', ⟨g', mk, t, L, e1, e2, hq, h1, hL, h2, h3⟩, st⟩ | ⟨q, vm₁, ⟨U', l2, c2, s2⟩, hW₁, X', ⟨g', mk, t, L, E, ce, e1, e2, hq, hce, hcv, hcl, h1, hL, h2, h3⟩, st⟩
  · dsimp only [Pt.U, Pt.locs, Pt.cells, Pt.slots] at X' e1 e2 h1 h2 h3 st
    subst h1; subst h2; subst h3
    exact Or.inl ⟨v, (T.setVm vm₁).calling g' mk As.toArray, t, U', L, hT, X', hL, e1, e2, hq, st⟩
  · dsimp only [Pt.U, Pt.locs, Pt.cells, Pt.slots] at X' e1 e2 h1 h2 h3 st hcl
    subst h1; subst h2; subst h3
    exact Or.inr ⟨q, (T.setVm vm₁).calling g' mk As.toArray, t, U', L, E, ce, hT, X', hL, e1, e2, hq, hce, hcv, vx_cls hW₁ hcl, st⟩
end
/-! ===== END ===== -/
end
section
/-! rows of AW: fields and arrays. g_: of any cell of the world; a_: of the fixed ones -/
theorem cls_cases {P : Nat → Prop} (h0 : P 0) (h1 : P 1) (h2 : P 2) (h3 : P 3) (h4 : P 4) (h5 : P 5) (h6 : P 6) (h7 : P 7) (h8 : P 8) : ∀ ci, ci < 9 → P ci := by
  intro ci h
  match ci, h with
  | 0, _ => exact h0
  | 1, _ => exact h1
  | 2, _ => exact h2
  | 3, _ => exact h3
  | 4, _ => exact h4
  | 5, _ => exact h5
  | 6, _ => exact h6
  | 7, _ => exact h7
  | 8, _ => exact h8
theorem tys_at {cls : Nat → ClassId} : ∀ t, t < 8 → (tysOf cls)[t]? = some (cls t, tyF t) := by
  intro t h
  match t, h with
  | 0, _ => rfl
  | 1, _ => rfl
  | 2, _ => rfl
  | 3, _ => rfl
  | 4, _ => rfl
  | 5, _ => rfl
  | 6, _ => rfl
  | 7, _ => rfl
theorem uws_ok : ∀ ci, ci < 9 → ∀ w ∈ u_ws (cR ci) (cT ci) (nF ci), w ∈ lw_tbl ∧ goodWord w = true := cls_cases (by decide +kernel) (by decide +kernel) (by decide +kernel) (by decide +kernel) (by decide +kernel) (by decide +kernel) (by decide +kernel) (by decide +kernel) (by decide +kernel)
theorem tyc_ok : ∀ ci, ci < 9 → ∀ k, k < nF ci → parseFieldDescriptor (cT ci k).2.2.1 = some (fT ci k) := cls_cases tyX0_ok tyX1_ok tyX2_ok tyX3_ok tyX4_ok tyX5_ok tyX6_ok tyJ0_ok tyJ4_ok
theorem nmc_ok : ∀ ci, ci < 9 → ∀ a, a < nF ci → ∀ b, b < nF ci → a ≠ b → (cT ci a).2.1 ≠ (cT ci b).2.1 := cls_cases nmX0 nmX1 nmX2 nmX3 nmX4 nmX5 nmX6 nmJ0 nmJ4
/-- the link of a field that a method reads or writes: plain, or of a nest mate -/
def FL (mt : MT) (idx ci k : Nat) : Prop := (Cond.fieldLink (mN mt).cls idx (cT ci k).1 (cT ci k).2.1 (cT ci k).2.2.1 ∈ lw_tbl) ∨ ∃ host, Cond.fieldLinkNest (mN mt).cls idx (cT ci k).1 (cT ci k).2.1 (cT ci k).2.2.1 host ∈ tables_1
theorem fs_get {f : Nat → Value} {n k : Nat} (hk : k < n) : ((List.range n).map f)[k]? = some (f k) := by simp [hk]
theorem nI_i {j n : Nat} (hj : j < n) (hn : n ≤ 4096) : vp_in (nI j) n ∧ (nI j).toNatClampNeg = j := ⟨vp_in_nI hj (by omega), nI_clamp (by omega)⟩
section RW7
variable {X : XT} {mt : MT} {d kc ks pc : Nat} {ls ls' : List (Nat × Value)} {st : List Value} {h : AH} {Q : Res → AH → Prop}
theorem g_get {a ci k idx : Nat} {v : Value} (hd : decode (mB mt) pc = .ok (.getfield idx, 3)) (hf : FL mt idx ci k) (hk : k < nF ci) (hs : kdA a = some (.inl ci)) (ha : prN (hN h) a) (hv : ∀ ad, fv ad h a ci k = cv ad v) (kk : AW X mt d kc ks (pc + 3) ls (v :: st) h Q) : AW X mt d kc ks pc ls (.ref a :: st) h Q := by
  intro p l e R s m args below meth c A G cls Z H locs cells slots ad lsA C F D hc hs2 hA
  obtain ⟨ia, hia, hga⟩ := wld_at (cls := cls) (ad := ad) ha
  have hci := kdA_ci hs
  have g := kk p l e R s m args below meth c A G cls Z H locs cells slots ad lsA C F D hc hs2 hA
  obtain ⟨hx, hb, hml, hown, hw, -, -, -, -, -, hK, hE, -, -⟩ := id C
  have hget : (wld cls ad h)[ia]? = some (ad a, .inr (ci, (List.range (nF ci)).map (fv ad h a ci))) := by rw [hga, ce_obj hs]
  have hval : ((List.range (nF ci)).map (fv ad h a ci))[k]? = some (cv ad v) := by rw [fs_get hk, hv]
  rcases hf with hf | ⟨host, hf⟩
  · exact va_get (C := cR ci) (T := cT ci) (N := nF ci) (Ts := u_ws (cR ci) (cT ci) (nF ci)) hx hb (fun w q => hw w (uws_ok ci hci w q).1 (uws_ok ci hci w q).2) (fun _ q => q) hown hK D.1 ia hget (vwCl_at hci) k hk (hw _ hf rfl) (fun _ q => q) hval hd g
  · exact va_getN (C := cR ci) (T := cT ci) (N := nF ci) (Ts := u_ws (cR ci) (cT ci) (nF ci)) hx hb (fun w q => hw w (uws_ok ci hci w q).1 (uws_ok ci hci w q).2) (fun _ q => q) hown hK D.1 ia hget (vwCl_at hci) k hk (va_Nw.use rfl (hE.1 _ hf rfl)) (fun _ q => q) hval hd g
theorem g_getI {a ci k idx : Nat} (hd : decode (mB mt) pc = .ok (.getfield idx, 3)) (hf : FL mt idx ci k) (hk : k < nF ci) (ht : fK ci k = 0) (hs : kdA a = some (.inl ci)) (ha : prN (hN h) a) (kk : AW X mt d kc ks (pc + 3) ls (.int (hI h a k) :: st) h Q) : AW X mt d kc ks pc ls (.ref a :: st) h Q :=
  g_get hd hf hk hs ha (fun ad => by simp [fv, ht, cv]) kk
theorem g_getL {a ci k idx : Nat} (hd : decode (mB mt) pc = .ok (.getfield idx, 3)) (hf : FL mt idx ci k) (hk : k < nF ci) (ht : fK ci k = 1) (hs : kdA a = some (.inl ci)) (ha : prN (hN h) a) (kk : AW X mt d kc ks (pc + 3) ls (.long (hL h a k) :: st) h Q) : AW X mt d kc ks pc ls (.ref a :: st) h Q :=
  g_get hd hf hk hs ha (fun ad => by simp [fv, ht, cv]) kk
theorem g_getR {a ci k idx b : Nat} (hd : decode (mB mt) pc = .ok (.getfield idx, 3)) (hf : FL mt idx ci k) (hk : k < nF ci) (ht : fK ci k = 2) (hs : kdA a = some (.inl ci)) (ha : prN (hN h) a) (hr : hR h a k = some b) (kk : AW X mt d kc ks (pc + 3) ls (.ref b :: st) h Q) : AW X mt d kc ks pc ls (.ref a :: st) h Q :=
  g_get hd hf hk hs ha (fun ad => by simp [fv, ht, cv, hr, va_rf]) kk
theorem g_put {a ci k idx : Nat} {v : Value} {h' : AH} (hd : decode (mB mt) pc = .ok (.putfield idx, 3)) (hf : FL mt idx ci k) (hk : k < nF ci) (hs : kdA a = some (.inl ci)) (ha : prN (hN h) a) (hfin : (cT ci k).2.2.2 = false ∨ ((cT ci k).2.2.2 = true ∧ (mN mt).name = "<init>" ∧ (cT ci k).1 = (mN mt).cls ∧ Cond.fieldLink (mN mt).cls idx (cT ci k).1 (cT ci k).2.1 (cT ci k).2.2.1 ∈ lw_tbl))
    (hn : ∀ ad, narrow (fT ci k) (cv ad v) = cv ad v) (hfit : ∀ ad, fits (fT ci k) (cv ad v) = true) (eN : hN h' = hN h) (ho : ∀ b, b ≠ a → hI h' b = hI h b ∧ hL h' b = hL h b ∧ hR h' b = hR h b) (hv : ∀ ad, (fun j => if j = k then cv ad v else fv ad h a ci j) = fv ad h' a ci) (hw' : wfh h → wfh h')
    (kk : AW X mt d kc ks (pc + 3) ls st h' Q) : AW X mt d kc ks pc ls (v :: .ref a :: st) h Q := by
  intro p l e R s m args below meth c A G cls Z H locs cells slots ad lsA C F D hc hs2 hA
  obtain ⟨ia, hia, hga⟩ := wld_at (cls := cls) (ad := ad) ha
  have hci := kdA_ci hs
  obtain ⟨hx, hb, hml, hown, hw, -, -, -, hnm, -, hK, hE, -, -⟩ := id C
  have hget : (wld cls ad h)[ia]? = some (ad a, .inr (ci, (List.range (nF ci)).map (fv ad h a ci))) := by rw [hga, ce_obj hs]
  have hset : (wld cls ad h).set ia (ad a, .inr (ci, ((List.range (nF ci)).map (fv ad h a ci)).set k (cv ad v))) = wld cls ad h' := by
    refine wld_set hia D.2.2.2.1 eN (fun b q => ce_congr (ho b q).1 (ho b q).2.1 (fun j => by rw [(ho b q).2.2])) ?_
    rw [ce_obj hs, range_set hk, hv]
  have hl : k < ((List.range (nF ci)).map (fv ad h a ci)).length := by simp [hk]
  have go : ∀ (H1 : Heap) (locs1 : List Loc), va_P G vwCl ((wld cls ad h).set ia (ad a, .inr (ci, ((List.range (nF ci)).map (fv ad h a ci)).set k (cv ad v)))) H1 → va_D A ((wld cls ad h).set ia (ad a, .inr (ci, ((List.range (nF ci)).map (fv ad h a ci)).set k (cv ad v)))) → va_S A s.heap H1 locs1 →
      W p l e R s m args below meth c H1 locs1 cells slots Z (F0 m (pc + 3) lsA (st.map (cv ad))) := by
    intro H1 locs1 q1 q2 q3
    rw [hset] at q1 q2
    exact kk p l e R s m args below meth c A G cls Z H1 locs1 cells slots ad lsA C (eN ▸ F) ⟨q1, q2, q3, hw' D.2.2.2.1, D.2.2.2.2⟩ hc hs2 hA
  have ht := fun w q => hw w (uws_ok ci hci w q).1 (uws_ok ci hci w q).2
  rcases hfin with hfin | ⟨hfin, hi, ho2, hf⟩
  · rcases hf with hf | ⟨host, hf⟩
    · exact va_put (C := cR ci) (T := cT ci) (N := nF ci) (Ts := u_ws (cR ci) (cT ci) (nF ci)) hx hb ht (fun _ q => q) (fT ci) (tyc_ok ci hci) (nmc_ok ci hci) hown hK D.1 D.2.1 D.2.2.1 ia hget (vwCl_at hci) k hk (hw _ hf rfl) (fun _ q => q) hfin (tyc_ok ci hci k hk) (hn ad) (hfit ad) hl hd go
    · exact va_putN (C := cR ci) (T := cT ci) (N := nF ci) (Ts := u_ws (cR ci) (cT ci) (nF ci)) hx hb ht (fun _ q => q) (fT ci) (tyc_ok ci hci) (nmc_ok ci hci) hown hK D.1 D.2.1 D.2.2.1 ia hget (vwCl_at hci) k hk (va_Nw.use rfl (hE.1 _ hf rfl)) (fun _ q => q) hfin (tyc_ok ci hci k hk) (hn ad) (hfit ad) hl hd go
  · exact va_putF (C := cR ci) (T := cT ci) (N := nF ci) (Ts := u_ws (cR ci) (cT ci) (nF ci)) hx hb ht (fun _ q => q) (fT ci) (tyc_ok ci hci) (nmc_ok ci hci) hown hK D.1 D.2.1 D.2.2.1 ia hget (vwCl_at hci) k hk (hw _ hf rfl) (fun _ q => q) hfin (hnm.trans hi) ho2 (tyc_ok ci hci k hk) (hn ad) (hfit ad) hl hd go
theorem wfh_sI {h : AH} {a j : Nat} {x : Int32} : wfh h → wfh (sI h a j x) := fun w => w
theorem wfh_sL {h : AH} {a j : Nat} {x : Int64} : wfh h → wfh (sL h a j x) := fun w => w
theorem wfh_rI {h : AH} {a : Nat} {g : Nat → Int32} : wfh h → wfh (rI h a g) := fun w => w
theorem wfh_sR {h : AH} {a j b : Nat} (hb : prN (hN h) b) : wfh h → wfh (sR h a j (some b)) := fun w => ⟨w.1, fun a' j' k' h1 h2 => by
  rw [hR_sR] at h2
  by_cases e : a' = a ∧ j' = j
  · rw [if_pos e] at h2
    cases h2
    exact Or.inl hb
  · rw [if_neg e] at h2
    exact w.2 a' j' k' h1 h2⟩
theorem g_putI {a ci k idx : Nat} {x : Int32} (hd : decode (mB mt) pc = .ok (.putfield idx, 3)) (hf : FL mt idx ci k) (hk : k < nF ci) (ht : fT ci k = .int ∨ (fT ci k = .boolean ∧ (x = 0 ∨ x = 1))) (hs : kdA a = some (.inl ci)) (ha : prN (hN h) a) (hfin : (cT ci k).2.2.2 = false) (kk : AW X mt d kc ks (pc + 3) ls st (sI h a k x) Q) : AW X mt d kc ks pc ls (.int x :: .ref a :: st) h Q := by
  have hk0 : fK ci k = 0 := by rcases ht with e | ⟨e, -⟩ <;> simp [fK, kT, e]
  refine g_put hd hf hk hs ha (Or.inl hfin) (fun ad => ?_) (fun ad => ?_) hN_sI (fun b q => ⟨up2_row q, rfl, rfl⟩) (fun ad => ?_) wfh_sI kk
  · rcases ht with e | ⟨e, e2⟩
    · rw [e]; rfl
    · rw [e]; rcases e2 with rfl | rfl <;> rfl
  · rcases ht with e | ⟨e, e2⟩
    · rw [e]; rfl
    · rw [e]; rcases e2 with rfl | rfl <;> rfl
  · funext j
    by_cases e : j = k
    · subst e
      simp [fv, hk0, hI_sI, cv]
    · simp [fv, hI_sI, e, hL_sI, hR_sI]
theorem g_putL {a ci k idx : Nat} {x : Int64} (hd : decode (mB mt) pc = .ok (.putfield idx, 3)) (hf : FL mt idx ci k) (hk : k < nF ci) (ht : fT ci k = .long) (hs : kdA a = some (.inl ci)) (ha : prN (hN h) a) (hfin : (cT ci k).2.2.2 = false) (kk : AW X mt d kc ks (pc + 3) ls st (sL h a k x) Q) : AW X mt d kc ks pc ls (.long x :: .ref a :: st) h Q := by
  have hk0 : fK ci k = 1 := by simp [fK, kT, ht]
  refine g_put hd hf hk hs ha (Or.inl hfin) (fun ad => by rw [ht]; rfl) (fun ad => by rw [ht]; rfl) hN_sL (fun b q => ⟨rfl, up2_row q, rfl⟩) (fun ad => ?_) wfh_sL kk
  funext j
  by_cases e : j = k
  · subst e
    simp [fv, hk0, hL_sL, cv]
  · simp [fv, hL_sL, e, hI_sL, hR_sL]
theorem g_putRF {a ci k idx b : Nat} (hd : decode (mB mt) pc = .ok (.putfield idx, 3)) (hf : Cond.fieldLink (mN mt).cls idx (cT ci k).1 (cT ci k).2.1 (cT ci k).2.2.1 ∈ lw_tbl) (hk : k < nF ci) (ht : fK ci k = 2) (hs : kdA a = some (.inl ci)) (ha : prN (hN h) a) (hb : prN (hN h) b) (hfin : (cT ci k).2.2.2 = true) (hi : (mN mt).name = "<init>") (ho : (cT ci k).1 = (mN mt).cls) (kk : AW X mt d kc ks (pc + 3) ls st (sR h a k (some b)) Q) : AW X mt d kc ks pc ls (.ref b :: .ref a :: st) h Q := by
  have hty : (∃ s, fT ci k = .object s) ∨ ∃ s, fT ci k = .array s := by
    cases e : fT ci k <;> simp [fK, kT, e] at ht ⊢
  refine g_put hd (Or.inl hf) hk hs ha (Or.inr ⟨hfin, hi, ho, hf⟩) (fun ad => ?_) (fun ad => ?_) hN_sR (fun b q => ⟨rfl, rfl, up2_row q⟩) (fun ad => ?_) (wfh_sR hb) kk
  · rcases hty with ⟨s, e⟩ | ⟨s, e⟩ <;> rw [e] <;> rfl
  · rcases hty with ⟨s, e⟩ | ⟨s, e⟩ <;> rw [e] <;> rfl
  · funext j
    by_cases e : j = k
    · subst e
      simp [fv, ht, hR_sR, cv, va_rf]
    · simp [fv, hR_sR, e, hI_sR, hL_sR]
-- arrays
theorem g_iald {a n j : Nat} {i : Int32} (hd : decode (mB mt) pc = .ok (.iaload, 1)) (hs : kdA a = some (.inr (0, n))) (ha : prN (hN h) a) (hi : i = nI j) (hj : j < n) (kk : AW X mt d kc ks (pc + 1) ls (.int (hI h a j) :: st) h Q) : AW X mt d kc ks pc ls (.int i :: .ref a :: st) h Q := by
  subst hi
  intro p l e R s m args below meth c A G cls Z H locs cells slots ad lsA C F D hc hs2 hA
  obtain ⟨ia, hia, hga⟩ := wld_at (cls := cls) (ad := ad) ha
  have g := kk p l e R s m args below meth c A G cls Z H locs cells slots ad lsA C F D hc hs2 hA
  obtain ⟨q1, q2⟩ := nI_i hj (kdA_len hs).2
  exact va_iald C.1 C.2.1 C.2.2.2.2.2.2.2.2.2.2.1 D.1 ia 0 (f := hI h a) (by rw [hga, ce_arr hs]; rfl) rfl q1 hd (by rw [q2]; exact g)
theorem g_bald {a n j : Nat} {i : Int32} (hd : decode (mB mt) pc = .ok (.baload, 1)) (hs : kdA a = some (.inr (1, n))) (ha : prN (hN h) a) (hi : i = nI j) (hj : j < n) (kk : AW X mt d kc ks (pc + 1) ls (.int (hI h a j) :: st) h Q) : AW X mt d kc ks pc ls (.int i :: .ref a :: st) h Q := by
  subst hi
  intro p l e R s m args below meth c A G cls Z H locs cells slots ad lsA C F D hc hs2 hA
  obtain ⟨ia, hia, hga⟩ := wld_at (cls := cls) (ad := ad) ha
  have g := kk p l e R s m args below meth c A G cls Z H locs cells slots ad lsA C F D hc hs2 hA
  obtain ⟨q1, q2⟩ := nI_i hj (kdA_len hs).2
  exact va_bald C.1 C.2.1 C.2.2.2.2.2.2.2.2.2.2.1 D.1 ia 1 (f := hI h a) (by rw [hga, ce_arr hs]; rfl) rfl q1 hd (by rw [q2]; exact g)
theorem g_zald {a n j : Nat} {i : Int32} (hd : decode (mB mt) pc = .ok (.baload, 1)) (hs : kdA a = some (.inr (2, n))) (ha : prN (hN h) a) (hi : i = nI j) (hj : j < n) (kk : AW X mt d kc ks (pc + 1) ls (.int (hI h a j) :: st) h Q) : AW X mt d kc ks pc ls (.int i :: .ref a :: st) h Q := by
  subst hi
  intro p l e R s m args below meth c A G cls Z H locs cells slots ad lsA C F D hc hs2 hA
  obtain ⟨ia, hia, hga⟩ := wld_at (cls := cls) (ad := ad) ha
  have g := kk p l e R s m args below meth c A G cls Z H locs cells slots ad lsA C F D hc hs2 hA
  obtain ⟨q1, q2⟩ := nI_i hj (kdA_len hs).2
  exact va_zald C.1 C.2.1 C.2.2.2.2.2.2.2.2.2.2.1 D.1 ia 2 (f := hI h a) (by rw [hga, ce_arr hs]; rfl) rfl q1 hd (by rw [q2]; exact g)
theorem g_lald {a n j : Nat} {i : Int32} (hd : decode (mB mt) pc = .ok (.laload, 1)) (hs : kdA a = some (.inr (3, n))) (ha : prN (hN h) a) (hi : i = nI j) (hj : j < n) (kk : AW X mt d kc ks (pc + 1) ls (.long (hL h a j) :: st) h Q) : AW X mt d kc ks pc ls (.int i :: .ref a :: st) h Q := by
  subst hi
  intro p l e R s m args below meth c A G cls Z H locs cells slots ad lsA C F D hc hs2 hA
  obtain ⟨ia, hia, hga⟩ := wld_at (cls := cls) (ad := ad) ha
  have g := kk p l e R s m args below meth c A G cls Z H locs cells slots ad lsA C F D hc hs2 hA
  obtain ⟨q1, q2⟩ := nI_i hj (kdA_len hs).2
  exact va_lald C.1 C.2.1 C.2.2.2.2.2.2.2.2.2.2.1 D.1 ia 3 (f := hL h a) (by rw [hga, ce_arr hs]; rfl) rfl q1 hd (by rw [q2]; exact g)
theorem g_aald {a n j b : Nat} {i : Int32} (hd : decode (mB mt) pc = .ok (.aaload, 1)) (hs : kdA a = some (.inr (4, n))) (ha : prN (hN h) a) (hi : i = nI j) (hj : j < n) (hr : hR h a j = some b) (kk : AW X mt d kc ks (pc + 1) ls (.ref b :: st) h Q) : AW X mt d kc ks pc ls (.int i :: .ref a :: st) h Q := by
  subst hi
  intro p l e R s m args below meth c A G cls Z H locs cells slots ad lsA C F D hc hs2 hA
  obtain ⟨ia, hia, hga⟩ := wld_at (cls := cls) (ad := ad) ha
  have g := kk p l e R s m args below meth c A G cls Z H locs cells slots ad lsA C F D hc hs2 hA
  obtain ⟨q1, q2⟩ := nI_i hj (kdA_len hs).2
  exact va_aldq C.1 C.2.1 C.2.2.2.2.2.2.2.2.2.2.1 D.1 ia 4 (f := fun j => (hR h a j).map ad) (by rw [hga, ce_arr hs]; rfl) rfl q1 hd (by rw [q2, hr]; exact g)
theorem g_rald {a n j b : Nat} {i : Int32} (hd : decode (mB mt) pc = .ok (.aaload, 1)) (hs : kdA a = some (.inr (5, n))) (ha : prN (hN h) a) (hi : i = nI j) (hj : j < n) (hr : hR h a j = some b) (kk : AW X mt d kc ks (pc + 1) ls (.ref b :: st) h Q) : AW X mt d kc ks pc ls (.int i :: .ref a :: st) h Q := by
  subst hi
  intro p l e R s m args below meth c A G cls Z H locs cells slots ad lsA C F D hc hs2 hA
  obtain ⟨ia, hia, hga⟩ := wld_at (cls := cls) (ad := ad) ha
  have g := kk p l e R s m args below meth c A G cls Z H locs cells slots ad lsA C F D hc hs2 hA
  obtain ⟨q1, q2⟩ := nI_i hj (kdA_len hs).2
  have hget : (wld cls ad h)[ia]? = some (ad a, .inl (cls 5, n, .inr (.inr (.inr (.inr (fun j => (hR h a j).map ad)))))) := by rw [hga, ce_arr hs]; rfl
  have hcell : H[ad a]? = some (vp_cell (cls 5) (n, .inr (.inr (.inr (.inr (fun j => (hR h a j).map ad)))))) := D.1 ia _ hget
  have hK := C.2.2.2.2.2.2.2.2.2.2.1
  have hAr : ArrOfT s (cls 5) (.array .int) := (hK.2 5 (cls 5, .array .int) rfl).1
  rw [vp_cell_q] at hcell
  have q2' : (nI j).toNatClampNeg = j := q2
  exact W.aald (ty := .array .int) (v := .ref (ad b)) C.1 C.2.1 hcell (hAr n (fun j => va_rf ((hR h a j).map ad))) rfl (fun q => by cases q) (by rw [arrV_size]; exact q1) (by rw [q2']; simp [arrV, hj, hr, va_rf]) rfl rfl hd g
theorem g_alen {a t n : Nat} (hd : decode (mB mt) pc = .ok (.arraylength, 1)) (hs : kdA a = some (.inr (t, n))) (ha : prN (hN h) a) (kk : AW X mt d kc ks (pc + 1) ls (.int (nI n) :: st) h Q) : AW X mt d kc ks pc ls (.ref a :: st) h Q := by
  intro p l e R s m args below meth c A G cls Z H locs cells slots ad lsA C F D hc hs2 hA
  obtain ⟨ia, hia, hga⟩ := wld_at (cls := cls) (ad := ad) ha
  have g := kk p l e R s m args below meth c A G cls Z H locs cells slots ad lsA C F D hc hs2 hA
  have hK := C.2.2.2.2.2.2.2.2.2.2.1
  have ht : ∃ ty, (tysOf cls)[t]? = some (cls t, ty) := ⟨_, tys_at t (kdA_len hs).1⟩
  obtain ⟨ty, ht⟩ := ht
  exact va_alen C.1 C.2.1 hK D.1 ia t (x := aC ad h a t n) (by rw [hga, ce_arr hs]) ht rfl hd g
theorem g_iast {a n j : Nat} {i x : Int32} (hd : decode (mB mt) pc = .ok (.iastore, 1)) (hs : kdA a = some (.inr (0, n))) (ha : prN (hN h) a) (hi : i = nI j) (hj : j < n) (kk : AW X mt d kc ks (pc + 1) ls st (sI h a j x) Q) : AW X mt d kc ks pc ls (.int x :: .int i :: .ref a :: st) h Q := by
  subst hi
  intro p l e R s m args below meth c A G cls Z H locs cells slots ad lsA C F D hc hs2 hA
  obtain ⟨ia, hia, hga⟩ := wld_at (cls := cls) (ad := ad) ha
  obtain ⟨q1, q2⟩ := nI_i hj (kdA_len hs).2
  have hset : (wld cls ad h).set ia (ad a, .inl (cls 0, n, .inl (upd (hI h a) j x))) = wld cls ad (sI h a j x) := by
    refine wld_set hia D.2.2.2.1 hN_sI (fun b q => ce_congr (up2_row q) rfl (fun _ => rfl)) ?_
    rw [ce_arr hs]
    have e : hI (sI h a j x) a = upd (hI h a) j x := funext fun k => by rw [hI_sI]; simp [upd]
    simp [aC, e]
  refine va_iast C.1 C.2.1 C.2.2.2.2.2.2.2.2.2.2.1 D.1 D.2.1 D.2.2.1 ia 0 (f := hI h a) (by rw [hga, ce_arr hs]; rfl) rfl q1 hd (fun H1 locs1 z1 z2 z3 => ?_)
  rw [q2, hset] at z1 z2
  exact kk p l e R s m args below meth c A G cls Z H1 locs1 cells slots ad lsA C F ⟨z1, z2, z3, wfh_sI D.2.2.2.1, D.2.2.2.2⟩ hc hs2 hA
theorem g_bast {a n j : Nat} {i x : Int32} (hd : decode (mB mt) pc = .ok (.bastore, 1)) (hs : kdA a = some (.inr (1, n))) (ha : prN (hN h) a) (hi : i = nI j) (hj : j < n) (kk : AW X mt d kc ks (pc + 1) ls st (sI h a j x.toInt8.toInt32) Q) : AW X mt d kc ks pc ls (.int x :: .int i :: .ref a :: st) h Q := by
  subst hi
  intro p l e R s m args below meth c A G cls Z H locs cells slots ad lsA C F D hc hs2 hA
  obtain ⟨ia, hia, hga⟩ := wld_at (cls := cls) (ad := ad) ha
  obtain ⟨q1, q2⟩ := nI_i hj (kdA_len hs).2
  have hset : (wld cls ad h).set ia (ad a, .inl (cls 1, n, .inl (upd (hI h a) j x.toInt8.toInt32))) = wld cls ad (sI h a j x.toInt8.toInt32) := by
    refine wld_set hia D.2.2.2.1 hN_sI (fun b q => ce_congr (up2_row q) rfl (fun _ => rfl)) ?_
    rw [ce_arr hs]
    have e : hI (sI h a j x.toInt8.toInt32) a = upd (hI h a) j x.toInt8.toInt32 := funext fun k => by rw [hI_sI]; simp [upd]
    simp [aC, e]
  refine va_bast C.1 C.2.1 C.2.2.2.2.2.2.2.2.2.2.1 D.1 D.2.1 D.2.2.1 ia 1 (f := hI h a) (by rw [hga, ce_arr hs]; rfl) rfl q1 hd (fun H1 locs1 z1 z2 z3 => ?_)
  rw [q2, show vp_nar .byte x = x.toInt8.toInt32 from rfl, hset] at z1 z2
  exact kk p l e R s m args below meth c A G cls Z H1 locs1 cells slots ad lsA C F ⟨z1, z2, z3, wfh_sI D.2.2.2.1, D.2.2.2.2⟩ hc hs2 hA
theorem g_zast {a n j : Nat} {i x : Int32} (hd : decode (mB mt) pc = .ok (.bastore, 1)) (hs : kdA a = some (.inr (2, n))) (ha : prN (hN h) a) (hi : i = nI j) (hj : j < n) (kk : AW X mt d kc ks (pc + 1) ls st (sI h a j (x &&& 1)) Q) : AW X mt d kc ks pc ls (.int x :: .int i :: .ref a :: st) h Q := by
  subst hi
  intro p l e R s m args below meth c A G cls Z H locs cells slots ad lsA C F D hc hs2 hA
  obtain ⟨ia, hia, hga⟩ := wld_at (cls := cls) (ad := ad) ha
  obtain ⟨q1, q2⟩ := nI_i hj (kdA_len hs).2
  have hset : (wld cls ad h).set ia (ad a, .inl (cls 2, n, .inl (upd (hI h a) j (x &&& 1)))) = wld cls ad (sI h a j (x &&& 1)) := by
    refine wld_set hia D.2.2.2.1 hN_sI (fun b q => ce_congr (up2_row q) rfl (fun _ => rfl)) ?_
    rw [ce_arr hs]
    have e : hI (sI h a j (x &&& 1)) a = upd (hI h a) j (x &&& 1) := funext fun k => by rw [hI_sI]; simp [upd]
    simp [aC, e]
  refine va_zast C.1 C.2.1 C.2.2.2.2.2.2.2.2.2.2.1 D.1 D.2.1 D.2.2.1 ia 2 (f := hI h a) (by rw [hga, ce_arr hs]; rfl) rfl q1 hd (fun H1 locs1 z1 z2 z3 => ?_)
  rw [q2, show vp_nar .boolean x = x &&& 1 from rfl, hset] at z1 z2
  exact kk p l e R s m args below meth c A G cls Z H1 locs1 cells slots ad lsA C F ⟨z1, z2, z3, wfh_sI D.2.2.2.1, D.2.2.2.2⟩ hc hs2 hA
theorem g_last {a n j : Nat} {i : Int32} {x : Int64} (hd : decode (mB mt) pc = .ok (.lastore, 1)) (hs : kdA a = some (.inr (3, n))) (ha : prN (hN h) a) (hi : i = nI j) (hj : j < n) (kk : AW X mt d kc ks (pc + 1) ls st (sL h a j x) Q) : AW X mt d kc ks pc ls (.long x :: .int i :: .ref a :: st) h Q := by
  subst hi
  intro p l e R s m args below meth c A G cls Z H locs cells slots ad lsA C F D hc hs2 hA
  obtain ⟨ia, hia, hga⟩ := wld_at (cls := cls) (ad := ad) ha
  obtain ⟨q1, q2⟩ := nI_i hj (kdA_len hs).2
  have hset : (wld cls ad h).set ia (ad a, .inl (cls 3, n, .inr (.inl (vp_updL (hL h a) j x)))) = wld cls ad (sL h a j x) := by
    refine wld_set hia D.2.2.2.1 hN_sL (fun b q => ce_congr rfl (up2_row q) (fun _ => rfl)) ?_
    rw [ce_arr hs]
    have e : hL (sL h a j x) a = vp_updL (hL h a) j x := funext fun k => by rw [hL_sL]; simp [vp_updL]
    simp [aC, e]
  refine va_last C.1 C.2.1 C.2.2.2.2.2.2.2.2.2.2.1 D.1 D.2.1 D.2.2.1 ia 3 (f := hL h a) (by rw [hga, ce_arr hs]; rfl) rfl q1 hd (fun H1 locs1 z1 z2 z3 => ?_)
  rw [q2, hset] at z1 z2
  exact kk p l e R s m args below meth c A G cls Z H1 locs1 cells slots ad lsA C F ⟨z1, z2, z3, wfh_sL D.2.2.2.1, D.2.2.2.2⟩ hc hs2 hA
theorem g_aast {a n j b : Nat} {i : Int32} (hd : decode (mB mt) pc = .ok (.aastore, 1)) (hs : kdA a = some (.inr (4, n))) (ha : prN (hN h) a) (hi : i = nI j) (hj : j < n) (hsb : kdA b = some (.inl 3)) (hb : prN (hN h) b) (kk : AW X mt d kc ks (pc + 1) ls st (sR h a j (some b)) Q) : AW X mt d kc ks pc ls (.ref b :: .int i :: .ref a :: st) h Q := by
  subst hi
  intro p l e R s m args below meth c A G cls Z H locs cells slots ad lsA C F D hc hs2 hA
  obtain ⟨ia, hia, hga⟩ := wld_at (cls := cls) (ad := ad) ha
  obtain ⟨ib, hib, hgb⟩ := wld_at (cls := cls) (ad := ad) hb
  obtain ⟨q1, q2⟩ := nI_i hj (kdA_len hs).2
  have hset : (wld cls ad h).set ia (ad a, .inl (cls 4, n, .inr (.inr (.inr (.inr (va_up (fun j => (hR h a j).map ad) j (some (ad b)))))))) = wld cls ad (sR h a j (some b)) := by
    refine wld_set hia D.2.2.2.1 hN_sR (fun b q => ce_congr rfl rfl (fun _ => by rw [show hR (sR h a j _) _ = _ from up2_row q])) ?_
    rw [ce_arr hs]
    have e : (fun k => (hR (sR h a j (some b)) a k).map ad) = va_up (fun j => (hR h a j).map ad) j (some (ad b)) := funext fun k => by
      rw [hR_sR]
      by_cases e : k = j <;> simp [va_up, e]
    simp [aC, e]
  refine va_astq C.1 C.2.1 C.2.2.2.2.2.2.2.2.2.2.1 D.1 D.2.1 D.2.2.1 ia 4 ib 3 (r := (RX3, TX3, 10)) (f := fun j => (hR h a j).map ad) (by rw [hga, ce_arr hs]; rfl) rfl (by rw [hgb, ce_obj hsb]) rfl q1 hd (fun H1 locs1 z1 z2 z3 => ?_)
  rw [q2, hset] at z1 z2
  exact kk p l e R s m args below meth c A G cls Z H1 locs1 cells slots ad lsA C F ⟨z1, z2, z3, wfh_sR hb D.2.2.2.1, D.2.2.2.2⟩ hc hs2 hA
theorem g_putV {a ci k idx : Nat} {x : Int32} (hd : decode (mB mt) pc = .ok (.putfield idx, 3)) (hf : FL mt idx ci k) (hk : k < nF ci) (hk0 : fK ci k = 0) (hnar : narrow (fT ci k) (.int x) = .int x) (hfit : fits (fT ci k) (.int x) = true) (hs : kdA a = some (.inl ci)) (ha : prN (hN h) a) (hfin : (cT ci k).2.2.2 = false ∨ ((cT ci k).2.2.2 = true ∧ (mN mt).name = "<init>" ∧ (cT ci k).1 = (mN mt).cls ∧ Cond.fieldLink (mN mt).cls idx (cT ci k).1 (cT ci k).2.1 (cT ci k).2.2.1 ∈ lw_tbl)) (kk : AW X mt d kc ks (pc + 3) ls st (sI h a k x) Q) : AW X mt d kc ks pc ls (.int x :: .ref a :: st) h Q := by
  refine g_put hd hf hk hs ha hfin (fun ad => hnar) (fun ad => hfit) hN_sI (fun b q => ⟨up2_row q, rfl, rfl⟩) (fun ad => ?_) wfh_sI kk
  funext j
  by_cases e : j = k
  · subst e
    simp [fv, hk0, hI_sI, cv]
  · simp [fv, hI_sI, e, hL_sI, hR_sI]
theorem wfh_sRx {h : AH} {a j b : Nat} (hb : prN (hN h) b ∨ ext b) : wfh h → wfh (sR h a j (some b)) := fun w => ⟨w.1, fun a' j' k' h1 h2 => by
  rw [hR_sR] at h2
  by_cases e : a' = a ∧ j' = j
  · rw [if_pos e] at h2
    cases h2
    exact hb
  · rw [if_neg e] at h2
    exact w.2 a' j' k' h1 h2⟩
theorem wfh_sR0 {h : AH} {a j : Nat} : wfh h → wfh (sR h a j none) := fun w => ⟨w.1, fun a' j' k' h1 h2 => by
  rw [hR_sR] at h2
  by_cases e : a' = a ∧ j' = j
  · rw [if_pos e] at h2
    cases h2
  · rw [if_neg e] at h2
    exact w.2 a' j' k' h1 h2⟩
theorem g_putR {a ci k idx b : Nat} (hd : decode (mB mt) pc = .ok (.putfield idx, 3)) (hf : FL mt idx ci k) (hk : k < nF ci) (ht : fK ci k = 2) (hs : kdA a = some (.inl ci)) (ha : prN (hN h) a) (hb : prN (hN h) b ∨ ext b) (hfin : (cT ci k).2.2.2 = false ∨ ((cT ci k).2.2.2 = true ∧ (mN mt).name = "<init>" ∧ (cT ci k).1 = (mN mt).cls ∧ Cond.fieldLink (mN mt).cls idx (cT ci k).1 (cT ci k).2.1 (cT ci k).2.2.1 ∈ lw_tbl)) (kk : AW X mt d kc ks (pc + 3) ls st (sR h a k (some b)) Q) : AW X mt d kc ks pc ls (.ref b :: .ref a :: st) h Q := by
  have hty : (∃ s, fT ci k = .object s) ∨ ∃ s, fT ci k = .array s := by
    cases e : fT ci k <;> simp [fK, kT, e] at ht ⊢
  refine g_put hd hf hk hs ha hfin (fun ad => ?_) (fun ad => ?_) hN_sR (fun b q => ⟨rfl, rfl, up2_row q⟩) (fun ad => ?_) (wfh_sRx hb) kk
  · rcases hty with ⟨s, e⟩ | ⟨s, e⟩ <;> rw [e] <;> rfl
  · rcases hty with ⟨s, e⟩ | ⟨s, e⟩ <;> rw [e] <;> rfl
  · funext j
    by_cases e : j = k
    · subst e
      simp [fv, ht, hR_sR, cv, va_rf]
    · simp [fv, hR_sR, e, hI_sR, hL_sR]
theorem aC_ref {ad : Nat → Nat} {h : AH} {a t n : Nat} (ht : 4 ≤ t) : aC ad h a t n = (n, .inr (.inr (.inr (.inr (fun j => (hR h a j).map ad))))) := by
  unfold aC
  rw [if_neg (by omega), if_neg (by omega)]
theorem tyF_o {t : Nat} (ht : t = 4 ∨ t = 6 ∨ t = 7) : ∃ C, tyF t = .object C := by rcases ht with rfl | rfl | rfl <;> exact ⟨_, rfl⟩
/-- an element of a row of objects -/
theorem g_aaldo {a t n j b : Nat} {i : Int32} (hd : decode (mB mt) pc = .ok (.aaload, 1)) (hs : kdA a = some (.inr (t, n))) (ht : t = 4 ∨ t = 6 ∨ t = 7) (ha : prN (hN h) a) (hi : i = nI j) (hj : j < n) (hr : hR h a j = some b) (kk : AW X mt d kc ks (pc + 1) ls (.ref b :: st) h Q) : AW X mt d kc ks pc ls (.int i :: .ref a :: st) h Q := by
  subst hi
  intro p l e R s m args below meth c A G cls Z H locs cells slots ad lsA C F D hc hs2 hA
  obtain ⟨ia, hia, hga⟩ := wld_at (cls := cls) (ad := ad) ha
  have g := kk p l e R s m args below meth c A G cls Z H locs cells slots ad lsA C F D hc hs2 hA
  obtain ⟨q1, q2⟩ := nI_i hj (kdA_len hs).2
  obtain ⟨C9, hC9⟩ := tyF_o ht
  exact va_aldq C.1 C.2.1 C.2.2.2.2.2.2.2.2.2.2.1 D.1 ia t (f := fun j => (hR h a j).map ad) (by rw [hga, ce_arr hs, aC_ref (by omega)]) (by rw [tys_at t (by omega), hC9]) q1 hd (by rw [q2, hr]; exact g)
theorem g_aald0 {a t n j : Nat} {i : Int32} (hd : decode (mB mt) pc = .ok (.aaload, 1)) (hs : kdA a = some (.inr (t, n))) (ht : t = 4 ∨ t = 6 ∨ t = 7) (ha : prN (hN h) a) (hi : i = nI j) (hj : j < n) (hr : hR h a j = none) (kk : AW X mt d kc ks (pc + 1) ls (.null :: st) h Q) : AW X mt d kc ks pc ls (.int i :: .ref a :: st) h Q := by
  subst hi
  intro p l e R s m args below meth c A G cls Z H locs cells slots ad lsA C F D hc hs2 hA
  obtain ⟨ia, hia, hga⟩ := wld_at (cls := cls) (ad := ad) ha
  have g := kk p l e R s m args below meth c A G cls Z H locs cells slots ad lsA C F D hc hs2 hA
  obtain ⟨q1, q2⟩ := nI_i hj (kdA_len hs).2
  obtain ⟨C9, hC9⟩ := tyF_o ht
  exact va_aldq C.1 C.2.1 C.2.2.2.2.2.2.2.2.2.2.1 D.1 ia t (f := fun j => (hR h a j).map ad) (by rw [hga, ce_arr hs, aC_ref (by omega)]) (by rw [tys_at t (by omega), hC9]) q1 hd (by rw [q2, hr]; exact g)
theorem set_R {cls : Nat → ClassId} {ad : Nat → Nat} {a t n j ia : Nat} {v : Option Nat} (hs : kdA a = some (.inr (t, n))) (ht : 4 ≤ t) (hia : (hC (hN h))[ia]? = some a) (hw : wfh h) : (wld cls ad h).set ia (ad a, .inl (cls t, n, .inr (.inr (.inr (.inr (va_up (fun j => (hR h a j).map ad) j (v.map ad))))))) = wld cls ad (sR h a j v) := by
  refine wld_set hia hw hN_sR (fun b q => ce_congr rfl rfl (fun _ => by rw [show hR (sR h a j _) _ = _ from up2_row q])) ?_
  rw [ce_arr hs, aC_ref ht]
  have e : (fun k => (hR (sR h a j v) a k).map ad) = va_up (fun j => (hR h a j).map ad) j (v.map ad) := funext fun k => by
    rw [hR_sR]
    by_cases e : k = j <;> simp [va_up, e]
  rw [e]
/-- an object of the world into a row of its class -/
theorem g_aasto {a t n j b ci : Nat} {i : Int32} (hd : decode (mB mt) pc = .ok (.aastore, 1)) (hs : kdA a = some (.inr (t, n))) (ht : (t = 4 ∧ ci = 3) ∨ (t = 6 ∧ ci = 7) ∨ (t = 7 ∧ ci = 6)) (ha : prN (hN h) a) (hi : i = nI j) (hj : j < n) (hsb : kdA b = some (.inl ci)) (hb : prN (hN h) b) (kk : AW X mt d kc ks (pc + 1) ls st (sR h a j (some b)) Q) : AW X mt d kc ks pc ls (.ref b :: .int i :: .ref a :: st) h Q := by
  subst hi
  intro p l e R s m args below meth c A G cls Z H locs cells slots ad lsA C F D hc hs2 hA
  obtain ⟨ia, hia, hga⟩ := wld_at (cls := cls) (ad := ad) ha
  obtain ⟨ib, hib, hgb⟩ := wld_at (cls := cls) (ad := ad) hb
  obtain ⟨q1, q2⟩ := nI_i hj (kdA_len hs).2
  have hset := set_R (cls := cls) (ad := ad) (j := j) (v := some b) hs (by omega) hia D.2.2.2.1
  refine va_astq C.1 C.2.1 C.2.2.2.2.2.2.2.2.2.2.1 D.1 D.2.1 D.2.2.1 ia t ib ci (r := (cR ci, cT ci, nF ci)) (f := fun j => (hR h a j).map ad) (by rw [hga, ce_arr hs, aC_ref (by omega)]) (by rcases ht with ⟨rfl, rfl⟩ | ⟨rfl, rfl⟩ | ⟨rfl, rfl⟩ <;> rfl) (by rw [hgb, ce_obj hsb]) (vwCl_at (kdA_ci hsb)) q1 hd (fun H1 locs1 z1 z2 z3 => ?_)
  rw [q2] at z1 z2
  rw [show some (ad b) = (some b).map ad from rfl, hset] at z1 z2
  exact kk p l e R s m args below meth c A G cls Z H1 locs1 cells slots ad lsA C F ⟨z1, z2, z3, wfh_sRx (Or.inl hb) D.2.2.2.1, D.2.2.2.2⟩ hc hs2 hA
theorem g_aast0 {a t n j : Nat} {i : Int32} (hd : decode (mB mt) pc = .ok (.aastore, 1)) (hs : kdA a = some (.inr (t, n))) (ht : t = 4 ∨ t = 6 ∨ t = 7) (ha : prN (hN h) a) (hi : i = nI j) (hj : j < n) (kk : AW X mt d kc ks (pc + 1) ls st (sR h a j none) Q) : AW X mt d kc ks pc ls (.null :: .int i :: .ref a :: st) h Q := by
  subst hi
  intro p l e R s m args below meth c A G cls Z H locs cells slots ad lsA C F D hc hs2 hA
  obtain ⟨ia, hia, hga⟩ := wld_at (cls := cls) (ad := ad) ha
  obtain ⟨q1, q2⟩ := nI_i hj (kdA_len hs).2
  obtain ⟨C9, hC9⟩ := tyF_o ht
  have hset := set_R (cls := cls) (ad := ad) (j := j) (v := none) hs (by omega) hia D.2.2.2.1
  refine va_astqN C.1 C.2.1 C.2.2.2.2.2.2.2.2.2.2.1 D.1 D.2.1 D.2.2.1 ia t (f := fun j => (hR h a j).map ad) (by rw [hga, ce_arr hs, aC_ref (by omega)]) (by rw [tys_at t (by omega), hC9]) q1 hd (fun H1 locs1 z1 z2 z3 => ?_)
  rw [q2] at z1 z2
  rw [show (none : Option Nat) = (none : Option Nat).map ad from rfl, hset] at z1 z2
  exact kk p l e R s m args below meth c A G cls Z H1 locs1 cells slots ad lsA C F ⟨z1, z2, z3, wfh_sR0 D.2.2.2.1, D.2.2.2.2⟩ hc hs2 hA
-- the fixed cells
theorem a_get {a ci k idx : Nat} {v : Value} (hd : decode (mB mt) pc = .ok (.getfield idx, 3)) (hf : FL mt idx ci k) (hk : k < nF ci) (hs : shK a = some (.inl ci)) (ha : a < hN h) (hv : ∀ ad, fv ad h a ci k = cv ad v) (kk : AW X mt d kc ks (pc + 3) ls (v :: st) h Q) : AW X mt d kc ks pc ls (.ref a :: st) h Q := g_get hd hf hk (kdA_sh hs) (pr_sh hs ha) hv kk
theorem a_getI {a ci k idx : Nat} (hd : decode (mB mt) pc = .ok (.getfield idx, 3)) (hf : FL mt idx ci k) (hk : k < nF ci) (ht : fK ci k = 0) (hs : shK a = some (.inl ci)) (ha : a < hN h) (kk : AW X mt d kc ks (pc + 3) ls (.int (hI h a k) :: st) h Q) : AW X mt d kc ks pc ls (.ref a :: st) h Q := g_getI hd hf hk ht (kdA_sh hs) (pr_sh hs ha) kk
theorem a_getL {a ci k idx : Nat} (hd : decode (mB mt) pc = .ok (.getfield idx, 3)) (hf : FL mt idx ci k) (hk : k < nF ci) (ht : fK ci k = 1) (hs : shK a = some (.inl ci)) (ha : a < hN h) (kk : AW X mt d kc ks (pc + 3) ls (.long (hL h a k) :: st) h Q) : AW X mt d kc ks pc ls (.ref a :: st) h Q := g_getL hd hf hk ht (kdA_sh hs) (pr_sh hs ha) kk
theorem a_getR {a ci k idx b : Nat} (hd : decode (mB mt) pc = .ok (.getfield idx, 3)) (hf : FL mt idx ci k) (hk : k < nF ci) (ht : fK ci k = 2) (hs : shK a = some (.inl ci)) (ha : a < hN h) (hr : hR h a k = some b) (kk : AW X mt d kc ks (pc + 3) ls (.ref b :: st) h Q) : AW X mt d kc ks pc ls (.ref a :: st) h Q := g_getR hd hf hk ht (kdA_sh hs) (pr_sh hs ha) hr kk
theorem a_put {a ci k idx : Nat} {v : Value} {h' : AH} (hd : decode (mB mt) pc = .ok (.putfield idx, 3)) (hf : FL mt idx ci k) (hk : k < nF ci) (hs : shK a = some (.inl ci)) (ha : a < hN h) (hfin : (cT ci k).2.2.2 = false ∨ ((cT ci k).2.2.2 = true ∧ (mN mt).name = "<init>" ∧ (cT ci k).1 = (mN mt).cls ∧ Cond.fieldLink (mN mt).cls idx (cT ci k).1 (cT ci k).2.1 (cT ci k).2.2.1 ∈ lw_tbl))
    (hn : ∀ ad, narrow (fT ci k) (cv ad v) = cv ad v) (hfit : ∀ ad, fits (fT ci k) (cv ad v) = true) (eN : hN h' = hN h) (ho : ∀ b, b ≠ a → hI h' b = hI h b ∧ hL h' b = hL h b ∧ hR h' b = hR h b) (hv : ∀ ad, (fun j => if j = k then cv ad v else fv ad h a ci j) = fv ad h' a ci) (hw' : wfh h → wfh h')
    (kk : AW X mt d kc ks (pc + 3) ls st h' Q) : AW X mt d kc ks pc ls (v :: .ref a :: st) h Q := g_put hd hf hk (kdA_sh hs) (pr_sh hs ha) hfin hn hfit eN ho hv hw' kk
theorem a_putI {a ci k idx : Nat} {x : Int32} (hd : decode (mB mt) pc = .ok (.putfield idx, 3)) (hf : FL mt idx ci k) (hk : k < nF ci) (ht : fT ci k = .int ∨ (fT ci k = .boolean ∧ (x = 0 ∨ x = 1))) (hs : shK a = some (.inl ci)) (ha : a < hN h) (hfin : (cT ci k).2.2.2 = false) (kk : AW X mt d kc ks (pc + 3) ls st (sI h a k x) Q) : AW X mt d kc ks pc ls (.int x :: .ref a :: st) h Q := g_putI hd hf hk ht (kdA_sh hs) (pr_sh hs ha) hfin kk
theorem a_putL {a ci k idx : Nat} {x : Int64} (hd : decode (mB mt) pc = .ok (.putfield idx, 3)) (hf : FL mt idx ci k) (hk : k < nF ci) (ht : fT ci k = .long) (hs : shK a = some (.inl ci)) (ha : a < hN h) (hfin : (cT ci k).2.2.2 = false) (kk : AW X mt d kc ks (pc + 3) ls st (sL h a k x) Q) : AW X mt d kc ks pc ls (.long x :: .ref a :: st) h Q := g_putL hd hf hk ht (kdA_sh hs) (pr_sh hs ha) hfin kk
theorem a_putRF {a ci k idx b : Nat} (hd : decode (mB mt) pc = .ok (.putfield idx, 3)) (hf : Cond.fieldLink (mN mt).cls idx (cT ci k).1 (cT ci k).2.1 (cT ci k).2.2.1 ∈ lw_tbl) (hk : k < nF ci) (ht : fK ci k = 2) (hs : shK a = some (.inl ci)) (ha : a < hN h) (hb : b < hN h) (hb6 : b < 68) (hfin : (cT ci k).2.2.2 = true) (hi : (mN mt).name = "<init>") (ho : (cT ci k).1 = (mN mt).cls) (kk : AW X mt d kc ks (pc + 3) ls st (sR h a k (some b)) Q) : AW X mt d kc ks pc ls (.ref b :: .ref a :: st) h Q := g_putRF hd hf hk ht (kdA_sh hs) (pr_sh hs ha) (prN_st hb hb6) hfin hi ho kk
theorem a_iald {a n j : Nat} {i : Int32} (hd : decode (mB mt) pc = .ok (.iaload, 1)) (hs : shK a = some (.inr (0, n))) (ha : a < hN h) (hi : i = nI j) (hj : j < n) (kk : AW X mt d kc ks (pc + 1) ls (.int (hI h a j) :: st) h Q) : AW X mt d kc ks pc ls (.int i :: .ref a :: st) h Q := g_iald hd (kdA_sh hs) (pr_sh hs ha) hi hj kk
theorem a_bald {a n j : Nat} {i : Int32} (hd : decode (mB mt) pc = .ok (.baload, 1)) (hs : shK a = some (.inr (1, n))) (ha : a < hN h) (hi : i = nI j) (hj : j < n) (kk : AW X mt d kc ks (pc + 1) ls (.int (hI h a j) :: st) h Q) : AW X mt d kc ks pc ls (.int i :: .ref a :: st) h Q := g_bald hd (kdA_sh hs) (pr_sh hs ha) hi hj kk
theorem a_zald {a n j : Nat} {i : Int32} (hd : decode (mB mt) pc = .ok (.baload, 1)) (hs : shK a = some (.inr (2, n))) (ha : a < hN h) (hi : i = nI j) (hj : j < n) (kk : AW X mt d kc ks (pc + 1) ls (.int (hI h a j) :: st) h Q) : AW X mt d kc ks pc ls (.int i :: .ref a :: st) h Q := g_zald hd (kdA_sh hs) (pr_sh hs ha) hi hj kk
theorem a_lald {a n j : Nat} {i : Int32} (hd : decode (mB mt) pc = .ok (.laload, 1)) (hs : shK a = some (.inr (3, n))) (ha : a < hN h) (hi : i = nI j) (hj : j < n) (kk : AW X mt d kc ks (pc + 1) ls (.long (hL h a j) :: st) h Q) : AW X mt d kc ks pc ls (.int i :: .ref a :: st) h Q := g_lald hd (kdA_sh hs) (pr_sh hs ha) hi hj kk
theorem a_aald {a n j b : Nat} {i : Int32} (hd : decode (mB mt) pc = .ok (.aaload, 1)) (hs : shK a = some (.inr (4, n))) (ha : a < hN h) (hi : i = nI j) (hj : j < n) (hr : hR h a j = some b) (kk : AW X mt d kc ks (pc + 1) ls (.ref b :: st) h Q) : AW X mt d kc ks pc ls (.int i :: .ref a :: st) h Q := g_aald hd (kdA_sh hs) (pr_sh hs ha) hi hj hr kk
theorem a_rald {a n j b : Nat} {i : Int32} (hd : decode (mB mt) pc = .ok (.aaload, 1)) (hs : shK a = some (.inr (5, n))) (ha : a < hN h) (hi : i = nI j) (hj : j < n) (hr : hR h a j = some b) (kk : AW X mt d kc ks (pc + 1) ls (.ref b :: st) h Q) : AW X mt d kc ks pc ls (.int i :: .ref a :: st) h Q := g_rald hd (kdA_sh hs) (pr_sh hs ha) hi hj hr kk
theorem a_alen {a t n : Nat} (hd : decode (mB mt) pc = .ok (.arraylength, 1)) (hs : shK a = some (.inr (t, n))) (ha : a < hN h) (kk : AW X mt d kc ks (pc + 1) ls (.int (nI n) :: st) h Q) : AW X mt d kc ks pc ls (.ref a :: st) h Q := g_alen hd (kdA_sh hs) (pr_sh hs ha) kk
theorem a_iast {a n j : Nat} {i x : Int32} (hd : decode (mB mt) pc = .ok (.iastore, 1)) (hs : shK a = some (.inr (0, n))) (ha : a < hN h) (hi : i = nI j) (hj : j < n) (kk : AW X mt d kc ks (pc + 1) ls st (sI h a j x) Q) : AW X mt d kc ks pc ls (.int x :: .int i :: .ref a :: st) h Q := g_iast hd (kdA_sh hs) (pr_sh hs ha) hi hj kk
theorem a_bast {a n j : Nat} {i x : Int32} (hd : decode (mB mt) pc = .ok (.bastore, 1)) (hs : shK a = some (.inr (1, n))) (ha : a < hN h) (hi : i = nI j) (hj : j < n) (kk : AW X mt d kc ks (pc + 1) ls st (sI h a j x.toInt8.toInt32) Q) : AW X mt d kc ks pc ls (.int x :: .int i :: .ref a :: st) h Q := g_bast hd (kdA_sh hs) (pr_sh hs ha) hi hj kk
theorem a_zast {a n j : Nat} {i x : Int32} (hd : decode (mB mt) pc = .ok (.bastore, 1)) (hs : shK a = some (.inr (2, n))) (ha : a < hN h) (hi : i = nI j) (hj : j < n) (kk : AW X mt d kc ks (pc + 1) ls st (sI h a j (x &&& 1)) Q) : AW X mt d kc ks pc ls (.int x :: .int i :: .ref a :: st) h Q := g_zast hd (kdA_sh hs) (pr_sh hs ha) hi hj kk
theorem a_last {a n j : Nat} {i : Int32} {x : Int64} (hd : decode (mB mt) pc = .ok (.lastore, 1)) (hs : shK a = some (.inr (3, n))) (ha : a < hN h) (hi : i = nI j) (hj : j < n) (kk : AW X mt d kc ks (pc + 1) ls st (sL h a j x) Q) : AW X mt d kc ks pc ls (.long x :: .int i :: .ref a :: st) h Q := g_last hd (kdA_sh hs) (pr_sh hs ha) hi hj kk
theorem a_aast {a n j b : Nat} {i : Int32} (hd : decode (mB mt) pc = .ok (.aastore, 1)) (hs : shK a = some (.inr (4, n))) (ha : a < hN h) (hi : i = nI j) (hj : j < n) (hsb : shK b = some (.inl 3)) (hb : b < hN h) (kk : AW X mt d kc ks (pc + 1) ls st (sR h a j (some b)) Q) : AW X mt d kc ks pc ls (.ref b :: .int i :: .ref a :: st) h Q := g_aast hd (kdA_sh hs) (pr_sh hs ha) hi hj (kdA_sh hsb) (pr_sh hsb hb) kk
end RW7
end
section
/-! rows of AW: cells that are made; the ends of a method -/
def okv (n : Nat) : Value → Bool
  | .ref a => decide (a < n) || decide (90 ≤ a)
  | _ => true
theorem cv_okv {n : Nat} {ad ad' : Nat → Nat} (he : ∀ a, (a < n ∨ 90 ≤ a) → ad' a = ad a) {v : Value} (hv : okv n v = true) : cv ad' v = cv ad v := by
  cases v <;> first | rfl | skip
  rename_i a
  simp only [okv, Bool.or_eq_true, decide_eq_true_eq] at hv
  simp only [cv, he a hv]
theorem map_okv {n : Nat} {ad ad' : Nat → Nat} (he : ∀ a, (a < n ∨ 90 ≤ a) → ad' a = ad a) {st : List Value} (hv : st.all (okv n) = true) : st.map (cv ad') = st.map (cv ad) :=
  List.map_congr_left fun v q => cv_okv he (List.all_eq_true.mp hv v q)
theorem map_okl {n : Nat} {ad ad' : Nat → Nat} (he : ∀ a, (a < n ∨ 90 ≤ a) → ad' a = ad a) {ls : List (Nat × Value)} (hv : ls.all (fun q => okv n q.2) = true) : ls.map (cl1 ad') = ls.map (cl1 ad) :=
  List.map_congr_left fun v q => by simp only [cl1, cv_okv he (List.all_eq_true.mp hv v q)]
theorem adOK_upx {X : XT} {ad ad' : Nat → Nat} (he : ∀ a, ext a → ad' a = ad a) (h : adOK X ad) : adOK X ad' :=
  ⟨(he _ (by unfold ext; omega)).trans h.1, fun i hi => (he _ (by unfold ext; omega)).trans (h.2.1 i hi), fun i hi => (he _ (by unfold ext; omega)).trans (h.2.2.1 i hi), (he _ (by unfold ext; omega)).trans h.2.2.2⟩
theorem adOK_up {X : XT} {ad ad' : Nat → Nat} {n : Nat} (he : ∀ a, (a < n ∨ 90 ≤ a) → ad' a = ad a) (h : adOK X ad) : adOK X ad' := adOK_upx (fun a ha => he a (Or.inr (by unfold ext at ha; omega))) h
/-- a value that a new cell leaves as it is -/
def okd (N : Nat) (v : Value) : Prop := ∀ a, v = .ref a → prN N a ∨ ext a
theorem okd_i {N : Nat} {x : Int32} : okd N (.int x) := fun a e => by cases e
theorem okd_l {N : Nat} {x : Int64} : okd N (.long x) := fun a e => by cases e
theorem okd_n {N : Nat} : okd N .null := fun a e => by cases e
theorem okd_r {N b : Nat} (h : prN N b) : okd N (.ref b) := fun a e => by cases e; exact Or.inl h
theorem okd_x {N b : Nat} (h : ext b) : okd N (.ref b) := fun a e => by cases e; exact Or.inr h
theorem cv_okd {N : Nat} {ad ad' : Nat → Nat} (he : ∀ a, (prN N a ∨ ext a) → ad' a = ad a) {v : Value} (hv : okd N v) : cv ad' v = cv ad v := by
  cases v <;> first | rfl | skip
  rename_i a
  simp only [cv, he a (hv a rfl)]
theorem map_okd {N : Nat} {ad ad' : Nat → Nat} (he : ∀ a, (prN N a ∨ ext a) → ad' a = ad a) {st : List Value} (hv : ∀ v ∈ st, okd N v) : st.map (cv ad') = st.map (cv ad) :=
  List.map_congr_left fun v q => cv_okd he (hv v q)
theorem map_okdl {N : Nat} {ad ad' : Nat → Nat} (he : ∀ a, (prN N a ∨ ext a) → ad' a = ad a) {ls : List (Nat × Value)} (hv : ∀ q ∈ ls, okd N q.2) : ls.map (cl1 ad') = ls.map (cl1 ad) :=
  List.map_congr_left fun v q => by simp only [cl1, cv_okd he (hv v q)]
theorem okz {α : Type} {P : α → Prop} : ∀ q ∈ ([] : List α), P q := fun _ h => by cases h
theorem okc {α : Type} {P : α → Prop} {x : α} {l : List α} (h : P x) (hl : ∀ q ∈ l, P q) : ∀ q ∈ x :: l, P q := fun q hq => by
  rcases List.mem_cons.mp hq with rfl | hq
  · exact h
  · exact hl q hq
theorem hC_succ {N : Nat} (h : N < 68) : hC (N + 1) = hC N ++ [N] := by
  unfold hC
  rw [dyn_low (by omega), dyn_low (by omega), List.append_nil, List.append_nil, Nat.min_eq_left (by omega), Nat.min_eq_left (by omega), List.range_succ]
theorem hC_adn {N c : Nat} (h : 68 ≤ N) : hC (adn N c) = hC N ++ [c] := by
  unfold hC
  rw [dyn_adn, Nat.min_eq_right adn_ge, Nat.min_eq_right h, List.append_assoc]
theorem wld_ext {cls : Nat → ClassId} {ad ad' : Nat → Nat} {h h' : AH} {nl : List Nat} (hn : hC (hN h') = hC (hN h) ++ nl) (ho : ∀ a, prN (hN h) a → ad' a = ad a ∧ ce cls ad' h' a = ce cls ad h a) : wld cls ad' h' = wld cls ad h ++ nl.map (fun a => (ad' a, ce cls ad' h' a)) := by
  unfold wld
  rw [hn, List.map_append]
  congr 1
  exact List.map_congr_left fun a ha => by rw [(ho a ha).1, (ho a ha).2]
theorem up_ne {α : Type} {f : Nat → α} {k j : Nat} {v : α} (h : j ≠ k) : va_up f k v j = f j := if_neg h
theorem up_eq {α : Type} {f : Nat → α} {k : Nat} {v : α} : va_up f k v k = v := if_pos rfl
theorem hN_nw {h : AH} : hN (nw h) = hN h + 1 := rfl
theorem nw_old {cls : Nat → ClassId} {ad : Nat → Nat} {h : AH} {q : Nat} (hl : hN h < 68) (hw : wfh h) : ∀ a, prN (hN h) a → va_up ad (hN h) q a = ad a ∧ ce cls (va_up ad (hN h) q) (nw h) a = ce cls ad h a := by
  intro a ha
  have hp := fun b => prN_low (N := hN h) (a := b) (Nat.le_of_lt hl)
  have hne : a ≠ hN h := by have := (hp a).mp ha; omega
  refine ⟨up_ne hne, ce_congr (upr_row hne) (upr_row hne) (fun j => ?_)⟩
  rw [show hR (nw h) a = hR h a from upr_row hne]
  cases e : hR h a j with
  | none => rfl
  | some k =>
    simp only [Option.map_some]
    rw [up_ne ?_]
    rcases hw.2 a j k ha e with z | z
    · have := (hp k).mp z; omega
    · unfold ext at z; omega
theorem wfh_nw {h : AH} (hn : hN h < 68) (hw : wfh h) : wfh (nw h) := by
  have hp := fun b => prN_low (N := hN h) (a := b) (Nat.le_of_lt hn)
  have hp2 := fun b => prN_low (N := hN (nw h)) (a := b) (show hN h + 1 ≤ 68 from hn)
  refine ⟨by rw [hN_nw, dyn_low (by omega), ← dyn_low (N := hN h) (by omega)]; exact hw.1, fun a j k ha e => ?_⟩
  rw [hp2, hN_nw] at ha
  rw [hp2, hN_nw]
  by_cases q : a = hN h
  · rw [show hR (nw h) a = (fun _ => none) from by subst q; exact if_pos rfl] at e
    cases e
  · rw [show hR (nw h) a = hR h a from upr_row q] at e
    rcases hw.2 a j k ((hp a).mpr (by omega)) e with z | z
    · have := (hp k).mp z
      exact Or.inl (by omega)
    · exact Or.inr z
theorem nw_row {h : AH} : hI (nw h) (hN h) = (fun _ => 0) ∧ hL (nw h) (hN h) = (fun _ => 0) ∧ hR (nw h) (hN h) = (fun _ => none) := ⟨if_pos rfl, if_pos rfl, if_pos rfl⟩
theorem hN_nwD {h : AH} {c : Nat} : hN (nwD h c) = adn (hN h) c := rfl
theorem nwD_row {h : AH} {c : Nat} : hI (nwD h c) c = (fun _ => 0) ∧ hL (nwD h c) c = (fun _ => 0) ∧ hR (nwD h c) c = (fun _ => none) := ⟨if_pos rfl, if_pos rfl, if_pos rfl⟩
theorem nwD_old {h : AH} {c a : Nat} (hne : a ≠ c) : hI (nwD h c) a = hI h a ∧ hL (nwD h c) a = hL h a ∧ hR (nwD h c) a = hR h a := ⟨upr_row hne, upr_row hne, upr_row hne⟩
/-- what a new cell of the name c wants: the fixed cells are all made, the name is new -/
def newC (N c k q : Nat) : Prop := 68 ≤ N ∧ c = nm k q ∧ k = dl N ∧ q < 1024
theorem newC.no {N c k q : Nat} (w : dOK (dyn N)) (n : newC N c k q) : ¬ prN N c ∧ ¬ ext c := by
  obtain ⟨h1, rfl, h3, h4⟩ := n
  exact ⟨nm_new w h3 h4, by unfold ext nm; omega⟩
theorem ce_old {cls : Nat → ClassId} {ad ad' : Nat → Nat} {h h' : AH} {c a : Nat} (hw : wfh h) (hc : ¬ prN (hN h) c ∧ ¬ ext c) (ho : ∀ b, b ≠ c → hI h' b = hI h b ∧ hL h' b = hL h b ∧ hR h' b = hR h b) (he : ∀ b, b ≠ c → ad' b = ad b) (ha : prN (hN h) a) : ad' a = ad a ∧ ce cls ad' h' a = ce cls ad h a := by
  have hne : a ≠ c := fun e => hc.1 (e ▸ ha)
  obtain ⟨e1, e2, e3⟩ := ho a hne
  refine ⟨he a hne, ce_congr e1 e2 (fun j => ?_)⟩
  rw [e3]
  cases e : hR h a j with
  | none => rfl
  | some k =>
    simp only [Option.map_some]
    rw [he k (fun z => ?_)]
    subst z
    rcases hw.2 a j k ha e with z | z
    · exact hc.1 z
    · exact hc.2 z
theorem wfh_D {h h' : AH} {c k q : Nat} (hw : wfh h) (n : newC (hN h) c k q) (hn : hN h' = adn (hN h) c) (ho : ∀ b, b ≠ c → hR h' b = hR h b) (hcr : ∀ j b, hR h' c j = some b → prN (hN h) b ∨ ext b) : wfh h' := by
  have hp := fun b => prN_adn (N := hN h) (c := c) (a := b) n.1
  refine ⟨?_, fun a j b ha e => ?_⟩
  · rw [hn]
    obtain ⟨h1, rfl, h3, h4⟩ := n
    exact dOK_add hw.1 h3 h4
  · rw [hn] at ha ⊢
    rw [hp] at ha ⊢
    by_cases z : a = c
    · subst z
      exact (hcr j b e).imp Or.inl id
    · rw [ho a z] at e
      exact (hw.2 a j b (ha.resolve_right z) e).imp Or.inl id
theorem dflt_ok : ∀ ci, ci < 9 → ∀ k, k < nF ci → defaultValue (fT ci k) = if fK ci k = 0 then .int 0 else if fK ci k = 1 then .long 0 else .null := cls_cases (by decide +kernel) (by decide +kernel) (by decide +kernel) (by decide +kernel) (by decide +kernel) (by decide +kernel) (by decide +kernel) (by decide +kernel) (by decide +kernel)
section RW8
variable {X : XT} {mt : MT} {d kc ks pc : Nat} {ls ls' : List (Nat × Value)} {st : List Value} {h : AH} {Q : Res → AH → Prop}
/-- FIN, seen behind a making -/
theorem FIN.up {p : Program} {l : Launch} {e : Env} {R : Room} {s : State} {m : MethodId} {args : Array Value} {below : List Frame} {meth : Method} {c : Code} {A : Nat → Prop} {G : va_G} {cls : Nat → ClassId} {Z : State → Prop} {n n1 : Nat} {ad ad1 : Nat → Nat} (F : FIN X mt p l e R s m args below meth c A G cls Z n ad Q) (hn : xF X = false → ∀ a, prN n a → prN n1 a) (he : xF X = false → ∀ a, (prN n a ∨ ¬ prN n1 a) → ad1 a = ad a) : FIN X mt p l e R s m args below meth c A G cls Z n1 ad1 Q := by
  have key : ∀ (N' : Nat) (ad' : Nat → Nat), (xF X = false → ∀ a, (prN n1 a ∨ ¬ prN N' a) → ad' a = ad1 a) → (xF X = false → ∀ a, prN n1 a → prN N' a) → (xF X = false → ∀ a, (prN n a ∨ ¬ prN N' a) → ad' a = ad a) ∧ (xF X = false → ∀ a, prN n a → prN N' a) := fun N' ad' q1 q2 => by
    refine ⟨fun x a ha => ?_, fun x a ha => q2 x a (hn x a ha)⟩
    rcases ha with z | z
    · exact (q1 x a (Or.inl (hn x a z))).trans (he x a (Or.inl z))
    · exact (q1 x a (Or.inr z)).trans (he x a (Or.inr (fun y => z (q2 x a y))))
  exact ⟨fun v h' q ad' H' locs' cells' slots' lsA pc ins q1 q2 q3 q4 q5 q6 q7 => F.1 v h' q ad' H' locs' cells' slots' lsA pc ins (key _ _ q1 q2).1 (key _ _ q1 q2).2 q3 q4 q5 q6 q7,
    fun E h' q ad' H' locs' cells' slots' lsA pc st q1 q2 q3 q4 q5 => F.2 E h' q ad' H' locs' cells' slots' lsA pc st (key _ _ q1 q2).1 (key _ _ q1 q2).2 q3 q4 q5⟩
theorem FIN.lo {p : Program} {l : Launch} {e : Env} {R : Room} {s : State} {m : MethodId} {args : Array Value} {below : List Frame} {meth : Method} {c : Code} {A : Nat → Prop} {G : va_G} {cls : Nat → ClassId} {Z : State → Prop} {n n1 : Nat} {ad ad1 : Nat → Nat} (F : FIN X mt p l e R s m args below meth c A G cls Z n ad Q) (h68 : n1 ≤ 68) (hn : n ≤ n1) (he : ∀ a, (a < n ∨ n1 ≤ a) → ad1 a = ad a) : FIN X mt p l e R s m args below meth c A G cls Z n1 ad1 Q :=
  F.up (fun _ a ha => (prN_low h68).mpr (by have := (prN_low (Nat.le_trans hn h68)).mp ha; omega)) (fun _ a ha => he a (by
    rw [prN_low h68, prN_low (Nat.le_trans hn h68)] at ha
    omega))
theorem FIN.dy {p : Program} {l : Launch} {e : Env} {R : Room} {s : State} {m : MethodId} {args : Array Value} {below : List Frame} {meth : Method} {c : Code} {A : Nat → Prop} {G : va_G} {cls : Nat → ClassId} {Z : State → Prop} {n b : Nat} {ad ad1 : Nat → Nat} (F : FIN X mt p l e R s m args below meth c A G cls Z n ad Q) (h68 : 68 ≤ n) (hb : ¬ prN n b) (he : ∀ a, a ≠ b → ad1 a = ad a) : FIN X mt p l e R s m args below meth c A G cls Z (adn n b) ad1 Q :=
  F.up (fun _ a ha => (prN_adn h68).mpr (Or.inl ha)) (fun _ a ha => he a (fun z => by
    subst z
    rw [prN_adn h68] at ha
    rcases ha with ha | ha
    · exact hb ha
    · exact ha (Or.inr rfl)))
theorem a_new {ci idx : Nat} (hd : decode (mB mt) pc = .ok (.new idx, 3)) (hs : shK (hN h) = some (.inl ci)) (hl1 : Cond.classLink (mN mt).cls idx (cR ci) ∈ lw_tbl) (hl2 : Cond.instantiable (cR ci) (nF ci) ∈ lw_tbl) (hl3 : Cond.initialized (cR ci) ∈ lw_tbl) (hok1 : ls.all (fun q => okv (hN h) q.2) = true) (hok2 : st.all (okv (hN h)) = true)
    (kk : AW X mt d kc ks (pc + 3) ls (.ref (hN h) :: st) (nw h) Q) : AW X mt d (kc + 1) (ks + nF ci) pc ls st h Q := by
  intro p l e R s m args below meth c A G cls Z H locs cells slots ad lsA C F D hc hs2 hA
  have hci := kdA_ci (kdA_sh hs)
  obtain ⟨hx, hb, hml, hown, hw, -, -, -, -, hAs, hK, hE, -, -⟩ := id C
  refine va_new (ci := ci) (C := cR ci) (T := cT ci) (N := nF ci) (Ts := u_ws (cR ci) (cT ci) (nF ci)) (fs := (List.range (nF ci)).map (fv ad (nw h) (hN h) ci)) hx hb (fun w q => hw w (uws_ok ci hci w q).1 (uws_ok ci hci w q).2) (fun _ q => q) (fT ci) (tyc_ok ci hci) hown (hw _ hl1 rfl) (hw _ hl2 rfl) (hw _ hl3 rfl) hK D.1 D.2.1 D.2.2.1 hAs (vwCl_at hci) (fun j hj => ?_) (by omega) (by omega) hd (fun q H1 z1 z2 z3 => ?_)
  · rw [dflt_ok ci hci j hj]
    simp only [vp_V, List.getD_eq_getElem?_getD, fs_get hj, Option.getD_some, fv, nw_row]
    rfl
  · have hn90 := shK_lt hs
    have hext : ∀ a, (a < hN h ∨ hN h + 1 ≤ a) → va_up ad (hN h) q a = ad a := fun a ha => up_ne (by omega)
    have hext9 : ∀ a, (a < hN h ∨ 90 ≤ a) → va_up ad (hN h) q a = ad a := fun a ha => up_ne (by omega)
    have hwld : wld cls (va_up ad (hN h) q) (nw h) = wld cls ad h ++ [(q, .inr (ci, (List.range (nF ci)).map (fv ad (nw h) (hN h) ci)))] := by
      rw [wld_ext (h := h) (h' := nw h) (hC_succ hn90) (nw_old hn90 D.2.2.2.1), List.map_cons, List.map_nil]
      congr 2
      rw [up_eq, ce_obj (kdA_sh hs)]
      have e : fv (va_up ad (hN h) q) (nw h) (hN h) ci = fv ad (nw h) (hN h) ci := funext fun k => by simp only [fv, nw_row]; rfl
      rw [e]
    have g := kk p l e R s m args below meth c A G cls Z H1 locs (cells + 1) (slots + nF ci) (va_up ad (hN h) q) lsA C (F.lo hn90 (Nat.le_succ _) hext) ⟨by rw [hwld]; exact z1, by rw [hwld]; exact z2, z3, wfh_nw hn90 D.2.2.2.1, adOK_up hext9 D.2.2.2.2⟩ (by omega) (by omega) (by rw [map_okl hext9 hok1]; exact hA)
    rw [List.map_cons, map_okv hext9 hok2] at g
    have e : cv (va_up ad (hN h) q) (.ref (hN h)) = .ref q := by simp only [cv, up_eq]
    rw [e] at g
    exact g
theorem cls_same {s : State} {G : va_G} {cls : Nat → ClassId} {tys : List (ClassId × FieldType)} {t : Nat} {ty : FieldType} {cA : ClassId} (hK : va_K G vwCl (tysOf cls) s) (hK2 : va_K G vwCl (tysOf cls ++ [(cA, ty)]) s) (ht : (tysOf cls)[t]? = some (cls t, ty)) : cA = cls t := by
  have h1 := (hK.2 t _ ht).2
  have h2 := (hK2.2 8 (cA, ty) rfl).2
  cases ty <;> first | exact Option.some.inj (h2.symm.trans h1) | skip
  obtain ⟨_, _, _, _, _, e1⟩ := h1
  obtain ⟨_, _, _, _, _, e2⟩ := h2
  exact Option.some.inj (e2.symm.trans e1)
theorem a_newarr {t n : Nat} {at' : ArrayType} {i : Int32} (hd : decode (mB mt) pc = .ok (.newarray at', 2)) (hs : shK (hN h) = some (.inr (t, n))) (hat : newarray.typeOf at' = tyF t) (ht : t < 4) (hl1 : Cond.arrayClass (tyF t) ∈ lw_tbl) (hi : i = nI n) (hok1 : ls.all (fun q => okv (hN h) q.2) = true) (hok2 : st.all (okv (hN h)) = true)
    (kk : AW X mt d kc ks (pc + 2) ls (.ref (hN h) :: st) (nw h) Q) : AW X mt d (kc + 1) (ks + n) pc ls (.int i :: st) h Q := by
  subst hi
  intro p l e R s m args below meth c A G cls Z H locs cells slots ad lsA C F D hc hs2 hA
  have hn := (shK_len hs).2
  obtain ⟨hx, hb, hml, hown, hw, -, -, -, -, hAs, hK, hE, -, -⟩ := id C
  have hcell : ∀ cA : ClassId, vp_cell cA (aC ad (nw h) (hN h) t n) = arrV cA n (fun _ => defaultValue (tyF t)) := by
    intro cA
    match t, ht with
    | 0, _ => simp only [aC, nw_row]; rfl
    | 1, _ => simp only [aC, nw_row]; rfl
    | 2, _ => simp only [aC, nw_row]; rfl
    | 3, _ => simp only [aC, nw_row]; rfl
  have hcb : componentBytes (tyF t) ≤ 8 := by
    match t, ht with
    | 0, _ => decide
    | 1, _ => decide
    | 2, _ => decide
    | 3, _ => decide
  refine va_newa (N' := n) (a0 := aC ad (nw h) (hN h) t n) hx hb (by rw [hat]; exact hw _ hl1 rfl) hat hK D.1 D.2.1 D.2.2.1 hAs hcell (nI_pos (by omega)) (nI_clamp (by omega)) (Nat.le_trans (Nat.mul_le_mul hn hcb) (by decide)) (by omega) (by omega) hd (fun q cA H1 zK z1 z2 z3 => ?_)
  have hn90 := shK_lt hs
  have hcA : cA = cls t := cls_same (tys := tysOf cls) hK zK (tys_at t (by omega))
  subst hcA
  have hext : ∀ a, (a < hN h ∨ hN h + 1 ≤ a) → va_up ad (hN h) q a = ad a := fun a ha => up_ne (by omega)
  have hext9 : ∀ a, (a < hN h ∨ 90 ≤ a) → va_up ad (hN h) q a = ad a := fun a ha => up_ne (by omega)
  have hwld : wld cls (va_up ad (hN h) q) (nw h) = wld cls ad h ++ [(q, .inl (cls t, aC ad (nw h) (hN h) t n))] := by
    rw [wld_ext (h := h) (h' := nw h) (hC_succ hn90) (nw_old hn90 D.2.2.2.1), List.map_cons, List.map_nil]
    congr 2
    rw [up_eq, ce_arr (kdA_sh hs)]
    have e : aC (va_up ad (hN h) q) (nw h) (hN h) t n = aC ad (nw h) (hN h) t n := by simp only [aC, nw_row]; rfl
    rw [e]
  have g := kk p l e R s m args below meth c A G cls Z H1 locs (cells + 1) (slots + n) (va_up ad (hN h) q) lsA C (F.lo hn90 (Nat.le_succ _) hext) ⟨by rw [hwld]; exact z1, by rw [hwld]; exact z2, z3, wfh_nw hn90 D.2.2.2.1, adOK_up hext9 D.2.2.2.2⟩ (by omega) (by omega) (by rw [map_okl hext9 hok1]; exact hA)
  rw [List.map_cons, map_okv hext9 hok2] at g
  have e : cv (va_up ad (hN h) q) (.ref (hN h)) = .ref q := by simp only [cv, up_eq]
  rw [e] at g
  exact g
theorem a_newref {n idx : Nat} {i : Int32} (hd : decode (mB mt) pc = .ok (.anewarray idx, 3)) (hs : shK (hN h) = some (.inr (4, n))) (hl1 : Cond.classLink (mN mt).cls idx "LetterCuts$Sheet" ∈ lw_tbl) (hi : i = nI n) (hok1 : ls.all (fun q => okv (hN h) q.2) = true) (hok2 : st.all (okv (hN h)) = true)
    (kk : AW X mt d kc ks (pc + 3) ls (.ref (hN h) :: st) (nw h) Q) : AW X mt d (kc + 1) (ks + n) pc ls (.int i :: st) h Q := by
  subst hi
  intro p l e R s m args below meth c A G cls Z H locs cells slots ad lsA C F D hc hs2 hA
  have hn := (shK_len hs).2
  obtain ⟨hx, hb, hml, hown, hw, -, -, -, -, hAs, hK, hE, -, -⟩ := id C
  refine va_newq (N' := n) hx hb hown (hw _ hl1 rfl) hE.2.2.1.1 hK D.1 D.2.1 D.2.2.1 hAs (nI_pos (by omega)) (nI_clamp (by omega)) (Nat.le_trans (Nat.mul_le_mul_right 4 hn) (by decide)) (by omega) (by omega) hd (fun q cA H1 zK z1 z2 z3 => ?_)
  have hn90 := shK_lt hs
  have hcA : cA = cls 4 := cls_same (t := 4) (tys := tysOf cls) hK zK (tys_at 4 (by omega))
  subst hcA
  have hext : ∀ a, (a < hN h ∨ hN h + 1 ≤ a) → va_up ad (hN h) q a = ad a := fun a ha => up_ne (by omega)
  have hext9 : ∀ a, (a < hN h ∨ 90 ≤ a) → va_up ad (hN h) q a = ad a := fun a ha => up_ne (by omega)
  have hwld : wld cls (va_up ad (hN h) q) (nw h) = wld cls ad h ++ [(q, .inl (cls 4, n, .inr (.inr (.inr (.inr (fun _ => none))))))] := by
    rw [wld_ext (h := h) (h' := nw h) (hC_succ hn90) (nw_old hn90 D.2.2.2.1), List.map_cons, List.map_nil]
    congr 2
    rw [up_eq, ce_arr (kdA_sh hs)]
    simp only [aC, nw_row]
    rfl
  have g := kk p l e R s m args below meth c A G cls Z H1 locs (cells + 1) (slots + n) (va_up ad (hN h) q) lsA C (F.lo hn90 (Nat.le_succ _) hext) ⟨by rw [hwld]; exact z1, by rw [hwld]; exact z2, z3, wfh_nw hn90 D.2.2.2.1, adOK_up hext9 D.2.2.2.2⟩ (by omega) (by omega) (by rw [map_okl hext9 hok1]; exact hA)
  rw [List.map_cons, map_okv hext9 hok2] at g
  have e : cv (va_up ad (hN h) q) (.ref (hN h)) = .ref q := by simp only [cv, up_eq]
  rw [e] at g
  exact g
theorem d_new {ci idx b k : Nat} (hd : decode (mB mt) pc = .ok (.new idx, 3)) (hci : ci < 9) (hn : newC (hN h) b k ci) (hl1 : Cond.classLink (mN mt).cls idx (cR ci) ∈ lw_tbl) (hl2 : Cond.instantiable (cR ci) (nF ci) ∈ lw_tbl) (hl3 : Cond.initialized (cR ci) ∈ lw_tbl) (hok1 : ∀ q ∈ ls, okd (hN h) q.2) (hok2 : ∀ v ∈ st, okd (hN h) v)
    (kk : AW X mt d kc ks (pc + 3) ls (.ref b :: st) (nwD h b) Q) : AW X mt d (kc + 1) (ks + nF ci) pc ls st h Q := by
  intro p l e R s m args below meth c A G cls Z H locs cells slots ad lsA C F D hc hs2 hA
  obtain ⟨hx, hb, hml, hown, hw, -, -, -, -, hAs, hK, hE, -, -⟩ := id C
  have hno := hn.no D.2.2.2.1.1
  have hs : kdA b = some (.inl ci) := by rw [hn.2.1]; exact kdA_c hci
  refine va_new (ci := ci) (C := cR ci) (T := cT ci) (N := nF ci) (Ts := u_ws (cR ci) (cT ci) (nF ci)) (fs := (List.range (nF ci)).map (fv ad (nwD h b) b ci)) hx hb (fun w q => hw w (uws_ok ci hci w q).1 (uws_ok ci hci w q).2) (fun _ q => q) (fT ci) (tyc_ok ci hci) hown (hw _ hl1 rfl) (hw _ hl2 rfl) (hw _ hl3 rfl) hK D.1 D.2.1 D.2.2.1 hAs (vwCl_at hci) (fun j hj => ?_) (by omega) (by omega) hd (fun q H1 z1 z2 z3 => ?_)
  · rw [dflt_ok ci hci j hj]
    simp only [vp_V, List.getD_eq_getElem?_getD, fs_get hj, Option.getD_some, fv, nwD_row]
    rfl
  · have hext : ∀ a, a ≠ b → va_up ad b q a = ad a := fun a ha => up_ne ha
    have hext9 : ∀ a, (prN (hN h) a ∨ ext a) → va_up ad b q a = ad a := fun a ha => up_ne (fun z => by subst z; exact ha.elim hno.1 hno.2)
    have hwld : wld cls (va_up ad b q) (nwD h b) = wld cls ad h ++ [(q, .inr (ci, (List.range (nF ci)).map (fv ad (nwD h b) b ci)))] := by
      rw [wld_ext (h := h) (h' := nwD h b) (hC_adn hn.1) (fun a ha => ce_old (h' := nwD h b) D.2.2.2.1 hno (fun b hb => nwD_old hb) hext ha), List.map_cons, List.map_nil]
      congr 2
      rw [up_eq, ce_obj hs]
      have e : fv (va_up ad b q) (nwD h b) b ci = fv ad (nwD h b) b ci := funext fun k => by simp only [fv, nwD_row]; rfl
      rw [e]
    have g := kk p l e R s m args below meth c A G cls Z H1 locs (cells + 1) (slots + nF ci) (va_up ad b q) lsA C (F.dy hn.1 hno.1 hext) ⟨by rw [hwld]; exact z1, by rw [hwld]; exact z2, z3, wfh_D D.2.2.2.1 hn rfl (fun b hb => (nwD_old hb).2.2) (fun j b e => by rw [nwD_row.2.2] at e; cases e), adOK_upx (fun a ha => hext9 a (Or.inr ha)) D.2.2.2.2⟩ (by omega) (by omega) (by rw [map_okdl hext9 hok1]; exact hA)
    rw [List.map_cons, map_okd hext9 hok2] at g
    have e : cv (va_up ad b q) (.ref b) = .ref q := by simp only [cv, up_eq]
    rw [e] at g
    exact g
theorem d_newarr {t n b k : Nat} {at' : ArrayType} {i : Int32} (hd : decode (mB mt) pc = .ok (.newarray at', 2)) (hn9 : n < 64) (hn : newC (hN h) b k (qA t n)) (hat : newarray.typeOf at' = tyF t) (ht : t < 4) (hl1 : Cond.arrayClass (tyF t) ∈ lw_tbl) (hi : i = nI n) (hok1 : ∀ q ∈ ls, okd (hN h) q.2) (hok2 : ∀ v ∈ st, okd (hN h) v)
    (kk : AW X mt d kc ks (pc + 2) ls (.ref b :: st) (nwD h b) Q) : AW X mt d (kc + 1) (ks + n) pc ls (.int i :: st) h Q := by
  subst hi
  intro p l e R s m args below meth c A G cls Z H locs cells slots ad lsA C F D hc hs2 hA
  obtain ⟨hx, hb, hml, hown, hw, -, -, -, -, hAs, hK, hE, -, -⟩ := id C
  have hno := hn.no D.2.2.2.1.1
  have hs : kdA b = some (.inr (t, n)) := by rw [hn.2.1]; exact kdA_a (by omega) hn9
  have hcell : ∀ cA : ClassId, vp_cell cA (aC ad (nwD h b) b t n) = arrV cA n (fun _ => defaultValue (tyF t)) := by
    intro cA
    match t, ht with
    | 0, _ => simp only [aC, nwD_row]; rfl
    | 1, _ => simp only [aC, nwD_row]; rfl
    | 2, _ => simp only [aC, nwD_row]; rfl
    | 3, _ => simp only [aC, nwD_row]; rfl
  have hcb : componentBytes (tyF t) ≤ 8 := by
    match t, ht with
    | 0, _ => decide
    | 1, _ => decide
    | 2, _ => decide
    | 3, _ => decide
  refine va_newa (N' := n) (a0 := aC ad (nwD h b) b t n) hx hb (by rw [hat]; exact hw _ hl1 rfl) hat hK D.1 D.2.1 D.2.2.1 hAs hcell (nI_pos (by omega)) (nI_clamp (by omega)) (Nat.le_trans (Nat.mul_le_mul (show n ≤ 4096 by omega) hcb) (by decide)) (by omega) (by omega) hd (fun q cA H1 zK z1 z2 z3 => ?_)
  have hcA : cA = cls t := cls_same (tys := tysOf cls) hK zK (tys_at t (by omega))
  subst hcA
  have hext : ∀ a, a ≠ b → va_up ad b q a = ad a := fun a ha => up_ne ha
  have hext9 : ∀ a, (prN (hN h) a ∨ ext a) → va_up ad b q a = ad a := fun a ha => up_ne (fun z => by subst z; exact ha.elim hno.1 hno.2)
  have hwld : wld cls (va_up ad b q) (nwD h b) = wld cls ad h ++ [(q, .inl (cls t, aC ad (nwD h b) b t n))] := by
    rw [wld_ext (h := h) (h' := nwD h b) (hC_adn hn.1) (fun a ha => ce_old (h' := nwD h b) D.2.2.2.1 hno (fun b hb => nwD_old hb) hext ha), List.map_cons, List.map_nil]
    congr 2
    rw [up_eq, ce_arr hs]
    have e : aC (va_up ad b q) (nwD h b) b t n = aC ad (nwD h b) b t n := by simp only [aC, nwD_row]; rfl
    rw [e]
  have g := kk p l e R s m args below meth c A G cls Z H1 locs (cells + 1) (slots + n) (va_up ad b q) lsA C (F.dy hn.1 hno.1 hext) ⟨by rw [hwld]; exact z1, by rw [hwld]; exact z2, z3, wfh_D D.2.2.2.1 hn rfl (fun b hb => (nwD_old hb).2.2) (fun j b e => by rw [nwD_row.2.2] at e; cases e), adOK_upx (fun a ha => hext9 a (Or.inr ha)) D.2.2.2.2⟩ (by omega) (by omega) (by rw [map_okdl hext9 hok1]; exact hA)
  rw [List.map_cons, map_okd hext9 hok2] at g
  have e : cv (va_up ad b q) (.ref b) = .ref q := by simp only [cv, up_eq]
  rw [e] at g
  exact g
theorem d_newref {t n b k idx : Nat} {i : Int32} {E : String} (hd : decode (mB mt) pc = .ok (.anewarray idx, 3)) (hn9 : n < 64) (hn : newC (hN h) b k (qA t n)) (ht : (t = 6 ∧ E = "java/lang/String") ∨ (t = 7 ∧ E = "LetterCutsLaw$Sheet")) (hl1 : Cond.classLink (mN mt).cls idx E ∈ lw_tbl) (hi : i = nI n) (hok1 : ∀ q ∈ ls, okd (hN h) q.2) (hok2 : ∀ v ∈ st, okd (hN h) v)
    (kk : AW X mt d kc ks (pc + 3) ls (.ref b :: st) (nwD h b) Q) : AW X mt d (kc + 1) (ks + n) pc ls (.int i :: st) h Q := by
  subst hi
  intro p l e R s m args below meth c A G cls Z H locs cells slots ad lsA C F D hc hs2 hA
  obtain ⟨hx, hb, hml, hown, hw, -, -, -, -, hAs, hK, hE, -, -⟩ := id C
  have hno := hn.no D.2.2.2.1.1
  have hs : kdA b = some (.inr (t, n)) := by rw [hn.2.1]; exact kdA_a (by omega) hn9
  have hAO : va_AO E s := by
    rcases ht with ⟨-, rfl⟩ | ⟨-, rfl⟩
    · exact hE.2.2.1.2.1
    · exact hE.2.2.1.2.2
  refine va_newq (N' := n) hx hb hown (hw _ hl1 rfl) hAO hK D.1 D.2.1 D.2.2.1 hAs (nI_pos (by omega)) (nI_clamp (by omega)) (Nat.le_trans (Nat.mul_le_mul_right 4 (show n ≤ 4096 by omega)) (by decide)) (by omega) (by omega) hd (fun q cA H1 zK z1 z2 z3 => ?_)
  have hcA : cA = cls t := cls_same (t := t) (tys := tysOf cls) hK zK (by rcases ht with ⟨rfl, rfl⟩ | ⟨rfl, rfl⟩ <;> rfl)
  subst hcA
  have hext : ∀ a, a ≠ b → va_up ad b q a = ad a := fun a ha => up_ne ha
  have hext9 : ∀ a, (prN (hN h) a ∨ ext a) → va_up ad b q a = ad a := fun a ha => up_ne (fun z => by subst z; exact ha.elim hno.1 hno.2)
  have hwld : wld cls (va_up ad b q) (nwD h b) = wld cls ad h ++ [(q, .inl (cls t, n, .inr (.inr (.inr (.inr (fun _ => none))))))] := by
    rw [wld_ext (h := h) (h' := nwD h b) (hC_adn hn.1) (fun a ha => ce_old (h' := nwD h b) D.2.2.2.1 hno (fun b hb => nwD_old hb) hext ha), List.map_cons, List.map_nil]
    congr 2
    rw [up_eq, ce_arr hs, aC_ref (by omega)]
    simp only [nwD_row]
    rfl
  have g := kk p l e R s m args below meth c A G cls Z H1 locs (cells + 1) (slots + n) (va_up ad b q) lsA C (F.dy hn.1 hno.1 hext) ⟨by rw [hwld]; exact z1, by rw [hwld]; exact z2, z3, wfh_D D.2.2.2.1 hn rfl (fun b hb => (nwD_old hb).2.2) (fun j b e => by rw [nwD_row.2.2] at e; cases e), adOK_upx (fun a ha => hext9 a (Or.inr ha)) D.2.2.2.2⟩ (by omega) (by omega) (by rw [map_okdl hext9 hok1]; exact hA)
  rw [List.map_cons, map_okd hext9 hok2] at g
  have e : cv (va_up ad b q) (.ref b) = .ref q := by simp only [cv, up_eq]
  rw [e] at g
  exact g
end RW8
end
section
/-! contracts, calls, ends -/
theorem gw_mem {w : Cond} (h1 : w ∈ lw_tbl) (h2 : goodWord w = true) : w ∈ lw_tbl.filter goodWord := List.mem_filter.mpr ⟨h1, h2⟩
def wsM (mt : MT) : List Cond := Cond.code (mN mt) (mB mt) (mL mt) (mR mt) :: lw_tbl.filter goodWord
def rmM (d mc ms : Nat) : Room := { frames := d, cells := mc, slots := ms, locals := 40 * d }
def PB (X : XT) (G : va_G) (cls : Nat → ClassId) (ad : Nat → Nat) (h : AH) (sz : Nat) : State → Prop := fun U =>
  U.heap.size = sz ∧ va_P G vwCl (wld cls ad h) U.heap ∧ va_K G vwCl (tysOf cls) U ∧ va_D (fun _ => True) (wld cls ad h) ∧ EV X (va_A (wld cls ad h) sz) U U.heap
def EXT (X : XT) (G : va_G) (cls : Nat → ClassId) (ad ad' : Nat → Nat) (h h' : AH) (sz : Nat) (t : State) : Prop :=
  (∀ a, (prN (hN h) a ∨ ¬ prN (hN h') a) → ad' a = ad a) ∧ (∀ a, prN (hN h) a → prN (hN h') a) ∧ wfh h' ∧ adOK X ad' ∧ va_P G vwCl (wld cls ad' h') t.heap ∧ va_D (va_A (wld cls ad h) sz) (wld cls ad' h')
def QR (X : XT) (G : va_G) (cls : Nat → ClassId) (ad : Nat → Nat) (h : AH) (sz : Nat) (Q : Res → AH → Prop) : Array Value → State → Outcome → State → Prop := fun _ st oc t =>
  (∃ (v : Option Value) (h' : AH) (ad' : Nat → Nat), oc = .returned (v.map (cv ad')) ∧ (∀ b, v = some (.ref b) → b ≠ 1030) ∧ Q (.inl v) h' ∧ EXT X G cls ad ad' h h' sz t) ∧ va_F (va_A (wld cls ad h) sz) st t
def QX (X : XT) (G : va_G) (cls : Nat → ClassId) (ad : Nat → Nat) (h : AH) (sz : Nat) (Q : Res → AH → Prop) : String → State → State → Prop := fun E st t =>
  (∃ (h' : AH) (ad' : Nat → Nat), Q (.inr E) h' ∧ EXT X G cls ad ad' h h' sz t) ∧ va_F (va_A (wld cls ad h) sz) st t
/-- a method's contract: from the heap h with these arguments it ends as Q says -/
def AC (mt : MT) (d mc ms : Nat) (as : List Value) (h : AH) (Q : Res → AH → Prop) : Prop :=
  ∀ (X : XT) (l : Launch), l.stackTraces = false → ∀ (G : va_G) (cls : Nat → ClassId) (ad : Nat → Nat) (sz : Nat), wfh h → adOK X ad →
    vx_Met l (mN mt) (wsM mt) (rmM d mc ms) (va_Pc (as.map (cv ad)) (PB X G cls ad h sz)) (QR X G cls ad h sz Q) (QX X G cls ad h sz Q) mc ms (va_A (wld cls ad h) sz)
theorem AC.post {mt : MT} {d mc ms : Nat} {as : List Value} {h : AH} {Q Q' : Res → AH → Prop} (k : AC mt d mc ms as h Q') (hq : ∀ r h2, Q' r h2 → Q r h2) : AC mt d mc ms as h Q := by
  intro X l hl G cls ad sz hw ha p e h1 h2 h3 s m args below h4 h5 h6 h7
  obtain ⟨n, o, a1, a2, a3, a4⟩ := k X l hl G cls ad sz hw ha p e h1 h2 h3 s m args below h4 h5 h6 h7
  refine ⟨n, o, a1, a2, a3, ?_⟩
  rcases a4 with ⟨⟨⟨v, h', ad', b1, b0, b2, b3⟩, b4⟩, b5⟩ | ⟨q, b1, E, ce, L, ⟨⟨h', ad', b2, b3⟩, b4⟩, b5⟩
  · exact Or.inl ⟨⟨⟨v, h', ad', b1, b0, hq _ _ b2, b3⟩, b4⟩, b5⟩
  · exact Or.inr ⟨q, b1, E, ce, L, ⟨⟨h', ad', hq _ _ b2, b3⟩, b4⟩, b5⟩
theorem args_map {ad : Nat → Nat} : ∀ (as : List Value) (i : Nat), lv_args i (as.map (cv ad)) = (lv_args i as).map (cl1 ad)
  | [], _ => rfl
  | v :: as, i => by
    simp only [List.map_cons, lv_args, cv_cat]
    rw [args_map as]
    rfl
theorem sl_len {ad : Nat → Nat} (as : List Value) : (lg_sl (as.map (cv ad))).length = (lg_sl as).length := by
  induction as with
  | nil => rfl
  | cons v as ih =>
    unfold lg_sl at ih ⊢
    simp only [List.map_cons, List.flatMap_cons, List.length_append, ih, cv_cat]
    congr 1
    split <;> rfl
theorem thr_words {mt : MT} {X : XT} {A : Nat → Prop} {args : Array Value} {s : State} (hw : ∀ w, w ∈ lw_tbl → goodWord w = true → w.before args s = true) (hE : EV X A s s.heap) {w : Cond} (h : w ∈ lw_tbl ∧ goodWord w = true ∨ w ∈ tables_1 ∧ isNw w = true) : w.before args s = true := by
  rcases h with ⟨h1, h2⟩ | ⟨h1, h2⟩
  · exact hw w h1 h2
  · refine va_Nw.use ?_ (hE.1 w h1 h2)
    cases w <;> first | rfl | (simp [isNw] at h2)
theorem thr_ot {w : Cond} (h : w ∈ lw_tbl ∧ goodWord w = true ∨ w ∈ tables_1 ∧ isNw w = true) : vx_ot w = true := by
  rcases h with ⟨-, h⟩ | ⟨-, h⟩
  · simp [vx_ot, h]
  · cases w <;> first | rfl | (simp [isNw] at h)
theorem blind_PB {X : XT} {G : va_G} {cls : Nat → ClassId} {ad : Nat → Nat} {h : AH} {sz : Nat} {av : List Value} : FrameBlind (va_Pc av (PB X G cls ad h sz)) := by
  intro a U g mk q
  obtain ⟨q0, q1, q2, q3, q4, q5⟩ := q
  exact ⟨q0, q1, q2, va_K.moved (u := U) (U := U.calling g mk a) (Vm.Alike.refl U.vm) q3, q4, EV.same (U := U) rfl q5⟩
theorem retOK_b {mt : MT} {ins : Instr} {v : Option Value} (hr : retOK mt ins v) : ∀ b, v = some (.ref b) → b ≠ 1030 := by
  intro b e
  rcases hr with ⟨rfl, -⟩ | ⟨x, ty, rfl, -⟩ | ⟨x, rfl, -⟩ | ⟨x, rfl, -⟩ | ⟨x, ty, rfl, -, -, hx, -⟩ <;> first | (cases e; done) | skip
  cases e
  exact hx
theorem kT_ref {ty : FieldType} (h : kT ty = 2) : (∃ n, ty = .object n) ∨ ∃ t, ty = .array t := by
  cases ty <;> simp [kT] at h ⊢
/-- a body that keeps AW keeps the contract -/
theorem AC.of {mt : MT} {d mc ms : Nat} {as : List Value} {h : AH} {Q : Res → AH → Prop} (hty : plainName (mN mt).cls = true) (hH : mH mt = []) (hlen : (lg_sl as).length ≤ mL mt) (k : ∀ X, AW X mt d mc ms 0 (lv_args 0 as) [] h Q) : AC mt d mc ms as h Q := by
  intro X l hst G cls ad sz hwf had
  refine vx_ofW (cc := mB mt) (maxL := mL mt) (ret := mR mt) hty rfl ?_
  intro p e s m args below meth c s₁ B hml ht hv
  obtain ⟨rfl, hsz, hP, hK, hD0, hE⟩ := hv
  subst hsz
  have hts := atoms_spec (ws := wsM mt) B.pre
  have hD := hD0.self (sz := s.heap.size)
  have hl := lv_entry (as.map (cv ad)) (n := mL mt) (by rw [sl_len]; exact hlen)
  rw [lg_entry_eq]
  rw [args_map] at hl
  have C : CX (X.1, X.2.1, X.2.2.1, X.2.2.2.1, false) mt l d (headSpec (wsM mt) (rmM d mc ms)).room p s m (as.map (cv ad)).toArray meth c (va_A (wld cls ad h) s.heap.size) G cls :=
    ⟨B.exec, B.bytes, hml, findClass_of_methodNamed B.named, fun w h1 h2 => hts w (List.mem_cons_of_mem _ (gw_mem h1 h2)), B.notSynchronized, hst, by
      rw [hH]
      cases e : c.exceptionTable.toList with
      | nil => rfl
      | cons x r => exact absurd (ht x (by rw [e]; exact List.mem_cons_self)) id,
     (name_of_methodNamed B.named B.method).1, fun q hq => Or.inr hq, hK, hE, Nat.le_refl _, Nat.le_refl _⟩
  refine k (X.1, X.2.1, X.2.2.1, X.2.2.2.1, false) p l e (headSpec (wsM mt) (rmM d mc ms)).room s m (as.map (cv ad)).toArray below meth c (va_A (wld cls ad h) s.heap.size) G cls _ s.heap [] 0 0 ad _ C ?_ ⟨hP, hD, va_S.rf, hwf, had⟩ (Nat.le_of_eq (Nat.zero_add _)) (Nat.le_of_eq (Nat.zero_add _)) hl
  refine ⟨?_, ?_⟩
  · intro v h' hq ad' H' locs' cells' slots' lsA pc ins q1 q2 D' hc' hs' hd hr
    have hpost : ∀ t : State, t.heap = H' → s.WarmedH t.vm → QR X G cls ad h s.heap.size Q (as.map (cv ad)).toArray s (.returned (v.map (cv ad'))) t := fun t ht _ =>
      ⟨⟨v, h', ad', rfl, retOK_b hr, hq, q1 rfl, q2 rfl, D'.2.2.2.1, D'.2.2.2.2, by rw [ht]; exact D'.1, D'.2.1⟩, D'.2.2.1.F ht⟩
    refine W.widen (k := mc) (n := ms) hc' hs' (vx_ret ?_)
    rcases hr with ⟨rfl, rfl, hr⟩ | ⟨x, ty, rfl, rfl, hr, hn⟩ | ⟨x, rfl, rfl, hr⟩ | ⟨x, rfl, rfl, hr⟩ | ⟨x, ty, rfl, rfl, hr, -, hk⟩
    · exact W.vret B.exec B.bytes (B.returns.trans hr) hpost D'.2.2.1.2.2 hd B.notSynchronized
    · exact W.zret B.exec B.bytes (B.returns.trans hr) hn hpost D'.2.2.1.2.2 hd B.notSynchronized
    · exact W.lret B.exec B.bytes (B.returns.trans hr) hpost D'.2.2.1.2.2 hd B.notSynchronized
    · exact W.dret B.exec B.bytes (B.returns.trans hr) hpost D'.2.2.1.2.2 hd B.notSynchronized
    · exact W.aret B.exec B.bytes (B.returns.trans hr) (kT_ref hk) (Or.inr ⟨_, rfl⟩) hpost D'.2.2.1.2.2 hd B.notSynchronized
  · intro E h' hq ad' H' locs' cells' slots' lsA pc st q1 q2 D' hc' hs' hsz hcat hf8 hl8 ht'
    obtain ⟨ik, ic, names, d0, d3, d4, d7, f1, f2, f3, f4, -⟩ := ht'
    have hnl : names.length ≤ 3 := f3
    refine vx_throw0 B.exec B.bytes hst C.2.2.2.1 f1 f2 (thr_words (mt := mt) C.2.2.2.2.1 hE (f4 _ List.mem_cons_self)) (thr_words (mt := mt) C.2.2.2.2.1 hE (f4 _ (List.mem_cons_of_mem _ List.mem_cons_self))) (fun w q => thr_words (mt := mt) C.2.2.2.2.1 hE (f4 w (List.mem_cons_of_mem _ (List.mem_cons_of_mem _ q))))
      (fun w q => thr_ot (f4 w q)) hE.2.2.2.2.2.2.2.1 hE.2.2.2.2.2.2.2.2.1 D'.2.2.1 hsz d0 d3 d4 d7 (fun x q => absurd (ht x q) id) (by omega) (by omega) hc' hs' B.notSynchronized ?_ D'.2.2.1.2.2 hc' hs'
    intro t hvm hz hk
    have hF : va_F (va_A (wld cls ad h) s.heap.size) s t := ⟨Nat.le_trans D'.2.2.1.1 hz, fun q g1 g2 => (hk q (Nat.lt_of_lt_of_le g1 D'.2.2.1.1)).trans (D'.2.2.1.2.1 q g1 g2)⟩
    exact ⟨⟨h', ad', hq, q1 rfl, q2 rfl, D'.2.2.2.1, D'.2.2.2.2, D'.1.kept (fun k q hq2 => hk _ ((D'.1 k q hq2).lt)), D'.2.1⟩, hF⟩
end
section
/-! rows of AW: ends and calls -/
def CE (mt : MT) (n : Nat) : Prop := (Cond.code (mN mt) (mB mt) (mL mt) (mR mt) ∈ lw_tbl ∧ Cond.initialized (mN mt).cls ∈ lw_tbl) ∧ ((mN mt).cls ≠ "java/lang/invoke/MethodHandle" ∧ (mN mt).cls ≠ "java/lang/invoke/VarHandle" ∧ (parseMethodDescriptor (mN mt).desc).map (fun d => d.parameters.length) = some n) ∧ mL mt ≤ 20
theorem wsM_good {mt : MT} {n : Nat} (h : CE mt n) : GoodIn (lw_tbl.filter goodWord) (wsM mt) := by
  intro w hw
  rcases List.mem_cons.mp hw with rfl | hw
  · exact ⟨gw_mem h.1.1 rfl, Or.inl rfl⟩
  · exact ⟨hw, good_of_word (List.mem_filter.mp hw).2⟩
section RW10
variable {X : XT} {mt : MT} {d kc ks pc : Nat} {ls ls' : List (Nat × Value)} {st : List Value} {h : AH} {Q : Res → AH → Prop}
theorem a_ret_ {v : Option Value} {ins : Instr} (hd : decode (mB mt) pc = .ok (ins, 1)) (hr : retOK mt ins v) (hq : Q (.inl v) h) : AW X mt d kc ks pc ls v.toList h Q := by
  intro p l e R s m args below meth c A G cls Z H locs cells slots ad lsA C F D hc hs2 hA
  have g := F.1 v h hq ad H locs cells slots lsA pc ins (fun _ _ _ => rfl) (fun _ _ q => q) D (by omega) (by omega) hd hr
  cases v <;> exact g
theorem a_ireturn {x : Int32} {ty : FieldType} (hd : decode (mB mt) pc = .ok (.ireturn, 1)) (hr : mR mt = some ty) (hn : narrow ty (.int x) = .int x) (hq : Q (.inl (some (.int x))) h) : AW X mt d kc ks pc ls [.int x] h Q :=
  a_ret_ (v := some (.int x)) hd (Or.inr (Or.inl ⟨x, ty, rfl, rfl, hr, hn⟩)) hq
theorem a_lreturn {x : Int64} (hd : decode (mB mt) pc = .ok (.lreturn, 1)) (hr : mR mt = some .long) (hq : Q (.inl (some (.long x))) h) : AW X mt d kc ks pc ls [.long x] h Q :=
  a_ret_ (v := some (.long x)) hd (Or.inr (Or.inr (Or.inl ⟨x, rfl, rfl, hr⟩))) hq
theorem a_dreturn {x : UInt64} (hd : decode (mB mt) pc = .ok (.dreturn, 1)) (hr : mR mt = some .double) (hq : Q (.inl (some (.double x))) h) : AW X mt d kc ks pc ls [.double x] h Q :=
  a_ret_ (v := some (.double x)) hd (Or.inr (Or.inr (Or.inr (Or.inl ⟨x, rfl, rfl, hr⟩)))) hq
theorem a_areturn {b : Nat} {ty : FieldType} (hd : decode (mB mt) pc = .ok (.areturn, 1)) (hr : mR mt = some ty) (hk : kT ty = 2) (hb : b ≠ 1030) (hq : Q (.inl (some (.ref b))) h) : AW X mt d kc ks pc ls [.ref b] h Q :=
  a_ret_ (v := some (.ref b)) hd (Or.inr (Or.inr (Or.inr (Or.inr ⟨b, ty, rfl, rfl, hr, hb, hk⟩)))) hq
theorem a_return (hd : decode (mB mt) pc = .ok (.return_, 1)) (hr : mR mt = none) (hq : Q (.inl none) h) : AW X mt d kc ks pc ls [] h Q :=
  a_ret_ (v := none) hd (Or.inl ⟨rfl, rfl, hr⟩) hq
theorem a_throw {E : String} (ht : thrOK mt pc E) (h8 : 8 ≤ d) (hst : (st.map fun v => v.category).sum ≤ 8) (hq : Q (.inr E) h) : AW X mt d (kc + 1) (ks + 6) pc ls st h Q := by
  intro p l e R s m args below meth c A G cls Z H locs cells slots ad lsA C F D hc hs2 hA
  obtain ⟨-, -, hml, -, -, -, -, -, -, -, -, -, hd1, hd2⟩ := id C
  refine F.2 E h hq ad H locs cells slots lsA pc _ (fun _ _ _ => rfl) (fun _ _ q => q) D (by omega) (by omega) (hA.1.trans hml.symm) ?_ (by omega) (by omega) ht
  rw [List.map_map, show ((fun v : Value => v.category) ∘ cv ad) = (fun v => v.category) from funext (cv_cat ad)]
  exact hst
/-- behind a call that returns -/
theorem w_after {p : Program} {l : Launch} {e : Env} {R : Room} {s : State} {m : MethodId} {args : Array Value} {below : List Frame} {meth : Method} {c : Code} {A : Nat → Prop} {G : va_G} {cls : Nat → ClassId} {Z : State → Prop} {H : Heap} {locs : List Loc} {cells slots mc ms : Nat} {ad : Nat → Nat} {lsA : Array Slot} {st0 : List Value} {a : Array Value} {Q' : Res → AH → Prop}
    (hr : vx_Run p l e R s m args below meth c H locs cells slots mc ms (F0 m pc lsA st0) (st.map (cv ad)) (QR X G cls ad h H.size Q' a) (QX X G cls ad h H.size Q') (va_A (wld cls ad h) H.size))
    (C : CX X mt l d R p s m args meth c A G cls) (F : FIN X mt p l e R s m args below meth c A G cls Z (hN h) ad Q) (D : WD X A G cls s h ad H locs) (hc : cells + (kc + mc) ≤ R.cells) (hs2 : slots + (ks + ms) ≤ R.slots) (hA : lv_has lsA (mL mt) (ls.map (cl1 ad)))
    (hnt : ∀ E h', ¬ Q' (.inr E) h') (hok : (∀ v h', Q' (.inl v) h' → hN h' = hN h) ∨ ((∀ q ∈ ls, okd (hN h) q.2) ∧ ∀ v ∈ st, okd (hN h) v)) (kk : ∀ v h', Q' (.inl v) h' → AW X mt d kc ks (pc + 3) ls (v.toList ++ st) h' Q) :
    W p l e R s m args below meth c H locs cells slots Z (F0 m pc lsA st0) := by
  intro T hT Xs
  have hFA : ∀ q, va_A (wld cls ad h) H.size q → A q := fun q hq => by
    rcases hq with ⟨k, e9, hq⟩ | hq
    · exact D.2.1.2 k _ hq
    · exact C.2.2.2.2.2.2.2.2.2.1 q (Nat.le_trans D.2.2.1.1 hq)
  rcases hr T hT Xs with ⟨v, st₀, t, T', L, h0, X', hL, e1, e2, ⟨⟨v', h', ad', hv, -, hq, x1, x2, x3, x4, x5, x6⟩, hF⟩, go⟩ | ⟨q, st₀, t, T', L, E, ce, h0, X', hL, e1, e2, ⟨⟨h', ad', hq, -⟩, -⟩, -⟩
  · cases hv
    obtain ⟨k1, k2, k3⟩ := vx_keep (A0 := A) (A1 := va_A (wld cls ad h) H.size) h0 e1 D.2.2.1 (fun q _ z => hFA q z) hFA hL hF
    have hls : ls.map (cl1 ad') = ls.map (cl1 ad) ∧ st.map (cv ad') = st.map (cv ad) := by
      rcases hok with hok | ⟨o1, o2⟩
      · have hn := hok _ _ hq
        have he : ad' = ad := funext fun a => x1 a (by rw [hn]; exact Classical.em _)
        rw [he]; exact ⟨rfl, rfl⟩
      · have hext : ∀ a, (prN (hN h) a ∨ ext a) → ad' a = ad a := fun a ha => x1 a (ha.imp id (fun z => ext_no x3.1 z))
        exact ⟨map_okdl hext o1, map_okd hext o2⟩
    have g := kk v' h' hq p l e R s m args below meth c A G cls Z T'.heap (locs ++ L) (cells + mc) (slots + ms) ad' lsA C (F.up (fun _ => x2) (fun _ => x1)) ⟨by rw [e1]; exact x5, x6.weaken (fun _ q _ z => hFA q.1 z), k3, x3, x4⟩ (by omega) (by omega) (by rw [hls.1]; exact hA)
    have e9 : (v'.toList ++ st).map (cv ad') = (v'.map (cv ad')).toList ++ st.map (cv ad) := by
      rw [List.map_append, hls.2]
      cases v' <;> rfl
    rw [e9] at g
    obtain ⟨t2, a1, b1⟩ := g T' rfl X'
    exact ⟨t2, go t2 a1, b1⟩
  · exact absurd hq (hnt E h')
theorem pre_call {p : Program} {l : Launch} {R : Room} {s : State} {m : MethodId} {args : Array Value} {meth : Method} {c : Code} {A : Nat → Prop} {G : va_G} {cls : Nat → ClassId} {H : Heap} {locs : List Loc} {ad : Nat → Nat} (C : CX X mt l d R p s m args meth c A G cls) (D : WD X A G cls s h ad H locs) (av : List Value) : FrameBlind (va_Pc av (PB X G cls ad h H.size)) ∧ ∀ U : State, U.heap = H → s.WarmedH U.vm → va_Pc av (PB X G cls ad h H.size) av.toArray U := by
  refine ⟨blind_PB, fun U hU hW => ⟨rfl, by rw [hU], by rw [hU]; exact D.1, va_K.moved hW.alike C.2.2.2.2.2.2.2.2.2.2.1, D.2.1.weaken (fun _ _ _ _ => trivial), ?_⟩⟩
  refine EV.call C.2.2.2.2.2.2.2.2.2.2.2.1 hW hU D.2.2.1 (fun q hq => ?_)
  rcases hq with ⟨k, e9, hq⟩ | hq
  · exact D.2.1.2 k _ hq
  · exact C.2.2.2.2.2.2.2.2.2.1 q (Nat.le_trans D.2.2.1.1 hq)
theorem cat_rest {ad : Nat → Nat} (hst : (st.map fun v => v.category).sum ≤ 8) : ((st.map (cv ad)).map fun v => v.category).sum ≤ 8 := by
  rw [List.map_map, show ((fun v : Value => v.category) ∘ cv ad) = (fun v => v.category) from funext (cv_cat ad)]
  exact hst
/-- invokestatic -/
theorem a_callS {mt' : MT} {idx n mc ms : Nat} {as stk : List Value} {Q' : Res → AH → Prop} (hd : decode (mB mt) pc = .ok (.invokestatic idx, 3)) (hl : Cond.methodLink (mN mt).cls idx (mN mt') ∈ lw_tbl ∧ Cond.static (mN mt') ∈ lw_tbl) (hce : CE mt' n) (hc' : AC mt' d mc ms as h Q') (hn : as.length = n) (hstk : stk = as.reverse ++ st) (hst : (st.map fun v => v.category).sum ≤ 8)
    (hnt : ∀ E h', ¬ Q' (.inr E) h') (hok : (∀ v h', Q' (.inl v) h' → hN h' = hN h) ∨ ((∀ q ∈ ls, okd (hN h) q.2) ∧ ∀ v ∈ st, okd (hN h) v)) (kk : ∀ v h', Q' (.inl v) h' → AW X mt (d + 1) kc ks (pc + 3) ls (v.toList ++ st) h' Q) : AW X mt (d + 1) (kc + mc) (ks + ms) pc ls stk h Q := by
  subst hstk
  intro p l e R s m args below meth c A G cls Z H locs cells slots ad lsA C F D hc hs2 hA
  obtain ⟨hx, hb, hml, hown, hw, -, hls, -, -, -, hK, -, hd1, hd2⟩ := id C
  have ht : ∀ w ∈ lw_tbl.filter goodWord, w.before args s = true := fun w q => hw w (List.mem_filter.mp q).1 (List.mem_filter.mp q).2
  have cw : CallB R s args (mN mt).cls idx (mN mt') (mB mt') (mL mt') (mR mt') (wsM mt') (rmM d mc ms) mc ms n := callB_of n ht (wsM_good hce) rfl rfl rfl (hw _ hce.1.2 rfl) (hw _ hl.1 rfl) hce.2.1 ⟨by show d + 1 ≤ _; exact hd1, by show 8 + (mL mt' + 11) + 40 * d ≤ _; have := hce.2.2; omega⟩
  refine w_after (st := st) (mc := mc) (ms := ms) (Q' := Q') (a := (as.map (cv ad)).toArray) ?_ C F D hc hs2 hA hnt hok kk
  exact vx_runS (As := as.map (cv ad)) (rest := st.map (cv ad)) ⟨hx, hb, hml, hown, ht⟩ (hc' X l hls G cls ad H.size D.2.2.2.1 D.2.2.2.2) ⟨cw, hw _ hl.2 rfl⟩ (pre_call C D _) rfl (by rw [List.length_map]; exact hn) (hA.1) (by simp) (lv_room (cat_rest hst)) hd ⟨by omega, by omega⟩
theorem a_callSN {mt' : MT} {host : String} {idx n mc ms : Nat} {as stk : List Value} {Q' : Res → AH → Prop} (hd : decode (mB mt) pc = .ok (.invokestatic idx, 3)) (hl : Cond.methodLinkNest (mN mt).cls idx (mN mt') host ∈ tables_1 ∧ Cond.static (mN mt') ∈ lw_tbl) (hce : CE mt' n) (hc' : AC mt' d mc ms as h Q') (hn : as.length = n) (hstk : stk = as.reverse ++ st) (hst : (st.map fun v => v.category).sum ≤ 8)
    (hnt : ∀ E h', ¬ Q' (.inr E) h') (hok : (∀ v h', Q' (.inl v) h' → hN h' = hN h) ∨ ((∀ q ∈ ls, okd (hN h) q.2) ∧ ∀ v ∈ st, okd (hN h) v)) (kk : ∀ v h', Q' (.inl v) h' → AW X mt (d + 1) kc ks (pc + 3) ls (v.toList ++ st) h' Q) : AW X mt (d + 1) (kc + mc) (ks + ms) pc ls stk h Q := by
  subst hstk
  intro p l e R s m args below meth c A G cls Z H locs cells slots ad lsA C F D hc hs2 hA
  obtain ⟨hx, hb, hml, hown, hw, -, hls, -, -, -, hK, hE, hd1, hd2⟩ := id C
  have ht : ∀ w ∈ lw_tbl.filter goodWord, w.before args s = true := fun w q => hw w (List.mem_filter.mp q).1 (List.mem_filter.mp q).2
  have cw : va_CN R s args (mN mt).cls idx (mN mt') host (mB mt') (mL mt') (mR mt') (wsM mt') (rmM d mc ms) mc ms n := va_cnB n ht (wsM_good hce) rfl rfl rfl (hE.1 _ hl.1 rfl) (hw _ hce.1.2 rfl) hce.2.1 ⟨by show d + 1 ≤ _; exact hd1, by show 8 + (mL mt' + 11) + 40 * d ≤ _; have := hce.2.2; omega⟩
  refine w_after (st := st) (mc := mc) (ms := ms) (Q' := Q') (a := (as.map (cv ad)).toArray) ?_ C F D hc hs2 hA hnt hok kk
  exact vx_runSN (As := as.map (cv ad)) (rest := st.map (cv ad)) ⟨hx, hb, hml, hown, ht⟩ (hc' X l hls G cls ad H.size D.2.2.2.1 D.2.2.2.2) ⟨cw, hw _ hl.2 rfl, trivial⟩ (pre_call C D _) rfl (by rw [List.length_map]; exact hn) (hA.1) (by simp) (lv_room (cat_rest hst)) hd ⟨by omega, by omega⟩
/-- invokevirtual -/
theorem g_callV {mt' : MT} {idx n mc ms b ci : Nat} {as stk : List Value} {Q' : Res → AH → Prop} (hd : decode (mB mt) pc = .ok (.invokevirtual idx, 3)) (hl : Cond.methodLink (mN mt).cls idx (mN mt') ∈ lw_tbl ∧ Cond.instanceMethod (mN mt') ∈ lw_tbl ∧ Cond.selects (cR ci) (mN mt') (mN mt') ∈ lw_tbl) (hce : CE mt' n) (hs : kdA b = some (.inl ci)) (hb : prN (hN h) b) (hc' : AC mt' d mc ms (.ref b :: as) h Q') (hn : as.length = n) (hstk : stk = as.reverse ++ .ref b :: st) (hst : (st.map fun v => v.category).sum ≤ 8)
    (hnt : ∀ E h', ¬ Q' (.inr E) h') (hok : (∀ v h', Q' (.inl v) h' → hN h' = hN h) ∨ ((∀ q ∈ ls, okd (hN h) q.2) ∧ ∀ v ∈ st, okd (hN h) v)) (kk : ∀ v h', Q' (.inl v) h' → AW X mt (d + 1) kc ks (pc + 3) ls (v.toList ++ st) h' Q) : AW X mt (d + 1) (kc + mc) (ks + ms) pc ls stk h Q := by
  subst hstk
  intro p l e R s m args below meth c A G cls Z H locs cells slots ad lsA C F D hc hs2 hA
  obtain ⟨hx, hb2, hml, hown, hw, -, hls, -, -, -, hK, -, hd1, hd2⟩ := id C
  have ht : ∀ w ∈ lw_tbl.filter goodWord, w.before args s = true := fun w q => hw w (List.mem_filter.mp q).1 (List.mem_filter.mp q).2
  have cw : CallB R s args (mN mt).cls idx (mN mt') (mB mt') (mL mt') (mR mt') (wsM mt') (rmM d mc ms) mc ms n := callB_of n ht (wsM_good hce) rfl rfl rfl (hw _ hce.1.2 rfl) (hw _ hl.1 rfl) hce.2.1 ⟨by show d + 1 ≤ _; exact hd1, by show 8 + (mL mt' + 11) + 40 * d ≤ _; have := hce.2.2; omega⟩
  obtain ⟨ib, hib, hgb⟩ := wld_at (cls := cls) (ad := ad) hb
  have hrecv := va_recv (q := (cR ci, cT ci, nF ci)) hK D.1 (vwCl_at (kdA_ci hs)) (by rw [hgb, ce_obj hs])
  obtain ⟨q1, q2⟩ := pre_call C D ((Value.ref b :: as).map (cv ad))
  refine w_after (st := st) (mc := mc) (ms := ms) (Q' := Q') (a := ((Value.ref b :: as).map (cv ad)).toArray) ?_ C F D hc hs2 hA hnt hok kk
  exact vx_runV (C := cR ci) (b := ad b) (As := as.map (cv ad)) (rest := st.map (cv ad)) ⟨hx, hb2, hml, hown, ht⟩ (hc' X l hls G cls ad H.size D.2.2.2.1 D.2.2.2.2) ⟨cw, hw _ hl.2.1 rfl, hw _ hl.2.2 rfl⟩ ⟨q1, hrecv, q2⟩ rfl (by rw [List.length_map]; exact hn) (hA.1) (by simp [cv]) (lv_room (cat_rest hst)) hd ⟨by omega, by omega⟩
theorem a_callV {mt' : MT} {idx n mc ms b ci : Nat} {as stk : List Value} {Q' : Res → AH → Prop} (hd : decode (mB mt) pc = .ok (.invokevirtual idx, 3)) (hl : Cond.methodLink (mN mt).cls idx (mN mt') ∈ lw_tbl ∧ Cond.instanceMethod (mN mt') ∈ lw_tbl ∧ Cond.selects (cR ci) (mN mt') (mN mt') ∈ lw_tbl) (hce : CE mt' n) (hs : shK b = some (.inl ci)) (hb : b < hN h) (hc' : AC mt' d mc ms (.ref b :: as) h Q') (hn : as.length = n) (hstk : stk = as.reverse ++ .ref b :: st) (hst : (st.map fun v => v.category).sum ≤ 8)
    (hnt : ∀ E h', ¬ Q' (.inr E) h') (hok : (∀ v h', Q' (.inl v) h' → hN h' = hN h) ∨ ((∀ q ∈ ls, okd (hN h) q.2) ∧ ∀ v ∈ st, okd (hN h) v)) (kk : ∀ v h', Q' (.inl v) h' → AW X mt (d + 1) kc ks (pc + 3) ls (v.toList ++ st) h' Q) : AW X mt (d + 1) (kc + mc) (ks + ms) pc ls stk h Q := g_callV hd hl hce (kdA_sh hs) (pr_sh hs hb) hc' hn hstk hst hnt hok kk
theorem g_callVN {mt' : MT} {host : String} {idx n mc ms b ci : Nat} {as stk : List Value} {Q' : Res → AH → Prop} (hd : decode (mB mt) pc = .ok (.invokevirtual idx, 3)) (hl : Cond.methodLinkNest (mN mt).cls idx (mN mt') host ∈ tables_1 ∧ Cond.instanceMethod (mN mt') ∈ lw_tbl ∧ Cond.selects (cR ci) (mN mt') (mN mt') ∈ lw_tbl) (hce : CE mt' n) (hs : kdA b = some (.inl ci)) (hb : prN (hN h) b) (hc' : AC mt' d mc ms (.ref b :: as) h Q') (hn : as.length = n) (hstk : stk = as.reverse ++ .ref b :: st) (hst : (st.map fun v => v.category).sum ≤ 8)
    (hnt : ∀ E h', ¬ Q' (.inr E) h') (hok : (∀ v h', Q' (.inl v) h' → hN h' = hN h) ∨ ((∀ q ∈ ls, okd (hN h) q.2) ∧ ∀ v ∈ st, okd (hN h) v)) (kk : ∀ v h', Q' (.inl v) h' → AW X mt (d + 1) kc ks (pc + 3) ls (v.toList ++ st) h' Q) : AW X mt (d + 1) (kc + mc) (ks + ms) pc ls stk h Q := by
  subst hstk
  intro p l e R s m args below meth c A G cls Z H locs cells slots ad lsA C F D hc hs2 hA
  obtain ⟨hx, hb2, hml, hown, hw, -, hls, -, -, -, hK, hE, hd1, hd2⟩ := id C
  have ht : ∀ w ∈ lw_tbl.filter goodWord, w.before args s = true := fun w q => hw w (List.mem_filter.mp q).1 (List.mem_filter.mp q).2
  have cw : va_CN R s args (mN mt).cls idx (mN mt') host (mB mt') (mL mt') (mR mt') (wsM mt') (rmM d mc ms) mc ms n := va_cnB n ht (wsM_good hce) rfl rfl rfl (hE.1 _ hl.1 rfl) (hw _ hce.1.2 rfl) hce.2.1 ⟨by show d + 1 ≤ _; exact hd1, by show 8 + (mL mt' + 11) + 40 * d ≤ _; have := hce.2.2; omega⟩
  obtain ⟨ib, hib, hgb⟩ := wld_at (cls := cls) (ad := ad) hb
  have hrecv := va_recv (q := (cR ci, cT ci, nF ci)) hK D.1 (vwCl_at (kdA_ci hs)) (by rw [hgb, ce_obj hs])
  obtain ⟨q1, q2⟩ := pre_call C D ((Value.ref b :: as).map (cv ad))
  refine w_after (st := st) (mc := mc) (ms := ms) (Q' := Q') (a := ((Value.ref b :: as).map (cv ad)).toArray) ?_ C F D hc hs2 hA hnt hok kk
  exact vx_runVN (C := cR ci) (b := ad b) (As := as.map (cv ad)) (rest := st.map (cv ad)) ⟨hx, hb2, hml, hown, ht⟩ (hc' X l hls G cls ad H.size D.2.2.2.1 D.2.2.2.2) ⟨cw, hw _ hl.2.1 rfl, hw _ hl.2.2 rfl⟩ ⟨q1, hrecv, q2⟩ rfl (by rw [List.length_map]; exact hn) (hA.1) (by simp [cv]) (lv_room (cat_rest hst)) hd ⟨by omega, by omega⟩
theorem a_callVN {mt' : MT} {host : String} {idx n mc ms b ci : Nat} {as stk : List Value} {Q' : Res → AH → Prop} (hd : decode (mB mt) pc = .ok (.invokevirtual idx, 3)) (hl : Cond.methodLinkNest (mN mt).cls idx (mN mt') host ∈ tables_1 ∧ Cond.instanceMethod (mN mt') ∈ lw_tbl ∧ Cond.selects (cR ci) (mN mt') (mN mt') ∈ lw_tbl) (hce : CE mt' n) (hs : shK b = some (.inl ci)) (hb : b < hN h) (hc' : AC mt' d mc ms (.ref b :: as) h Q') (hn : as.length = n) (hstk : stk = as.reverse ++ .ref b :: st) (hst : (st.map fun v => v.category).sum ≤ 8)
    (hnt : ∀ E h', ¬ Q' (.inr E) h') (hok : (∀ v h', Q' (.inl v) h' → hN h' = hN h) ∨ ((∀ q ∈ ls, okd (hN h) q.2) ∧ ∀ v ∈ st, okd (hN h) v)) (kk : ∀ v h', Q' (.inl v) h' → AW X mt (d + 1) kc ks (pc + 3) ls (v.toList ++ st) h' Q) : AW X mt (d + 1) (kc + mc) (ks + ms) pc ls stk h Q := g_callVN hd hl hce (kdA_sh hs) (pr_sh hs hb) hc' hn hstk hst hnt hok kk
/-- constructors -/
theorem a_callI {mt' : MT} {idx n mc ms b : Nat} {as stk : List Value} {Q' : Res → AH → Prop} (hd : decode (mB mt) pc = .ok (.invokespecial idx, 3)) (hl : Cond.methodLink (mN mt).cls idx (mN mt') ∈ lw_tbl ∧ Cond.instanceMethod (mN mt') ∈ lw_tbl) (hnm : (mN mt').name = "<init>") (hret : mR mt' = none) (hce : CE mt' n) (hc' : AC mt' d mc ms (.ref b :: as) h Q') (hn : as.length = n) (hstk : stk = as.reverse ++ .ref b :: st) (hst : (st.map fun v => v.category).sum ≤ 8)
    (hnt : ∀ E h', ¬ Q' (.inr E) h') (hok : (∀ v h', Q' (.inl v) h' → hN h' = hN h) ∨ ((∀ q ∈ ls, okd (hN h) q.2) ∧ ∀ v ∈ st, okd (hN h) v)) (kk : ∀ v h', Q' (.inl v) h' → AW X mt (d + 1) kc ks (pc + 3) ls (v.toList ++ st) h' Q) : AW X mt (d + 1) (kc + mc) (ks + ms) pc ls stk h Q := by
  subst hstk
  intro p l e R s m args below meth c A G cls Z H locs cells slots ad lsA C F D hc hs2 hA
  obtain ⟨hx, hb2, hml, hown, hw, -, hls, -, -, -, hK, -, hd1, hd2⟩ := id C
  have ht : ∀ w ∈ lw_tbl.filter goodWord, w.before args s = true := fun w q => hw w (List.mem_filter.mp q).1 (List.mem_filter.mp q).2
  have cw : CallB R s args (mN mt).cls idx (mN mt') (mB mt') (mL mt') none (wsM mt') (rmM d mc ms) mc ms n := callB_of n ht (wsM_good hce) (by rw [← hret]; rfl) rfl rfl (hw _ hce.1.2 rfl) (hw _ hl.1 rfl) hce.2.1 ⟨by show d + 1 ≤ _; exact hd1, by show 8 + (mL mt' + 11) + 40 * d ≤ _; have := hce.2.2; omega⟩
  refine w_after (st := st) (mc := mc) (ms := ms) (Q' := Q') (a := ((Value.ref b :: as).map (cv ad)).toArray) ?_ C F D hc hs2 hA hnt hok kk
  exact vx_runI (b := ad b) (As := as.map (cv ad)) (rest := st.map (cv ad)) ⟨hx, hb2, hml, hown, ht⟩ (hc' X l hls G cls ad H.size D.2.2.2.1 D.2.2.2.2) ⟨cw, hnm, hw _ hl.2 rfl⟩ (pre_call C D _) rfl (by rw [List.length_map]; exact hn) (hA.1) (by simp [cv]) (lv_room (cat_rest hst)) hd ⟨by omega, by omega⟩
theorem a_callIN {mt' : MT} {host : String} {idx n mc ms b : Nat} {as stk : List Value} {Q' : Res → AH → Prop} (hd : decode (mB mt) pc = .ok (.invokespecial idx, 3)) (hl : Cond.methodLinkNest (mN mt).cls idx (mN mt') host ∈ tables_1 ∧ Cond.instanceMethod (mN mt') ∈ lw_tbl) (hnm : (mN mt').name = "<init>") (hret : mR mt' = none) (hce : CE mt' n) (hc' : AC mt' d mc ms (.ref b :: as) h Q') (hn : as.length = n) (hstk : stk = as.reverse ++ .ref b :: st) (hst : (st.map fun v => v.category).sum ≤ 8)
    (hnt : ∀ E h', ¬ Q' (.inr E) h') (hok : (∀ v h', Q' (.inl v) h' → hN h' = hN h) ∨ ((∀ q ∈ ls, okd (hN h) q.2) ∧ ∀ v ∈ st, okd (hN h) v)) (kk : ∀ v h', Q' (.inl v) h' → AW X mt (d + 1) kc ks (pc + 3) ls (v.toList ++ st) h' Q) : AW X mt (d + 1) (kc + mc) (ks + ms) pc ls stk h Q := by
  subst hstk
  intro p l e R s m args below meth c A G cls Z H locs cells slots ad lsA C F D hc hs2 hA
  obtain ⟨hx, hb2, hml, hown, hw, -, hls, -, -, -, hK, hE, hd1, hd2⟩ := id C
  have ht : ∀ w ∈ lw_tbl.filter goodWord, w.before args s = true := fun w q => hw w (List.mem_filter.mp q).1 (List.mem_filter.mp q).2
  have cw : va_CN R s args (mN mt).cls idx (mN mt') host (mB mt') (mL mt') none (wsM mt') (rmM d mc ms) mc ms n := va_cnB n ht (wsM_good hce) (by rw [← hret]; rfl) rfl rfl (hE.1 _ hl.1 rfl) (hw _ hce.1.2 rfl) hce.2.1 ⟨by show d + 1 ≤ _; exact hd1, by show 8 + (mL mt' + 11) + 40 * d ≤ _; have := hce.2.2; omega⟩
  refine w_after (st := st) (mc := mc) (ms := ms) (Q' := Q') (a := ((Value.ref b :: as).map (cv ad)).toArray) ?_ C F D hc hs2 hA hnt hok kk
  exact vx_runIN (b := ad b) (As := as.map (cv ad)) (rest := st.map (cv ad)) ⟨hx, hb2, hml, hown, ht⟩ (hc' X l hls G cls ad H.size D.2.2.2.1 D.2.2.2.2) ⟨cw, hnm, hw _ hl.2 rfl⟩ (pre_call C D _) rfl (by rw [List.length_map]; exact hn) (hA.1) (by simp [cv]) (lv_room (cat_rest hst)) hd ⟨by omega, by omega⟩
end RW10
end
