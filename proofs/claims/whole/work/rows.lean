section
-- ===== PART A: goes FIRST, ahead of the names: the tables' words, and 'selects' of the private methods out of them =====
/-- a private method of a class that the tables say can be made, by its rows of tables_1 -/
def lw_okq (q : MethodName × Nat) : Prop := (q.1.cls ≠ "java/lang/invoke/MethodHandle" ∧ q.1.cls ≠ "java/lang/invoke/VarHandle") ∧ Cond.instantiable q.1.cls q.2 ∈ tables_1 ∧ Cond.privateMethod q.1 ∈ tables_1 ∧ Cond.instanceMethod q.1 ∈ tables_1
theorem lw_p0 : lw_okq (⟨"LetterCuts$Sheet", "startAnew", "(II)V"⟩, 10) := ⟨⟨by decide +kernel, by decide +kernel⟩, List.mem_of_getElem? (i := 31) (by decide +kernel), List.mem_of_getElem? (i := 37) (by decide +kernel), List.mem_of_getElem? (i := 38) (by decide +kernel)⟩
theorem lw_p1 : lw_okq (⟨"LetterCuts", "putWord", "(I)V"⟩, 10) := ⟨⟨by decide +kernel, by decide +kernel⟩, List.mem_of_getElem? (i := 23) (by decide +kernel), List.mem_of_getElem? (i := 231) (by decide +kernel), List.mem_of_getElem? (i := 232) (by decide +kernel)⟩
theorem lw_p2 : lw_okq (⟨"LetterCuts$Matching", "clear", "()V"⟩, 4) := ⟨⟨by decide +kernel, by decide +kernel⟩, List.mem_of_getElem? (i := 133) (by decide +kernel), List.mem_of_getElem? (i := 243) (by decide +kernel), List.mem_of_getElem? (i := 244) (by decide +kernel)⟩
theorem lw_p3 : lw_okq (⟨"LetterCuts$Sheet", "messageAt", "(I)I"⟩, 10) := ⟨⟨by decide +kernel, by decide +kernel⟩, List.mem_of_getElem? (i := 31) (by decide +kernel), List.mem_of_getElem? (i := 248) (by decide +kernel), List.mem_of_getElem? (i := 249) (by decide +kernel)⟩
theorem lw_p4 : lw_okq (⟨"LetterCuts$Sheet", "hasMessageLetter", "(I)Z"⟩, 10) := ⟨⟨by decide +kernel, by decide +kernel⟩, List.mem_of_getElem? (i := 31) (by decide +kernel), List.mem_of_getElem? (i := 252) (by decide +kernel), List.mem_of_getElem? (i := 253) (by decide +kernel)⟩
theorem lw_p5 : lw_okq (⟨"LetterCuts$Sheet", "cellsWith", "(I)J"⟩, 10) := ⟨⟨by decide +kernel, by decide +kernel⟩, List.mem_of_getElem? (i := 31) (by decide +kernel), List.mem_of_getElem? (i := 256) (by decide +kernel), List.mem_of_getElem? (i := 257) (by decide +kernel)⟩
theorem lw_p6 : lw_okq (⟨"LetterCuts$Sheet", "letterAt", "(I)I"⟩, 10) := ⟨⟨by decide +kernel, by decide +kernel⟩, List.mem_of_getElem? (i := 31) (by decide +kernel), List.mem_of_getElem? (i := 260) (by decide +kernel), List.mem_of_getElem? (i := 261) (by decide +kernel)⟩
theorem lw_p7 : lw_okq (⟨"LetterCuts$Sheet", "hasSpot", "(I)Z"⟩, 10) := ⟨⟨by decide +kernel, by decide +kernel⟩, List.mem_of_getElem? (i := 31) (by decide +kernel), List.mem_of_getElem? (i := 264) (by decide +kernel), List.mem_of_getElem? (i := 265) (by decide +kernel)⟩
theorem lw_p8 : lw_okq (⟨"LetterCuts$Sheet", "canUse", "(I)Z"⟩, 10) := ⟨⟨by decide +kernel, by decide +kernel⟩, List.mem_of_getElem? (i := 31) (by decide +kernel), List.mem_of_getElem? (i := 274) (by decide +kernel), List.mem_of_getElem? (i := 275) (by decide +kernel)⟩
theorem lw_p9 : lw_okq (⟨"LetterCuts$Sheet", "cellOf", "(I)I"⟩, 10) := ⟨⟨by decide +kernel, by decide +kernel⟩, List.mem_of_getElem? (i := 31) (by decide +kernel), List.mem_of_getElem? (i := 278) (by decide +kernel), List.mem_of_getElem? (i := 279) (by decide +kernel)⟩
theorem lw_p10 : lw_okq (⟨"LetterCuts$Sheet", "spotBehind", "(I)I"⟩, 10) := ⟨⟨by decide +kernel, by decide +kernel⟩, List.mem_of_getElem? (i := 31) (by decide +kernel), List.mem_of_getElem? (i := 285) (by decide +kernel), List.mem_of_getElem? (i := 286) (by decide +kernel)⟩
theorem lw_p11 : lw_okq (⟨"LetterCuts$Sheet", "isThere", "(I)Z"⟩, 10) := ⟨⟨by decide +kernel, by decide +kernel⟩, List.mem_of_getElem? (i := 31) (by decide +kernel), List.mem_of_getElem? (i := 289) (by decide +kernel), List.mem_of_getElem? (i := 290) (by decide +kernel)⟩
theorem lw_p12 : lw_okq (⟨"LetterCuts$Sheet", "sizeAt", "(I)I"⟩, 10) := ⟨⟨by decide +kernel, by decide +kernel⟩, List.mem_of_getElem? (i := 31) (by decide +kernel), List.mem_of_getElem? (i := 293) (by decide +kernel), List.mem_of_getElem? (i := 294) (by decide +kernel)⟩
theorem lw_p13 : lw_okq (⟨"LetterCuts$Matching", "give", "(J)Z"⟩, 4) := ⟨⟨by decide +kernel, by decide +kernel⟩, List.mem_of_getElem? (i := 133) (by decide +kernel), List.mem_of_getElem? (i := 297) (by decide +kernel), List.mem_of_getElem? (i := 298) (by decide +kernel)⟩
theorem lw_p14 : lw_okq (⟨"LetterCuts$Matching", "findCell", "(II)Z"⟩, 4) := ⟨⟨by decide +kernel, by decide +kernel⟩, List.mem_of_getElem? (i := 133) (by decide +kernel), List.mem_of_getElem? (i := 301) (by decide +kernel), List.mem_of_getElem? (i := 302) (by decide +kernel)⟩
theorem lw_p15 : lw_okq (⟨"LetterCuts$Matching", "canMove", "(II)Z"⟩, 4) := ⟨⟨by decide +kernel, by decide +kernel⟩, List.mem_of_getElem? (i := 133) (by decide +kernel), List.mem_of_getElem? (i := 306) (by decide +kernel), List.mem_of_getElem? (i := 307) (by decide +kernel)⟩
def lw_privs_1 : List (MethodName × Nat) := [(⟨"LetterCuts$Sheet", "startAnew", "(II)V"⟩, 10), (⟨"LetterCuts", "putWord", "(I)V"⟩, 10), (⟨"LetterCuts$Matching", "clear", "()V"⟩, 4), (⟨"LetterCuts$Sheet", "messageAt", "(I)I"⟩, 10), (⟨"LetterCuts$Sheet", "hasMessageLetter", "(I)Z"⟩, 10), (⟨"LetterCuts$Sheet", "cellsWith", "(I)J"⟩, 10), (⟨"LetterCuts$Sheet", "letterAt", "(I)I"⟩, 10), (⟨"LetterCuts$Sheet", "hasSpot", "(I)Z"⟩, 10), (⟨"LetterCuts$Sheet", "canUse", "(I)Z"⟩, 10), (⟨"LetterCuts$Sheet", "cellOf", "(I)I"⟩, 10), (⟨"LetterCuts$Sheet", "spotBehind", "(I)I"⟩, 10), (⟨"LetterCuts$Sheet", "isThere", "(I)Z"⟩, 10), (⟨"LetterCuts$Sheet", "sizeAt", "(I)I"⟩, 10), (⟨"LetterCuts$Matching", "give", "(J)Z"⟩, 4), (⟨"LetterCuts$Matching", "findCell", "(II)Z"⟩, 4), (⟨"LetterCuts$Matching", "canMove", "(II)Z"⟩, 4)]
theorem lw_r1 : ∀ q ∈ lw_privs_1, lw_okq q := List.forall_mem_cons.mpr ⟨lw_p0, List.forall_mem_cons.mpr ⟨lw_p1, List.forall_mem_cons.mpr ⟨lw_p2, List.forall_mem_cons.mpr ⟨lw_p3, List.forall_mem_cons.mpr ⟨lw_p4, List.forall_mem_cons.mpr ⟨lw_p5, List.forall_mem_cons.mpr ⟨lw_p6, List.forall_mem_cons.mpr ⟨lw_p7, List.forall_mem_cons.mpr ⟨lw_p8, List.forall_mem_cons.mpr ⟨lw_p9, List.forall_mem_cons.mpr ⟨lw_p10, List.forall_mem_cons.mpr ⟨lw_p11, List.forall_mem_cons.mpr ⟨lw_p12, List.forall_mem_cons.mpr ⟨lw_p13, List.forall_mem_cons.mpr ⟨lw_p14, List.forall_mem_cons.mpr ⟨lw_p15, fun _ h => absurd h List.not_mem_nil⟩⟩⟩⟩⟩⟩⟩⟩⟩⟩⟩⟩⟩⟩⟩⟩
theorem lw_p16 : lw_okq (⟨"LetterCuts", "bestCuts", "()I"⟩, 10) := ⟨⟨by decide +kernel, by decide +kernel⟩, List.mem_of_getElem? (i := 23) (by decide +kernel), List.mem_of_getElem? (i := 314) (by decide +kernel), List.mem_of_getElem? (i := 315) (by decide +kernel)⟩
theorem lw_p17 : lw_okq (⟨"LetterCuts$Planner", "prepare", "(LLetterCuts$Sheet;)V"⟩, 10) := ⟨⟨by decide +kernel, by decide +kernel⟩, List.mem_of_getElem? (i := 153) (by decide +kernel), List.mem_of_getElem? (i := 318) (by decide +kernel), List.mem_of_getElem? (i := 319) (by decide +kernel)⟩
theorem lw_p18 : lw_okq (⟨"LetterCuts$Sheet", "lettersFrom", "(II)I"⟩, 10) := ⟨⟨by decide +kernel, by decide +kernel⟩, List.mem_of_getElem? (i := 31) (by decide +kernel), List.mem_of_getElem? (i := 332) (by decide +kernel), List.mem_of_getElem? (i := 333) (by decide +kernel)⟩
theorem lw_p19 : lw_okq (⟨"LetterCuts$Planner", "boundSaved", "(I)I"⟩, 10) := ⟨⟨by decide +kernel, by decide +kernel⟩, List.mem_of_getElem? (i := 153) (by decide +kernel), List.mem_of_getElem? (i := 337) (by decide +kernel), List.mem_of_getElem? (i := 338) (by decide +kernel)⟩
theorem lw_p20 : lw_okq (⟨"LetterCuts$Planner", "choose", "(J)I"⟩, 10) := ⟨⟨by decide +kernel, by decide +kernel⟩, List.mem_of_getElem? (i := 153) (by decide +kernel), List.mem_of_getElem? (i := 341) (by decide +kernel), List.mem_of_getElem? (i := 342) (by decide +kernel)⟩
theorem lw_p21 : lw_okq (⟨"LetterCuts$Planner", "canSpell", "(IIJ)Z"⟩, 10) := ⟨⟨by decide +kernel, by decide +kernel⟩, List.mem_of_getElem? (i := 153) (by decide +kernel), List.mem_of_getElem? (i := 345) (by decide +kernel), List.mem_of_getElem? (i := 346) (by decide +kernel)⟩
theorem lw_p22 : lw_okq (⟨"LetterCuts$Planner", "canSave", "(IIJI)Z"⟩, 10) := ⟨⟨by decide +kernel, by decide +kernel⟩, List.mem_of_getElem? (i := 153) (by decide +kernel), List.mem_of_getElem? (i := 352) (by decide +kernel), List.mem_of_getElem? (i := 353) (by decide +kernel)⟩
theorem lw_p23 : lw_okq (⟨"LetterCuts$Planner", "canSaveAt", "(IIJI)Z"⟩, 10) := ⟨⟨by decide +kernel, by decide +kernel⟩, List.mem_of_getElem? (i := 153) (by decide +kernel), List.mem_of_getElem? (i := 356) (by decide +kernel), List.mem_of_getElem? (i := 357) (by decide +kernel)⟩
theorem lw_p24 : lw_okq (⟨"LetterCuts$Planner", "freeStrip", "(IIIJ)J"⟩, 10) := ⟨⟨by decide +kernel, by decide +kernel⟩, List.mem_of_getElem? (i := 153) (by decide +kernel), List.mem_of_getElem? (i := 360) (by decide +kernel), List.mem_of_getElem? (i := 361) (by decide +kernel)⟩
theorem lw_p25 : lw_okq (⟨"LetterCuts$Planner", "chooseCut", "(IJI)I"⟩, 10) := ⟨⟨by decide +kernel, by decide +kernel⟩, List.mem_of_getElem? (i := 153) (by decide +kernel), List.mem_of_getElem? (i := 364) (by decide +kernel), List.mem_of_getElem? (i := 365) (by decide +kernel)⟩
theorem lw_p26 : lw_okq (⟨"LetterCuts", "sizeOfCut", "(I)I"⟩, 10) := ⟨⟨by decide +kernel, by decide +kernel⟩, List.mem_of_getElem? (i := 23) (by decide +kernel), List.mem_of_getElem? (i := 372) (by decide +kernel), List.mem_of_getElem? (i := 373) (by decide +kernel)⟩
theorem lw_p27 : lw_okq (⟨"LetterCuts$Planner", "spotOfCut", "(I)I"⟩, 10) := ⟨⟨by decide +kernel, by decide +kernel⟩, List.mem_of_getElem? (i := 153) (by decide +kernel), List.mem_of_getElem? (i := 376) (by decide +kernel), List.mem_of_getElem? (i := 377) (by decide +kernel)⟩
theorem lw_p28 : lw_okq (⟨"LetterCuts", "isUsedByMessage", "(I)Z"⟩, 10) := ⟨⟨by decide +kernel, by decide +kernel⟩, List.mem_of_getElem? (i := 23) (by decide +kernel), List.mem_of_getElem? (i := 392) (by decide +kernel), List.mem_of_getElem? (i := 393) (by decide +kernel)⟩
theorem lw_p29 : lw_okq (⟨"LetterCuts$Sheet", "countInMessage", "(I)I"⟩, 10) := ⟨⟨by decide +kernel, by decide +kernel⟩, List.mem_of_getElem? (i := 31) (by decide +kernel), List.mem_of_getElem? (i := 398) (by decide +kernel), List.mem_of_getElem? (i := 399) (by decide +kernel)⟩
theorem lw_p30 : lw_okq (⟨"LetterCuts", "sizesOfCut", "(I)I"⟩, 10) := ⟨⟨by decide +kernel, by decide +kernel⟩, List.mem_of_getElem? (i := 23) (by decide +kernel), List.mem_of_getElem? (i := 407) (by decide +kernel), List.mem_of_getElem? (i := 408) (by decide +kernel)⟩
theorem lw_p31 : lw_okq (⟨"LetterCuts$Planner", "lengthOfCut", "(I)I"⟩, 10) := ⟨⟨by decide +kernel, by decide +kernel⟩, List.mem_of_getElem? (i := 153) (by decide +kernel), List.mem_of_getElem? (i := 411) (by decide +kernel), List.mem_of_getElem? (i := 412) (by decide +kernel)⟩
def lw_privs_2 : List (MethodName × Nat) := [(⟨"LetterCuts", "bestCuts", "()I"⟩, 10), (⟨"LetterCuts$Planner", "prepare", "(LLetterCuts$Sheet;)V"⟩, 10), (⟨"LetterCuts$Sheet", "lettersFrom", "(II)I"⟩, 10), (⟨"LetterCuts$Planner", "boundSaved", "(I)I"⟩, 10), (⟨"LetterCuts$Planner", "choose", "(J)I"⟩, 10), (⟨"LetterCuts$Planner", "canSpell", "(IIJ)Z"⟩, 10), (⟨"LetterCuts$Planner", "canSave", "(IIJI)Z"⟩, 10), (⟨"LetterCuts$Planner", "canSaveAt", "(IIJI)Z"⟩, 10), (⟨"LetterCuts$Planner", "freeStrip", "(IIIJ)J"⟩, 10), (⟨"LetterCuts$Planner", "chooseCut", "(IJI)I"⟩, 10), (⟨"LetterCuts", "sizeOfCut", "(I)I"⟩, 10), (⟨"LetterCuts$Planner", "spotOfCut", "(I)I"⟩, 10), (⟨"LetterCuts", "isUsedByMessage", "(I)Z"⟩, 10), (⟨"LetterCuts$Sheet", "countInMessage", "(I)I"⟩, 10), (⟨"LetterCuts", "sizesOfCut", "(I)I"⟩, 10), (⟨"LetterCuts$Planner", "lengthOfCut", "(I)I"⟩, 10)]
theorem lw_r2 : ∀ q ∈ lw_privs_2, lw_okq q := List.forall_mem_cons.mpr ⟨lw_p16, List.forall_mem_cons.mpr ⟨lw_p17, List.forall_mem_cons.mpr ⟨lw_p18, List.forall_mem_cons.mpr ⟨lw_p19, List.forall_mem_cons.mpr ⟨lw_p20, List.forall_mem_cons.mpr ⟨lw_p21, List.forall_mem_cons.mpr ⟨lw_p22, List.forall_mem_cons.mpr ⟨lw_p23, List.forall_mem_cons.mpr ⟨lw_p24, List.forall_mem_cons.mpr ⟨lw_p25, List.forall_mem_cons.mpr ⟨lw_p26, List.forall_mem_cons.mpr ⟨lw_p27, List.forall_mem_cons.mpr ⟨lw_p28, List.forall_mem_cons.mpr ⟨lw_p29, List.forall_mem_cons.mpr ⟨lw_p30, List.forall_mem_cons.mpr ⟨lw_p31, fun _ h => absurd h List.not_mem_nil⟩⟩⟩⟩⟩⟩⟩⟩⟩⟩⟩⟩⟩⟩⟩⟩
theorem lw_p32 : lw_okq (⟨"LetterCuts$Sheet", "copyFrom", "(LLetterCuts$Sheet;)V"⟩, 10) := ⟨⟨by decide +kernel, by decide +kernel⟩, List.mem_of_getElem? (i := 31) (by decide +kernel), List.mem_of_getElem? (i := 419) (by decide +kernel), List.mem_of_getElem? (i := 420) (by decide +kernel)⟩
theorem lw_p33 : lw_okq (⟨"LetterCuts$Sheet", "countThere", "()I"⟩, 10) := ⟨⟨by decide +kernel, by decide +kernel⟩, List.mem_of_getElem? (i := 31) (by decide +kernel), List.mem_of_getElem? (i := 435) (by decide +kernel), List.mem_of_getElem? (i := 436) (by decide +kernel)⟩
theorem lw_p34 : lw_okq (⟨"LetterCuts$Sheet", "countCells", "()I"⟩, 10) := ⟨⟨by decide +kernel, by decide +kernel⟩, List.mem_of_getElem? (i := 31) (by decide +kernel), List.mem_of_getElem? (i := 439) (by decide +kernel), List.mem_of_getElem? (i := 440) (by decide +kernel)⟩
theorem lw_p35 : lw_okq (⟨"LetterCuts$Sheet", "countUsable", "()I"⟩, 10) := ⟨⟨by decide +kernel, by decide +kernel⟩, List.mem_of_getElem? (i := 31) (by decide +kernel), List.mem_of_getElem? (i := 449) (by decide +kernel), List.mem_of_getElem? (i := 450) (by decide +kernel)⟩
theorem lw_p36 : lw_okq (⟨"java/lang/Throwable", "fillInStackTrace", "(I)Ljava/lang/Throwable;"⟩, 6) := ⟨⟨by decide +kernel, by decide +kernel⟩, List.mem_of_getElem? (i := 492) (by decide +kernel), List.mem_of_getElem? (i := 490) (by decide +kernel), List.mem_of_getElem? (i := 491) (by decide +kernel)⟩
theorem lw_p37 : lw_okq (⟨"LetterCuts", "letterOrGone", "(I)I"⟩, 10) := ⟨⟨by decide +kernel, by decide +kernel⟩, List.mem_of_getElem? (i := 23) (by decide +kernel), List.mem_of_getElem? (i := 518) (by decide +kernel), List.mem_of_getElem? (i := 519) (by decide +kernel)⟩
theorem lw_p38 : lw_okq (⟨"LetterCuts$SetupReader", "read", "([BI)I"⟩, 10) := ⟨⟨by decide +kernel, by decide +kernel⟩, List.mem_of_getElem? (i := 92) (by decide +kernel), List.mem_of_getElem? (i := 534) (by decide +kernel), List.mem_of_getElem? (i := 535) (by decide +kernel)⟩
theorem lw_p39 : lw_okq (⟨"LetterCuts$SetupReader", "readPage", "()V"⟩, 10) := ⟨⟨by decide +kernel, by decide +kernel⟩, List.mem_of_getElem? (i := 92) (by decide +kernel), List.mem_of_getElem? (i := 541) (by decide +kernel), List.mem_of_getElem? (i := 542) (by decide +kernel)⟩
theorem lw_p40 : lw_okq (⟨"LetterCuts$SetupReader", "skipSpaces", "()V"⟩, 10) := ⟨⟨by decide +kernel, by decide +kernel⟩, List.mem_of_getElem? (i := 92) (by decide +kernel), List.mem_of_getElem? (i := 545) (by decide +kernel), List.mem_of_getElem? (i := 546) (by decide +kernel)⟩
theorem lw_p41 : lw_okq (⟨"LetterCuts$SetupReader", "skipWord", "()V"⟩, 10) := ⟨⟨by decide +kernel, by decide +kernel⟩, List.mem_of_getElem? (i := 92) (by decide +kernel), List.mem_of_getElem? (i := 549) (by decide +kernel), List.mem_of_getElem? (i := 550) (by decide +kernel)⟩
theorem lw_p42 : lw_okq (⟨"LetterCuts$SetupReader", "isWord", "(ILjava/lang/String;)Z"⟩, 10) := ⟨⟨by decide +kernel, by decide +kernel⟩, List.mem_of_getElem? (i := 92) (by decide +kernel), List.mem_of_getElem? (i := 557) (by decide +kernel), List.mem_of_getElem? (i := 558) (by decide +kernel)⟩
theorem lw_p43 : lw_okq (⟨"LetterCuts$SetupReader", "fail", "(II)V"⟩, 10) := ⟨⟨by decide +kernel, by decide +kernel⟩, List.mem_of_getElem? (i := 92) (by decide +kernel), List.mem_of_getElem? (i := 609) (by decide +kernel), List.mem_of_getElem? (i := 610) (by decide +kernel)⟩
theorem lw_p44 : lw_okq (⟨"LetterCuts$SetupReader", "readNumber", "(I)I"⟩, 10) := ⟨⟨by decide +kernel, by decide +kernel⟩, List.mem_of_getElem? (i := 92) (by decide +kernel), List.mem_of_getElem? (i := 613) (by decide +kernel), List.mem_of_getElem? (i := 614) (by decide +kernel)⟩
theorem lw_p45 : lw_okq (⟨"LetterCuts$SetupReader", "readSemicolon", "()V"⟩, 10) := ⟨⟨by decide +kernel, by decide +kernel⟩, List.mem_of_getElem? (i := 92) (by decide +kernel), List.mem_of_getElem? (i := 617) (by decide +kernel), List.mem_of_getElem? (i := 618) (by decide +kernel)⟩
theorem lw_p46 : lw_okq (⟨"LetterCuts$SetupReader", "hasMore", "()Z"⟩, 10) := ⟨⟨by decide +kernel, by decide +kernel⟩, List.mem_of_getElem? (i := 92) (by decide +kernel), List.mem_of_getElem? (i := 622) (by decide +kernel), List.mem_of_getElem? (i := 623) (by decide +kernel)⟩
theorem lw_p47 : lw_okq (⟨"LetterCuts$SetupReader", "readStatement", "()V"⟩, 10) := ⟨⟨by decide +kernel, by decide +kernel⟩, List.mem_of_getElem? (i := 92) (by decide +kernel), List.mem_of_getElem? (i := 626) (by decide +kernel), List.mem_of_getElem? (i := 627) (by decide +kernel)⟩
def lw_privs_3 : List (MethodName × Nat) := [(⟨"LetterCuts$Sheet", "copyFrom", "(LLetterCuts$Sheet;)V"⟩, 10), (⟨"LetterCuts$Sheet", "countThere", "()I"⟩, 10), (⟨"LetterCuts$Sheet", "countCells", "()I"⟩, 10), (⟨"LetterCuts$Sheet", "countUsable", "()I"⟩, 10), (⟨"java/lang/Throwable", "fillInStackTrace", "(I)Ljava/lang/Throwable;"⟩, 6), (⟨"LetterCuts", "letterOrGone", "(I)I"⟩, 10), (⟨"LetterCuts$SetupReader", "read", "([BI)I"⟩, 10), (⟨"LetterCuts$SetupReader", "readPage", "()V"⟩, 10), (⟨"LetterCuts$SetupReader", "skipSpaces", "()V"⟩, 10), (⟨"LetterCuts$SetupReader", "skipWord", "()V"⟩, 10), (⟨"LetterCuts$SetupReader", "isWord", "(ILjava/lang/String;)Z"⟩, 10), (⟨"LetterCuts$SetupReader", "fail", "(II)V"⟩, 10), (⟨"LetterCuts$SetupReader", "readNumber", "(I)I"⟩, 10), (⟨"LetterCuts$SetupReader", "readSemicolon", "()V"⟩, 10), (⟨"LetterCuts$SetupReader", "hasMore", "()Z"⟩, 10), (⟨"LetterCuts$SetupReader", "readStatement", "()V"⟩, 10)]
theorem lw_r3 : ∀ q ∈ lw_privs_3, lw_okq q := List.forall_mem_cons.mpr ⟨lw_p32, List.forall_mem_cons.mpr ⟨lw_p33, List.forall_mem_cons.mpr ⟨lw_p34, List.forall_mem_cons.mpr ⟨lw_p35, List.forall_mem_cons.mpr ⟨lw_p36, List.forall_mem_cons.mpr ⟨lw_p37, List.forall_mem_cons.mpr ⟨lw_p38, List.forall_mem_cons.mpr ⟨lw_p39, List.forall_mem_cons.mpr ⟨lw_p40, List.forall_mem_cons.mpr ⟨lw_p41, List.forall_mem_cons.mpr ⟨lw_p42, List.forall_mem_cons.mpr ⟨lw_p43, List.forall_mem_cons.mpr ⟨lw_p44, List.forall_mem_cons.mpr ⟨lw_p45, List.forall_mem_cons.mpr ⟨lw_p46, List.forall_mem_cons.mpr ⟨lw_p47, fun _ h => absurd h List.not_mem_nil⟩⟩⟩⟩⟩⟩⟩⟩⟩⟩⟩⟩⟩⟩⟩⟩
theorem lw_p48 : lw_okq (⟨"LetterCuts$SetupReader", "readLines", "(I)V"⟩, 10) := ⟨⟨by decide +kernel, by decide +kernel⟩, List.mem_of_getElem? (i := 92) (by decide +kernel), List.mem_of_getElem? (i := 631) (by decide +kernel), List.mem_of_getElem? (i := 632) (by decide +kernel)⟩
theorem lw_p49 : lw_okq (⟨"LetterCuts$SetupReader", "readLine", "(I)V"⟩, 10) := ⟨⟨by decide +kernel, by decide +kernel⟩, List.mem_of_getElem? (i := 92) (by decide +kernel), List.mem_of_getElem? (i := 635) (by decide +kernel), List.mem_of_getElem? (i := 636) (by decide +kernel)⟩
theorem lw_p50 : lw_okq (⟨"LetterCuts$SetupReader", "readSizes", "()V"⟩, 10) := ⟨⟨by decide +kernel, by decide +kernel⟩, List.mem_of_getElem? (i := 92) (by decide +kernel), List.mem_of_getElem? (i := 641) (by decide +kernel), List.mem_of_getElem? (i := 642) (by decide +kernel)⟩
theorem lw_p51 : lw_okq (⟨"LetterCuts", "remember", "()V"⟩, 10) := ⟨⟨by decide +kernel, by decide +kernel⟩, List.mem_of_getElem? (i := 23) (by decide +kernel), List.mem_of_getElem? (i := 646) (by decide +kernel), List.mem_of_getElem? (i := 647) (by decide +kernel)⟩
theorem lw_p52 : lw_okq (⟨"LetterCuts", "makeOldestFinal", "()V"⟩, 10) := ⟨⟨by decide +kernel, by decide +kernel⟩, List.mem_of_getElem? (i := 23) (by decide +kernel), List.mem_of_getElem? (i := 650) (by decide +kernel), List.mem_of_getElem? (i := 651) (by decide +kernel)⟩
theorem lw_p53 : lw_okq (⟨"LetterCuts$Sheet", "hasPlace", "(II)Z"⟩, 10) := ⟨⟨by decide +kernel, by decide +kernel⟩, List.mem_of_getElem? (i := 31) (by decide +kernel), List.mem_of_getElem? (i := 667) (by decide +kernel), List.mem_of_getElem? (i := 668) (by decide +kernel)⟩
theorem lw_p54 : lw_okq (⟨"LetterCuts$Sheet", "spotOf", "(II)I"⟩, 10) := ⟨⟨by decide +kernel, by decide +kernel⟩, List.mem_of_getElem? (i := 31) (by decide +kernel), List.mem_of_getElem? (i := 686) (by decide +kernel), List.mem_of_getElem? (i := 687) (by decide +kernel)⟩
theorem lw_p55 : lw_okq (⟨"LetterCuts$Sheet", "placeOf", "(I)I"⟩, 10) := ⟨⟨by decide +kernel, by decide +kernel⟩, List.mem_of_getElem? (i := 31) (by decide +kernel), List.mem_of_getElem? (i := 697) (by decide +kernel), List.mem_of_getElem? (i := 698) (by decide +kernel)⟩
theorem lw_p56 : lw_okq (⟨"LetterCuts$Sheet", "countUsableOf", "(I)I"⟩, 10) := ⟨⟨by decide +kernel, by decide +kernel⟩, List.mem_of_getElem? (i := 31) (by decide +kernel), List.mem_of_getElem? (i := 708) (by decide +kernel), List.mem_of_getElem? (i := 709) (by decide +kernel)⟩
theorem lw_p57 : lw_okq (⟨"LetterCuts", "startsWithLetters", "(I)Z"⟩, 10) := ⟨⟨by decide +kernel, by decide +kernel⟩, List.mem_of_getElem? (i := 23) (by decide +kernel), List.mem_of_getElem? (i := 761) (by decide +kernel), List.mem_of_getElem? (i := 762) (by decide +kernel)⟩
theorem lw_p58 : lw_okq (⟨"LetterCuts$Sheet", "take", "(JI)V"⟩, 10) := ⟨⟨by decide +kernel, by decide +kernel⟩, List.mem_of_getElem? (i := 31) (by decide +kernel), List.mem_of_getElem? (i := 789) (by decide +kernel), List.mem_of_getElem? (i := 790) (by decide +kernel)⟩
theorem lw_p59 : lw_okq (⟨"LetterCuts$Sheet", "isStrip", "(II)Z"⟩, 10) := ⟨⟨by decide +kernel, by decide +kernel⟩, List.mem_of_getElem? (i := 31) (by decide +kernel), List.mem_of_getElem? (i := 800) (by decide +kernel), List.mem_of_getElem? (i := 801) (by decide +kernel)⟩
theorem lw_p60 : lw_okq (⟨"LetterCuts$Sheet", "cellsOfStrip", "(II)J"⟩, 10) := ⟨⟨by decide +kernel, by decide +kernel⟩, List.mem_of_getElem? (i := 31) (by decide +kernel), List.mem_of_getElem? (i := 804) (by decide +kernel), List.mem_of_getElem? (i := 805) (by decide +kernel)⟩
theorem lw_p61 : lw_okq (⟨"LetterCutsModel", "fails", "(ZI)Z"⟩, 27) := ⟨⟨by decide +kernel, by decide +kernel⟩, List.mem_of_getElem? (i := 823) (by decide +kernel), List.mem_of_getElem? (i := 931) (by decide +kernel), List.mem_of_getElem? (i := 932) (by decide +kernel)⟩
theorem lw_p62 : lw_okq (⟨"LetterCutsModel", "takeWord", "(Ljava/lang/String;)Z"⟩, 27) := ⟨⟨by decide +kernel, by decide +kernel⟩, List.mem_of_getElem? (i := 823) (by decide +kernel), List.mem_of_getElem? (i := 936) (by decide +kernel), List.mem_of_getElem? (i := 937) (by decide +kernel)⟩
theorem lw_p63 : lw_okq (⟨"LetterCutsModel", "isGood", "()Z"⟩, 27) := ⟨⟨by decide +kernel, by decide +kernel⟩, List.mem_of_getElem? (i := 823) (by decide +kernel), List.mem_of_getElem? (i := 940) (by decide +kernel), List.mem_of_getElem? (i := 941) (by decide +kernel)⟩
def lw_privs_4 : List (MethodName × Nat) := [(⟨"LetterCuts$SetupReader", "readLines", "(I)V"⟩, 10), (⟨"LetterCuts$SetupReader", "readLine", "(I)V"⟩, 10), (⟨"LetterCuts$SetupReader", "readSizes", "()V"⟩, 10), (⟨"LetterCuts", "remember", "()V"⟩, 10), (⟨"LetterCuts", "makeOldestFinal", "()V"⟩, 10), (⟨"LetterCuts$Sheet", "hasPlace", "(II)Z"⟩, 10), (⟨"LetterCuts$Sheet", "spotOf", "(II)I"⟩, 10), (⟨"LetterCuts$Sheet", "placeOf", "(I)I"⟩, 10), (⟨"LetterCuts$Sheet", "countUsableOf", "(I)I"⟩, 10), (⟨"LetterCuts", "startsWithLetters", "(I)Z"⟩, 10), (⟨"LetterCuts$Sheet", "take", "(JI)V"⟩, 10), (⟨"LetterCuts$Sheet", "isStrip", "(II)Z"⟩, 10), (⟨"LetterCuts$Sheet", "cellsOfStrip", "(II)J"⟩, 10), (⟨"LetterCutsModel", "fails", "(ZI)Z"⟩, 27), (⟨"LetterCutsModel", "takeWord", "(Ljava/lang/String;)Z"⟩, 27), (⟨"LetterCutsModel", "isGood", "()Z"⟩, 27)]
theorem lw_r4 : ∀ q ∈ lw_privs_4, lw_okq q := List.forall_mem_cons.mpr ⟨lw_p48, List.forall_mem_cons.mpr ⟨lw_p49, List.forall_mem_cons.mpr ⟨lw_p50, List.forall_mem_cons.mpr ⟨lw_p51, List.forall_mem_cons.mpr ⟨lw_p52, List.forall_mem_cons.mpr ⟨lw_p53, List.forall_mem_cons.mpr ⟨lw_p54, List.forall_mem_cons.mpr ⟨lw_p55, List.forall_mem_cons.mpr ⟨lw_p56, List.forall_mem_cons.mpr ⟨lw_p57, List.forall_mem_cons.mpr ⟨lw_p58, List.forall_mem_cons.mpr ⟨lw_p59, List.forall_mem_cons.mpr ⟨lw_p60, List.forall_mem_cons.mpr ⟨lw_p61, List.forall_mem_cons.mpr ⟨lw_p62, List.forall_mem_cons.mpr ⟨lw_p63, fun _ h => absurd h List.not_mem_nil⟩⟩⟩⟩⟩⟩⟩⟩⟩⟩⟩⟩⟩⟩⟩⟩
theorem lw_p64 : lw_okq (⟨"LetterCutsModel", "ahead", "()I"⟩, 27) := ⟨⟨by decide +kernel, by decide +kernel⟩, List.mem_of_getElem? (i := 823) (by decide +kernel), List.mem_of_getElem? (i := 944) (by decide +kernel), List.mem_of_getElem? (i := 945) (by decide +kernel)⟩
theorem lw_p65 : lw_okq (⟨"LetterCutsModel", "byteAt", "(I)I"⟩, 27) := ⟨⟨by decide +kernel, by decide +kernel⟩, List.mem_of_getElem? (i := 823) (by decide +kernel), List.mem_of_getElem? (i := 948) (by decide +kernel), List.mem_of_getElem? (i := 949) (by decide +kernel)⟩
theorem lw_p66 : lw_okq (⟨"LetterCutsModel", "report", "(II)V"⟩, 27) := ⟨⟨by decide +kernel, by decide +kernel⟩, List.mem_of_getElem? (i := 823) (by decide +kernel), List.mem_of_getElem? (i := 954) (by decide +kernel), List.mem_of_getElem? (i := 955) (by decide +kernel)⟩
theorem lw_p67 : lw_okq (⟨"LetterCutsModel", "number", "(II)I"⟩, 27) := ⟨⟨by decide +kernel, by decide +kernel⟩, List.mem_of_getElem? (i := 823) (by decide +kernel), List.mem_of_getElem? (i := 958) (by decide +kernel), List.mem_of_getElem? (i := 959) (by decide +kernel)⟩
theorem lw_p68 : lw_okq (⟨"LetterCutsModel", "expect", "(I)V"⟩, 27) := ⟨⟨by decide +kernel, by decide +kernel⟩, List.mem_of_getElem? (i := 823) (by decide +kernel), List.mem_of_getElem? (i := 969) (by decide +kernel), List.mem_of_getElem? (i := 970) (by decide +kernel)⟩
theorem lw_p69 : lw_okq (⟨"LetterCutsModel", "statement", "()V"⟩, 27) := ⟨⟨by decide +kernel, by decide +kernel⟩, List.mem_of_getElem? (i := 823) (by decide +kernel), List.mem_of_getElem? (i := 973) (by decide +kernel), List.mem_of_getElem? (i := 974) (by decide +kernel)⟩
theorem lw_p70 : lw_okq (⟨"LetterCutsModel", "readSide", "(II)V"⟩, 27) := ⟨⟨by decide +kernel, by decide +kernel⟩, List.mem_of_getElem? (i := 823) (by decide +kernel), List.mem_of_getElem? (i := 978) (by decide +kernel), List.mem_of_getElem? (i := 979) (by decide +kernel)⟩
theorem lw_p71 : lw_okq (⟨"LetterCutsModel", "once", "(II)V"⟩, 27) := ⟨⟨by decide +kernel, by decide +kernel⟩, List.mem_of_getElem? (i := 823) (by decide +kernel), List.mem_of_getElem? (i := 982) (by decide +kernel), List.mem_of_getElem? (i := 983) (by decide +kernel)⟩
theorem lw_p72 : lw_okq (⟨"LetterCutsModel", "readLine", "(II)V"⟩, 27) := ⟨⟨by decide +kernel, by decide +kernel⟩, List.mem_of_getElem? (i := 823) (by decide +kernel), List.mem_of_getElem? (i := 986) (by decide +kernel), List.mem_of_getElem? (i := 987) (by decide +kernel)⟩
theorem lw_p73 : lw_okq (⟨"LetterCutsModel", "remember", "()V"⟩, 27) := ⟨⟨by decide +kernel, by decide +kernel⟩, List.mem_of_getElem? (i := 823) (by decide +kernel), List.mem_of_getElem? (i := 996) (by decide +kernel), List.mem_of_getElem? (i := 997) (by decide +kernel)⟩
theorem lw_p74 : lw_okq (⟨"LetterCutsModel", "cells", "()I"⟩, 27) := ⟨⟨by decide +kernel, by decide +kernel⟩, List.mem_of_getElem? (i := 823) (by decide +kernel), List.mem_of_getElem? (i := 1003) (by decide +kernel), List.mem_of_getElem? (i := 1004) (by decide +kernel)⟩
theorem lw_p75 : lw_okq (⟨"LetterCutsModel", "told", "(I)I"⟩, 27) := ⟨⟨by decide +kernel, by decide +kernel⟩, List.mem_of_getElem? (i := 823) (by decide +kernel), List.mem_of_getElem? (i := 1015) (by decide +kernel), List.mem_of_getElem? (i := 1016) (by decide +kernel)⟩
theorem lw_p76 : lw_okq (⟨"LetterCutsModel", "cellsThere", "()I"⟩, 27) := ⟨⟨by decide +kernel, by decide +kernel⟩, List.mem_of_getElem? (i := 823) (by decide +kernel), List.mem_of_getElem? (i := 1019) (by decide +kernel), List.mem_of_getElem? (i := 1020) (by decide +kernel)⟩
theorem lw_p77 : lw_okq (⟨"LetterCutsModel", "usable", "()I"⟩, 27) := ⟨⟨by decide +kernel, by decide +kernel⟩, List.mem_of_getElem? (i := 823) (by decide +kernel), List.mem_of_getElem? (i := 1023) (by decide +kernel), List.mem_of_getElem? (i := 1024) (by decide +kernel)⟩
theorem lw_p78 : lw_okq (⟨"LetterCutsModel", "canUse", "(II)Z"⟩, 27) := ⟨⟨by decide +kernel, by decide +kernel⟩, List.mem_of_getElem? (i := 823) (by decide +kernel), List.mem_of_getElem? (i := 1027) (by decide +kernel), List.mem_of_getElem? (i := 1028) (by decide +kernel)⟩
theorem lw_p79 : lw_okq (⟨"LetterCutsModel", "letterAt", "(II)I"⟩, 27) := ⟨⟨by decide +kernel, by decide +kernel⟩, List.mem_of_getElem? (i := 823) (by decide +kernel), List.mem_of_getElem? (i := 1031) (by decide +kernel), List.mem_of_getElem? (i := 1032) (by decide +kernel)⟩
def lw_privs_5 : List (MethodName × Nat) := [(⟨"LetterCutsModel", "ahead", "()I"⟩, 27), (⟨"LetterCutsModel", "byteAt", "(I)I"⟩, 27), (⟨"LetterCutsModel", "report", "(II)V"⟩, 27), (⟨"LetterCutsModel", "number", "(II)I"⟩, 27), (⟨"LetterCutsModel", "expect", "(I)V"⟩, 27), (⟨"LetterCutsModel", "statement", "()V"⟩, 27), (⟨"LetterCutsModel", "readSide", "(II)V"⟩, 27), (⟨"LetterCutsModel", "once", "(II)V"⟩, 27), (⟨"LetterCutsModel", "readLine", "(II)V"⟩, 27), (⟨"LetterCutsModel", "remember", "()V"⟩, 27), (⟨"LetterCutsModel", "cells", "()I"⟩, 27), (⟨"LetterCutsModel", "told", "(I)I"⟩, 27), (⟨"LetterCutsModel", "cellsThere", "()I"⟩, 27), (⟨"LetterCutsModel", "usable", "()I"⟩, 27), (⟨"LetterCutsModel", "canUse", "(II)Z"⟩, 27), (⟨"LetterCutsModel", "letterAt", "(II)I"⟩, 27)]
theorem lw_r5 : ∀ q ∈ lw_privs_5, lw_okq q := List.forall_mem_cons.mpr ⟨lw_p64, List.forall_mem_cons.mpr ⟨lw_p65, List.forall_mem_cons.mpr ⟨lw_p66, List.forall_mem_cons.mpr ⟨lw_p67, List.forall_mem_cons.mpr ⟨lw_p68, List.forall_mem_cons.mpr ⟨lw_p69, List.forall_mem_cons.mpr ⟨lw_p70, List.forall_mem_cons.mpr ⟨lw_p71, List.forall_mem_cons.mpr ⟨lw_p72, List.forall_mem_cons.mpr ⟨lw_p73, List.forall_mem_cons.mpr ⟨lw_p74, List.forall_mem_cons.mpr ⟨lw_p75, List.forall_mem_cons.mpr ⟨lw_p76, List.forall_mem_cons.mpr ⟨lw_p77, List.forall_mem_cons.mpr ⟨lw_p78, List.forall_mem_cons.mpr ⟨lw_p79, fun _ h => absurd h List.not_mem_nil⟩⟩⟩⟩⟩⟩⟩⟩⟩⟩⟩⟩⟩⟩⟩⟩
theorem lw_p80 : lw_okq (⟨"LetterCutsModel", "isGone", "(II)Z"⟩, 27) := ⟨⟨by decide +kernel, by decide +kernel⟩, List.mem_of_getElem? (i := 823) (by decide +kernel), List.mem_of_getElem? (i := 1035) (by decide +kernel), List.mem_of_getElem? (i := 1036) (by decide +kernel)⟩
theorem lw_p81 : lw_okq (⟨"LetterCutsModel", "cellOf", "(II)I"⟩, 27) := ⟨⟨by decide +kernel, by decide +kernel⟩, List.mem_of_getElem? (i := 823) (by decide +kernel), List.mem_of_getElem? (i := 1039) (by decide +kernel), List.mem_of_getElem? (i := 1040) (by decide +kernel)⟩
theorem lw_p82 : lw_okq (⟨"LetterCutsModel", "behind", "(I)I"⟩, 27) := ⟨⟨by decide +kernel, by decide +kernel⟩, List.mem_of_getElem? (i := 823) (by decide +kernel), List.mem_of_getElem? (i := 1043) (by decide +kernel), List.mem_of_getElem? (i := 1044) (by decide +kernel)⟩
theorem lw_p83 : lw_okq (⟨"LetterCutsModel", "sizeAt", "(II)I"⟩, 27) := ⟨⟨by decide +kernel, by decide +kernel⟩, List.mem_of_getElem? (i := 823) (by decide +kernel), List.mem_of_getElem? (i := 1047) (by decide +kernel), List.mem_of_getElem? (i := 1048) (by decide +kernel)⟩
theorem lw_p84 : lw_okq (⟨"LetterCutsModel", "noPlace", "(II)Z"⟩, 27) := ⟨⟨by decide +kernel, by decide +kernel⟩, List.mem_of_getElem? (i := 823) (by decide +kernel), List.mem_of_getElem? (i := 1055) (by decide +kernel), List.mem_of_getElem? (i := 1056) (by decide +kernel)⟩
theorem lw_p85 : lw_okq (⟨"LetterCutsModel", "toldLetter", "(II)I"⟩, 27) := ⟨⟨by decide +kernel, by decide +kernel⟩, List.mem_of_getElem? (i := 823) (by decide +kernel), List.mem_of_getElem? (i := 1059) (by decide +kernel), List.mem_of_getElem? (i := 1060) (by decide +kernel)⟩
theorem lw_p86 : lw_okq (⟨"LetterCutsModel", "toldPlace", "(III)I"⟩, 27) := ⟨⟨by decide +kernel, by decide +kernel⟩, List.mem_of_getElem? (i := 823) (by decide +kernel), List.mem_of_getElem? (i := 1067) (by decide +kernel), List.mem_of_getElem? (i := 1068) (by decide +kernel)⟩
theorem lw_p87 : lw_okq (⟨"LetterCutsModel", "inMessage", "(I)I"⟩, 27) := ⟨⟨by decide +kernel, by decide +kernel⟩, List.mem_of_getElem? (i := 823) (by decide +kernel), List.mem_of_getElem? (i := 1071) (by decide +kernel), List.mem_of_getElem? (i := 1072) (by decide +kernel)⟩
theorem lw_p88 : lw_okq (⟨"LetterCutsModel", "isLetter", "(III)Z"⟩, 27) := ⟨⟨by decide +kernel, by decide +kernel⟩, List.mem_of_getElem? (i := 823) (by decide +kernel), List.mem_of_getElem? (i := 1079) (by decide +kernel), List.mem_of_getElem? (i := 1080) (by decide +kernel)⟩
theorem lw_p89 : lw_okq (⟨"LetterCutsModel", "missingNow", "()I"⟩, 27) := ⟨⟨by decide +kernel, by decide +kernel⟩, List.mem_of_getElem? (i := 823) (by decide +kernel), List.mem_of_getElem? (i := 1091) (by decide +kernel), List.mem_of_getElem? (i := 1092) (by decide +kernel)⟩
theorem lw_p90 : lw_okq (⟨"LetterCutsModel", "missingFrom", "(I)I"⟩, 27) := ⟨⟨by decide +kernel, by decide +kernel⟩, List.mem_of_getElem? (i := 823) (by decide +kernel), List.mem_of_getElem? (i := 1095) (by decide +kernel), List.mem_of_getElem? (i := 1096) (by decide +kernel)⟩
theorem lw_p91 : lw_okq (⟨"LetterCutsModel", "gives", "(I)Z"⟩, 27) := ⟨⟨by decide +kernel, by decide +kernel⟩, List.mem_of_getElem? (i := 823) (by decide +kernel), List.mem_of_getElem? (i := 1099) (by decide +kernel), List.mem_of_getElem? (i := 1100) (by decide +kernel)⟩
theorem lw_p92 : lw_okq (⟨"LetterCutsModel", "hasLetter", "(II)Z"⟩, 27) := ⟨⟨by decide +kernel, by decide +kernel⟩, List.mem_of_getElem? (i := 823) (by decide +kernel), List.mem_of_getElem? (i := 1103) (by decide +kernel), List.mem_of_getElem? (i := 1104) (by decide +kernel)⟩
theorem lw_p93 : lw_okq (⟨"LetterCutsModel", "layPlan", "()I"⟩, 27) := ⟨⟨by decide +kernel, by decide +kernel⟩, List.mem_of_getElem? (i := 823) (by decide +kernel), List.mem_of_getElem? (i := 1111) (by decide +kernel), List.mem_of_getElem? (i := 1112) (by decide +kernel)⟩
theorem lw_p94 : lw_okq (⟨"LetterCutsModel", "layNeeded", "()V"⟩, 27) := ⟨⟨by decide +kernel, by decide +kernel⟩, List.mem_of_getElem? (i := 823) (by decide +kernel), List.mem_of_getElem? (i := 1115) (by decide +kernel), List.mem_of_getElem? (i := 1116) (by decide +kernel)⟩
theorem lw_p95 : lw_okq (⟨"LetterCutsModel", "longestFrom", "(I)I"⟩, 27) := ⟨⟨by decide +kernel, by decide +kernel⟩, List.mem_of_getElem? (i := 823) (by decide +kernel), List.mem_of_getElem? (i := 1119) (by decide +kernel), List.mem_of_getElem? (i := 1120) (by decide +kernel)⟩
def lw_privs_6 : List (MethodName × Nat) := [(⟨"LetterCutsModel", "isGone", "(II)Z"⟩, 27), (⟨"LetterCutsModel", "cellOf", "(II)I"⟩, 27), (⟨"LetterCutsModel", "behind", "(I)I"⟩, 27), (⟨"LetterCutsModel", "sizeAt", "(II)I"⟩, 27), (⟨"LetterCutsModel", "noPlace", "(II)Z"⟩, 27), (⟨"LetterCutsModel", "toldLetter", "(II)I"⟩, 27), (⟨"LetterCutsModel", "toldPlace", "(III)I"⟩, 27), (⟨"LetterCutsModel", "inMessage", "(I)I"⟩, 27), (⟨"LetterCutsModel", "isLetter", "(III)Z"⟩, 27), (⟨"LetterCutsModel", "missingNow", "()I"⟩, 27), (⟨"LetterCutsModel", "missingFrom", "(I)I"⟩, 27), (⟨"LetterCutsModel", "gives", "(I)Z"⟩, 27), (⟨"LetterCutsModel", "hasLetter", "(II)Z"⟩, 27), (⟨"LetterCutsModel", "layPlan", "()I"⟩, 27), (⟨"LetterCutsModel", "layNeeded", "()V"⟩, 27), (⟨"LetterCutsModel", "longestFrom", "(I)I"⟩, 27)]
theorem lw_r6 : ∀ q ∈ lw_privs_6, lw_okq q := List.forall_mem_cons.mpr ⟨lw_p80, List.forall_mem_cons.mpr ⟨lw_p81, List.forall_mem_cons.mpr ⟨lw_p82, List.forall_mem_cons.mpr ⟨lw_p83, List.forall_mem_cons.mpr ⟨lw_p84, List.forall_mem_cons.mpr ⟨lw_p85, List.forall_mem_cons.mpr ⟨lw_p86, List.forall_mem_cons.mpr ⟨lw_p87, List.forall_mem_cons.mpr ⟨lw_p88, List.forall_mem_cons.mpr ⟨lw_p89, List.forall_mem_cons.mpr ⟨lw_p90, List.forall_mem_cons.mpr ⟨lw_p91, List.forall_mem_cons.mpr ⟨lw_p92, List.forall_mem_cons.mpr ⟨lw_p93, List.forall_mem_cons.mpr ⟨lw_p94, List.forall_mem_cons.mpr ⟨lw_p95, fun _ h => absurd h List.not_mem_nil⟩⟩⟩⟩⟩⟩⟩⟩⟩⟩⟩⟩⟩⟩⟩⟩
theorem lw_p96 : lw_okq (⟨"LetterCutsModel", "isStrip", "(IIII)Z"⟩, 27) := ⟨⟨by decide +kernel, by decide +kernel⟩, List.mem_of_getElem? (i := 823) (by decide +kernel), List.mem_of_getElem? (i := 1123) (by decide +kernel), List.mem_of_getElem? (i := 1124) (by decide +kernel)⟩
theorem lw_p97 : lw_okq (⟨"LetterCutsModel", "plansBy", "(I)Z"⟩, 27) := ⟨⟨by decide +kernel, by decide +kernel⟩, List.mem_of_getElem? (i := 823) (by decide +kernel), List.mem_of_getElem? (i := 1127) (by decide +kernel), List.mem_of_getElem? (i := 1128) (by decide +kernel)⟩
theorem lw_p98 : lw_okq (⟨"LetterCutsModel", "plans", "(III)Z"⟩, 27) := ⟨⟨by decide +kernel, by decide +kernel⟩, List.mem_of_getElem? (i := 823) (by decide +kernel), List.mem_of_getElem? (i := 1131) (by decide +kernel), List.mem_of_getElem? (i := 1132) (by decide +kernel)⟩
theorem lw_p99 : lw_okq (⟨"LetterCutsModel", "keyOf", "(II)J"⟩, 27) := ⟨⟨by decide +kernel, by decide +kernel⟩, List.mem_of_getElem? (i := 823) (by decide +kernel), List.mem_of_getElem? (i := 1135) (by decide +kernel), List.mem_of_getElem? (i := 1136) (by decide +kernel)⟩
theorem lw_p100 : lw_okq (⟨"LetterCutsModel", "vainAt", "(J)I"⟩, 27) := ⟨⟨by decide +kernel, by decide +kernel⟩, List.mem_of_getElem? (i := 823) (by decide +kernel), List.mem_of_getElem? (i := 1140) (by decide +kernel), List.mem_of_getElem? (i := 1141) (by decide +kernel)⟩
theorem lw_p101 : lw_okq (⟨"LetterCutsModel", "cellsOf", "(III)J"⟩, 27) := ⟨⟨by decide +kernel, by decide +kernel⟩, List.mem_of_getElem? (i := 823) (by decide +kernel), List.mem_of_getElem? (i := 1145) (by decide +kernel), List.mem_of_getElem? (i := 1146) (by decide +kernel)⟩
theorem lw_p102 : lw_okq (⟨"LetterCutsModel", "toldCut", "(II)I"⟩, 27) := ⟨⟨by decide +kernel, by decide +kernel⟩, List.mem_of_getElem? (i := 823) (by decide +kernel), List.mem_of_getElem? (i := 1154) (by decide +kernel), List.mem_of_getElem? (i := 1155) (by decide +kernel)⟩
theorem lw_p103 : lw_okq (⟨"LetterCutsModel", "laySizes", "()V"⟩, 27) := ⟨⟨by decide +kernel, by decide +kernel⟩, List.mem_of_getElem? (i := 823) (by decide +kernel), List.mem_of_getElem? (i := 1162) (by decide +kernel), List.mem_of_getElem? (i := 1163) (by decide +kernel)⟩
theorem lw_p104 : lw_okq (⟨"LetterCutsModel", "cutPlan", "()V"⟩, 27) := ⟨⟨by decide +kernel, by decide +kernel⟩, List.mem_of_getElem? (i := 823) (by decide +kernel), List.mem_of_getElem? (i := 1171) (by decide +kernel), List.mem_of_getElem? (i := 1172) (by decide +kernel)⟩
theorem lw_p105 : lw_okq (⟨"LetterCutsModel", "goesOff", "(III)V"⟩, 27) := ⟨⟨by decide +kernel, by decide +kernel⟩, List.mem_of_getElem? (i := 823) (by decide +kernel), List.mem_of_getElem? (i := 1175) (by decide +kernel), List.mem_of_getElem? (i := 1176) (by decide +kernel)⟩
theorem lw_p106 : lw_okq (⟨"LetterCutsModel", "clashesNow", "()I"⟩, 27) := ⟨⟨by decide +kernel, by decide +kernel⟩, List.mem_of_getElem? (i := 823) (by decide +kernel), List.mem_of_getElem? (i := 1187) (by decide +kernel), List.mem_of_getElem? (i := 1188) (by decide +kernel)⟩
theorem lw_p107 : lw_okq (⟨"LetterCutsModel", "isWanted", "(II)Z"⟩, 27) := ⟨⟨by decide +kernel, by decide +kernel⟩, List.mem_of_getElem? (i := 823) (by decide +kernel), List.mem_of_getElem? (i := 1191) (by decide +kernel), List.mem_of_getElem? (i := 1192) (by decide +kernel)⟩
theorem lw_p108 : lw_okq (⟨"LetterCutsModel", "areLetters", "(I)Z"⟩, 27) := ⟨⟨by decide +kernel, by decide +kernel⟩, List.mem_of_getElem? (i := 823) (by decide +kernel), List.mem_of_getElem? (i := 1203) (by decide +kernel), List.mem_of_getElem? (i := 1204) (by decide +kernel)⟩
theorem lw_p109 : lw_okq (⟨"LetterCutsModel", "isCut", "(III)Z"⟩, 27) := ⟨⟨by decide +kernel, by decide +kernel⟩, List.mem_of_getElem? (i := 823) (by decide +kernel), List.mem_of_getElem? (i := 1215) (by decide +kernel), List.mem_of_getElem? (i := 1216) (by decide +kernel)⟩
def lw_privs_7 : List (MethodName × Nat) := [(⟨"LetterCutsModel", "isStrip", "(IIII)Z"⟩, 27), (⟨"LetterCutsModel", "plansBy", "(I)Z"⟩, 27), (⟨"LetterCutsModel", "plans", "(III)Z"⟩, 27), (⟨"LetterCutsModel", "keyOf", "(II)J"⟩, 27), (⟨"LetterCutsModel", "vainAt", "(J)I"⟩, 27), (⟨"LetterCutsModel", "cellsOf", "(III)J"⟩, 27), (⟨"LetterCutsModel", "toldCut", "(II)I"⟩, 27), (⟨"LetterCutsModel", "laySizes", "()V"⟩, 27), (⟨"LetterCutsModel", "cutPlan", "()V"⟩, 27), (⟨"LetterCutsModel", "goesOff", "(III)V"⟩, 27), (⟨"LetterCutsModel", "clashesNow", "()I"⟩, 27), (⟨"LetterCutsModel", "isWanted", "(II)Z"⟩, 27), (⟨"LetterCutsModel", "areLetters", "(I)Z"⟩, 27), (⟨"LetterCutsModel", "isCut", "(III)Z"⟩, 27)]
theorem lw_r7 : ∀ q ∈ lw_privs_7, lw_okq q := List.forall_mem_cons.mpr ⟨lw_p96, List.forall_mem_cons.mpr ⟨lw_p97, List.forall_mem_cons.mpr ⟨lw_p98, List.forall_mem_cons.mpr ⟨lw_p99, List.forall_mem_cons.mpr ⟨lw_p100, List.forall_mem_cons.mpr ⟨lw_p101, List.forall_mem_cons.mpr ⟨lw_p102, List.forall_mem_cons.mpr ⟨lw_p103, List.forall_mem_cons.mpr ⟨lw_p104, List.forall_mem_cons.mpr ⟨lw_p105, List.forall_mem_cons.mpr ⟨lw_p106, List.forall_mem_cons.mpr ⟨lw_p107, List.forall_mem_cons.mpr ⟨lw_p108, List.forall_mem_cons.mpr ⟨lw_p109, fun _ h => absurd h List.not_mem_nil⟩⟩⟩⟩⟩⟩⟩⟩⟩⟩⟩⟩⟩⟩
def lw_privs : List (MethodName × Nat) := lw_privs_1 ++ (lw_privs_2 ++ (lw_privs_3 ++ (lw_privs_4 ++ (lw_privs_5 ++ (lw_privs_6 ++ (lw_privs_7))))))
def lw_tbl : List Cond := k2_sels lw_privs ++ tables_1
theorem lw_privs_ok : ∀ q ∈ lw_privs, lw_okq q := by
  show ∀ q ∈ lw_privs_1 ++ (lw_privs_2 ++ (lw_privs_3 ++ (lw_privs_4 ++ (lw_privs_5 ++ (lw_privs_6 ++ (lw_privs_7)))))), lw_okq q
  exact List.forall_mem_append.mpr ⟨lw_r1, List.forall_mem_append.mpr ⟨lw_r2, List.forall_mem_append.mpr ⟨lw_r3, List.forall_mem_append.mpr ⟨lw_r4, List.forall_mem_append.mpr ⟨lw_r5, List.forall_mem_append.mpr ⟨lw_r6, lw_r7⟩⟩⟩⟩⟩⟩
/-- the streams that the claim lets the run draw from -/
abbrev lw_cs : List Choice := [Jvm.Choice.named "NaN.bits"]
theorem lw_bits : nanBits ∈ lw_cs := by first | decide | exact List.mem_cons_self | simp [lw_cs, nanBits]
/-! ===== BEGIN words of one list among another's, by their places ===== -/
theorem goodIn_r {big : List Cond} (ws : List Cond) (ps : List Nat) (hp : ws = ps.filterMap (fun i => big[i]?)) (h : ws.all goodWord = true) : GoodIn big ws := by
  intro w hw
  have h1 := List.all_eq_true.mp h w hw
  rw [hp] at hw
  obtain ⟨i, -, hi⟩ := List.mem_filterMap.mp hw
  have hm : w ∈ big := by first | exact List.mem_of_getElem? hi | exact List.getElem?_mem hi
  exact ⟨hm, good_of_word h1⟩
theorem goodIn_app {big a b : List Cond} (ha : GoodIn big a) (hb : GoodIn big b) : GoodIn big (a ++ b) := fun w h => (List.mem_append.mp h).elim (ha w) (hb w)
theorem goodIn_ca {big a b : List Cond} {c : Cond} (ha : GoodIn big (c :: a)) (hb : GoodIn big b) : GoodIn big (c :: (a ++ b)) := fun w h => (List.mem_cons.mp h).elim (fun e => ha w (List.mem_cons.mpr (Or.inl e))) (fun h => (List.mem_append.mp h).elim (fun h => ha w (List.mem_cons.mpr (Or.inr h))) (hb w))
theorem goodIn_sub {big ws : List Cond} (hm : ∀ w ∈ ws, w ∈ big) (h : ws.all goodWord = true) : GoodIn big ws := fun w hw => ⟨hm w hw, good_of_word (List.all_eq_true.mp h w hw)⟩
/-! ===== END ===== -/

def va_AOA (ty : FieldType) (U : State) : Prop := (Cond.arrayOver (.array ty)).before #[] U = true
theorem va_AOA.use {ty : FieldType} {A : Array Value} {U : State} (h : va_AOA ty U) : (Cond.arrayOver (.array ty)).before A U = true := h
/-! ===== BEGIN new T[n][m]: the outer array a place, the inner ones among the pooled ===== -/
/-- f, but v at every address of l -/
def vr_up {α : Type} (f : Nat → α) (l : List Nat) (v : α) : Nat → α := fun a => if a ∈ l then v else f a
theorem vr_up_in {α : Type} {f : Nat → α} {l : List Nat} {v : α} {a : Nat} (h : a ∈ l) : vr_up f l v a = v := if_pos h
theorem vr_up_ne {α : Type} {f : Nat → α} {l : List Nat} {v : α} {a : Nat} (h : a ∉ l) : vr_up f l v a = f a := if_neg h
theorem vr_rows {L l : List Nat} {f : Nat → va_E} {e : va_E} (h : ∀ a, a ∈ l → a ∉ L) : va_pl L f ++ l.map (fun a => (a, e)) = va_pl (L ++ l) (vr_up f l e) := by
  unfold va_pl
  rw [List.map_append]
  congr 1
  · apply List.map_congr_left
    intro a ha
    rw [vr_up_ne (fun q => h a q ha)]
  · apply List.map_congr_left
    intro a ha
    rw [vr_up_in ha]
theorem vr_lay {X rows : va_W} {x : Nat × va_E} {pl : va_W} {D : va_G} {cl : List vw_C} {H : Heap} (hP : va_P D cl (((X ++ pl) ++ [x]) ++ rows) H) : va_P D cl ((X ++ [x]) ++ (pl ++ rows)) H := by
  rw [List.append_assoc (X ++ pl)] at hP
  have h := va_P.swap hP
  rw [← List.append_assoc X] at h
  have h2 := va_P.swap h
  rw [List.append_assoc (X ++ [x])] at h2
  exact h2
theorem vr_layD {X rows : va_W} {x : Nat × va_E} {pl : va_W} {A : Nat → Prop} (hD : va_D A (((X ++ pl) ++ [x]) ++ rows)) : va_D A ((X ++ [x]) ++ (pl ++ rows)) := by
  rw [List.append_assoc (X ++ pl)] at hD
  have h := va_D.swap hD
  rw [← List.append_assoc X] at h
  have h2 := va_D.swap h
  rw [List.append_assoc (X ++ [x])] at h2
  exact h2
theorem vr_outer (c : ClassId) (N h0 : Nat) : ∀ i : Nat, Jvm.Free.Multi.outerC c N h0 i = arrV c N (fun j => va_rf (if j < i then some (h0 + 1 + j) else none))
  | 0 => by
    show ({ cls := c, slots := Array.replicate N .null, vm := .none } : Cell) = _
    rw [arrV_new]
    refine congrArg (arrV c N) (funext fun j => ?_)
    simp [va_rf]
  | i + 1 => by
    show (Jvm.Free.Multi.outerC c N h0 i).setSlot i (.ref (h0 + 1 + i)) = _
    rw [vr_outer c N h0 i, arrV_store]
    refine congrArg (arrV c N) (funext fun j => ?_)
    by_cases e : j = i
    · subst e
      simp [updV, va_rf]
    · by_cases h : j < i
      · simp [updV, e, h, Nat.lt_succ_of_lt h]
      · simp [updV, e, h, show ¬ j < i + 1 by omega]
section VGM
variable {p : Program} {l : Launch} {e : Env} {R : Room} {s : State} {m : MethodId} {args : Array Value} {below : List Frame} {meth : Method} {c : Code} {H : Heap} {locs : List Loc} {cells slots : Nat} {Q : State → Prop}
variable {cc : ByteArray} {pc : Nat} {ls : Array Slot} {rest : List Value} {D : va_G} {cl : List vw_C} {A : Nat → Prop} {a : Nat} {tys : List (ClassId × FieldType)} {ws : va_W} {H0 : Heap}
theorem va_mna {X : va_W} {L : List Nat} {f : Nat → va_E} {cc : ByteArray} (hexec : p.tables.exec = Jvm.exec) (hb : c.code = cc) {own : String} {index : Nat} {ty : FieldType} {cy : ClassId} (hown : s.vm.findClass own = some m.cls) (hclink : (Cond.classLink own index ("[" ++ (FieldType.array ty).toString)).before args s = true) (hover : va_AOA ty s) (harr : (Cond.arrayClass ty).before args s = true) (hcy : s.vm.findClass (FieldType.array ty).toString = some cy)
    (hK : va_K D cl tys s) (hP : va_P D cl (X ++ va_pl L f) H) (hD : va_D A (X ++ va_pl L f)) (hS : va_S A H0 H locs) (hA : ∀ q, H0.size ≤ q → A q) {n k : Int32} {N' K' : Nat} {z : vp_A} (hn : ¬ n < 0) (hk : ¬ k < 0) (hN : n.toNatClampNeg = N') (hM : k.toNatClampNeg = K')
    (hb1 : N' * 4 ≤ 536870912) (hb2 : K' * componentBytes ty ≤ 536870912) (hb3 : K' ≤ 536870912) (hdf : fits ty (defaultValue ty) = true) (hdd : (defaultValue ty).isDefault = true) (hcells : cells + (1 + N') ≤ R.cells) (hslots : slots + (N' + N' * K') ≤ R.slots) (hz : ∀ c : ClassId, Jvm.Free.Multi.innerC c K' (defaultValue ty) = vp_cell c z) (hdg : decode cc pc = .ok (.multianewarray index 2, 4))
    (kk : ∀ (q : Nat) (r : Nat → Nat) (cA : ClassId) (H1 : Heap), (∀ i j : Nat, i < N' → j < N' → r i = r j → i = j) → (∀ i : Nat, i < N' → r i ∉ L) → va_K D cl (tys ++ [(cA, .array ty)]) s →
      va_P D cl ((X ++ [(q, .inl (cA, N', .inr (.inr (.inr (.inr (fun i => if i < N' then some (r i) else none))))))]) ++ va_pl (L ++ (List.range N').map r) (vr_up f ((List.range N').map r) (.inl (cy, z)))) H1 → va_D A ((X ++ [(q, .inl (cA, N', .inr (.inr (.inr (.inr (fun i => if i < N' then some (r i) else none))))))]) ++ va_pl (L ++ (List.range N').map r) (vr_up f ((List.range N').map r) (.inl (cy, z)))) → va_S A H0 H1 locs →
      W p l e R s m args below meth c H1 locs (cells + 1 + N') (slots + N' + N' * K') Q (F0 m (pc + 4) ls (.ref q :: rest))) : W p l e R s m args below meth c H locs cells slots Q (F0 m pc ls (.int k :: .int n :: rest)) := by
  subst hN
  subst hM
  intro T hT Xs
  obtain ⟨vm₁, cA, comp, -, fA, fC, hO, -, X', step⟩ := Xs.multianewarray2F hexec hown hclink (va_AOA.use hover) harr (g := F0 m pc ls (.int k :: .int n :: rest)) rfl (by rw [hb]; exact hdg) rfl hn hk hb1 hb2 hb3 hdf hdd hcells hslots
  have ec : some cy = some comp := hcy.symm.trans fC
  cases ec
  generalize hF : Jvm.Free.Multi.fill (T.setVm vm₁) cA cy n.toNatClampNeg k.toNatClampNeg (defaultValue ty) n.toNatClampNeg = F at X' step
  have hTh : (T.setVm vm₁).heap = H := hT
  obtain ⟨f1, f2, -, -⟩ := Jvm.Free.Multi.fill_facts (T.setVm vm₁) cA cy n.toNatClampNeg k.toNatClampNeg (defaultValue ty) n.toNatClampNeg
  rw [hF, hTh] at f1 f2
  have hold : ∀ x : Nat, x < H.size → F.heap[x]? = H[x]? := fun x hx => by
    have := Jvm.Free.Multi.fill_old (T.setVm vm₁) cA cy n.toNatClampNeg k.toNatClampNeg (defaultValue ty) (a := x) (by rw [hTh]; exact hx) n.toNatClampNeg
    rw [hF, hTh] at this
    exact this
  have hrow : ∀ j : Nat, j < n.toNatClampNeg → F.heap[H.size + 1 + j]? = some (vp_cell cy z) := fun j hj => by
    have := Jvm.Free.Multi.fill_inner (T.setVm vm₁) cA cy n.toNatClampNeg k.toNatClampNeg (defaultValue ty) n.toNatClampNeg j hj
    rw [hF, hTh, hz] at this
    exact this
  have hout : Jvm.Free.Multi.outerC cA n.toNatClampNeg H.size n.toNatClampNeg = vp_cell cA (n.toNatClampNeg, .inr (.inr (.inr (.inr (fun i => if i < n.toNatClampNeg then some (H.size + 1 + i) else none))))) := by
    rw [vp_cell_q]
    exact vr_outer cA n.toNatClampNeg H.size n.toNatClampNeg
  rw [hout] at f2
  have hlt : ∀ a, a ∈ L → a < H.size := fun a ha => by
    obtain ⟨k9, hk9⟩ := va_pl_get (X := X) (f := f) ha
    exact (hP k9 _ hk9).lt
  have hnl : ∀ i : Nat, i < n.toNatClampNeg → H.size + 1 + i ∉ L := fun i _ h => by
    have := hlt _ h
    omega
  have hnm : ∀ a, a ∈ (List.range n.toNatClampNeg).map (fun i => H.size + 1 + i) → a ∉ L := fun a ha h => by
    obtain ⟨i, -, rfl⟩ := List.mem_map.mp ha
    have := hlt _ h
    omega
  have hP0 : va_P D cl (X ++ va_pl L f) F.heap := hP.kept (fun k9 x hx => hold x.1 ((hP k9 x hx).lt))
  have hP1 : va_P D cl ((X ++ va_pl L f) ++ [(H.size, .inl (cA, n.toNatClampNeg, .inr (.inr (.inr (.inr (fun i => if i < n.toNatClampNeg then some (H.size + 1 + i) else none))))))]) F.heap := hP0.app (fun k9 x hx => by
    have h0 : k9 < 1 := (List.getElem?_eq_some_iff.mp hx).1
    rw [show k9 = 0 by omega] at hx
    cases hx
    exact f2)
  have hP2 : va_P D cl (((X ++ va_pl L f) ++ [(H.size, .inl (cA, n.toNatClampNeg, .inr (.inr (.inr (.inr (fun i => if i < n.toNatClampNeg then some (H.size + 1 + i) else none))))))]) ++ ((List.range n.toNatClampNeg).map (fun i => H.size + 1 + i)).map (fun a => (a, .inl (cy, z)))) F.heap := hP1.app (fun k9 x hx => by
    obtain ⟨a, ha, rfl⟩ := List.mem_map.mp (List.mem_of_getElem? hx)
    obtain ⟨i, hi, rfl⟩ := List.mem_map.mp ha
    exact hrow i (List.mem_range.mp hi))
  have hD2 : va_D A (((X ++ va_pl L f) ++ [(H.size, .inl (cA, n.toNatClampNeg, .inr (.inr (.inr (.inr (fun i => if i < n.toNatClampNeg then some (H.size + 1 + i) else none))))))]) ++ ((List.range n.toNatClampNeg).map (fun i => H.size + 1 + i)).map (fun a => (a, .inl (cy, z)))) := by
    have hD1 := hD.push (e := .inl (cA, n.toNatClampNeg, .inr (.inr (.inr (.inr (fun i => if i < n.toNatClampNeg then some (H.size + 1 + i) else none)))))) hP rfl (hA _ hS.1)
    generalize hW1 : (X ++ va_pl L f) ++ [(H.size, .inl (cA, n.toNatClampNeg, .inr (.inr (.inr (.inr (fun i => if i < n.toNatClampNeg then some (H.size + 1 + i) else none))))))] = W1 at hD1 hP1 ⊢
    have hle : ∀ (k9 : Nat) (x : Nat × va_E), W1[k9]? = some x → x.1 ≤ H.size := fun k9 x hx => by
      rw [← hW1] at hx
      by_cases hl : k9 < (X ++ va_pl L f).length
      · rw [List.getElem?_append_left hl] at hx
        exact Nat.le_of_lt ((hP k9 x hx).lt)
      · rw [List.getElem?_append_right (by omega)] at hx
        have h0 : k9 - (X ++ va_pl L f).length < 1 := (List.getElem?_eq_some_iff.mp hx).1
        rw [show k9 - (X ++ va_pl L f).length = 0 by omega] at hx
        cases hx
        exact Nat.le_refl _
    have hr : ∀ (k9 : Nat) (x : Nat × va_E), (((List.range n.toNatClampNeg).map (fun i => H.size + 1 + i)).map (fun a => ((a, .inl (cy, z)) : Nat × va_E)))[k9]? = some x → x.1 = H.size + 1 + k9 := fun k9 x hx => by
      rw [List.getElem?_map, List.getElem?_map] at hx
      by_cases h9 : k9 < n.toNatClampNeg
      · rw [List.getElem?_range h9] at hx
        cases hx
        rfl
      · have hn0 : (List.range n.toNatClampNeg)[k9]? = none := List.getElem?_eq_none (by rw [List.length_range]; omega)
        rw [hn0] at hx
        cases hx
    refine ⟨fun i j x y hi hj hxy => ?_, fun k9 x hx => ?_⟩
    · by_cases h1 : i < W1.length <;> by_cases h2 : j < W1.length
      · rw [List.getElem?_append_left h1] at hi
        rw [List.getElem?_append_left h2] at hj
        exact hD1.1 i j x y hi hj hxy
      · rw [List.getElem?_append_left h1] at hi
        rw [List.getElem?_append_right (by omega)] at hj
        have := hle _ _ hi
        have := hr _ _ hj
        omega
      · rw [List.getElem?_append_right (by omega)] at hi
        rw [List.getElem?_append_left h2] at hj
        have := hle _ _ hj
        have := hr _ _ hi
        omega
      · rw [List.getElem?_append_right (by omega)] at hi hj
        have := hr _ _ hi
        have := hr _ _ hj
        omega
    · by_cases h1 : k9 < W1.length
      · rw [List.getElem?_append_left h1] at hx
        exact hD1.2 k9 x hx
      · rw [List.getElem?_append_right (by omega)] at hx
        have := hr _ _ hx
        exact hA _ (by have := hS.1; omega)
  have hAr : ArrOfT s cA (.array ty) := fun N9 z9 => by
    obtain ⟨-, k9, hk9, cm9, hkk9⟩ := (hO 0 0 0).1
    exact ⟨(fun q hq => by cases hq), k9, hk9, cm9, hkk9⟩
  have hK2 : va_K D cl (tys ++ [(cA, .array ty)]) s := ⟨hK.1, fun k9 x hx => by
    by_cases hl : k9 < tys.length
    · rw [List.getElem?_append_left hl] at hx
      exact hK.2 k9 x hx
    · rw [List.getElem?_append_right (by omega)] at hx
      have h0 : k9 - tys.length < 1 := (List.getElem?_eq_some_iff.mp hx).1
      rw [show k9 - tys.length = 0 by omega] at hx
      cases hx
      exact ⟨hAr, fA⟩⟩
  obtain ⟨t, a1, b1⟩ := kk H.size (fun i => H.size + 1 + i) cA F.heap (fun i j _ _ h => by have h9 : H.size + 1 + i = H.size + 1 + j := h; omega) hnl hK2 (by rw [← vr_rows hnm]; exact vr_lay hP2) (by rw [← vr_rows hnm]; exact vr_layD hD2) ⟨by rw [f1]; have := hS.1; omega, fun x h1 h2 => (hold x (Nat.lt_of_lt_of_le h1 hS.1)).trans (hS.2.1 x h1 h2), hS.2.2⟩ F rfl X'
  refine ⟨t, step t ?_, b1⟩
  have e : T.heap.size = H.size := by rw [hT]
  rw [e]
  exact a1
end VGM
/-! ===== END ===== -/

/-! ===== BEGIN exceptions that leave a method, and their catching by the caller (launches without stack traces) ===== -/
section VXA
/-! The laws vx_back, vx_callV, vx_callS, vx_callSW, vx_throw0, vx_throwS follow proofs of the library, with one case more: JvmDerived/Free/Laws.lean (Back.of_free), Shelf42/LK1.lean (callV, callS), Shelf/KitTraced.lean (throwNew0V, throwNewS). -/
/-- where a method has thrown q: the class by its name, the cell, what was written, the world -/
def vx_T (XC : String → State → State → Prop) (st : State) (q : Addr) (t : State) (mc ms : Nat) (free : Addr → Prop) : Prop :=
  ∃ (E : String) (ce : Cell) (L : List Loc), XC E st t ∧ t.heap[q]? = some ce ∧ ce.vm = .none ∧ st.vm.findClass E = some ce.cls ∧ st.WarmedH t.vm ∧ st.sameButNew ({ t with vm := st.vm } : State) L mc ms ∧ ∀ z ∈ L, free z.base
def vx_Q (Qc : Array Value → State → Outcome → State → Prop) (XC : String → State → State → Prop) (mc ms : Nat) (free : Addr → Prop) : Array Value → State → Outcome → State → Prop := fun a st o t =>
  (Qc a st o t ∧ ∃ L, FrameEnd st o t L mc ms ∧ ∀ q ∈ L, free q.base) ∨ ∃ q, o = .threw q ∧ vx_T XC st q t mc ms free
/-- a callee that returns or throws -/
def vx_Met (l : Launch) (y : MethodName) (ws : List Cond) (rm : Room) (Pc : Array Value → State → Prop) (Qc : Array Value → State → Outcome → State → Prop) (XC : String → State → State → Prop) (mc ms : Nat) (free : Addr → Prop) : Prop :=
  MetFree l y (headSpec ws rm) Pc (fun _ _ _ _ _ => True) (vx_Q Qc XC mc ms free)
def vx_Post (XC : String → State → State → Prop) (mc ms : Nat) (free : Addr → Prop) : Pt → Array Value → Addr → Pt → Prop := fun A a q B =>
  ∃ (g : JFrame) (mk : MethodId) (t : State) (L : List Loc) (E : String) (ce : Cell), B.U.heap = t.heap ∧ B.U.vm = t.vm ∧ XC E (A.U.calling g mk a) t ∧ t.heap[q]? = some ce ∧ ce.vm = .none ∧ A.U.vm.findClass E = some ce.cls ∧ B.locs = A.locs ++ L ∧ (∀ z ∈ L, free z.base) ∧ B.cells = A.cells + mc ∧ B.slots = A.slots + ms
def vx_Back (l : Launch) (R : Room) (p : Program) (e : Env) (below : List Frame) (s : State) (sargs : Array Value) (y : MethodName) (len W9 : Nat)
    (Pre : Pt → Array Value → Prop) (Post : Pt → Array Value → Option Value → Pt → Prop) (PostX : Pt → Array Value → Addr → Pt → Prop) : Prop :=
  ∀ (m : MethodId) (meth : Method) (c : Code) (A : Pt) (g : JFrame) (ig : Instr) (mk : MethodId) (a : Array Value),
    Stand p l e R s m sargs below meth c A.U A.locs A.cells A.slots → g.method = m → g.locals.size = c.maxLocals → decode c.code g.pc = .ok (ig, len) →
    2 * g.monitorRoom + (g.stack.map fun v => v.category).sum ≤ W9 → A.U.methodNamed? y = some mk → Pre A a →
    (∃ (v : Option Value) (B : Pt), Stand p l e R s m sargs below meth c B.U B.locs B.cells B.slots ∧ Post A a v B ∧
      Steps p.tables e below (doInvoke e (A.U.setTop g) [] mk a).1 (B.U.setTop { g with pc := g.pc + len, stack := v.toList ++ g.stack })) ∨
    (∃ (q : Addr) (B : Pt), Stand p l e R s m sargs below meth c B.U B.locs B.cells B.slots ∧ PostX A a q B ∧
      Steps p.tables e below (doInvoke e (A.U.setTop g) [] mk a).1 ((B.U.setTop g).pushFrame (.throwing q)))
section Payer
variable {l : Launch} {R : Room} {p : Program} {e : Env} {below : List Frame} {s : State} {sargs : Array Value} {y : MethodName} {len W9 : Nat}
theorem vx_back {ws : List Cond} {rm : Room} {Pc : Array Value → State → Prop} {Qc : Array Value → State → Outcome → State → Prop} {XC : String → State → State → Prop} {mc ms : Nat} {free : Addr → Prop} {bytes : ByteArray} {maxL : Nat} {ret : Option FieldType}
    (hM : vx_Met l y ws rm Pc Qc XC mc ms free) (hblind : FrameBlind Pc) (hrc : rm.cells = mc) (hrs : rm.slots = ms)
    (hframes : rm.frames + 1 ≤ R.frames) (hlocals : W9 + (maxL + 11) + rm.locals ≤ R.locals)
    (hws : ∀ w ∈ ws, ∀ a' U, s.WarmedH U.vm → w.before a' U = true) (hcode : Cond.code y bytes maxL ret ∈ ws) (hinit : ∀ a' U, s.WarmedH U.vm → (Cond.initialized y.cls).before a' U = true) :
    vx_Back l R p e below s sargs y len W9 (PreOf R mc ms Pc) (PostOf Qc mc ms free) (vx_Post XC mc ms free) := by
  intro m meth c A g ig mk a X hg hsize hdg hW hn hp
  have h1 : (headSpec ws rm).pre.before a A.U = true := atoms_intro fun w hw => hws w hw _ _ X.warmed
  have h2 : (Cond.code y bytes maxL ret).before a A.U = true := hws _ hcode _ _ X.warmed
  have h3 : (Cond.initialized y.cls).before a A.U = true := hinit _ _ X.warmed
  have h4 : A.cells + (headSpec ws rm).room.cells ≤ R.cells := by rw [show (headSpec ws rm).room.cells = mc from hrc]; exact hp.1
  have h5 : A.slots + (headSpec ws rm).room.slots ≤ R.slots := by rw [show (headSpec ws rm).room.slots = ms from hrs]; exact hp.2.1
  have hPc : Pc a (A.U.calling g mk a) := hblind _ _ _ _ hp.2.2
  obtain ⟨U, Ls, c0, s0⟩ := A
  dsimp only [Pt.U, Pt.locs, Pt.cells, Pt.slots] at h1 h2 h3 h4 h5 X hn hPc ⊢
  obtain ⟨methY, cY, hmY, hcY, -, hlY, -, -, -, -⟩ := Cond.code_spec hn h2
  obtain ⟨kY, hkY, -⟩ := className_of_methodNamed hn
  have hinitY : kY.init = .initialized := Cond.initialized_spec (findClass_of_methodNamed hn) hkY h3
  have h : At U g.method c below := by rw [hg]; exact X.here
  have hlocals9 : W9 + (maxL + 11) + (headSpec ws rm).room.locals ≤ R.locals := hlocals
  have happ : (headSpec ws rm).appliesLoose y e.platform (U.calling g mk a) = true :=
    Spec.appliesLoose_calling (g := g) h hdg hn hkY hinitY
      (X.room_calling (g := g) (R' := (headSpec ws rm).room) hsize hmY hcY hframes (by rw [hlY]; omega) h4 h5) h1
  obtain ⟨mid, hmid⟩ := h.above
  have hfr : (U.setTop g).frames = (.java g :: mid) ++ below := by rw [State.frames_setTop' g h.top, hmid]; rfl
  obtain ⟨o, s₂, hsteps, -, hend, hq⟩ := Steps.callFree hM p X.admits X.cas X.clock (acts := []) hfr happ hPc trivial
  have hq' : vx_Q Qc XC mc ms free a (U.calling g mk a) o s₂ := hq
  rw [State.frames_setTop' g h.top] at hend
  obtain ⟨g₀, hg0⟩ := Option.isSome_iff_exists.mp h.top
  obtain ⟨r, hr⟩ := State.topJava?_eq_some.mp hg0
  have hr' : (({ U with heap := s₂.heap, slotsUsed := s₂.slotsUsed } : State).setVm s₂.vm).frames = .java g₀ :: r := hr
  rcases hq' with ⟨hqc, L, hfe, hL⟩ | ⟨q, rfl, E, ce, L, hx, hce, hcv, hcl, hW₂, hsm, hL⟩
  · obtain ⟨⟨v, rfl⟩, hW₂, e2, q2, q3, q4, q5, q6⟩ := id hfe
    have e3 : s₂ = ({ (U.calling g mk a).setFrames s₂.frames with heap := s₂.heap, slotsUsed := s₂.slotsUsed } : State).setVm s₂.vm := by
      have : s₂ = ({ s₂ with vm := (U.calling g mk a).vm } : State).setVm s₂.vm := rfl
      rw [e2] at this
      exact this
    obtain ⟨c₂, i₂, len₂, hc₂, hd₂, hf₂⟩ := hend
    have hW' : U.WarmedH s₂.vm := hW₂
    have hcc : c₂ = c := by
      have h1 : s₂.code? g.method = U.code? g.method := by
        rw [State.code?_eq, State.code?_eq, hW'.alike.method?]
      exact Option.some.inj (hc₂.symm.trans (h1.trans h.code))
    subst hcc
    have hlen : len₂ = len := by rw [hdg] at hd₂; cases hd₂; rfl
    subst hlen
    have hs₂ : s₂ = (({ U with heap := s₂.heap, slotsUsed := s₂.slotsUsed } : State).setVm s₂.vm).setTop { g with pc := g.pc + len₂, stack := v.toList ++ g.stack } := by
      refine e3.trans ?_
      rw [hf₂, State.calling_eq h.top, State.setFrames_setFrames, State.setTop_of_frames _ hr', hr]
      rfl
    have hsame : U.sameButNew ({ U with heap := s₂.heap, slotsUsed := s₂.slotsUsed } : State) L mc ms := by
      refine ⟨?_, q2, q3, q4, q5, q6⟩
      obtain ⟨t, ht, -⟩ := State.frames_cons hr
      show ({ U with heap := s₂.heap, slotsUsed := s₂.slotsUsed } : State) = { U.setFrames U.frames with heap := s₂.heap, slotsUsed := s₂.slotsUsed }
      rw [State.setFrames_self ht]
    subst hg
    refine Or.inl ⟨v, ⟨(({ U with heap := s₂.heap, slotsUsed := s₂.slotsUsed } : State).setVm s₂.vm), Ls ++ L, c0 + mc, s0 + ms⟩,
      ⟨X.admits, X.cas, X.clock, X.frames, X.room, X.hears, X.method, X.code, (X.here.setHeapUsed s₂.heap s₂.slotsUsed).setVm hW'.alike, X.tail, State.WarmedH.trans X.warmed hW', X.limits, X.bytes, X.same.trans (hsame.setVm s.vm)⟩,
      ⟨g, mk, s₂, L, rfl, rfl, hqc, rfl, hL, rfl, rfl⟩, ?_⟩
    show Steps p.tables e below _ ((({ U with heap := s₂.heap, slotsUsed := s₂.slotsUsed } : State).setVm s₂.vm).setTop { g with pc := g.pc + len₂, stack := v.toList ++ g.stack })
    rw [← hs₂]
    exact hsteps
  · obtain ⟨e2, q2, q3, q4, q5, q6⟩ := id hsm
    have e3 : s₂ = ({ (U.calling g mk a).setFrames s₂.frames with heap := s₂.heap, slotsUsed := s₂.slotsUsed } : State).setVm s₂.vm := by
      have : s₂ = ({ s₂ with vm := (U.calling g mk a).vm } : State).setVm s₂.vm := rfl
      rw [e2] at this
      exact this
    have hf₂ : s₂.frames = .throwing q :: .java g :: U.frames.tail := hend
    have hW' : U.WarmedH s₂.vm := hW₂
    have hs₂ : s₂ = ((({ U with heap := s₂.heap, slotsUsed := s₂.slotsUsed } : State).setVm s₂.vm).setTop g).pushFrame (.throwing q) := by
      refine e3.trans ?_
      rw [hf₂, State.calling_eq h.top, State.setFrames_setFrames, State.pushFrame, State.frames_setTop _ hr', State.setTop_of_frames _ hr', State.setFrames_setFrames, hr]
      rfl
    have hsame : U.sameButNew ({ U with heap := s₂.heap, slotsUsed := s₂.slotsUsed } : State) L mc ms := by
      refine ⟨?_, q2, q3, q4, q5, q6⟩
      obtain ⟨t, ht, -⟩ := State.frames_cons hr
      show ({ U with heap := s₂.heap, slotsUsed := s₂.slotsUsed } : State) = { U.setFrames U.frames with heap := s₂.heap, slotsUsed := s₂.slotsUsed }
      rw [State.setFrames_self ht]
    subst hg
    refine Or.inr ⟨q, ⟨(({ U with heap := s₂.heap, slotsUsed := s₂.slotsUsed } : State).setVm s₂.vm), Ls ++ L, c0 + mc, s0 + ms⟩,
      ⟨X.admits, X.cas, X.clock, X.frames, X.room, X.hears, X.method, X.code, (X.here.setHeapUsed s₂.heap s₂.slotsUsed).setVm hW'.alike, X.tail, State.WarmedH.trans X.warmed hW', X.limits, X.bytes, X.same.trans (hsame.setVm s.vm)⟩,
      ⟨g, mk, s₂, L, E, ce, rfl, rfl, hx, hce, hcv, hcl, rfl, hL, rfl, rfl⟩, ?_⟩
    show Steps p.tables e below _ (((({ U with heap := s₂.heap, slotsUsed := s₂.slotsUsed } : State).setVm s₂.vm).setTop g).pushFrame (.throwing q))
    rw [← hs₂]
    exact hsteps
end Payer
section Calls
variable {p : Program} {l : Launch} {e : Env} {R : Room} {s : State} {m : MethodId} {args : Array Value} {below : List Frame} {meth : Method} {c : Code} {T : State} {locs : List Loc} {cells slots : Nat}
theorem vx_callV (X : Stand p l e R s m args below meth c T locs cells slots) (hexec : p.tables.exec = Jvm.exec) {own C : String} {index : Nat} {y : MethodName} {bytes : ByteArray} {maxL : Nat} {ret : Option FieldType}
    (hown : s.vm.findClass own = some m.cls) (hlink : (Cond.methodLink own index y).before args s = true) (hinst : (Cond.instanceMethod y).before args s = true) (hsel : (Cond.selects C y y).before args s = true)
    (hcode : (Cond.code y bytes maxL ret).before args s = true) (hy : y.cls ≠ "java/lang/invoke/MethodHandle" ∧ y.cls ≠ "java/lang/invoke/VarHandle")
    {W9 : Nat} {Pre : Pt → Array Value → Prop} {Post : Pt → Array Value → Option Value → Pt → Prop} {PostX : Pt → Array Value → Addr → Pt → Prop} (hK : vx_Back l R p e below s args y 3 W9 Pre Post PostX)
    {b : Addr} {cellB : Cell} (hcell : T.heap[b]? = some cellB) (hobj : cellB.vm.isStatics = false) (hcls : s.vm.findClass C = some cellB.cls)
    {g : JFrame} (hg : g.method = m) (hsize : g.locals.size = c.maxLocals) {argsL rest : List Value} (hlen : ∀ sig, parseMethodDescriptor y.desc = some sig → argsL.length = sig.parameters.length)
    (hstack : g.stack = argsL.reverse ++ .ref b :: rest) (hW : 2 * g.monitorRoom + (rest.map fun v => v.category).sum ≤ W9) (hdg : decode c.code g.pc = .ok (.invokevirtual index, 3))
    (hpre : ∀ vm₁, s.WarmedH vm₁ → Pre ⟨T.setVm vm₁, locs, cells, slots⟩ (Value.ref b :: argsL).toArray) :
    (∃ (v : Option Value) (vm₁ : Vm) (B : Pt), s.WarmedH vm₁ ∧ Stand p l e R s m args below meth c B.U B.locs B.cells B.slots ∧ Post ⟨T.setVm vm₁, locs, cells, slots⟩ (Value.ref b :: argsL).toArray v B ∧
      ∀ target, Steps p.tables e below (B.U.setTop { g with pc := g.pc + 3, stack := v.toList ++ rest }) target → Steps p.tables e below (T.setTop g) target) ∨
    (∃ (q : Addr) (vm₁ : Vm) (B : Pt), s.WarmedH vm₁ ∧ Stand p l e R s m args below meth c B.U B.locs B.cells B.slots ∧ PostX ⟨T.setVm vm₁, locs, cells, slots⟩ (Value.ref b :: argsL).toArray q B ∧
      Steps p.tables e below (T.setTop g) ((B.U.setTop { g with stack := rest }).pushFrame (.throwing q))) := by
  obtain ⟨mk, methM, hnamed, hmethM, hstM, habM⟩ := Cond.instanceMethod_spec hinst
  obtain ⟨methM', cM, hmethM', -, -, -, -, -, -, hsigM⟩ := Cond.code_spec hnamed hcode
  cases hmethM.symm.trans hmethM'
  obtain ⟨c2, r2, m2, q1, q2, q3, q4, kP, hkP, hkPi⟩ := Cond.selects_spec hsel
  cases hcls.symm.trans q1
  cases (State.methodFound?_of_named hnamed hy).symm.trans q2
  cases hnamed.symm.trans q3
  have hselP : selectMethod e.platform s.vm cellB.cls mk = .method mk := by rw [Launch.admits_selectMethod X.admits]; exact q4
  obtain ⟨vm₁, X₁, hstep₁⟩ := X.invokevirtual hexec hown hlink hnamed hmethM hstM hkP hkPi hy (a := b) (cell := cellB) hcell
    (fun z h => by rw [h] at hobj; cases hobj) hselP hmethM habM hkP hkPi (g := g) hg (argsL := argsL) (rest := rest) (hlen _ hsigM) hstack hdg
  rcases hK m meth c ⟨T.setVm vm₁, locs, cells, slots⟩ { g with stack := rest } (.invokevirtual index) mk (Value.ref b :: argsL).toArray X₁ hg hsize hdg hW (X₁.named hnamed) (hpre vm₁ X₁.warmed) with ⟨v, B, X', hpost, hsteps⟩ | ⟨q, B, X', hpost, hsteps⟩
  · exact Or.inl ⟨v, vm₁, B, X₁.warmed, X', hpost, fun target h => hstep₁ _ fun acts => by rw [doInvoke_state]; exact hsteps.trans h⟩
  · exact Or.inr ⟨q, vm₁, B, X₁.warmed, X', hpost, hstep₁ _ fun acts => by rw [doInvoke_state]; exact hsteps⟩
theorem vx_callS (X : Stand p l e R s m args below meth c T locs cells slots) (hexec : p.tables.exec = Jvm.exec) {own : String} {index : Nat} {y : MethodName} {bytes : ByteArray} {maxL : Nat} {ret : Option FieldType}
    (hown : s.vm.findClass own = some m.cls) (hlink : (Cond.methodLink own index y).before args s = true) (hstat : (Cond.static y).before args s = true) (hinit : (Cond.initialized y.cls).before args s = true)
    (hcode : (Cond.code y bytes maxL ret).before args s = true) (hy : y.cls ≠ "java/lang/invoke/MethodHandle" ∧ y.cls ≠ "java/lang/invoke/VarHandle")
    {W9 : Nat} {Pre : Pt → Array Value → Prop} {Post : Pt → Array Value → Option Value → Pt → Prop} {PostX : Pt → Array Value → Addr → Pt → Prop} (hK : vx_Back l R p e below s args y 3 W9 Pre Post PostX)
    {g : JFrame} (hg : g.method = m) (hsize : g.locals.size = c.maxLocals) {argsL rest : List Value} (hlen : ∀ sig, parseMethodDescriptor y.desc = some sig → argsL.length = sig.parameters.length)
    (hstack : g.stack = argsL.reverse ++ rest) (hW : 2 * g.monitorRoom + (rest.map fun v => v.category).sum ≤ W9) (hdg : decode c.code g.pc = .ok (.invokestatic index, 3))
    (hpre : ∀ vm₁, s.WarmedH vm₁ → Pre ⟨T.setVm vm₁, locs, cells, slots⟩ argsL.toArray) :
    (∃ (v : Option Value) (vm₁ : Vm) (B : Pt), s.WarmedH vm₁ ∧ Stand p l e R s m args below meth c B.U B.locs B.cells B.slots ∧ Post ⟨T.setVm vm₁, locs, cells, slots⟩ argsL.toArray v B ∧
      ∀ target, Steps p.tables e below (B.U.setTop { g with pc := g.pc + 3, stack := v.toList ++ rest }) target → Steps p.tables e below (T.setTop g) target) ∨
    (∃ (q : Addr) (vm₁ : Vm) (B : Pt), s.WarmedH vm₁ ∧ Stand p l e R s m args below meth c B.U B.locs B.cells B.slots ∧ PostX ⟨T.setVm vm₁, locs, cells, slots⟩ argsL.toArray q B ∧
      Steps p.tables e below (T.setTop g) ((B.U.setTop { g with stack := rest }).pushFrame (.throwing q))) := by
  obtain ⟨mk, hnamed⟩ := Cond.code_named hcode
  obtain ⟨methM, cM, hmethM, -, -, -, -, -, -, hsigM⟩ := Cond.code_spec hnamed hcode
  have hstatic : methM.isStatic = true := Cond.static_spec hnamed hmethM hstat
  obtain ⟨kP, hkP, -⟩ := className_of_methodNamed hnamed
  have hinitP : kP.init = .initialized := Cond.initialized_spec (findClass_of_methodNamed hnamed) hkP hinit
  obtain ⟨vm₁, X₁, hstep₁⟩ := X.invokestatic hexec hown hlink hnamed hmethM hstatic hkP hinitP hy (g := g) hg (argsL := argsL) (rest := rest) (hlen _ hsigM) hstack hdg
  rcases hK m meth c ⟨T.setVm vm₁, locs, cells, slots⟩ { g with stack := rest } (.invokestatic index) mk argsL.toArray X₁ hg hsize hdg hW (X₁.named hnamed) (hpre vm₁ X₁.warmed) with ⟨v, B, X', hpost, hsteps⟩ | ⟨q, B, X', hpost, hsteps⟩
  · exact Or.inl ⟨v, vm₁, B, X₁.warmed, X', hpost, fun target h => hstep₁ _ fun acts => by rw [doInvoke_state]; exact hsteps.trans h⟩
  · exact Or.inr ⟨q, vm₁, B, X₁.warmed, X', hpost, hstep₁ _ fun acts => by rw [doInvoke_state]; exact hsteps⟩
end Calls
theorem vx_cls {s : State} {T : State} {vm₁ : Vm} {E : String} {k : ClassId} (hW : s.WarmedH vm₁) (h : (T.setVm vm₁).vm.findClass E = some k) : s.vm.findClass E = some k := by
  have h1 : vm₁.findClass E = some k := h
  rw [hW.alike.findClass] at h1
  exact h1
/-- the method's frame g, with q thrown over it -/
def vx_W (p : Program) (l : Launch) (e : Env) (R : Room) (s : State) (m : MethodId) (args : Array Value) (below : List Frame) (meth : Method) (c : Code) (H : Heap) (locs : List Loc) (cells slots : Nat) (Q : State → Prop) (g : JFrame) (q : Addr) : Prop :=
  ∀ T : State, T.heap = H → Stand p l e R s m args below meth c T locs cells slots → ∃ t, Steps p.tables e below ((T.setTop g).pushFrame (.throwing q)) t ∧ Q t
def vx_Run (p : Program) (l : Launch) (e : Env) (R : Room) (s : State) (m : MethodId) (args : Array Value) (below : List Frame) (meth : Method) (c : Code) (H : Heap) (locs : List Loc) (cells slots mc ms : Nat) (g : JFrame) (rest : List Value) (Qa : State → Outcome → State → Prop) (XC : String → State → State → Prop) (free : Addr → Prop) : Prop :=
  ∀ T : State, T.heap = H → Stand p l e R s m args below meth c T locs cells slots →
    (∃ (v : Option Value) (st₀ t T' : State) (L : List Loc), st₀.heap = H ∧ Stand p l e R s m args below meth c T' (locs ++ L) (cells + mc) (slots + ms) ∧ (∀ q ∈ L, free q.base) ∧ T'.heap = t.heap ∧ T'.vm = t.vm ∧ Qa st₀ (.returned v) t ∧
      Goes p e below T g T' { g with pc := g.pc + 3, stack := v.toList ++ rest }) ∨
    (∃ (q : Addr) (st₀ t T' : State) (L : List Loc) (E : String) (ce : Cell), st₀.heap = H ∧ Stand p l e R s m args below meth c T' (locs ++ L) (cells + mc) (slots + ms) ∧ (∀ z ∈ L, free z.base) ∧ T'.heap = t.heap ∧ T'.vm = t.vm ∧ XC E st₀ t ∧ t.heap[q]? = some ce ∧ ce.vm = .none ∧ s.vm.findClass E = some ce.cls ∧
      Steps p.tables e below (T.setTop g) ((T'.setTop { g with stack := rest }).pushFrame (.throwing q)))
def vx_X {S : Type} (px : S → Prop) (B : String → S → State → Prop) (A : Nat → Prop) : String → State → State → Prop := fun E st t => ∃ u : S, px u ∧ B E u t ∧ va_F A st t
section Runs
variable {p : Program} {l : Launch} {e : Env} {R : Room} {s : State} {m : MethodId} {args : Array Value} {below : List Frame} {meth : Method} {c : Code} {H : Heap} {locs : List Loc} {cells slots : Nat}
variable {y : MethodName} {bytes cc : ByteArray} {maxL nL mc ms n index : Nat} {ret : Option FieldType} {ws : List Cond} {rm : Room} {Pc : Array Value → State → Prop} {Qc : Array Value → State → Outcome → State → Prop} {XC : String → State → State → Prop} {free : Addr → Prop} {Ts : List Cond} {own C : String} {b : Addr} {As rest : List Value} {g : JFrame}
theorem vx_callBack (cb : CallB R s args own index y bytes maxL ret ws rm mc ms n) (hM : vx_Met l y ws rm Pc Qc XC mc ms free) (hbl : FrameBlind Pc) : vx_Back l R p e below s args y 3 8 (PreOf R mc ms Pc) (PostOf Qc mc ms free) (vx_Post XC mc ms free) := by
  obtain ⟨hrc, hrs, hfr, hlo, hws, hcw, -, hini, -⟩ := cb
  exact vx_back (bytes := bytes) (maxL := maxL) (ret := ret) hM hbl hrc hrs hfr hlo hws hcw (fun a' U hW => word_at hW (Or.inl (by first | rfl | simp [Cond.onTables, Cond.keeps, Cond.steady])) hini)
theorem vx_runV (S : CallFix p m c cc nL s args Ts own) (hM : vx_Met l y ws rm Pc Qc XC mc ms free) (cw : CallW R s args own C index y bytes maxL ret ws rm mc ms n) (hp : PreV s H C b Pc As)
    (hg : g.method = m) (hn : As.length = n) (hsize : g.locals.size = nL) (hstack : g.stack = As.reverse ++ .ref b :: rest) (hW : 2 * g.monitorRoom + (rest.map fun v => v.category).sum ≤ 8) (hdg : decode cc g.pc = .ok (.invokevirtual index, 3)) (hf : cells + mc ≤ R.cells ∧ slots + ms ≤ R.slots) :
    vx_Run p l e R s m args below meth c H locs cells slots mc ms g rest (Qc (Value.ref b :: As).toArray) XC free := by
  have hK : vx_Back l R p e below s args y 3 8 (PreOf R mc ms Pc) (PostOf Qc mc ms free) (vx_Post XC mc ms free) := vx_callBack cw.1 hM hp.1
  obtain ⟨⟨-, -, -, -, -, -, hcode, -, hy, hlen, hl⟩, hin, hse⟩ := cw
  obtain ⟨hx, hb, hml, ho, -⟩ := S
  obtain ⟨-, ⟨cellB, hcB, hoB, hclB⟩, hPc⟩ := hp
  intro T hT X
  rcases vx_callV X hx (C := C) (bytes := bytes) (maxL := maxL) (ret := ret) ho hl hin hse hcode hy hK (by rw [hT]; exact hcB) hoB hclB hg (hsize.trans hml.symm) (argsL := As) (rest := rest) (fun sig h => hn.trans (hlen sig h)) hstack hW (by rw [hb]; exact hdg)
    (fun vm₁ hW₁ => ⟨hf.1, hf.2, hPc (T.setVm vm₁) hT hW₁⟩) with ⟨v, vm₁, ⟨U', l2, c2, s2⟩, hW₁, X', ⟨g', mk, t, L, e1, e2, hq, h1, hL, h2, h3⟩, st⟩ | ⟨q, vm₁, ⟨U', l2, c2, s2⟩, hW₁, X', ⟨g', mk, t, L, E, ce, e1, e2, hq, hce, hcv, hcl, h1, hL, h2, h3⟩, st⟩
  · dsimp only [Pt.U, Pt.locs, Pt.cells, Pt.slots] at X' e1 e2 h1 h2 h3 st
    subst h1; subst h2; subst h3
    exact Or.inl ⟨v, (T.setVm vm₁).calling g' mk (Value.ref b :: As).toArray, t, U', L, hT, X', hL, e1, e2, hq, st⟩
  · dsimp only [Pt.U, Pt.locs, Pt.cells, Pt.slots] at X' e1 e2 h1 h2 h3 st hcl
    subst h1; subst h2; subst h3
    exact Or.inr ⟨q, (T.setVm vm₁).calling g' mk (Value.ref b :: As).toArray, t, U', L, E, ce, hT, X', hL, e1, e2, hq, hce, hcv, vx_cls hW₁ hcl, st⟩
theorem vx_runS (S : CallFix p m c cc nL s args Ts own) (hM : vx_Met l y ws rm Pc Qc XC mc ms free) (cw : CallB R s args own index y bytes maxL ret ws rm mc ms n ∧ (Cond.static y).before args s = true) (hp : PreS s H Pc As)
    (hg : g.method = m) (hn : As.length = n) (hsize : g.locals.size = nL) (hstack : g.stack = As.reverse ++ rest) (hW : 2 * g.monitorRoom + (rest.map fun v => v.category).sum ≤ 8) (hdg : decode cc g.pc = .ok (.invokestatic index, 3)) (hf : cells + mc ≤ R.cells ∧ slots + ms ≤ R.slots) :
    vx_Run p l e R s m args below meth c H locs cells slots mc ms g rest (Qc As.toArray) XC free := by
  have hK : vx_Back l R p e below s args y 3 8 (PreOf R mc ms Pc) (PostOf Qc mc ms free) (vx_Post XC mc ms free) := vx_callBack cw.1 hM hp.1
  obtain ⟨⟨-, -, -, -, -, -, hcode, hini, hy, hlen, hl⟩, hstt⟩ := cw
  obtain ⟨hx, hb, hml, ho, -⟩ := S
  intro T hT X
  rcases vx_callS X hx (bytes := bytes) (maxL := maxL) (ret := ret) ho hl hstt hini hcode hy hK hg (hsize.trans hml.symm) (argsL := As) (rest := rest) (fun sig h => hn.trans (hlen sig h)) hstack hW (by rw [hb]; exact hdg)
    (fun vm₁ hW₁ => ⟨hf.1, hf.2, hp.2 (T.setVm vm₁) hT hW₁⟩) with ⟨v, vm₁, ⟨U', l2, c2, s2⟩, hW₁, X', ⟨g', mk, t, L, e1, e2, hq, h1, hL, h2, h3⟩, st⟩ | ⟨q, vm₁, ⟨U', l2, c2, s2⟩, hW₁, X', ⟨g', mk, t, L, E, ce, e1, e2, hq, hce, hcv, hcl, h1, hL, h2, h3⟩, st⟩
  · dsimp only [Pt.U, Pt.locs, Pt.cells, Pt.slots] at X' e1 e2 h1 h2 h3 st
    subst h1; subst h2; subst h3
    exact Or.inl ⟨v, (T.setVm vm₁).calling g' mk As.toArray, t, U', L, hT, X', hL, e1, e2, hq, st⟩
  · dsimp only [Pt.U, Pt.locs, Pt.cells, Pt.slots] at X' e1 e2 h1 h2 h3 st hcl
    subst h1; subst h2; subst h3
    exact Or.inr ⟨q, (T.setVm vm₁).calling g' mk As.toArray, t, U', L, E, ce, hT, X', hL, e1, e2, hq, hce, hcv, vx_cls hW₁ hcl, st⟩
end Runs
section Rows
variable {p : Program} {l : Launch} {e : Env} {R : Room} {s : State} {m : MethodId} {args : Array Value} {below : List Frame} {meth : Method} {c : Code} {H : Heap} {locs : List Loc} {cells slots : Nat} {Q : State → Prop}
variable {mc ms : Nat} {free : Addr → Prop} {A0 A1 : Nat → Prop} {H0 : Heap} {a : Array Value} {pc : Nat} {ls : Array Slot} {st0 rest : List Value}
theorem vx_keep {st₀ t T' : State} {L : List Loc} (h0 : st₀.heap = H) (e1 : T'.heap = t.heap) (hS : va_S A0 H0 H locs) (hA : ∀ q, q < H.size → A1 q → A0 q) (hf : ∀ q, free q → A0 q) (hL : ∀ q ∈ L, free q.base) (hF : va_F A1 st₀ t) :
    H.size ≤ T'.heap.size ∧ (∀ q : Nat, q < H.size → ¬ A1 q → T'.heap[q]? = H[q]?) ∧ va_S A0 H0 T'.heap (locs ++ L) := by
  obtain ⟨hz, hk⟩ := hF
  rw [h0] at hz hk
  exact ⟨by rw [e1]; exact hz, fun q h1 h2 => by rw [e1]; exact hk q h1 h2,
    ⟨Nat.le_trans hS.1 (by rw [e1]; exact hz), fun q h1 h2 => by rw [e1, hk q (Nat.lt_of_lt_of_le h1 hS.1) (fun z => h2 (hA q (Nat.lt_of_lt_of_le h1 hS.1) z))]; exact hS.2.1 q h1 h2, fun q hq => by
      rcases List.mem_append.mp hq with h | h
      · exact hS.2.2 q h
      · exact hf _ (hL q h)⟩⟩
theorem vx_calli {S SX : Type} {post : Int32 → S → Prop} {px : SX → Prop} {B : S → State → Prop} {BX : String → SX → State → Prop} {AX : Nat → Prop} (hr : vx_Run p l e R s m args below meth c H locs cells slots mc ms (F0 m pc ls st0) rest (va_Qi post B A1 a) (vx_X px BX AX) free) (hS : va_S A0 H0 H locs) (hA : ∀ q, q < H.size → A1 q → A0 q) (hf : ∀ q, free q → A0 q) (hAX : ∀ q, q < H.size → AX q → A0 q)
    (kx : ∀ (E : String) (ce : Cell) (q9 : Addr) (u : SX) (t : State) (H1 : Heap) (locs1 : List Loc), t.heap = H1 → s.vm.Alike t.vm → px u → BX E u t → H.size ≤ H1.size → (∀ q : Nat, q < H.size → ¬ AX q → H1[q]? = H[q]?) → va_S A0 H0 H1 locs1 → H1[q9]? = some ce → ce.vm = .none → s.vm.findClass E = some ce.cls → vx_W p l e R s m args below meth c H1 locs1 (cells + mc) (slots + ms) Q (F0 m pc ls rest) q9)
    (kk : ∀ (r : Int32) (u : S) (t : State) (H1 : Heap) (locs1 : List Loc), t.heap = H1 → s.vm.Alike t.vm → post r u → B u t → H.size ≤ H1.size → (∀ q : Nat, q < H.size → ¬ A1 q → H1[q]? = H[q]?) → va_S A0 H0 H1 locs1 → W p l e R s m args below meth c H1 locs1 (cells + mc) (slots + ms) Q (F0 m (pc + 3) ls (.int r :: rest))) : W p l e R s m args below meth c H locs cells slots Q (F0 m pc ls st0) := by
  intro T hT X
  rcases hr T hT X with ⟨v, st₀, t, T', L, h0, X', hL, e1, e2, ⟨⟨r, u, hv, hp, hb⟩, hF⟩, st⟩ | ⟨q, st₀, t, T', L, E, ce, h0, X', hL, e1, e2, ⟨u, hp, hb, hF⟩, hce, hcv, hcl, st⟩
  · cases hv
    obtain ⟨k1, k2, k3⟩ := vx_keep h0 e1 hS hA hf hL hF
    obtain ⟨t2, a1, b1⟩ := kk r u t T'.heap (locs ++ L) e1.symm (by rw [← e2]; exact X'.warmed.alike) hp hb k1 k2 k3 T' rfl X'
    exact ⟨t2, st t2 a1, b1⟩
  · obtain ⟨k1, k2, k3⟩ := vx_keep h0 e1 hS hAX hf hL hF
    obtain ⟨t2, a1, b1⟩ := kx E ce q u t T'.heap (locs ++ L) e1.symm (by rw [← e2]; exact X'.warmed.alike) hp hb k1 k2 k3 (by rw [e1]; exact hce) hcv hcl T' rfl X'
    exact ⟨t2, st.trans a1, b1⟩
theorem vx_calll {S SX : Type} {post : Int64 → S → Prop} {px : SX → Prop} {B : S → State → Prop} {BX : String → SX → State → Prop} {AX : Nat → Prop} (hr : vx_Run p l e R s m args below meth c H locs cells slots mc ms (F0 m pc ls st0) rest (va_Ql post B A1 a) (vx_X px BX AX) free) (hS : va_S A0 H0 H locs) (hA : ∀ q, q < H.size → A1 q → A0 q) (hf : ∀ q, free q → A0 q) (hAX : ∀ q, q < H.size → AX q → A0 q)
    (kx : ∀ (E : String) (ce : Cell) (q9 : Addr) (u : SX) (t : State) (H1 : Heap) (locs1 : List Loc), t.heap = H1 → s.vm.Alike t.vm → px u → BX E u t → H.size ≤ H1.size → (∀ q : Nat, q < H.size → ¬ AX q → H1[q]? = H[q]?) → va_S A0 H0 H1 locs1 → H1[q9]? = some ce → ce.vm = .none → s.vm.findClass E = some ce.cls → vx_W p l e R s m args below meth c H1 locs1 (cells + mc) (slots + ms) Q (F0 m pc ls rest) q9)
    (kk : ∀ (r : Int64) (u : S) (t : State) (H1 : Heap) (locs1 : List Loc), t.heap = H1 → s.vm.Alike t.vm → post r u → B u t → H.size ≤ H1.size → (∀ q : Nat, q < H.size → ¬ A1 q → H1[q]? = H[q]?) → va_S A0 H0 H1 locs1 → W p l e R s m args below meth c H1 locs1 (cells + mc) (slots + ms) Q (F0 m (pc + 3) ls (.long r :: rest))) : W p l e R s m args below meth c H locs cells slots Q (F0 m pc ls st0) := by
  intro T hT X
  rcases hr T hT X with ⟨v, st₀, t, T', L, h0, X', hL, e1, e2, ⟨⟨r, u, hv, hp, hb⟩, hF⟩, st⟩ | ⟨q, st₀, t, T', L, E, ce, h0, X', hL, e1, e2, ⟨u, hp, hb, hF⟩, hce, hcv, hcl, st⟩
  · cases hv
    obtain ⟨k1, k2, k3⟩ := vx_keep h0 e1 hS hA hf hL hF
    obtain ⟨t2, a1, b1⟩ := kk r u t T'.heap (locs ++ L) e1.symm (by rw [← e2]; exact X'.warmed.alike) hp hb k1 k2 k3 T' rfl X'
    exact ⟨t2, st t2 a1, b1⟩
  · obtain ⟨k1, k2, k3⟩ := vx_keep h0 e1 hS hAX hf hL hF
    obtain ⟨t2, a1, b1⟩ := kx E ce q u t T'.heap (locs ++ L) e1.symm (by rw [← e2]; exact X'.warmed.alike) hp hb k1 k2 k3 (by rw [e1]; exact hce) hcv hcl T' rfl X'
    exact ⟨t2, st.trans a1, b1⟩
theorem vx_callf {S SX : Type} {post : UInt32 → S → Prop} {px : SX → Prop} {B : S → State → Prop} {BX : String → SX → State → Prop} {AX : Nat → Prop} (hr : vx_Run p l e R s m args below meth c H locs cells slots mc ms (F0 m pc ls st0) rest (va_Qf post B A1 a) (vx_X px BX AX) free) (hS : va_S A0 H0 H locs) (hA : ∀ q, q < H.size → A1 q → A0 q) (hf : ∀ q, free q → A0 q) (hAX : ∀ q, q < H.size → AX q → A0 q)
    (kx : ∀ (E : String) (ce : Cell) (q9 : Addr) (u : SX) (t : State) (H1 : Heap) (locs1 : List Loc), t.heap = H1 → s.vm.Alike t.vm → px u → BX E u t → H.size ≤ H1.size → (∀ q : Nat, q < H.size → ¬ AX q → H1[q]? = H[q]?) → va_S A0 H0 H1 locs1 → H1[q9]? = some ce → ce.vm = .none → s.vm.findClass E = some ce.cls → vx_W p l e R s m args below meth c H1 locs1 (cells + mc) (slots + ms) Q (F0 m pc ls rest) q9)
    (kk : ∀ (r : UInt32) (u : S) (t : State) (H1 : Heap) (locs1 : List Loc), t.heap = H1 → s.vm.Alike t.vm → post r u → B u t → H.size ≤ H1.size → (∀ q : Nat, q < H.size → ¬ A1 q → H1[q]? = H[q]?) → va_S A0 H0 H1 locs1 → W p l e R s m args below meth c H1 locs1 (cells + mc) (slots + ms) Q (F0 m (pc + 3) ls (.float r :: rest))) : W p l e R s m args below meth c H locs cells slots Q (F0 m pc ls st0) := by
  intro T hT X
  rcases hr T hT X with ⟨v, st₀, t, T', L, h0, X', hL, e1, e2, ⟨⟨r, u, hv, hp, hb⟩, hF⟩, st⟩ | ⟨q, st₀, t, T', L, E, ce, h0, X', hL, e1, e2, ⟨u, hp, hb, hF⟩, hce, hcv, hcl, st⟩
  · cases hv
    obtain ⟨k1, k2, k3⟩ := vx_keep h0 e1 hS hA hf hL hF
    obtain ⟨t2, a1, b1⟩ := kk r u t T'.heap (locs ++ L) e1.symm (by rw [← e2]; exact X'.warmed.alike) hp hb k1 k2 k3 T' rfl X'
    exact ⟨t2, st t2 a1, b1⟩
  · obtain ⟨k1, k2, k3⟩ := vx_keep h0 e1 hS hAX hf hL hF
    obtain ⟨t2, a1, b1⟩ := kx E ce q u t T'.heap (locs ++ L) e1.symm (by rw [← e2]; exact X'.warmed.alike) hp hb k1 k2 k3 (by rw [e1]; exact hce) hcv hcl T' rfl X'
    exact ⟨t2, st.trans a1, b1⟩
theorem vx_calld {S SX : Type} {post : UInt64 → S → Prop} {px : SX → Prop} {B : S → State → Prop} {BX : String → SX → State → Prop} {AX : Nat → Prop} (hr : vx_Run p l e R s m args below meth c H locs cells slots mc ms (F0 m pc ls st0) rest (va_Qd post B A1 a) (vx_X px BX AX) free) (hS : va_S A0 H0 H locs) (hA : ∀ q, q < H.size → A1 q → A0 q) (hf : ∀ q, free q → A0 q) (hAX : ∀ q, q < H.size → AX q → A0 q)
    (kx : ∀ (E : String) (ce : Cell) (q9 : Addr) (u : SX) (t : State) (H1 : Heap) (locs1 : List Loc), t.heap = H1 → s.vm.Alike t.vm → px u → BX E u t → H.size ≤ H1.size → (∀ q : Nat, q < H.size → ¬ AX q → H1[q]? = H[q]?) → va_S A0 H0 H1 locs1 → H1[q9]? = some ce → ce.vm = .none → s.vm.findClass E = some ce.cls → vx_W p l e R s m args below meth c H1 locs1 (cells + mc) (slots + ms) Q (F0 m pc ls rest) q9)
    (kk : ∀ (r : UInt64) (u : S) (t : State) (H1 : Heap) (locs1 : List Loc), t.heap = H1 → s.vm.Alike t.vm → post r u → B u t → H.size ≤ H1.size → (∀ q : Nat, q < H.size → ¬ A1 q → H1[q]? = H[q]?) → va_S A0 H0 H1 locs1 → W p l e R s m args below meth c H1 locs1 (cells + mc) (slots + ms) Q (F0 m (pc + 3) ls (.double r :: rest))) : W p l e R s m args below meth c H locs cells slots Q (F0 m pc ls st0) := by
  intro T hT X
  rcases hr T hT X with ⟨v, st₀, t, T', L, h0, X', hL, e1, e2, ⟨⟨r, u, hv, hp, hb⟩, hF⟩, st⟩ | ⟨q, st₀, t, T', L, E, ce, h0, X', hL, e1, e2, ⟨u, hp, hb, hF⟩, hce, hcv, hcl, st⟩
  · cases hv
    obtain ⟨k1, k2, k3⟩ := vx_keep h0 e1 hS hA hf hL hF
    obtain ⟨t2, a1, b1⟩ := kk r u t T'.heap (locs ++ L) e1.symm (by rw [← e2]; exact X'.warmed.alike) hp hb k1 k2 k3 T' rfl X'
    exact ⟨t2, st t2 a1, b1⟩
  · obtain ⟨k1, k2, k3⟩ := vx_keep h0 e1 hS hAX hf hL hF
    obtain ⟨t2, a1, b1⟩ := kx E ce q u t T'.heap (locs ++ L) e1.symm (by rw [← e2]; exact X'.warmed.alike) hp hb k1 k2 k3 (by rw [e1]; exact hce) hcv hcl T' rfl X'
    exact ⟨t2, st.trans a1, b1⟩
theorem vx_callv {S SX : Type} {post : S → Prop} {px : SX → Prop} {B : S → State → Prop} {BX : String → SX → State → Prop} {AX : Nat → Prop} (hr : vx_Run p l e R s m args below meth c H locs cells slots mc ms (F0 m pc ls st0) rest (va_Qv post B A1 a) (vx_X px BX AX) free) (hS : va_S A0 H0 H locs) (hA : ∀ q, q < H.size → A1 q → A0 q) (hf : ∀ q, free q → A0 q) (hAX : ∀ q, q < H.size → AX q → A0 q)
    (kx : ∀ (E : String) (ce : Cell) (q9 : Addr) (u : SX) (t : State) (H1 : Heap) (locs1 : List Loc), t.heap = H1 → s.vm.Alike t.vm → px u → BX E u t → H.size ≤ H1.size → (∀ q : Nat, q < H.size → ¬ AX q → H1[q]? = H[q]?) → va_S A0 H0 H1 locs1 → H1[q9]? = some ce → ce.vm = .none → s.vm.findClass E = some ce.cls → vx_W p l e R s m args below meth c H1 locs1 (cells + mc) (slots + ms) Q (F0 m pc ls rest) q9)
    (kk : ∀ (u : S) (t : State) (H1 : Heap) (locs1 : List Loc), t.heap = H1 → s.vm.Alike t.vm → post u → B u t → H.size ≤ H1.size → (∀ q : Nat, q < H.size → ¬ A1 q → H1[q]? = H[q]?) → va_S A0 H0 H1 locs1 → W p l e R s m args below meth c H1 locs1 (cells + mc) (slots + ms) Q (F0 m (pc + 3) ls (rest))) : W p l e R s m args below meth c H locs cells slots Q (F0 m pc ls st0) := by
  intro T hT X
  rcases hr T hT X with ⟨v, st₀, t, T', L, h0, X', hL, e1, e2, ⟨⟨u, hv, hp, hb⟩, hF⟩, st⟩ | ⟨q, st₀, t, T', L, E, ce, h0, X', hL, e1, e2, ⟨u, hp, hb, hF⟩, hce, hcv, hcl, st⟩
  · cases hv
    obtain ⟨k1, k2, k3⟩ := vx_keep h0 e1 hS hA hf hL hF
    obtain ⟨t2, a1, b1⟩ := kk u t T'.heap (locs ++ L) e1.symm (by rw [← e2]; exact X'.warmed.alike) hp hb k1 k2 k3 T' rfl X'
    exact ⟨t2, st t2 a1, b1⟩
  · obtain ⟨k1, k2, k3⟩ := vx_keep h0 e1 hS hAX hf hL hF
    obtain ⟨t2, a1, b1⟩ := kx E ce q u t T'.heap (locs ++ L) e1.symm (by rw [← e2]; exact X'.warmed.alike) hp hb k1 k2 k3 (by rw [e1]; exact hce) hcv hcl T' rfl X'
    exact ⟨t2, st.trans a1, b1⟩
/-- caught by the row x of this method's table; the rows ahead don't take it -/
theorem vx_catch {own name : String} {E : String} {ce : Cell} {q : Addr} (hown : s.vm.findClass own = some m.cls) (pre : List ExceptionTableEntry) (x : ExceptionTableEntry) (suf : List ExceptionTableEntry) (hsplit : c.exceptionTable.toList = pre ++ x :: suf)
    (hpass : ∀ z ∈ pre, covers z pc = false ∨ (z.catchType ≠ 0 ∧ ∃ nm : String, (Cond.classLink own z.catchType nm).before args s = true ∧ va_Nc E nm s)) (hx : covers x pc = true) (h0 : x.catchType ≠ 0)
    (hlink : (Cond.classLink own x.catchType name).before args s = true) (hcast : (Cond.castable E name).before args s = true) (hcell : H[q]? = some ce) (hv : ce.vm = .none) (hcl : s.vm.findClass E = some ce.cls)
    (kk : W p l e R s m args below meth c H locs cells slots Q (F0 m x.handlerPc ls [.ref q])) : vx_W p l e R s m args below meth c H locs cells slots Q (F0 m pc ls rest) q := by
  intro T hT X
  have hpl : e.platform.magicAccessors = ({} : Platform).magicAccessors := by rw [X.admits.platform]
  obtain ⟨c3, c4, hc3, hc4, hasg⟩ := Cond.castable_spec hcast
  cases Option.some.inj (hc3.symm.trans hcl)
  obtain ⟨c5, hc5, hcl5⟩ := Cond.classLink_spec hown hlink e.platform hpl
  cases Option.some.inj (hc4.symm.trans hc5)
  obtain ⟨vm', X', st⟩ := X.thenCaughtThrough q (g := F0 m pc ls rest) rfl (Steps.refl _) (by rw [hT]; exact hcell) (by rw [hv]; rfl) (by obtain ⟨k9, h9, -⟩ := Vm.findClass_spec hcl; exact ⟨k9, h9⟩) pre x suf hsplit
    (fun z hz => by
      rcases hpass z hz with h | ⟨hz0, nm, hl1, hn1⟩
      · exact Or.inl h
      · obtain ⟨c6, hc6, hcl6⟩ := Cond.classLink_spec hown hl1 e.platform hpl
        obtain ⟨a8, b8, h1, h2, h3⟩ := hn1
        cases Option.some.inj (h1.symm.trans hcl)
        cases Option.some.inj (h2.symm.trans hc6)
        exact Or.inr ⟨hz0, _, hcl6, h3⟩) hx (Or.inr ⟨h0, c4, hcl5, hasg⟩)
  obtain ⟨t, a1, b1⟩ := kk (T.setVm vm') hT X'
  exact ⟨t, st.trans a1, b1⟩
end Rows
section Ends
variable {p : Program} {l : Launch} {e : Env} {R : Room} {s : State} {m : MethodId} {args : Array Value} {below : List Frame} {meth : Method} {c : Code} {H : Heap} {locs : List Loc} {cells slots : Nat} {Q : State → Prop}
variable {mc ms : Nat} {free : Addr → Prop} {A0 A1 : Nat → Prop} {H0 : Heap} {a : Array Value} {ls : Array Slot} {st0 rest : List Value}
variable {Qc : Array Value → State → Outcome → State → Prop} {XC : String → State → State → Prop}
/-- what a body that may throw owes at its end -/
def vx_MQ (below : List Frame) (Qc : Array Value → State → Outcome → State → Prop) (XC : String → State → State → Prop) (a : Array Value) (s : State) (mc ms : Nat) (free : Addr → Prop) : State → Prop := fun t =>
  ∃ o, t.status = .running ∧ Ended t below o ∧ vx_Q Qc XC mc ms free a s o t
theorem vx_ret {g : JFrame} {mc ms : Nat} (k : W p l e R s m args below meth c H locs cells slots (MQ below Qc args s mc ms free) g) : W p l e R s m args below meth c H locs cells slots (vx_MQ below Qc XC args s mc ms free) g := by
  intro T hT X
  obtain ⟨t, a1, o, b1, b2, b3, b4⟩ := k T hT X
  exact ⟨t, a1, o, b1, b2, Or.inl ⟨b3, b4⟩⟩
/-- not caught here: it goes on to the caller -/
theorem vx_widen {g : JFrame} {q : Addr} {k n : Nat} (h1 : cells ≤ k) (h2 : slots ≤ n) (kk : vx_W p l e R s m args below meth c H locs k n Q g q) : vx_W p l e R s m args below meth c H locs cells slots Q g q := fun T hT X => kk T hT (stand_widen X h1 h2)
theorem vx_out {pc : Nat} {E : String} {ce : Cell} {q : Addr} {mc ms : Nat} (hout : ∀ x ∈ c.exceptionTable.toList, covers x pc = false) (hlocks : meth.locks = false) (hcell : H[q]? = some ce) (hv : ce.vm = .none) (hcl : s.vm.findClass E = some ce.cls)
    (hx : ∀ t : State, t.heap = H → s.vm.Alike t.vm → XC E s t) (hf : ∀ z ∈ locs, free z.base) (hc : cells ≤ mc) (hs : slots ≤ ms) :
    vx_W p l e R s m args below meth c H locs cells slots (vx_MQ below Qc XC args s mc ms free) (F0 m pc ls rest) q := by
  intro T hT X
  obtain ⟨st1, hrun, hend, hW, hsm⟩ := X.leaveThrown q (g := F0 m pc ls rest) rfl rfl rfl hout hlocks
  have hcell9 : (T.setFrames (.throwing q :: below)).heap[q]? = some ce := by
    show T.heap[q]? = some ce
    rw [hT]; exact hcell
  exact ⟨_, st1, .threw q, hrun, hend, Or.inr ⟨q, rfl, E, ce, locs, hx _ hT hW.alike, hcell9, hv, hcl, hW, hsm.mono hc hs, hf⟩⟩
theorem vx_frame {U : State} {k n : Nat} (h : s.sameButNew ({ U with vm := s.vm } : State) locs k n) : s.heap.size ≤ U.heap.size ∧ ∀ q : Nat, q < s.heap.size → (∀ z ∈ locs, z.base ≠ q) → U.heap[q]? = s.heap[q]? := by
  obtain ⟨-, h2, -, -, -, h6⟩ := h
  refine ⟨h2, fun q hq hz => ?_⟩
  obtain ⟨c9, e1, e2, e3, e4⟩ := h6 q _ (Array.getElem?_eq_getElem hq)
  have hs : c9.slots = (s.heap[q]).slots := Array.ext_getElem? fun i => e4 i fun hm => hz _ hm rfl
  have h9 : c9 = s.heap[q] := by
    rw [hs] at e2
    exact e2
  have e5 : U.heap[q]? = some c9 := e1
  rw [e5, h9, Array.getElem?_eq_getElem hq]
/-- the words of a throw but the four that speak of the heap -/
def vx_no (w : Cond) : Bool := decide (w ≠ .isRef (.static Bundle.tN "UNASSIGNED_STACK" Bundle.steD)) && decide (w ≠ .isRef (.static Bundle.tN "SUPPRESSED_SENTINEL" Bundle.listD)) && decide (w ≠ .laysStatic Bundle.tN "UNASSIGNED_STACK" Bundle.steD) && decide (w ≠ .laysStatic Bundle.tN "SUPPRESSED_SENTINEL" Bundle.listD)
def vx_at0 (own : String) (ic : Nat) (X : String) (names : List String) : List Cond := (Bundle.ownAtoms0 own ic X names).filter vx_no
def vx_atS (own : String) (ic : Nat) (X : String) (names : List String) : List Cond := (Bundle.ownAtoms own ic X names).filter vx_no
/-- a word that the tables alone decide, or a good one -/
def vx_ot (w : Cond) : Bool := w.onTables || goodWord w
theorem vx_ot_at {args a' : Array Value} {s U : State} {w : Cond} (hW : s.WarmedH U.vm) (hvm : s.vm = U.vm) (hg : vx_ot w = true) (h : w.before args s = true) : w.before a' U = true := by
  simp only [vx_ot, Bool.or_eq_true] at hg
  rcases hg with hg | hg
  · exact va_tabs hg hvm h
  · exact word_at hW (good_of_word hg) h
/-- a list's words: the good ones out of the method's own list, the others by premises of their own -/
theorem vx_hat {args : Array Value} {s : State} {L B : List Cond} (h1 : ∀ w ∈ L.filter goodWord, w.before args s = true) (h2 : ∀ w ∈ L.filter (fun w => !goodWord w), w ∈ B) (h3 : ∀ w ∈ B, w.before args s = true) : ∀ w ∈ L, w.before args s = true := by
  intro w hw
  by_cases g : goodWord w = true
  · exact h1 w (List.mem_filter.mpr ⟨hw, g⟩)
  · refine h3 w (h2 w (List.mem_filter.mpr ⟨hw, ?_⟩))
    show (!goodWord w) = true
    cases hgw : goodWord w
    · rfl
    · exact absurd hgw g
theorem vx_c {args : Array Value} {s : State} {w : Cond} {B : List Cond} (h : w.before args s = true) (t : ∀ w ∈ B, w.before args s = true) : ∀ w' ∈ w :: B, w'.before args s = true := fun w' h' => (List.mem_cons.mp h').elim (fun e => by rw [e]; exact h) (t w')
theorem vx_n {args : Array Value} {s : State} : ∀ w ∈ ([] : List Cond), w.before args s = true := fun _ h => nomatch h
theorem vx_own {args : Array Value} {s : State} {L : List Cond} (h1 : ∀ w ∈ L.filter vx_no, w.before args s = true)
    (hU : (Cond.isRef (.static Bundle.tN "UNASSIGNED_STACK" Bundle.steD)).before args s = true) (hN : (Cond.isRef (.static Bundle.tN "SUPPRESSED_SENTINEL" Bundle.listD)).before args s = true)
    (lU : (Cond.laysStatic Bundle.tN "UNASSIGNED_STACK" Bundle.steD).before args s = true) (lN : (Cond.laysStatic Bundle.tN "SUPPRESSED_SENTINEL" Bundle.listD).before args s = true) : ∀ w ∈ L, w.before args s = true := by
  intro w hw
  by_cases e1 : w = .isRef (.static Bundle.tN "UNASSIGNED_STACK" Bundle.steD)
  · rw [e1]; exact hU
  · by_cases e2 : w = .isRef (.static Bundle.tN "SUPPRESSED_SENTINEL" Bundle.listD)
    · rw [e2]; exact hN
    · by_cases e3 : w = .laysStatic Bundle.tN "UNASSIGNED_STACK" Bundle.steD
      · rw [e3]; exact lU
      · by_cases e4 : w = .laysStatic Bundle.tN "SUPPRESSED_SENTINEL" Bundle.listD
        · rw [e4]; exact lN
        · exact h1 w (List.mem_filter.mpr ⟨hw, by unfold vx_no; rw [decide_eq_true e1, decide_eq_true e2, decide_eq_true e3, decide_eq_true e4]; rfl⟩)
/-- where a static field lies, its class's statics cell in H -/
def vx_L (C n d : String) (A : Nat → Prop) (U : State) (H : Heap) : Prop := ∃ (c : ClassId) (k : Class) (i : Nat) (f : Field) (a : Nat) (cell : Cell), U.vm.findClass C = some c ∧ U.fieldFound? C n d = some (c, k, i, f) ∧ f.isStatic = true ∧ k.statics = some a ∧ H[a]? = some cell ∧ cell.vm.isStatics = true ∧ cell.cls = c ∧ f.slot < cell.slots.size ∧ k.staticTypes[f.slot]? = some f.type ∧ ¬ A a
theorem vx_L.moved {C n d : String} {A : Nat → Prop} {u U : State} {H : Heap} (hvm : u.vm.Alike U.vm) (h : vx_L C n d A u H) : vx_L C n d A U H := by
  obtain ⟨c, k, i, f, a, cell, h1, h2, h3, h4, h5, h6, h7, h8, h9, h10⟩ := h
  obtain ⟨k', hi', he⟩ := State.fieldFound?_setVm hvm h2
  exact ⟨c, k', i, f, a, cell, by rw [hvm.findClass]; exact h1, hi', h3, by rw [he]; exact h4, h5, h6, h7, h8, by rw [he]; exact h9, h10⟩
theorem vx_L.kept {C n d : String} {A : Nat → Prop} {U : State} {H H1 : Heap} (h : vx_L C n d A U H) (hq : ∀ a : Nat, a < H.size → ¬ A a → H1[a]? = H[a]?) : vx_L C n d A U H1 := by
  obtain ⟨c, k, i, f, a, cell, h1, h2, h3, h4, h5, h6, h7, h8, h9, h10⟩ := h
  exact ⟨c, k, i, f, a, cell, h1, h2, h3, h4, by rw [hq a (Array.getElem?_eq_some_iff.mp h5).1 h10]; exact h5, h6, h7, h8, h9, h10⟩
theorem vx_L.narrow {C n d : String} {A B : Nat → Prop} {U : State} {H : Heap} (h : vx_L C n d A U H) (hAB : ∀ q, B q → A q) : vx_L C n d B U H := by
  obtain ⟨c, k, i, f, a, cell, h1, h2, h3, h4, h5, h6, h7, h8, h9, h10⟩ := h
  exact ⟨c, k, i, f, a, cell, h1, h2, h3, h4, h5, h6, h7, h8, h9, fun z => h10 (hAB _ z)⟩
theorem vx_L.word {C n d : String} {A : Nat → Prop} {s : State} {args : Array Value} (h : vx_L C n d A s s.heap) : (Cond.laysStatic C n d).before args s = true := by
  obtain ⟨c, k, i, f, a, cell, h1, h2, h3, h4, h5, h6, h7, h8, h9, -⟩ := h
  show (Cond.laysStatic C n d).holds args s none s [] = true
  exact Cond.laysStatic_of h1 h2 h3 h4 h5 h6 h7 h8 h9
/-- .. and what it holds: null or some reference -/
def vx_Zq (C n d : String) (A : Nat → Prop) (U : State) (H : Heap) : Prop := va_Zq C n d A U H ∧ vx_L C n d A U H
theorem vx_Zq.moved {C n d : String} {A : Nat → Prop} {u U : State} {H : Heap} (hvm : u.vm.Alike U.vm) (h : vx_Zq C n d A u H) : vx_Zq C n d A U H := ⟨va_Zq.moved hvm h.1, vx_L.moved hvm h.2⟩
theorem vx_Zq.kept {C n d : String} {A : Nat → Prop} {U : State} {H H1 : Heap} (h : vx_Zq C n d A U H) (hq : ∀ a : Nat, a < H.size → ¬ A a → H1[a]? = H[a]?) : vx_Zq C n d A U H1 := ⟨va_Zq.kept h.1 hq, vx_L.kept h.2 hq⟩
theorem vx_Zq.narrow {C n d : String} {A B : Nat → Prop} {U : State} {H : Heap} (h : vx_Zq C n d A U H) (hAB : ∀ q, B q → A q) : vx_Zq C n d B U H := ⟨va_Zq.narrow h.1 hAB, vx_L.narrow h.2 hAB⟩
theorem vx_Zqof {args : Array Value} {s : State} {C n d : String} {A : Nat → Prop} (hl : (Cond.laysStatic C n d).before args s = true) (hini : (Cond.initialized C).before args s = true) (h : (Cond.isRef (.static C n d)).before args s = true) (hA : ∀ a : Nat, a < s.heap.size → ¬ A a) : vx_Zq C n d A s s.heap := by
  refine ⟨va_Zqof hl hini h hA, ?_⟩
  obtain ⟨c, k, i, f, a, cell, h1, h2, h3, h4, h5, h6, h7, h8, h9⟩ := Cond.laysStatic_spec hl
  exact ⟨c, k, i, f, a, cell, h1, h2, h3, h4, h5, h6, h7, h8, h9, hA a (Array.getElem?_eq_some_iff.mp h5).1⟩
theorem vx_isRef {C n d : String} {v : Value} {A : Nat → Prop} {s : State} {args : Array Value} (h : va_Z C n d v A s s.heap) (hv : v.isRef = true) : (Cond.isRef (.static C n d)).before args s = true := by
  obtain ⟨cf, kf, fi, f, a, cell, h1, h2, h3, h4, h5, h6, h7, -⟩ := h
  have he : (Term.static C n d).eval args s none [] s = some v := by
    simp [Term.eval, State.fieldNamed?, h1, h2, h4, h5, h6, h7]
  simp only [Cond.before, Cond.holds, Cond.value, he]
  cases v <;> simp_all [Value.isRef]
theorem vx_isRefq {C n d : String} {A : Nat → Prop} {s : State} {args : Array Value} (h : va_Zq C n d A s s.heap) : (Cond.isRef (.static C n d)).before args s = true := by
  rcases h with h | ⟨t, h⟩
  · exact vx_isRef h rfl
  · exact vx_isRef h rfl
/-- the same frame, seen from here: as if the method were called anew in this heap -/
theorem vx_rebase {T : State} (X : Stand p l e R s m args below meth c T locs cells slots) {R' : Room} (hf : R'.frames ≤ R.frames) (hl : R'.locals ≤ R.locals) (hc : cells + R'.cells ≤ R.cells) (hs : slots + R'.slots ≤ R.slots) :
    Stand p l e R' ((T.setVm s.vm).setFrames (.invoking m args :: below)) m args below meth c T [] 0 0 := by
  have htop : (T.setVm s.vm).topJava?.isSome := X.here.top
  have hF : ((T.setVm s.vm).setFrames (.invoking m args :: below)).frames = .invoking m args :: below := State.frames_setFrames _ (State.cur_lt_of_top htop)
  obtain ⟨g₀, hg0⟩ := Option.isSome_iff_exists.mp htop
  obtain ⟨r, hr⟩ := State.topJava?_eq_some.mp hg0
  have hl9 : e.platform.stackLimits (T.setVm s.vm).me = e.platform.stackLimits s.me := X.limits
  have hb9 : (T.setVm s.vm).me.stackBytes = s.me.stackBytes := X.bytes
  refine ⟨X.admits, X.cas, X.clock, hF, ?_, X.hears, X.method, X.code, X.here, X.tail, X.warmed, ?_, ?_, ?_⟩
  · have h := X.room
    have hU : ((T.setVm s.vm).setFrames (.invoking m args :: below)).localsInUse = s.localsInUse := by
      rw [State.localsInUse_invoking hF (meth := meth) (c := c) X.method X.code, State.localsInUse_invoking X.frames X.method X.code]
    simp only [State.hasRoom, Bool.and_eq_true, decide_eq_true_eq] at h ⊢
    obtain ⟨⟨⟨⟨h1, h2, h3, h4, h5, h6⟩, h7⟩, h8⟩, h9⟩ := h
    rw [X.frames, List.length_cons] at h2 h3
    have q1 := X.heapSize
    have q2 := X.used
    simp only [hF, hU, List.length_cons, State.stackLimits_setFrames, State.stackBytes_setFrames, hl9, hb9]
    refine ⟨⟨⟨⟨by omega, by omega, by omega, by omega, by omega, h6⟩, ?_⟩, ?_⟩, X.book⟩
    · show T.heap.size + R'.cells ≤ e.platform.maxCells
      omega
    · show T.slotsUsed + R'.slots ≤ e.platform.maxSlots
      omega
  · rw [State.stackLimits_setFrames]; rfl
  · rw [State.stackBytes_setFrames]; rfl
  · refine ⟨?_, Nat.le_refl _, Nat.le_refl _, ?_, ?_, fun a c9 h9 => ⟨c9, h9, rfl, rfl, fun _ _ => rfl⟩⟩
    · obtain ⟨t, ht, -⟩ := State.frames_cons hr
      show T.setVm s.vm = { ((T.setVm s.vm).setFrames (.invoking m args :: below)).setFrames (T.setVm s.vm).frames with heap := T.heap, slotsUsed := T.slotsUsed }
      rw [State.setFrames_setFrames, State.setFrames_self ht]
      rfl
    · show T.slotsUsed = T.slotsUsed + ((T.heap.toList.drop T.heap.size).map (·.slots.size)).sum
      rw [List.drop_eq_nil_of_le (Nat.le_of_eq Array.length_toList)]
      rfl
    · show ((T.heap.toList.drop T.heap.size).map (·.slots.size)).sum ≤ 0
      rw [List.drop_eq_nil_of_le (Nat.le_of_eq Array.length_toList)]
      exact Nat.le_refl _
/-- 'throw new E()': new; dup; invokespecial; athrow -/
theorem vx_throw0 {cc : ByteArray} {pc : Nat} (hexec : p.tables.exec = Jvm.exec) (hb : c.code = cc) (hl : l.stackTraces = false) {own cls : String} {names : List String} {ik ic mc ms : Nat} {A : Nat → Prop}
    (hown : s.vm.findClass own = some m.cls) (hcls : Bundle.fit cls = true) (hnames : ∀ n ∈ names, Bundle.fit n = true)
    (hk : (Cond.classLink own ik cls).before args s = true) (hini : (Cond.initialized cls).before args s = true) (hat : ∀ w ∈ vx_at0 own ic cls names, w.before args s = true)
    (hgood : ∀ w ∈ Cond.classLink own ik cls :: Cond.initialized cls :: vx_at0 own ic cls names, vx_ot w = true)
    (hU : vx_Zq Bundle.tN "UNASSIGNED_STACK" Bundle.steD A s s.heap) (hN : vx_Zq Bundle.tN "SUPPRESSED_SENTINEL" Bundle.listD A s s.heap) (hS : va_S A s.heap H locs) (hsize : ls.size = c.maxLocals)
    (d0 : decode cc pc = .ok (.new ik, 3)) (d3 : decode cc (pc + 3) = .ok (.dup, 1)) (d4 : decode cc (pc + 4) = .ok (.invokespecial ic, 3)) (d7 : decode cc (pc + 7) = .ok (.athrow, 1))
    (hout : ∀ x ∈ c.exceptionTable.toList, covers x (pc + 7) = false)
    (hRframes : names.length + 3 < R.frames) (hRlocals : (rest.map fun v => v.category).sum + (13 * (names.length + 1) + 42) ≤ R.locals) (hRcells : cells + 1 ≤ R.cells) (hRslots : slots + 6 ≤ R.slots) (hlocks : meth.locks = false)
    (hx : ∀ t : State, s.vm.Alike t.vm → H.size ≤ t.heap.size → (∀ q : Nat, q < H.size → t.heap[q]? = H[q]?) → XC cls s t)
    (hf : ∀ z ∈ locs, free z.base) (hc : cells + 1 ≤ mc) (hs : slots + 6 ≤ ms) :
    W p l e R s m args below meth c H locs cells slots (vx_MQ below Qc XC args s mc ms free) (F0 m pc ls rest) := by
  intro T hT X
  have htr : e.platform.stackTraces = false := (show e.platform.stackTraces = l.stackTraces by rw [X.admits.platform]).trans hl
  have Y := vx_rebase X (R' := { frames := R.frames, locals := R.locals, cells := 1, slots := 6 }) (Nat.le_refl _) (Nat.le_refl _) hRcells hRslots
  obtain ⟨s', hA⟩ : ∃ z, z = (T.setVm s.vm).setFrames (.invoking m args :: below) := ⟨_, rfl⟩
  rw [← hA] at Y
  have hvm : s'.vm = s.vm := by rw [hA]; rfl
  have hhp : s'.heap = H := by rw [hA]; exact hT
  have hW0 : s.WarmedH s'.vm := by rw [hvm]; exact State.WarmedH.refl s
  have hat' : ∀ w ∈ vx_at0 own ic cls names, w.before args s' = true := fun w hw => vx_ot_at hW0 hvm.symm (hgood w (List.mem_cons_of_mem _ (List.mem_cons_of_mem _ hw))) (hat w hw)
  have hk' : (Cond.classLink own ik cls).before args s' = true := vx_ot_at hW0 hvm.symm (hgood _ List.mem_cons_self) hk
  have hini' : (Cond.initialized cls).before args s' = true := vx_ot_at hW0 hvm.symm (hgood _ (List.mem_cons_of_mem _ List.mem_cons_self)) hini
  have hU' : vx_Zq Bundle.tN "UNASSIGNED_STACK" Bundle.steD A s' s'.heap := by rw [hhp]; exact vx_Zq.moved hW0.alike (hU.kept hS.2.1)
  have hN' : vx_Zq Bundle.tN "SUPPRESSED_SENTINEL" Bundle.listD A s' s'.heap := by rw [hhp]; exact vx_Zq.moved hW0.alike (hN.kept hS.2.1)
  have h : ∀ w ∈ Bundle.ownAtoms0 own ic cls names, w.before args s' = true := vx_own hat' (vx_isRefq hU'.1) (vx_isRefq hN'.1) hU'.2.word hN'.2.word
  have hown' : s'.vm.findClass own = some m.cls := by rw [hvm]; exact hown
  have hins : (Cond.instantiable cls 6).before args s' = true := h _ (by simp [Bundle.ownAtoms0])
  obtain ⟨vm₁, cX, kX, hfX, hkX, -, -, X₁, st1⟩ := Y.newCold hexec (own := own) (C := cls) (index := ik) (n := 6) hown' hk' hins hini'
    (g := F0 m pc ls rest) rfl (by rw [hb]; exact d0) (Nat.le_refl _) (Nat.le_refl _)
  generalize hT1 : (T.setVm vm₁).pushCell { cls := cX, slots := kX.instanceTypes.map defaultValue, vm := .none } = T1 at X₁ st1
  have hcat : (Value.ref T.heap.size).category = 1 := rfl
  have hcellA : T1.heap[T.heap.size]? = some (freshCell cX kX) := by rw [← hT1]; exact State.heap_pushCell_size _ _
  have d3' : decode c.code (pc + 3) = .ok (.dup, 1) := by rw [hb]; exact d3
  obtain ⟨U, hsteps, hrun, hend, hW, hsame, ce, hce, hO⟩ := X₁.ctorThrow0 hexec htr (own := own) (cls := cls) (names := names) (ic := ic) hown' hcls hnames h (fun x hx => nomatch hx) hfX hkX hcellA (by rw [hhp, hT]; exact Nat.le_refl _)
    (g := { method := m, pc := pc + 4, locals := ls, stack := .ref T.heap.size :: .ref T.heap.size :: rest, locked := none }) rfl hsize rfl rfl (rest := rest) rfl
    (by rw [hb]; exact d4) (by rw [hb]; exact d7) hout hRframes (by simp only [List.map_cons, List.sum_cons, hcat]; omega) hlocks
  obtain ⟨f1, f2⟩ := vx_frame hsame
  rw [hhp] at f1 f2
  have hWs : s.WarmedH U.vm := State.WarmedH.trans hW0 hW
  have hcl : s.vm.findClass cls = some ce.cls := by
    have h9 := hO.cls
    rw [hvm] at h9
    exact h9
  have hall : s.sameButNew ({ U with vm := s.vm } : State) locs mc ms := by
    subst hA
    obtain ⟨e1, e2⟩ := hsame
    rw [State.setFrames_setFrames] at e1
    have h2 : (T.setVm s.vm).sameButNew ({ U with vm := s.vm } : State) [] (0 + 1) (0 + 6) := ⟨e1, e2⟩
    have h3 := X.same.trans h2
    rw [List.append_nil] at h3
    exact h3.mono hc hs
  refine ⟨U, ?_, .threw T.heap.size, hrun, hend, Or.inr ⟨T.heap.size, rfl, cls, ce, locs, hx U hWs.alike f1 (fun q hq => f2 q hq (fun z hz => nomatch hz)), hce, hO.vm, hcl, hWs, hall, hf⟩⟩
  refine st1 _ ?_
  show Steps p.tables e below (T1.setTop { method := m, pc := pc + 3, locals := ls, stack := .ref T.heap.size :: rest, locked := none }) _
  jvm_step X₁.here [X₁.here.top, hexec, d3', Value.category]
  exact hsteps
/-- 'throw new E("text")': new; dup; ldc; invokespecial; athrow -/
theorem vx_throwS {cc : ByteArray} {pc : Nat} (hexec : p.tables.exec = Jvm.exec) (hb : c.code = cc) (hl : l.stackTraces = false) {own cls text : String} {names : List String} {ik is ic mc ms sa : Nat} {A : Nat → Prop}
    (hown : s.vm.findClass own = some m.cls) (hcls : Bundle.fit cls = true) (hnames : ∀ n ∈ names, Bundle.fit n = true)
    (hk : (Cond.classLink own ik cls).before args s = true) (hini : (Cond.initialized cls).before args s = true) (hstr : vk_R own is text sa s) (hat : ∀ w ∈ vx_atS own ic cls names, w.before args s = true)
    (hgood : ∀ w ∈ Cond.classLink own ik cls :: Cond.initialized cls :: vx_atS own ic cls names, vx_ot w = true)
    (hU : vx_Zq Bundle.tN "UNASSIGNED_STACK" Bundle.steD A s s.heap) (hN : vx_Zq Bundle.tN "SUPPRESSED_SENTINEL" Bundle.listD A s s.heap) (hS : va_S A s.heap H locs) (hsize : ls.size = c.maxLocals)
    (d0 : decode cc pc = .ok (.new ik, 3)) (d3 : decode cc (pc + 3) = .ok (.dup, 1)) (d4 : decode cc (pc + 4) = .ok (.ldc is, 2)) (d6 : decode cc (pc + 6) = .ok (.invokespecial ic, 3)) (d9 : decode cc (pc + 9) = .ok (.athrow, 1))
    (hout : ∀ x ∈ c.exceptionTable.toList, covers x (pc + 9) = false)
    (hRframes : names.length + 3 < R.frames) (hRlocals : (rest.map fun v => v.category).sum + (13 * (names.length + 1) + 43) ≤ R.locals) (hRcells : cells + 1 ≤ R.cells) (hRslots : slots + 6 ≤ R.slots) (hlocks : meth.locks = false)
    (hx : ∀ t : State, s.vm.Alike t.vm → H.size ≤ t.heap.size → (∀ q : Nat, q < H.size → t.heap[q]? = H[q]?) → XC cls s t)
    (hf : ∀ z ∈ locs, free z.base) (hc : cells + 1 ≤ mc) (hs : slots + 6 ≤ ms) :
    W p l e R s m args below meth c H locs cells slots (vx_MQ below Qc XC args s mc ms free) (F0 m pc ls rest) := by
  intro T hT X
  have htr : e.platform.stackTraces = false := (show e.platform.stackTraces = l.stackTraces by rw [X.admits.platform]).trans hl
  have Y := vx_rebase X (R' := { frames := R.frames, locals := R.locals, cells := 1, slots := 6 }) (Nat.le_refl _) (Nat.le_refl _) hRcells hRslots
  obtain ⟨s', hA⟩ : ∃ z, z = (T.setVm s.vm).setFrames (.invoking m args :: below) := ⟨_, rfl⟩
  rw [← hA] at Y
  have hvm : s'.vm = s.vm := by rw [hA]; rfl
  have hhp : s'.heap = H := by rw [hA]; exact hT
  have hW0 : s.WarmedH s'.vm := by rw [hvm]; exact State.WarmedH.refl s
  have hat' : ∀ w ∈ vx_atS own ic cls names, w.before args s' = true := fun w hw => vx_ot_at hW0 hvm.symm (hgood w (List.mem_cons_of_mem _ (List.mem_cons_of_mem _ hw))) (hat w hw)
  have hk' : (Cond.classLink own ik cls).before args s' = true := vx_ot_at hW0 hvm.symm (hgood _ List.mem_cons_self) hk
  have hini' : (Cond.initialized cls).before args s' = true := vx_ot_at hW0 hvm.symm (hgood _ (List.mem_cons_of_mem _ List.mem_cons_self)) hini
  have hU' : vx_Zq Bundle.tN "UNASSIGNED_STACK" Bundle.steD A s' s'.heap := by rw [hhp]; exact vx_Zq.moved hW0.alike (hU.kept hS.2.1)
  have hN' : vx_Zq Bundle.tN "SUPPRESSED_SENTINEL" Bundle.listD A s' s'.heap := by rw [hhp]; exact vx_Zq.moved hW0.alike (hN.kept hS.2.1)
  have h : ∀ w ∈ Bundle.ownAtoms own ic cls names, w.before args s' = true := vx_own hat' (vx_isRefq hU'.1) (vx_isRefq hN'.1) hU'.2.word hN'.2.word
  have hown' : s'.vm.findClass own = some m.cls := by rw [hvm]; exact hown
  have hins : (Cond.instantiable cls 6).before args s' = true := h _ (by simp [Bundle.ownAtoms])
  obtain ⟨vm₁, cX, kX, hfX, hkX, -, -, X₁, st1⟩ := Y.newCold hexec (own := own) (C := cls) (index := ik) (n := 6) hown' hk' hins hini'
    (g := F0 m pc ls rest) rfl (by rw [hb]; exact d0) (Nat.le_refl _) (Nat.le_refl _)
  generalize hT1 : (T.setVm vm₁).pushCell { cls := cX, slots := kX.instanceTypes.map defaultValue, vm := .none } = T1 at X₁ st1
  have hcat : (Value.ref T.heap.size).category = 1 := rfl
  have hcellA : T1.heap[T.heap.size]? = some (freshCell cX kX) := by rw [← hT1]; exact State.heap_pushCell_size _ _
  have d3' : decode c.code (pc + 3) = .ok (.dup, 1) := by rw [hb]; exact d3
  have d4' : decode c.code (pc + 4) = .ok (.ldc is, 2) := by rw [hb]; exact d4
  have hstr' : vk_R own is text sa s' := vk_R.warm hW0 hstr
  obtain ⟨U, hsteps, hrun, hend, hW, hsame, ce, hce, hO⟩ := X₁.ctorThrowS hexec htr (own := own) (cls := cls) (names := names) (ic := ic) hown' hcls hnames h (fun x hx => nomatch hx) hfX hkX hcellA (by rw [hhp, hT]; exact Nat.le_refl _) (msg := .ref sa) rfl
    (g := { method := m, pc := pc + 6, locals := ls, stack := .ref sa :: .ref T.heap.size :: .ref T.heap.size :: rest, locked := none }) rfl hsize rfl rfl (rest := rest) rfl
    (by rw [hb]; exact d6) (by rw [hb]; exact d9) hout hRframes (by simp only [List.map_cons, List.sum_cons, hcat]; omega) hlocks
  obtain ⟨f1, f2⟩ := vx_frame hsame
  rw [hhp] at f1 f2
  have hWs : s.WarmedH U.vm := State.WarmedH.trans hW0 hW
  have hcl : s.vm.findClass cls = some ce.cls := by
    have h9 := hO.cls
    rw [hvm] at h9
    exact h9
  have hall : s.sameButNew ({ U with vm := s.vm } : State) locs mc ms := by
    subst hA
    obtain ⟨e1, e2⟩ := hsame
    rw [State.setFrames_setFrames] at e1
    have h2 : (T.setVm s.vm).sameButNew ({ U with vm := s.vm } : State) [] (0 + 1) (0 + 6) := ⟨e1, e2⟩
    have h3 := X.same.trans h2
    rw [List.append_nil] at h3
    exact h3.mono hc hs
  refine ⟨U, ?_, .threw T.heap.size, hrun, hend, Or.inr ⟨T.heap.size, rfl, cls, ce, locs, hx U hWs.alike f1 (fun q hq => f2 q hq (fun z hz => nomatch hz)), hce, hO.vm, hcl, hWs, hall, hf⟩⟩
  refine st1 _ ?_
  show Steps p.tables e below (T1.setTop { method := m, pc := pc + 3, locals := ls, stack := .ref T.heap.size :: rest, locked := none }) _
  jvm_step X₁.here [X₁.here.top, hexec, d3', Value.category]
  exact X₁.ldcString hexec (own := own) (text := text) (index := is) (a := sa) hown' hstr'.1 hstr'.2
    (g := { method := m, pc := pc + 4, locals := ls, stack := .ref T.heap.size :: .ref T.heap.size :: rest, locked := none }) rfl d4' _ hsteps
/-- 'throw new E("text")', the text by a wide index -/
theorem vx_throwSW {cc : ByteArray} {pc : Nat} (hexec : p.tables.exec = Jvm.exec) (hb : c.code = cc) (hl : l.stackTraces = false) {own cls text : String} {names : List String} {ik is ic mc ms sa : Nat} {A : Nat → Prop}
    (hown : s.vm.findClass own = some m.cls) (hcls : Bundle.fit cls = true) (hnames : ∀ n ∈ names, Bundle.fit n = true)
    (hk : (Cond.classLink own ik cls).before args s = true) (hini : (Cond.initialized cls).before args s = true) (hstr : vk_R own is text sa s) (hat : ∀ w ∈ vx_atS own ic cls names, w.before args s = true)
    (hgood : ∀ w ∈ Cond.classLink own ik cls :: Cond.initialized cls :: vx_atS own ic cls names, vx_ot w = true)
    (hU : vx_Zq Bundle.tN "UNASSIGNED_STACK" Bundle.steD A s s.heap) (hN : vx_Zq Bundle.tN "SUPPRESSED_SENTINEL" Bundle.listD A s s.heap) (hS : va_S A s.heap H locs) (hsize : ls.size = c.maxLocals)
    (d0 : decode cc pc = .ok (.new ik, 3)) (d3 : decode cc (pc + 3) = .ok (.dup, 1)) (d4 : decode cc (pc + 4) = .ok (.ldc_w is, 3)) (d7 : decode cc (pc + 7) = .ok (.invokespecial ic, 3)) (d10 : decode cc (pc + 10) = .ok (.athrow, 1))
    (hout : ∀ x ∈ c.exceptionTable.toList, covers x (pc + 10) = false)
    (hRframes : names.length + 3 < R.frames) (hRlocals : (rest.map fun v => v.category).sum + (13 * (names.length + 1) + 43) ≤ R.locals) (hRcells : cells + 1 ≤ R.cells) (hRslots : slots + 6 ≤ R.slots) (hlocks : meth.locks = false)
    (hx : ∀ t : State, s.vm.Alike t.vm → H.size ≤ t.heap.size → (∀ q : Nat, q < H.size → t.heap[q]? = H[q]?) → XC cls s t)
    (hf : ∀ z ∈ locs, free z.base) (hc : cells + 1 ≤ mc) (hs : slots + 6 ≤ ms) :
    W p l e R s m args below meth c H locs cells slots (vx_MQ below Qc XC args s mc ms free) (F0 m pc ls rest) := by
  intro T hT X
  have htr : e.platform.stackTraces = false := (show e.platform.stackTraces = l.stackTraces by rw [X.admits.platform]).trans hl
  have Y := vx_rebase X (R' := { frames := R.frames, locals := R.locals, cells := 1, slots := 6 }) (Nat.le_refl _) (Nat.le_refl _) hRcells hRslots
  obtain ⟨s', hA⟩ : ∃ z, z = (T.setVm s.vm).setFrames (.invoking m args :: below) := ⟨_, rfl⟩
  rw [← hA] at Y
  have hvm : s'.vm = s.vm := by rw [hA]; rfl
  have hhp : s'.heap = H := by rw [hA]; exact hT
  have hW0 : s.WarmedH s'.vm := by rw [hvm]; exact State.WarmedH.refl s
  have hat' : ∀ w ∈ vx_atS own ic cls names, w.before args s' = true := fun w hw => vx_ot_at hW0 hvm.symm (hgood w (List.mem_cons_of_mem _ (List.mem_cons_of_mem _ hw))) (hat w hw)
  have hk' : (Cond.classLink own ik cls).before args s' = true := vx_ot_at hW0 hvm.symm (hgood _ List.mem_cons_self) hk
  have hini' : (Cond.initialized cls).before args s' = true := vx_ot_at hW0 hvm.symm (hgood _ (List.mem_cons_of_mem _ List.mem_cons_self)) hini
  have hU' : vx_Zq Bundle.tN "UNASSIGNED_STACK" Bundle.steD A s' s'.heap := by rw [hhp]; exact vx_Zq.moved hW0.alike (hU.kept hS.2.1)
  have hN' : vx_Zq Bundle.tN "SUPPRESSED_SENTINEL" Bundle.listD A s' s'.heap := by rw [hhp]; exact vx_Zq.moved hW0.alike (hN.kept hS.2.1)
  have h : ∀ w ∈ Bundle.ownAtoms own ic cls names, w.before args s' = true := vx_own hat' (vx_isRefq hU'.1) (vx_isRefq hN'.1) hU'.2.word hN'.2.word
  have hown' : s'.vm.findClass own = some m.cls := by rw [hvm]; exact hown
  have hins : (Cond.instantiable cls 6).before args s' = true := h _ (by simp [Bundle.ownAtoms])
  obtain ⟨vm₁, cX, kX, hfX, hkX, -, -, X₁, st1⟩ := Y.newCold hexec (own := own) (C := cls) (index := ik) (n := 6) hown' hk' hins hini'
    (g := F0 m pc ls rest) rfl (by rw [hb]; exact d0) (Nat.le_refl _) (Nat.le_refl _)
  generalize hT1 : (T.setVm vm₁).pushCell { cls := cX, slots := kX.instanceTypes.map defaultValue, vm := .none } = T1 at X₁ st1
  have hcat : (Value.ref T.heap.size).category = 1 := rfl
  have hcellA : T1.heap[T.heap.size]? = some (freshCell cX kX) := by rw [← hT1]; exact State.heap_pushCell_size _ _
  have d3' : decode c.code (pc + 3) = .ok (.dup, 1) := by rw [hb]; exact d3
  have d4' : decode c.code (pc + 4) = .ok (.ldc_w is, 3) := by rw [hb]; exact d4
  have hstr' : vk_R own is text sa s' := vk_R.warm hW0 hstr
  obtain ⟨U, hsteps, hrun, hend, hW, hsame, ce, hce, hO⟩ := X₁.ctorThrowS hexec htr (own := own) (cls := cls) (names := names) (ic := ic) hown' hcls hnames h (fun x hx => nomatch hx) hfX hkX hcellA (by rw [hhp, hT]; exact Nat.le_refl _) (msg := .ref sa) rfl
    (g := { method := m, pc := pc + 7, locals := ls, stack := .ref sa :: .ref T.heap.size :: .ref T.heap.size :: rest, locked := none }) rfl hsize rfl rfl (rest := rest) rfl
    (by rw [hb]; exact d7) (by rw [hb]; exact d10) hout hRframes (by simp only [List.map_cons, List.sum_cons, hcat]; omega) hlocks
  obtain ⟨f1, f2⟩ := vx_frame hsame
  rw [hhp] at f1 f2
  have hWs : s.WarmedH U.vm := State.WarmedH.trans hW0 hW
  have hcl : s.vm.findClass cls = some ce.cls := by
    have h9 := hO.cls
    rw [hvm] at h9
    exact h9
  have hall : s.sameButNew ({ U with vm := s.vm } : State) locs mc ms := by
    subst hA
    obtain ⟨e1, e2⟩ := hsame
    rw [State.setFrames_setFrames] at e1
    have h2 : (T.setVm s.vm).sameButNew ({ U with vm := s.vm } : State) [] (0 + 1) (0 + 6) := ⟨e1, e2⟩
    have h3 := X.same.trans h2
    rw [List.append_nil] at h3
    exact h3.mono hc hs
  refine ⟨U, ?_, .threw T.heap.size, hrun, hend, Or.inr ⟨T.heap.size, rfl, cls, ce, locs, hx U hWs.alike f1 (fun q hq => f2 q hq (fun z hz => nomatch hz)), hce, hO.vm, hcl, hWs, hall, hf⟩⟩
  refine st1 _ ?_
  show Steps p.tables e below (T1.setTop { method := m, pc := pc + 3, locals := ls, stack := .ref T.heap.size :: rest, locked := none }) _
  jvm_step X₁.here [X₁.here.top, hexec, d3', Value.category]
  exact X₁.ldcStringW hexec (own := own) (text := text) (index := is) (a := sa) hown' hstr'.1 hstr'.2
    (g := { method := m, pc := pc + 4, locals := ls, stack := .ref T.heap.size :: .ref T.heap.size :: rest, locked := none }) rfl d4' _ hsteps
end Ends
section Bodies
variable {l : Launch}
theorem vx_ofW {y : MethodName} {ws ws' : List Cond} {rm : Room} {Pc : Array Value → State → Prop} {Qc : Array Value → State → Outcome → State → Prop} {XC : String → State → State → Prop} {mc ms : Nat} {free : Addr → Prop} {cc : ByteArray} {maxL : Nat} {ret : Option FieldType}
    (hy : plainName y.cls = true) (hw : ws = Cond.code y cc maxL ret :: ws')
    (body : ∀ p e s m args below meth c s₁, BodyLoose p l y (headSpec ws rm) cc maxL ret e s m args below meth c s₁ → c.maxLocals = maxL → (∀ x ∈ c.exceptionTable.toList, False) → Pc args s →
      W p l e (headSpec ws rm).room s m args below meth c s.heap [] 0 0 (vx_MQ below Qc XC args s mc ms free) (entryFrame m args maxL)) : vx_Met l y ws rm Pc Qc XC mc ms free := by
  refine MetFree.of_bodyS (code := cc) (maxLocals := maxL) (ret := ret) hy ?_ ?_
  · intro args s m h hn
    obtain ⟨meth, c, h1, h2, h3, h4, h5, h6, -, -⟩ := Cond.code_spec hn (atoms_spec (ws := ws) h _ (by rw [hw]; exact List.mem_cons_self))
    exact ⟨meth, c, h1, h2, h3, h4, h5, h6⟩
  · intro p e s m args below meth c s₁ B hml hP _
    have hh0 : s₁.heap = s.heap := by rw [B.state]; rfl
    have ht : ∀ x ∈ c.exceptionTable.toList, False := by
      obtain ⟨meth9, c9, h1, h2, -, -, -, -, h7, -⟩ := Cond.code_spec B.named (atoms_spec (ws := ws) B.pre _ (by rw [hw]; exact List.mem_cons_self))
      cases Option.some.inj (h1.symm.trans B.method)
      cases Option.some.inj (h2.symm.trans (Stand.of_body B).code)
      intro x hx
      rw [Array.isEmpty_iff.mp h7] at hx
      cases hx
    obtain ⟨t, a1, o, b1, b2, b3⟩ := body p e s m args below meth c s₁ B hml ht hP s₁ hh0 (Stand.of_body B)
    exact ⟨t, o, a1, b1, b2, b3⟩
/-- the table of a body with handlers -/
theorem vx_table {p : Program} {x y : MethodName} {S : Spec} {cc bytes : ByteArray} {maxL maxL' : Nat} {ret ret' : Option FieldType} {e : Env} {s s₁ : State} {m : MethodId} {args : Array Value} {below : List Frame} {meth : Method} {c : Code} {hh : List (Nat × Nat × Nat × Nat)}
    (B : BodyLoose p l y S cc maxL ret e s m args below meth c s₁) (h : (Cond.codeWith y bytes maxL' ret' hh).before args s = true) : c.exceptionTable.toList = tableOf hh := by
  obtain ⟨m9, meth9, c9, hn9, h1, h2, -, -, h6, -⟩ := Cond.codeWith_spec h
  cases Option.some.inj (hn9.symm.trans B.named)
  cases Option.some.inj (h1.symm.trans B.method)
  cases Option.some.inj (h2.symm.trans (Stand.of_body B).code)
  rw [← h6, table_eq]
end Bodies
end VXA
/-! ===== END ===== -/
/-! ===== BEGIN a static call of a method with an exception table ===== -/
section VXS
variable {p : Program} {l : Launch} {e : Env} {R : Room} {s : State} {m : MethodId} {args : Array Value} {below : List Frame} {meth : Method} {c : Code} {T : State} {H : Heap} {locs : List Loc} {cells slots : Nat}
abbrev vx_CSW (R : Room) (s : State) (args : Array Value) (own : String) (index : Nat) (y : MethodName) (bytes : ByteArray) (maxL : Nat) (ret : Option FieldType) (hh : List (Nat × Nat × Nat × Nat)) (ws : List Cond) (rm : Room) (mc ms n : Nat) : Prop :=
  (rm.cells = mc ∧ rm.slots = ms ∧ rm.frames + 1 ≤ R.frames ∧ 8 + (maxL + 11) + rm.locals ≤ R.locals ∧ (∀ w ∈ ws, ∀ (a' : Array Value) (U : State), s.WarmedH U.vm → w.before a' U = true) ∧ Cond.codeWith y bytes maxL ret hh ∈ ws) ∧
  (Cond.codeWith y bytes maxL ret hh).before args s = true ∧ (Cond.initialized y.cls).before args s = true ∧ (y.cls ≠ "java/lang/invoke/MethodHandle" ∧ y.cls ≠ "java/lang/invoke/VarHandle") ∧
  (∀ sig, parseMethodDescriptor y.desc = some sig → n = sig.parameters.length) ∧ (Cond.methodLink own index y).before args s = true ∧ (Cond.static y).before args s = true
theorem vx_cwSW {own : String} {index maxL mc ms : Nat} {y : MethodName} {bytes : ByteArray} {ret : Option FieldType} {hh : List (Nat × Nat × Nat × Nat)} {Ts ws ws' : List Cond} {rm : Room} (n : Nat) (ht : ∀ w ∈ Ts, w.before args s = true) (hT : GoodIn Ts (va_wsS own index y ws)) (hw : ws = Cond.codeWith y bytes maxL ret hh :: ws') (hrc : rm.cells = mc) (hrs : rm.slots = ms)
    (hd : y.cls ≠ "java/lang/invoke/MethodHandle" ∧ y.cls ≠ "java/lang/invoke/VarHandle" ∧ (parseMethodDescriptor y.desc).map (fun d => d.parameters.length) = some n) (hR : rm.frames + 1 ≤ R.frames ∧ 8 + (maxL + 11) + rm.locals ≤ R.locals) :
    vx_CSW R s args own index y bytes maxL ret hh ws rm mc ms n := by
  have ok : ∀ w ∈ va_wsS own index y ws, w.before args s = true := fun w h => ht w (hT w h).1
  have hG : GoodIn Ts ws := fun w h => hT w (by unfold va_wsS; exact List.mem_append_right _ h)
  have hc : Cond.codeWith y bytes maxL ret hh ∈ ws := by rw [hw]; exact List.mem_cons_self
  refine ⟨⟨hrc, hrs, hR.1, hR.2, pay_in ht hG, hc⟩, ht _ (hG _ hc).1, ok _ (by simp [va_wsS]), ⟨hd.1, hd.2.1⟩, fun sig h => ?_, ok _ (by simp [va_wsS]), ok _ (by simp [va_wsS])⟩
  have h2 := hd.2.2
  rw [h] at h2
  exact (Option.some.inj h2).symm
theorem vx_callSW (X : Stand p l e R s m args below meth c T locs cells slots) (hexec : p.tables.exec = Jvm.exec) {own : String} {index : Nat} {y : MethodName} {bytes : ByteArray} {maxL : Nat} {ret : Option FieldType} {hh : List (Nat × Nat × Nat × Nat)}
    (hown : s.vm.findClass own = some m.cls) (hlink : (Cond.methodLink own index y).before args s = true) (hstat : (Cond.static y).before args s = true) (hinit : (Cond.initialized y.cls).before args s = true)
    (hcode : (Cond.codeWith y bytes maxL ret hh).before args s = true) (hy : y.cls ≠ "java/lang/invoke/MethodHandle" ∧ y.cls ≠ "java/lang/invoke/VarHandle")
    {W9 : Nat} {Pre : Pt → Array Value → Prop} {Post : Pt → Array Value → Option Value → Pt → Prop} (hK : Back l R p e below s args y 3 W9 Pre Post)
    {g : JFrame} (hg : g.method = m) (hsize : g.locals.size = c.maxLocals) {argsL rest : List Value} (hlen : ∀ sig, parseMethodDescriptor y.desc = some sig → argsL.length = sig.parameters.length)
    (hstack : g.stack = argsL.reverse ++ rest) (hW : 2 * g.monitorRoom + (rest.map fun v => v.category).sum ≤ W9) (hdg : decode c.code g.pc = .ok (.invokestatic index, 3))
    (hpre : ∀ vm₁, s.WarmedH vm₁ → Pre ⟨T.setVm vm₁, locs, cells, slots⟩ argsL.toArray) :
    ∃ (v : Option Value) (vm₁ : Vm) (B : Pt), s.WarmedH vm₁ ∧ Stand p l e R s m args below meth c B.U B.locs B.cells B.slots ∧ Post ⟨T.setVm vm₁, locs, cells, slots⟩ argsL.toArray v B ∧
      ∀ target, Steps p.tables e below (B.U.setTop { g with pc := g.pc + 3, stack := v.toList ++ rest }) target → Steps p.tables e below (T.setTop g) target := by
  obtain ⟨mk, methM, cM, hnamed, hmethM, -, -, -, -, -, -, hsigM⟩ := Cond.codeWith_spec hcode
  have hstatic : methM.isStatic = true := Cond.static_spec hnamed hmethM hstat
  obtain ⟨kP, hkP, -⟩ := className_of_methodNamed hnamed
  have hinitP : kP.init = .initialized := Cond.initialized_spec (findClass_of_methodNamed hnamed) hkP hinit
  obtain ⟨vm₁, X₁, hstep₁⟩ := X.invokestatic hexec hown hlink hnamed hmethM hstatic hkP hinitP hy (g := g) hg (argsL := argsL) (rest := rest) (hlen _ hsigM) hstack hdg
  obtain ⟨v, B, X', hpost, hsteps⟩ := hK m meth c ⟨T.setVm vm₁, locs, cells, slots⟩ { g with stack := rest } (.invokestatic index) mk argsL.toArray X₁ hg hsize hdg hW (X₁.named hnamed) (hpre vm₁ X₁.warmed)
  exact ⟨v, vm₁, B, X₁.warmed, X', hpost, fun target h => hstep₁ _ fun acts => by rw [doInvoke_state]; exact hsteps.trans h⟩
theorem vx_runSW {y : MethodName} {bytes cc : ByteArray} {maxL nL mc ms n index : Nat} {ret : Option FieldType} {hh : List (Nat × Nat × Nat × Nat)} {ws : List Cond} {rm : Room} {Pc : Array Value → State → Prop} {Qc : Array Value → State → Outcome → State → Prop} {free : Addr → Prop} {Ts : List Cond} {own : String} {As rest : List Value} {g : JFrame}
    (S : CallFix p m c cc nL s args Ts own) (hM : Met l y ws rm Pc Qc mc ms free) (cw : vx_CSW R s args own index y bytes maxL ret hh ws rm mc ms n) (hp : PreS s H Pc As)
    (hg : g.method = m) (hn : As.length = n) (hsize : g.locals.size = nL) (hstack : g.stack = As.reverse ++ rest) (hW : 2 * g.monitorRoom + (rest.map fun v => v.category).sum ≤ 8) (hdg : decode cc g.pc = .ok (.invokestatic index, 3)) (hf : cells + mc ≤ R.cells ∧ slots + ms ≤ R.slots) :
    va_Run p l e R s m args below meth c H locs cells slots mc ms g rest (Qc As.toArray) (free) := by
  obtain ⟨⟨hrc, hrs, hfr, hlo, hws, hcw⟩, hcode, hini, hy, hlen, hl, hstt⟩ := cw
  have hK : Back l R p e below s args y 3 8 (PreOf R mc ms Pc) (PostOf Qc mc ms free) := va_backW (hh := hh) (bytes := bytes) (maxL := maxL) (ret := ret) hM hp.1 hrc hrs hfr hlo hws hcw (fun a' U hW => word_at hW (Or.inl (by first | rfl | simp [Cond.onTables, Cond.keeps, Cond.steady])) hini)
  obtain ⟨hx, hb, hml, ho, -⟩ := S
  intro T hT X
  obtain ⟨v, vm₁, ⟨U', l2, c2, s2⟩, hW₁, X', ⟨g', mk, t, L, e1, e2, hq, h1, hL, h2, h3⟩, st⟩ := vx_callSW X hx (hh := hh) (bytes := bytes) (maxL := maxL) (ret := ret) ho hl hstt hini hcode hy hK hg (hsize.trans hml.symm) (argsL := As) (rest := rest) (fun sig h => hn.trans (hlen sig h)) hstack hW (by rw [hb]; exact hdg)
    (fun vm₁ hW₁ => ⟨hf.1, hf.2, hp.2 (T.setVm vm₁) hT hW₁⟩)
  dsimp only [Pt.U, Pt.locs, Pt.cells, Pt.slots] at X' e1 e2 h1 h2 h3 st
  subst h1; subst h2; subst h3
  exact ⟨v, (T.setVm vm₁).calling g' mk As.toArray, t, U', L, hT, X', hL, e1, e2, hq, st⟩
/-- not caught here, past rows that name other classes: it goes on to the caller -/
theorem vx_outP {p : Program} {l : Launch} {e : Env} {R : Room} {s : State} {m : MethodId} {args : Array Value} {below : List Frame} {meth : Method} {c : Code} {H : Heap} {locs : List Loc} {cells slots : Nat} {free : Addr → Prop} {ls : Array Slot} {rest : List Value} {Qc : Array Value → State → Outcome → State → Prop} {XC : String → State → State → Prop}
    {pc : Nat} {own E : String} {ce : Cell} {q : Addr} {mc ms : Nat} (hown : s.vm.findClass own = some m.cls) (hlocks : meth.locks = false)
    (hpass : ∀ z ∈ c.exceptionTable.toList, covers z pc = false ∨ (z.catchType ≠ 0 ∧ ∃ nm : String, (Cond.classLink own z.catchType nm).before args s = true ∧ va_Nc E nm s)) (hcell : H[q]? = some ce) (hv : ce.vm = .none) (hcl : s.vm.findClass E = some ce.cls)
    (hx : ∀ t : State, t.heap = H → s.vm.Alike t.vm → XC E s t) (hf : ∀ z ∈ locs, free z.base) (hc : cells ≤ mc) (hs : slots ≤ ms) :
    vx_W p l e R s m args below meth c H locs cells slots (vx_MQ below Qc XC args s mc ms free) (F0 m pc ls rest) q := by
  intro T hT X
  have hpl : e.platform.magicAccessors = ({} : Platform).magicAccessors := by rw [X.admits.platform]
  obtain ⟨vm', hW', X', st⟩ := X.outThrough hlocks q (g := F0 m pc ls rest) rfl rfl rfl (cell := ce) (by rw [hT]; exact hcell) (by rw [hv]; rfl)
    (by obtain ⟨k9, h9, -⟩ := Vm.findClass_spec hcl; exact ⟨k9, h9⟩) (fun z hz => by
      rcases hpass z hz with h | ⟨hz0, nm, hl1, hn1⟩
      · exact Or.inl h
      · obtain ⟨c6, hc6, hcl6⟩ := Cond.classLink_spec hown hl1 e.platform hpl
        obtain ⟨a8, b8, h1, h2, h3⟩ := hn1
        cases Option.some.inj (h1.symm.trans hcl)
        cases Option.some.inj (h2.symm.trans hc6)
        exact Or.inr ⟨hz0, _, hcl6, h3⟩)
  obtain ⟨g₀, hfr⟩ := X'.frames_eq
  have hcell9 : ((T.setVm vm').setFrames (.throwing q :: below)).heap[q]? = some ce := by
    show T.heap[q]? = some ce
    rw [hT]; exact hcell
  have hend : Ended ((T.setVm vm').setFrames (.throwing q :: below)) below (.threw q) := State.frames_setFrames _ (State.cur_lt_of_frames hfr)
  refine ⟨(T.setVm vm').setFrames (.throwing q :: below), ?_, .threw q, X'.here.running, hend, Or.inr ⟨q, rfl, E, ce, locs, hx _ hT (X'.ends _).1.alike, hcell9, hv, hcl, (X'.ends _).1, (X'.ends _).2.mono hc hs, hf⟩⟩
  rw [X.pushThrowing_eq]
  exact st
/-- a thing of a world lies in the heap -/
theorem vx_lt {D : va_G} {cl : List vw_C} {ws : va_W} {H1 : Heap} (h : va_P D cl ws H1) {k : Nat} {q : Nat × va_E} (hk : ws[k]? = some q) : q.1 < H1.size := (h k q hk).lt
end VXS
/-! ===== END ===== -/
/-! ===== BEGIN methods with a table of their own: called by a name, returning or throwing ===== -/
section VXH
/-! vx_backW, vx_callVX, vx_callSX, vx_callVW, vx_runVW, vx_runVX, vx_runSX, vx_ofWH follow the same proofs as their sisters above (Free/Laws.lean, Shelf42/LK1.lean); vx_outP calls Shelf42/NT130.lean (outThrough). -/
section
variable {l : Launch} {R : Room} {p : Program} {e : Env} {below : List Frame} {s : State} {sargs : Array Value} {y : MethodName} {len W9 : Nat}
theorem vx_backW {ws : List Cond} {rm : Room} {Pc : Array Value → State → Prop} {Qc : Array Value → State → Outcome → State → Prop} {XC : String → State → State → Prop} {mc ms : Nat} {free : Addr → Prop} {bytes : ByteArray} {maxL : Nat} {ret : Option FieldType} {hh : List (Nat × Nat × Nat × Nat)}
    (hM : vx_Met l y ws rm Pc Qc XC mc ms free) (hblind : FrameBlind Pc) (hrc : rm.cells = mc) (hrs : rm.slots = ms)
    (hframes : rm.frames + 1 ≤ R.frames) (hlocals : W9 + (maxL + 11) + rm.locals ≤ R.locals)
    (hws : ∀ w ∈ ws, ∀ a' U, s.WarmedH U.vm → w.before a' U = true) (hcode : Cond.codeWith y bytes maxL ret hh ∈ ws) (hinit : ∀ a' U, s.WarmedH U.vm → (Cond.initialized y.cls).before a' U = true) :
    vx_Back l R p e below s sargs y len W9 (PreOf R mc ms Pc) (PostOf Qc mc ms free) (vx_Post XC mc ms free) := by
  intro m meth c A g ig mk a X hg hsize hdg hW hn hp
  have h1 : (headSpec ws rm).pre.before a A.U = true := atoms_intro fun w hw => hws w hw _ _ X.warmed
  have h2 : (Cond.codeWith y bytes maxL ret hh).before a A.U = true := hws _ hcode _ _ X.warmed
  have h3 : (Cond.initialized y.cls).before a A.U = true := hinit _ _ X.warmed
  have h4 : A.cells + (headSpec ws rm).room.cells ≤ R.cells := by rw [show (headSpec ws rm).room.cells = mc from hrc]; exact hp.1
  have h5 : A.slots + (headSpec ws rm).room.slots ≤ R.slots := by rw [show (headSpec ws rm).room.slots = ms from hrs]; exact hp.2.1
  have hPc : Pc a (A.U.calling g mk a) := hblind _ _ _ _ hp.2.2
  obtain ⟨U, Ls, c0, s0⟩ := A
  dsimp only [Pt.U, Pt.locs, Pt.cells, Pt.slots] at h1 h2 h3 h4 h5 X hn hPc ⊢
  obtain ⟨m9, methY, cY, hn9, hmY, hcY, -, hlY, -⟩ := Cond.codeWith_spec h2
  cases Option.some.inj (hn9.symm.trans hn)
  obtain ⟨kY, hkY, -⟩ := className_of_methodNamed hn
  have hinitY : kY.init = .initialized := Cond.initialized_spec (findClass_of_methodNamed hn) hkY h3
  have h : At U g.method c below := by rw [hg]; exact X.here
  have hlocals9 : W9 + (maxL + 11) + (headSpec ws rm).room.locals ≤ R.locals := hlocals
  have happ : (headSpec ws rm).appliesLoose y e.platform (U.calling g mk a) = true :=
    Spec.appliesLoose_calling (g := g) h hdg hn hkY hinitY
      (X.room_calling (g := g) (R' := (headSpec ws rm).room) hsize hmY hcY hframes (by rw [hlY]; omega) h4 h5) h1
  obtain ⟨mid, hmid⟩ := h.above
  have hfr : (U.setTop g).frames = (.java g :: mid) ++ below := by rw [State.frames_setTop' g h.top, hmid]; rfl
  obtain ⟨o, s₂, hsteps, -, hend, hq⟩ := Steps.callFree hM p X.admits X.cas X.clock (acts := []) hfr happ hPc trivial
  have hq' : vx_Q Qc XC mc ms free a (U.calling g mk a) o s₂ := hq
  rw [State.frames_setTop' g h.top] at hend
  obtain ⟨g₀, hg0⟩ := Option.isSome_iff_exists.mp h.top
  obtain ⟨r, hr⟩ := State.topJava?_eq_some.mp hg0
  have hr' : (({ U with heap := s₂.heap, slotsUsed := s₂.slotsUsed } : State).setVm s₂.vm).frames = .java g₀ :: r := hr
  rcases hq' with ⟨hqc, L, hfe, hL⟩ | ⟨q, rfl, E, ce, L, hx, hce, hcv, hcl, hW₂, hsm, hL⟩
  · obtain ⟨⟨v, rfl⟩, hW₂, e2, q2, q3, q4, q5, q6⟩ := id hfe
    have e3 : s₂ = ({ (U.calling g mk a).setFrames s₂.frames with heap := s₂.heap, slotsUsed := s₂.slotsUsed } : State).setVm s₂.vm := by
      have : s₂ = ({ s₂ with vm := (U.calling g mk a).vm } : State).setVm s₂.vm := rfl
      rw [e2] at this
      exact this
    obtain ⟨c₂, i₂, len₂, hc₂, hd₂, hf₂⟩ := hend
    have hW' : U.WarmedH s₂.vm := hW₂
    have hcc : c₂ = c := by
      have h1 : s₂.code? g.method = U.code? g.method := by
        rw [State.code?_eq, State.code?_eq, hW'.alike.method?]
      exact Option.some.inj (hc₂.symm.trans (h1.trans h.code))
    subst hcc
    have hlen : len₂ = len := by rw [hdg] at hd₂; cases hd₂; rfl
    subst hlen
    have hs₂ : s₂ = (({ U with heap := s₂.heap, slotsUsed := s₂.slotsUsed } : State).setVm s₂.vm).setTop { g with pc := g.pc + len₂, stack := v.toList ++ g.stack } := by
      refine e3.trans ?_
      rw [hf₂, State.calling_eq h.top, State.setFrames_setFrames, State.setTop_of_frames _ hr', hr]
      rfl
    have hsame : U.sameButNew ({ U with heap := s₂.heap, slotsUsed := s₂.slotsUsed } : State) L mc ms := by
      refine ⟨?_, q2, q3, q4, q5, q6⟩
      obtain ⟨t, ht, -⟩ := State.frames_cons hr
      show ({ U with heap := s₂.heap, slotsUsed := s₂.slotsUsed } : State) = { U.setFrames U.frames with heap := s₂.heap, slotsUsed := s₂.slotsUsed }
      rw [State.setFrames_self ht]
    subst hg
    refine Or.inl ⟨v, ⟨(({ U with heap := s₂.heap, slotsUsed := s₂.slotsUsed } : State).setVm s₂.vm), Ls ++ L, c0 + mc, s0 + ms⟩,
      ⟨X.admits, X.cas, X.clock, X.frames, X.room, X.hears, X.method, X.code, (X.here.setHeapUsed s₂.heap s₂.slotsUsed).setVm hW'.alike, X.tail, State.WarmedH.trans X.warmed hW', X.limits, X.bytes, X.same.trans (hsame.setVm s.vm)⟩,
      ⟨g, mk, s₂, L, rfl, rfl, hqc, rfl, hL, rfl, rfl⟩, ?_⟩
    show Steps p.tables e below _ ((({ U with heap := s₂.heap, slotsUsed := s₂.slotsUsed } : State).setVm s₂.vm).setTop { g with pc := g.pc + len₂, stack := v.toList ++ g.stack })
    rw [← hs₂]
    exact hsteps
  · obtain ⟨e2, q2, q3, q4, q5, q6⟩ := id hsm
    have e3 : s₂ = ({ (U.calling g mk a).setFrames s₂.frames with heap := s₂.heap, slotsUsed := s₂.slotsUsed } : State).setVm s₂.vm := by
      have : s₂ = ({ s₂ with vm := (U.calling g mk a).vm } : State).setVm s₂.vm := rfl
      rw [e2] at this
      exact this
    have hf₂ : s₂.frames = .throwing q :: .java g :: U.frames.tail := hend
    have hW' : U.WarmedH s₂.vm := hW₂
    have hs₂ : s₂ = ((({ U with heap := s₂.heap, slotsUsed := s₂.slotsUsed } : State).setVm s₂.vm).setTop g).pushFrame (.throwing q) := by
      refine e3.trans ?_
      rw [hf₂, State.calling_eq h.top, State.setFrames_setFrames, State.pushFrame, State.frames_setTop _ hr', State.setTop_of_frames _ hr', State.setFrames_setFrames, hr]
      rfl
    have hsame : U.sameButNew ({ U with heap := s₂.heap, slotsUsed := s₂.slotsUsed } : State) L mc ms := by
      refine ⟨?_, q2, q3, q4, q5, q6⟩
      obtain ⟨t, ht, -⟩ := State.frames_cons hr
      show ({ U with heap := s₂.heap, slotsUsed := s₂.slotsUsed } : State) = { U.setFrames U.frames with heap := s₂.heap, slotsUsed := s₂.slotsUsed }
      rw [State.setFrames_self ht]
    subst hg
    refine Or.inr ⟨q, ⟨(({ U with heap := s₂.heap, slotsUsed := s₂.slotsUsed } : State).setVm s₂.vm), Ls ++ L, c0 + mc, s0 + ms⟩,
      ⟨X.admits, X.cas, X.clock, X.frames, X.room, X.hears, X.method, X.code, (X.here.setHeapUsed s₂.heap s₂.slotsUsed).setVm hW'.alike, X.tail, State.WarmedH.trans X.warmed hW', X.limits, X.bytes, X.same.trans (hsame.setVm s.vm)⟩,
      ⟨g, mk, s₂, L, E, ce, rfl, rfl, hx, hce, hcv, hcl, rfl, hL, rfl, rfl⟩, ?_⟩
    show Steps p.tables e below _ (((({ U with heap := s₂.heap, slotsUsed := s₂.slotsUsed } : State).setVm s₂.vm).setTop g).pushFrame (.throwing q))
    rw [← hs₂]
    exact hsteps
end
variable {p : Program} {l : Launch} {e : Env} {R : Room} {s : State} {m : MethodId} {args : Array Value} {below : List Frame} {meth : Method} {c : Code} {T : State} {H : Heap} {locs : List Loc} {cells slots : Nat}
theorem vx_callVX (X : Stand p l e R s m args below meth c T locs cells slots) (hexec : p.tables.exec = Jvm.exec) {own C : String} {index : Nat} {y : MethodName} {bytes : ByteArray} {maxL : Nat} {ret : Option FieldType} {hh : List (Nat × Nat × Nat × Nat)}
    (hown : s.vm.findClass own = some m.cls) (hlink : (Cond.methodLink own index y).before args s = true) (hinst : (Cond.instanceMethod y).before args s = true) (hsel : (Cond.selects C y y).before args s = true)
    (hcode : (Cond.codeWith y bytes maxL ret hh).before args s = true) (hy : y.cls ≠ "java/lang/invoke/MethodHandle" ∧ y.cls ≠ "java/lang/invoke/VarHandle")
    {W9 : Nat} {Pre : Pt → Array Value → Prop} {Post : Pt → Array Value → Option Value → Pt → Prop} {PostX : Pt → Array Value → Addr → Pt → Prop} (hK : vx_Back l R p e below s args y 3 W9 Pre Post PostX)
    {b : Addr} {cellB : Cell} (hcell : T.heap[b]? = some cellB) (hobj : cellB.vm.isStatics = false) (hcls : s.vm.findClass C = some cellB.cls)
    {g : JFrame} (hg : g.method = m) (hsize : g.locals.size = c.maxLocals) {argsL rest : List Value} (hlen : ∀ sig, parseMethodDescriptor y.desc = some sig → argsL.length = sig.parameters.length)
    (hstack : g.stack = argsL.reverse ++ .ref b :: rest) (hW : 2 * g.monitorRoom + (rest.map fun v => v.category).sum ≤ W9) (hdg : decode c.code g.pc = .ok (.invokevirtual index, 3))
    (hpre : ∀ vm₁, s.WarmedH vm₁ → Pre ⟨T.setVm vm₁, locs, cells, slots⟩ (Value.ref b :: argsL).toArray) :
    (∃ (v : Option Value) (vm₁ : Vm) (B : Pt), s.WarmedH vm₁ ∧ Stand p l e R s m args below meth c B.U B.locs B.cells B.slots ∧ Post ⟨T.setVm vm₁, locs, cells, slots⟩ (Value.ref b :: argsL).toArray v B ∧
      ∀ target, Steps p.tables e below (B.U.setTop { g with pc := g.pc + 3, stack := v.toList ++ rest }) target → Steps p.tables e below (T.setTop g) target) ∨
    (∃ (q : Addr) (vm₁ : Vm) (B : Pt), s.WarmedH vm₁ ∧ Stand p l e R s m args below meth c B.U B.locs B.cells B.slots ∧ PostX ⟨T.setVm vm₁, locs, cells, slots⟩ (Value.ref b :: argsL).toArray q B ∧
      Steps p.tables e below (T.setTop g) ((B.U.setTop { g with stack := rest }).pushFrame (.throwing q))) := by
  obtain ⟨mk, methM, hnamed, hmethM, hstM, habM⟩ := Cond.instanceMethod_spec hinst
  obtain ⟨m8, methM', cM, hn8, hmethM', -, -, -, -, -, -, hsigM⟩ := Cond.codeWith_spec hcode
  cases Option.some.inj (hn8.symm.trans hnamed)
  cases hmethM.symm.trans hmethM'
  obtain ⟨c2, r2, m2, q1, q2, q3, q4, kP, hkP, hkPi⟩ := Cond.selects_spec hsel
  cases hcls.symm.trans q1
  cases (State.methodFound?_of_named hnamed hy).symm.trans q2
  cases hnamed.symm.trans q3
  have hselP : selectMethod e.platform s.vm cellB.cls mk = .method mk := by rw [Launch.admits_selectMethod X.admits]; exact q4
  obtain ⟨vm₁, X₁, hstep₁⟩ := X.invokevirtual hexec hown hlink hnamed hmethM hstM hkP hkPi hy (a := b) (cell := cellB) hcell
    (fun z h => by rw [h] at hobj; cases hobj) hselP hmethM habM hkP hkPi (g := g) hg (argsL := argsL) (rest := rest) (hlen _ hsigM) hstack hdg
  rcases hK m meth c ⟨T.setVm vm₁, locs, cells, slots⟩ { g with stack := rest } (.invokevirtual index) mk (Value.ref b :: argsL).toArray X₁ hg hsize hdg hW (X₁.named hnamed) (hpre vm₁ X₁.warmed) with ⟨v, B, X', hpost, hsteps⟩ | ⟨q, B, X', hpost, hsteps⟩
  · exact Or.inl ⟨v, vm₁, B, X₁.warmed, X', hpost, fun target h => hstep₁ _ fun acts => by rw [doInvoke_state]; exact hsteps.trans h⟩
  · exact Or.inr ⟨q, vm₁, B, X₁.warmed, X', hpost, hstep₁ _ fun acts => by rw [doInvoke_state]; exact hsteps⟩
theorem vx_callSX (X : Stand p l e R s m args below meth c T locs cells slots) (hexec : p.tables.exec = Jvm.exec) {own : String} {index : Nat} {y : MethodName} {bytes : ByteArray} {maxL : Nat} {ret : Option FieldType} {hh : List (Nat × Nat × Nat × Nat)}
    (hown : s.vm.findClass own = some m.cls) (hlink : (Cond.methodLink own index y).before args s = true) (hstat : (Cond.static y).before args s = true) (hinit : (Cond.initialized y.cls).before args s = true)
    (hcode : (Cond.codeWith y bytes maxL ret hh).before args s = true) (hy : y.cls ≠ "java/lang/invoke/MethodHandle" ∧ y.cls ≠ "java/lang/invoke/VarHandle")
    {W9 : Nat} {Pre : Pt → Array Value → Prop} {Post : Pt → Array Value → Option Value → Pt → Prop} {PostX : Pt → Array Value → Addr → Pt → Prop} (hK : vx_Back l R p e below s args y 3 W9 Pre Post PostX)
    {g : JFrame} (hg : g.method = m) (hsize : g.locals.size = c.maxLocals) {argsL rest : List Value} (hlen : ∀ sig, parseMethodDescriptor y.desc = some sig → argsL.length = sig.parameters.length)
    (hstack : g.stack = argsL.reverse ++ rest) (hW : 2 * g.monitorRoom + (rest.map fun v => v.category).sum ≤ W9) (hdg : decode c.code g.pc = .ok (.invokestatic index, 3))
    (hpre : ∀ vm₁, s.WarmedH vm₁ → Pre ⟨T.setVm vm₁, locs, cells, slots⟩ argsL.toArray) :
    (∃ (v : Option Value) (vm₁ : Vm) (B : Pt), s.WarmedH vm₁ ∧ Stand p l e R s m args below meth c B.U B.locs B.cells B.slots ∧ Post ⟨T.setVm vm₁, locs, cells, slots⟩ argsL.toArray v B ∧
      ∀ target, Steps p.tables e below (B.U.setTop { g with pc := g.pc + 3, stack := v.toList ++ rest }) target → Steps p.tables e below (T.setTop g) target) ∨
    (∃ (q : Addr) (vm₁ : Vm) (B : Pt), s.WarmedH vm₁ ∧ Stand p l e R s m args below meth c B.U B.locs B.cells B.slots ∧ PostX ⟨T.setVm vm₁, locs, cells, slots⟩ argsL.toArray q B ∧
      Steps p.tables e below (T.setTop g) ((B.U.setTop { g with stack := rest }).pushFrame (.throwing q))) := by
  obtain ⟨mk, methM, cM, hnamed, hmethM, -, -, -, -, -, -, hsigM⟩ := Cond.codeWith_spec hcode
  have hstatic : methM.isStatic = true := Cond.static_spec hnamed hmethM hstat
  obtain ⟨kP, hkP, -⟩ := className_of_methodNamed hnamed
  have hinitP : kP.init = .initialized := Cond.initialized_spec (findClass_of_methodNamed hnamed) hkP hinit
  obtain ⟨vm₁, X₁, hstep₁⟩ := X.invokestatic hexec hown hlink hnamed hmethM hstatic hkP hinitP hy (g := g) hg (argsL := argsL) (rest := rest) (hlen _ hsigM) hstack hdg
  rcases hK m meth c ⟨T.setVm vm₁, locs, cells, slots⟩ { g with stack := rest } (.invokestatic index) mk argsL.toArray X₁ hg hsize hdg hW (X₁.named hnamed) (hpre vm₁ X₁.warmed) with ⟨v, B, X', hpost, hsteps⟩ | ⟨q, B, X', hpost, hsteps⟩
  · exact Or.inl ⟨v, vm₁, B, X₁.warmed, X', hpost, fun target h => hstep₁ _ fun acts => by rw [doInvoke_state]; exact hsteps.trans h⟩
  · exact Or.inr ⟨q, vm₁, B, X₁.warmed, X', hpost, hstep₁ _ fun acts => by rw [doInvoke_state]; exact hsteps⟩
theorem vx_callVW (X : Stand p l e R s m args below meth c T locs cells slots) (hexec : p.tables.exec = Jvm.exec) {own C : String} {index : Nat} {y : MethodName} {bytes : ByteArray} {maxL : Nat} {ret : Option FieldType} {hh : List (Nat × Nat × Nat × Nat)}
    (hown : s.vm.findClass own = some m.cls) (hlink : (Cond.methodLink own index y).before args s = true) (hinst : (Cond.instanceMethod y).before args s = true) (hsel : (Cond.selects C y y).before args s = true)
    (hcode : (Cond.codeWith y bytes maxL ret hh).before args s = true) (hy : y.cls ≠ "java/lang/invoke/MethodHandle" ∧ y.cls ≠ "java/lang/invoke/VarHandle")
    {W9 : Nat} {Pre : Pt → Array Value → Prop} {Post : Pt → Array Value → Option Value → Pt → Prop} (hK : Back l R p e below s args y 3 W9 Pre Post)
    {b : Addr} {cellB : Cell} (hcell : T.heap[b]? = some cellB) (hobj : cellB.vm.isStatics = false) (hcls : s.vm.findClass C = some cellB.cls)
    {g : JFrame} (hg : g.method = m) (hsize : g.locals.size = c.maxLocals) {argsL rest : List Value} (hlen : ∀ sig, parseMethodDescriptor y.desc = some sig → argsL.length = sig.parameters.length)
    (hstack : g.stack = argsL.reverse ++ .ref b :: rest) (hW : 2 * g.monitorRoom + (rest.map fun v => v.category).sum ≤ W9) (hdg : decode c.code g.pc = .ok (.invokevirtual index, 3))
    (hpre : ∀ vm₁, s.WarmedH vm₁ → Pre ⟨T.setVm vm₁, locs, cells, slots⟩ (Value.ref b :: argsL).toArray) :
    ∃ (v : Option Value) (vm₁ : Vm) (B : Pt), s.WarmedH vm₁ ∧ Stand p l e R s m args below meth c B.U B.locs B.cells B.slots ∧ Post ⟨T.setVm vm₁, locs, cells, slots⟩ (Value.ref b :: argsL).toArray v B ∧
      ∀ target, Steps p.tables e below (B.U.setTop { g with pc := g.pc + 3, stack := v.toList ++ rest }) target → Steps p.tables e below (T.setTop g) target := by
  obtain ⟨mk, methM, hnamed, hmethM, hstM, habM⟩ := Cond.instanceMethod_spec hinst
  obtain ⟨m8, methM', cM, hn8, hmethM', -, -, -, -, -, -, hsigM⟩ := Cond.codeWith_spec hcode
  cases Option.some.inj (hn8.symm.trans hnamed)
  cases hmethM.symm.trans hmethM'
  obtain ⟨c2, r2, m2, q1, q2, q3, q4, kP, hkP, hkPi⟩ := Cond.selects_spec hsel
  cases hcls.symm.trans q1
  cases (State.methodFound?_of_named hnamed hy).symm.trans q2
  cases hnamed.symm.trans q3
  have hselP : selectMethod e.platform s.vm cellB.cls mk = .method mk := by rw [Launch.admits_selectMethod X.admits]; exact q4
  obtain ⟨vm₁, X₁, hstep₁⟩ := X.invokevirtual hexec hown hlink hnamed hmethM hstM hkP hkPi hy (a := b) (cell := cellB) hcell
    (fun z h => by rw [h] at hobj; cases hobj) hselP hmethM habM hkP hkPi (g := g) hg (argsL := argsL) (rest := rest) (hlen _ hsigM) hstack hdg
  obtain ⟨v, B, X', hpost, hsteps⟩ := hK m meth c ⟨T.setVm vm₁, locs, cells, slots⟩ { g with stack := rest } (.invokevirtual index) mk (Value.ref b :: argsL).toArray X₁ hg hsize hdg hW (X₁.named hnamed) (hpre vm₁ X₁.warmed)
  exact ⟨v, vm₁, B, X₁.warmed, X', hpost, fun target h => hstep₁ _ fun acts => by rw [doInvoke_state]; exact hsteps.trans h⟩
abbrev vx_CVW (R : Room) (s : State) (args : Array Value) (own C : String) (index : Nat) (y : MethodName) (bytes : ByteArray) (maxL : Nat) (ret : Option FieldType) (hh : List (Nat × Nat × Nat × Nat)) (ws : List Cond) (rm : Room) (mc ms n : Nat) : Prop :=
  (rm.cells = mc ∧ rm.slots = ms ∧ rm.frames + 1 ≤ R.frames ∧ 8 + (maxL + 11) + rm.locals ≤ R.locals ∧ (∀ w ∈ ws, ∀ (a' : Array Value) (U : State), s.WarmedH U.vm → w.before a' U = true) ∧ Cond.codeWith y bytes maxL ret hh ∈ ws) ∧
  (Cond.codeWith y bytes maxL ret hh).before args s = true ∧ (Cond.initialized y.cls).before args s = true ∧ (y.cls ≠ "java/lang/invoke/MethodHandle" ∧ y.cls ≠ "java/lang/invoke/VarHandle") ∧
  (∀ sig, parseMethodDescriptor y.desc = some sig → n = sig.parameters.length) ∧ (Cond.methodLink own index y).before args s = true ∧ (Cond.instanceMethod y).before args s = true ∧ (Cond.selects C y y).before args s = true
theorem vx_cwVW {own C : String} {index maxL mc ms : Nat} {y : MethodName} {bytes : ByteArray} {ret : Option FieldType} {hh : List (Nat × Nat × Nat × Nat)} {Ts ws ws' : List Cond} {rm : Room} (n : Nat) (ht : ∀ w ∈ Ts, w.before args s = true) (hT : GoodIn Ts (wsV own index C y ws)) (hw : ws = Cond.codeWith y bytes maxL ret hh :: ws') (hrc : rm.cells = mc) (hrs : rm.slots = ms)
    (hd : y.cls = C ∧ y.cls ≠ "java/lang/invoke/MethodHandle" ∧ y.cls ≠ "java/lang/invoke/VarHandle" ∧ (parseMethodDescriptor y.desc).map (fun d => d.parameters.length) = some n) (hR : rm.frames + 1 ≤ R.frames ∧ 8 + (maxL + 11) + rm.locals ≤ R.locals) :
    vx_CVW R s args own C index y bytes maxL ret hh ws rm mc ms n := by
  obtain ⟨hC, hd⟩ := hd
  subst hC
  have ok : ∀ w ∈ wsV own index y.cls y ws, w.before args s = true := fun w h => ht w (hT w h).1
  have hG : GoodIn Ts ws := fun w h => hT w (by unfold wsV; exact List.mem_append_right _ h)
  have hc : Cond.codeWith y bytes maxL ret hh ∈ ws := by rw [hw]; exact List.mem_cons_self
  refine ⟨⟨hrc, hrs, hR.1, hR.2, pay_in ht hG, hc⟩, ht _ (hG _ hc).1, ok _ (by simp [wsV]), ⟨hd.1, hd.2.1⟩, fun sig h => ?_, ok _ (by simp [wsV]), ok _ (by simp [wsV]), ok _ (by simp [wsV])⟩
  have h2 := hd.2.2
  rw [h] at h2
  exact (Option.some.inj h2).symm
theorem vx_runVW {y : MethodName} {bytes cc : ByteArray} {maxL nL mc ms n index : Nat} {ret : Option FieldType} {hh : List (Nat × Nat × Nat × Nat)} {ws : List Cond} {rm : Room} {Pc : Array Value → State → Prop} {Qc : Array Value → State → Outcome → State → Prop} {free : Addr → Prop} {Ts : List Cond} {own C : String} {b : Addr} {As rest : List Value} {g : JFrame}
    (S : CallFix p m c cc nL s args Ts own) (hM : Met l y ws rm Pc Qc mc ms free) (cw : vx_CVW R s args own C index y bytes maxL ret hh ws rm mc ms n) (hp : PreV s H C b Pc As)
    (hg : g.method = m) (hn : As.length = n) (hsize : g.locals.size = nL) (hstack : g.stack = As.reverse ++ .ref b :: rest) (hW : 2 * g.monitorRoom + (rest.map fun v => v.category).sum ≤ 8) (hdg : decode cc g.pc = .ok (.invokevirtual index, 3)) (hf : cells + mc ≤ R.cells ∧ slots + ms ≤ R.slots) :
    va_Run p l e R s m args below meth c H locs cells slots mc ms g rest (Qc (Value.ref b :: As).toArray) free := by
  obtain ⟨⟨hrc, hrs, hfr, hlo, hws, hcw⟩, hcode, hini, hy, hlen, hl, hin, hse⟩ := cw
  have hK : Back l R p e below s args y 3 8 (PreOf R mc ms Pc) (PostOf Qc mc ms free) := va_backW (hh := hh) (bytes := bytes) (maxL := maxL) (ret := ret) hM hp.1 hrc hrs hfr hlo hws hcw (fun a' U hW => word_at hW (Or.inl (by first | rfl | simp [Cond.onTables, Cond.keeps, Cond.steady])) hini)
  obtain ⟨hx, hb, hml, ho, -⟩ := S
  obtain ⟨-, ⟨cellB, hcB, hoB, hclB⟩, hPc⟩ := hp
  intro T hT X
  obtain ⟨v, vm₁, ⟨U', l2, c2, s2⟩, hW₁, X', ⟨g', mk, t, L, e1, e2, hq, h1, hL, h2, h3⟩, st⟩ := vx_callVW X hx (C := C) (hh := hh) (bytes := bytes) (maxL := maxL) (ret := ret) ho hl hin hse hcode hy hK (by rw [hT]; exact hcB) hoB hclB hg (hsize.trans hml.symm) (argsL := As) (rest := rest) (fun sig h => hn.trans (hlen sig h)) hstack hW (by rw [hb]; exact hdg)
    (fun vm₁ hW₁ => ⟨hf.1, hf.2, hPc (T.setVm vm₁) hT hW₁⟩)
  dsimp only [Pt.U, Pt.locs, Pt.cells, Pt.slots] at X' e1 e2 h1 h2 h3 st
  subst h1; subst h2; subst h3
  exact ⟨v, (T.setVm vm₁).calling g' mk (Value.ref b :: As).toArray, t, U', L, hT, X', hL, e1, e2, hq, st⟩
section
variable {y : MethodName} {bytes cc : ByteArray} {maxL nL mc ms n index : Nat} {ret : Option FieldType} {ws : List Cond} {rm : Room} {Pc : Array Value → State → Prop} {Qc : Array Value → State → Outcome → State → Prop} {XC : String → State → State → Prop} {free : Addr → Prop} {Ts : List Cond} {own C : String} {b : Addr} {As rest : List Value} {g : JFrame}
theorem vx_runVX {hh : List (Nat × Nat × Nat × Nat)} (S : CallFix p m c cc nL s args Ts own) (hM : vx_Met l y ws rm Pc Qc XC mc ms free) (cw : vx_CVW R s args own C index y bytes maxL ret hh ws rm mc ms n) (hp : PreV s H C b Pc As)
    (hg : g.method = m) (hn : As.length = n) (hsize : g.locals.size = nL) (hstack : g.stack = As.reverse ++ .ref b :: rest) (hW : 2 * g.monitorRoom + (rest.map fun v => v.category).sum ≤ 8) (hdg : decode cc g.pc = .ok (.invokevirtual index, 3)) (hf : cells + mc ≤ R.cells ∧ slots + ms ≤ R.slots) :
    vx_Run p l e R s m args below meth c H locs cells slots mc ms g rest (Qc (Value.ref b :: As).toArray) XC free := by
  obtain ⟨⟨hrc, hrs, hfr, hlo, hws, hcw⟩, hcode, hini, hy, hlen, hl, hin, hse⟩ := cw
  have hK : vx_Back l R p e below s args y 3 8 (PreOf R mc ms Pc) (PostOf Qc mc ms free) (vx_Post XC mc ms free) := vx_backW (hh := hh) (bytes := bytes) (maxL := maxL) (ret := ret) hM hp.1 hrc hrs hfr hlo hws hcw (fun a' U hW => word_at hW (Or.inl (by first | rfl | simp [Cond.onTables, Cond.keeps, Cond.steady])) hini)
  obtain ⟨hx, hb, hml, ho, -⟩ := S
  obtain ⟨-, ⟨cellB, hcB, hoB, hclB⟩, hPc⟩ := hp
  intro T hT X
  rcases vx_callVX X hx (C := C) (hh := hh) (bytes := bytes) (maxL := maxL) (ret := ret) ho hl hin hse hcode hy hK (by rw [hT]; exact hcB) hoB hclB hg (hsize.trans hml.symm) (argsL := As) (rest := rest) (fun sig h => hn.trans (hlen sig h)) hstack hW (by rw [hb]; exact hdg)
    (fun vm₁ hW₁ => ⟨hf.1, hf.2, hPc (T.setVm vm₁) hT hW₁⟩) with ⟨v, vm₁, ⟨U', l2, c2, s2⟩, hW₁, X', ⟨g', mk, t, L, e1, e2, hq, h1, hL, h2, h3⟩, st⟩ | ⟨q, vm₁, ⟨U', l2, c2, s2⟩, hW₁, X', ⟨g', mk, t, L, E, ce, e1, e2, hq, hce, hcv, hcl, h1, hL, h2, h3⟩, st⟩
  · dsimp only [Pt.U, Pt.locs, Pt.cells, Pt.slots] at X' e1 e2 h1 h2 h3 st
    subst h1; subst h2; subst h3
    exact Or.inl ⟨v, (T.setVm vm₁).calling g' mk (Value.ref b :: As).toArray, t, U', L, hT, X', hL, e1, e2, hq, st⟩
  · dsimp only [Pt.U, Pt.locs, Pt.cells, Pt.slots] at X' e1 e2 h1 h2 h3 st hcl
    subst h1; subst h2; subst h3
    exact Or.inr ⟨q, (T.setVm vm₁).calling g' mk (Value.ref b :: As).toArray, t, U', L, E, ce, hT, X', hL, e1, e2, hq, hce, hcv, vx_cls hW₁ hcl, st⟩
theorem vx_runSX {hh : List (Nat × Nat × Nat × Nat)} (S : CallFix p m c cc nL s args Ts own) (hM : vx_Met l y ws rm Pc Qc XC mc ms free) (cw : vx_CSW R s args own index y bytes maxL ret hh ws rm mc ms n) (hp : PreS s H Pc As)
    (hg : g.method = m) (hn : As.length = n) (hsize : g.locals.size = nL) (hstack : g.stack = As.reverse ++ rest) (hW : 2 * g.monitorRoom + (rest.map fun v => v.category).sum ≤ 8) (hdg : decode cc g.pc = .ok (.invokestatic index, 3)) (hf : cells + mc ≤ R.cells ∧ slots + ms ≤ R.slots) :
    vx_Run p l e R s m args below meth c H locs cells slots mc ms g rest (Qc As.toArray) XC free := by
  obtain ⟨⟨hrc, hrs, hfr, hlo, hws, hcw⟩, hcode, hini, hy, hlen, hl, hstt⟩ := cw
  have hK : vx_Back l R p e below s args y 3 8 (PreOf R mc ms Pc) (PostOf Qc mc ms free) (vx_Post XC mc ms free) := vx_backW (hh := hh) (bytes := bytes) (maxL := maxL) (ret := ret) hM hp.1 hrc hrs hfr hlo hws hcw (fun a' U hW => word_at hW (Or.inl (by first | rfl | simp [Cond.onTables, Cond.keeps, Cond.steady])) hini)
  obtain ⟨hx, hb, hml, ho, -⟩ := S
  intro T hT X
  rcases vx_callSX X hx (hh := hh) (bytes := bytes) (maxL := maxL) (ret := ret) ho hl hstt hini hcode hy hK hg (hsize.trans hml.symm) (argsL := As) (rest := rest) (fun sig h => hn.trans (hlen sig h)) hstack hW (by rw [hb]; exact hdg)
    (fun vm₁ hW₁ => ⟨hf.1, hf.2, hp.2 (T.setVm vm₁) hT hW₁⟩) with ⟨v, vm₁, ⟨U', l2, c2, s2⟩, hW₁, X', ⟨g', mk, t, L, e1, e2, hq, h1, hL, h2, h3⟩, st⟩ | ⟨q, vm₁, ⟨U', l2, c2, s2⟩, hW₁, X', ⟨g', mk, t, L, E, ce, e1, e2, hq, hce, hcv, hcl, h1, hL, h2, h3⟩, st⟩
  · dsimp only [Pt.U, Pt.locs, Pt.cells, Pt.slots] at X' e1 e2 h1 h2 h3 st
    subst h1; subst h2; subst h3
    exact Or.inl ⟨v, (T.setVm vm₁).calling g' mk As.toArray, t, U', L, hT, X', hL, e1, e2, hq, st⟩
  · dsimp only [Pt.U, Pt.locs, Pt.cells, Pt.slots] at X' e1 e2 h1 h2 h3 st hcl
    subst h1; subst h2; subst h3
    exact Or.inr ⟨q, (T.setVm vm₁).calling g' mk As.toArray, t, U', L, E, ce, hT, X', hL, e1, e2, hq, hce, hcv, vx_cls hW₁ hcl, st⟩
end
end VXH
theorem vx_ofWH {l : Launch} {y : MethodName} {ws ws' : List Cond} {rm : Room} {Pc : Array Value → State → Prop} {Qc : Array Value → State → Outcome → State → Prop} {XC : String → State → State → Prop} {mc ms : Nat} {free : Addr → Prop} {cc : ByteArray} {maxL : Nat} {ret : Option FieldType} {hh : List (Nat × Nat × Nat × Nat)}
    (hy : plainName y.cls = true) (hw : ws = Cond.codeWith y cc maxL ret hh :: ws')
    (body : ∀ p e s m args below meth c s₁, BodyLoose p l y (headSpec ws rm) cc maxL ret e s m args below meth c s₁ → c.maxLocals = maxL → Pc args s →
      W p l e (headSpec ws rm).room s m args below meth c s.heap [] 0 0 (vx_MQ below Qc XC args s mc ms free) (entryFrame m args maxL)) : vx_Met l y ws rm Pc Qc XC mc ms free := by
  refine MetFree.of_bodyS (code := cc) (maxLocals := maxL) (ret := ret) hy ?_ ?_
  · intro args s m h hn
    obtain ⟨m9, meth, c, hn9, h1, h2, h3, h4, -, h5, h6, -⟩ := Cond.codeWith_spec (atoms_spec (ws := ws) h _ (by rw [hw]; exact List.mem_cons_self))
    cases hn.symm.trans hn9
    exact ⟨meth, c, h1, h2, h3, h4, h5, h6⟩
  · intro p e s m args below meth c s₁ B hml hP _
    have hh0 : s₁.heap = s.heap := by rw [B.state]; rfl
    obtain ⟨t, a1, o, b1, b2, b3⟩ := body p e s m args below meth c s₁ B hml hP s₁ hh0 (Stand.of_body B)
    exact ⟨t, o, a1, b1, b2, b3⟩
/-! ===== END ===== -/

/-! names -/
def RX0 : String := "LetterCuts$Matching"
def TX0 : u_T := fun k => match k with
  | 0 => ("LetterCuts$Matching", "choices", "[J", true)
  | 1 => ("LetterCuts$Matching", "holders", "[I", true)
  | 2 => ("LetterCuts$Matching", "given", "I", false)
  | _ => ("LetterCuts$Matching", "tried", "J", false)
def tyX0 : Nat → FieldType := fun k => match k with
  | 0 => .array .long
  | 1 => .array .int
  | 2 => .int
  | _ => .long
theorem nmX0 : ∀ a, a < 4 → ∀ b, b < 4 → a ≠ b → (TX0 a).2.1 ≠ (TX0 b).2.1 := by decide +kernel
theorem tyX0_ok : ∀ k, k < 4 → parseFieldDescriptor (TX0 k).2.2.1 = some (tyX0 k) := by decide +kernel
abbrev cX0_init : ByteArray := prog_2_method_1_code
def yX0_init : MethodName := ⟨RX0, "<init>", "()V"⟩
abbrev cX0_clear : ByteArray := prog_2_method_2_code
def yX0_clear : MethodName := ⟨RX0, "clear", "()V"⟩
abbrev cX0_give : ByteArray := prog_2_method_3_code
def yX0_give : MethodName := ⟨RX0, "give", "(J)Z"⟩
abbrev cX0_findCell : ByteArray := prog_2_method_4_code
def yX0_findCell : MethodName := ⟨RX0, "findCell", "(II)Z"⟩
abbrev cX0_canMove : ByteArray := prog_2_method_5_code
def yX0_canMove : MethodName := ⟨RX0, "canMove", "(II)Z"⟩
def RX1 : String := "LetterCuts$Planner"
def TX1 : u_T := fun k => match k with
  | 0 => ("LetterCuts$Planner", "matching", "LLetterCuts$Matching;", true)
  | 1 => ("LetterCuts$Planner", "cellsOfLetter", "[J", true)
  | 2 => ("LetterCuts$Planner", "cellBits", "[J", true)
  | 3 => ("LetterCuts$Planner", "runs", "[[I", true)
  | 4 => ("LetterCuts$Planner", "mostSaved", "[I", true)
  | 5 => ("LetterCuts$Planner", "letters", "I", false)
  | 6 => ("LetterCuts$Planner", "cutSpots", "[I", true)
  | 7 => ("LetterCuts$Planner", "cutLengths", "[I", true)
  | 8 => ("LetterCuts$Planner", "cuts", "I", false)
  | _ => ("LetterCuts$Planner", "cells", "J", false)
def tyX1 : Nat → FieldType := fun k => match k with
  | 0 => .object "LetterCuts$Matching"
  | 1 => .array .long
  | 2 => .array .long
  | 3 => .array (.array .int)
  | 4 => .array .int
  | 5 => .int
  | 6 => .array .int
  | 7 => .array .int
  | 8 => .int
  | _ => .long
theorem nmX1 : ∀ a, a < 10 → ∀ b, b < 10 → a ≠ b → (TX1 a).2.1 ≠ (TX1 b).2.1 := by decide +kernel
theorem tyX1_ok : ∀ k, k < 10 → parseFieldDescriptor (TX1 k).2.2.1 = some (tyX1 k) := by decide +kernel
abbrev cX1_init : ByteArray := prog_3_method_1_code
def yX1_init : MethodName := ⟨RX1, "<init>", "()V"⟩
abbrev cX1_spotOfCut : ByteArray := prog_3_method_2_code
def yX1_spotOfCut : MethodName := ⟨RX1, "spotOfCut", "(I)I"⟩
abbrev cX1_lengthOfCut : ByteArray := prog_3_method_3_code
def yX1_lengthOfCut : MethodName := ⟨RX1, "lengthOfCut", "(I)I"⟩
abbrev cX1_prepare : ByteArray := prog_3_method_4_code
def yX1_prepare : MethodName := ⟨RX1, "prepare", "(LLetterCuts$Sheet;)V"⟩
abbrev cX1_boundSaved : ByteArray := prog_3_method_5_code
def yX1_boundSaved : MethodName := ⟨RX1, "boundSaved", "(I)I"⟩
abbrev cX1_choose : ByteArray := prog_3_method_6_code
def yX1_choose : MethodName := ⟨RX1, "choose", "(J)I"⟩
abbrev cX1_chooseCut : ByteArray := prog_3_method_7_code
def yX1_chooseCut : MethodName := ⟨RX1, "chooseCut", "(IJI)I"⟩
abbrev cX1_freeStrip : ByteArray := prog_3_method_8_code
def yX1_freeStrip : MethodName := ⟨RX1, "freeStrip", "(IIIJ)J"⟩
abbrev cX1_canSave : ByteArray := prog_3_method_9_code
def yX1_canSave : MethodName := ⟨RX1, "canSave", "(IIJI)Z"⟩
abbrev cX1_canSaveAt : ByteArray := prog_3_method_10_code
def yX1_canSaveAt : MethodName := ⟨RX1, "canSaveAt", "(IIJI)Z"⟩
abbrev cX1_canSpell : ByteArray := prog_3_method_11_code
def yX1_canSpell : MethodName := ⟨RX1, "canSpell", "(IIJ)Z"⟩
def RX2 : String := "LetterCuts$SetupReader"
def TX2 : u_T := fun k => match k with
  | 0 => ("LetterCuts$SetupReader", "draft", "LLetterCuts$Sheet;", true)
  | 1 => ("LetterCuts$SetupReader", "text", "[B", true)
  | 2 => ("LetterCuts$SetupReader", "length", "I", false)
  | 3 => ("LetterCuts$SetupReader", "at", "I", false)
  | 4 => ("LetterCuts$SetupReader", "error", "I", false)
  | 5 => ("LetterCuts$SetupReader", "errorOffset", "I", false)
  | 6 => ("LetterCuts$SetupReader", "hasFront", "Z", false)
  | 7 => ("LetterCuts$SetupReader", "hasBack", "Z", false)
  | 8 => ("LetterCuts$SetupReader", "hasSizes", "Z", false)
  | _ => ("LetterCuts$SetupReader", "hasLeast", "Z", false)
def tyX2 : Nat → FieldType := fun k => match k with
  | 0 => .object "LetterCuts$Sheet"
  | 1 => .array .byte
  | 2 => .int
  | 3 => .int
  | 4 => .int
  | 5 => .int
  | 6 => .boolean
  | 7 => .boolean
  | 8 => .boolean
  | _ => .boolean
theorem nmX2 : ∀ a, a < 10 → ∀ b, b < 10 → a ≠ b → (TX2 a).2.1 ≠ (TX2 b).2.1 := by decide +kernel
theorem tyX2_ok : ∀ k, k < 10 → parseFieldDescriptor (TX2 k).2.2.1 = some (tyX2 k) := by decide +kernel
abbrev cX2_init : ByteArray := prog_4_method_1_code
def yX2_init : MethodName := ⟨RX2, "<init>", "()V"⟩
abbrev cX2_read : ByteArray := prog_4_method_2_code
def yX2_read : MethodName := ⟨RX2, "read", "([BI)I"⟩
abbrev cX2_readPage : ByteArray := prog_4_method_3_code
def yX2_readPage : MethodName := ⟨RX2, "readPage", "()V"⟩
abbrev cX2_readStatement : ByteArray := prog_4_method_4_code
def yX2_readStatement : MethodName := ⟨RX2, "readStatement", "()V"⟩
abbrev cX2_readLines : ByteArray := prog_4_method_5_code
def yX2_readLines : MethodName := ⟨RX2, "readLines", "(I)V"⟩
abbrev cX2_readLine : ByteArray := prog_4_method_6_code
def yX2_readLine : MethodName := ⟨RX2, "readLine", "(I)V"⟩
abbrev cX2_readSizes : ByteArray := prog_4_method_7_code
def yX2_readSizes : MethodName := ⟨RX2, "readSizes", "()V"⟩
abbrev cX2_readNumber : ByteArray := prog_4_method_8_code
def yX2_readNumber : MethodName := ⟨RX2, "readNumber", "(I)I"⟩
abbrev cX2_readSemicolon : ByteArray := prog_4_method_9_code
def yX2_readSemicolon : MethodName := ⟨RX2, "readSemicolon", "()V"⟩
abbrev cX2_skipSpaces : ByteArray := prog_4_method_10_code
def yX2_skipSpaces : MethodName := ⟨RX2, "skipSpaces", "()V"⟩
abbrev cX2_hasMore : ByteArray := prog_4_method_11_code
def yX2_hasMore : MethodName := ⟨RX2, "hasMore", "()Z"⟩
abbrev cX2_skipWord : ByteArray := prog_4_method_12_code
def yX2_skipWord : MethodName := ⟨RX2, "skipWord", "()V"⟩
abbrev cX2_isWord : ByteArray := prog_4_method_13_code
def yX2_isWord : MethodName := ⟨RX2, "isWord", "(ILjava/lang/String;)Z"⟩
abbrev cX2_fail : ByteArray := prog_4_method_14_code
def yX2_fail : MethodName := ⟨RX2, "fail", "(II)V"⟩
def RX3 : String := "LetterCuts$Sheet"
def TX3 : u_T := fun k => match k with
  | 0 => ("LetterCuts$Sheet", "width", "I", false)
  | 1 => ("LetterCuts$Sheet", "height", "I", false)
  | 2 => ("LetterCuts$Sheet", "leastSize", "I", false)
  | 3 => ("LetterCuts$Sheet", "letters", "[I", true)
  | 4 => ("LetterCuts$Sheet", "sizes", "[I", true)
  | 5 => ("LetterCuts$Sheet", "gone", "J", false)
  | 6 => ("LetterCuts$Sheet", "message", "[I", true)
  | 7 => ("LetterCuts$Sheet", "messageLength", "I", false)
  | 8 => ("LetterCuts$Sheet", "cutsMade", "I", false)
  | _ => ("LetterCuts$Sheet", "lettersCut", "I", false)
def tyX3 : Nat → FieldType := fun k => match k with
  | 0 => .int
  | 1 => .int
  | 2 => .int
  | 3 => .array .int
  | 4 => .array .int
  | 5 => .long
  | 6 => .array .int
  | 7 => .int
  | 8 => .int
  | _ => .int
theorem nmX3 : ∀ a, a < 10 → ∀ b, b < 10 → a ≠ b → (TX3 a).2.1 ≠ (TX3 b).2.1 := by decide +kernel
theorem tyX3_ok : ∀ k, k < 10 → parseFieldDescriptor (TX3 k).2.2.1 = some (tyX3 k) := by decide +kernel
abbrev cX3_init : ByteArray := prog_5_method_1_code
def yX3_init : MethodName := ⟨RX3, "<init>", "()V"⟩
abbrev cX3_startAnew : ByteArray := prog_5_method_2_code
def yX3_startAnew : MethodName := ⟨RX3, "startAnew", "(II)V"⟩
abbrev cX3_copyFrom : ByteArray := prog_5_method_3_code
def yX3_copyFrom : MethodName := ⟨RX3, "copyFrom", "(LLetterCuts$Sheet;)V"⟩
abbrev cX3_countCells : ByteArray := prog_5_method_4_code
def yX3_countCells : MethodName := ⟨RX3, "countCells", "()I"⟩
abbrev cX3_hasPlace : ByteArray := prog_5_method_5_code
def yX3_hasPlace : MethodName := ⟨RX3, "hasPlace", "(II)Z"⟩
abbrev cX3_hasSpot : ByteArray := prog_5_method_6_code
def yX3_hasSpot : MethodName := ⟨RX3, "hasSpot", "(I)Z"⟩
abbrev cX3_spotOf : ByteArray := prog_5_method_7_code
def yX3_spotOf : MethodName := ⟨RX3, "spotOf", "(II)I"⟩
abbrev cX3_placeOf : ByteArray := prog_5_method_8_code
def yX3_placeOf : MethodName := ⟨RX3, "placeOf", "(I)I"⟩
abbrev cX3_spotBehind : ByteArray := prog_5_method_9_code
def yX3_spotBehind : MethodName := ⟨RX3, "spotBehind", "(I)I"⟩
abbrev cX3_cellOf : ByteArray := prog_5_method_10_code
def yX3_cellOf : MethodName := ⟨RX3, "cellOf", "(I)I"⟩
abbrev cX3_letterAt : ByteArray := prog_5_method_11_code
def yX3_letterAt : MethodName := ⟨RX3, "letterAt", "(I)I"⟩
abbrev cX3_sizeAt : ByteArray := prog_5_method_12_code
def yX3_sizeAt : MethodName := ⟨RX3, "sizeAt", "(I)I"⟩
abbrev cX3_isThere : ByteArray := prog_5_method_13_code
def yX3_isThere : MethodName := ⟨RX3, "isThere", "(I)Z"⟩
abbrev cX3_canUse : ByteArray := prog_5_method_14_code
def yX3_canUse : MethodName := ⟨RX3, "canUse", "(I)Z"⟩
abbrev cX3_countThere : ByteArray := prog_5_method_15_code
def yX3_countThere : MethodName := ⟨RX3, "countThere", "()I"⟩
abbrev cX3_countUsable : ByteArray := prog_5_method_16_code
def yX3_countUsable : MethodName := ⟨RX3, "countUsable", "()I"⟩
abbrev cX3_countUsableOf : ByteArray := prog_5_method_17_code
def yX3_countUsableOf : MethodName := ⟨RX3, "countUsableOf", "(I)I"⟩
abbrev cX3_cellsWith : ByteArray := prog_5_method_18_code
def yX3_cellsWith : MethodName := ⟨RX3, "cellsWith", "(I)J"⟩
abbrev cX3_hasMessageLetter : ByteArray := prog_5_method_19_code
def yX3_hasMessageLetter : MethodName := ⟨RX3, "hasMessageLetter", "(I)Z"⟩
abbrev cX3_messageAt : ByteArray := prog_5_method_20_code
def yX3_messageAt : MethodName := ⟨RX3, "messageAt", "(I)I"⟩
abbrev cX3_countInMessage : ByteArray := prog_5_method_21_code
def yX3_countInMessage : MethodName := ⟨RX3, "countInMessage", "(I)I"⟩
abbrev cX3_isStrip : ByteArray := prog_5_method_22_code
def yX3_isStrip : MethodName := ⟨RX3, "isStrip", "(II)Z"⟩
abbrev cX3_cellsOfStrip : ByteArray := prog_5_method_23_code
def yX3_cellsOfStrip : MethodName := ⟨RX3, "cellsOfStrip", "(II)J"⟩
abbrev cX3_lettersFrom : ByteArray := prog_5_method_24_code
def yX3_lettersFrom : MethodName := ⟨RX3, "lettersFrom", "(II)I"⟩
abbrev cX3_take : ByteArray := prog_5_method_25_code
def yX3_take : MethodName := ⟨RX3, "take", "(JI)V"⟩
def RX4 : String := "LetterCuts"
def TX4 : u_T := fun k => match k with
  | 0 => ("LetterCuts", "buffer", "[B", true)
  | 1 => ("LetterCuts", "bufferLength", "I", false)
  | 2 => ("LetterCuts", "latestErrorOffset", "I", false)
  | 3 => ("LetterCuts", "sheet", "LLetterCuts$Sheet;", true)
  | 4 => ("LetterCuts", "past", "[LLetterCuts$Sheet;", true)
  | 5 => ("LetterCuts", "pastCount", "I", false)
  | 6 => ("LetterCuts", "reader", "LLetterCuts$SetupReader;", true)
  | 7 => ("LetterCuts", "matching", "LLetterCuts$Matching;", true)
  | 8 => ("LetterCuts", "planner", "LLetterCuts$Planner;", true)
  | _ => ("LetterCuts", "planKnown", "Z", false)
def tyX4 : Nat → FieldType := fun k => match k with
  | 0 => .array .byte
  | 1 => .int
  | 2 => .int
  | 3 => .object "LetterCuts$Sheet"
  | 4 => .array (.object "LetterCuts$Sheet")
  | 5 => .int
  | 6 => .object "LetterCuts$SetupReader"
  | 7 => .object "LetterCuts$Matching"
  | 8 => .object "LetterCuts$Planner"
  | _ => .boolean
theorem nmX4 : ∀ a, a < 10 → ∀ b, b < 10 → a ≠ b → (TX4 a).2.1 ≠ (TX4 b).2.1 := by decide +kernel
theorem tyX4_ok : ∀ k, k < 10 → parseFieldDescriptor (TX4 k).2.2.1 = some (tyX4 k) := by decide +kernel
abbrev cX4_init : ByteArray := prog_1_method_1_code
def yX4_init : MethodName := ⟨RX4, "<init>", "()V"⟩
abbrev cX4_append : ByteArray := prog_1_method_2_code
def yX4_append : MethodName := ⟨RX4, "append", "(IIIII)I"⟩
abbrev cX4_load : ByteArray := prog_1_method_3_code
def yX4_load : MethodName := ⟨RX4, "load", "(I)I"⟩
abbrev cX4_errorOffset : ByteArray := prog_1_method_4_code
def yX4_errorOffset : MethodName := ⟨RX4, "errorOffset", "()I"⟩
abbrev cX4_state : ByteArray := prog_1_method_5_code
def yX4_state : MethodName := ⟨RX4, "state", "(I)I"⟩
abbrev cX4_letter : ByteArray := prog_1_method_6_code
def yX4_letter : MethodName := ⟨RX4, "letter", "(II)I"⟩
abbrev cX4_place : ByteArray := prog_1_method_7_code
def yX4_place : MethodName := ⟨RX4, "place", "(III)I"⟩
abbrev cX4_stock : ByteArray := prog_1_method_8_code
def yX4_stock : MethodName := ⟨RX4, "stock", "(II)I"⟩
abbrev cX4_message : ByteArray := prog_1_method_9_code
def yX4_message : MethodName := ⟨RX4, "message", "(I)I"⟩
abbrev cX4_missing : ByteArray := prog_1_method_10_code
def yX4_missing : MethodName := ⟨RX4, "missing", "()I"⟩
abbrev cX4_fewest : ByteArray := prog_1_method_11_code
def yX4_fewest : MethodName := ⟨RX4, "fewest", "()I"⟩
abbrev cX4_cutOf : ByteArray := prog_1_method_12_code
def yX4_cutOf : MethodName := ⟨RX4, "cutOf", "(II)I"⟩
abbrev cX4_unevenness : ByteArray := prog_1_method_13_code
def yX4_unevenness : MethodName := ⟨RX4, "unevenness", "()I"⟩
abbrev cX4_copies : ByteArray := prog_1_method_14_code
def yX4_copies : MethodName := ⟨RX4, "copies", "()I"⟩
abbrev cX4_longest : ByteArray := prog_1_method_15_code
def yX4_longest : MethodName := ⟨RX4, "longest", "(I)I"⟩
abbrev cX4_clashes : ByteArray := prog_1_method_16_code
def yX4_clashes : MethodName := ⟨RX4, "clashes", "()I"⟩
abbrev cX4_meanSize : ByteArray := prog_1_method_17_code
def yX4_meanSize : MethodName := ⟨RX4, "meanSize", "()D"⟩
abbrev cX4_tell : ByteArray := prog_1_method_18_code
def yX4_tell : MethodName := ⟨RX4, "tell", "(I)I"⟩
abbrev cX4_cut : ByteArray := prog_1_method_19_code
def yX4_cut : MethodName := ⟨RX4, "cut", "()I"⟩
abbrev cX4_snip : ByteArray := prog_1_method_20_code
def yX4_snip : MethodName := ⟨RX4, "snip", "(III)I"⟩
abbrev cX4_least : ByteArray := prog_1_method_21_code
def yX4_least : MethodName := ⟨RX4, "least", "(I)I"⟩
abbrev cX4_mend : ByteArray := prog_1_method_22_code
def yX4_mend : MethodName := ⟨RX4, "mend", "(I)I"⟩
abbrev cX4_undo : ByteArray := prog_1_method_23_code
def yX4_undo : MethodName := ⟨RX4, "undo", "()I"⟩
abbrev cX4_checksum : ByteArray := prog_1_method_24_code
def yX4_checksum : MethodName := ⟨RX4, "checksum", "()J"⟩
abbrev cX4_putWord : ByteArray := prog_1_method_25_code
def yX4_putWord : MethodName := ⟨RX4, "putWord", "(I)V"⟩
abbrev cX4_startsWithLetters : ByteArray := prog_1_method_26_code
def yX4_startsWithLetters : MethodName := ⟨RX4, "startsWithLetters", "(I)Z"⟩
abbrev cX4_remember : ByteArray := prog_1_method_27_code
def yX4_remember : MethodName := ⟨RX4, "remember", "()V"⟩
abbrev cX4_makeOldestFinal : ByteArray := prog_1_method_28_code
def yX4_makeOldestFinal : MethodName := ⟨RX4, "makeOldestFinal", "()V"⟩
abbrev cX4_letterOrGone : ByteArray := prog_1_method_29_code
def yX4_letterOrGone : MethodName := ⟨RX4, "letterOrGone", "(I)I"⟩
abbrev cX4_isUsedByMessage : ByteArray := prog_1_method_30_code
def yX4_isUsedByMessage : MethodName := ⟨RX4, "isUsedByMessage", "(I)Z"⟩
abbrev cX4_bestCuts : ByteArray := prog_1_method_31_code
def yX4_bestCuts : MethodName := ⟨RX4, "bestCuts", "()I"⟩
abbrev cX4_sizeOfCut : ByteArray := prog_1_method_32_code
def yX4_sizeOfCut : MethodName := ⟨RX4, "sizeOfCut", "(I)I"⟩
abbrev cX4_sizesOfCut : ByteArray := prog_1_method_33_code
def yX4_sizesOfCut : MethodName := ⟨RX4, "sizesOfCut", "(I)I"⟩
abbrev cX4_isLetter : ByteArray := prog_1_method_34_code
def yX4_isLetter : MethodName := ⟨RX4, "isLetter", "(I)Z"⟩
abbrev cX4_sideOf : ByteArray := prog_1_method_35_code
def yX4_sideOf : MethodName := ⟨RX4, "sideOf", "(I)I"⟩
abbrev cX4_rowOf : ByteArray := prog_1_method_36_code
def yX4_rowOf : MethodName := ⟨RX4, "rowOf", "(I)I"⟩
abbrev cX4_columnOf : ByteArray := prog_1_method_37_code
def yX4_columnOf : MethodName := ⟨RX4, "columnOf", "(I)I"⟩
def RX5 : String := "LetterCutsModel"
def TX5 : u_T := fun k => match k with
  | 0 => ("LetterCutsModel", "thrown", "I", false)
  | 1 => ("LetterCutsModel", "buffer", "[I", true)
  | 2 => ("LetterCutsModel", "bufferLength", "I", false)
  | 3 => ("LetterCutsModel", "textLength", "I", false)
  | 4 => ("LetterCutsModel", "position", "I", false)
  | 5 => ("LetterCutsModel", "error", "I", false)
  | 6 => ("LetterCutsModel", "errorAt", "I", false)
  | 7 => ("LetterCutsModel", "errorOffset", "I", false)
  | 8 => ("LetterCutsModel", "data", "[I", true)
  | 9 => ("LetterCutsModel", "draft", "[I", true)
  | 10 => ("LetterCutsModel", "aside", "[I", true)
  | 11 => ("LetterCutsModel", "history", "[[I", true)
  | 12 => ("LetterCutsModel", "undoDepth", "I", false)
  | 13 => ("LetterCutsModel", "numberStart", "I", false)
  | 14 => ("LetterCutsModel", "seen", "I", false)
  | 15 => ("LetterCutsModel", "given", "[I", true)
  | 16 => ("LetterCutsModel", "isAsked", "[Z", true)
  | 17 => ("LetterCutsModel", "taken", "J", false)
  | 18 => ("LetterCutsModel", "needed", "[I", true)
  | 19 => ("LetterCutsModel", "planLetters", "[I", true)
  | 20 => ("LetterCutsModel", "planSide", "[I", true)
  | 21 => ("LetterCutsModel", "planPlace", "[I", true)
  | 22 => ("LetterCutsModel", "matters", "[J", true)
  | 23 => ("LetterCutsModel", "vain", "[J", true)
  | 24 => ("LetterCutsModel", "planCuts", "I", false)
  | 25 => ("LetterCutsModel", "vainMany", "I", false)
  | _ => ("LetterCutsModel", "sizes", "[I", true)
def tyX5 : Nat → FieldType := fun k => match k with
  | 0 => .int
  | 1 => .array .int
  | 2 => .int
  | 3 => .int
  | 4 => .int
  | 5 => .int
  | 6 => .int
  | 7 => .int
  | 8 => .array .int
  | 9 => .array .int
  | 10 => .array .int
  | 11 => .array (.array .int)
  | 12 => .int
  | 13 => .int
  | 14 => .int
  | 15 => .array .int
  | 16 => .array .boolean
  | 17 => .long
  | 18 => .array .int
  | 19 => .array .int
  | 20 => .array .int
  | 21 => .array .int
  | 22 => .array .long
  | 23 => .array .long
  | 24 => .int
  | 25 => .int
  | _ => .array .int
theorem nmX5 : ∀ a, a < 27 → ∀ b, b < 27 → a ≠ b → (TX5 a).2.1 ≠ (TX5 b).2.1 := by decide +kernel
theorem tyX5_ok : ∀ k, k < 27 → parseFieldDescriptor (TX5 k).2.2.1 = some (tyX5 k) := by decide +kernel
abbrev cX5_init : ByteArray := prog_7_method_1_code
def yX5_init : MethodName := ⟨RX5, "<init>", "()V"⟩
abbrev cX5_thrown : ByteArray := prog_7_method_2_code
def yX5_thrown : MethodName := ⟨RX5, "thrown", "()I"⟩
abbrev cX5_fails : ByteArray := prog_7_method_3_code
def yX5_fails : MethodName := ⟨RX5, "fails", "(ZI)Z"⟩
abbrev cX5_in : ByteArray := prog_7_method_4_code
def yX5_in : MethodName := ⟨RX5, "in", "(III)Z"⟩
abbrev cX5_min : ByteArray := prog_7_method_5_code
def yX5_min : MethodName := ⟨RX5, "min", "(II)I"⟩
abbrev cX5_copy : ByteArray := prog_7_method_7_code
def yX5_copy : MethodName := ⟨RX5, "copy", "([I[I)V"⟩
abbrev cX5_laySheet : ByteArray := prog_7_method_8_code
def yX5_laySheet : MethodName := ⟨RX5, "laySheet", "([III)V"⟩
abbrev cX5_append : ByteArray := prog_7_method_9_code
def yX5_append : MethodName := ⟨RX5, "append", "(IIIII)I"⟩
abbrev cX5_byteAt : ByteArray := prog_7_method_10_code
def yX5_byteAt : MethodName := ⟨RX5, "byteAt", "(I)I"⟩
abbrev cX5_ahead : ByteArray := prog_7_method_11_code
def yX5_ahead : MethodName := ⟨RX5, "ahead", "()I"⟩
abbrev cX5_isGood : ByteArray := prog_7_method_12_code
def yX5_isGood : MethodName := ⟨RX5, "isGood", "()Z"⟩
abbrev cX5_report : ByteArray := prog_7_method_13_code
def yX5_report : MethodName := ⟨RX5, "report", "(II)V"⟩
abbrev cX5_isDigit : ByteArray := prog_7_method_14_code
def yX5_isDigit : MethodName := ⟨RX5, "isDigit", "(I)Z"⟩
abbrev cX5_takeWord : ByteArray := prog_7_method_15_code
def yX5_takeWord : MethodName := ⟨RX5, "takeWord", "(Ljava/lang/String;)Z"⟩
abbrev cX5_expect : ByteArray := prog_7_method_16_code
def yX5_expect : MethodName := ⟨RX5, "expect", "(I)V"⟩
abbrev cX5_number : ByteArray := prog_7_method_17_code
def yX5_number : MethodName := ⟨RX5, "number", "(II)I"⟩
abbrev cX5_once : ByteArray := prog_7_method_18_code
def yX5_once : MethodName := ⟨RX5, "once", "(II)V"⟩
abbrev cX5_isLine : ByteArray := prog_7_method_19_code
def yX5_isLine : MethodName := ⟨RX5, "isLine", "(I)Z"⟩
abbrev cX5_readLine : ByteArray := prog_7_method_20_code
def yX5_readLine : MethodName := ⟨RX5, "readLine", "(II)V"⟩
abbrev cX5_readSide : ByteArray := prog_7_method_21_code
def yX5_readSide : MethodName := ⟨RX5, "readSide", "(II)V"⟩
abbrev cX5_statement : ByteArray := prog_7_method_22_code
def yX5_statement : MethodName := ⟨RX5, "statement", "()V"⟩
abbrev cX5_load : ByteArray := prog_7_method_23_code
def yX5_load : MethodName := ⟨RX5, "load", "(I)I"⟩
abbrev cX5_errorOffset : ByteArray := prog_7_method_24_code
def yX5_errorOffset : MethodName := ⟨RX5, "errorOffset", "()I"⟩
abbrev cX5_cells : ByteArray := prog_7_method_25_code
def yX5_cells : MethodName := ⟨RX5, "cells", "()I"⟩
abbrev cX5_behind : ByteArray := prog_7_method_26_code
def yX5_behind : MethodName := ⟨RX5, "behind", "(I)I"⟩
abbrev cX5_cellOf : ByteArray := prog_7_method_27_code
def yX5_cellOf : MethodName := ⟨RX5, "cellOf", "(II)I"⟩
abbrev cX5_letterAt : ByteArray := prog_7_method_28_code
def yX5_letterAt : MethodName := ⟨RX5, "letterAt", "(II)I"⟩
abbrev cX5_sizeAt : ByteArray := prog_7_method_29_code
def yX5_sizeAt : MethodName := ⟨RX5, "sizeAt", "(II)I"⟩
abbrev cX5_isGone : ByteArray := prog_7_method_30_code
def yX5_isGone : MethodName := ⟨RX5, "isGone", "(II)Z"⟩
abbrev cX5_canUse : ByteArray := prog_7_method_31_code
def yX5_canUse : MethodName := ⟨RX5, "canUse", "(II)Z"⟩
abbrev cX5_isLetter : ByteArray := prog_7_method_32_code
def yX5_isLetter : MethodName := ⟨RX5, "isLetter", "(III)Z"⟩
abbrev cX5_inMessage : ByteArray := prog_7_method_33_code
def yX5_inMessage : MethodName := ⟨RX5, "inMessage", "(I)I"⟩
abbrev cX5_hasLetter : ByteArray := prog_7_method_34_code
def yX5_hasLetter : MethodName := ⟨RX5, "hasLetter", "(II)Z"⟩
abbrev cX5_gives : ByteArray := prog_7_method_35_code
def yX5_gives : MethodName := ⟨RX5, "gives", "(I)Z"⟩
abbrev cX5_missingNow : ByteArray := prog_7_method_36_code
def yX5_missingNow : MethodName := ⟨RX5, "missingNow", "()I"⟩
abbrev cX5_missingFrom : ByteArray := prog_7_method_37_code
def yX5_missingFrom : MethodName := ⟨RX5, "missingFrom", "(I)I"⟩
abbrev cX5_isStrip : ByteArray := prog_7_method_38_code
def yX5_isStrip : MethodName := ⟨RX5, "isStrip", "(IIII)Z"⟩
abbrev cX5_longestFrom : ByteArray := prog_7_method_39_code
def yX5_longestFrom : MethodName := ⟨RX5, "longestFrom", "(I)I"⟩
abbrev cX5_layNeeded : ByteArray := prog_7_method_40_code
def yX5_layNeeded : MethodName := ⟨RX5, "layNeeded", "()V"⟩
abbrev cX5_cellsOf : ByteArray := prog_7_method_41_code
def yX5_cellsOf : MethodName := ⟨RX5, "cellsOf", "(III)J"⟩
abbrev cX5_keyOf : ByteArray := prog_7_method_42_code
def yX5_keyOf : MethodName := ⟨RX5, "keyOf", "(II)J"⟩
abbrev cX5_vainAt : ByteArray := prog_7_method_43_code
def yX5_vainAt : MethodName := ⟨RX5, "vainAt", "(J)I"⟩
abbrev cX5_plans : ByteArray := prog_7_method_44_code
def yX5_plans : MethodName := ⟨RX5, "plans", "(III)Z"⟩
abbrev cX5_plansBy : ByteArray := prog_7_method_45_code
def yX5_plansBy : MethodName := ⟨RX5, "plansBy", "(I)Z"⟩
abbrev cX5_layPlan : ByteArray := prog_7_method_46_code
def yX5_layPlan : MethodName := ⟨RX5, "layPlan", "()I"⟩
abbrev cX5_laySizes : ByteArray := prog_7_method_47_code
def yX5_laySizes : MethodName := ⟨RX5, "laySizes", "()V"⟩
abbrev cX5_goesOff : ByteArray := prog_7_method_48_code
def yX5_goesOff : MethodName := ⟨RX5, "goesOff", "(III)V"⟩
abbrev cX5_cutPlan : ByteArray := prog_7_method_49_code
def yX5_cutPlan : MethodName := ⟨RX5, "cutPlan", "()V"⟩
abbrev cX5_cellsThere : ByteArray := prog_7_method_50_code
def yX5_cellsThere : MethodName := ⟨RX5, "cellsThere", "()I"⟩
abbrev cX5_usable : ByteArray := prog_7_method_51_code
def yX5_usable : MethodName := ⟨RX5, "usable", "()I"⟩
abbrev cX5_told : ByteArray := prog_7_method_52_code
def yX5_told : MethodName := ⟨RX5, "told", "(I)I"⟩
abbrev cX5_state : ByteArray := prog_7_method_53_code
def yX5_state : MethodName := ⟨RX5, "state", "(I)I"⟩
abbrev cX5_noPlace : ByteArray := prog_7_method_54_code
def yX5_noPlace : MethodName := ⟨RX5, "noPlace", "(II)Z"⟩
abbrev cX5_toldLetter : ByteArray := prog_7_method_55_code
def yX5_toldLetter : MethodName := ⟨RX5, "toldLetter", "(II)I"⟩
abbrev cX5_letter : ByteArray := prog_7_method_56_code
def yX5_letter : MethodName := ⟨RX5, "letter", "(II)I"⟩
abbrev cX5_toldPlace : ByteArray := prog_7_method_57_code
def yX5_toldPlace : MethodName := ⟨RX5, "toldPlace", "(III)I"⟩
abbrev cX5_place : ByteArray := prog_7_method_58_code
def yX5_place : MethodName := ⟨RX5, "place", "(III)I"⟩
abbrev cX5_stock : ByteArray := prog_7_method_59_code
def yX5_stock : MethodName := ⟨RX5, "stock", "(II)I"⟩
abbrev cX5_message : ByteArray := prog_7_method_60_code
def yX5_message : MethodName := ⟨RX5, "message", "(I)I"⟩
abbrev cX5_missing : ByteArray := prog_7_method_61_code
def yX5_missing : MethodName := ⟨RX5, "missing", "()I"⟩
abbrev cX5_fewest : ByteArray := prog_7_method_62_code
def yX5_fewest : MethodName := ⟨RX5, "fewest", "()I"⟩
abbrev cX5_toldCut : ByteArray := prog_7_method_63_code
def yX5_toldCut : MethodName := ⟨RX5, "toldCut", "(II)I"⟩
abbrev cX5_cutOf : ByteArray := prog_7_method_64_code
def yX5_cutOf : MethodName := ⟨RX5, "cutOf", "(II)I"⟩
abbrev cX5_unevenness : ByteArray := prog_7_method_65_code
def yX5_unevenness : MethodName := ⟨RX5, "unevenness", "()I"⟩
abbrev cX5_copies : ByteArray := prog_7_method_66_code
def yX5_copies : MethodName := ⟨RX5, "copies", "()I"⟩
abbrev cX5_longest : ByteArray := prog_7_method_67_code
def yX5_longest : MethodName := ⟨RX5, "longest", "(I)I"⟩
abbrev cX5_isWanted : ByteArray := prog_7_method_68_code
def yX5_isWanted : MethodName := ⟨RX5, "isWanted", "(II)Z"⟩
abbrev cX5_clashesNow : ByteArray := prog_7_method_69_code
def yX5_clashesNow : MethodName := ⟨RX5, "clashesNow", "()I"⟩
abbrev cX5_clashes : ByteArray := prog_7_method_70_code
def yX5_clashes : MethodName := ⟨RX5, "clashes", "()I"⟩
abbrev cX5_meanSize : ByteArray := prog_7_method_71_code
def yX5_meanSize : MethodName := ⟨RX5, "meanSize", "()D"⟩
abbrev cX5_remember : ByteArray := prog_7_method_72_code
def yX5_remember : MethodName := ⟨RX5, "remember", "()V"⟩
abbrev cX5_areLetters : ByteArray := prog_7_method_73_code
def yX5_areLetters : MethodName := ⟨RX5, "areLetters", "(I)Z"⟩
abbrev cX5_tell : ByteArray := prog_7_method_74_code
def yX5_tell : MethodName := ⟨RX5, "tell", "(I)I"⟩
abbrev cX5_cut : ByteArray := prog_7_method_75_code
def yX5_cut : MethodName := ⟨RX5, "cut", "()I"⟩
abbrev cX5_isCut : ByteArray := prog_7_method_76_code
def yX5_isCut : MethodName := ⟨RX5, "isCut", "(III)Z"⟩
abbrev cX5_snip : ByteArray := prog_7_method_77_code
def yX5_snip : MethodName := ⟨RX5, "snip", "(III)I"⟩
abbrev cX5_least : ByteArray := prog_7_method_78_code
def yX5_least : MethodName := ⟨RX5, "least", "(I)I"⟩
abbrev cX5_mend : ByteArray := prog_7_method_79_code
def yX5_mend : MethodName := ⟨RX5, "mend", "(I)I"⟩
abbrev cX5_undo : ByteArray := prog_7_method_80_code
def yX5_undo : MethodName := ⟨RX5, "undo", "()I"⟩
abbrev cX5_checksum : ByteArray := prog_7_method_81_code
def yX5_checksum : MethodName := ⟨RX5, "checksum", "()J"⟩
def RJx145de : String := "java/io/Serializable"
def TJx145de : u_T := fun k => match k with
  | _ => ("", "", "", false)
def tyJx145de : Nat → FieldType := fun k => match k with
  | _ => .int
theorem nmJx145de : ∀ a, a < 0 → ∀ b, b < 0 → a ≠ b → (TJx145de a).2.1 ≠ (TJx145de b).2.1 := by decide +kernel
theorem tyJx145de_ok : ∀ k, k < 0 → parseFieldDescriptor (TJx145de k).2.2.1 = some (tyJx145de k) := by decide +kernel
def RJx9f9b0 : String := "java/lang/CharSequence"
def TJx9f9b0 : u_T := fun k => match k with
  | _ => ("", "", "", false)
def tyJx9f9b0 : Nat → FieldType := fun k => match k with
  | _ => .int
theorem nmJx9f9b0 : ∀ a, a < 0 → ∀ b, b < 0 → a ≠ b → (TJx9f9b0 a).2.1 ≠ (TJx9f9b0 b).2.1 := by decide +kernel
theorem tyJx9f9b0_ok : ∀ k, k < 0 → parseFieldDescriptor (TJx9f9b0 k).2.2.1 = some (tyJx9f9b0 k) := by decide +kernel
def RJxb160c : String := "java/lang/Comparable"
def TJxb160c : u_T := fun k => match k with
  | _ => ("", "", "", false)
def tyJxb160c : Nat → FieldType := fun k => match k with
  | _ => .int
theorem nmJxb160c : ∀ a, a < 0 → ∀ b, b < 0 → a ≠ b → (TJxb160c a).2.1 ≠ (TJxb160c b).2.1 := by decide +kernel
theorem tyJxb160c_ok : ∀ k, k < 0 → parseFieldDescriptor (TJxb160c k).2.2.1 = some (tyJxb160c k) := by decide +kernel
def RJ13 : String := "java/lang/Long"
def TJ13 : u_T := fun k => match k with
  | _ => ("", "", "", false)
def tyJ13 : Nat → FieldType := fun k => match k with
  | _ => .int
theorem nmJ13 : ∀ a, a < 0 → ∀ b, b < 0 → a ≠ b → (TJ13 a).2.1 ≠ (TJ13 b).2.1 := by decide +kernel
theorem tyJ13_ok : ∀ k, k < 0 → parseFieldDescriptor (TJ13 k).2.2.1 = some (tyJ13 k) := by decide +kernel
abbrev cJ13_bitCount_95d88 : ByteArray := prog_15_method_50_code
def yJ13_bitCount_95d88 : MethodName := ⟨RJ13, "bitCount", "(J)I"⟩
def RJ9 : String := "java/lang/Math"
def TJ9 : u_T := fun k => match k with
  | _ => ("", "", "", false)
def tyJ9 : Nat → FieldType := fun k => match k with
  | _ => .int
theorem nmJ9 : ∀ a, a < 0 → ∀ b, b < 0 → a ≠ b → (TJ9 a).2.1 ≠ (TJ9 b).2.1 := by decide +kernel
theorem tyJ9_ok : ∀ k, k < 0 → parseFieldDescriptor (TJ9 k).2.2.1 = some (tyJ9 k) := by decide +kernel
abbrev cJ9_abs_0f7a4 : ByteArray := prog_16_method_59_code
def yJ9_abs_0f7a4 : MethodName := ⟨RJ9, "abs", "(I)I"⟩
abbrev cJ9_max_7cf53 : ByteArray := prog_16_method_65_code
def yJ9_max_7cf53 : MethodName := ⟨RJ9, "max", "(II)I"⟩
abbrev cJ9_min_7cf53 : ByteArray := prog_16_method_69_code
def yJ9_min_7cf53 : MethodName := ⟨RJ9, "min", "(II)I"⟩
def RJ0 : String := "java/lang/String"
def TJ0 : u_T := fun k => match k with
  | _ => ("", "", "", false)
def tyJ0 : Nat → FieldType := fun k => match k with
  | _ => .int
theorem nmJ0 : ∀ a, a < 0 → ∀ b, b < 0 → a ≠ b → (TJ0 a).2.1 ≠ (TJ0 b).2.1 := by decide +kernel
theorem tyJ0_ok : ∀ k, k < 0 → parseFieldDescriptor (TJ0 k).2.2.1 = some (tyJ0 k) := by decide +kernel
abbrev cJ0_length_8abf5 : ByteArray := prog_18_method_54_code
def yJ0_length_8abf5 : MethodName := ⟨RJ0, "length", "()I"⟩
abbrev cJ0_charAt_5068e : ByteArray := prog_18_method_56_code
def yJ0_charAt_5068e : MethodName := ⟨RJ0, "charAt", "(I)C"⟩
abbrev cJ0_coder_7d493 : ByteArray := prog_18_method_152_code
def yJ0_coder_7d493 : MethodName := ⟨RJ0, "coder", "()B"⟩
abbrev cJ0_isLatin1_aae02 : ByteArray := prog_18_method_154_code
def yJ0_isLatin1_aae02 : MethodName := ⟨RJ0, "isLatin1", "()Z"⟩
abbrev cJ0_checkIndex_df160 : ByteArray := prog_18_method_155_code
def yJ0_checkIndex_df160 : MethodName := ⟨RJ0, "checkIndex", "(II)V"⟩
def RJ1 : String := "java/lang/StringLatin1"
def TJ1 : u_T := fun k => match k with
  | _ => ("", "", "", false)
def tyJ1 : Nat → FieldType := fun k => match k with
  | _ => .int
theorem nmJ1 : ∀ a, a < 0 → ∀ b, b < 0 → a ≠ b → (TJ1 a).2.1 ≠ (TJ1 b).2.1 := by decide +kernel
theorem tyJ1_ok : ∀ k, k < 0 → parseFieldDescriptor (TJ1 k).2.2.1 = some (tyJ1 k) := by decide +kernel
abbrev cJ1_charAt_3b067 : ByteArray := prog_19_method_2_code
def yJ1_charAt_3b067 : MethodName := ⟨RJ1, "charAt", "([BI)C"⟩
def RJ2 : String := "java/lang/StringUTF16"
def TJ2 : u_T := fun k => match k with
  | _ => ("", "", "", false)
def tyJ2 : Nat → FieldType := fun k => match k with
  | _ => .int
theorem nmJ2 : ∀ a, a < 0 → ∀ b, b < 0 → a ≠ b → (TJ2 a).2.1 ≠ (TJ2 b).2.1 := by decide +kernel
theorem tyJ2_ok : ∀ k, k < 0 → parseFieldDescriptor (TJ2 k).2.2.1 = some (tyJ2 k) := by decide +kernel
abbrev cJ2_getChar_3b067 : ByteArray := prog_20_method_5_code
def yJ2_getChar_3b067 : MethodName := ⟨RJ2, "getChar", "([BI)C"⟩
abbrev cJ2_length_9d52b : ByteArray := prog_20_method_6_code
def yJ2_length_9d52b : MethodName := ⟨RJ2, "length", "([B)I"⟩
abbrev cJ2_charAt_3b067 : ByteArray := prog_20_method_83_code
def yJ2_charAt_3b067 : MethodName := ⟨RJ2, "charAt", "([BI)C"⟩
abbrev cJ2_checkIndex_2214a : ByteArray := prog_20_method_91_code
def yJ2_checkIndex_2214a : MethodName := ⟨RJ2, "checkIndex", "(I[B)V"⟩
def RJ10 : String := "java/lang/System"
def TJ10 : u_T := fun k => match k with
  | _ => ("", "", "", false)
def tyJ10 : Nat → FieldType := fun k => match k with
  | _ => .int
theorem nmJ10 : ∀ a, a < 0 → ∀ b, b < 0 → a ≠ b → (TJ10 a).2.1 ≠ (TJ10 b).2.1 := by decide +kernel
theorem tyJ10_ok : ∀ k, k < 0 → parseFieldDescriptor (TJ10 k).2.2.1 = some (tyJ10 k) := by decide +kernel
def RJxfd54e : String := "java/lang/constant/Constable"
def TJxfd54e : u_T := fun k => match k with
  | _ => ("", "", "", false)
def tyJxfd54e : Nat → FieldType := fun k => match k with
  | _ => .int
theorem nmJxfd54e : ∀ a, a < 0 → ∀ b, b < 0 → a ≠ b → (TJxfd54e a).2.1 ≠ (TJxfd54e b).2.1 := by decide +kernel
theorem tyJxfd54e_ok : ∀ k, k < 0 → parseFieldDescriptor (TJxfd54e k).2.2.1 = some (tyJxfd54e k) := by decide +kernel
def RJx3cf43 : String := "java/lang/constant/ConstantDesc"
def TJx3cf43 : u_T := fun k => match k with
  | _ => ("", "", "", false)
def tyJx3cf43 : Nat → FieldType := fun k => match k with
  | _ => .int
theorem nmJx3cf43 : ∀ a, a < 0 → ∀ b, b < 0 → a ≠ b → (TJx3cf43 a).2.1 ≠ (TJx3cf43 b).2.1 := by decide +kernel
theorem tyJx3cf43_ok : ∀ k, k < 0 → parseFieldDescriptor (TJx3cf43 k).2.2.1 = some (tyJx3cf43 k) := by decide +kernel
def RJ7 : String := "java/util/Arrays"
def TJ7 : u_T := fun k => match k with
  | _ => ("", "", "", false)
def tyJ7 : Nat → FieldType := fun k => match k with
  | _ => .int
theorem nmJ7 : ∀ a, a < 0 → ∀ b, b < 0 → a ≠ b → (TJ7 a).2.1 ≠ (TJ7 b).2.1 := by decide +kernel
theorem tyJ7_ok : ∀ k, k < 0 → parseFieldDescriptor (TJ7 k).2.2.1 = some (tyJ7 k) := by decide +kernel
abbrev cJ7_fill_53178 : ByteArray := prog_25_method_103_code
def yJ7_fill_53178 : MethodName := ⟨RJ7, "fill", "([II)V"⟩
def RJ3 : String := "jdk/internal/util/Preconditions"
def TJ3 : u_T := fun k => match k with
  | _ => ("", "", "", false)
def tyJ3 : Nat → FieldType := fun k => match k with
  | _ => .int
theorem nmJ3 : ∀ a, a < 0 → ∀ b, b < 0 → a ≠ b → (TJ3 a).2.1 ≠ (TJ3 b).2.1 := by decide +kernel
theorem tyJ3_ok : ∀ k, k < 0 → parseFieldDescriptor (TJ3 k).2.2.1 = some (tyJ3 k) := by decide +kernel
abbrev cJ3_checkIndex_8e157 : ByteArray := prog_27_method_11_code
def yJ3_checkIndex_8e157 : MethodName := ⟨RJ3, "checkIndex", "(IILjava/util/function/BiFunction;)I"⟩
def RL : String := "LetterCutsLaw"
abbrev cL_load : ByteArray := method_3_code
def yL_load : MethodName := ⟨RL, "load", "(LLetterCuts;I[J)I"⟩
abbrev cL_state : ByteArray := method_4_code
def yL_state : MethodName := ⟨RL, "state", "(LLetterCuts;I[J)I"⟩
abbrev cL_letter : ByteArray := method_5_code
def yL_letter : MethodName := ⟨RL, "letter", "(LLetterCuts;II[J)I"⟩
abbrev cL_place : ByteArray := method_6_code
def yL_place : MethodName := ⟨RL, "place", "(LLetterCuts;III[J)I"⟩
abbrev cL_stock : ByteArray := method_7_code
def yL_stock : MethodName := ⟨RL, "stock", "(LLetterCuts;II[J)I"⟩
abbrev cL_message : ByteArray := method_8_code
def yL_message : MethodName := ⟨RL, "message", "(LLetterCuts;I[J)I"⟩
abbrev cL_cutOf : ByteArray := method_9_code
def yL_cutOf : MethodName := ⟨RL, "cutOf", "(LLetterCuts;II[J)I"⟩
abbrev cL_longest : ByteArray := method_10_code
def yL_longest : MethodName := ⟨RL, "longest", "(LLetterCuts;I[J)I"⟩
abbrev cL_tell : ByteArray := method_11_code
def yL_tell : MethodName := ⟨RL, "tell", "(LLetterCuts;I[J)I"⟩
abbrev cL_cut : ByteArray := method_12_code
def yL_cut : MethodName := ⟨RL, "cut", "(LLetterCuts;[J)I"⟩
abbrev cL_snip : ByteArray := method_13_code
def yL_snip : MethodName := ⟨RL, "snip", "(LLetterCuts;III[J)I"⟩
abbrev cL_least : ByteArray := method_14_code
def yL_least : MethodName := ⟨RL, "least", "(LLetterCuts;I[J)I"⟩
abbrev cL_mend : ByteArray := method_15_code
def yL_mend : MethodName := ⟨RL, "mend", "(LLetterCuts;I[J)I"⟩
abbrev cL_law : ByteArray := code
def yL_law : MethodName := ⟨RL, "law", "([I)Z"⟩
abbrev vwCl : List vw_C := [(RX0, TX0, 4), (RX1, TX1, 10), (RX2, TX2, 10), (RX3, TX3, 10), (RX4, TX4, 10), (RX5, TX5, 27)]
end
section
theorem dX0_init_0 : decode cX0_init 0 = .ok (.aload_n 0, 1) := by decide +kernel
theorem dX0_init_1 : decode cX0_init 1 = .ok (.invokespecial 3, 3) := by decide +kernel
theorem dX0_init_4 : decode cX0_init 4 = .ok (.aload_n 0, 1) := by decide +kernel
theorem dX0_init_5 : decode cX0_init 5 = .ok (.bipush 24, 2) := by decide +kernel
theorem dX0_init_7 : decode cX0_init 7 = .ok (.newarray .long, 2) := by decide +kernel
theorem dX0_init_9 : decode cX0_init 9 = .ok (.putfield 9, 3) := by decide +kernel
theorem dX0_init_12 : decode cX0_init 12 = .ok (.aload_n 0, 1) := by decide +kernel
theorem dX0_init_13 : decode cX0_init 13 = .ok (.bipush 48, 2) := by decide +kernel
theorem dX0_init_15 : decode cX0_init 15 = .ok (.newarray .int, 2) := by decide +kernel
theorem dX0_init_17 : decode cX0_init 17 = .ok (.putfield 15, 3) := by decide +kernel
theorem dX0_init_20 : decode cX0_init 20 = .ok (.return_, 1) := by decide +kernel
theorem dX0_clear_0 : decode cX0_clear 0 = .ok (.aload_n 0, 1) := by decide +kernel
theorem dX0_clear_1 : decode cX0_clear 1 = .ok (.iconst 0, 1) := by decide +kernel
theorem dX0_clear_2 : decode cX0_clear 2 = .ok (.putfield 19, 3) := by decide +kernel
theorem dX0_clear_5 : decode cX0_clear 5 = .ok (.aload_n 0, 1) := by decide +kernel
theorem dX0_clear_6 : decode cX0_clear 6 = .ok (.getfield 15, 3) := by decide +kernel
theorem dX0_clear_9 : decode cX0_clear 9 = .ok (.iconst (-1), 1) := by decide +kernel
theorem dX0_clear_10 : decode cX0_clear 10 = .ok (.invokestatic 23, 3) := by decide +kernel
theorem dX0_clear_13 : decode cX0_clear 13 = .ok (.return_, 1) := by decide +kernel
theorem dX0_give_0 : decode cX0_give 0 = .ok (.aload_n 0, 1) := by decide +kernel
theorem dX0_give_1 : decode cX0_give 1 = .ok (.getfield 19, 3) := by decide +kernel
theorem dX0_give_4 : decode cX0_give 4 = .ok (.ifCond .lt 12, 3) := by decide +kernel
theorem dX0_give_7 : decode cX0_give 7 = .ok (.aload_n 0, 1) := by decide +kernel
theorem dX0_give_8 : decode cX0_give 8 = .ok (.getfield 19, 3) := by decide +kernel
theorem dX0_give_11 : decode cX0_give 11 = .ok (.bipush 24, 2) := by decide +kernel
theorem dX0_give_13 : decode cX0_give 13 = .ok (.if_icmp .lt 5, 3) := by decide +kernel
theorem dX0_give_16 : decode cX0_give 16 = .ok (.iconst 0, 1) := by decide +kernel
theorem dX0_give_17 : decode cX0_give 17 = .ok (.ireturn, 1) := by decide +kernel
theorem dX0_give_18 : decode cX0_give 18 = .ok (.aload_n 0, 1) := by decide +kernel
theorem dX0_give_19 : decode cX0_give 19 = .ok (.getfield 9, 3) := by decide +kernel
theorem dX0_give_22 : decode cX0_give 22 = .ok (.aload_n 0, 1) := by decide +kernel
theorem dX0_give_23 : decode cX0_give 23 = .ok (.getfield 19, 3) := by decide +kernel
theorem dX0_give_26 : decode cX0_give 26 = .ok (.lload_n 1, 1) := by decide +kernel
theorem dX0_give_27 : decode cX0_give 27 = .ok (.lastore, 1) := by decide +kernel
theorem dX0_give_28 : decode cX0_give 28 = .ok (.aload_n 0, 1) := by decide +kernel
theorem dX0_give_29 : decode cX0_give 29 = .ok (.lconst 0, 1) := by decide +kernel
theorem dX0_give_30 : decode cX0_give 30 = .ok (.putfield 29, 3) := by decide +kernel
theorem dX0_give_33 : decode cX0_give 33 = .ok (.aload_n 0, 1) := by decide +kernel
theorem dX0_give_34 : decode cX0_give 34 = .ok (.aload_n 0, 1) := by decide +kernel
theorem dX0_give_35 : decode cX0_give 35 = .ok (.getfield 19, 3) := by decide +kernel
theorem dX0_give_38 : decode cX0_give 38 = .ok (.iconst 0, 1) := by decide +kernel
theorem dX0_give_39 : decode cX0_give 39 = .ok (.invokevirtual 33, 3) := by decide +kernel
theorem dX0_give_42 : decode cX0_give 42 = .ok (.ifCond .ne 5, 3) := by decide +kernel
theorem dX0_give_45 : decode cX0_give 45 = .ok (.iconst 0, 1) := by decide +kernel
theorem dX0_give_46 : decode cX0_give 46 = .ok (.ireturn, 1) := by decide +kernel
theorem dX0_give_47 : decode cX0_give 47 = .ok (.aload_n 0, 1) := by decide +kernel
theorem dX0_give_48 : decode cX0_give 48 = .ok (.dup, 1) := by decide +kernel
theorem dX0_give_49 : decode cX0_give 49 = .ok (.getfield 19, 3) := by decide +kernel
theorem dX0_give_52 : decode cX0_give 52 = .ok (.iconst 1, 1) := by decide +kernel
theorem dX0_give_53 : decode cX0_give 53 = .ok (.iadd, 1) := by decide +kernel
theorem dX0_give_54 : decode cX0_give 54 = .ok (.putfield 19, 3) := by decide +kernel
theorem dX0_give_57 : decode cX0_give 57 = .ok (.iconst 1, 1) := by decide +kernel
theorem dX0_give_58 : decode cX0_give 58 = .ok (.ireturn, 1) := by decide +kernel
theorem dX0_findCell_0 : decode cX0_findCell 0 = .ok (.iload_n 1, 1) := by decide +kernel
theorem dX0_findCell_1 : decode cX0_findCell 1 = .ok (.ifCond .lt 9, 3) := by decide +kernel
theorem dX0_findCell_4 : decode cX0_findCell 4 = .ok (.iload_n 1, 1) := by decide +kernel
theorem dX0_findCell_5 : decode cX0_findCell 5 = .ok (.bipush 24, 2) := by decide +kernel
theorem dX0_findCell_7 : decode cX0_findCell 7 = .ok (.if_icmp .lt 5, 3) := by decide +kernel
theorem dX0_findCell_10 : decode cX0_findCell 10 = .ok (.iconst 0, 1) := by decide +kernel
theorem dX0_findCell_11 : decode cX0_findCell 11 = .ok (.ireturn, 1) := by decide +kernel
theorem dX0_findCell_12 : decode cX0_findCell 12 = .ok (.iconst 0, 1) := by decide +kernel
theorem dX0_findCell_13 : decode cX0_findCell 13 = .ok (.istore_n 3, 1) := by decide +kernel
theorem dX0_findCell_14 : decode cX0_findCell 14 = .ok (.iload_n 3, 1) := by decide +kernel
theorem dX0_findCell_15 : decode cX0_findCell 15 = .ok (.bipush 48, 2) := by decide +kernel
theorem dX0_findCell_17 : decode cX0_findCell 17 = .ok (.if_icmp .ge 81, 3) := by decide +kernel
theorem dX0_findCell_20 : decode cX0_findCell 20 = .ok (.lconst 1, 1) := by decide +kernel
theorem dX0_findCell_21 : decode cX0_findCell 21 = .ok (.iload_n 3, 1) := by decide +kernel
theorem dX0_findCell_22 : decode cX0_findCell 22 = .ok (.lshl, 1) := by decide +kernel
theorem dX0_findCell_23 : decode cX0_findCell 23 = .ok (.lstore 4, 2) := by decide +kernel
theorem dX0_findCell_25 : decode cX0_findCell 25 = .ok (.aload_n 0, 1) := by decide +kernel
theorem dX0_findCell_26 : decode cX0_findCell 26 = .ok (.getfield 9, 3) := by decide +kernel
theorem dX0_findCell_29 : decode cX0_findCell 29 = .ok (.iload_n 1, 1) := by decide +kernel
theorem dX0_findCell_30 : decode cX0_findCell 30 = .ok (.laload, 1) := by decide +kernel
theorem dX0_findCell_31 : decode cX0_findCell 31 = .ok (.aload_n 0, 1) := by decide +kernel
theorem dX0_findCell_32 : decode cX0_findCell 32 = .ok (.getfield 29, 3) := by decide +kernel
theorem dX0_findCell_35 : decode cX0_findCell 35 = .ok (.ldc2_w 37, 3) := by decide +kernel
theorem dX0_findCell_38 : decode cX0_findCell 38 = .ok (.lxor, 1) := by decide +kernel
theorem dX0_findCell_39 : decode cX0_findCell 39 = .ok (.land, 1) := by decide +kernel
theorem dX0_findCell_40 : decode cX0_findCell 40 = .ok (.lload 4, 2) := by decide +kernel
theorem dX0_findCell_42 : decode cX0_findCell 42 = .ok (.land, 1) := by decide +kernel
theorem dX0_findCell_43 : decode cX0_findCell 43 = .ok (.lconst 0, 1) := by decide +kernel
theorem dX0_findCell_44 : decode cX0_findCell 44 = .ok (.lcmp, 1) := by decide +kernel
theorem dX0_findCell_45 : decode cX0_findCell 45 = .ok (.ifCond .eq 47, 3) := by decide +kernel
theorem dX0_findCell_48 : decode cX0_findCell 48 = .ok (.aload_n 0, 1) := by decide +kernel
theorem dX0_findCell_49 : decode cX0_findCell 49 = .ok (.dup, 1) := by decide +kernel
theorem dX0_findCell_50 : decode cX0_findCell 50 = .ok (.getfield 29, 3) := by decide +kernel
theorem dX0_findCell_53 : decode cX0_findCell 53 = .ok (.lload 4, 2) := by decide +kernel
theorem dX0_findCell_55 : decode cX0_findCell 55 = .ok (.lor, 1) := by decide +kernel
theorem dX0_findCell_56 : decode cX0_findCell 56 = .ok (.putfield 29, 3) := by decide +kernel
theorem dX0_findCell_59 : decode cX0_findCell 59 = .ok (.aload_n 0, 1) := by decide +kernel
theorem dX0_findCell_60 : decode cX0_findCell 60 = .ok (.getfield 15, 3) := by decide +kernel
theorem dX0_findCell_63 : decode cX0_findCell 63 = .ok (.iload_n 3, 1) := by decide +kernel
theorem dX0_findCell_64 : decode cX0_findCell 64 = .ok (.iaload, 1) := by decide +kernel
theorem dX0_findCell_65 : decode cX0_findCell 65 = .ok (.iconst (-1), 1) := by decide +kernel
theorem dX0_findCell_66 : decode cX0_findCell 66 = .ok (.if_icmp .eq 17, 3) := by decide +kernel
theorem dX0_findCell_69 : decode cX0_findCell 69 = .ok (.aload_n 0, 1) := by decide +kernel
theorem dX0_findCell_70 : decode cX0_findCell 70 = .ok (.aload_n 0, 1) := by decide +kernel
theorem dX0_findCell_71 : decode cX0_findCell 71 = .ok (.getfield 15, 3) := by decide +kernel
theorem dX0_findCell_74 : decode cX0_findCell 74 = .ok (.iload_n 3, 1) := by decide +kernel
theorem dX0_findCell_75 : decode cX0_findCell 75 = .ok (.iaload, 1) := by decide +kernel
theorem dX0_findCell_76 : decode cX0_findCell 76 = .ok (.iload_n 2, 1) := by decide +kernel
theorem dX0_findCell_77 : decode cX0_findCell 77 = .ok (.invokevirtual 39, 3) := by decide +kernel
theorem dX0_findCell_80 : decode cX0_findCell 80 = .ok (.ifCond .eq 12, 3) := by decide +kernel
theorem dX0_findCell_83 : decode cX0_findCell 83 = .ok (.aload_n 0, 1) := by decide +kernel
theorem dX0_findCell_84 : decode cX0_findCell 84 = .ok (.getfield 15, 3) := by decide +kernel
theorem dX0_findCell_87 : decode cX0_findCell 87 = .ok (.iload_n 3, 1) := by decide +kernel
theorem dX0_findCell_88 : decode cX0_findCell 88 = .ok (.iload_n 1, 1) := by decide +kernel
theorem dX0_findCell_89 : decode cX0_findCell 89 = .ok (.iastore, 1) := by decide +kernel
theorem dX0_findCell_90 : decode cX0_findCell 90 = .ok (.iconst 1, 1) := by decide +kernel
theorem dX0_findCell_91 : decode cX0_findCell 91 = .ok (.ireturn, 1) := by decide +kernel
theorem dX0_findCell_92 : decode cX0_findCell 92 = .ok (.iinc 3 1, 3) := by decide +kernel
theorem dX0_findCell_95 : decode cX0_findCell 95 = .ok (.goto (-81), 3) := by decide +kernel
theorem dX0_findCell_98 : decode cX0_findCell 98 = .ok (.iconst 0, 1) := by decide +kernel
theorem dX0_findCell_99 : decode cX0_findCell 99 = .ok (.ireturn, 1) := by decide +kernel
theorem dX0_canMove_0 : decode cX0_canMove 0 = .ok (.iload_n 2, 1) := by decide +kernel
theorem dX0_canMove_1 : decode cX0_canMove 1 = .ok (.bipush 24, 2) := by decide +kernel
theorem dX0_canMove_3 : decode cX0_canMove 3 = .ok (.if_icmp .ge 18, 3) := by decide +kernel
theorem dX0_canMove_6 : decode cX0_canMove 6 = .ok (.aload_n 0, 1) := by decide +kernel
theorem dX0_canMove_7 : decode cX0_canMove 7 = .ok (.iload_n 1, 1) := by decide +kernel
theorem dX0_canMove_8 : decode cX0_canMove 8 = .ok (.iload_n 2, 1) := by decide +kernel
theorem dX0_canMove_9 : decode cX0_canMove 9 = .ok (.iconst 1, 1) := by decide +kernel
theorem dX0_canMove_10 : decode cX0_canMove 10 = .ok (.iadd, 1) := by decide +kernel
theorem dX0_canMove_11 : decode cX0_canMove 11 = .ok (.invokevirtual 33, 3) := by decide +kernel
theorem dX0_canMove_14 : decode cX0_canMove 14 = .ok (.ifCond .eq 7, 3) := by decide +kernel
theorem dX0_canMove_17 : decode cX0_canMove 17 = .ok (.iconst 1, 1) := by decide +kernel
theorem dX0_canMove_18 : decode cX0_canMove 18 = .ok (.goto 4, 3) := by decide +kernel
theorem dX0_canMove_21 : decode cX0_canMove 21 = .ok (.iconst 0, 1) := by decide +kernel
theorem dX0_canMove_22 : decode cX0_canMove 22 = .ok (.ireturn, 1) := by decide +kernel
theorem dX1_init_0 : decode cX1_init 0 = .ok (.aload_n 0, 1) := by decide +kernel
theorem dX1_init_1 : decode cX1_init 1 = .ok (.invokespecial 3, 3) := by decide +kernel
theorem dX1_init_4 : decode cX1_init 4 = .ok (.aload_n 0, 1) := by decide +kernel
theorem dX1_init_5 : decode cX1_init 5 = .ok (.new 9, 3) := by decide +kernel
theorem dX1_init_8 : decode cX1_init 8 = .ok (.dup, 1) := by decide +kernel
theorem dX1_init_9 : decode cX1_init 9 = .ok (.invokespecial 11, 3) := by decide +kernel
theorem dX1_init_12 : decode cX1_init 12 = .ok (.putfield 12, 3) := by decide +kernel
theorem dX1_init_15 : decode cX1_init 15 = .ok (.aload_n 0, 1) := by decide +kernel
theorem dX1_init_16 : decode cX1_init 16 = .ok (.bipush 8, 2) := by decide +kernel
theorem dX1_init_18 : decode cX1_init 18 = .ok (.newarray .long, 2) := by decide +kernel
theorem dX1_init_20 : decode cX1_init 20 = .ok (.putfield 18, 3) := by decide +kernel
theorem dX1_init_23 : decode cX1_init 23 = .ok (.aload_n 0, 1) := by decide +kernel
theorem dX1_init_24 : decode cX1_init 24 = .ok (.bipush 96, 2) := by decide +kernel
theorem dX1_init_26 : decode cX1_init 26 = .ok (.newarray .long, 2) := by decide +kernel
theorem dX1_init_28 : decode cX1_init 28 = .ok (.putfield 22, 3) := by decide +kernel
theorem dX1_init_31 : decode cX1_init 31 = .ok (.aload_n 0, 1) := by decide +kernel
theorem dX1_init_32 : decode cX1_init 32 = .ok (.bipush 8, 2) := by decide +kernel
theorem dX1_init_34 : decode cX1_init 34 = .ok (.bipush 96, 2) := by decide +kernel
theorem dX1_init_36 : decode cX1_init 36 = .ok (.multianewarray 25 2, 4) := by decide +kernel
theorem dX1_init_40 : decode cX1_init 40 = .ok (.putfield 27, 3) := by decide +kernel
theorem dX1_init_43 : decode cX1_init 43 = .ok (.aload_n 0, 1) := by decide +kernel
theorem dX1_init_44 : decode cX1_init 44 = .ok (.bipush 9, 2) := by decide +kernel
theorem dX1_init_46 : decode cX1_init 46 = .ok (.newarray .int, 2) := by decide +kernel
theorem dX1_init_48 : decode cX1_init 48 = .ok (.putfield 30, 3) := by decide +kernel
theorem dX1_init_51 : decode cX1_init 51 = .ok (.aload_n 0, 1) := by decide +kernel
theorem dX1_init_52 : decode cX1_init 52 = .ok (.bipush 8, 2) := by decide +kernel
theorem dX1_init_54 : decode cX1_init 54 = .ok (.newarray .int, 2) := by decide +kernel
theorem dX1_init_56 : decode cX1_init 56 = .ok (.putfield 34, 3) := by decide +kernel
theorem dX1_init_59 : decode cX1_init 59 = .ok (.aload_n 0, 1) := by decide +kernel
theorem dX1_init_60 : decode cX1_init 60 = .ok (.bipush 8, 2) := by decide +kernel
theorem dX1_init_62 : decode cX1_init 62 = .ok (.newarray .int, 2) := by decide +kernel
theorem dX1_init_64 : decode cX1_init 64 = .ok (.putfield 37, 3) := by decide +kernel
theorem dX1_init_67 : decode cX1_init 67 = .ok (.return_, 1) := by decide +kernel
theorem dX1_spotOfCut_0 : decode cX1_spotOfCut 0 = .ok (.iload_n 1, 1) := by decide +kernel
theorem dX1_spotOfCut_1 : decode cX1_spotOfCut 1 = .ok (.ifCond .lt 26, 3) := by decide +kernel
theorem dX1_spotOfCut_4 : decode cX1_spotOfCut 4 = .ok (.iload_n 1, 1) := by decide +kernel
theorem dX1_spotOfCut_5 : decode cX1_spotOfCut 5 = .ok (.aload_n 0, 1) := by decide +kernel
theorem dX1_spotOfCut_6 : decode cX1_spotOfCut 6 = .ok (.getfield 40, 3) := by decide +kernel
theorem dX1_spotOfCut_9 : decode cX1_spotOfCut 9 = .ok (.if_icmp .ge 18, 3) := by decide +kernel
theorem dX1_spotOfCut_12 : decode cX1_spotOfCut 12 = .ok (.iload_n 1, 1) := by decide +kernel
theorem dX1_spotOfCut_13 : decode cX1_spotOfCut 13 = .ok (.bipush 8, 2) := by decide +kernel
theorem dX1_spotOfCut_15 : decode cX1_spotOfCut 15 = .ok (.if_icmp .ge 12, 3) := by decide +kernel
theorem dX1_spotOfCut_18 : decode cX1_spotOfCut 18 = .ok (.aload_n 0, 1) := by decide +kernel
theorem dX1_spotOfCut_19 : decode cX1_spotOfCut 19 = .ok (.getfield 34, 3) := by decide +kernel
theorem dX1_spotOfCut_22 : decode cX1_spotOfCut 22 = .ok (.iload_n 1, 1) := by decide +kernel
theorem dX1_spotOfCut_23 : decode cX1_spotOfCut 23 = .ok (.iaload, 1) := by decide +kernel
theorem dX1_spotOfCut_24 : decode cX1_spotOfCut 24 = .ok (.goto 4, 3) := by decide +kernel
theorem dX1_spotOfCut_27 : decode cX1_spotOfCut 27 = .ok (.iconst 0, 1) := by decide +kernel
theorem dX1_spotOfCut_28 : decode cX1_spotOfCut 28 = .ok (.ireturn, 1) := by decide +kernel
theorem dX1_lengthOfCut_0 : decode cX1_lengthOfCut 0 = .ok (.iload_n 1, 1) := by decide +kernel
theorem dX1_lengthOfCut_1 : decode cX1_lengthOfCut 1 = .ok (.ifCond .lt 26, 3) := by decide +kernel
theorem dX1_lengthOfCut_4 : decode cX1_lengthOfCut 4 = .ok (.iload_n 1, 1) := by decide +kernel
theorem dX1_lengthOfCut_5 : decode cX1_lengthOfCut 5 = .ok (.aload_n 0, 1) := by decide +kernel
theorem dX1_lengthOfCut_6 : decode cX1_lengthOfCut 6 = .ok (.getfield 40, 3) := by decide +kernel
theorem dX1_lengthOfCut_9 : decode cX1_lengthOfCut 9 = .ok (.if_icmp .ge 18, 3) := by decide +kernel
theorem dX1_lengthOfCut_12 : decode cX1_lengthOfCut 12 = .ok (.iload_n 1, 1) := by decide +kernel
theorem dX1_lengthOfCut_13 : decode cX1_lengthOfCut 13 = .ok (.bipush 8, 2) := by decide +kernel
theorem dX1_lengthOfCut_15 : decode cX1_lengthOfCut 15 = .ok (.if_icmp .ge 12, 3) := by decide +kernel
theorem dX1_lengthOfCut_18 : decode cX1_lengthOfCut 18 = .ok (.aload_n 0, 1) := by decide +kernel
theorem dX1_lengthOfCut_19 : decode cX1_lengthOfCut 19 = .ok (.getfield 37, 3) := by decide +kernel
theorem dX1_lengthOfCut_22 : decode cX1_lengthOfCut 22 = .ok (.iload_n 1, 1) := by decide +kernel
theorem dX1_lengthOfCut_23 : decode cX1_lengthOfCut 23 = .ok (.iaload, 1) := by decide +kernel
theorem dX1_lengthOfCut_24 : decode cX1_lengthOfCut 24 = .ok (.goto 4, 3) := by decide +kernel
theorem dX1_lengthOfCut_27 : decode cX1_lengthOfCut 27 = .ok (.iconst 0, 1) := by decide +kernel
theorem dX1_lengthOfCut_28 : decode cX1_lengthOfCut 28 = .ok (.ireturn, 1) := by decide +kernel
theorem dX1_prepare_0 : decode cX1_prepare 0 = .ok (.aload_n 0, 1) := by decide +kernel
theorem dX1_prepare_1 : decode cX1_prepare 1 = .ok (.iconst 0, 1) := by decide +kernel
theorem dX1_prepare_2 : decode cX1_prepare 2 = .ok (.bipush 8, 2) := by decide +kernel
theorem dX1_prepare_4 : decode cX1_prepare 4 = .ok (.aload_n 1, 1) := by decide +kernel
theorem dX1_prepare_5 : decode cX1_prepare 5 = .ok (.getfield 44, 3) := by decide +kernel
theorem dX1_prepare_8 : decode cX1_prepare 8 = .ok (.invokestatic 49, 3) := by decide +kernel
theorem dX1_prepare_11 : decode cX1_prepare 11 = .ok (.invokestatic 55, 3) := by decide +kernel
theorem dX1_prepare_14 : decode cX1_prepare 14 = .ok (.putfield 58, 3) := by decide +kernel
theorem dX1_prepare_17 : decode cX1_prepare 17 = .ok (.iconst 0, 1) := by decide +kernel
theorem dX1_prepare_18 : decode cX1_prepare 18 = .ok (.istore_n 2, 1) := by decide +kernel
theorem dX1_prepare_19 : decode cX1_prepare 19 = .ok (.iload_n 2, 1) := by decide +kernel
theorem dX1_prepare_20 : decode cX1_prepare 20 = .ok (.bipush 96, 2) := by decide +kernel
theorem dX1_prepare_22 : decode cX1_prepare 22 = .ok (.if_icmp .ge 34, 3) := by decide +kernel
theorem dX1_prepare_25 : decode cX1_prepare 25 = .ok (.aload_n 0, 1) := by decide +kernel
theorem dX1_prepare_26 : decode cX1_prepare 26 = .ok (.getfield 22, 3) := by decide +kernel
theorem dX1_prepare_29 : decode cX1_prepare 29 = .ok (.iload_n 2, 1) := by decide +kernel
theorem dX1_prepare_30 : decode cX1_prepare 30 = .ok (.aload_n 1, 1) := by decide +kernel
theorem dX1_prepare_31 : decode cX1_prepare 31 = .ok (.iload_n 2, 1) := by decide +kernel
theorem dX1_prepare_32 : decode cX1_prepare 32 = .ok (.invokevirtual 61, 3) := by decide +kernel
theorem dX1_prepare_35 : decode cX1_prepare 35 = .ok (.ifCond .eq 13, 3) := by decide +kernel
theorem dX1_prepare_38 : decode cX1_prepare 38 = .ok (.lconst 1, 1) := by decide +kernel
theorem dX1_prepare_39 : decode cX1_prepare 39 = .ok (.aload_n 1, 1) := by decide +kernel
theorem dX1_prepare_40 : decode cX1_prepare 40 = .ok (.iload_n 2, 1) := by decide +kernel
theorem dX1_prepare_41 : decode cX1_prepare 41 = .ok (.invokevirtual 65, 3) := by decide +kernel
theorem dX1_prepare_44 : decode cX1_prepare 44 = .ok (.lshl, 1) := by decide +kernel
theorem dX1_prepare_45 : decode cX1_prepare 45 = .ok (.goto 4, 3) := by decide +kernel
theorem dX1_prepare_48 : decode cX1_prepare 48 = .ok (.lconst 0, 1) := by decide +kernel
theorem dX1_prepare_49 : decode cX1_prepare 49 = .ok (.lastore, 1) := by decide +kernel
theorem dX1_prepare_50 : decode cX1_prepare 50 = .ok (.iinc 2 1, 3) := by decide +kernel
theorem dX1_prepare_53 : decode cX1_prepare 53 = .ok (.goto (-34), 3) := by decide +kernel
theorem dX1_prepare_56 : decode cX1_prepare 56 = .ok (.aload_n 0, 1) := by decide +kernel
theorem dX1_prepare_57 : decode cX1_prepare 57 = .ok (.getfield 30, 3) := by decide +kernel
theorem dX1_prepare_60 : decode cX1_prepare 60 = .ok (.aload_n 0, 1) := by decide +kernel
theorem dX1_prepare_61 : decode cX1_prepare 61 = .ok (.getfield 58, 3) := by decide +kernel
theorem dX1_prepare_64 : decode cX1_prepare 64 = .ok (.iconst 0, 1) := by decide +kernel
theorem dX1_prepare_65 : decode cX1_prepare 65 = .ok (.iastore, 1) := by decide +kernel
theorem dX1_prepare_66 : decode cX1_prepare 66 = .ok (.aload_n 0, 1) := by decide +kernel
theorem dX1_prepare_67 : decode cX1_prepare 67 = .ok (.getfield 58, 3) := by decide +kernel
theorem dX1_prepare_70 : decode cX1_prepare 70 = .ok (.iconst 1, 1) := by decide +kernel
theorem dX1_prepare_71 : decode cX1_prepare 71 = .ok (.isub, 1) := by decide +kernel
theorem dX1_prepare_72 : decode cX1_prepare 72 = .ok (.istore_n 2, 1) := by decide +kernel
theorem dX1_prepare_73 : decode cX1_prepare 73 = .ok (.iload_n 2, 1) := by decide +kernel
theorem dX1_prepare_74 : decode cX1_prepare 74 = .ok (.ifCond .lt 63, 3) := by decide +kernel
theorem dX1_prepare_77 : decode cX1_prepare 77 = .ok (.aload_n 0, 1) := by decide +kernel
theorem dX1_prepare_78 : decode cX1_prepare 78 = .ok (.getfield 18, 3) := by decide +kernel
theorem dX1_prepare_81 : decode cX1_prepare 81 = .ok (.iload_n 2, 1) := by decide +kernel
theorem dX1_prepare_82 : decode cX1_prepare 82 = .ok (.aload_n 1, 1) := by decide +kernel
theorem dX1_prepare_83 : decode cX1_prepare 83 = .ok (.aload_n 1, 1) := by decide +kernel
theorem dX1_prepare_84 : decode cX1_prepare 84 = .ok (.iload_n 2, 1) := by decide +kernel
theorem dX1_prepare_85 : decode cX1_prepare 85 = .ok (.invokevirtual 69, 3) := by decide +kernel
theorem dX1_prepare_88 : decode cX1_prepare 88 = .ok (.invokevirtual 72, 3) := by decide +kernel
theorem dX1_prepare_91 : decode cX1_prepare 91 = .ok (.lastore, 1) := by decide +kernel
theorem dX1_prepare_92 : decode cX1_prepare 92 = .ok (.iconst 0, 1) := by decide +kernel
theorem dX1_prepare_93 : decode cX1_prepare 93 = .ok (.istore_n 3, 1) := by decide +kernel
theorem dX1_prepare_94 : decode cX1_prepare 94 = .ok (.iload_n 3, 1) := by decide +kernel
theorem dX1_prepare_95 : decode cX1_prepare 95 = .ok (.bipush 96, 2) := by decide +kernel
theorem dX1_prepare_97 : decode cX1_prepare 97 = .ok (.if_icmp .ge 23, 3) := by decide +kernel
theorem dX1_prepare_100 : decode cX1_prepare 100 = .ok (.aload_n 0, 1) := by decide +kernel
theorem dX1_prepare_101 : decode cX1_prepare 101 = .ok (.getfield 27, 3) := by decide +kernel
theorem dX1_prepare_104 : decode cX1_prepare 104 = .ok (.iload_n 2, 1) := by decide +kernel
theorem dX1_prepare_105 : decode cX1_prepare 105 = .ok (.aaload, 1) := by decide +kernel
theorem dX1_prepare_106 : decode cX1_prepare 106 = .ok (.iload_n 3, 1) := by decide +kernel
theorem dX1_prepare_107 : decode cX1_prepare 107 = .ok (.aload_n 1, 1) := by decide +kernel
theorem dX1_prepare_108 : decode cX1_prepare 108 = .ok (.iload_n 3, 1) := by decide +kernel
theorem dX1_prepare_109 : decode cX1_prepare 109 = .ok (.iload_n 2, 1) := by decide +kernel
theorem dX1_prepare_110 : decode cX1_prepare 110 = .ok (.invokevirtual 76, 3) := by decide +kernel
theorem dX1_prepare_113 : decode cX1_prepare 113 = .ok (.iastore, 1) := by decide +kernel
theorem dX1_prepare_114 : decode cX1_prepare 114 = .ok (.iinc 3 1, 3) := by decide +kernel
theorem dX1_prepare_117 : decode cX1_prepare 117 = .ok (.goto (-23), 3) := by decide +kernel
theorem dX1_prepare_120 : decode cX1_prepare 120 = .ok (.aload_n 0, 1) := by decide +kernel
theorem dX1_prepare_121 : decode cX1_prepare 121 = .ok (.getfield 30, 3) := by decide +kernel
theorem dX1_prepare_124 : decode cX1_prepare 124 = .ok (.iload_n 2, 1) := by decide +kernel
theorem dX1_prepare_125 : decode cX1_prepare 125 = .ok (.aload_n 0, 1) := by decide +kernel
theorem dX1_prepare_126 : decode cX1_prepare 126 = .ok (.iload_n 2, 1) := by decide +kernel
theorem dX1_prepare_127 : decode cX1_prepare 127 = .ok (.invokevirtual 79, 3) := by decide +kernel
theorem dX1_prepare_130 : decode cX1_prepare 130 = .ok (.iastore, 1) := by decide +kernel
theorem dX1_prepare_131 : decode cX1_prepare 131 = .ok (.iinc 2 (-1), 3) := by decide +kernel
theorem dX1_prepare_134 : decode cX1_prepare 134 = .ok (.goto (-61), 3) := by decide +kernel
theorem dX1_prepare_137 : decode cX1_prepare 137 = .ok (.return_, 1) := by decide +kernel
theorem dX1_boundSaved_0 : decode cX1_boundSaved 0 = .ok (.aload_n 0, 1) := by decide +kernel
theorem dX1_boundSaved_1 : decode cX1_boundSaved 1 = .ok (.getfield 30, 3) := by decide +kernel
theorem dX1_boundSaved_4 : decode cX1_boundSaved 4 = .ok (.iload_n 1, 1) := by decide +kernel
theorem dX1_boundSaved_5 : decode cX1_boundSaved 5 = .ok (.iconst 1, 1) := by decide +kernel
theorem dX1_boundSaved_6 : decode cX1_boundSaved 6 = .ok (.iadd, 1) := by decide +kernel
theorem dX1_boundSaved_7 : decode cX1_boundSaved 7 = .ok (.iaload, 1) := by decide +kernel
theorem dX1_boundSaved_8 : decode cX1_boundSaved 8 = .ok (.istore_n 2, 1) := by decide +kernel
theorem dX1_boundSaved_9 : decode cX1_boundSaved 9 = .ok (.iconst 0, 1) := by decide +kernel
theorem dX1_boundSaved_10 : decode cX1_boundSaved 10 = .ok (.istore_n 3, 1) := by decide +kernel
theorem dX1_boundSaved_11 : decode cX1_boundSaved 11 = .ok (.iload_n 3, 1) := by decide +kernel
theorem dX1_boundSaved_12 : decode cX1_boundSaved 12 = .ok (.bipush 96, 2) := by decide +kernel
theorem dX1_boundSaved_14 : decode cX1_boundSaved 14 = .ok (.if_icmp .ge 61, 3) := by decide +kernel
theorem dX1_boundSaved_17 : decode cX1_boundSaved 17 = .ok (.iconst 2, 1) := by decide +kernel
theorem dX1_boundSaved_18 : decode cX1_boundSaved 18 = .ok (.istore 4, 2) := by decide +kernel
theorem dX1_boundSaved_20 : decode cX1_boundSaved 20 = .ok (.iload 4, 2) := by decide +kernel
theorem dX1_boundSaved_22 : decode cX1_boundSaved 22 = .ok (.aload_n 0, 1) := by decide +kernel
theorem dX1_boundSaved_23 : decode cX1_boundSaved 23 = .ok (.getfield 27, 3) := by decide +kernel
theorem dX1_boundSaved_26 : decode cX1_boundSaved 26 = .ok (.iload_n 1, 1) := by decide +kernel
theorem dX1_boundSaved_27 : decode cX1_boundSaved 27 = .ok (.aaload, 1) := by decide +kernel
theorem dX1_boundSaved_28 : decode cX1_boundSaved 28 = .ok (.iload_n 3, 1) := by decide +kernel
theorem dX1_boundSaved_29 : decode cX1_boundSaved 29 = .ok (.iaload, 1) := by decide +kernel
theorem dX1_boundSaved_30 : decode cX1_boundSaved 30 = .ok (.if_icmp .gt 39, 3) := by decide +kernel
theorem dX1_boundSaved_33 : decode cX1_boundSaved 33 = .ok (.iload_n 1, 1) := by decide +kernel
theorem dX1_boundSaved_34 : decode cX1_boundSaved 34 = .ok (.iload 4, 2) := by decide +kernel
theorem dX1_boundSaved_36 : decode cX1_boundSaved 36 = .ok (.iadd, 1) := by decide +kernel
theorem dX1_boundSaved_37 : decode cX1_boundSaved 37 = .ok (.aload_n 0, 1) := by decide +kernel
theorem dX1_boundSaved_38 : decode cX1_boundSaved 38 = .ok (.getfield 58, 3) := by decide +kernel
theorem dX1_boundSaved_41 : decode cX1_boundSaved 41 = .ok (.if_icmp .gt 28, 3) := by decide +kernel
theorem dX1_boundSaved_44 : decode cX1_boundSaved 44 = .ok (.iload_n 2, 1) := by decide +kernel
theorem dX1_boundSaved_45 : decode cX1_boundSaved 45 = .ok (.iload 4, 2) := by decide +kernel
theorem dX1_boundSaved_47 : decode cX1_boundSaved 47 = .ok (.iconst 1, 1) := by decide +kernel
theorem dX1_boundSaved_48 : decode cX1_boundSaved 48 = .ok (.isub, 1) := by decide +kernel
theorem dX1_boundSaved_49 : decode cX1_boundSaved 49 = .ok (.aload_n 0, 1) := by decide +kernel
theorem dX1_boundSaved_50 : decode cX1_boundSaved 50 = .ok (.getfield 30, 3) := by decide +kernel
theorem dX1_boundSaved_53 : decode cX1_boundSaved 53 = .ok (.iload_n 1, 1) := by decide +kernel
theorem dX1_boundSaved_54 : decode cX1_boundSaved 54 = .ok (.iload 4, 2) := by decide +kernel
theorem dX1_boundSaved_56 : decode cX1_boundSaved 56 = .ok (.iadd, 1) := by decide +kernel
theorem dX1_boundSaved_57 : decode cX1_boundSaved 57 = .ok (.iaload, 1) := by decide +kernel
theorem dX1_boundSaved_58 : decode cX1_boundSaved 58 = .ok (.iadd, 1) := by decide +kernel
theorem dX1_boundSaved_59 : decode cX1_boundSaved 59 = .ok (.invokestatic 55, 3) := by decide +kernel
theorem dX1_boundSaved_62 : decode cX1_boundSaved 62 = .ok (.istore_n 2, 1) := by decide +kernel
theorem dX1_boundSaved_63 : decode cX1_boundSaved 63 = .ok (.iinc 4 1, 3) := by decide +kernel
theorem dX1_boundSaved_66 : decode cX1_boundSaved 66 = .ok (.goto (-46), 3) := by decide +kernel
theorem dX1_boundSaved_69 : decode cX1_boundSaved 69 = .ok (.iinc 3 1, 3) := by decide +kernel
theorem dX1_boundSaved_72 : decode cX1_boundSaved 72 = .ok (.goto (-61), 3) := by decide +kernel
theorem dX1_boundSaved_75 : decode cX1_boundSaved 75 = .ok (.iload_n 2, 1) := by decide +kernel
theorem dX1_boundSaved_76 : decode cX1_boundSaved 76 = .ok (.ireturn, 1) := by decide +kernel
theorem dX1_choose_0 : decode cX1_choose 0 = .ok (.aload_n 0, 1) := by decide +kernel
theorem dX1_choose_1 : decode cX1_choose 1 = .ok (.iconst 0, 1) := by decide +kernel
theorem dX1_choose_2 : decode cX1_choose 2 = .ok (.putfield 40, 3) := by decide +kernel
theorem dX1_choose_5 : decode cX1_choose 5 = .ok (.aload_n 0, 1) := by decide +kernel
theorem dX1_choose_6 : decode cX1_choose 6 = .ok (.lconst 0, 1) := by decide +kernel
theorem dX1_choose_7 : decode cX1_choose 7 = .ok (.putfield 82, 3) := by decide +kernel
theorem dX1_choose_10 : decode cX1_choose 10 = .ok (.aload_n 0, 1) := by decide +kernel
theorem dX1_choose_11 : decode cX1_choose 11 = .ok (.iconst 0, 1) := by decide +kernel
theorem dX1_choose_12 : decode cX1_choose 12 = .ok (.iconst 0, 1) := by decide +kernel
theorem dX1_choose_13 : decode cX1_choose 13 = .ok (.lload_n 1, 1) := by decide +kernel
theorem dX1_choose_14 : decode cX1_choose 14 = .ok (.invokevirtual 86, 3) := by decide +kernel
theorem dX1_choose_17 : decode cX1_choose 17 = .ok (.ifCond .ne 13, 3) := by decide +kernel
theorem dX1_choose_20 : decode cX1_choose 20 = .ok (.aload_n 0, 1) := by decide +kernel
theorem dX1_choose_21 : decode cX1_choose 21 = .ok (.iconst (-1), 1) := by decide +kernel
theorem dX1_choose_22 : decode cX1_choose 22 = .ok (.putfield 40, 3) := by decide +kernel
theorem dX1_choose_25 : decode cX1_choose 25 = .ok (.aload_n 0, 1) := by decide +kernel
theorem dX1_choose_26 : decode cX1_choose 26 = .ok (.getfield 40, 3) := by decide +kernel
theorem dX1_choose_29 : decode cX1_choose 29 = .ok (.ireturn, 1) := by decide +kernel
theorem dX1_choose_30 : decode cX1_choose 30 = .ok (.aload_n 0, 1) := by decide +kernel
theorem dX1_choose_31 : decode cX1_choose 31 = .ok (.getfield 30, 3) := by decide +kernel
theorem dX1_choose_34 : decode cX1_choose 34 = .ok (.iconst 0, 1) := by decide +kernel
theorem dX1_choose_35 : decode cX1_choose 35 = .ok (.iaload, 1) := by decide +kernel
theorem dX1_choose_36 : decode cX1_choose 36 = .ok (.istore_n 3, 1) := by decide +kernel
theorem dX1_choose_37 : decode cX1_choose 37 = .ok (.iload_n 3, 1) := by decide +kernel
theorem dX1_choose_38 : decode cX1_choose 38 = .ok (.ifCond .le 20, 3) := by decide +kernel
theorem dX1_choose_41 : decode cX1_choose 41 = .ok (.aload_n 0, 1) := by decide +kernel
theorem dX1_choose_42 : decode cX1_choose 42 = .ok (.iconst 0, 1) := by decide +kernel
theorem dX1_choose_43 : decode cX1_choose 43 = .ok (.iconst 0, 1) := by decide +kernel
theorem dX1_choose_44 : decode cX1_choose 44 = .ok (.lload_n 1, 1) := by decide +kernel
theorem dX1_choose_45 : decode cX1_choose 45 = .ok (.iload_n 3, 1) := by decide +kernel
theorem dX1_choose_46 : decode cX1_choose 46 = .ok (.invokevirtual 90, 3) := by decide +kernel
theorem dX1_choose_49 : decode cX1_choose 49 = .ok (.ifCond .ne 9, 3) := by decide +kernel
theorem dX1_choose_52 : decode cX1_choose 52 = .ok (.iinc 3 (-1), 3) := by decide +kernel
theorem dX1_choose_55 : decode cX1_choose 55 = .ok (.goto (-18), 3) := by decide +kernel
theorem dX1_choose_58 : decode cX1_choose 58 = .ok (.iconst 0, 1) := by decide +kernel
theorem dX1_choose_59 : decode cX1_choose 59 = .ok (.istore 4, 2) := by decide +kernel
theorem dX1_choose_61 : decode cX1_choose 61 = .ok (.iconst 0, 1) := by decide +kernel
theorem dX1_choose_62 : decode cX1_choose 62 = .ok (.istore 5, 2) := by decide +kernel
theorem dX1_choose_64 : decode cX1_choose 64 = .ok (.iload 5, 2) := by decide +kernel
theorem dX1_choose_66 : decode cX1_choose 66 = .ok (.bipush 8, 2) := by decide +kernel
theorem dX1_choose_68 : decode cX1_choose 68 = .ok (.if_icmp .ge 47, 3) := by decide +kernel
theorem dX1_choose_71 : decode cX1_choose 71 = .ok (.iload 4, 2) := by decide +kernel
theorem dX1_choose_73 : decode cX1_choose 73 = .ok (.aload_n 0, 1) := by decide +kernel
theorem dX1_choose_74 : decode cX1_choose 74 = .ok (.getfield 58, 3) := by decide +kernel
theorem dX1_choose_77 : decode cX1_choose 77 = .ok (.if_icmp .ge 38, 3) := by decide +kernel
theorem dX1_choose_80 : decode cX1_choose 80 = .ok (.aload_n 0, 1) := by decide +kernel
theorem dX1_choose_81 : decode cX1_choose 81 = .ok (.iload 4, 2) := by decide +kernel
theorem dX1_choose_83 : decode cX1_choose 83 = .ok (.lload_n 1, 1) := by decide +kernel
theorem dX1_choose_84 : decode cX1_choose 84 = .ok (.aload_n 0, 1) := by decide +kernel
theorem dX1_choose_85 : decode cX1_choose 85 = .ok (.getfield 82, 3) := by decide +kernel
theorem dX1_choose_88 : decode cX1_choose 88 = .ok (.lor, 1) := by decide +kernel
theorem dX1_choose_89 : decode cX1_choose 89 = .ok (.iload_n 3, 1) := by decide +kernel
theorem dX1_choose_90 : decode cX1_choose 90 = .ok (.invokevirtual 94, 3) := by decide +kernel
theorem dX1_choose_93 : decode cX1_choose 93 = .ok (.istore 6, 2) := by decide +kernel
theorem dX1_choose_95 : decode cX1_choose 95 = .ok (.iload_n 3, 1) := by decide +kernel
theorem dX1_choose_96 : decode cX1_choose 96 = .ok (.iload 6, 2) := by decide +kernel
theorem dX1_choose_98 : decode cX1_choose 98 = .ok (.iconst 1, 1) := by decide +kernel
theorem dX1_choose_99 : decode cX1_choose 99 = .ok (.isub, 1) := by decide +kernel
theorem dX1_choose_100 : decode cX1_choose 100 = .ok (.isub, 1) := by decide +kernel
theorem dX1_choose_101 : decode cX1_choose 101 = .ok (.istore_n 3, 1) := by decide +kernel
theorem dX1_choose_102 : decode cX1_choose 102 = .ok (.iload 4, 2) := by decide +kernel
theorem dX1_choose_104 : decode cX1_choose 104 = .ok (.iload 6, 2) := by decide +kernel
theorem dX1_choose_106 : decode cX1_choose 106 = .ok (.iadd, 1) := by decide +kernel
theorem dX1_choose_107 : decode cX1_choose 107 = .ok (.istore 4, 2) := by decide +kernel
theorem dX1_choose_109 : decode cX1_choose 109 = .ok (.iinc 5 1, 3) := by decide +kernel
theorem dX1_choose_112 : decode cX1_choose 112 = .ok (.goto (-48), 3) := by decide +kernel
theorem dX1_choose_115 : decode cX1_choose 115 = .ok (.aload_n 0, 1) := by decide +kernel
theorem dX1_choose_116 : decode cX1_choose 116 = .ok (.getfield 40, 3) := by decide +kernel
theorem dX1_choose_119 : decode cX1_choose 119 = .ok (.ireturn, 1) := by decide +kernel
theorem dX1_chooseCut_0 : decode cX1_chooseCut 0 = .ok (.aload_n 0, 1) := by decide +kernel
theorem dX1_chooseCut_1 : decode cX1_chooseCut 1 = .ok (.getfield 58, 3) := by decide +kernel
theorem dX1_chooseCut_4 : decode cX1_chooseCut 4 = .ok (.iload_n 1, 1) := by decide +kernel
theorem dX1_chooseCut_5 : decode cX1_chooseCut 5 = .ok (.isub, 1) := by decide +kernel
theorem dX1_chooseCut_6 : decode cX1_chooseCut 6 = .ok (.istore 5, 2) := by decide +kernel
theorem dX1_chooseCut_8 : decode cX1_chooseCut 8 = .ok (.iload 5, 2) := by decide +kernel
theorem dX1_chooseCut_10 : decode cX1_chooseCut 10 = .ok (.iconst 1, 1) := by decide +kernel
theorem dX1_chooseCut_11 : decode cX1_chooseCut 11 = .ok (.if_icmp .lt 122, 3) := by decide +kernel
theorem dX1_chooseCut_14 : decode cX1_chooseCut 14 = .ok (.iconst 0, 1) := by decide +kernel
theorem dX1_chooseCut_15 : decode cX1_chooseCut 15 = .ok (.istore 6, 2) := by decide +kernel
theorem dX1_chooseCut_17 : decode cX1_chooseCut 17 = .ok (.iload 6, 2) := by decide +kernel
theorem dX1_chooseCut_19 : decode cX1_chooseCut 19 = .ok (.bipush 96, 2) := by decide +kernel
theorem dX1_chooseCut_21 : decode cX1_chooseCut 21 = .ok (.if_icmp .ge 106, 3) := by decide +kernel
theorem dX1_chooseCut_24 : decode cX1_chooseCut 24 = .ok (.aload_n 0, 1) := by decide +kernel
theorem dX1_chooseCut_25 : decode cX1_chooseCut 25 = .ok (.iload_n 1, 1) := by decide +kernel
theorem dX1_chooseCut_26 : decode cX1_chooseCut 26 = .ok (.iload 6, 2) := by decide +kernel
theorem dX1_chooseCut_28 : decode cX1_chooseCut 28 = .ok (.iload 5, 2) := by decide +kernel
theorem dX1_chooseCut_30 : decode cX1_chooseCut 30 = .ok (.lload_n 2, 1) := by decide +kernel
theorem dX1_chooseCut_31 : decode cX1_chooseCut 31 = .ok (.invokevirtual 98, 3) := by decide +kernel
theorem dX1_chooseCut_34 : decode cX1_chooseCut 34 = .ok (.lstore 7, 2) := by decide +kernel
theorem dX1_chooseCut_36 : decode cX1_chooseCut 36 = .ok (.lload 7, 2) := by decide +kernel
theorem dX1_chooseCut_38 : decode cX1_chooseCut 38 = .ok (.lconst 0, 1) := by decide +kernel
theorem dX1_chooseCut_39 : decode cX1_chooseCut 39 = .ok (.lcmp, 1) := by decide +kernel
theorem dX1_chooseCut_40 : decode cX1_chooseCut 40 = .ok (.ifCond .eq 81, 3) := by decide +kernel
theorem dX1_chooseCut_43 : decode cX1_chooseCut 43 = .ok (.aload_n 0, 1) := by decide +kernel
theorem dX1_chooseCut_44 : decode cX1_chooseCut 44 = .ok (.getfield 40, 3) := by decide +kernel
theorem dX1_chooseCut_47 : decode cX1_chooseCut 47 = .ok (.bipush 8, 2) := by decide +kernel
theorem dX1_chooseCut_49 : decode cX1_chooseCut 49 = .ok (.if_icmp .ge 72, 3) := by decide +kernel
theorem dX1_chooseCut_52 : decode cX1_chooseCut 52 = .ok (.aload_n 0, 1) := by decide +kernel
theorem dX1_chooseCut_53 : decode cX1_chooseCut 53 = .ok (.iload_n 1, 1) := by decide +kernel
theorem dX1_chooseCut_54 : decode cX1_chooseCut 54 = .ok (.iload 5, 2) := by decide +kernel
theorem dX1_chooseCut_56 : decode cX1_chooseCut 56 = .ok (.iadd, 1) := by decide +kernel
theorem dX1_chooseCut_57 : decode cX1_chooseCut 57 = .ok (.iconst 0, 1) := by decide +kernel
theorem dX1_chooseCut_58 : decode cX1_chooseCut 58 = .ok (.lload_n 2, 1) := by decide +kernel
theorem dX1_chooseCut_59 : decode cX1_chooseCut 59 = .ok (.lload 7, 2) := by decide +kernel
theorem dX1_chooseCut_61 : decode cX1_chooseCut 61 = .ok (.lor, 1) := by decide +kernel
theorem dX1_chooseCut_62 : decode cX1_chooseCut 62 = .ok (.iload 4, 2) := by decide +kernel
theorem dX1_chooseCut_64 : decode cX1_chooseCut 64 = .ok (.iload 5, 2) := by decide +kernel
theorem dX1_chooseCut_66 : decode cX1_chooseCut 66 = .ok (.isub, 1) := by decide +kernel
theorem dX1_chooseCut_67 : decode cX1_chooseCut 67 = .ok (.iconst 1, 1) := by decide +kernel
theorem dX1_chooseCut_68 : decode cX1_chooseCut 68 = .ok (.iadd, 1) := by decide +kernel
theorem dX1_chooseCut_69 : decode cX1_chooseCut 69 = .ok (.invokevirtual 90, 3) := by decide +kernel
theorem dX1_chooseCut_72 : decode cX1_chooseCut 72 = .ok (.ifCond .eq 49, 3) := by decide +kernel
theorem dX1_chooseCut_75 : decode cX1_chooseCut 75 = .ok (.aload_n 0, 1) := by decide +kernel
theorem dX1_chooseCut_76 : decode cX1_chooseCut 76 = .ok (.getfield 34, 3) := by decide +kernel
theorem dX1_chooseCut_79 : decode cX1_chooseCut 79 = .ok (.aload_n 0, 1) := by decide +kernel
theorem dX1_chooseCut_80 : decode cX1_chooseCut 80 = .ok (.getfield 40, 3) := by decide +kernel
theorem dX1_chooseCut_83 : decode cX1_chooseCut 83 = .ok (.iload 6, 2) := by decide +kernel
theorem dX1_chooseCut_85 : decode cX1_chooseCut 85 = .ok (.iastore, 1) := by decide +kernel
theorem dX1_chooseCut_86 : decode cX1_chooseCut 86 = .ok (.aload_n 0, 1) := by decide +kernel
theorem dX1_chooseCut_87 : decode cX1_chooseCut 87 = .ok (.getfield 37, 3) := by decide +kernel
theorem dX1_chooseCut_90 : decode cX1_chooseCut 90 = .ok (.aload_n 0, 1) := by decide +kernel
theorem dX1_chooseCut_91 : decode cX1_chooseCut 91 = .ok (.getfield 40, 3) := by decide +kernel
theorem dX1_chooseCut_94 : decode cX1_chooseCut 94 = .ok (.iload 5, 2) := by decide +kernel
theorem dX1_chooseCut_96 : decode cX1_chooseCut 96 = .ok (.iastore, 1) := by decide +kernel
theorem dX1_chooseCut_97 : decode cX1_chooseCut 97 = .ok (.aload_n 0, 1) := by decide +kernel
theorem dX1_chooseCut_98 : decode cX1_chooseCut 98 = .ok (.dup, 1) := by decide +kernel
theorem dX1_chooseCut_99 : decode cX1_chooseCut 99 = .ok (.getfield 40, 3) := by decide +kernel
theorem dX1_chooseCut_102 : decode cX1_chooseCut 102 = .ok (.iconst 1, 1) := by decide +kernel
theorem dX1_chooseCut_103 : decode cX1_chooseCut 103 = .ok (.iadd, 1) := by decide +kernel
theorem dX1_chooseCut_104 : decode cX1_chooseCut 104 = .ok (.putfield 40, 3) := by decide +kernel
theorem dX1_chooseCut_107 : decode cX1_chooseCut 107 = .ok (.aload_n 0, 1) := by decide +kernel
theorem dX1_chooseCut_108 : decode cX1_chooseCut 108 = .ok (.dup, 1) := by decide +kernel
theorem dX1_chooseCut_109 : decode cX1_chooseCut 109 = .ok (.getfield 82, 3) := by decide +kernel
theorem dX1_chooseCut_112 : decode cX1_chooseCut 112 = .ok (.lload 7, 2) := by decide +kernel
theorem dX1_chooseCut_114 : decode cX1_chooseCut 114 = .ok (.lor, 1) := by decide +kernel
theorem dX1_chooseCut_115 : decode cX1_chooseCut 115 = .ok (.putfield 82, 3) := by decide +kernel
theorem dX1_chooseCut_118 : decode cX1_chooseCut 118 = .ok (.iload 5, 2) := by decide +kernel
theorem dX1_chooseCut_120 : decode cX1_chooseCut 120 = .ok (.ireturn, 1) := by decide +kernel
theorem dX1_chooseCut_121 : decode cX1_chooseCut 121 = .ok (.iinc 6 1, 3) := by decide +kernel
theorem dX1_chooseCut_124 : decode cX1_chooseCut 124 = .ok (.goto (-107), 3) := by decide +kernel
theorem dX1_chooseCut_127 : decode cX1_chooseCut 127 = .ok (.iinc 5 (-1), 3) := by decide +kernel
theorem dX1_chooseCut_130 : decode cX1_chooseCut 130 = .ok (.goto (-122), 3) := by decide +kernel
theorem dX1_chooseCut_133 : decode cX1_chooseCut 133 = .ok (.iconst 0, 1) := by decide +kernel
theorem dX1_chooseCut_134 : decode cX1_chooseCut 134 = .ok (.ireturn, 1) := by decide +kernel
theorem dX1_freeStrip_0 : decode cX1_freeStrip 0 = .ok (.iload_n 1, 1) := by decide +kernel
theorem dX1_freeStrip_1 : decode cX1_freeStrip 1 = .ok (.ifCond .lt 33, 3) := by decide +kernel
theorem dX1_freeStrip_4 : decode cX1_freeStrip 4 = .ok (.iload_n 1, 1) := by decide +kernel
theorem dX1_freeStrip_5 : decode cX1_freeStrip 5 = .ok (.bipush 8, 2) := by decide +kernel
theorem dX1_freeStrip_7 : decode cX1_freeStrip 7 = .ok (.if_icmp .ge 27, 3) := by decide +kernel
theorem dX1_freeStrip_10 : decode cX1_freeStrip 10 = .ok (.iload_n 2, 1) := by decide +kernel
theorem dX1_freeStrip_11 : decode cX1_freeStrip 11 = .ok (.ifCond .lt 23, 3) := by decide +kernel
theorem dX1_freeStrip_14 : decode cX1_freeStrip 14 = .ok (.iload_n 2, 1) := by decide +kernel
theorem dX1_freeStrip_15 : decode cX1_freeStrip 15 = .ok (.iload_n 3, 1) := by decide +kernel
theorem dX1_freeStrip_16 : decode cX1_freeStrip 16 = .ok (.iadd, 1) := by decide +kernel
theorem dX1_freeStrip_17 : decode cX1_freeStrip 17 = .ok (.bipush 96, 2) := by decide +kernel
theorem dX1_freeStrip_19 : decode cX1_freeStrip 19 = .ok (.if_icmp .gt 15, 3) := by decide +kernel
theorem dX1_freeStrip_22 : decode cX1_freeStrip 22 = .ok (.aload_n 0, 1) := by decide +kernel
theorem dX1_freeStrip_23 : decode cX1_freeStrip 23 = .ok (.getfield 27, 3) := by decide +kernel
theorem dX1_freeStrip_26 : decode cX1_freeStrip 26 = .ok (.iload_n 1, 1) := by decide +kernel
theorem dX1_freeStrip_27 : decode cX1_freeStrip 27 = .ok (.aaload, 1) := by decide +kernel
theorem dX1_freeStrip_28 : decode cX1_freeStrip 28 = .ok (.iload_n 2, 1) := by decide +kernel
theorem dX1_freeStrip_29 : decode cX1_freeStrip 29 = .ok (.iaload, 1) := by decide +kernel
theorem dX1_freeStrip_30 : decode cX1_freeStrip 30 = .ok (.iload_n 3, 1) := by decide +kernel
theorem dX1_freeStrip_31 : decode cX1_freeStrip 31 = .ok (.if_icmp .ge 5, 3) := by decide +kernel
theorem dX1_freeStrip_34 : decode cX1_freeStrip 34 = .ok (.lconst 0, 1) := by decide +kernel
theorem dX1_freeStrip_35 : decode cX1_freeStrip 35 = .ok (.lreturn, 1) := by decide +kernel
theorem dX1_freeStrip_36 : decode cX1_freeStrip 36 = .ok (.lconst 0, 1) := by decide +kernel
theorem dX1_freeStrip_37 : decode cX1_freeStrip 37 = .ok (.lstore 6, 2) := by decide +kernel
theorem dX1_freeStrip_39 : decode cX1_freeStrip 39 = .ok (.iconst 0, 1) := by decide +kernel
theorem dX1_freeStrip_40 : decode cX1_freeStrip 40 = .ok (.istore 8, 2) := by decide +kernel
theorem dX1_freeStrip_42 : decode cX1_freeStrip 42 = .ok (.iload 8, 2) := by decide +kernel
theorem dX1_freeStrip_44 : decode cX1_freeStrip 44 = .ok (.iload_n 3, 1) := by decide +kernel
theorem dX1_freeStrip_45 : decode cX1_freeStrip 45 = .ok (.if_icmp .ge 23, 3) := by decide +kernel
theorem dX1_freeStrip_48 : decode cX1_freeStrip 48 = .ok (.lload 6, 2) := by decide +kernel
theorem dX1_freeStrip_50 : decode cX1_freeStrip 50 = .ok (.aload_n 0, 1) := by decide +kernel
theorem dX1_freeStrip_51 : decode cX1_freeStrip 51 = .ok (.getfield 22, 3) := by decide +kernel
theorem dX1_freeStrip_54 : decode cX1_freeStrip 54 = .ok (.iload_n 2, 1) := by decide +kernel
theorem dX1_freeStrip_55 : decode cX1_freeStrip 55 = .ok (.iload 8, 2) := by decide +kernel
theorem dX1_freeStrip_57 : decode cX1_freeStrip 57 = .ok (.iadd, 1) := by decide +kernel
theorem dX1_freeStrip_58 : decode cX1_freeStrip 58 = .ok (.laload, 1) := by decide +kernel
theorem dX1_freeStrip_59 : decode cX1_freeStrip 59 = .ok (.lor, 1) := by decide +kernel
theorem dX1_freeStrip_60 : decode cX1_freeStrip 60 = .ok (.lstore 6, 2) := by decide +kernel
theorem dX1_freeStrip_62 : decode cX1_freeStrip 62 = .ok (.iinc 8 1, 3) := by decide +kernel
theorem dX1_freeStrip_65 : decode cX1_freeStrip 65 = .ok (.goto (-23), 3) := by decide +kernel
theorem dX1_freeStrip_68 : decode cX1_freeStrip 68 = .ok (.lload 6, 2) := by decide +kernel
theorem dX1_freeStrip_70 : decode cX1_freeStrip 70 = .ok (.lload 4, 2) := by decide +kernel
theorem dX1_freeStrip_72 : decode cX1_freeStrip 72 = .ok (.land, 1) := by decide +kernel
theorem dX1_freeStrip_73 : decode cX1_freeStrip 73 = .ok (.lconst 0, 1) := by decide +kernel
theorem dX1_freeStrip_74 : decode cX1_freeStrip 74 = .ok (.lcmp, 1) := by decide +kernel
theorem dX1_freeStrip_75 : decode cX1_freeStrip 75 = .ok (.ifCond .ne 8, 3) := by decide +kernel
theorem dX1_freeStrip_78 : decode cX1_freeStrip 78 = .ok (.lload 6, 2) := by decide +kernel
theorem dX1_freeStrip_80 : decode cX1_freeStrip 80 = .ok (.goto 4, 3) := by decide +kernel
theorem dX1_freeStrip_83 : decode cX1_freeStrip 83 = .ok (.lconst 0, 1) := by decide +kernel
theorem dX1_freeStrip_84 : decode cX1_freeStrip 84 = .ok (.lreturn, 1) := by decide +kernel
theorem dX1_canSave_0 : decode cX1_canSave 0 = .ok (.aload_n 0, 1) := by decide +kernel
theorem dX1_canSave_1 : decode cX1_canSave 1 = .ok (.iload_n 1, 1) := by decide +kernel
theorem dX1_canSave_2 : decode cX1_canSave 2 = .ok (.iload_n 2, 1) := by decide +kernel
theorem dX1_canSave_3 : decode cX1_canSave 3 = .ok (.lload_n 3, 1) := by decide +kernel
theorem dX1_canSave_4 : decode cX1_canSave 4 = .ok (.invokevirtual 86, 3) := by decide +kernel
theorem dX1_canSave_7 : decode cX1_canSave 7 = .ok (.ifCond .ne 5, 3) := by decide +kernel
theorem dX1_canSave_10 : decode cX1_canSave 10 = .ok (.iconst 0, 1) := by decide +kernel
theorem dX1_canSave_11 : decode cX1_canSave 11 = .ok (.ireturn, 1) := by decide +kernel
theorem dX1_canSave_12 : decode cX1_canSave 12 = .ok (.iload_n 2, 1) := by decide +kernel
theorem dX1_canSave_13 : decode cX1_canSave 13 = .ok (.istore 6, 2) := by decide +kernel
theorem dX1_canSave_15 : decode cX1_canSave 15 = .ok (.iload_n 1, 1) := by decide +kernel
theorem dX1_canSave_16 : decode cX1_canSave 16 = .ok (.istore 7, 2) := by decide +kernel
theorem dX1_canSave_18 : decode cX1_canSave 18 = .ok (.iload 5, 2) := by decide +kernel
theorem dX1_canSave_20 : decode cX1_canSave 20 = .ok (.ifCond .le 55, 3) := by decide +kernel
theorem dX1_canSave_23 : decode cX1_canSave 23 = .ok (.iload 7, 2) := by decide +kernel
theorem dX1_canSave_25 : decode cX1_canSave 25 = .ok (.aload_n 0, 1) := by decide +kernel
theorem dX1_canSave_26 : decode cX1_canSave 26 = .ok (.getfield 58, 3) := by decide +kernel
theorem dX1_canSave_29 : decode cX1_canSave 29 = .ok (.if_icmp .ge 46, 3) := by decide +kernel
theorem dX1_canSave_32 : decode cX1_canSave 32 = .ok (.aload_n 0, 1) := by decide +kernel
theorem dX1_canSave_33 : decode cX1_canSave 33 = .ok (.getfield 30, 3) := by decide +kernel
theorem dX1_canSave_36 : decode cX1_canSave 36 = .ok (.iload 7, 2) := by decide +kernel
theorem dX1_canSave_38 : decode cX1_canSave 38 = .ok (.iaload, 1) := by decide +kernel
theorem dX1_canSave_39 : decode cX1_canSave 39 = .ok (.iload 5, 2) := by decide +kernel
theorem dX1_canSave_41 : decode cX1_canSave 41 = .ok (.if_icmp .lt 34, 3) := by decide +kernel
theorem dX1_canSave_44 : decode cX1_canSave 44 = .ok (.aload_n 0, 1) := by decide +kernel
theorem dX1_canSave_45 : decode cX1_canSave 45 = .ok (.iload 7, 2) := by decide +kernel
theorem dX1_canSave_47 : decode cX1_canSave 47 = .ok (.iload 6, 2) := by decide +kernel
theorem dX1_canSave_49 : decode cX1_canSave 49 = .ok (.lload_n 3, 1) := by decide +kernel
theorem dX1_canSave_50 : decode cX1_canSave 50 = .ok (.iload 5, 2) := by decide +kernel
theorem dX1_canSave_52 : decode cX1_canSave 52 = .ok (.invokevirtual 102, 3) := by decide +kernel
theorem dX1_canSave_55 : decode cX1_canSave 55 = .ok (.ifCond .eq 5, 3) := by decide +kernel
theorem dX1_canSave_58 : decode cX1_canSave 58 = .ok (.iconst 1, 1) := by decide +kernel
theorem dX1_canSave_59 : decode cX1_canSave 59 = .ok (.ireturn, 1) := by decide +kernel
theorem dX1_canSave_60 : decode cX1_canSave 60 = .ok (.iload 6, 2) := by decide +kernel
theorem dX1_canSave_62 : decode cX1_canSave 62 = .ok (.iconst 1, 1) := by decide +kernel
theorem dX1_canSave_63 : decode cX1_canSave 63 = .ok (.iload 7, 2) := by decide +kernel
theorem dX1_canSave_65 : decode cX1_canSave 65 = .ok (.ishl, 1) := by decide +kernel
theorem dX1_canSave_66 : decode cX1_canSave 66 = .ok (.ior, 1) := by decide +kernel
theorem dX1_canSave_67 : decode cX1_canSave 67 = .ok (.istore 6, 2) := by decide +kernel
theorem dX1_canSave_69 : decode cX1_canSave 69 = .ok (.iinc 7 1, 3) := by decide +kernel
theorem dX1_canSave_72 : decode cX1_canSave 72 = .ok (.goto (-54), 3) := by decide +kernel
theorem dX1_canSave_75 : decode cX1_canSave 75 = .ok (.iload 5, 2) := by decide +kernel
theorem dX1_canSave_77 : decode cX1_canSave 77 = .ok (.ifCond .gt 7, 3) := by decide +kernel
theorem dX1_canSave_80 : decode cX1_canSave 80 = .ok (.iconst 1, 1) := by decide +kernel
theorem dX1_canSave_81 : decode cX1_canSave 81 = .ok (.goto 4, 3) := by decide +kernel
theorem dX1_canSave_84 : decode cX1_canSave 84 = .ok (.iconst 0, 1) := by decide +kernel
theorem dX1_canSave_85 : decode cX1_canSave 85 = .ok (.ireturn, 1) := by decide +kernel
theorem dX1_canSaveAt_0 : decode cX1_canSaveAt 0 = .ok (.iload_n 1, 1) := by decide +kernel
theorem dX1_canSaveAt_1 : decode cX1_canSaveAt 1 = .ok (.ifCond .lt 11, 3) := by decide +kernel
theorem dX1_canSaveAt_4 : decode cX1_canSaveAt 4 = .ok (.iload_n 1, 1) := by decide +kernel
theorem dX1_canSaveAt_5 : decode cX1_canSaveAt 5 = .ok (.aload_n 0, 1) := by decide +kernel
theorem dX1_canSaveAt_6 : decode cX1_canSaveAt 6 = .ok (.getfield 58, 3) := by decide +kernel
theorem dX1_canSaveAt_9 : decode cX1_canSaveAt 9 = .ok (.if_icmp .lt 5, 3) := by decide +kernel
theorem dX1_canSaveAt_12 : decode cX1_canSaveAt 12 = .ok (.iconst 0, 1) := by decide +kernel
theorem dX1_canSaveAt_13 : decode cX1_canSaveAt 13 = .ok (.ireturn, 1) := by decide +kernel
theorem dX1_canSaveAt_14 : decode cX1_canSaveAt 14 = .ok (.iconst 0, 1) := by decide +kernel
theorem dX1_canSaveAt_15 : decode cX1_canSaveAt 15 = .ok (.istore 6, 2) := by decide +kernel
theorem dX1_canSaveAt_17 : decode cX1_canSaveAt 17 = .ok (.iload 6, 2) := by decide +kernel
theorem dX1_canSaveAt_19 : decode cX1_canSaveAt 19 = .ok (.bipush 96, 2) := by decide +kernel
theorem dX1_canSaveAt_21 : decode cX1_canSaveAt 21 = .ok (.if_icmp .ge 76, 3) := by decide +kernel
theorem dX1_canSaveAt_24 : decode cX1_canSaveAt 24 = .ok (.aload_n 0, 1) := by decide +kernel
theorem dX1_canSaveAt_25 : decode cX1_canSaveAt 25 = .ok (.getfield 27, 3) := by decide +kernel
theorem dX1_canSaveAt_28 : decode cX1_canSaveAt 28 = .ok (.iload_n 1, 1) := by decide +kernel
theorem dX1_canSaveAt_29 : decode cX1_canSaveAt 29 = .ok (.aaload, 1) := by decide +kernel
theorem dX1_canSaveAt_30 : decode cX1_canSaveAt 30 = .ok (.iload 6, 2) := by decide +kernel
theorem dX1_canSaveAt_32 : decode cX1_canSaveAt 32 = .ok (.iaload, 1) := by decide +kernel
theorem dX1_canSaveAt_33 : decode cX1_canSaveAt 33 = .ok (.istore 7, 2) := by decide +kernel
theorem dX1_canSaveAt_35 : decode cX1_canSaveAt 35 = .ok (.iload 7, 2) := by decide +kernel
theorem dX1_canSaveAt_37 : decode cX1_canSaveAt 37 = .ok (.iconst 2, 1) := by decide +kernel
theorem dX1_canSaveAt_38 : decode cX1_canSaveAt 38 = .ok (.if_icmp .lt 53, 3) := by decide +kernel
theorem dX1_canSaveAt_41 : decode cX1_canSaveAt 41 = .ok (.aload_n 0, 1) := by decide +kernel
theorem dX1_canSaveAt_42 : decode cX1_canSaveAt 42 = .ok (.iload_n 1, 1) := by decide +kernel
theorem dX1_canSaveAt_43 : decode cX1_canSaveAt 43 = .ok (.iload 6, 2) := by decide +kernel
theorem dX1_canSaveAt_45 : decode cX1_canSaveAt 45 = .ok (.iload 7, 2) := by decide +kernel
theorem dX1_canSaveAt_47 : decode cX1_canSaveAt 47 = .ok (.lload_n 3, 1) := by decide +kernel
theorem dX1_canSaveAt_48 : decode cX1_canSaveAt 48 = .ok (.invokevirtual 98, 3) := by decide +kernel
theorem dX1_canSaveAt_51 : decode cX1_canSaveAt 51 = .ok (.lstore 8, 2) := by decide +kernel
theorem dX1_canSaveAt_53 : decode cX1_canSaveAt 53 = .ok (.lload 8, 2) := by decide +kernel
theorem dX1_canSaveAt_55 : decode cX1_canSaveAt 55 = .ok (.lconst 0, 1) := by decide +kernel
theorem dX1_canSaveAt_56 : decode cX1_canSaveAt 56 = .ok (.lcmp, 1) := by decide +kernel
theorem dX1_canSaveAt_57 : decode cX1_canSaveAt 57 = .ok (.ifCond .eq 28, 3) := by decide +kernel
theorem dX1_canSaveAt_60 : decode cX1_canSaveAt 60 = .ok (.aload_n 0, 1) := by decide +kernel
theorem dX1_canSaveAt_61 : decode cX1_canSaveAt 61 = .ok (.iload_n 1, 1) := by decide +kernel
theorem dX1_canSaveAt_62 : decode cX1_canSaveAt 62 = .ok (.iload 7, 2) := by decide +kernel
theorem dX1_canSaveAt_64 : decode cX1_canSaveAt 64 = .ok (.iadd, 1) := by decide +kernel
theorem dX1_canSaveAt_65 : decode cX1_canSaveAt 65 = .ok (.iload_n 2, 1) := by decide +kernel
theorem dX1_canSaveAt_66 : decode cX1_canSaveAt 66 = .ok (.lload_n 3, 1) := by decide +kernel
theorem dX1_canSaveAt_67 : decode cX1_canSaveAt 67 = .ok (.lload 8, 2) := by decide +kernel
theorem dX1_canSaveAt_69 : decode cX1_canSaveAt 69 = .ok (.lor, 1) := by decide +kernel
theorem dX1_canSaveAt_70 : decode cX1_canSaveAt 70 = .ok (.iload 5, 2) := by decide +kernel
theorem dX1_canSaveAt_72 : decode cX1_canSaveAt 72 = .ok (.iload 7, 2) := by decide +kernel
theorem dX1_canSaveAt_74 : decode cX1_canSaveAt 74 = .ok (.isub, 1) := by decide +kernel
theorem dX1_canSaveAt_75 : decode cX1_canSaveAt 75 = .ok (.iconst 1, 1) := by decide +kernel
theorem dX1_canSaveAt_76 : decode cX1_canSaveAt 76 = .ok (.iadd, 1) := by decide +kernel
theorem dX1_canSaveAt_77 : decode cX1_canSaveAt 77 = .ok (.invokevirtual 90, 3) := by decide +kernel
theorem dX1_canSaveAt_80 : decode cX1_canSaveAt 80 = .ok (.ifCond .eq 5, 3) := by decide +kernel
theorem dX1_canSaveAt_83 : decode cX1_canSaveAt 83 = .ok (.iconst 1, 1) := by decide +kernel
theorem dX1_canSaveAt_84 : decode cX1_canSaveAt 84 = .ok (.ireturn, 1) := by decide +kernel
theorem dX1_canSaveAt_85 : decode cX1_canSaveAt 85 = .ok (.iinc 7 (-1), 3) := by decide +kernel
theorem dX1_canSaveAt_88 : decode cX1_canSaveAt 88 = .ok (.goto (-53), 3) := by decide +kernel
theorem dX1_canSaveAt_91 : decode cX1_canSaveAt 91 = .ok (.iinc 6 1, 3) := by decide +kernel
theorem dX1_canSaveAt_94 : decode cX1_canSaveAt 94 = .ok (.goto (-77), 3) := by decide +kernel
theorem dX1_canSaveAt_97 : decode cX1_canSaveAt 97 = .ok (.iconst 0, 1) := by decide +kernel
theorem dX1_canSaveAt_98 : decode cX1_canSaveAt 98 = .ok (.ireturn, 1) := by decide +kernel
theorem dX1_canSpell_0 : decode cX1_canSpell 0 = .ok (.aload_n 0, 1) := by decide +kernel
theorem dX1_canSpell_1 : decode cX1_canSpell 1 = .ok (.getfield 12, 3) := by decide +kernel
theorem dX1_canSpell_4 : decode cX1_canSpell 4 = .ok (.invokevirtual 105, 3) := by decide +kernel
theorem dX1_canSpell_7 : decode cX1_canSpell 7 = .ok (.iconst 0, 1) := by decide +kernel
theorem dX1_canSpell_8 : decode cX1_canSpell 8 = .ok (.istore 5, 2) := by decide +kernel
theorem dX1_canSpell_10 : decode cX1_canSpell 10 = .ok (.iload 5, 2) := by decide +kernel
theorem dX1_canSpell_12 : decode cX1_canSpell 12 = .ok (.aload_n 0, 1) := by decide +kernel
theorem dX1_canSpell_13 : decode cX1_canSpell 13 = .ok (.getfield 58, 3) := by decide +kernel
theorem dX1_canSpell_16 : decode cX1_canSpell 16 = .ok (.if_icmp .ge 61, 3) := by decide +kernel
theorem dX1_canSpell_19 : decode cX1_canSpell 19 = .ok (.iload 5, 2) := by decide +kernel
theorem dX1_canSpell_21 : decode cX1_canSpell 21 = .ok (.iload_n 1, 1) := by decide +kernel
theorem dX1_canSpell_22 : decode cX1_canSpell 22 = .ok (.if_icmp .ge 12, 3) := by decide +kernel
theorem dX1_canSpell_25 : decode cX1_canSpell 25 = .ok (.iload_n 2, 1) := by decide +kernel
theorem dX1_canSpell_26 : decode cX1_canSpell 26 = .ok (.iconst 1, 1) := by decide +kernel
theorem dX1_canSpell_27 : decode cX1_canSpell 27 = .ok (.iload 5, 2) := by decide +kernel
theorem dX1_canSpell_29 : decode cX1_canSpell 29 = .ok (.ishl, 1) := by decide +kernel
theorem dX1_canSpell_30 : decode cX1_canSpell 30 = .ok (.iand, 1) := by decide +kernel
theorem dX1_canSpell_31 : decode cX1_canSpell 31 = .ok (.ifCond .eq 7, 3) := by decide +kernel
theorem dX1_canSpell_34 : decode cX1_canSpell 34 = .ok (.iconst 1, 1) := by decide +kernel
theorem dX1_canSpell_35 : decode cX1_canSpell 35 = .ok (.goto 4, 3) := by decide +kernel
theorem dX1_canSpell_38 : decode cX1_canSpell 38 = .ok (.iconst 0, 1) := by decide +kernel
theorem dX1_canSpell_39 : decode cX1_canSpell 39 = .ok (.istore 6, 2) := by decide +kernel
theorem dX1_canSpell_41 : decode cX1_canSpell 41 = .ok (.iload 6, 2) := by decide +kernel
theorem dX1_canSpell_43 : decode cX1_canSpell 43 = .ok (.ifCond .eq 28, 3) := by decide +kernel
theorem dX1_canSpell_46 : decode cX1_canSpell 46 = .ok (.aload_n 0, 1) := by decide +kernel
theorem dX1_canSpell_47 : decode cX1_canSpell 47 = .ok (.getfield 12, 3) := by decide +kernel
theorem dX1_canSpell_50 : decode cX1_canSpell 50 = .ok (.aload_n 0, 1) := by decide +kernel
theorem dX1_canSpell_51 : decode cX1_canSpell 51 = .ok (.getfield 18, 3) := by decide +kernel
theorem dX1_canSpell_54 : decode cX1_canSpell 54 = .ok (.iload 5, 2) := by decide +kernel
theorem dX1_canSpell_56 : decode cX1_canSpell 56 = .ok (.laload, 1) := by decide +kernel
theorem dX1_canSpell_57 : decode cX1_canSpell 57 = .ok (.lload_n 3, 1) := by decide +kernel
theorem dX1_canSpell_58 : decode cX1_canSpell 58 = .ok (.ldc2_w 108, 3) := by decide +kernel
theorem dX1_canSpell_61 : decode cX1_canSpell 61 = .ok (.lxor, 1) := by decide +kernel
theorem dX1_canSpell_62 : decode cX1_canSpell 62 = .ok (.land, 1) := by decide +kernel
theorem dX1_canSpell_63 : decode cX1_canSpell 63 = .ok (.invokevirtual 110, 3) := by decide +kernel
theorem dX1_canSpell_66 : decode cX1_canSpell 66 = .ok (.ifCond .ne 5, 3) := by decide +kernel
theorem dX1_canSpell_69 : decode cX1_canSpell 69 = .ok (.iconst 0, 1) := by decide +kernel
theorem dX1_canSpell_70 : decode cX1_canSpell 70 = .ok (.ireturn, 1) := by decide +kernel
theorem dX1_canSpell_71 : decode cX1_canSpell 71 = .ok (.iinc 5 1, 3) := by decide +kernel
theorem dX1_canSpell_74 : decode cX1_canSpell 74 = .ok (.goto (-64), 3) := by decide +kernel
theorem dX1_canSpell_77 : decode cX1_canSpell 77 = .ok (.iconst 1, 1) := by decide +kernel
theorem dX1_canSpell_78 : decode cX1_canSpell 78 = .ok (.ireturn, 1) := by decide +kernel
theorem dX2_init_0 : decode cX2_init 0 = .ok (.aload_n 0, 1) := by decide +kernel
theorem dX2_init_1 : decode cX2_init 1 = .ok (.invokespecial 3, 3) := by decide +kernel
theorem dX2_init_4 : decode cX2_init 4 = .ok (.aload_n 0, 1) := by decide +kernel
theorem dX2_init_5 : decode cX2_init 5 = .ok (.new 9, 3) := by decide +kernel
theorem dX2_init_8 : decode cX2_init 8 = .ok (.dup, 1) := by decide +kernel
theorem dX2_init_9 : decode cX2_init 9 = .ok (.invokespecial 11, 3) := by decide +kernel
theorem dX2_init_12 : decode cX2_init 12 = .ok (.putfield 12, 3) := by decide +kernel
theorem dX2_init_15 : decode cX2_init 15 = .ok (.aload_n 0, 1) := by decide +kernel
theorem dX2_init_16 : decode cX2_init 16 = .ok (.sipush 400, 3) := by decide +kernel
theorem dX2_init_19 : decode cX2_init 19 = .ok (.newarray .byte, 2) := by decide +kernel
theorem dX2_init_21 : decode cX2_init 21 = .ok (.putfield 18, 3) := by decide +kernel
theorem dX2_init_24 : decode cX2_init 24 = .ok (.aload_n 0, 1) := by decide +kernel
theorem dX2_init_25 : decode cX2_init 25 = .ok (.iconst (-1), 1) := by decide +kernel
theorem dX2_init_26 : decode cX2_init 26 = .ok (.putfield 22, 3) := by decide +kernel
theorem dX2_init_29 : decode cX2_init 29 = .ok (.return_, 1) := by decide +kernel
theorem dX2_read_0 : decode cX2_read 0 = .ok (.aload_n 0, 1) := by decide +kernel
theorem dX2_read_1 : decode cX2_read 1 = .ok (.iconst 0, 1) := by decide +kernel
theorem dX2_read_2 : decode cX2_read 2 = .ok (.iload_n 2, 1) := by decide +kernel
theorem dX2_read_3 : decode cX2_read 3 = .ok (.sipush 400, 3) := by decide +kernel
theorem dX2_read_6 : decode cX2_read 6 = .ok (.aload_n 1, 1) := by decide +kernel
theorem dX2_read_7 : decode cX2_read 7 = .ok (.arraylength, 1) := by decide +kernel
theorem dX2_read_8 : decode cX2_read 8 = .ok (.invokestatic 26, 3) := by decide +kernel
theorem dX2_read_11 : decode cX2_read 11 = .ok (.invokestatic 26, 3) := by decide +kernel
theorem dX2_read_14 : decode cX2_read 14 = .ok (.invokestatic 32, 3) := by decide +kernel
theorem dX2_read_17 : decode cX2_read 17 = .ok (.putfield 35, 3) := by decide +kernel
theorem dX2_read_20 : decode cX2_read 20 = .ok (.aload_n 1, 1) := by decide +kernel
theorem dX2_read_21 : decode cX2_read 21 = .ok (.iconst 0, 1) := by decide +kernel
theorem dX2_read_22 : decode cX2_read 22 = .ok (.aload_n 0, 1) := by decide +kernel
theorem dX2_read_23 : decode cX2_read 23 = .ok (.getfield 18, 3) := by decide +kernel
theorem dX2_read_26 : decode cX2_read 26 = .ok (.iconst 0, 1) := by decide +kernel
theorem dX2_read_27 : decode cX2_read 27 = .ok (.aload_n 0, 1) := by decide +kernel
theorem dX2_read_28 : decode cX2_read 28 = .ok (.getfield 35, 3) := by decide +kernel
theorem dX2_read_31 : decode cX2_read 31 = .ok (.invokestatic 38, 3) := by decide +kernel
theorem dX2_read_34 : decode cX2_read 34 = .ok (.aload_n 0, 1) := by decide +kernel
theorem dX2_read_35 : decode cX2_read 35 = .ok (.iconst 0, 1) := by decide +kernel
theorem dX2_read_36 : decode cX2_read 36 = .ok (.putfield 44, 3) := by decide +kernel
theorem dX2_read_39 : decode cX2_read 39 = .ok (.aload_n 0, 1) := by decide +kernel
theorem dX2_read_40 : decode cX2_read 40 = .ok (.iconst 0, 1) := by decide +kernel
theorem dX2_read_41 : decode cX2_read 41 = .ok (.putfield 47, 3) := by decide +kernel
theorem dX2_read_44 : decode cX2_read 44 = .ok (.aload_n 0, 1) := by decide +kernel
theorem dX2_read_45 : decode cX2_read 45 = .ok (.iconst (-1), 1) := by decide +kernel
theorem dX2_read_46 : decode cX2_read 46 = .ok (.putfield 22, 3) := by decide +kernel
theorem dX2_read_49 : decode cX2_read 49 = .ok (.aload_n 0, 1) := by decide +kernel
theorem dX2_read_50 : decode cX2_read 50 = .ok (.iconst 0, 1) := by decide +kernel
theorem dX2_read_51 : decode cX2_read 51 = .ok (.putfield 50, 3) := by decide +kernel
theorem dX2_read_54 : decode cX2_read 54 = .ok (.aload_n 0, 1) := by decide +kernel
theorem dX2_read_55 : decode cX2_read 55 = .ok (.iconst 0, 1) := by decide +kernel
theorem dX2_read_56 : decode cX2_read 56 = .ok (.putfield 54, 3) := by decide +kernel
theorem dX2_read_59 : decode cX2_read 59 = .ok (.aload_n 0, 1) := by decide +kernel
theorem dX2_read_60 : decode cX2_read 60 = .ok (.iconst 0, 1) := by decide +kernel
theorem dX2_read_61 : decode cX2_read 61 = .ok (.putfield 57, 3) := by decide +kernel
theorem dX2_read_64 : decode cX2_read 64 = .ok (.aload_n 0, 1) := by decide +kernel
theorem dX2_read_65 : decode cX2_read 65 = .ok (.iconst 0, 1) := by decide +kernel
theorem dX2_read_66 : decode cX2_read 66 = .ok (.putfield 60, 3) := by decide +kernel
theorem dX2_read_69 : decode cX2_read 69 = .ok (.aload_n 0, 1) := by decide +kernel
theorem dX2_read_70 : decode cX2_read 70 = .ok (.invokevirtual 63, 3) := by decide +kernel
theorem dX2_read_73 : decode cX2_read 73 = .ok (.iconst 0, 1) := by decide +kernel
theorem dX2_read_74 : decode cX2_read 74 = .ok (.istore_n 3, 1) := by decide +kernel
theorem dX2_read_75 : decode cX2_read 75 = .ok (.iload_n 3, 1) := by decide +kernel
theorem dX2_read_76 : decode cX2_read 76 = .ok (.iconst 4, 1) := by decide +kernel
theorem dX2_read_77 : decode cX2_read 77 = .ok (.if_icmp .gt 27, 3) := by decide +kernel
theorem dX2_read_80 : decode cX2_read 80 = .ok (.aload_n 0, 1) := by decide +kernel
theorem dX2_read_81 : decode cX2_read 81 = .ok (.getfield 47, 3) := by decide +kernel
theorem dX2_read_84 : decode cX2_read 84 = .ok (.ifCond .ne 20, 3) := by decide +kernel
theorem dX2_read_87 : decode cX2_read 87 = .ok (.aload_n 0, 1) := by decide +kernel
theorem dX2_read_88 : decode cX2_read 88 = .ok (.invokevirtual 66, 3) := by decide +kernel
theorem dX2_read_91 : decode cX2_read 91 = .ok (.ifCond .eq 13, 3) := by decide +kernel
theorem dX2_read_94 : decode cX2_read 94 = .ok (.aload_n 0, 1) := by decide +kernel
theorem dX2_read_95 : decode cX2_read 95 = .ok (.invokevirtual 70, 3) := by decide +kernel
theorem dX2_read_98 : decode cX2_read 98 = .ok (.iinc 3 1, 3) := by decide +kernel
theorem dX2_read_101 : decode cX2_read 101 = .ok (.goto (-26), 3) := by decide +kernel
theorem dX2_read_104 : decode cX2_read 104 = .ok (.aload_n 0, 1) := by decide +kernel
theorem dX2_read_105 : decode cX2_read 105 = .ok (.getfield 47, 3) := by decide +kernel
theorem dX2_read_108 : decode cX2_read 108 = .ok (.ireturn, 1) := by decide +kernel
theorem dX2_readPage_0 : decode cX2_readPage 0 = .ok (.aload_n 0, 1) := by decide +kernel
theorem dX2_readPage_1 : decode cX2_readPage 1 = .ok (.invokevirtual 73, 3) := by decide +kernel
theorem dX2_readPage_4 : decode cX2_readPage 4 = .ok (.aload_n 0, 1) := by decide +kernel
theorem dX2_readPage_5 : decode cX2_readPage 5 = .ok (.getfield 44, 3) := by decide +kernel
theorem dX2_readPage_8 : decode cX2_readPage 8 = .ok (.istore_n 1, 1) := by decide +kernel
theorem dX2_readPage_9 : decode cX2_readPage 9 = .ok (.aload_n 0, 1) := by decide +kernel
theorem dX2_readPage_10 : decode cX2_readPage 10 = .ok (.invokevirtual 76, 3) := by decide +kernel
theorem dX2_readPage_13 : decode cX2_readPage 13 = .ok (.aload_n 0, 1) := by decide +kernel
theorem dX2_readPage_14 : decode cX2_readPage 14 = .ok (.iload_n 1, 1) := by decide +kernel
theorem dX2_readPage_15 : decode cX2_readPage 15 = .ok (.ldc 79, 2) := by decide +kernel
theorem dX2_readPage_17 : decode cX2_readPage 17 = .ok (.invokevirtual 81, 3) := by decide +kernel
theorem dX2_readPage_20 : decode cX2_readPage 20 = .ok (.ifCond .ne 10, 3) := by decide +kernel
theorem dX2_readPage_23 : decode cX2_readPage 23 = .ok (.aload_n 0, 1) := by decide +kernel
theorem dX2_readPage_24 : decode cX2_readPage 24 = .ok (.bipush (-2), 2) := by decide +kernel
theorem dX2_readPage_26 : decode cX2_readPage 26 = .ok (.iload_n 1, 1) := by decide +kernel
theorem dX2_readPage_27 : decode cX2_readPage 27 = .ok (.invokevirtual 85, 3) := by decide +kernel
theorem dX2_readPage_30 : decode cX2_readPage 30 = .ok (.aload_n 0, 1) := by decide +kernel
theorem dX2_readPage_31 : decode cX2_readPage 31 = .ok (.bipush 8, 2) := by decide +kernel
theorem dX2_readPage_33 : decode cX2_readPage 33 = .ok (.invokevirtual 89, 3) := by decide +kernel
theorem dX2_readPage_36 : decode cX2_readPage 36 = .ok (.istore_n 2, 1) := by decide +kernel
theorem dX2_readPage_37 : decode cX2_readPage 37 = .ok (.aload_n 0, 1) := by decide +kernel
theorem dX2_readPage_38 : decode cX2_readPage 38 = .ok (.bipush 6, 2) := by decide +kernel
theorem dX2_readPage_40 : decode cX2_readPage 40 = .ok (.invokevirtual 89, 3) := by decide +kernel
theorem dX2_readPage_43 : decode cX2_readPage 43 = .ok (.istore_n 3, 1) := by decide +kernel
theorem dX2_readPage_44 : decode cX2_readPage 44 = .ok (.aload_n 0, 1) := by decide +kernel
theorem dX2_readPage_45 : decode cX2_readPage 45 = .ok (.invokevirtual 93, 3) := by decide +kernel
theorem dX2_readPage_48 : decode cX2_readPage 48 = .ok (.aload_n 0, 1) := by decide +kernel
theorem dX2_readPage_49 : decode cX2_readPage 49 = .ok (.getfield 47, 3) := by decide +kernel
theorem dX2_readPage_52 : decode cX2_readPage 52 = .ok (.ifCond .ne 12, 3) := by decide +kernel
theorem dX2_readPage_55 : decode cX2_readPage 55 = .ok (.aload_n 0, 1) := by decide +kernel
theorem dX2_readPage_56 : decode cX2_readPage 56 = .ok (.getfield 12, 3) := by decide +kernel
theorem dX2_readPage_59 : decode cX2_readPage 59 = .ok (.iload_n 2, 1) := by decide +kernel
theorem dX2_readPage_60 : decode cX2_readPage 60 = .ok (.iload_n 3, 1) := by decide +kernel
theorem dX2_readPage_61 : decode cX2_readPage 61 = .ok (.invokevirtual 96, 3) := by decide +kernel
theorem dX2_readPage_64 : decode cX2_readPage 64 = .ok (.return_, 1) := by decide +kernel
theorem dX2_readStatement_0 : decode cX2_readStatement 0 = .ok (.aload_n 0, 1) := by decide +kernel
theorem dX2_readStatement_1 : decode cX2_readStatement 1 = .ok (.getfield 44, 3) := by decide +kernel
theorem dX2_readStatement_4 : decode cX2_readStatement 4 = .ok (.istore_n 1, 1) := by decide +kernel
theorem dX2_readStatement_5 : decode cX2_readStatement 5 = .ok (.aload_n 0, 1) := by decide +kernel
theorem dX2_readStatement_6 : decode cX2_readStatement 6 = .ok (.invokevirtual 76, 3) := by decide +kernel
theorem dX2_readStatement_9 : decode cX2_readStatement 9 = .ok (.aload_n 0, 1) := by decide +kernel
theorem dX2_readStatement_10 : decode cX2_readStatement 10 = .ok (.iload_n 1, 1) := by decide +kernel
theorem dX2_readStatement_11 : decode cX2_readStatement 11 = .ok (.ldc 99, 2) := by decide +kernel
theorem dX2_readStatement_13 : decode cX2_readStatement 13 = .ok (.invokevirtual 81, 3) := by decide +kernel
theorem dX2_readStatement_16 : decode cX2_readStatement 16 = .ok (.ifCond .eq 23, 3) := by decide +kernel
theorem dX2_readStatement_19 : decode cX2_readStatement 19 = .ok (.aload_n 0, 1) := by decide +kernel
theorem dX2_readStatement_20 : decode cX2_readStatement 20 = .ok (.getfield 50, 3) := by decide +kernel
theorem dX2_readStatement_23 : decode cX2_readStatement 23 = .ok (.ifCond .ne 16, 3) := by decide +kernel
theorem dX2_readStatement_26 : decode cX2_readStatement 26 = .ok (.aload_n 0, 1) := by decide +kernel
theorem dX2_readStatement_27 : decode cX2_readStatement 27 = .ok (.iconst 1, 1) := by decide +kernel
theorem dX2_readStatement_28 : decode cX2_readStatement 28 = .ok (.putfield 50, 3) := by decide +kernel
theorem dX2_readStatement_31 : decode cX2_readStatement 31 = .ok (.aload_n 0, 1) := by decide +kernel
theorem dX2_readStatement_32 : decode cX2_readStatement 32 = .ok (.iconst 0, 1) := by decide +kernel
theorem dX2_readStatement_33 : decode cX2_readStatement 33 = .ok (.invokevirtual 101, 3) := by decide +kernel
theorem dX2_readStatement_36 : decode cX2_readStatement 36 = .ok (.goto 107, 3) := by decide +kernel
theorem dX2_readStatement_39 : decode cX2_readStatement 39 = .ok (.aload_n 0, 1) := by decide +kernel
theorem dX2_readStatement_40 : decode cX2_readStatement 40 = .ok (.iload_n 1, 1) := by decide +kernel
theorem dX2_readStatement_41 : decode cX2_readStatement 41 = .ok (.ldc 105, 2) := by decide +kernel
theorem dX2_readStatement_43 : decode cX2_readStatement 43 = .ok (.invokevirtual 81, 3) := by decide +kernel
theorem dX2_readStatement_46 : decode cX2_readStatement 46 = .ok (.ifCond .eq 23, 3) := by decide +kernel
theorem dX2_readStatement_49 : decode cX2_readStatement 49 = .ok (.aload_n 0, 1) := by decide +kernel
theorem dX2_readStatement_50 : decode cX2_readStatement 50 = .ok (.getfield 54, 3) := by decide +kernel
theorem dX2_readStatement_53 : decode cX2_readStatement 53 = .ok (.ifCond .ne 16, 3) := by decide +kernel
theorem dX2_readStatement_56 : decode cX2_readStatement 56 = .ok (.aload_n 0, 1) := by decide +kernel
theorem dX2_readStatement_57 : decode cX2_readStatement 57 = .ok (.iconst 1, 1) := by decide +kernel
theorem dX2_readStatement_58 : decode cX2_readStatement 58 = .ok (.putfield 54, 3) := by decide +kernel
theorem dX2_readStatement_61 : decode cX2_readStatement 61 = .ok (.aload_n 0, 1) := by decide +kernel
theorem dX2_readStatement_62 : decode cX2_readStatement 62 = .ok (.iconst 1, 1) := by decide +kernel
theorem dX2_readStatement_63 : decode cX2_readStatement 63 = .ok (.invokevirtual 101, 3) := by decide +kernel
theorem dX2_readStatement_66 : decode cX2_readStatement 66 = .ok (.goto 77, 3) := by decide +kernel
theorem dX2_readStatement_69 : decode cX2_readStatement 69 = .ok (.aload_n 0, 1) := by decide +kernel
theorem dX2_readStatement_70 : decode cX2_readStatement 70 = .ok (.iload_n 1, 1) := by decide +kernel
theorem dX2_readStatement_71 : decode cX2_readStatement 71 = .ok (.ldc 107, 2) := by decide +kernel
theorem dX2_readStatement_73 : decode cX2_readStatement 73 = .ok (.invokevirtual 81, 3) := by decide +kernel
theorem dX2_readStatement_76 : decode cX2_readStatement 76 = .ok (.ifCond .eq 22, 3) := by decide +kernel
theorem dX2_readStatement_79 : decode cX2_readStatement 79 = .ok (.aload_n 0, 1) := by decide +kernel
theorem dX2_readStatement_80 : decode cX2_readStatement 80 = .ok (.getfield 57, 3) := by decide +kernel
theorem dX2_readStatement_83 : decode cX2_readStatement 83 = .ok (.ifCond .ne 15, 3) := by decide +kernel
theorem dX2_readStatement_86 : decode cX2_readStatement 86 = .ok (.aload_n 0, 1) := by decide +kernel
theorem dX2_readStatement_87 : decode cX2_readStatement 87 = .ok (.iconst 1, 1) := by decide +kernel
theorem dX2_readStatement_88 : decode cX2_readStatement 88 = .ok (.putfield 57, 3) := by decide +kernel
theorem dX2_readStatement_91 : decode cX2_readStatement 91 = .ok (.aload_n 0, 1) := by decide +kernel
theorem dX2_readStatement_92 : decode cX2_readStatement 92 = .ok (.invokevirtual 109, 3) := by decide +kernel
theorem dX2_readStatement_95 : decode cX2_readStatement 95 = .ok (.goto 48, 3) := by decide +kernel
theorem dX2_readStatement_98 : decode cX2_readStatement 98 = .ok (.aload_n 0, 1) := by decide +kernel
theorem dX2_readStatement_99 : decode cX2_readStatement 99 = .ok (.iload_n 1, 1) := by decide +kernel
theorem dX2_readStatement_100 : decode cX2_readStatement 100 = .ok (.ldc 112, 2) := by decide +kernel
theorem dX2_readStatement_102 : decode cX2_readStatement 102 = .ok (.invokevirtual 81, 3) := by decide +kernel
theorem dX2_readStatement_105 : decode cX2_readStatement 105 = .ok (.ifCond .eq 31, 3) := by decide +kernel
theorem dX2_readStatement_108 : decode cX2_readStatement 108 = .ok (.aload_n 0, 1) := by decide +kernel
theorem dX2_readStatement_109 : decode cX2_readStatement 109 = .ok (.getfield 60, 3) := by decide +kernel
theorem dX2_readStatement_112 : decode cX2_readStatement 112 = .ok (.ifCond .ne 24, 3) := by decide +kernel
theorem dX2_readStatement_115 : decode cX2_readStatement 115 = .ok (.aload_n 0, 1) := by decide +kernel
theorem dX2_readStatement_116 : decode cX2_readStatement 116 = .ok (.iconst 1, 1) := by decide +kernel
theorem dX2_readStatement_117 : decode cX2_readStatement 117 = .ok (.putfield 60, 3) := by decide +kernel
theorem dX2_readStatement_120 : decode cX2_readStatement 120 = .ok (.aload_n 0, 1) := by decide +kernel
theorem dX2_readStatement_121 : decode cX2_readStatement 121 = .ok (.getfield 12, 3) := by decide +kernel
theorem dX2_readStatement_124 : decode cX2_readStatement 124 = .ok (.aload_n 0, 1) := by decide +kernel
theorem dX2_readStatement_125 : decode cX2_readStatement 125 = .ok (.bipush 9, 2) := by decide +kernel
theorem dX2_readStatement_127 : decode cX2_readStatement 127 = .ok (.invokevirtual 89, 3) := by decide +kernel
theorem dX2_readStatement_130 : decode cX2_readStatement 130 = .ok (.putfield 114, 3) := by decide +kernel
theorem dX2_readStatement_133 : decode cX2_readStatement 133 = .ok (.goto 10, 3) := by decide +kernel
theorem dX2_readStatement_136 : decode cX2_readStatement 136 = .ok (.aload_n 0, 1) := by decide +kernel
theorem dX2_readStatement_137 : decode cX2_readStatement 137 = .ok (.bipush (-2), 2) := by decide +kernel
theorem dX2_readStatement_139 : decode cX2_readStatement 139 = .ok (.iload_n 1, 1) := by decide +kernel
theorem dX2_readStatement_140 : decode cX2_readStatement 140 = .ok (.invokevirtual 85, 3) := by decide +kernel
theorem dX2_readStatement_143 : decode cX2_readStatement 143 = .ok (.aload_n 0, 1) := by decide +kernel
theorem dX2_readStatement_144 : decode cX2_readStatement 144 = .ok (.invokevirtual 93, 3) := by decide +kernel
theorem dX2_readStatement_147 : decode cX2_readStatement 147 = .ok (.return_, 1) := by decide +kernel
theorem dX2_readLines_0 : decode cX2_readLines 0 = .ok (.iconst 0, 1) := by decide +kernel
theorem dX2_readLines_1 : decode cX2_readLines 1 = .ok (.istore_n 2, 1) := by decide +kernel
theorem dX2_readLines_2 : decode cX2_readLines 2 = .ok (.iload_n 2, 1) := by decide +kernel
theorem dX2_readLines_3 : decode cX2_readLines 3 = .ok (.aload_n 0, 1) := by decide +kernel
theorem dX2_readLines_4 : decode cX2_readLines 4 = .ok (.getfield 12, 3) := by decide +kernel
theorem dX2_readLines_7 : decode cX2_readLines 7 = .ok (.getfield 117, 3) := by decide +kernel
theorem dX2_readLines_10 : decode cX2_readLines 10 = .ok (.if_icmp .ge 22, 3) := by decide +kernel
theorem dX2_readLines_13 : decode cX2_readLines 13 = .ok (.aload_n 0, 1) := by decide +kernel
theorem dX2_readLines_14 : decode cX2_readLines 14 = .ok (.iload_n 1, 1) := by decide +kernel
theorem dX2_readLines_15 : decode cX2_readLines 15 = .ok (.bipush 48, 2) := by decide +kernel
theorem dX2_readLines_17 : decode cX2_readLines 17 = .ok (.imul, 1) := by decide +kernel
theorem dX2_readLines_18 : decode cX2_readLines 18 = .ok (.iload_n 2, 1) := by decide +kernel
theorem dX2_readLines_19 : decode cX2_readLines 19 = .ok (.bipush 8, 2) := by decide +kernel
theorem dX2_readLines_21 : decode cX2_readLines 21 = .ok (.imul, 1) := by decide +kernel
theorem dX2_readLines_22 : decode cX2_readLines 22 = .ok (.iadd, 1) := by decide +kernel
theorem dX2_readLines_23 : decode cX2_readLines 23 = .ok (.invokevirtual 120, 3) := by decide +kernel
theorem dX2_readLines_26 : decode cX2_readLines 26 = .ok (.iinc 2 1, 3) := by decide +kernel
theorem dX2_readLines_29 : decode cX2_readLines 29 = .ok (.goto (-27), 3) := by decide +kernel
theorem dX2_readLines_32 : decode cX2_readLines 32 = .ok (.return_, 1) := by decide +kernel
theorem dX2_readLine_0 : decode cX2_readLine 0 = .ok (.aload_n 0, 1) := by decide +kernel
theorem dX2_readLine_1 : decode cX2_readLine 1 = .ok (.invokevirtual 73, 3) := by decide +kernel
theorem dX2_readLine_4 : decode cX2_readLine 4 = .ok (.aload_n 0, 1) := by decide +kernel
theorem dX2_readLine_5 : decode cX2_readLine 5 = .ok (.getfield 44, 3) := by decide +kernel
theorem dX2_readLine_8 : decode cX2_readLine 8 = .ok (.istore_n 2, 1) := by decide +kernel
theorem dX2_readLine_9 : decode cX2_readLine 9 = .ok (.aload_n 0, 1) := by decide +kernel
theorem dX2_readLine_10 : decode cX2_readLine 10 = .ok (.getfield 44, 3) := by decide +kernel
theorem dX2_readLine_13 : decode cX2_readLine 13 = .ok (.aload_n 0, 1) := by decide +kernel
theorem dX2_readLine_14 : decode cX2_readLine 14 = .ok (.getfield 35, 3) := by decide +kernel
theorem dX2_readLine_17 : decode cX2_readLine 17 = .ok (.if_icmp .ge 45, 3) := by decide +kernel
theorem dX2_readLine_20 : decode cX2_readLine 20 = .ok (.aload_n 0, 1) := by decide +kernel
theorem dX2_readLine_21 : decode cX2_readLine 21 = .ok (.getfield 18, 3) := by decide +kernel
theorem dX2_readLine_24 : decode cX2_readLine 24 = .ok (.aload_n 0, 1) := by decide +kernel
theorem dX2_readLine_25 : decode cX2_readLine 25 = .ok (.getfield 44, 3) := by decide +kernel
theorem dX2_readLine_28 : decode cX2_readLine 28 = .ok (.baload, 1) := by decide +kernel
theorem dX2_readLine_29 : decode cX2_readLine 29 = .ok (.invokestatic 123, 3) := by decide +kernel
theorem dX2_readLine_32 : decode cX2_readLine 32 = .ok (.ifCond .ne 17, 3) := by decide +kernel
theorem dX2_readLine_35 : decode cX2_readLine 35 = .ok (.aload_n 0, 1) := by decide +kernel
theorem dX2_readLine_36 : decode cX2_readLine 36 = .ok (.getfield 18, 3) := by decide +kernel
theorem dX2_readLine_39 : decode cX2_readLine 39 = .ok (.aload_n 0, 1) := by decide +kernel
theorem dX2_readLine_40 : decode cX2_readLine 40 = .ok (.getfield 44, 3) := by decide +kernel
theorem dX2_readLine_43 : decode cX2_readLine 43 = .ok (.baload, 1) := by decide +kernel
theorem dX2_readLine_44 : decode cX2_readLine 44 = .ok (.bipush 45, 2) := by decide +kernel
theorem dX2_readLine_46 : decode cX2_readLine 46 = .ok (.if_icmp .ne 16, 3) := by decide +kernel
theorem dX2_readLine_49 : decode cX2_readLine 49 = .ok (.aload_n 0, 1) := by decide +kernel
theorem dX2_readLine_50 : decode cX2_readLine 50 = .ok (.dup, 1) := by decide +kernel
theorem dX2_readLine_51 : decode cX2_readLine 51 = .ok (.getfield 44, 3) := by decide +kernel
theorem dX2_readLine_54 : decode cX2_readLine 54 = .ok (.iconst 1, 1) := by decide +kernel
theorem dX2_readLine_55 : decode cX2_readLine 55 = .ok (.iadd, 1) := by decide +kernel
theorem dX2_readLine_56 : decode cX2_readLine 56 = .ok (.putfield 44, 3) := by decide +kernel
theorem dX2_readLine_59 : decode cX2_readLine 59 = .ok (.goto (-50), 3) := by decide +kernel
theorem dX2_readLine_62 : decode cX2_readLine 62 = .ok (.aload_n 0, 1) := by decide +kernel
theorem dX2_readLine_63 : decode cX2_readLine 63 = .ok (.getfield 44, 3) := by decide +kernel
theorem dX2_readLine_66 : decode cX2_readLine 66 = .ok (.iload_n 2, 1) := by decide +kernel
theorem dX2_readLine_67 : decode cX2_readLine 67 = .ok (.if_icmp .ne 13, 3) := by decide +kernel
theorem dX2_readLine_70 : decode cX2_readLine 70 = .ok (.aload_n 0, 1) := by decide +kernel
theorem dX2_readLine_71 : decode cX2_readLine 71 = .ok (.bipush (-2), 2) := by decide +kernel
theorem dX2_readLine_73 : decode cX2_readLine 73 = .ok (.iload_n 2, 1) := by decide +kernel
theorem dX2_readLine_74 : decode cX2_readLine 74 = .ok (.invokevirtual 85, 3) := by decide +kernel
theorem dX2_readLine_77 : decode cX2_readLine 77 = .ok (.goto 26, 3) := by decide +kernel
theorem dX2_readLine_80 : decode cX2_readLine 80 = .ok (.aload_n 0, 1) := by decide +kernel
theorem dX2_readLine_81 : decode cX2_readLine 81 = .ok (.getfield 44, 3) := by decide +kernel
theorem dX2_readLine_84 : decode cX2_readLine 84 = .ok (.iload_n 2, 1) := by decide +kernel
theorem dX2_readLine_85 : decode cX2_readLine 85 = .ok (.isub, 1) := by decide +kernel
theorem dX2_readLine_86 : decode cX2_readLine 86 = .ok (.aload_n 0, 1) := by decide +kernel
theorem dX2_readLine_87 : decode cX2_readLine 87 = .ok (.getfield 12, 3) := by decide +kernel
theorem dX2_readLine_90 : decode cX2_readLine 90 = .ok (.getfield 127, 3) := by decide +kernel
theorem dX2_readLine_93 : decode cX2_readLine 93 = .ok (.if_icmp .eq 10, 3) := by decide +kernel
theorem dX2_readLine_96 : decode cX2_readLine 96 = .ok (.aload_n 0, 1) := by decide +kernel
theorem dX2_readLine_97 : decode cX2_readLine 97 = .ok (.bipush (-4), 2) := by decide +kernel
theorem dX2_readLine_99 : decode cX2_readLine 99 = .ok (.iload_n 2, 1) := by decide +kernel
theorem dX2_readLine_100 : decode cX2_readLine 100 = .ok (.invokevirtual 85, 3) := by decide +kernel
theorem dX2_readLine_103 : decode cX2_readLine 103 = .ok (.aload_n 0, 1) := by decide +kernel
theorem dX2_readLine_104 : decode cX2_readLine 104 = .ok (.getfield 47, 3) := by decide +kernel
theorem dX2_readLine_107 : decode cX2_readLine 107 = .ok (.ifCond .eq 4, 3) := by decide +kernel
theorem dX2_readLine_110 : decode cX2_readLine 110 = .ok (.return_, 1) := by decide +kernel
theorem dX2_readLine_111 : decode cX2_readLine 111 = .ok (.iconst 0, 1) := by decide +kernel
theorem dX2_readLine_112 : decode cX2_readLine 112 = .ok (.istore_n 3, 1) := by decide +kernel
theorem dX2_readLine_113 : decode cX2_readLine 113 = .ok (.iload_n 3, 1) := by decide +kernel
theorem dX2_readLine_114 : decode cX2_readLine 114 = .ok (.aload_n 0, 1) := by decide +kernel
theorem dX2_readLine_115 : decode cX2_readLine 115 = .ok (.getfield 12, 3) := by decide +kernel
theorem dX2_readLine_118 : decode cX2_readLine 118 = .ok (.getfield 127, 3) := by decide +kernel
theorem dX2_readLine_121 : decode cX2_readLine 121 = .ok (.if_icmp .ge 67, 3) := by decide +kernel
theorem dX2_readLine_124 : decode cX2_readLine 124 = .ok (.iload_n 1, 1) := by decide +kernel
theorem dX2_readLine_125 : decode cX2_readLine 125 = .ok (.iload_n 3, 1) := by decide +kernel
theorem dX2_readLine_126 : decode cX2_readLine 126 = .ok (.iadd, 1) := by decide +kernel
theorem dX2_readLine_127 : decode cX2_readLine 127 = .ok (.bipush 96, 2) := by decide +kernel
theorem dX2_readLine_129 : decode cX2_readLine 129 = .ok (.if_icmp .ge 53, 3) := by decide +kernel
theorem dX2_readLine_132 : decode cX2_readLine 132 = .ok (.iload_n 2, 1) := by decide +kernel
theorem dX2_readLine_133 : decode cX2_readLine 133 = .ok (.iload_n 3, 1) := by decide +kernel
theorem dX2_readLine_134 : decode cX2_readLine 134 = .ok (.iadd, 1) := by decide +kernel
theorem dX2_readLine_135 : decode cX2_readLine 135 = .ok (.aload_n 0, 1) := by decide +kernel
theorem dX2_readLine_136 : decode cX2_readLine 136 = .ok (.getfield 35, 3) := by decide +kernel
theorem dX2_readLine_139 : decode cX2_readLine 139 = .ok (.if_icmp .ge 43, 3) := by decide +kernel
theorem dX2_readLine_142 : decode cX2_readLine 142 = .ok (.aload_n 0, 1) := by decide +kernel
theorem dX2_readLine_143 : decode cX2_readLine 143 = .ok (.getfield 12, 3) := by decide +kernel
theorem dX2_readLine_146 : decode cX2_readLine 146 = .ok (.getfield 130, 3) := by decide +kernel
theorem dX2_readLine_149 : decode cX2_readLine 149 = .ok (.iload_n 1, 1) := by decide +kernel
theorem dX2_readLine_150 : decode cX2_readLine 150 = .ok (.iload_n 3, 1) := by decide +kernel
theorem dX2_readLine_151 : decode cX2_readLine 151 = .ok (.iadd, 1) := by decide +kernel
theorem dX2_readLine_152 : decode cX2_readLine 152 = .ok (.aload_n 0, 1) := by decide +kernel
theorem dX2_readLine_153 : decode cX2_readLine 153 = .ok (.getfield 18, 3) := by decide +kernel
theorem dX2_readLine_156 : decode cX2_readLine 156 = .ok (.iload_n 2, 1) := by decide +kernel
theorem dX2_readLine_157 : decode cX2_readLine 157 = .ok (.iload_n 3, 1) := by decide +kernel
theorem dX2_readLine_158 : decode cX2_readLine 158 = .ok (.iadd, 1) := by decide +kernel
theorem dX2_readLine_159 : decode cX2_readLine 159 = .ok (.baload, 1) := by decide +kernel
theorem dX2_readLine_160 : decode cX2_readLine 160 = .ok (.invokestatic 123, 3) := by decide +kernel
theorem dX2_readLine_163 : decode cX2_readLine 163 = .ok (.ifCond .eq 17, 3) := by decide +kernel
theorem dX2_readLine_166 : decode cX2_readLine 166 = .ok (.aload_n 0, 1) := by decide +kernel
theorem dX2_readLine_167 : decode cX2_readLine 167 = .ok (.getfield 18, 3) := by decide +kernel
theorem dX2_readLine_170 : decode cX2_readLine 170 = .ok (.iload_n 2, 1) := by decide +kernel
theorem dX2_readLine_171 : decode cX2_readLine 171 = .ok (.iload_n 3, 1) := by decide +kernel
theorem dX2_readLine_172 : decode cX2_readLine 172 = .ok (.iadd, 1) := by decide +kernel
theorem dX2_readLine_173 : decode cX2_readLine 173 = .ok (.baload, 1) := by decide +kernel
theorem dX2_readLine_174 : decode cX2_readLine 174 = .ok (.bipush 97, 2) := by decide +kernel
theorem dX2_readLine_176 : decode cX2_readLine 176 = .ok (.isub, 1) := by decide +kernel
theorem dX2_readLine_177 : decode cX2_readLine 177 = .ok (.goto 4, 3) := by decide +kernel
theorem dX2_readLine_180 : decode cX2_readLine 180 = .ok (.iconst (-1), 1) := by decide +kernel
theorem dX2_readLine_181 : decode cX2_readLine 181 = .ok (.iastore, 1) := by decide +kernel
theorem dX2_readLine_182 : decode cX2_readLine 182 = .ok (.iinc 3 1, 3) := by decide +kernel
theorem dX2_readLine_185 : decode cX2_readLine 185 = .ok (.goto (-72), 3) := by decide +kernel
theorem dX2_readLine_188 : decode cX2_readLine 188 = .ok (.return_, 1) := by decide +kernel
theorem dX2_readSizes_0 : decode cX2_readSizes 0 = .ok (.iconst 0, 1) := by decide +kernel
theorem dX2_readSizes_1 : decode cX2_readSizes 1 = .ok (.istore_n 1, 1) := by decide +kernel
theorem dX2_readSizes_2 : decode cX2_readSizes 2 = .ok (.iload_n 1, 1) := by decide +kernel
theorem dX2_readSizes_3 : decode cX2_readSizes 3 = .ok (.iconst 1, 1) := by decide +kernel
theorem dX2_readSizes_4 : decode cX2_readSizes 4 = .ok (.if_icmp .gt 54, 3) := by decide +kernel
theorem dX2_readSizes_7 : decode cX2_readSizes 7 = .ok (.iconst 0, 1) := by decide +kernel
theorem dX2_readSizes_8 : decode cX2_readSizes 8 = .ok (.istore_n 2, 1) := by decide +kernel
theorem dX2_readSizes_9 : decode cX2_readSizes 9 = .ok (.iload_n 2, 1) := by decide +kernel
theorem dX2_readSizes_10 : decode cX2_readSizes 10 = .ok (.aload_n 0, 1) := by decide +kernel
theorem dX2_readSizes_11 : decode cX2_readSizes 11 = .ok (.getfield 12, 3) := by decide +kernel
theorem dX2_readSizes_14 : decode cX2_readSizes 14 = .ok (.getfield 117, 3) := by decide +kernel
theorem dX2_readSizes_17 : decode cX2_readSizes 17 = .ok (.if_icmp .ge 35, 3) := by decide +kernel
theorem dX2_readSizes_20 : decode cX2_readSizes 20 = .ok (.iload_n 2, 1) := by decide +kernel
theorem dX2_readSizes_21 : decode cX2_readSizes 21 = .ok (.bipush 6, 2) := by decide +kernel
theorem dX2_readSizes_23 : decode cX2_readSizes 23 = .ok (.if_icmp .ge 29, 3) := by decide +kernel
theorem dX2_readSizes_26 : decode cX2_readSizes 26 = .ok (.aload_n 0, 1) := by decide +kernel
theorem dX2_readSizes_27 : decode cX2_readSizes 27 = .ok (.getfield 12, 3) := by decide +kernel
theorem dX2_readSizes_30 : decode cX2_readSizes 30 = .ok (.getfield 134, 3) := by decide +kernel
theorem dX2_readSizes_33 : decode cX2_readSizes 33 = .ok (.iload_n 1, 1) := by decide +kernel
theorem dX2_readSizes_34 : decode cX2_readSizes 34 = .ok (.bipush 6, 2) := by decide +kernel
theorem dX2_readSizes_36 : decode cX2_readSizes 36 = .ok (.imul, 1) := by decide +kernel
theorem dX2_readSizes_37 : decode cX2_readSizes 37 = .ok (.iload_n 2, 1) := by decide +kernel
theorem dX2_readSizes_38 : decode cX2_readSizes 38 = .ok (.iadd, 1) := by decide +kernel
theorem dX2_readSizes_39 : decode cX2_readSizes 39 = .ok (.aload_n 0, 1) := by decide +kernel
theorem dX2_readSizes_40 : decode cX2_readSizes 40 = .ok (.bipush 9, 2) := by decide +kernel
theorem dX2_readSizes_42 : decode cX2_readSizes 42 = .ok (.invokevirtual 89, 3) := by decide +kernel
theorem dX2_readSizes_45 : decode cX2_readSizes 45 = .ok (.iastore, 1) := by decide +kernel
theorem dX2_readSizes_46 : decode cX2_readSizes 46 = .ok (.iinc 2 1, 3) := by decide +kernel
theorem dX2_readSizes_49 : decode cX2_readSizes 49 = .ok (.goto (-40), 3) := by decide +kernel
theorem dX2_readSizes_52 : decode cX2_readSizes 52 = .ok (.iinc 1 1, 3) := by decide +kernel
theorem dX2_readSizes_55 : decode cX2_readSizes 55 = .ok (.goto (-53), 3) := by decide +kernel
theorem dX2_readSizes_58 : decode cX2_readSizes 58 = .ok (.return_, 1) := by decide +kernel
theorem dX2_readNumber_0 : decode cX2_readNumber 0 = .ok (.aload_n 0, 1) := by decide +kernel
theorem dX2_readNumber_1 : decode cX2_readNumber 1 = .ok (.invokevirtual 73, 3) := by decide +kernel
theorem dX2_readNumber_4 : decode cX2_readNumber 4 = .ok (.aload_n 0, 1) := by decide +kernel
theorem dX2_readNumber_5 : decode cX2_readNumber 5 = .ok (.getfield 44, 3) := by decide +kernel
theorem dX2_readNumber_8 : decode cX2_readNumber 8 = .ok (.istore_n 2, 1) := by decide +kernel
theorem dX2_readNumber_9 : decode cX2_readNumber 9 = .ok (.iconst 0, 1) := by decide +kernel
theorem dX2_readNumber_10 : decode cX2_readNumber 10 = .ok (.istore_n 3, 1) := by decide +kernel
theorem dX2_readNumber_11 : decode cX2_readNumber 11 = .ok (.aload_n 0, 1) := by decide +kernel
theorem dX2_readNumber_12 : decode cX2_readNumber 12 = .ok (.getfield 44, 3) := by decide +kernel
theorem dX2_readNumber_15 : decode cX2_readNumber 15 = .ok (.aload_n 0, 1) := by decide +kernel
theorem dX2_readNumber_16 : decode cX2_readNumber 16 = .ok (.getfield 35, 3) := by decide +kernel
theorem dX2_readNumber_19 : decode cX2_readNumber 19 = .ok (.if_icmp .ge 68, 3) := by decide +kernel
theorem dX2_readNumber_22 : decode cX2_readNumber 22 = .ok (.aload_n 0, 1) := by decide +kernel
theorem dX2_readNumber_23 : decode cX2_readNumber 23 = .ok (.getfield 18, 3) := by decide +kernel
theorem dX2_readNumber_26 : decode cX2_readNumber 26 = .ok (.aload_n 0, 1) := by decide +kernel
theorem dX2_readNumber_27 : decode cX2_readNumber 27 = .ok (.getfield 44, 3) := by decide +kernel
theorem dX2_readNumber_30 : decode cX2_readNumber 30 = .ok (.baload, 1) := by decide +kernel
theorem dX2_readNumber_31 : decode cX2_readNumber 31 = .ok (.bipush 48, 2) := by decide +kernel
theorem dX2_readNumber_33 : decode cX2_readNumber 33 = .ok (.if_icmp .lt 54, 3) := by decide +kernel
theorem dX2_readNumber_36 : decode cX2_readNumber 36 = .ok (.aload_n 0, 1) := by decide +kernel
theorem dX2_readNumber_37 : decode cX2_readNumber 37 = .ok (.getfield 18, 3) := by decide +kernel
theorem dX2_readNumber_40 : decode cX2_readNumber 40 = .ok (.aload_n 0, 1) := by decide +kernel
theorem dX2_readNumber_41 : decode cX2_readNumber 41 = .ok (.getfield 44, 3) := by decide +kernel
theorem dX2_readNumber_44 : decode cX2_readNumber 44 = .ok (.baload, 1) := by decide +kernel
theorem dX2_readNumber_45 : decode cX2_readNumber 45 = .ok (.bipush 57, 2) := by decide +kernel
theorem dX2_readNumber_47 : decode cX2_readNumber 47 = .ok (.if_icmp .gt 40, 3) := by decide +kernel
theorem dX2_readNumber_50 : decode cX2_readNumber 50 = .ok (.sipush 1000, 3) := by decide +kernel
theorem dX2_readNumber_53 : decode cX2_readNumber 53 = .ok (.iload_n 3, 1) := by decide +kernel
theorem dX2_readNumber_54 : decode cX2_readNumber 54 = .ok (.bipush 10, 2) := by decide +kernel
theorem dX2_readNumber_56 : decode cX2_readNumber 56 = .ok (.imul, 1) := by decide +kernel
theorem dX2_readNumber_57 : decode cX2_readNumber 57 = .ok (.aload_n 0, 1) := by decide +kernel
theorem dX2_readNumber_58 : decode cX2_readNumber 58 = .ok (.getfield 18, 3) := by decide +kernel
theorem dX2_readNumber_61 : decode cX2_readNumber 61 = .ok (.aload_n 0, 1) := by decide +kernel
theorem dX2_readNumber_62 : decode cX2_readNumber 62 = .ok (.getfield 44, 3) := by decide +kernel
theorem dX2_readNumber_65 : decode cX2_readNumber 65 = .ok (.baload, 1) := by decide +kernel
theorem dX2_readNumber_66 : decode cX2_readNumber 66 = .ok (.iadd, 1) := by decide +kernel
theorem dX2_readNumber_67 : decode cX2_readNumber 67 = .ok (.bipush 48, 2) := by decide +kernel
theorem dX2_readNumber_69 : decode cX2_readNumber 69 = .ok (.isub, 1) := by decide +kernel
theorem dX2_readNumber_70 : decode cX2_readNumber 70 = .ok (.invokestatic 26, 3) := by decide +kernel
theorem dX2_readNumber_73 : decode cX2_readNumber 73 = .ok (.istore_n 3, 1) := by decide +kernel
theorem dX2_readNumber_74 : decode cX2_readNumber 74 = .ok (.aload_n 0, 1) := by decide +kernel
theorem dX2_readNumber_75 : decode cX2_readNumber 75 = .ok (.dup, 1) := by decide +kernel
theorem dX2_readNumber_76 : decode cX2_readNumber 76 = .ok (.getfield 44, 3) := by decide +kernel
theorem dX2_readNumber_79 : decode cX2_readNumber 79 = .ok (.iconst 1, 1) := by decide +kernel
theorem dX2_readNumber_80 : decode cX2_readNumber 80 = .ok (.iadd, 1) := by decide +kernel
theorem dX2_readNumber_81 : decode cX2_readNumber 81 = .ok (.putfield 44, 3) := by decide +kernel
theorem dX2_readNumber_84 : decode cX2_readNumber 84 = .ok (.goto (-73), 3) := by decide +kernel
theorem dX2_readNumber_87 : decode cX2_readNumber 87 = .ok (.aload_n 0, 1) := by decide +kernel
theorem dX2_readNumber_88 : decode cX2_readNumber 88 = .ok (.getfield 44, 3) := by decide +kernel
theorem dX2_readNumber_91 : decode cX2_readNumber 91 = .ok (.iload_n 2, 1) := by decide +kernel
theorem dX2_readNumber_92 : decode cX2_readNumber 92 = .ok (.if_icmp .ne 13, 3) := by decide +kernel
theorem dX2_readNumber_95 : decode cX2_readNumber 95 = .ok (.aload_n 0, 1) := by decide +kernel
theorem dX2_readNumber_96 : decode cX2_readNumber 96 = .ok (.bipush (-2), 2) := by decide +kernel
theorem dX2_readNumber_98 : decode cX2_readNumber 98 = .ok (.iload_n 2, 1) := by decide +kernel
theorem dX2_readNumber_99 : decode cX2_readNumber 99 = .ok (.invokevirtual 85, 3) := by decide +kernel
theorem dX2_readNumber_102 : decode cX2_readNumber 102 = .ok (.goto 20, 3) := by decide +kernel
theorem dX2_readNumber_105 : decode cX2_readNumber 105 = .ok (.iload_n 3, 1) := by decide +kernel
theorem dX2_readNumber_106 : decode cX2_readNumber 106 = .ok (.iconst 1, 1) := by decide +kernel
theorem dX2_readNumber_107 : decode cX2_readNumber 107 = .ok (.if_icmp .lt 8, 3) := by decide +kernel
theorem dX2_readNumber_110 : decode cX2_readNumber 110 = .ok (.iload_n 3, 1) := by decide +kernel
theorem dX2_readNumber_111 : decode cX2_readNumber 111 = .ok (.iload_n 1, 1) := by decide +kernel
theorem dX2_readNumber_112 : decode cX2_readNumber 112 = .ok (.if_icmp .le 10, 3) := by decide +kernel
theorem dX2_readNumber_115 : decode cX2_readNumber 115 = .ok (.aload_n 0, 1) := by decide +kernel
theorem dX2_readNumber_116 : decode cX2_readNumber 116 = .ok (.bipush (-3), 2) := by decide +kernel
theorem dX2_readNumber_118 : decode cX2_readNumber 118 = .ok (.iload_n 2, 1) := by decide +kernel
theorem dX2_readNumber_119 : decode cX2_readNumber 119 = .ok (.invokevirtual 85, 3) := by decide +kernel
theorem dX2_readNumber_122 : decode cX2_readNumber 122 = .ok (.iload_n 3, 1) := by decide +kernel
theorem dX2_readNumber_123 : decode cX2_readNumber 123 = .ok (.ireturn, 1) := by decide +kernel
theorem dX2_readSemicolon_0 : decode cX2_readSemicolon 0 = .ok (.aload_n 0, 1) := by decide +kernel
theorem dX2_readSemicolon_1 : decode cX2_readSemicolon 1 = .ok (.invokevirtual 73, 3) := by decide +kernel
theorem dX2_readSemicolon_4 : decode cX2_readSemicolon 4 = .ok (.aload_n 0, 1) := by decide +kernel
theorem dX2_readSemicolon_5 : decode cX2_readSemicolon 5 = .ok (.getfield 44, 3) := by decide +kernel
theorem dX2_readSemicolon_8 : decode cX2_readSemicolon 8 = .ok (.aload_n 0, 1) := by decide +kernel
theorem dX2_readSemicolon_9 : decode cX2_readSemicolon 9 = .ok (.getfield 35, 3) := by decide +kernel
theorem dX2_readSemicolon_12 : decode cX2_readSemicolon 12 = .ok (.if_icmp .ge 30, 3) := by decide +kernel
theorem dX2_readSemicolon_15 : decode cX2_readSemicolon 15 = .ok (.aload_n 0, 1) := by decide +kernel
theorem dX2_readSemicolon_16 : decode cX2_readSemicolon 16 = .ok (.getfield 18, 3) := by decide +kernel
theorem dX2_readSemicolon_19 : decode cX2_readSemicolon 19 = .ok (.aload_n 0, 1) := by decide +kernel
theorem dX2_readSemicolon_20 : decode cX2_readSemicolon 20 = .ok (.getfield 44, 3) := by decide +kernel
theorem dX2_readSemicolon_23 : decode cX2_readSemicolon 23 = .ok (.baload, 1) := by decide +kernel
theorem dX2_readSemicolon_24 : decode cX2_readSemicolon 24 = .ok (.bipush 59, 2) := by decide +kernel
theorem dX2_readSemicolon_26 : decode cX2_readSemicolon 26 = .ok (.if_icmp .ne 16, 3) := by decide +kernel
theorem dX2_readSemicolon_29 : decode cX2_readSemicolon 29 = .ok (.aload_n 0, 1) := by decide +kernel
theorem dX2_readSemicolon_30 : decode cX2_readSemicolon 30 = .ok (.dup, 1) := by decide +kernel
theorem dX2_readSemicolon_31 : decode cX2_readSemicolon 31 = .ok (.getfield 44, 3) := by decide +kernel
theorem dX2_readSemicolon_34 : decode cX2_readSemicolon 34 = .ok (.iconst 1, 1) := by decide +kernel
theorem dX2_readSemicolon_35 : decode cX2_readSemicolon 35 = .ok (.iadd, 1) := by decide +kernel
theorem dX2_readSemicolon_36 : decode cX2_readSemicolon 36 = .ok (.putfield 44, 3) := by decide +kernel
theorem dX2_readSemicolon_39 : decode cX2_readSemicolon 39 = .ok (.goto 13, 3) := by decide +kernel
theorem dX2_readSemicolon_42 : decode cX2_readSemicolon 42 = .ok (.aload_n 0, 1) := by decide +kernel
theorem dX2_readSemicolon_43 : decode cX2_readSemicolon 43 = .ok (.bipush (-2), 2) := by decide +kernel
theorem dX2_readSemicolon_45 : decode cX2_readSemicolon 45 = .ok (.aload_n 0, 1) := by decide +kernel
theorem dX2_readSemicolon_46 : decode cX2_readSemicolon 46 = .ok (.getfield 44, 3) := by decide +kernel
theorem dX2_readSemicolon_49 : decode cX2_readSemicolon 49 = .ok (.invokevirtual 85, 3) := by decide +kernel
theorem dX2_readSemicolon_52 : decode cX2_readSemicolon 52 = .ok (.return_, 1) := by decide +kernel
theorem dX2_skipSpaces_0 : decode cX2_skipSpaces 0 = .ok (.aload_n 0, 1) := by decide +kernel
theorem dX2_skipSpaces_1 : decode cX2_skipSpaces 1 = .ok (.getfield 44, 3) := by decide +kernel
theorem dX2_skipSpaces_4 : decode cX2_skipSpaces 4 = .ok (.aload_n 0, 1) := by decide +kernel
theorem dX2_skipSpaces_5 : decode cX2_skipSpaces 5 = .ok (.getfield 35, 3) := by decide +kernel
theorem dX2_skipSpaces_8 : decode cX2_skipSpaces 8 = .ok (.if_icmp .ge 30, 3) := by decide +kernel
theorem dX2_skipSpaces_11 : decode cX2_skipSpaces 11 = .ok (.aload_n 0, 1) := by decide +kernel
theorem dX2_skipSpaces_12 : decode cX2_skipSpaces 12 = .ok (.getfield 18, 3) := by decide +kernel
theorem dX2_skipSpaces_15 : decode cX2_skipSpaces 15 = .ok (.aload_n 0, 1) := by decide +kernel
theorem dX2_skipSpaces_16 : decode cX2_skipSpaces 16 = .ok (.getfield 44, 3) := by decide +kernel
theorem dX2_skipSpaces_19 : decode cX2_skipSpaces 19 = .ok (.baload, 1) := by decide +kernel
theorem dX2_skipSpaces_20 : decode cX2_skipSpaces 20 = .ok (.bipush 32, 2) := by decide +kernel
theorem dX2_skipSpaces_22 : decode cX2_skipSpaces 22 = .ok (.if_icmp .ne 16, 3) := by decide +kernel
theorem dX2_skipSpaces_25 : decode cX2_skipSpaces 25 = .ok (.aload_n 0, 1) := by decide +kernel
theorem dX2_skipSpaces_26 : decode cX2_skipSpaces 26 = .ok (.dup, 1) := by decide +kernel
theorem dX2_skipSpaces_27 : decode cX2_skipSpaces 27 = .ok (.getfield 44, 3) := by decide +kernel
theorem dX2_skipSpaces_30 : decode cX2_skipSpaces 30 = .ok (.iconst 1, 1) := by decide +kernel
theorem dX2_skipSpaces_31 : decode cX2_skipSpaces 31 = .ok (.iadd, 1) := by decide +kernel
theorem dX2_skipSpaces_32 : decode cX2_skipSpaces 32 = .ok (.putfield 44, 3) := by decide +kernel
theorem dX2_skipSpaces_35 : decode cX2_skipSpaces 35 = .ok (.goto (-35), 3) := by decide +kernel
theorem dX2_skipSpaces_38 : decode cX2_skipSpaces 38 = .ok (.return_, 1) := by decide +kernel
theorem dX2_hasMore_0 : decode cX2_hasMore 0 = .ok (.aload_n 0, 1) := by decide +kernel
theorem dX2_hasMore_1 : decode cX2_hasMore 1 = .ok (.invokevirtual 73, 3) := by decide +kernel
theorem dX2_hasMore_4 : decode cX2_hasMore 4 = .ok (.aload_n 0, 1) := by decide +kernel
theorem dX2_hasMore_5 : decode cX2_hasMore 5 = .ok (.getfield 44, 3) := by decide +kernel
theorem dX2_hasMore_8 : decode cX2_hasMore 8 = .ok (.aload_n 0, 1) := by decide +kernel
theorem dX2_hasMore_9 : decode cX2_hasMore 9 = .ok (.getfield 35, 3) := by decide +kernel
theorem dX2_hasMore_12 : decode cX2_hasMore 12 = .ok (.if_icmp .ge 7, 3) := by decide +kernel
theorem dX2_hasMore_15 : decode cX2_hasMore 15 = .ok (.iconst 1, 1) := by decide +kernel
theorem dX2_hasMore_16 : decode cX2_hasMore 16 = .ok (.goto 4, 3) := by decide +kernel
theorem dX2_hasMore_19 : decode cX2_hasMore 19 = .ok (.iconst 0, 1) := by decide +kernel
theorem dX2_hasMore_20 : decode cX2_hasMore 20 = .ok (.ireturn, 1) := by decide +kernel
theorem dX2_skipWord_0 : decode cX2_skipWord 0 = .ok (.aload_n 0, 1) := by decide +kernel
theorem dX2_skipWord_1 : decode cX2_skipWord 1 = .ok (.getfield 44, 3) := by decide +kernel
theorem dX2_skipWord_4 : decode cX2_skipWord 4 = .ok (.aload_n 0, 1) := by decide +kernel
theorem dX2_skipWord_5 : decode cX2_skipWord 5 = .ok (.getfield 35, 3) := by decide +kernel
theorem dX2_skipWord_8 : decode cX2_skipWord 8 = .ok (.if_icmp .ge 31, 3) := by decide +kernel
theorem dX2_skipWord_11 : decode cX2_skipWord 11 = .ok (.aload_n 0, 1) := by decide +kernel
theorem dX2_skipWord_12 : decode cX2_skipWord 12 = .ok (.getfield 18, 3) := by decide +kernel
theorem dX2_skipWord_15 : decode cX2_skipWord 15 = .ok (.aload_n 0, 1) := by decide +kernel
theorem dX2_skipWord_16 : decode cX2_skipWord 16 = .ok (.getfield 44, 3) := by decide +kernel
theorem dX2_skipWord_19 : decode cX2_skipWord 19 = .ok (.baload, 1) := by decide +kernel
theorem dX2_skipWord_20 : decode cX2_skipWord 20 = .ok (.invokestatic 123, 3) := by decide +kernel
theorem dX2_skipWord_23 : decode cX2_skipWord 23 = .ok (.ifCond .eq 16, 3) := by decide +kernel
theorem dX2_skipWord_26 : decode cX2_skipWord 26 = .ok (.aload_n 0, 1) := by decide +kernel
theorem dX2_skipWord_27 : decode cX2_skipWord 27 = .ok (.dup, 1) := by decide +kernel
theorem dX2_skipWord_28 : decode cX2_skipWord 28 = .ok (.getfield 44, 3) := by decide +kernel
theorem dX2_skipWord_31 : decode cX2_skipWord 31 = .ok (.iconst 1, 1) := by decide +kernel
theorem dX2_skipWord_32 : decode cX2_skipWord 32 = .ok (.iadd, 1) := by decide +kernel
theorem dX2_skipWord_33 : decode cX2_skipWord 33 = .ok (.putfield 44, 3) := by decide +kernel
theorem dX2_skipWord_36 : decode cX2_skipWord 36 = .ok (.goto (-36), 3) := by decide +kernel
theorem dX2_skipWord_39 : decode cX2_skipWord 39 = .ok (.return_, 1) := by decide +kernel
theorem dX2_isWord_0 : decode cX2_isWord 0 = .ok (.iload_n 1, 1) := by decide +kernel
theorem dX2_isWord_1 : decode cX2_isWord 1 = .ok (.ifCond .lt 16, 3) := by decide +kernel
theorem dX2_isWord_4 : decode cX2_isWord 4 = .ok (.aload_n 0, 1) := by decide +kernel
theorem dX2_isWord_5 : decode cX2_isWord 5 = .ok (.getfield 44, 3) := by decide +kernel
theorem dX2_isWord_8 : decode cX2_isWord 8 = .ok (.iload_n 1, 1) := by decide +kernel
theorem dX2_isWord_9 : decode cX2_isWord 9 = .ok (.isub, 1) := by decide +kernel
theorem dX2_isWord_10 : decode cX2_isWord 10 = .ok (.aload_n 2, 1) := by decide +kernel
theorem dX2_isWord_11 : decode cX2_isWord 11 = .ok (.invokevirtual 136, 3) := by decide +kernel
theorem dX2_isWord_14 : decode cX2_isWord 14 = .ok (.if_icmp .eq 5, 3) := by decide +kernel
theorem dX2_isWord_17 : decode cX2_isWord 17 = .ok (.iconst 0, 1) := by decide +kernel
theorem dX2_isWord_18 : decode cX2_isWord 18 = .ok (.ireturn, 1) := by decide +kernel
theorem dX2_isWord_19 : decode cX2_isWord 19 = .ok (.iconst 0, 1) := by decide +kernel
theorem dX2_isWord_20 : decode cX2_isWord 20 = .ok (.istore_n 3, 1) := by decide +kernel
theorem dX2_isWord_21 : decode cX2_isWord 21 = .ok (.iload_n 3, 1) := by decide +kernel
theorem dX2_isWord_22 : decode cX2_isWord 22 = .ok (.aload_n 2, 1) := by decide +kernel
theorem dX2_isWord_23 : decode cX2_isWord 23 = .ok (.invokevirtual 136, 3) := by decide +kernel
theorem dX2_isWord_26 : decode cX2_isWord 26 = .ok (.if_icmp .ge 37, 3) := by decide +kernel
theorem dX2_isWord_29 : decode cX2_isWord 29 = .ok (.iload_n 1, 1) := by decide +kernel
theorem dX2_isWord_30 : decode cX2_isWord 30 = .ok (.iload_n 3, 1) := by decide +kernel
theorem dX2_isWord_31 : decode cX2_isWord 31 = .ok (.iadd, 1) := by decide +kernel
theorem dX2_isWord_32 : decode cX2_isWord 32 = .ok (.aload_n 0, 1) := by decide +kernel
theorem dX2_isWord_33 : decode cX2_isWord 33 = .ok (.getfield 35, 3) := by decide +kernel
theorem dX2_isWord_36 : decode cX2_isWord 36 = .ok (.if_icmp .ge 27, 3) := by decide +kernel
theorem dX2_isWord_39 : decode cX2_isWord 39 = .ok (.aload_n 0, 1) := by decide +kernel
theorem dX2_isWord_40 : decode cX2_isWord 40 = .ok (.getfield 18, 3) := by decide +kernel
theorem dX2_isWord_43 : decode cX2_isWord 43 = .ok (.iload_n 1, 1) := by decide +kernel
theorem dX2_isWord_44 : decode cX2_isWord 44 = .ok (.iload_n 3, 1) := by decide +kernel
theorem dX2_isWord_45 : decode cX2_isWord 45 = .ok (.iadd, 1) := by decide +kernel
theorem dX2_isWord_46 : decode cX2_isWord 46 = .ok (.baload, 1) := by decide +kernel
theorem dX2_isWord_47 : decode cX2_isWord 47 = .ok (.aload_n 2, 1) := by decide +kernel
theorem dX2_isWord_48 : decode cX2_isWord 48 = .ok (.iload_n 3, 1) := by decide +kernel
theorem dX2_isWord_49 : decode cX2_isWord 49 = .ok (.invokevirtual 141, 3) := by decide +kernel
theorem dX2_isWord_52 : decode cX2_isWord 52 = .ok (.if_icmp .eq 5, 3) := by decide +kernel
theorem dX2_isWord_55 : decode cX2_isWord 55 = .ok (.iconst 0, 1) := by decide +kernel
theorem dX2_isWord_56 : decode cX2_isWord 56 = .ok (.ireturn, 1) := by decide +kernel
theorem dX2_isWord_57 : decode cX2_isWord 57 = .ok (.iinc 3 1, 3) := by decide +kernel
theorem dX2_isWord_60 : decode cX2_isWord 60 = .ok (.goto (-39), 3) := by decide +kernel
theorem dX2_isWord_63 : decode cX2_isWord 63 = .ok (.iconst 1, 1) := by decide +kernel
theorem dX2_isWord_64 : decode cX2_isWord 64 = .ok (.ireturn, 1) := by decide +kernel
theorem dX2_fail_0 : decode cX2_fail 0 = .ok (.aload_n 0, 1) := by decide +kernel
theorem dX2_fail_1 : decode cX2_fail 1 = .ok (.getfield 47, 3) := by decide +kernel
theorem dX2_fail_4 : decode cX2_fail 4 = .ok (.ifCond .ne 13, 3) := by decide +kernel
theorem dX2_fail_7 : decode cX2_fail 7 = .ok (.aload_n 0, 1) := by decide +kernel
theorem dX2_fail_8 : decode cX2_fail 8 = .ok (.iload_n 1, 1) := by decide +kernel
theorem dX2_fail_9 : decode cX2_fail 9 = .ok (.putfield 47, 3) := by decide +kernel
theorem dX2_fail_12 : decode cX2_fail 12 = .ok (.aload_n 0, 1) := by decide +kernel
theorem dX2_fail_13 : decode cX2_fail 13 = .ok (.iload_n 2, 1) := by decide +kernel
theorem dX2_fail_14 : decode cX2_fail 14 = .ok (.putfield 22, 3) := by decide +kernel
theorem dX2_fail_17 : decode cX2_fail 17 = .ok (.return_, 1) := by decide +kernel
theorem dX3_init_0 : decode cX3_init 0 = .ok (.aload_n 0, 1) := by decide +kernel
theorem dX3_init_1 : decode cX3_init 1 = .ok (.invokespecial 3, 3) := by decide +kernel
theorem dX3_init_4 : decode cX3_init 4 = .ok (.aload_n 0, 1) := by decide +kernel
theorem dX3_init_5 : decode cX3_init 5 = .ok (.bipush 96, 2) := by decide +kernel
theorem dX3_init_7 : decode cX3_init 7 = .ok (.newarray .int, 2) := by decide +kernel
theorem dX3_init_9 : decode cX3_init 9 = .ok (.putfield 9, 3) := by decide +kernel
theorem dX3_init_12 : decode cX3_init 12 = .ok (.aload_n 0, 1) := by decide +kernel
theorem dX3_init_13 : decode cX3_init 13 = .ok (.bipush 12, 2) := by decide +kernel
theorem dX3_init_15 : decode cX3_init 15 = .ok (.newarray .int, 2) := by decide +kernel
theorem dX3_init_17 : decode cX3_init 17 = .ok (.putfield 15, 3) := by decide +kernel
theorem dX3_init_20 : decode cX3_init 20 = .ok (.aload_n 0, 1) := by decide +kernel
theorem dX3_init_21 : decode cX3_init 21 = .ok (.bipush 24, 2) := by decide +kernel
theorem dX3_init_23 : decode cX3_init 23 = .ok (.newarray .int, 2) := by decide +kernel
theorem dX3_init_25 : decode cX3_init 25 = .ok (.putfield 18, 3) := by decide +kernel
theorem dX3_init_28 : decode cX3_init 28 = .ok (.aload_n 0, 1) := by decide +kernel
theorem dX3_init_29 : decode cX3_init 29 = .ok (.iconst 1, 1) := by decide +kernel
theorem dX3_init_30 : decode cX3_init 30 = .ok (.iconst 1, 1) := by decide +kernel
theorem dX3_init_31 : decode cX3_init 31 = .ok (.invokevirtual 21, 3) := by decide +kernel
theorem dX3_init_34 : decode cX3_init 34 = .ok (.return_, 1) := by decide +kernel
theorem dX3_startAnew_0 : decode cX3_startAnew 0 = .ok (.aload_n 0, 1) := by decide +kernel
theorem dX3_startAnew_1 : decode cX3_startAnew 1 = .ok (.iload_n 1, 1) := by decide +kernel
theorem dX3_startAnew_2 : decode cX3_startAnew 2 = .ok (.putfield 25, 3) := by decide +kernel
theorem dX3_startAnew_5 : decode cX3_startAnew 5 = .ok (.aload_n 0, 1) := by decide +kernel
theorem dX3_startAnew_6 : decode cX3_startAnew 6 = .ok (.iload_n 2, 1) := by decide +kernel
theorem dX3_startAnew_7 : decode cX3_startAnew 7 = .ok (.putfield 29, 3) := by decide +kernel
theorem dX3_startAnew_10 : decode cX3_startAnew 10 = .ok (.aload_n 0, 1) := by decide +kernel
theorem dX3_startAnew_11 : decode cX3_startAnew 11 = .ok (.iconst 1, 1) := by decide +kernel
theorem dX3_startAnew_12 : decode cX3_startAnew 12 = .ok (.putfield 32, 3) := by decide +kernel
theorem dX3_startAnew_15 : decode cX3_startAnew 15 = .ok (.aload_n 0, 1) := by decide +kernel
theorem dX3_startAnew_16 : decode cX3_startAnew 16 = .ok (.getfield 9, 3) := by decide +kernel
theorem dX3_startAnew_19 : decode cX3_startAnew 19 = .ok (.iconst (-1), 1) := by decide +kernel
theorem dX3_startAnew_20 : decode cX3_startAnew 20 = .ok (.invokestatic 35, 3) := by decide +kernel
theorem dX3_startAnew_23 : decode cX3_startAnew 23 = .ok (.aload_n 0, 1) := by decide +kernel
theorem dX3_startAnew_24 : decode cX3_startAnew 24 = .ok (.getfield 15, 3) := by decide +kernel
theorem dX3_startAnew_27 : decode cX3_startAnew 27 = .ok (.iconst 1, 1) := by decide +kernel
theorem dX3_startAnew_28 : decode cX3_startAnew 28 = .ok (.invokestatic 35, 3) := by decide +kernel
theorem dX3_startAnew_31 : decode cX3_startAnew 31 = .ok (.aload_n 0, 1) := by decide +kernel
theorem dX3_startAnew_32 : decode cX3_startAnew 32 = .ok (.lconst 0, 1) := by decide +kernel
theorem dX3_startAnew_33 : decode cX3_startAnew 33 = .ok (.putfield 41, 3) := by decide +kernel
theorem dX3_startAnew_36 : decode cX3_startAnew 36 = .ok (.aload_n 0, 1) := by decide +kernel
theorem dX3_startAnew_37 : decode cX3_startAnew 37 = .ok (.iconst 0, 1) := by decide +kernel
theorem dX3_startAnew_38 : decode cX3_startAnew 38 = .ok (.putfield 45, 3) := by decide +kernel
theorem dX3_startAnew_41 : decode cX3_startAnew 41 = .ok (.aload_n 0, 1) := by decide +kernel
theorem dX3_startAnew_42 : decode cX3_startAnew 42 = .ok (.iconst 0, 1) := by decide +kernel
theorem dX3_startAnew_43 : decode cX3_startAnew 43 = .ok (.putfield 48, 3) := by decide +kernel
theorem dX3_startAnew_46 : decode cX3_startAnew 46 = .ok (.aload_n 0, 1) := by decide +kernel
theorem dX3_startAnew_47 : decode cX3_startAnew 47 = .ok (.iconst 0, 1) := by decide +kernel
theorem dX3_startAnew_48 : decode cX3_startAnew 48 = .ok (.putfield 51, 3) := by decide +kernel
theorem dX3_startAnew_51 : decode cX3_startAnew 51 = .ok (.return_, 1) := by decide +kernel
theorem dX3_copyFrom_0 : decode cX3_copyFrom 0 = .ok (.aload_n 0, 1) := by decide +kernel
theorem dX3_copyFrom_1 : decode cX3_copyFrom 1 = .ok (.aload_n 1, 1) := by decide +kernel
theorem dX3_copyFrom_2 : decode cX3_copyFrom 2 = .ok (.getfield 25, 3) := by decide +kernel
theorem dX3_copyFrom_5 : decode cX3_copyFrom 5 = .ok (.putfield 25, 3) := by decide +kernel
theorem dX3_copyFrom_8 : decode cX3_copyFrom 8 = .ok (.aload_n 0, 1) := by decide +kernel
theorem dX3_copyFrom_9 : decode cX3_copyFrom 9 = .ok (.aload_n 1, 1) := by decide +kernel
theorem dX3_copyFrom_10 : decode cX3_copyFrom 10 = .ok (.getfield 29, 3) := by decide +kernel
theorem dX3_copyFrom_13 : decode cX3_copyFrom 13 = .ok (.putfield 29, 3) := by decide +kernel
theorem dX3_copyFrom_16 : decode cX3_copyFrom 16 = .ok (.aload_n 0, 1) := by decide +kernel
theorem dX3_copyFrom_17 : decode cX3_copyFrom 17 = .ok (.aload_n 1, 1) := by decide +kernel
theorem dX3_copyFrom_18 : decode cX3_copyFrom 18 = .ok (.getfield 32, 3) := by decide +kernel
theorem dX3_copyFrom_21 : decode cX3_copyFrom 21 = .ok (.putfield 32, 3) := by decide +kernel
theorem dX3_copyFrom_24 : decode cX3_copyFrom 24 = .ok (.aload_n 1, 1) := by decide +kernel
theorem dX3_copyFrom_25 : decode cX3_copyFrom 25 = .ok (.getfield 9, 3) := by decide +kernel
theorem dX3_copyFrom_28 : decode cX3_copyFrom 28 = .ok (.iconst 0, 1) := by decide +kernel
theorem dX3_copyFrom_29 : decode cX3_copyFrom 29 = .ok (.aload_n 0, 1) := by decide +kernel
theorem dX3_copyFrom_30 : decode cX3_copyFrom 30 = .ok (.getfield 9, 3) := by decide +kernel
theorem dX3_copyFrom_33 : decode cX3_copyFrom 33 = .ok (.iconst 0, 1) := by decide +kernel
theorem dX3_copyFrom_34 : decode cX3_copyFrom 34 = .ok (.bipush 96, 2) := by decide +kernel
theorem dX3_copyFrom_36 : decode cX3_copyFrom 36 = .ok (.invokestatic 54, 3) := by decide +kernel
theorem dX3_copyFrom_39 : decode cX3_copyFrom 39 = .ok (.aload_n 1, 1) := by decide +kernel
theorem dX3_copyFrom_40 : decode cX3_copyFrom 40 = .ok (.getfield 15, 3) := by decide +kernel
theorem dX3_copyFrom_43 : decode cX3_copyFrom 43 = .ok (.iconst 0, 1) := by decide +kernel
theorem dX3_copyFrom_44 : decode cX3_copyFrom 44 = .ok (.aload_n 0, 1) := by decide +kernel
theorem dX3_copyFrom_45 : decode cX3_copyFrom 45 = .ok (.getfield 15, 3) := by decide +kernel
theorem dX3_copyFrom_48 : decode cX3_copyFrom 48 = .ok (.iconst 0, 1) := by decide +kernel
theorem dX3_copyFrom_49 : decode cX3_copyFrom 49 = .ok (.bipush 12, 2) := by decide +kernel
theorem dX3_copyFrom_51 : decode cX3_copyFrom 51 = .ok (.invokestatic 54, 3) := by decide +kernel
theorem dX3_copyFrom_54 : decode cX3_copyFrom 54 = .ok (.aload_n 0, 1) := by decide +kernel
theorem dX3_copyFrom_55 : decode cX3_copyFrom 55 = .ok (.aload_n 1, 1) := by decide +kernel
theorem dX3_copyFrom_56 : decode cX3_copyFrom 56 = .ok (.getfield 41, 3) := by decide +kernel
theorem dX3_copyFrom_59 : decode cX3_copyFrom 59 = .ok (.putfield 41, 3) := by decide +kernel
theorem dX3_copyFrom_62 : decode cX3_copyFrom 62 = .ok (.aload_n 1, 1) := by decide +kernel
theorem dX3_copyFrom_63 : decode cX3_copyFrom 63 = .ok (.getfield 18, 3) := by decide +kernel
theorem dX3_copyFrom_66 : decode cX3_copyFrom 66 = .ok (.iconst 0, 1) := by decide +kernel
theorem dX3_copyFrom_67 : decode cX3_copyFrom 67 = .ok (.aload_n 0, 1) := by decide +kernel
theorem dX3_copyFrom_68 : decode cX3_copyFrom 68 = .ok (.getfield 18, 3) := by decide +kernel
theorem dX3_copyFrom_71 : decode cX3_copyFrom 71 = .ok (.iconst 0, 1) := by decide +kernel
theorem dX3_copyFrom_72 : decode cX3_copyFrom 72 = .ok (.bipush 24, 2) := by decide +kernel
theorem dX3_copyFrom_74 : decode cX3_copyFrom 74 = .ok (.invokestatic 54, 3) := by decide +kernel
theorem dX3_copyFrom_77 : decode cX3_copyFrom 77 = .ok (.aload_n 0, 1) := by decide +kernel
theorem dX3_copyFrom_78 : decode cX3_copyFrom 78 = .ok (.aload_n 1, 1) := by decide +kernel
theorem dX3_copyFrom_79 : decode cX3_copyFrom 79 = .ok (.getfield 45, 3) := by decide +kernel
theorem dX3_copyFrom_82 : decode cX3_copyFrom 82 = .ok (.putfield 45, 3) := by decide +kernel
theorem dX3_copyFrom_85 : decode cX3_copyFrom 85 = .ok (.aload_n 0, 1) := by decide +kernel
theorem dX3_copyFrom_86 : decode cX3_copyFrom 86 = .ok (.aload_n 1, 1) := by decide +kernel
theorem dX3_copyFrom_87 : decode cX3_copyFrom 87 = .ok (.getfield 48, 3) := by decide +kernel
theorem dX3_copyFrom_90 : decode cX3_copyFrom 90 = .ok (.putfield 48, 3) := by decide +kernel
theorem dX3_copyFrom_93 : decode cX3_copyFrom 93 = .ok (.aload_n 0, 1) := by decide +kernel
theorem dX3_copyFrom_94 : decode cX3_copyFrom 94 = .ok (.aload_n 1, 1) := by decide +kernel
theorem dX3_copyFrom_95 : decode cX3_copyFrom 95 = .ok (.getfield 51, 3) := by decide +kernel
theorem dX3_copyFrom_98 : decode cX3_copyFrom 98 = .ok (.putfield 51, 3) := by decide +kernel
theorem dX3_copyFrom_101 : decode cX3_copyFrom 101 = .ok (.return_, 1) := by decide +kernel
theorem dX3_countCells_0 : decode cX3_countCells 0 = .ok (.aload_n 0, 1) := by decide +kernel
theorem dX3_countCells_1 : decode cX3_countCells 1 = .ok (.getfield 25, 3) := by decide +kernel
theorem dX3_countCells_4 : decode cX3_countCells 4 = .ok (.aload_n 0, 1) := by decide +kernel
theorem dX3_countCells_5 : decode cX3_countCells 5 = .ok (.getfield 29, 3) := by decide +kernel
theorem dX3_countCells_8 : decode cX3_countCells 8 = .ok (.imul, 1) := by decide +kernel
theorem dX3_countCells_9 : decode cX3_countCells 9 = .ok (.ireturn, 1) := by decide +kernel
theorem dX3_hasPlace_0 : decode cX3_hasPlace 0 = .ok (.iload_n 1, 1) := by decide +kernel
theorem dX3_hasPlace_1 : decode cX3_hasPlace 1 = .ok (.ifCond .eq 8, 3) := by decide +kernel
theorem dX3_hasPlace_4 : decode cX3_hasPlace 4 = .ok (.iload_n 1, 1) := by decide +kernel
theorem dX3_hasPlace_5 : decode cX3_hasPlace 5 = .ok (.iconst 1, 1) := by decide +kernel
theorem dX3_hasPlace_6 : decode cX3_hasPlace 6 = .ok (.if_icmp .ne 19, 3) := by decide +kernel
theorem dX3_hasPlace_9 : decode cX3_hasPlace 9 = .ok (.iload_n 2, 1) := by decide +kernel
theorem dX3_hasPlace_10 : decode cX3_hasPlace 10 = .ok (.ifCond .lt 15, 3) := by decide +kernel
theorem dX3_hasPlace_13 : decode cX3_hasPlace 13 = .ok (.iload_n 2, 1) := by decide +kernel
theorem dX3_hasPlace_14 : decode cX3_hasPlace 14 = .ok (.aload_n 0, 1) := by decide +kernel
theorem dX3_hasPlace_15 : decode cX3_hasPlace 15 = .ok (.invokevirtual 60, 3) := by decide +kernel
theorem dX3_hasPlace_18 : decode cX3_hasPlace 18 = .ok (.if_icmp .ge 7, 3) := by decide +kernel
theorem dX3_hasPlace_21 : decode cX3_hasPlace 21 = .ok (.iconst 1, 1) := by decide +kernel
theorem dX3_hasPlace_22 : decode cX3_hasPlace 22 = .ok (.goto 4, 3) := by decide +kernel
theorem dX3_hasPlace_25 : decode cX3_hasPlace 25 = .ok (.iconst 0, 1) := by decide +kernel
theorem dX3_hasPlace_26 : decode cX3_hasPlace 26 = .ok (.ireturn, 1) := by decide +kernel
theorem dX3_hasSpot_0 : decode cX3_hasSpot 0 = .ok (.iload_n 1, 1) := by decide +kernel
theorem dX3_hasSpot_1 : decode cX3_hasSpot 1 = .ok (.ifCond .lt 35, 3) := by decide +kernel
theorem dX3_hasSpot_4 : decode cX3_hasSpot 4 = .ok (.iload_n 1, 1) := by decide +kernel
theorem dX3_hasSpot_5 : decode cX3_hasSpot 5 = .ok (.bipush 96, 2) := by decide +kernel
theorem dX3_hasSpot_7 : decode cX3_hasSpot 7 = .ok (.if_icmp .ge 29, 3) := by decide +kernel
theorem dX3_hasSpot_10 : decode cX3_hasSpot 10 = .ok (.iload_n 1, 1) := by decide +kernel
theorem dX3_hasSpot_11 : decode cX3_hasSpot 11 = .ok (.invokestatic 64, 3) := by decide +kernel
theorem dX3_hasSpot_14 : decode cX3_hasSpot 14 = .ok (.aload_n 0, 1) := by decide +kernel
theorem dX3_hasSpot_15 : decode cX3_hasSpot 15 = .ok (.getfield 29, 3) := by decide +kernel
theorem dX3_hasSpot_18 : decode cX3_hasSpot 18 = .ok (.if_icmp .ge 18, 3) := by decide +kernel
theorem dX3_hasSpot_21 : decode cX3_hasSpot 21 = .ok (.iload_n 1, 1) := by decide +kernel
theorem dX3_hasSpot_22 : decode cX3_hasSpot 22 = .ok (.invokestatic 68, 3) := by decide +kernel
theorem dX3_hasSpot_25 : decode cX3_hasSpot 25 = .ok (.aload_n 0, 1) := by decide +kernel
theorem dX3_hasSpot_26 : decode cX3_hasSpot 26 = .ok (.getfield 25, 3) := by decide +kernel
theorem dX3_hasSpot_29 : decode cX3_hasSpot 29 = .ok (.if_icmp .ge 7, 3) := by decide +kernel
theorem dX3_hasSpot_32 : decode cX3_hasSpot 32 = .ok (.iconst 1, 1) := by decide +kernel
theorem dX3_hasSpot_33 : decode cX3_hasSpot 33 = .ok (.goto 4, 3) := by decide +kernel
theorem dX3_hasSpot_36 : decode cX3_hasSpot 36 = .ok (.iconst 0, 1) := by decide +kernel
theorem dX3_hasSpot_37 : decode cX3_hasSpot 37 = .ok (.ireturn, 1) := by decide +kernel
theorem dX3_spotOf_0 : decode cX3_spotOf 0 = .ok (.aload_n 0, 1) := by decide +kernel
theorem dX3_spotOf_1 : decode cX3_spotOf 1 = .ok (.getfield 25, 3) := by decide +kernel
theorem dX3_spotOf_4 : decode cX3_spotOf 4 = .ok (.ifCond .le 12, 3) := by decide +kernel
theorem dX3_spotOf_7 : decode cX3_spotOf 7 = .ok (.iload_n 2, 1) := by decide +kernel
theorem dX3_spotOf_8 : decode cX3_spotOf 8 = .ok (.aload_n 0, 1) := by decide +kernel
theorem dX3_spotOf_9 : decode cX3_spotOf 9 = .ok (.getfield 25, 3) := by decide +kernel
theorem dX3_spotOf_12 : decode cX3_spotOf 12 = .ok (.idiv, 1) := by decide +kernel
theorem dX3_spotOf_13 : decode cX3_spotOf 13 = .ok (.goto 4, 3) := by decide +kernel
theorem dX3_spotOf_16 : decode cX3_spotOf 16 = .ok (.iconst 0, 1) := by decide +kernel
theorem dX3_spotOf_17 : decode cX3_spotOf 17 = .ok (.istore_n 3, 1) := by decide +kernel
theorem dX3_spotOf_18 : decode cX3_spotOf 18 = .ok (.iload_n 1, 1) := by decide +kernel
theorem dX3_spotOf_19 : decode cX3_spotOf 19 = .ok (.bipush 48, 2) := by decide +kernel
theorem dX3_spotOf_21 : decode cX3_spotOf 21 = .ok (.imul, 1) := by decide +kernel
theorem dX3_spotOf_22 : decode cX3_spotOf 22 = .ok (.iload_n 3, 1) := by decide +kernel
theorem dX3_spotOf_23 : decode cX3_spotOf 23 = .ok (.bipush 8, 2) := by decide +kernel
theorem dX3_spotOf_25 : decode cX3_spotOf 25 = .ok (.imul, 1) := by decide +kernel
theorem dX3_spotOf_26 : decode cX3_spotOf 26 = .ok (.iadd, 1) := by decide +kernel
theorem dX3_spotOf_27 : decode cX3_spotOf 27 = .ok (.iload_n 2, 1) := by decide +kernel
theorem dX3_spotOf_28 : decode cX3_spotOf 28 = .ok (.iadd, 1) := by decide +kernel
theorem dX3_spotOf_29 : decode cX3_spotOf 29 = .ok (.iload_n 3, 1) := by decide +kernel
theorem dX3_spotOf_30 : decode cX3_spotOf 30 = .ok (.aload_n 0, 1) := by decide +kernel
theorem dX3_spotOf_31 : decode cX3_spotOf 31 = .ok (.getfield 25, 3) := by decide +kernel
theorem dX3_spotOf_34 : decode cX3_spotOf 34 = .ok (.imul, 1) := by decide +kernel
theorem dX3_spotOf_35 : decode cX3_spotOf 35 = .ok (.isub, 1) := by decide +kernel
theorem dX3_spotOf_36 : decode cX3_spotOf 36 = .ok (.ireturn, 1) := by decide +kernel
theorem dX3_placeOf_0 : decode cX3_placeOf 0 = .ok (.iload_n 1, 1) := by decide +kernel
theorem dX3_placeOf_1 : decode cX3_placeOf 1 = .ok (.invokestatic 64, 3) := by decide +kernel
theorem dX3_placeOf_4 : decode cX3_placeOf 4 = .ok (.aload_n 0, 1) := by decide +kernel
theorem dX3_placeOf_5 : decode cX3_placeOf 5 = .ok (.getfield 25, 3) := by decide +kernel
theorem dX3_placeOf_8 : decode cX3_placeOf 8 = .ok (.imul, 1) := by decide +kernel
theorem dX3_placeOf_9 : decode cX3_placeOf 9 = .ok (.iload_n 1, 1) := by decide +kernel
theorem dX3_placeOf_10 : decode cX3_placeOf 10 = .ok (.invokestatic 68, 3) := by decide +kernel
theorem dX3_placeOf_13 : decode cX3_placeOf 13 = .ok (.iadd, 1) := by decide +kernel
theorem dX3_placeOf_14 : decode cX3_placeOf 14 = .ok (.ireturn, 1) := by decide +kernel
theorem dX3_spotBehind_0 : decode cX3_spotBehind 0 = .ok (.iload_n 1, 1) := by decide +kernel
theorem dX3_spotBehind_1 : decode cX3_spotBehind 1 = .ok (.invokestatic 71, 3) := by decide +kernel
theorem dX3_spotBehind_4 : decode cX3_spotBehind 4 = .ok (.ifCond .ne 10, 3) := by decide +kernel
theorem dX3_spotBehind_7 : decode cX3_spotBehind 7 = .ok (.iload_n 1, 1) := by decide +kernel
theorem dX3_spotBehind_8 : decode cX3_spotBehind 8 = .ok (.bipush 48, 2) := by decide +kernel
theorem dX3_spotBehind_10 : decode cX3_spotBehind 10 = .ok (.iadd, 1) := by decide +kernel
theorem dX3_spotBehind_11 : decode cX3_spotBehind 11 = .ok (.goto 7, 3) := by decide +kernel
theorem dX3_spotBehind_14 : decode cX3_spotBehind 14 = .ok (.iload_n 1, 1) := by decide +kernel
theorem dX3_spotBehind_15 : decode cX3_spotBehind 15 = .ok (.bipush 48, 2) := by decide +kernel
theorem dX3_spotBehind_17 : decode cX3_spotBehind 17 = .ok (.isub, 1) := by decide +kernel
theorem dX3_spotBehind_18 : decode cX3_spotBehind 18 = .ok (.istore_n 2, 1) := by decide +kernel
theorem dX3_spotBehind_19 : decode cX3_spotBehind 19 = .ok (.iload_n 2, 1) := by decide +kernel
theorem dX3_spotBehind_20 : decode cX3_spotBehind 20 = .ok (.iload_n 1, 1) := by decide +kernel
theorem dX3_spotBehind_21 : decode cX3_spotBehind 21 = .ok (.invokestatic 68, 3) := by decide +kernel
theorem dX3_spotBehind_24 : decode cX3_spotBehind 24 = .ok (.isub, 1) := by decide +kernel
theorem dX3_spotBehind_25 : decode cX3_spotBehind 25 = .ok (.aload_n 0, 1) := by decide +kernel
theorem dX3_spotBehind_26 : decode cX3_spotBehind 26 = .ok (.getfield 25, 3) := by decide +kernel
theorem dX3_spotBehind_29 : decode cX3_spotBehind 29 = .ok (.iadd, 1) := by decide +kernel
theorem dX3_spotBehind_30 : decode cX3_spotBehind 30 = .ok (.iconst 1, 1) := by decide +kernel
theorem dX3_spotBehind_31 : decode cX3_spotBehind 31 = .ok (.isub, 1) := by decide +kernel
theorem dX3_spotBehind_32 : decode cX3_spotBehind 32 = .ok (.iload_n 1, 1) := by decide +kernel
theorem dX3_spotBehind_33 : decode cX3_spotBehind 33 = .ok (.invokestatic 68, 3) := by decide +kernel
theorem dX3_spotBehind_36 : decode cX3_spotBehind 36 = .ok (.isub, 1) := by decide +kernel
theorem dX3_spotBehind_37 : decode cX3_spotBehind 37 = .ok (.ireturn, 1) := by decide +kernel
theorem dX3_cellOf_0 : decode cX3_cellOf 0 = .ok (.iload_n 1, 1) := by decide +kernel
theorem dX3_cellOf_1 : decode cX3_cellOf 1 = .ok (.invokestatic 71, 3) := by decide +kernel
theorem dX3_cellOf_4 : decode cX3_cellOf 4 = .ok (.ifCond .ne 7, 3) := by decide +kernel
theorem dX3_cellOf_7 : decode cX3_cellOf 7 = .ok (.iload_n 1, 1) := by decide +kernel
theorem dX3_cellOf_8 : decode cX3_cellOf 8 = .ok (.goto 8, 3) := by decide +kernel
theorem dX3_cellOf_11 : decode cX3_cellOf 11 = .ok (.aload_n 0, 1) := by decide +kernel
theorem dX3_cellOf_12 : decode cX3_cellOf 12 = .ok (.iload_n 1, 1) := by decide +kernel
theorem dX3_cellOf_13 : decode cX3_cellOf 13 = .ok (.invokevirtual 74, 3) := by decide +kernel
theorem dX3_cellOf_16 : decode cX3_cellOf 16 = .ok (.ireturn, 1) := by decide +kernel
theorem dX3_letterAt_0 : decode cX3_letterAt 0 = .ok (.aload_n 0, 1) := by decide +kernel
theorem dX3_letterAt_1 : decode cX3_letterAt 1 = .ok (.iload_n 1, 1) := by decide +kernel
theorem dX3_letterAt_2 : decode cX3_letterAt 2 = .ok (.invokevirtual 77, 3) := by decide +kernel
theorem dX3_letterAt_5 : decode cX3_letterAt 5 = .ok (.ifCond .eq 12, 3) := by decide +kernel
theorem dX3_letterAt_8 : decode cX3_letterAt 8 = .ok (.aload_n 0, 1) := by decide +kernel
theorem dX3_letterAt_9 : decode cX3_letterAt 9 = .ok (.getfield 9, 3) := by decide +kernel
theorem dX3_letterAt_12 : decode cX3_letterAt 12 = .ok (.iload_n 1, 1) := by decide +kernel
theorem dX3_letterAt_13 : decode cX3_letterAt 13 = .ok (.iaload, 1) := by decide +kernel
theorem dX3_letterAt_14 : decode cX3_letterAt 14 = .ok (.goto 4, 3) := by decide +kernel
theorem dX3_letterAt_17 : decode cX3_letterAt 17 = .ok (.iconst (-1), 1) := by decide +kernel
theorem dX3_letterAt_18 : decode cX3_letterAt 18 = .ok (.ireturn, 1) := by decide +kernel
theorem dX3_sizeAt_0 : decode cX3_sizeAt 0 = .ok (.aload_n 0, 1) := by decide +kernel
theorem dX3_sizeAt_1 : decode cX3_sizeAt 1 = .ok (.iload_n 1, 1) := by decide +kernel
theorem dX3_sizeAt_2 : decode cX3_sizeAt 2 = .ok (.invokevirtual 77, 3) := by decide +kernel
theorem dX3_sizeAt_5 : decode cX3_sizeAt 5 = .ok (.ifCond .eq 15, 3) := by decide +kernel
theorem dX3_sizeAt_8 : decode cX3_sizeAt 8 = .ok (.aload_n 0, 1) := by decide +kernel
theorem dX3_sizeAt_9 : decode cX3_sizeAt 9 = .ok (.getfield 15, 3) := by decide +kernel
theorem dX3_sizeAt_12 : decode cX3_sizeAt 12 = .ok (.iload_n 1, 1) := by decide +kernel
theorem dX3_sizeAt_13 : decode cX3_sizeAt 13 = .ok (.bipush 8, 2) := by decide +kernel
theorem dX3_sizeAt_15 : decode cX3_sizeAt 15 = .ok (.idiv, 1) := by decide +kernel
theorem dX3_sizeAt_16 : decode cX3_sizeAt 16 = .ok (.iaload, 1) := by decide +kernel
theorem dX3_sizeAt_17 : decode cX3_sizeAt 17 = .ok (.goto 4, 3) := by decide +kernel
theorem dX3_sizeAt_20 : decode cX3_sizeAt 20 = .ok (.iconst 1, 1) := by decide +kernel
theorem dX3_sizeAt_21 : decode cX3_sizeAt 21 = .ok (.ireturn, 1) := by decide +kernel
theorem dX3_isThere_0 : decode cX3_isThere 0 = .ok (.aload_n 0, 1) := by decide +kernel
theorem dX3_isThere_1 : decode cX3_isThere 1 = .ok (.getfield 41, 3) := by decide +kernel
theorem dX3_isThere_4 : decode cX3_isThere 4 = .ok (.lconst 1, 1) := by decide +kernel
theorem dX3_isThere_5 : decode cX3_isThere 5 = .ok (.iload_n 1, 1) := by decide +kernel
theorem dX3_isThere_6 : decode cX3_isThere 6 = .ok (.lshl, 1) := by decide +kernel
theorem dX3_isThere_7 : decode cX3_isThere 7 = .ok (.land, 1) := by decide +kernel
theorem dX3_isThere_8 : decode cX3_isThere 8 = .ok (.lconst 0, 1) := by decide +kernel
theorem dX3_isThere_9 : decode cX3_isThere 9 = .ok (.lcmp, 1) := by decide +kernel
theorem dX3_isThere_10 : decode cX3_isThere 10 = .ok (.ifCond .ne 7, 3) := by decide +kernel
theorem dX3_isThere_13 : decode cX3_isThere 13 = .ok (.iconst 1, 1) := by decide +kernel
theorem dX3_isThere_14 : decode cX3_isThere 14 = .ok (.goto 4, 3) := by decide +kernel
theorem dX3_isThere_17 : decode cX3_isThere 17 = .ok (.iconst 0, 1) := by decide +kernel
theorem dX3_isThere_18 : decode cX3_isThere 18 = .ok (.ireturn, 1) := by decide +kernel
theorem dX3_canUse_0 : decode cX3_canUse 0 = .ok (.aload_n 0, 1) := by decide +kernel
theorem dX3_canUse_1 : decode cX3_canUse 1 = .ok (.iload_n 1, 1) := by decide +kernel
theorem dX3_canUse_2 : decode cX3_canUse 2 = .ok (.invokevirtual 81, 3) := by decide +kernel
theorem dX3_canUse_5 : decode cX3_canUse 5 = .ok (.iconst (-1), 1) := by decide +kernel
theorem dX3_canUse_6 : decode cX3_canUse 6 = .ok (.if_icmp .eq 31, 3) := by decide +kernel
theorem dX3_canUse_9 : decode cX3_canUse 9 = .ok (.aload_n 0, 1) := by decide +kernel
theorem dX3_canUse_10 : decode cX3_canUse 10 = .ok (.aload_n 0, 1) := by decide +kernel
theorem dX3_canUse_11 : decode cX3_canUse 11 = .ok (.iload_n 1, 1) := by decide +kernel
theorem dX3_canUse_12 : decode cX3_canUse 12 = .ok (.invokevirtual 84, 3) := by decide +kernel
theorem dX3_canUse_15 : decode cX3_canUse 15 = .ok (.invokevirtual 87, 3) := by decide +kernel
theorem dX3_canUse_18 : decode cX3_canUse 18 = .ok (.ifCond .eq 19, 3) := by decide +kernel
theorem dX3_canUse_21 : decode cX3_canUse 21 = .ok (.aload_n 0, 1) := by decide +kernel
theorem dX3_canUse_22 : decode cX3_canUse 22 = .ok (.iload_n 1, 1) := by decide +kernel
theorem dX3_canUse_23 : decode cX3_canUse 23 = .ok (.invokevirtual 90, 3) := by decide +kernel
theorem dX3_canUse_26 : decode cX3_canUse 26 = .ok (.aload_n 0, 1) := by decide +kernel
theorem dX3_canUse_27 : decode cX3_canUse 27 = .ok (.getfield 32, 3) := by decide +kernel
theorem dX3_canUse_30 : decode cX3_canUse 30 = .ok (.if_icmp .lt 7, 3) := by decide +kernel
theorem dX3_canUse_33 : decode cX3_canUse 33 = .ok (.iconst 1, 1) := by decide +kernel
theorem dX3_canUse_34 : decode cX3_canUse 34 = .ok (.goto 4, 3) := by decide +kernel
theorem dX3_canUse_37 : decode cX3_canUse 37 = .ok (.iconst 0, 1) := by decide +kernel
theorem dX3_canUse_38 : decode cX3_canUse 38 = .ok (.ireturn, 1) := by decide +kernel
theorem dX3_countThere_0 : decode cX3_countThere 0 = .ok (.aload_n 0, 1) := by decide +kernel
theorem dX3_countThere_1 : decode cX3_countThere 1 = .ok (.invokevirtual 60, 3) := by decide +kernel
theorem dX3_countThere_4 : decode cX3_countThere 4 = .ok (.aload_n 0, 1) := by decide +kernel
theorem dX3_countThere_5 : decode cX3_countThere 5 = .ok (.getfield 41, 3) := by decide +kernel
theorem dX3_countThere_8 : decode cX3_countThere 8 = .ok (.invokestatic 93, 3) := by decide +kernel
theorem dX3_countThere_11 : decode cX3_countThere 11 = .ok (.isub, 1) := by decide +kernel
theorem dX3_countThere_12 : decode cX3_countThere 12 = .ok (.ireturn, 1) := by decide +kernel
theorem dX3_countUsable_0 : decode cX3_countUsable 0 = .ok (.iconst 0, 1) := by decide +kernel
theorem dX3_countUsable_1 : decode cX3_countUsable 1 = .ok (.istore_n 1, 1) := by decide +kernel
theorem dX3_countUsable_2 : decode cX3_countUsable 2 = .ok (.iconst 0, 1) := by decide +kernel
theorem dX3_countUsable_3 : decode cX3_countUsable 3 = .ok (.istore_n 2, 1) := by decide +kernel
theorem dX3_countUsable_4 : decode cX3_countUsable 4 = .ok (.iload_n 2, 1) := by decide +kernel
theorem dX3_countUsable_5 : decode cX3_countUsable 5 = .ok (.bipush 96, 2) := by decide +kernel
theorem dX3_countUsable_7 : decode cX3_countUsable 7 = .ok (.if_icmp .ge 20, 3) := by decide +kernel
theorem dX3_countUsable_10 : decode cX3_countUsable 10 = .ok (.aload_n 0, 1) := by decide +kernel
theorem dX3_countUsable_11 : decode cX3_countUsable 11 = .ok (.iload_n 2, 1) := by decide +kernel
theorem dX3_countUsable_12 : decode cX3_countUsable 12 = .ok (.invokevirtual 99, 3) := by decide +kernel
theorem dX3_countUsable_15 : decode cX3_countUsable 15 = .ok (.ifCond .eq 6, 3) := by decide +kernel
theorem dX3_countUsable_18 : decode cX3_countUsable 18 = .ok (.iinc 1 1, 3) := by decide +kernel
theorem dX3_countUsable_21 : decode cX3_countUsable 21 = .ok (.iinc 2 1, 3) := by decide +kernel
theorem dX3_countUsable_24 : decode cX3_countUsable 24 = .ok (.goto (-20), 3) := by decide +kernel
theorem dX3_countUsable_27 : decode cX3_countUsable 27 = .ok (.iload_n 1, 1) := by decide +kernel
theorem dX3_countUsable_28 : decode cX3_countUsable 28 = .ok (.ireturn, 1) := by decide +kernel
theorem dX3_countUsableOf_0 : decode cX3_countUsableOf 0 = .ok (.iconst 0, 1) := by decide +kernel
theorem dX3_countUsableOf_1 : decode cX3_countUsableOf 1 = .ok (.istore_n 2, 1) := by decide +kernel
theorem dX3_countUsableOf_2 : decode cX3_countUsableOf 2 = .ok (.iconst 0, 1) := by decide +kernel
theorem dX3_countUsableOf_3 : decode cX3_countUsableOf 3 = .ok (.istore_n 3, 1) := by decide +kernel
theorem dX3_countUsableOf_4 : decode cX3_countUsableOf 4 = .ok (.iload_n 3, 1) := by decide +kernel
theorem dX3_countUsableOf_5 : decode cX3_countUsableOf 5 = .ok (.bipush 96, 2) := by decide +kernel
theorem dX3_countUsableOf_7 : decode cX3_countUsableOf 7 = .ok (.if_icmp .ge 29, 3) := by decide +kernel
theorem dX3_countUsableOf_10 : decode cX3_countUsableOf 10 = .ok (.aload_n 0, 1) := by decide +kernel
theorem dX3_countUsableOf_11 : decode cX3_countUsableOf 11 = .ok (.iload_n 3, 1) := by decide +kernel
theorem dX3_countUsableOf_12 : decode cX3_countUsableOf 12 = .ok (.invokevirtual 81, 3) := by decide +kernel
theorem dX3_countUsableOf_15 : decode cX3_countUsableOf 15 = .ok (.iload_n 1, 1) := by decide +kernel
theorem dX3_countUsableOf_16 : decode cX3_countUsableOf 16 = .ok (.if_icmp .ne 14, 3) := by decide +kernel
theorem dX3_countUsableOf_19 : decode cX3_countUsableOf 19 = .ok (.aload_n 0, 1) := by decide +kernel
theorem dX3_countUsableOf_20 : decode cX3_countUsableOf 20 = .ok (.iload_n 3, 1) := by decide +kernel
theorem dX3_countUsableOf_21 : decode cX3_countUsableOf 21 = .ok (.invokevirtual 99, 3) := by decide +kernel
theorem dX3_countUsableOf_24 : decode cX3_countUsableOf 24 = .ok (.ifCond .eq 6, 3) := by decide +kernel
theorem dX3_countUsableOf_27 : decode cX3_countUsableOf 27 = .ok (.iinc 2 1, 3) := by decide +kernel
theorem dX3_countUsableOf_30 : decode cX3_countUsableOf 30 = .ok (.iinc 3 1, 3) := by decide +kernel
theorem dX3_countUsableOf_33 : decode cX3_countUsableOf 33 = .ok (.goto (-29), 3) := by decide +kernel
theorem dX3_countUsableOf_36 : decode cX3_countUsableOf 36 = .ok (.iload_n 2, 1) := by decide +kernel
theorem dX3_countUsableOf_37 : decode cX3_countUsableOf 37 = .ok (.ireturn, 1) := by decide +kernel
theorem dX3_cellsWith_0 : decode cX3_cellsWith 0 = .ok (.lconst 0, 1) := by decide +kernel
theorem dX3_cellsWith_1 : decode cX3_cellsWith 1 = .ok (.lstore_n 2, 1) := by decide +kernel
theorem dX3_cellsWith_2 : decode cX3_cellsWith 2 = .ok (.iconst 0, 1) := by decide +kernel
theorem dX3_cellsWith_3 : decode cX3_cellsWith 3 = .ok (.istore 4, 2) := by decide +kernel
theorem dX3_cellsWith_5 : decode cX3_cellsWith 5 = .ok (.iload 4, 2) := by decide +kernel
theorem dX3_cellsWith_7 : decode cX3_cellsWith 7 = .ok (.bipush 96, 2) := by decide +kernel
theorem dX3_cellsWith_9 : decode cX3_cellsWith 9 = .ok (.if_icmp .ge 39, 3) := by decide +kernel
theorem dX3_cellsWith_12 : decode cX3_cellsWith 12 = .ok (.aload_n 0, 1) := by decide +kernel
theorem dX3_cellsWith_13 : decode cX3_cellsWith 13 = .ok (.iload 4, 2) := by decide +kernel
theorem dX3_cellsWith_15 : decode cX3_cellsWith 15 = .ok (.invokevirtual 81, 3) := by decide +kernel
theorem dX3_cellsWith_18 : decode cX3_cellsWith 18 = .ok (.iload_n 1, 1) := by decide +kernel
theorem dX3_cellsWith_19 : decode cX3_cellsWith 19 = .ok (.if_icmp .ne 23, 3) := by decide +kernel
theorem dX3_cellsWith_22 : decode cX3_cellsWith 22 = .ok (.aload_n 0, 1) := by decide +kernel
theorem dX3_cellsWith_23 : decode cX3_cellsWith 23 = .ok (.iload 4, 2) := by decide +kernel
theorem dX3_cellsWith_25 : decode cX3_cellsWith 25 = .ok (.invokevirtual 99, 3) := by decide +kernel
theorem dX3_cellsWith_28 : decode cX3_cellsWith 28 = .ok (.ifCond .eq 14, 3) := by decide +kernel
theorem dX3_cellsWith_31 : decode cX3_cellsWith 31 = .ok (.lload_n 2, 1) := by decide +kernel
theorem dX3_cellsWith_32 : decode cX3_cellsWith 32 = .ok (.lconst 1, 1) := by decide +kernel
theorem dX3_cellsWith_33 : decode cX3_cellsWith 33 = .ok (.aload_n 0, 1) := by decide +kernel
theorem dX3_cellsWith_34 : decode cX3_cellsWith 34 = .ok (.iload 4, 2) := by decide +kernel
theorem dX3_cellsWith_36 : decode cX3_cellsWith 36 = .ok (.invokevirtual 84, 3) := by decide +kernel
theorem dX3_cellsWith_39 : decode cX3_cellsWith 39 = .ok (.lshl, 1) := by decide +kernel
theorem dX3_cellsWith_40 : decode cX3_cellsWith 40 = .ok (.lor, 1) := by decide +kernel
theorem dX3_cellsWith_41 : decode cX3_cellsWith 41 = .ok (.lstore_n 2, 1) := by decide +kernel
theorem dX3_cellsWith_42 : decode cX3_cellsWith 42 = .ok (.iinc 4 1, 3) := by decide +kernel
theorem dX3_cellsWith_45 : decode cX3_cellsWith 45 = .ok (.goto (-40), 3) := by decide +kernel
theorem dX3_cellsWith_48 : decode cX3_cellsWith 48 = .ok (.lload_n 2, 1) := by decide +kernel
theorem dX3_cellsWith_49 : decode cX3_cellsWith 49 = .ok (.lreturn, 1) := by decide +kernel
theorem dX3_hasMessageLetter_0 : decode cX3_hasMessageLetter 0 = .ok (.iload_n 1, 1) := by decide +kernel
theorem dX3_hasMessageLetter_1 : decode cX3_hasMessageLetter 1 = .ok (.ifCond .lt 21, 3) := by decide +kernel
theorem dX3_hasMessageLetter_4 : decode cX3_hasMessageLetter 4 = .ok (.iload_n 1, 1) := by decide +kernel
theorem dX3_hasMessageLetter_5 : decode cX3_hasMessageLetter 5 = .ok (.aload_n 0, 1) := by decide +kernel
theorem dX3_hasMessageLetter_6 : decode cX3_hasMessageLetter 6 = .ok (.getfield 45, 3) := by decide +kernel
theorem dX3_hasMessageLetter_9 : decode cX3_hasMessageLetter 9 = .ok (.if_icmp .ge 13, 3) := by decide +kernel
theorem dX3_hasMessageLetter_12 : decode cX3_hasMessageLetter 12 = .ok (.iload_n 1, 1) := by decide +kernel
theorem dX3_hasMessageLetter_13 : decode cX3_hasMessageLetter 13 = .ok (.bipush 24, 2) := by decide +kernel
theorem dX3_hasMessageLetter_15 : decode cX3_hasMessageLetter 15 = .ok (.if_icmp .ge 7, 3) := by decide +kernel
theorem dX3_hasMessageLetter_18 : decode cX3_hasMessageLetter 18 = .ok (.iconst 1, 1) := by decide +kernel
theorem dX3_hasMessageLetter_19 : decode cX3_hasMessageLetter 19 = .ok (.goto 4, 3) := by decide +kernel
theorem dX3_hasMessageLetter_22 : decode cX3_hasMessageLetter 22 = .ok (.iconst 0, 1) := by decide +kernel
theorem dX3_hasMessageLetter_23 : decode cX3_hasMessageLetter 23 = .ok (.ireturn, 1) := by decide +kernel
theorem dX3_messageAt_0 : decode cX3_messageAt 0 = .ok (.aload_n 0, 1) := by decide +kernel
theorem dX3_messageAt_1 : decode cX3_messageAt 1 = .ok (.iload_n 1, 1) := by decide +kernel
theorem dX3_messageAt_2 : decode cX3_messageAt 2 = .ok (.invokevirtual 102, 3) := by decide +kernel
theorem dX3_messageAt_5 : decode cX3_messageAt 5 = .ok (.ifCond .eq 12, 3) := by decide +kernel
theorem dX3_messageAt_8 : decode cX3_messageAt 8 = .ok (.aload_n 0, 1) := by decide +kernel
theorem dX3_messageAt_9 : decode cX3_messageAt 9 = .ok (.getfield 18, 3) := by decide +kernel
theorem dX3_messageAt_12 : decode cX3_messageAt 12 = .ok (.iload_n 1, 1) := by decide +kernel
theorem dX3_messageAt_13 : decode cX3_messageAt 13 = .ok (.iaload, 1) := by decide +kernel
theorem dX3_messageAt_14 : decode cX3_messageAt 14 = .ok (.goto 4, 3) := by decide +kernel
theorem dX3_messageAt_17 : decode cX3_messageAt 17 = .ok (.iconst (-1), 1) := by decide +kernel
theorem dX3_messageAt_18 : decode cX3_messageAt 18 = .ok (.ireturn, 1) := by decide +kernel
theorem dX3_countInMessage_0 : decode cX3_countInMessage 0 = .ok (.iconst 0, 1) := by decide +kernel
theorem dX3_countInMessage_1 : decode cX3_countInMessage 1 = .ok (.istore_n 2, 1) := by decide +kernel
theorem dX3_countInMessage_2 : decode cX3_countInMessage 2 = .ok (.iconst 0, 1) := by decide +kernel
theorem dX3_countInMessage_3 : decode cX3_countInMessage 3 = .ok (.istore_n 3, 1) := by decide +kernel
theorem dX3_countInMessage_4 : decode cX3_countInMessage 4 = .ok (.iload_n 3, 1) := by decide +kernel
theorem dX3_countInMessage_5 : decode cX3_countInMessage 5 = .ok (.aload_n 0, 1) := by decide +kernel
theorem dX3_countInMessage_6 : decode cX3_countInMessage 6 = .ok (.getfield 45, 3) := by decide +kernel
theorem dX3_countInMessage_9 : decode cX3_countInMessage 9 = .ok (.if_icmp .ge 21, 3) := by decide +kernel
theorem dX3_countInMessage_12 : decode cX3_countInMessage 12 = .ok (.aload_n 0, 1) := by decide +kernel
theorem dX3_countInMessage_13 : decode cX3_countInMessage 13 = .ok (.iload_n 3, 1) := by decide +kernel
theorem dX3_countInMessage_14 : decode cX3_countInMessage 14 = .ok (.invokevirtual 105, 3) := by decide +kernel
theorem dX3_countInMessage_17 : decode cX3_countInMessage 17 = .ok (.iload_n 1, 1) := by decide +kernel
theorem dX3_countInMessage_18 : decode cX3_countInMessage 18 = .ok (.if_icmp .ne 6, 3) := by decide +kernel
theorem dX3_countInMessage_21 : decode cX3_countInMessage 21 = .ok (.iinc 2 1, 3) := by decide +kernel
theorem dX3_countInMessage_24 : decode cX3_countInMessage 24 = .ok (.iinc 3 1, 3) := by decide +kernel
theorem dX3_countInMessage_27 : decode cX3_countInMessage 27 = .ok (.goto (-23), 3) := by decide +kernel
theorem dX3_countInMessage_30 : decode cX3_countInMessage 30 = .ok (.iload_n 2, 1) := by decide +kernel
theorem dX3_countInMessage_31 : decode cX3_countInMessage 31 = .ok (.ireturn, 1) := by decide +kernel
theorem dX3_isStrip_0 : decode cX3_isStrip 0 = .ok (.iload_n 1, 1) := by decide +kernel
theorem dX3_isStrip_1 : decode cX3_isStrip 1 = .ok (.invokestatic 68, 3) := by decide +kernel
theorem dX3_isStrip_4 : decode cX3_isStrip 4 = .ok (.iload_n 2, 1) := by decide +kernel
theorem dX3_isStrip_5 : decode cX3_isStrip 5 = .ok (.iadd, 1) := by decide +kernel
theorem dX3_isStrip_6 : decode cX3_isStrip 6 = .ok (.aload_n 0, 1) := by decide +kernel
theorem dX3_isStrip_7 : decode cX3_isStrip 7 = .ok (.getfield 25, 3) := by decide +kernel
theorem dX3_isStrip_10 : decode cX3_isStrip 10 = .ok (.if_icmp .le 5, 3) := by decide +kernel
theorem dX3_isStrip_13 : decode cX3_isStrip 13 = .ok (.iconst 0, 1) := by decide +kernel
theorem dX3_isStrip_14 : decode cX3_isStrip 14 = .ok (.ireturn, 1) := by decide +kernel
theorem dX3_isStrip_15 : decode cX3_isStrip 15 = .ok (.iconst 0, 1) := by decide +kernel
theorem dX3_isStrip_16 : decode cX3_isStrip 16 = .ok (.istore_n 3, 1) := by decide +kernel
theorem dX3_isStrip_17 : decode cX3_isStrip 17 = .ok (.iload_n 3, 1) := by decide +kernel
theorem dX3_isStrip_18 : decode cX3_isStrip 18 = .ok (.iload_n 2, 1) := by decide +kernel
theorem dX3_isStrip_19 : decode cX3_isStrip 19 = .ok (.if_icmp .ge 21, 3) := by decide +kernel
theorem dX3_isStrip_22 : decode cX3_isStrip 22 = .ok (.aload_n 0, 1) := by decide +kernel
theorem dX3_isStrip_23 : decode cX3_isStrip 23 = .ok (.iload_n 1, 1) := by decide +kernel
theorem dX3_isStrip_24 : decode cX3_isStrip 24 = .ok (.iload_n 3, 1) := by decide +kernel
theorem dX3_isStrip_25 : decode cX3_isStrip 25 = .ok (.iadd, 1) := by decide +kernel
theorem dX3_isStrip_26 : decode cX3_isStrip 26 = .ok (.invokevirtual 99, 3) := by decide +kernel
theorem dX3_isStrip_29 : decode cX3_isStrip 29 = .ok (.ifCond .ne 5, 3) := by decide +kernel
theorem dX3_isStrip_32 : decode cX3_isStrip 32 = .ok (.iconst 0, 1) := by decide +kernel
theorem dX3_isStrip_33 : decode cX3_isStrip 33 = .ok (.ireturn, 1) := by decide +kernel
theorem dX3_isStrip_34 : decode cX3_isStrip 34 = .ok (.iinc 3 1, 3) := by decide +kernel
theorem dX3_isStrip_37 : decode cX3_isStrip 37 = .ok (.goto (-20), 3) := by decide +kernel
theorem dX3_isStrip_40 : decode cX3_isStrip 40 = .ok (.iconst 1, 1) := by decide +kernel
theorem dX3_isStrip_41 : decode cX3_isStrip 41 = .ok (.ireturn, 1) := by decide +kernel
theorem dX3_cellsOfStrip_0 : decode cX3_cellsOfStrip 0 = .ok (.lconst 0, 1) := by decide +kernel
theorem dX3_cellsOfStrip_1 : decode cX3_cellsOfStrip 1 = .ok (.lstore_n 3, 1) := by decide +kernel
theorem dX3_cellsOfStrip_2 : decode cX3_cellsOfStrip 2 = .ok (.iconst 0, 1) := by decide +kernel
theorem dX3_cellsOfStrip_3 : decode cX3_cellsOfStrip 3 = .ok (.istore 5, 2) := by decide +kernel
theorem dX3_cellsOfStrip_5 : decode cX3_cellsOfStrip 5 = .ok (.iload 5, 2) := by decide +kernel
theorem dX3_cellsOfStrip_7 : decode cX3_cellsOfStrip 7 = .ok (.iload_n 2, 1) := by decide +kernel
theorem dX3_cellsOfStrip_8 : decode cX3_cellsOfStrip 8 = .ok (.if_icmp .ge 22, 3) := by decide +kernel
theorem dX3_cellsOfStrip_11 : decode cX3_cellsOfStrip 11 = .ok (.lload_n 3, 1) := by decide +kernel
theorem dX3_cellsOfStrip_12 : decode cX3_cellsOfStrip 12 = .ok (.lconst 1, 1) := by decide +kernel
theorem dX3_cellsOfStrip_13 : decode cX3_cellsOfStrip 13 = .ok (.aload_n 0, 1) := by decide +kernel
theorem dX3_cellsOfStrip_14 : decode cX3_cellsOfStrip 14 = .ok (.iload_n 1, 1) := by decide +kernel
theorem dX3_cellsOfStrip_15 : decode cX3_cellsOfStrip 15 = .ok (.iload 5, 2) := by decide +kernel
theorem dX3_cellsOfStrip_17 : decode cX3_cellsOfStrip 17 = .ok (.iadd, 1) := by decide +kernel
theorem dX3_cellsOfStrip_18 : decode cX3_cellsOfStrip 18 = .ok (.invokevirtual 84, 3) := by decide +kernel
theorem dX3_cellsOfStrip_21 : decode cX3_cellsOfStrip 21 = .ok (.lshl, 1) := by decide +kernel
theorem dX3_cellsOfStrip_22 : decode cX3_cellsOfStrip 22 = .ok (.lor, 1) := by decide +kernel
theorem dX3_cellsOfStrip_23 : decode cX3_cellsOfStrip 23 = .ok (.lstore_n 3, 1) := by decide +kernel
theorem dX3_cellsOfStrip_24 : decode cX3_cellsOfStrip 24 = .ok (.iinc 5 1, 3) := by decide +kernel
theorem dX3_cellsOfStrip_27 : decode cX3_cellsOfStrip 27 = .ok (.goto (-22), 3) := by decide +kernel
theorem dX3_cellsOfStrip_30 : decode cX3_cellsOfStrip 30 = .ok (.lload_n 3, 1) := by decide +kernel
theorem dX3_cellsOfStrip_31 : decode cX3_cellsOfStrip 31 = .ok (.lreturn, 1) := by decide +kernel
theorem dX3_lettersFrom_0 : decode cX3_lettersFrom 0 = .ok (.aload_n 0, 1) := by decide +kernel
theorem dX3_lettersFrom_1 : decode cX3_lettersFrom 1 = .ok (.getfield 25, 3) := by decide +kernel
theorem dX3_lettersFrom_4 : decode cX3_lettersFrom 4 = .ok (.iload_n 1, 1) := by decide +kernel
theorem dX3_lettersFrom_5 : decode cX3_lettersFrom 5 = .ok (.invokestatic 68, 3) := by decide +kernel
theorem dX3_lettersFrom_8 : decode cX3_lettersFrom 8 = .ok (.isub, 1) := by decide +kernel
theorem dX3_lettersFrom_9 : decode cX3_lettersFrom 9 = .ok (.istore_n 3, 1) := by decide +kernel
theorem dX3_lettersFrom_10 : decode cX3_lettersFrom 10 = .ok (.iconst 0, 1) := by decide +kernel
theorem dX3_lettersFrom_11 : decode cX3_lettersFrom 11 = .ok (.istore 4, 2) := by decide +kernel
theorem dX3_lettersFrom_13 : decode cX3_lettersFrom 13 = .ok (.iload 4, 2) := by decide +kernel
theorem dX3_lettersFrom_15 : decode cX3_lettersFrom 15 = .ok (.iload_n 3, 1) := by decide +kernel
theorem dX3_lettersFrom_16 : decode cX3_lettersFrom 16 = .ok (.if_icmp .ge 39, 3) := by decide +kernel
theorem dX3_lettersFrom_19 : decode cX3_lettersFrom 19 = .ok (.aload_n 0, 1) := by decide +kernel
theorem dX3_lettersFrom_20 : decode cX3_lettersFrom 20 = .ok (.iload_n 1, 1) := by decide +kernel
theorem dX3_lettersFrom_21 : decode cX3_lettersFrom 21 = .ok (.iload 4, 2) := by decide +kernel
theorem dX3_lettersFrom_23 : decode cX3_lettersFrom 23 = .ok (.iadd, 1) := by decide +kernel
theorem dX3_lettersFrom_24 : decode cX3_lettersFrom 24 = .ok (.invokevirtual 81, 3) := by decide +kernel
theorem dX3_lettersFrom_27 : decode cX3_lettersFrom 27 = .ok (.aload_n 0, 1) := by decide +kernel
theorem dX3_lettersFrom_28 : decode cX3_lettersFrom 28 = .ok (.iload_n 2, 1) := by decide +kernel
theorem dX3_lettersFrom_29 : decode cX3_lettersFrom 29 = .ok (.iload 4, 2) := by decide +kernel
theorem dX3_lettersFrom_31 : decode cX3_lettersFrom 31 = .ok (.iadd, 1) := by decide +kernel
theorem dX3_lettersFrom_32 : decode cX3_lettersFrom 32 = .ok (.invokevirtual 105, 3) := by decide +kernel
theorem dX3_lettersFrom_35 : decode cX3_lettersFrom 35 = .ok (.if_icmp .ne 20, 3) := by decide +kernel
theorem dX3_lettersFrom_38 : decode cX3_lettersFrom 38 = .ok (.aload_n 0, 1) := by decide +kernel
theorem dX3_lettersFrom_39 : decode cX3_lettersFrom 39 = .ok (.iload_n 1, 1) := by decide +kernel
theorem dX3_lettersFrom_40 : decode cX3_lettersFrom 40 = .ok (.iload 4, 2) := by decide +kernel
theorem dX3_lettersFrom_42 : decode cX3_lettersFrom 42 = .ok (.iadd, 1) := by decide +kernel
theorem dX3_lettersFrom_43 : decode cX3_lettersFrom 43 = .ok (.invokevirtual 99, 3) := by decide +kernel
theorem dX3_lettersFrom_46 : decode cX3_lettersFrom 46 = .ok (.ifCond .eq 9, 3) := by decide +kernel
theorem dX3_lettersFrom_49 : decode cX3_lettersFrom 49 = .ok (.iinc 4 1, 3) := by decide +kernel
theorem dX3_lettersFrom_52 : decode cX3_lettersFrom 52 = .ok (.goto (-39), 3) := by decide +kernel
theorem dX3_lettersFrom_55 : decode cX3_lettersFrom 55 = .ok (.iload 4, 2) := by decide +kernel
theorem dX3_lettersFrom_57 : decode cX3_lettersFrom 57 = .ok (.ireturn, 1) := by decide +kernel
theorem dX3_take_0 : decode cX3_take 0 = .ok (.aload_n 0, 1) := by decide +kernel
theorem dX3_take_1 : decode cX3_take 1 = .ok (.dup, 1) := by decide +kernel
theorem dX3_take_2 : decode cX3_take 2 = .ok (.getfield 41, 3) := by decide +kernel
theorem dX3_take_5 : decode cX3_take 5 = .ok (.lload_n 1, 1) := by decide +kernel
theorem dX3_take_6 : decode cX3_take 6 = .ok (.lor, 1) := by decide +kernel
theorem dX3_take_7 : decode cX3_take 7 = .ok (.putfield 41, 3) := by decide +kernel
theorem dX3_take_10 : decode cX3_take 10 = .ok (.aload_n 0, 1) := by decide +kernel
theorem dX3_take_11 : decode cX3_take 11 = .ok (.dup, 1) := by decide +kernel
theorem dX3_take_12 : decode cX3_take 12 = .ok (.getfield 48, 3) := by decide +kernel
theorem dX3_take_15 : decode cX3_take 15 = .ok (.iload_n 3, 1) := by decide +kernel
theorem dX3_take_16 : decode cX3_take 16 = .ok (.iadd, 1) := by decide +kernel
theorem dX3_take_17 : decode cX3_take 17 = .ok (.putfield 48, 3) := by decide +kernel
theorem dX3_take_20 : decode cX3_take 20 = .ok (.aload_n 0, 1) := by decide +kernel
theorem dX3_take_21 : decode cX3_take 21 = .ok (.dup, 1) := by decide +kernel
theorem dX3_take_22 : decode cX3_take 22 = .ok (.getfield 51, 3) := by decide +kernel
theorem dX3_take_25 : decode cX3_take 25 = .ok (.lload_n 1, 1) := by decide +kernel
theorem dX3_take_26 : decode cX3_take 26 = .ok (.invokestatic 93, 3) := by decide +kernel
theorem dX3_take_29 : decode cX3_take 29 = .ok (.iadd, 1) := by decide +kernel
theorem dX3_take_30 : decode cX3_take 30 = .ok (.putfield 51, 3) := by decide +kernel
theorem dX3_take_33 : decode cX3_take 33 = .ok (.return_, 1) := by decide +kernel
theorem dX4_init_0 : decode cX4_init 0 = .ok (.aload_n 0, 1) := by decide +kernel
theorem dX4_init_1 : decode cX4_init 1 = .ok (.invokespecial 3, 3) := by decide +kernel
theorem dX4_init_4 : decode cX4_init 4 = .ok (.aload_n 0, 1) := by decide +kernel
theorem dX4_init_5 : decode cX4_init 5 = .ok (.sipush 400, 3) := by decide +kernel
theorem dX4_init_8 : decode cX4_init 8 = .ok (.newarray .byte, 2) := by decide +kernel
theorem dX4_init_10 : decode cX4_init 10 = .ok (.putfield 9, 3) := by decide +kernel
theorem dX4_init_13 : decode cX4_init 13 = .ok (.aload_n 0, 1) := by decide +kernel
theorem dX4_init_14 : decode cX4_init 14 = .ok (.iconst 0, 1) := by decide +kernel
theorem dX4_init_15 : decode cX4_init 15 = .ok (.putfield 13, 3) := by decide +kernel
theorem dX4_init_18 : decode cX4_init 18 = .ok (.aload_n 0, 1) := by decide +kernel
theorem dX4_init_19 : decode cX4_init 19 = .ok (.iconst (-1), 1) := by decide +kernel
theorem dX4_init_20 : decode cX4_init 20 = .ok (.putfield 17, 3) := by decide +kernel
theorem dX4_init_23 : decode cX4_init 23 = .ok (.aload_n 0, 1) := by decide +kernel
theorem dX4_init_24 : decode cX4_init 24 = .ok (.new 20, 3) := by decide +kernel
theorem dX4_init_27 : decode cX4_init 27 = .ok (.dup, 1) := by decide +kernel
theorem dX4_init_28 : decode cX4_init 28 = .ok (.invokespecial 22, 3) := by decide +kernel
theorem dX4_init_31 : decode cX4_init 31 = .ok (.putfield 23, 3) := by decide +kernel
theorem dX4_init_34 : decode cX4_init 34 = .ok (.aload_n 0, 1) := by decide +kernel
theorem dX4_init_35 : decode cX4_init 35 = .ok (.bipush 8, 2) := by decide +kernel
theorem dX4_init_37 : decode cX4_init 37 = .ok (.anewarray 20, 3) := by decide +kernel
theorem dX4_init_40 : decode cX4_init 40 = .ok (.putfield 27, 3) := by decide +kernel
theorem dX4_init_43 : decode cX4_init 43 = .ok (.aload_n 0, 1) := by decide +kernel
theorem dX4_init_44 : decode cX4_init 44 = .ok (.iconst 0, 1) := by decide +kernel
theorem dX4_init_45 : decode cX4_init 45 = .ok (.putfield 31, 3) := by decide +kernel
theorem dX4_init_48 : decode cX4_init 48 = .ok (.aload_n 0, 1) := by decide +kernel
theorem dX4_init_49 : decode cX4_init 49 = .ok (.new 34, 3) := by decide +kernel
theorem dX4_init_52 : decode cX4_init 52 = .ok (.dup, 1) := by decide +kernel
theorem dX4_init_53 : decode cX4_init 53 = .ok (.invokespecial 36, 3) := by decide +kernel
theorem dX4_init_56 : decode cX4_init 56 = .ok (.putfield 37, 3) := by decide +kernel
theorem dX4_init_59 : decode cX4_init 59 = .ok (.aload_n 0, 1) := by decide +kernel
theorem dX4_init_60 : decode cX4_init 60 = .ok (.new 41, 3) := by decide +kernel
theorem dX4_init_63 : decode cX4_init 63 = .ok (.dup, 1) := by decide +kernel
theorem dX4_init_64 : decode cX4_init 64 = .ok (.invokespecial 43, 3) := by decide +kernel
theorem dX4_init_67 : decode cX4_init 67 = .ok (.putfield 44, 3) := by decide +kernel
theorem dX4_init_70 : decode cX4_init 70 = .ok (.aload_n 0, 1) := by decide +kernel
theorem dX4_init_71 : decode cX4_init 71 = .ok (.new 48, 3) := by decide +kernel
theorem dX4_init_74 : decode cX4_init 74 = .ok (.dup, 1) := by decide +kernel
theorem dX4_init_75 : decode cX4_init 75 = .ok (.invokespecial 50, 3) := by decide +kernel
theorem dX4_init_78 : decode cX4_init 78 = .ok (.putfield 51, 3) := by decide +kernel
theorem dX4_init_81 : decode cX4_init 81 = .ok (.aload_n 0, 1) := by decide +kernel
theorem dX4_init_82 : decode cX4_init 82 = .ok (.iconst 0, 1) := by decide +kernel
theorem dX4_init_83 : decode cX4_init 83 = .ok (.putfield 55, 3) := by decide +kernel
theorem dX4_init_86 : decode cX4_init 86 = .ok (.iconst 0, 1) := by decide +kernel
theorem dX4_init_87 : decode cX4_init 87 = .ok (.istore_n 1, 1) := by decide +kernel
theorem dX4_init_88 : decode cX4_init 88 = .ok (.iload_n 1, 1) := by decide +kernel
theorem dX4_init_89 : decode cX4_init 89 = .ok (.bipush 8, 2) := by decide +kernel
theorem dX4_init_91 : decode cX4_init 91 = .ok (.if_icmp .ge 22, 3) := by decide +kernel
theorem dX4_init_94 : decode cX4_init 94 = .ok (.aload_n 0, 1) := by decide +kernel
theorem dX4_init_95 : decode cX4_init 95 = .ok (.getfield 27, 3) := by decide +kernel
theorem dX4_init_98 : decode cX4_init 98 = .ok (.iload_n 1, 1) := by decide +kernel
theorem dX4_init_99 : decode cX4_init 99 = .ok (.new 20, 3) := by decide +kernel
theorem dX4_init_102 : decode cX4_init 102 = .ok (.dup, 1) := by decide +kernel
theorem dX4_init_103 : decode cX4_init 103 = .ok (.invokespecial 22, 3) := by decide +kernel
theorem dX4_init_106 : decode cX4_init 106 = .ok (.aastore, 1) := by decide +kernel
theorem dX4_init_107 : decode cX4_init 107 = .ok (.iinc 1 1, 3) := by decide +kernel
theorem dX4_init_110 : decode cX4_init 110 = .ok (.goto (-22), 3) := by decide +kernel
theorem dX4_init_113 : decode cX4_init 113 = .ok (.return_, 1) := by decide +kernel
theorem dX4_append_0 : decode cX4_append 0 = .ok (.aload_n 0, 1) := by decide +kernel
theorem dX4_append_1 : decode cX4_append 1 = .ok (.getfield 13, 3) := by decide +kernel
theorem dX4_append_4 : decode cX4_append 4 = .ok (.bipush 20, 2) := by decide +kernel
theorem dX4_append_6 : decode cX4_append 6 = .ok (.iadd, 1) := by decide +kernel
theorem dX4_append_7 : decode cX4_append 7 = .ok (.sipush 400, 3) := by decide +kernel
theorem dX4_append_10 : decode cX4_append 10 = .ok (.if_icmp .le 5, 3) := by decide +kernel
theorem dX4_append_13 : decode cX4_append 13 = .ok (.iconst (-1), 1) := by decide +kernel
theorem dX4_append_14 : decode cX4_append 14 = .ok (.ireturn, 1) := by decide +kernel
theorem dX4_append_15 : decode cX4_append 15 = .ok (.aload_n 0, 1) := by decide +kernel
theorem dX4_append_16 : decode cX4_append 16 = .ok (.iload_n 1, 1) := by decide +kernel
theorem dX4_append_17 : decode cX4_append 17 = .ok (.invokevirtual 59, 3) := by decide +kernel
theorem dX4_append_20 : decode cX4_append 20 = .ok (.aload_n 0, 1) := by decide +kernel
theorem dX4_append_21 : decode cX4_append 21 = .ok (.iload_n 2, 1) := by decide +kernel
theorem dX4_append_22 : decode cX4_append 22 = .ok (.invokevirtual 59, 3) := by decide +kernel
theorem dX4_append_25 : decode cX4_append 25 = .ok (.aload_n 0, 1) := by decide +kernel
theorem dX4_append_26 : decode cX4_append 26 = .ok (.iload_n 3, 1) := by decide +kernel
theorem dX4_append_27 : decode cX4_append 27 = .ok (.invokevirtual 59, 3) := by decide +kernel
theorem dX4_append_30 : decode cX4_append 30 = .ok (.aload_n 0, 1) := by decide +kernel
theorem dX4_append_31 : decode cX4_append 31 = .ok (.iload 4, 2) := by decide +kernel
theorem dX4_append_33 : decode cX4_append 33 = .ok (.invokevirtual 59, 3) := by decide +kernel
theorem dX4_append_36 : decode cX4_append 36 = .ok (.aload_n 0, 1) := by decide +kernel
theorem dX4_append_37 : decode cX4_append 37 = .ok (.iload 5, 2) := by decide +kernel
theorem dX4_append_39 : decode cX4_append 39 = .ok (.invokevirtual 59, 3) := by decide +kernel
theorem dX4_append_42 : decode cX4_append 42 = .ok (.aload_n 0, 1) := by decide +kernel
theorem dX4_append_43 : decode cX4_append 43 = .ok (.getfield 13, 3) := by decide +kernel
theorem dX4_append_46 : decode cX4_append 46 = .ok (.ireturn, 1) := by decide +kernel
theorem dX4_load_0 : decode cX4_load 0 = .ok (.iload_n 1, 1) := by decide +kernel
theorem dX4_load_1 : decode cX4_load 1 = .ok (.ifCond .lt 11, 3) := by decide +kernel
theorem dX4_load_4 : decode cX4_load 4 = .ok (.iload_n 1, 1) := by decide +kernel
theorem dX4_load_5 : decode cX4_load 5 = .ok (.aload_n 0, 1) := by decide +kernel
theorem dX4_load_6 : decode cX4_load 6 = .ok (.getfield 13, 3) := by decide +kernel
theorem dX4_load_9 : decode cX4_load 9 = .ok (.if_icmp .le 11, 3) := by decide +kernel
theorem dX4_load_12 : decode cX4_load 12 = .ok (.new 63, 3) := by decide +kernel
theorem dX4_load_15 : decode cX4_load 15 = .ok (.dup, 1) := by decide +kernel
theorem dX4_load_16 : decode cX4_load 16 = .ok (.invokespecial 65, 3) := by decide +kernel
theorem dX4_load_19 : decode cX4_load 19 = .ok (.athrow, 1) := by decide +kernel
theorem dX4_load_20 : decode cX4_load 20 = .ok (.aload_n 0, 1) := by decide +kernel
theorem dX4_load_21 : decode cX4_load 21 = .ok (.getfield 37, 3) := by decide +kernel
theorem dX4_load_24 : decode cX4_load 24 = .ok (.aload_n 0, 1) := by decide +kernel
theorem dX4_load_25 : decode cX4_load 25 = .ok (.getfield 9, 3) := by decide +kernel
theorem dX4_load_28 : decode cX4_load 28 = .ok (.iload_n 1, 1) := by decide +kernel
theorem dX4_load_29 : decode cX4_load 29 = .ok (.invokevirtual 66, 3) := by decide +kernel
theorem dX4_load_32 : decode cX4_load 32 = .ok (.istore_n 2, 1) := by decide +kernel
theorem dX4_load_33 : decode cX4_load 33 = .ok (.aload_n 0, 1) := by decide +kernel
theorem dX4_load_34 : decode cX4_load 34 = .ok (.iconst 0, 1) := by decide +kernel
theorem dX4_load_35 : decode cX4_load 35 = .ok (.putfield 13, 3) := by decide +kernel
theorem dX4_load_38 : decode cX4_load 38 = .ok (.aload_n 0, 1) := by decide +kernel
theorem dX4_load_39 : decode cX4_load 39 = .ok (.aload_n 0, 1) := by decide +kernel
theorem dX4_load_40 : decode cX4_load 40 = .ok (.getfield 37, 3) := by decide +kernel
theorem dX4_load_43 : decode cX4_load 43 = .ok (.getfield 70, 3) := by decide +kernel
theorem dX4_load_46 : decode cX4_load 46 = .ok (.putfield 17, 3) := by decide +kernel
theorem dX4_load_49 : decode cX4_load 49 = .ok (.iload_n 2, 1) := by decide +kernel
theorem dX4_load_50 : decode cX4_load 50 = .ok (.ifCond .ge 5, 3) := by decide +kernel
theorem dX4_load_53 : decode cX4_load 53 = .ok (.iload_n 2, 1) := by decide +kernel
theorem dX4_load_54 : decode cX4_load 54 = .ok (.ireturn, 1) := by decide +kernel
theorem dX4_load_55 : decode cX4_load 55 = .ok (.aload_n 0, 1) := by decide +kernel
theorem dX4_load_56 : decode cX4_load 56 = .ok (.invokevirtual 73, 3) := by decide +kernel
theorem dX4_load_59 : decode cX4_load 59 = .ok (.aload_n 0, 1) := by decide +kernel
theorem dX4_load_60 : decode cX4_load 60 = .ok (.getfield 23, 3) := by decide +kernel
theorem dX4_load_63 : decode cX4_load 63 = .ok (.aload_n 0, 1) := by decide +kernel
theorem dX4_load_64 : decode cX4_load 64 = .ok (.getfield 37, 3) := by decide +kernel
theorem dX4_load_67 : decode cX4_load 67 = .ok (.getfield 76, 3) := by decide +kernel
theorem dX4_load_70 : decode cX4_load 70 = .ok (.invokevirtual 79, 3) := by decide +kernel
theorem dX4_load_73 : decode cX4_load 73 = .ok (.aload_n 0, 1) := by decide +kernel
theorem dX4_load_74 : decode cX4_load 74 = .ok (.getfield 23, 3) := by decide +kernel
theorem dX4_load_77 : decode cX4_load 77 = .ok (.invokevirtual 83, 3) := by decide +kernel
theorem dX4_load_80 : decode cX4_load 80 = .ok (.ireturn, 1) := by decide +kernel
theorem dX4_errorOffset_0 : decode cX4_errorOffset 0 = .ok (.aload_n 0, 1) := by decide +kernel
theorem dX4_errorOffset_1 : decode cX4_errorOffset 1 = .ok (.getfield 17, 3) := by decide +kernel
theorem dX4_errorOffset_4 : decode cX4_errorOffset 4 = .ok (.ireturn, 1) := by decide +kernel
theorem dX4_state_0 : decode cX4_state 0 = .ok (.iload_n 1, 1) := by decide +kernel
theorem dX4_state_1 : decode cX4_state 1 = .ok (.tableswitch 111 0 7 #[47, 55, 63, 71, 79, 87, 95, 103], 47) := by decide +kernel
theorem dX4_state_48 : decode cX4_state 48 = .ok (.aload_n 0, 1) := by decide +kernel
theorem dX4_state_49 : decode cX4_state 49 = .ok (.getfield 23, 3) := by decide +kernel
theorem dX4_state_52 : decode cX4_state 52 = .ok (.getfield 87, 3) := by decide +kernel
theorem dX4_state_55 : decode cX4_state 55 = .ok (.ireturn, 1) := by decide +kernel
theorem dX4_state_56 : decode cX4_state 56 = .ok (.aload_n 0, 1) := by decide +kernel
theorem dX4_state_57 : decode cX4_state 57 = .ok (.getfield 23, 3) := by decide +kernel
theorem dX4_state_60 : decode cX4_state 60 = .ok (.getfield 90, 3) := by decide +kernel
theorem dX4_state_63 : decode cX4_state 63 = .ok (.ireturn, 1) := by decide +kernel
theorem dX4_state_64 : decode cX4_state 64 = .ok (.aload_n 0, 1) := by decide +kernel
theorem dX4_state_65 : decode cX4_state 65 = .ok (.getfield 23, 3) := by decide +kernel
theorem dX4_state_68 : decode cX4_state 68 = .ok (.getfield 93, 3) := by decide +kernel
theorem dX4_state_71 : decode cX4_state 71 = .ok (.ireturn, 1) := by decide +kernel
theorem dX4_state_72 : decode cX4_state 72 = .ok (.aload_n 0, 1) := by decide +kernel
theorem dX4_state_73 : decode cX4_state 73 = .ok (.getfield 23, 3) := by decide +kernel
theorem dX4_state_76 : decode cX4_state 76 = .ok (.invokevirtual 96, 3) := by decide +kernel
theorem dX4_state_79 : decode cX4_state 79 = .ok (.ireturn, 1) := by decide +kernel
theorem dX4_state_80 : decode cX4_state 80 = .ok (.aload_n 0, 1) := by decide +kernel
theorem dX4_state_81 : decode cX4_state 81 = .ok (.getfield 23, 3) := by decide +kernel
theorem dX4_state_84 : decode cX4_state 84 = .ok (.getfield 99, 3) := by decide +kernel
theorem dX4_state_87 : decode cX4_state 87 = .ok (.ireturn, 1) := by decide +kernel
theorem dX4_state_88 : decode cX4_state 88 = .ok (.aload_n 0, 1) := by decide +kernel
theorem dX4_state_89 : decode cX4_state 89 = .ok (.getfield 23, 3) := by decide +kernel
theorem dX4_state_92 : decode cX4_state 92 = .ok (.getfield 102, 3) := by decide +kernel
theorem dX4_state_95 : decode cX4_state 95 = .ok (.ireturn, 1) := by decide +kernel
theorem dX4_state_96 : decode cX4_state 96 = .ok (.aload_n 0, 1) := by decide +kernel
theorem dX4_state_97 : decode cX4_state 97 = .ok (.getfield 23, 3) := by decide +kernel
theorem dX4_state_100 : decode cX4_state 100 = .ok (.getfield 105, 3) := by decide +kernel
theorem dX4_state_103 : decode cX4_state 103 = .ok (.ireturn, 1) := by decide +kernel
theorem dX4_state_104 : decode cX4_state 104 = .ok (.aload_n 0, 1) := by decide +kernel
theorem dX4_state_105 : decode cX4_state 105 = .ok (.getfield 23, 3) := by decide +kernel
theorem dX4_state_108 : decode cX4_state 108 = .ok (.invokevirtual 108, 3) := by decide +kernel
theorem dX4_state_111 : decode cX4_state 111 = .ok (.ireturn, 1) := by decide +kernel
theorem dX4_state_112 : decode cX4_state 112 = .ok (.new 63, 3) := by decide +kernel
theorem dX4_state_115 : decode cX4_state 115 = .ok (.dup, 1) := by decide +kernel
theorem dX4_state_116 : decode cX4_state 116 = .ok (.invokespecial 65, 3) := by decide +kernel
theorem dX4_state_119 : decode cX4_state 119 = .ok (.athrow, 1) := by decide +kernel
theorem dX4_letter_0 : decode cX4_letter 0 = .ok (.aload_n 0, 1) := by decide +kernel
theorem dX4_letter_1 : decode cX4_letter 1 = .ok (.getfield 23, 3) := by decide +kernel
theorem dX4_letter_4 : decode cX4_letter 4 = .ok (.iload_n 1, 1) := by decide +kernel
theorem dX4_letter_5 : decode cX4_letter 5 = .ok (.iload_n 2, 1) := by decide +kernel
theorem dX4_letter_6 : decode cX4_letter 6 = .ok (.invokevirtual 111, 3) := by decide +kernel
theorem dX4_letter_9 : decode cX4_letter 9 = .ok (.ifCond .ne 11, 3) := by decide +kernel
theorem dX4_letter_12 : decode cX4_letter 12 = .ok (.new 115, 3) := by decide +kernel
theorem dX4_letter_15 : decode cX4_letter 15 = .ok (.dup, 1) := by decide +kernel
theorem dX4_letter_16 : decode cX4_letter 16 = .ok (.invokespecial 117, 3) := by decide +kernel
theorem dX4_letter_19 : decode cX4_letter 19 = .ok (.athrow, 1) := by decide +kernel
theorem dX4_letter_20 : decode cX4_letter 20 = .ok (.aload_n 0, 1) := by decide +kernel
theorem dX4_letter_21 : decode cX4_letter 21 = .ok (.aload_n 0, 1) := by decide +kernel
theorem dX4_letter_22 : decode cX4_letter 22 = .ok (.getfield 23, 3) := by decide +kernel
theorem dX4_letter_25 : decode cX4_letter 25 = .ok (.iload_n 1, 1) := by decide +kernel
theorem dX4_letter_26 : decode cX4_letter 26 = .ok (.iload_n 2, 1) := by decide +kernel
theorem dX4_letter_27 : decode cX4_letter 27 = .ok (.invokevirtual 118, 3) := by decide +kernel
theorem dX4_letter_30 : decode cX4_letter 30 = .ok (.invokevirtual 122, 3) := by decide +kernel
theorem dX4_letter_33 : decode cX4_letter 33 = .ok (.ireturn, 1) := by decide +kernel
theorem dX4_place_0 : decode cX4_place 0 = .ok (.aload_n 0, 1) := by decide +kernel
theorem dX4_place_1 : decode cX4_place 1 = .ok (.getfield 23, 3) := by decide +kernel
theorem dX4_place_4 : decode cX4_place 4 = .ok (.iload_n 1, 1) := by decide +kernel
theorem dX4_place_5 : decode cX4_place 5 = .ok (.iload_n 2, 1) := by decide +kernel
theorem dX4_place_6 : decode cX4_place 6 = .ok (.invokevirtual 111, 3) := by decide +kernel
theorem dX4_place_9 : decode cX4_place 9 = .ok (.ifCond .ne 11, 3) := by decide +kernel
theorem dX4_place_12 : decode cX4_place 12 = .ok (.new 115, 3) := by decide +kernel
theorem dX4_place_15 : decode cX4_place 15 = .ok (.dup, 1) := by decide +kernel
theorem dX4_place_16 : decode cX4_place 16 = .ok (.invokespecial 117, 3) := by decide +kernel
theorem dX4_place_19 : decode cX4_place 19 = .ok (.athrow, 1) := by decide +kernel
theorem dX4_place_20 : decode cX4_place 20 = .ok (.aload_n 0, 1) := by decide +kernel
theorem dX4_place_21 : decode cX4_place 21 = .ok (.getfield 23, 3) := by decide +kernel
theorem dX4_place_24 : decode cX4_place 24 = .ok (.iload_n 1, 1) := by decide +kernel
theorem dX4_place_25 : decode cX4_place 25 = .ok (.iload_n 2, 1) := by decide +kernel
theorem dX4_place_26 : decode cX4_place 26 = .ok (.invokevirtual 118, 3) := by decide +kernel
theorem dX4_place_29 : decode cX4_place 29 = .ok (.istore 4, 2) := by decide +kernel
theorem dX4_place_31 : decode cX4_place 31 = .ok (.iload_n 3, 1) := by decide +kernel
theorem dX4_place_32 : decode cX4_place 32 = .ok (.tableswitch 115 0 4 #[36, 53, 63, 80, 98], 36) := by decide +kernel
theorem dX4_place_68 : decode cX4_place 68 = .ok (.aload_n 0, 1) := by decide +kernel
theorem dX4_place_69 : decode cX4_place 69 = .ok (.getfield 23, 3) := by decide +kernel
theorem dX4_place_72 : decode cX4_place 72 = .ok (.aload_n 0, 1) := by decide +kernel
theorem dX4_place_73 : decode cX4_place 73 = .ok (.getfield 23, 3) := by decide +kernel
theorem dX4_place_76 : decode cX4_place 76 = .ok (.iload 4, 2) := by decide +kernel
theorem dX4_place_78 : decode cX4_place 78 = .ok (.invokevirtual 126, 3) := by decide +kernel
theorem dX4_place_81 : decode cX4_place 81 = .ok (.invokevirtual 129, 3) := by decide +kernel
theorem dX4_place_84 : decode cX4_place 84 = .ok (.ireturn, 1) := by decide +kernel
theorem dX4_place_85 : decode cX4_place 85 = .ok (.aload_n 0, 1) := by decide +kernel
theorem dX4_place_86 : decode cX4_place 86 = .ok (.getfield 23, 3) := by decide +kernel
theorem dX4_place_89 : decode cX4_place 89 = .ok (.iload 4, 2) := by decide +kernel
theorem dX4_place_91 : decode cX4_place 91 = .ok (.invokevirtual 132, 3) := by decide +kernel
theorem dX4_place_94 : decode cX4_place 94 = .ok (.ireturn, 1) := by decide +kernel
theorem dX4_place_95 : decode cX4_place 95 = .ok (.aload_n 0, 1) := by decide +kernel
theorem dX4_place_96 : decode cX4_place 96 = .ok (.getfield 23, 3) := by decide +kernel
theorem dX4_place_99 : decode cX4_place 99 = .ok (.aload_n 0, 1) := by decide +kernel
theorem dX4_place_100 : decode cX4_place 100 = .ok (.getfield 23, 3) := by decide +kernel
theorem dX4_place_103 : decode cX4_place 103 = .ok (.iload 4, 2) := by decide +kernel
theorem dX4_place_105 : decode cX4_place 105 = .ok (.invokevirtual 135, 3) := by decide +kernel
theorem dX4_place_108 : decode cX4_place 108 = .ok (.invokevirtual 129, 3) := by decide +kernel
theorem dX4_place_111 : decode cX4_place 111 = .ok (.ireturn, 1) := by decide +kernel
theorem dX4_place_112 : decode cX4_place 112 = .ok (.aload_n 0, 1) := by decide +kernel
theorem dX4_place_113 : decode cX4_place 113 = .ok (.getfield 23, 3) := by decide +kernel
theorem dX4_place_116 : decode cX4_place 116 = .ok (.iload 4, 2) := by decide +kernel
theorem dX4_place_118 : decode cX4_place 118 = .ok (.invokevirtual 138, 3) := by decide +kernel
theorem dX4_place_121 : decode cX4_place 121 = .ok (.ifCond .eq 7, 3) := by decide +kernel
theorem dX4_place_124 : decode cX4_place 124 = .ok (.iconst 1, 1) := by decide +kernel
theorem dX4_place_125 : decode cX4_place 125 = .ok (.goto 4, 3) := by decide +kernel
theorem dX4_place_128 : decode cX4_place 128 = .ok (.iconst 0, 1) := by decide +kernel
theorem dX4_place_129 : decode cX4_place 129 = .ok (.ireturn, 1) := by decide +kernel
theorem dX4_place_130 : decode cX4_place 130 = .ok (.aload_n 0, 1) := by decide +kernel
theorem dX4_place_131 : decode cX4_place 131 = .ok (.getfield 23, 3) := by decide +kernel
theorem dX4_place_134 : decode cX4_place 134 = .ok (.aload_n 0, 1) := by decide +kernel
theorem dX4_place_135 : decode cX4_place 135 = .ok (.getfield 23, 3) := by decide +kernel
theorem dX4_place_138 : decode cX4_place 138 = .ok (.iload 4, 2) := by decide +kernel
theorem dX4_place_140 : decode cX4_place 140 = .ok (.invokevirtual 142, 3) := by decide +kernel
theorem dX4_place_143 : decode cX4_place 143 = .ok (.invokevirtual 145, 3) := by decide +kernel
theorem dX4_place_146 : decode cX4_place 146 = .ok (.ireturn, 1) := by decide +kernel
theorem dX4_place_147 : decode cX4_place 147 = .ok (.new 63, 3) := by decide +kernel
theorem dX4_place_150 : decode cX4_place 150 = .ok (.dup, 1) := by decide +kernel
theorem dX4_place_151 : decode cX4_place 151 = .ok (.invokespecial 65, 3) := by decide +kernel
theorem dX4_place_154 : decode cX4_place 154 = .ok (.athrow, 1) := by decide +kernel
theorem dX4_stock_0 : decode cX4_stock 0 = .ok (.iload_n 1, 1) := by decide +kernel
theorem dX4_stock_1 : decode cX4_stock 1 = .ok (.ifCond .lt 9, 3) := by decide +kernel
theorem dX4_stock_4 : decode cX4_stock 4 = .ok (.iload_n 1, 1) := by decide +kernel
theorem dX4_stock_5 : decode cX4_stock 5 = .ok (.bipush 26, 2) := by decide +kernel
theorem dX4_stock_7 : decode cX4_stock 7 = .ok (.if_icmp .lt 11, 3) := by decide +kernel
theorem dX4_stock_10 : decode cX4_stock 10 = .ok (.new 63, 3) := by decide +kernel
theorem dX4_stock_13 : decode cX4_stock 13 = .ok (.dup, 1) := by decide +kernel
theorem dX4_stock_14 : decode cX4_stock 14 = .ok (.invokespecial 65, 3) := by decide +kernel
theorem dX4_stock_17 : decode cX4_stock 17 = .ok (.athrow, 1) := by decide +kernel
theorem dX4_stock_18 : decode cX4_stock 18 = .ok (.iload_n 2, 1) := by decide +kernel
theorem dX4_stock_19 : decode cX4_stock 19 = .ok (.tableswitch 55 0 2 #[25, 34, 46], 25) := by decide +kernel
theorem dX4_stock_44 : decode cX4_stock 44 = .ok (.aload_n 0, 1) := by decide +kernel
theorem dX4_stock_45 : decode cX4_stock 45 = .ok (.getfield 23, 3) := by decide +kernel
theorem dX4_stock_48 : decode cX4_stock 48 = .ok (.iload_n 1, 1) := by decide +kernel
theorem dX4_stock_49 : decode cX4_stock 49 = .ok (.invokevirtual 148, 3) := by decide +kernel
theorem dX4_stock_52 : decode cX4_stock 52 = .ok (.ireturn, 1) := by decide +kernel
theorem dX4_stock_53 : decode cX4_stock 53 = .ok (.aload_n 0, 1) := by decide +kernel
theorem dX4_stock_54 : decode cX4_stock 54 = .ok (.getfield 23, 3) := by decide +kernel
theorem dX4_stock_57 : decode cX4_stock 57 = .ok (.iload_n 1, 1) := by decide +kernel
theorem dX4_stock_58 : decode cX4_stock 58 = .ok (.invokevirtual 151, 3) := by decide +kernel
theorem dX4_stock_61 : decode cX4_stock 61 = .ok (.invokestatic 155, 3) := by decide +kernel
theorem dX4_stock_64 : decode cX4_stock 64 = .ok (.ireturn, 1) := by decide +kernel
theorem dX4_stock_65 : decode cX4_stock 65 = .ok (.aload_n 0, 1) := by decide +kernel
theorem dX4_stock_66 : decode cX4_stock 66 = .ok (.getfield 23, 3) := by decide +kernel
theorem dX4_stock_69 : decode cX4_stock 69 = .ok (.iload_n 1, 1) := by decide +kernel
theorem dX4_stock_70 : decode cX4_stock 70 = .ok (.invokevirtual 145, 3) := by decide +kernel
theorem dX4_stock_73 : decode cX4_stock 73 = .ok (.ireturn, 1) := by decide +kernel
theorem dX4_stock_74 : decode cX4_stock 74 = .ok (.new 63, 3) := by decide +kernel
theorem dX4_stock_77 : decode cX4_stock 77 = .ok (.dup, 1) := by decide +kernel
theorem dX4_stock_78 : decode cX4_stock 78 = .ok (.invokespecial 65, 3) := by decide +kernel
theorem dX4_stock_81 : decode cX4_stock 81 = .ok (.athrow, 1) := by decide +kernel
theorem dX4_message_0 : decode cX4_message 0 = .ok (.aload_n 0, 1) := by decide +kernel
theorem dX4_message_1 : decode cX4_message 1 = .ok (.getfield 23, 3) := by decide +kernel
theorem dX4_message_4 : decode cX4_message 4 = .ok (.iload_n 1, 1) := by decide +kernel
theorem dX4_message_5 : decode cX4_message 5 = .ok (.invokevirtual 161, 3) := by decide +kernel
theorem dX4_message_8 : decode cX4_message 8 = .ok (.ifCond .ne 11, 3) := by decide +kernel
theorem dX4_message_11 : decode cX4_message 11 = .ok (.new 164, 3) := by decide +kernel
theorem dX4_message_14 : decode cX4_message 14 = .ok (.dup, 1) := by decide +kernel
theorem dX4_message_15 : decode cX4_message 15 = .ok (.invokespecial 166, 3) := by decide +kernel
theorem dX4_message_18 : decode cX4_message 18 = .ok (.athrow, 1) := by decide +kernel
theorem dX4_message_19 : decode cX4_message 19 = .ok (.aload_n 0, 1) := by decide +kernel
theorem dX4_message_20 : decode cX4_message 20 = .ok (.getfield 23, 3) := by decide +kernel
theorem dX4_message_23 : decode cX4_message 23 = .ok (.iload_n 1, 1) := by decide +kernel
theorem dX4_message_24 : decode cX4_message 24 = .ok (.invokevirtual 167, 3) := by decide +kernel
theorem dX4_message_27 : decode cX4_message 27 = .ok (.ireturn, 1) := by decide +kernel
theorem dX4_missing_0 : decode cX4_missing 0 = .ok (.iconst 0, 1) := by decide +kernel
theorem dX4_missing_1 : decode cX4_missing 1 = .ok (.istore_n 1, 1) := by decide +kernel
theorem dX4_missing_2 : decode cX4_missing 2 = .ok (.aload_n 0, 1) := by decide +kernel
theorem dX4_missing_3 : decode cX4_missing 3 = .ok (.getfield 44, 3) := by decide +kernel
theorem dX4_missing_6 : decode cX4_missing 6 = .ok (.invokevirtual 170, 3) := by decide +kernel
theorem dX4_missing_9 : decode cX4_missing 9 = .ok (.iconst 0, 1) := by decide +kernel
theorem dX4_missing_10 : decode cX4_missing 10 = .ok (.istore_n 2, 1) := by decide +kernel
theorem dX4_missing_11 : decode cX4_missing 11 = .ok (.iload_n 2, 1) := by decide +kernel
theorem dX4_missing_12 : decode cX4_missing 12 = .ok (.aload_n 0, 1) := by decide +kernel
theorem dX4_missing_13 : decode cX4_missing 13 = .ok (.getfield 23, 3) := by decide +kernel
theorem dX4_missing_16 : decode cX4_missing 16 = .ok (.getfield 99, 3) := by decide +kernel
theorem dX4_missing_19 : decode cX4_missing 19 = .ok (.if_icmp .ge 37, 3) := by decide +kernel
theorem dX4_missing_22 : decode cX4_missing 22 = .ok (.aload_n 0, 1) := by decide +kernel
theorem dX4_missing_23 : decode cX4_missing 23 = .ok (.getfield 44, 3) := by decide +kernel
theorem dX4_missing_26 : decode cX4_missing 26 = .ok (.aload_n 0, 1) := by decide +kernel
theorem dX4_missing_27 : decode cX4_missing 27 = .ok (.getfield 23, 3) := by decide +kernel
theorem dX4_missing_30 : decode cX4_missing 30 = .ok (.aload_n 0, 1) := by decide +kernel
theorem dX4_missing_31 : decode cX4_missing 31 = .ok (.getfield 23, 3) := by decide +kernel
theorem dX4_missing_34 : decode cX4_missing 34 = .ok (.iload_n 2, 1) := by decide +kernel
theorem dX4_missing_35 : decode cX4_missing 35 = .ok (.invokevirtual 167, 3) := by decide +kernel
theorem dX4_missing_38 : decode cX4_missing 38 = .ok (.invokevirtual 151, 3) := by decide +kernel
theorem dX4_missing_41 : decode cX4_missing 41 = .ok (.invokevirtual 173, 3) := by decide +kernel
theorem dX4_missing_44 : decode cX4_missing 44 = .ok (.ifCond .ne 6, 3) := by decide +kernel
theorem dX4_missing_47 : decode cX4_missing 47 = .ok (.iinc 1 1, 3) := by decide +kernel
theorem dX4_missing_50 : decode cX4_missing 50 = .ok (.iinc 2 1, 3) := by decide +kernel
theorem dX4_missing_53 : decode cX4_missing 53 = .ok (.goto (-42), 3) := by decide +kernel
theorem dX4_missing_56 : decode cX4_missing 56 = .ok (.iload_n 1, 1) := by decide +kernel
theorem dX4_missing_57 : decode cX4_missing 57 = .ok (.ireturn, 1) := by decide +kernel
theorem dX4_fewest_0 : decode cX4_fewest 0 = .ok (.aload_n 0, 1) := by decide +kernel
theorem dX4_fewest_1 : decode cX4_fewest 1 = .ok (.invokevirtual 177, 3) := by decide +kernel
theorem dX4_fewest_4 : decode cX4_fewest 4 = .ok (.ireturn, 1) := by decide +kernel
theorem dX4_cutOf_0 : decode cX4_cutOf 0 = .ok (.iload_n 1, 1) := by decide +kernel
theorem dX4_cutOf_1 : decode cX4_cutOf 1 = .ok (.ifCond .lt 11, 3) := by decide +kernel
theorem dX4_cutOf_4 : decode cX4_cutOf 4 = .ok (.iload_n 1, 1) := by decide +kernel
theorem dX4_cutOf_5 : decode cX4_cutOf 5 = .ok (.aload_n 0, 1) := by decide +kernel
theorem dX4_cutOf_6 : decode cX4_cutOf 6 = .ok (.invokevirtual 177, 3) := by decide +kernel
theorem dX4_cutOf_9 : decode cX4_cutOf 9 = .ok (.if_icmp .lt 11, 3) := by decide +kernel
theorem dX4_cutOf_12 : decode cX4_cutOf 12 = .ok (.new 164, 3) := by decide +kernel
theorem dX4_cutOf_15 : decode cX4_cutOf 15 = .ok (.dup, 1) := by decide +kernel
theorem dX4_cutOf_16 : decode cX4_cutOf 16 = .ok (.invokespecial 166, 3) := by decide +kernel
theorem dX4_cutOf_19 : decode cX4_cutOf 19 = .ok (.athrow, 1) := by decide +kernel
theorem dX4_cutOf_20 : decode cX4_cutOf 20 = .ok (.iload_n 2, 1) := by decide +kernel
theorem dX4_cutOf_21 : decode cX4_cutOf 21 = .ok (.tableswitch 74 0 3 #[31, 40, 52, 68], 31) := by decide +kernel
theorem dX4_cutOf_52 : decode cX4_cutOf 52 = .ok (.aload_n 0, 1) := by decide +kernel
theorem dX4_cutOf_53 : decode cX4_cutOf 53 = .ok (.getfield 51, 3) := by decide +kernel
theorem dX4_cutOf_56 : decode cX4_cutOf 56 = .ok (.iload_n 1, 1) := by decide +kernel
theorem dX4_cutOf_57 : decode cX4_cutOf 57 = .ok (.invokevirtual 180, 3) := by decide +kernel
theorem dX4_cutOf_60 : decode cX4_cutOf 60 = .ok (.ireturn, 1) := by decide +kernel
theorem dX4_cutOf_61 : decode cX4_cutOf 61 = .ok (.aload_n 0, 1) := by decide +kernel
theorem dX4_cutOf_62 : decode cX4_cutOf 62 = .ok (.getfield 51, 3) := by decide +kernel
theorem dX4_cutOf_65 : decode cX4_cutOf 65 = .ok (.iload_n 1, 1) := by decide +kernel
theorem dX4_cutOf_66 : decode cX4_cutOf 66 = .ok (.invokevirtual 183, 3) := by decide +kernel
theorem dX4_cutOf_69 : decode cX4_cutOf 69 = .ok (.invokestatic 186, 3) := by decide +kernel
theorem dX4_cutOf_72 : decode cX4_cutOf 72 = .ok (.ireturn, 1) := by decide +kernel
theorem dX4_cutOf_73 : decode cX4_cutOf 73 = .ok (.aload_n 0, 1) := by decide +kernel
theorem dX4_cutOf_74 : decode cX4_cutOf 74 = .ok (.getfield 23, 3) := by decide +kernel
theorem dX4_cutOf_77 : decode cX4_cutOf 77 = .ok (.aload_n 0, 1) := by decide +kernel
theorem dX4_cutOf_78 : decode cX4_cutOf 78 = .ok (.getfield 51, 3) := by decide +kernel
theorem dX4_cutOf_81 : decode cX4_cutOf 81 = .ok (.iload_n 1, 1) := by decide +kernel
theorem dX4_cutOf_82 : decode cX4_cutOf 82 = .ok (.invokevirtual 183, 3) := by decide +kernel
theorem dX4_cutOf_85 : decode cX4_cutOf 85 = .ok (.invokevirtual 129, 3) := by decide +kernel
theorem dX4_cutOf_88 : decode cX4_cutOf 88 = .ok (.ireturn, 1) := by decide +kernel
theorem dX4_cutOf_89 : decode cX4_cutOf 89 = .ok (.aload_n 0, 1) := by decide +kernel
theorem dX4_cutOf_90 : decode cX4_cutOf 90 = .ok (.iload_n 1, 1) := by decide +kernel
theorem dX4_cutOf_91 : decode cX4_cutOf 91 = .ok (.invokevirtual 189, 3) := by decide +kernel
theorem dX4_cutOf_94 : decode cX4_cutOf 94 = .ok (.ireturn, 1) := by decide +kernel
theorem dX4_cutOf_95 : decode cX4_cutOf 95 = .ok (.new 63, 3) := by decide +kernel
theorem dX4_cutOf_98 : decode cX4_cutOf 98 = .ok (.dup, 1) := by decide +kernel
theorem dX4_cutOf_99 : decode cX4_cutOf 99 = .ok (.invokespecial 65, 3) := by decide +kernel
theorem dX4_cutOf_102 : decode cX4_cutOf 102 = .ok (.athrow, 1) := by decide +kernel
theorem dX4_unevenness_0 : decode cX4_unevenness 0 = .ok (.aload_n 0, 1) := by decide +kernel
theorem dX4_unevenness_1 : decode cX4_unevenness 1 = .ok (.invokevirtual 177, 3) := by decide +kernel
theorem dX4_unevenness_4 : decode cX4_unevenness 4 = .ok (.istore_n 1, 1) := by decide +kernel
theorem dX4_unevenness_5 : decode cX4_unevenness 5 = .ok (.iload_n 1, 1) := by decide +kernel
theorem dX4_unevenness_6 : decode cX4_unevenness 6 = .ok (.ifCond .ge 5, 3) := by decide +kernel
theorem dX4_unevenness_9 : decode cX4_unevenness 9 = .ok (.iconst (-1), 1) := by decide +kernel
theorem dX4_unevenness_10 : decode cX4_unevenness 10 = .ok (.ireturn, 1) := by decide +kernel
theorem dX4_unevenness_11 : decode cX4_unevenness 11 = .ok (.iconst 0, 1) := by decide +kernel
theorem dX4_unevenness_12 : decode cX4_unevenness 12 = .ok (.istore_n 2, 1) := by decide +kernel
theorem dX4_unevenness_13 : decode cX4_unevenness 13 = .ok (.iconst 1, 1) := by decide +kernel
theorem dX4_unevenness_14 : decode cX4_unevenness 14 = .ok (.istore_n 3, 1) := by decide +kernel
theorem dX4_unevenness_15 : decode cX4_unevenness 15 = .ok (.iload_n 3, 1) := by decide +kernel
theorem dX4_unevenness_16 : decode cX4_unevenness 16 = .ok (.iload_n 1, 1) := by decide +kernel
theorem dX4_unevenness_17 : decode cX4_unevenness 17 = .ok (.if_icmp .ge 28, 3) := by decide +kernel
theorem dX4_unevenness_20 : decode cX4_unevenness 20 = .ok (.iload_n 2, 1) := by decide +kernel
theorem dX4_unevenness_21 : decode cX4_unevenness 21 = .ok (.aload_n 0, 1) := by decide +kernel
theorem dX4_unevenness_22 : decode cX4_unevenness 22 = .ok (.iload_n 3, 1) := by decide +kernel
theorem dX4_unevenness_23 : decode cX4_unevenness 23 = .ok (.invokevirtual 192, 3) := by decide +kernel
theorem dX4_unevenness_26 : decode cX4_unevenness 26 = .ok (.aload_n 0, 1) := by decide +kernel
theorem dX4_unevenness_27 : decode cX4_unevenness 27 = .ok (.iload_n 3, 1) := by decide +kernel
theorem dX4_unevenness_28 : decode cX4_unevenness 28 = .ok (.iconst 1, 1) := by decide +kernel
theorem dX4_unevenness_29 : decode cX4_unevenness 29 = .ok (.isub, 1) := by decide +kernel
theorem dX4_unevenness_30 : decode cX4_unevenness 30 = .ok (.invokevirtual 192, 3) := by decide +kernel
theorem dX4_unevenness_33 : decode cX4_unevenness 33 = .ok (.isub, 1) := by decide +kernel
theorem dX4_unevenness_34 : decode cX4_unevenness 34 = .ok (.invokestatic 195, 3) := by decide +kernel
theorem dX4_unevenness_37 : decode cX4_unevenness 37 = .ok (.iadd, 1) := by decide +kernel
theorem dX4_unevenness_38 : decode cX4_unevenness 38 = .ok (.istore_n 2, 1) := by decide +kernel
theorem dX4_unevenness_39 : decode cX4_unevenness 39 = .ok (.iinc 3 1, 3) := by decide +kernel
theorem dX4_unevenness_42 : decode cX4_unevenness 42 = .ok (.goto (-27), 3) := by decide +kernel
theorem dX4_unevenness_45 : decode cX4_unevenness 45 = .ok (.iload_n 2, 1) := by decide +kernel
theorem dX4_unevenness_46 : decode cX4_unevenness 46 = .ok (.ireturn, 1) := by decide +kernel
theorem dX4_copies_0 : decode cX4_copies 0 = .ok (.aload_n 0, 1) := by decide +kernel
theorem dX4_copies_1 : decode cX4_copies 1 = .ok (.invokevirtual 177, 3) := by decide +kernel
theorem dX4_copies_4 : decode cX4_copies 4 = .ok (.ifCond .gt 5, 3) := by decide +kernel
theorem dX4_copies_7 : decode cX4_copies 7 = .ok (.iconst 0, 1) := by decide +kernel
theorem dX4_copies_8 : decode cX4_copies 8 = .ok (.ireturn, 1) := by decide +kernel
theorem dX4_copies_9 : decode cX4_copies 9 = .ok (.aload_n 0, 1) := by decide +kernel
theorem dX4_copies_10 : decode cX4_copies 10 = .ok (.iconst 0, 1) := by decide +kernel
theorem dX4_copies_11 : decode cX4_copies 11 = .ok (.putfield 55, 3) := by decide +kernel
theorem dX4_copies_14 : decode cX4_copies 14 = .ok (.lconst 0, 1) := by decide +kernel
theorem dX4_copies_15 : decode cX4_copies 15 = .ok (.lstore_n 1, 1) := by decide +kernel
theorem dX4_copies_16 : decode cX4_copies 16 = .ok (.iconst 0, 1) := by decide +kernel
theorem dX4_copies_17 : decode cX4_copies 17 = .ok (.istore_n 3, 1) := by decide +kernel
theorem dX4_copies_18 : decode cX4_copies 18 = .ok (.iload_n 3, 1) := by decide +kernel
theorem dX4_copies_19 : decode cX4_copies 19 = .ok (.bipush 48, 2) := by decide +kernel
theorem dX4_copies_21 : decode cX4_copies 21 = .ok (.if_icmp .ge 30, 3) := by decide +kernel
theorem dX4_copies_24 : decode cX4_copies 24 = .ok (.aload_n 0, 1) := by decide +kernel
theorem dX4_copies_25 : decode cX4_copies 25 = .ok (.getfield 51, 3) := by decide +kernel
theorem dX4_copies_28 : decode cX4_copies 28 = .ok (.lload_n 1, 1) := by decide +kernel
theorem dX4_copies_29 : decode cX4_copies 29 = .ok (.invokevirtual 200, 3) := by decide +kernel
theorem dX4_copies_32 : decode cX4_copies 32 = .ok (.ifCond .le 19, 3) := by decide +kernel
theorem dX4_copies_35 : decode cX4_copies 35 = .ok (.lload_n 1, 1) := by decide +kernel
theorem dX4_copies_36 : decode cX4_copies 36 = .ok (.aload_n 0, 1) := by decide +kernel
theorem dX4_copies_37 : decode cX4_copies 37 = .ok (.getfield 51, 3) := by decide +kernel
theorem dX4_copies_40 : decode cX4_copies 40 = .ok (.getfield 203, 3) := by decide +kernel
theorem dX4_copies_43 : decode cX4_copies 43 = .ok (.lor, 1) := by decide +kernel
theorem dX4_copies_44 : decode cX4_copies 44 = .ok (.lstore_n 1, 1) := by decide +kernel
theorem dX4_copies_45 : decode cX4_copies 45 = .ok (.iinc 3 1, 3) := by decide +kernel
theorem dX4_copies_48 : decode cX4_copies 48 = .ok (.goto (-30), 3) := by decide +kernel
theorem dX4_copies_51 : decode cX4_copies 51 = .ok (.iload_n 3, 1) := by decide +kernel
theorem dX4_copies_52 : decode cX4_copies 52 = .ok (.ireturn, 1) := by decide +kernel
theorem dX4_longest_0 : decode cX4_longest 0 = .ok (.aload_n 0, 1) := by decide +kernel
theorem dX4_longest_1 : decode cX4_longest 1 = .ok (.getfield 23, 3) := by decide +kernel
theorem dX4_longest_4 : decode cX4_longest 4 = .ok (.iload_n 1, 1) := by decide +kernel
theorem dX4_longest_5 : decode cX4_longest 5 = .ok (.invokevirtual 161, 3) := by decide +kernel
theorem dX4_longest_8 : decode cX4_longest 8 = .ok (.ifCond .ne 11, 3) := by decide +kernel
theorem dX4_longest_11 : decode cX4_longest 11 = .ok (.new 164, 3) := by decide +kernel
theorem dX4_longest_14 : decode cX4_longest 14 = .ok (.dup, 1) := by decide +kernel
theorem dX4_longest_15 : decode cX4_longest 15 = .ok (.invokespecial 166, 3) := by decide +kernel
theorem dX4_longest_18 : decode cX4_longest 18 = .ok (.athrow, 1) := by decide +kernel
theorem dX4_longest_19 : decode cX4_longest 19 = .ok (.iconst 0, 1) := by decide +kernel
theorem dX4_longest_20 : decode cX4_longest 20 = .ok (.istore_n 2, 1) := by decide +kernel
theorem dX4_longest_21 : decode cX4_longest 21 = .ok (.iconst 0, 1) := by decide +kernel
theorem dX4_longest_22 : decode cX4_longest 22 = .ok (.istore_n 3, 1) := by decide +kernel
theorem dX4_longest_23 : decode cX4_longest 23 = .ok (.iload_n 3, 1) := by decide +kernel
theorem dX4_longest_24 : decode cX4_longest 24 = .ok (.bipush 96, 2) := by decide +kernel
theorem dX4_longest_26 : decode cX4_longest 26 = .ok (.if_icmp .ge 23, 3) := by decide +kernel
theorem dX4_longest_29 : decode cX4_longest 29 = .ok (.iload_n 2, 1) := by decide +kernel
theorem dX4_longest_30 : decode cX4_longest 30 = .ok (.aload_n 0, 1) := by decide +kernel
theorem dX4_longest_31 : decode cX4_longest 31 = .ok (.getfield 23, 3) := by decide +kernel
theorem dX4_longest_34 : decode cX4_longest 34 = .ok (.iload_n 3, 1) := by decide +kernel
theorem dX4_longest_35 : decode cX4_longest 35 = .ok (.iload_n 1, 1) := by decide +kernel
theorem dX4_longest_36 : decode cX4_longest 36 = .ok (.invokevirtual 207, 3) := by decide +kernel
theorem dX4_longest_39 : decode cX4_longest 39 = .ok (.invokestatic 210, 3) := by decide +kernel
theorem dX4_longest_42 : decode cX4_longest 42 = .ok (.istore_n 2, 1) := by decide +kernel
theorem dX4_longest_43 : decode cX4_longest 43 = .ok (.iinc 3 1, 3) := by decide +kernel
theorem dX4_longest_46 : decode cX4_longest 46 = .ok (.goto (-23), 3) := by decide +kernel
theorem dX4_longest_49 : decode cX4_longest 49 = .ok (.iload_n 2, 1) := by decide +kernel
theorem dX4_longest_50 : decode cX4_longest 50 = .ok (.ireturn, 1) := by decide +kernel
theorem dX4_clashes_0 : decode cX4_clashes 0 = .ok (.iconst 0, 1) := by decide +kernel
theorem dX4_clashes_1 : decode cX4_clashes 1 = .ok (.istore_n 1, 1) := by decide +kernel
theorem dX4_clashes_2 : decode cX4_clashes 2 = .ok (.iconst 0, 1) := by decide +kernel
theorem dX4_clashes_3 : decode cX4_clashes 3 = .ok (.istore_n 2, 1) := by decide +kernel
theorem dX4_clashes_4 : decode cX4_clashes 4 = .ok (.iload_n 2, 1) := by decide +kernel
theorem dX4_clashes_5 : decode cX4_clashes 5 = .ok (.bipush 48, 2) := by decide +kernel
theorem dX4_clashes_7 : decode cX4_clashes 7 = .ok (.if_icmp .ge 35, 3) := by decide +kernel
theorem dX4_clashes_10 : decode cX4_clashes 10 = .ok (.aload_n 0, 1) := by decide +kernel
theorem dX4_clashes_11 : decode cX4_clashes 11 = .ok (.iload_n 2, 1) := by decide +kernel
theorem dX4_clashes_12 : decode cX4_clashes 12 = .ok (.invokevirtual 213, 3) := by decide +kernel
theorem dX4_clashes_15 : decode cX4_clashes 15 = .ok (.ifCond .eq 21, 3) := by decide +kernel
theorem dX4_clashes_18 : decode cX4_clashes 18 = .ok (.aload_n 0, 1) := by decide +kernel
theorem dX4_clashes_19 : decode cX4_clashes 19 = .ok (.aload_n 0, 1) := by decide +kernel
theorem dX4_clashes_20 : decode cX4_clashes 20 = .ok (.getfield 23, 3) := by decide +kernel
theorem dX4_clashes_23 : decode cX4_clashes 23 = .ok (.iload_n 2, 1) := by decide +kernel
theorem dX4_clashes_24 : decode cX4_clashes 24 = .ok (.invokevirtual 135, 3) := by decide +kernel
theorem dX4_clashes_27 : decode cX4_clashes 27 = .ok (.invokevirtual 213, 3) := by decide +kernel
theorem dX4_clashes_30 : decode cX4_clashes 30 = .ok (.ifCond .eq 6, 3) := by decide +kernel
theorem dX4_clashes_33 : decode cX4_clashes 33 = .ok (.iinc 1 1, 3) := by decide +kernel
theorem dX4_clashes_36 : decode cX4_clashes 36 = .ok (.iinc 2 1, 3) := by decide +kernel
theorem dX4_clashes_39 : decode cX4_clashes 39 = .ok (.goto (-35), 3) := by decide +kernel
theorem dX4_clashes_42 : decode cX4_clashes 42 = .ok (.iload_n 1, 1) := by decide +kernel
theorem dX4_clashes_43 : decode cX4_clashes 43 = .ok (.ireturn, 1) := by decide +kernel
theorem dX4_meanSize_0 : decode cX4_meanSize 0 = .ok (.aload_n 0, 1) := by decide +kernel
theorem dX4_meanSize_1 : decode cX4_meanSize 1 = .ok (.invokevirtual 177, 3) := by decide +kernel
theorem dX4_meanSize_4 : decode cX4_meanSize 4 = .ok (.istore_n 1, 1) := by decide +kernel
theorem dX4_meanSize_5 : decode cX4_meanSize 5 = .ok (.iload_n 1, 1) := by decide +kernel
theorem dX4_meanSize_6 : decode cX4_meanSize 6 = .ok (.ifCond .le 13, 3) := by decide +kernel
theorem dX4_meanSize_9 : decode cX4_meanSize 9 = .ok (.aload_n 0, 1) := by decide +kernel
theorem dX4_meanSize_10 : decode cX4_meanSize 10 = .ok (.getfield 23, 3) := by decide +kernel
theorem dX4_meanSize_13 : decode cX4_meanSize 13 = .ok (.getfield 99, 3) := by decide +kernel
theorem dX4_meanSize_16 : decode cX4_meanSize 16 = .ok (.ifCond .gt 5, 3) := by decide +kernel
theorem dX4_meanSize_19 : decode cX4_meanSize 19 = .ok (.dconst 0, 1) := by decide +kernel
theorem dX4_meanSize_20 : decode cX4_meanSize 20 = .ok (.dreturn, 1) := by decide +kernel
theorem dX4_meanSize_21 : decode cX4_meanSize 21 = .ok (.iconst 0, 1) := by decide +kernel
theorem dX4_meanSize_22 : decode cX4_meanSize 22 = .ok (.istore_n 2, 1) := by decide +kernel
theorem dX4_meanSize_23 : decode cX4_meanSize 23 = .ok (.iconst 0, 1) := by decide +kernel
theorem dX4_meanSize_24 : decode cX4_meanSize 24 = .ok (.istore_n 3, 1) := by decide +kernel
theorem dX4_meanSize_25 : decode cX4_meanSize 25 = .ok (.iload_n 3, 1) := by decide +kernel
theorem dX4_meanSize_26 : decode cX4_meanSize 26 = .ok (.iload_n 1, 1) := by decide +kernel
theorem dX4_meanSize_27 : decode cX4_meanSize 27 = .ok (.if_icmp .ge 17, 3) := by decide +kernel
theorem dX4_meanSize_30 : decode cX4_meanSize 30 = .ok (.iload_n 2, 1) := by decide +kernel
theorem dX4_meanSize_31 : decode cX4_meanSize 31 = .ok (.aload_n 0, 1) := by decide +kernel
theorem dX4_meanSize_32 : decode cX4_meanSize 32 = .ok (.iload_n 3, 1) := by decide +kernel
theorem dX4_meanSize_33 : decode cX4_meanSize 33 = .ok (.invokevirtual 189, 3) := by decide +kernel
theorem dX4_meanSize_36 : decode cX4_meanSize 36 = .ok (.iadd, 1) := by decide +kernel
theorem dX4_meanSize_37 : decode cX4_meanSize 37 = .ok (.istore_n 2, 1) := by decide +kernel
theorem dX4_meanSize_38 : decode cX4_meanSize 38 = .ok (.iinc 3 1, 3) := by decide +kernel
theorem dX4_meanSize_41 : decode cX4_meanSize 41 = .ok (.goto (-16), 3) := by decide +kernel
theorem dX4_meanSize_44 : decode cX4_meanSize 44 = .ok (.iload_n 2, 1) := by decide +kernel
theorem dX4_meanSize_45 : decode cX4_meanSize 45 = .ok (.i2d, 1) := by decide +kernel
theorem dX4_meanSize_46 : decode cX4_meanSize 46 = .ok (.aload_n 0, 1) := by decide +kernel
theorem dX4_meanSize_47 : decode cX4_meanSize 47 = .ok (.getfield 23, 3) := by decide +kernel
theorem dX4_meanSize_50 : decode cX4_meanSize 50 = .ok (.getfield 99, 3) := by decide +kernel
theorem dX4_meanSize_53 : decode cX4_meanSize 53 = .ok (.i2d, 1) := by decide +kernel
theorem dX4_meanSize_54 : decode cX4_meanSize 54 = .ok (.ddiv, 1) := by decide +kernel
theorem dX4_meanSize_55 : decode cX4_meanSize 55 = .ok (.dreturn, 1) := by decide +kernel
theorem dX4_tell_0 : decode cX4_tell 0 = .ok (.iload_n 1, 1) := by decide +kernel
theorem dX4_tell_1 : decode cX4_tell 1 = .ok (.iconst 1, 1) := by decide +kernel
theorem dX4_tell_2 : decode cX4_tell 2 = .ok (.if_icmp .lt 25, 3) := by decide +kernel
theorem dX4_tell_5 : decode cX4_tell 5 = .ok (.iload_n 1, 1) := by decide +kernel
theorem dX4_tell_6 : decode cX4_tell 6 = .ok (.bipush 24, 2) := by decide +kernel
theorem dX4_tell_8 : decode cX4_tell 8 = .ok (.if_icmp .gt 19, 3) := by decide +kernel
theorem dX4_tell_11 : decode cX4_tell 11 = .ok (.iload_n 1, 1) := by decide +kernel
theorem dX4_tell_12 : decode cX4_tell 12 = .ok (.aload_n 0, 1) := by decide +kernel
theorem dX4_tell_13 : decode cX4_tell 13 = .ok (.getfield 13, 3) := by decide +kernel
theorem dX4_tell_16 : decode cX4_tell 16 = .ok (.if_icmp .gt 11, 3) := by decide +kernel
theorem dX4_tell_19 : decode cX4_tell 19 = .ok (.aload_n 0, 1) := by decide +kernel
theorem dX4_tell_20 : decode cX4_tell 20 = .ok (.iload_n 1, 1) := by decide +kernel
theorem dX4_tell_21 : decode cX4_tell 21 = .ok (.invokevirtual 216, 3) := by decide +kernel
theorem dX4_tell_24 : decode cX4_tell 24 = .ok (.ifCond .ne 11, 3) := by decide +kernel
theorem dX4_tell_27 : decode cX4_tell 27 = .ok (.new 63, 3) := by decide +kernel
theorem dX4_tell_30 : decode cX4_tell 30 = .ok (.dup, 1) := by decide +kernel
theorem dX4_tell_31 : decode cX4_tell 31 = .ok (.invokespecial 65, 3) := by decide +kernel
theorem dX4_tell_34 : decode cX4_tell 34 = .ok (.athrow, 1) := by decide +kernel
theorem dX4_tell_35 : decode cX4_tell 35 = .ok (.aload_n 0, 1) := by decide +kernel
theorem dX4_tell_36 : decode cX4_tell 36 = .ok (.invokevirtual 73, 3) := by decide +kernel
theorem dX4_tell_39 : decode cX4_tell 39 = .ok (.iconst 0, 1) := by decide +kernel
theorem dX4_tell_40 : decode cX4_tell 40 = .ok (.istore_n 2, 1) := by decide +kernel
theorem dX4_tell_41 : decode cX4_tell 41 = .ok (.iload_n 2, 1) := by decide +kernel
theorem dX4_tell_42 : decode cX4_tell 42 = .ok (.iload_n 1, 1) := by decide +kernel
theorem dX4_tell_43 : decode cX4_tell 43 = .ok (.if_icmp .ge 27, 3) := by decide +kernel
theorem dX4_tell_46 : decode cX4_tell 46 = .ok (.aload_n 0, 1) := by decide +kernel
theorem dX4_tell_47 : decode cX4_tell 47 = .ok (.getfield 23, 3) := by decide +kernel
theorem dX4_tell_50 : decode cX4_tell 50 = .ok (.getfield 219, 3) := by decide +kernel
theorem dX4_tell_53 : decode cX4_tell 53 = .ok (.iload_n 2, 1) := by decide +kernel
theorem dX4_tell_54 : decode cX4_tell 54 = .ok (.aload_n 0, 1) := by decide +kernel
theorem dX4_tell_55 : decode cX4_tell 55 = .ok (.getfield 9, 3) := by decide +kernel
theorem dX4_tell_58 : decode cX4_tell 58 = .ok (.iload_n 2, 1) := by decide +kernel
theorem dX4_tell_59 : decode cX4_tell 59 = .ok (.baload, 1) := by decide +kernel
theorem dX4_tell_60 : decode cX4_tell 60 = .ok (.bipush 97, 2) := by decide +kernel
theorem dX4_tell_62 : decode cX4_tell 62 = .ok (.isub, 1) := by decide +kernel
theorem dX4_tell_63 : decode cX4_tell 63 = .ok (.iastore, 1) := by decide +kernel
theorem dX4_tell_64 : decode cX4_tell 64 = .ok (.iinc 2 1, 3) := by decide +kernel
theorem dX4_tell_67 : decode cX4_tell 67 = .ok (.goto (-26), 3) := by decide +kernel
theorem dX4_tell_70 : decode cX4_tell 70 = .ok (.aload_n 0, 1) := by decide +kernel
theorem dX4_tell_71 : decode cX4_tell 71 = .ok (.getfield 23, 3) := by decide +kernel
theorem dX4_tell_74 : decode cX4_tell 74 = .ok (.iload_n 1, 1) := by decide +kernel
theorem dX4_tell_75 : decode cX4_tell 75 = .ok (.putfield 99, 3) := by decide +kernel
theorem dX4_tell_78 : decode cX4_tell 78 = .ok (.aload_n 0, 1) := by decide +kernel
theorem dX4_tell_79 : decode cX4_tell 79 = .ok (.iconst 0, 1) := by decide +kernel
theorem dX4_tell_80 : decode cX4_tell 80 = .ok (.putfield 13, 3) := by decide +kernel
theorem dX4_tell_83 : decode cX4_tell 83 = .ok (.aload_n 0, 1) := by decide +kernel
theorem dX4_tell_84 : decode cX4_tell 84 = .ok (.invokevirtual 223, 3) := by decide +kernel
theorem dX4_tell_87 : decode cX4_tell 87 = .ok (.ireturn, 1) := by decide +kernel
theorem dX4_cut_0 : decode cX4_cut 0 = .ok (.aload_n 0, 1) := by decide +kernel
theorem dX4_cut_1 : decode cX4_cut 1 = .ok (.invokevirtual 177, 3) := by decide +kernel
theorem dX4_cut_4 : decode cX4_cut 4 = .ok (.istore_n 1, 1) := by decide +kernel
theorem dX4_cut_5 : decode cX4_cut 5 = .ok (.iload_n 1, 1) := by decide +kernel
theorem dX4_cut_6 : decode cX4_cut 6 = .ok (.ifCond .gt 11, 3) := by decide +kernel
theorem dX4_cut_9 : decode cX4_cut 9 = .ok (.new 226, 3) := by decide +kernel
theorem dX4_cut_12 : decode cX4_cut 12 = .ok (.dup, 1) := by decide +kernel
theorem dX4_cut_13 : decode cX4_cut 13 = .ok (.invokespecial 228, 3) := by decide +kernel
theorem dX4_cut_16 : decode cX4_cut 16 = .ok (.athrow, 1) := by decide +kernel
theorem dX4_cut_17 : decode cX4_cut 17 = .ok (.aload_n 0, 1) := by decide +kernel
theorem dX4_cut_18 : decode cX4_cut 18 = .ok (.invokevirtual 73, 3) := by decide +kernel
theorem dX4_cut_21 : decode cX4_cut 21 = .ok (.aload_n 0, 1) := by decide +kernel
theorem dX4_cut_22 : decode cX4_cut 22 = .ok (.getfield 23, 3) := by decide +kernel
theorem dX4_cut_25 : decode cX4_cut 25 = .ok (.aload_n 0, 1) := by decide +kernel
theorem dX4_cut_26 : decode cX4_cut 26 = .ok (.getfield 51, 3) := by decide +kernel
theorem dX4_cut_29 : decode cX4_cut 29 = .ok (.getfield 203, 3) := by decide +kernel
theorem dX4_cut_32 : decode cX4_cut 32 = .ok (.iload_n 1, 1) := by decide +kernel
theorem dX4_cut_33 : decode cX4_cut 33 = .ok (.invokevirtual 229, 3) := by decide +kernel
theorem dX4_cut_36 : decode cX4_cut 36 = .ok (.iload_n 1, 1) := by decide +kernel
theorem dX4_cut_37 : decode cX4_cut 37 = .ok (.ireturn, 1) := by decide +kernel
theorem dX4_snip_0 : decode cX4_snip 0 = .ok (.aload_n 0, 1) := by decide +kernel
theorem dX4_snip_1 : decode cX4_snip 1 = .ok (.getfield 23, 3) := by decide +kernel
theorem dX4_snip_4 : decode cX4_snip 4 = .ok (.iload_n 1, 1) := by decide +kernel
theorem dX4_snip_5 : decode cX4_snip 5 = .ok (.iload_n 2, 1) := by decide +kernel
theorem dX4_snip_6 : decode cX4_snip 6 = .ok (.invokevirtual 111, 3) := by decide +kernel
theorem dX4_snip_9 : decode cX4_snip 9 = .ok (.ifCond .ne 11, 3) := by decide +kernel
theorem dX4_snip_12 : decode cX4_snip 12 = .ok (.new 115, 3) := by decide +kernel
theorem dX4_snip_15 : decode cX4_snip 15 = .ok (.dup, 1) := by decide +kernel
theorem dX4_snip_16 : decode cX4_snip 16 = .ok (.invokespecial 117, 3) := by decide +kernel
theorem dX4_snip_19 : decode cX4_snip 19 = .ok (.athrow, 1) := by decide +kernel
theorem dX4_snip_20 : decode cX4_snip 20 = .ok (.iload_n 3, 1) := by decide +kernel
theorem dX4_snip_21 : decode cX4_snip 21 = .ok (.iconst 1, 1) := by decide +kernel
theorem dX4_snip_22 : decode cX4_snip 22 = .ok (.if_icmp .lt 9, 3) := by decide +kernel
theorem dX4_snip_25 : decode cX4_snip 25 = .ok (.iload_n 3, 1) := by decide +kernel
theorem dX4_snip_26 : decode cX4_snip 26 = .ok (.bipush 8, 2) := by decide +kernel
theorem dX4_snip_28 : decode cX4_snip 28 = .ok (.if_icmp .le 11, 3) := by decide +kernel
theorem dX4_snip_31 : decode cX4_snip 31 = .ok (.new 63, 3) := by decide +kernel
theorem dX4_snip_34 : decode cX4_snip 34 = .ok (.dup, 1) := by decide +kernel
theorem dX4_snip_35 : decode cX4_snip 35 = .ok (.invokespecial 65, 3) := by decide +kernel
theorem dX4_snip_38 : decode cX4_snip 38 = .ok (.athrow, 1) := by decide +kernel
theorem dX4_snip_39 : decode cX4_snip 39 = .ok (.aload_n 0, 1) := by decide +kernel
theorem dX4_snip_40 : decode cX4_snip 40 = .ok (.getfield 23, 3) := by decide +kernel
theorem dX4_snip_43 : decode cX4_snip 43 = .ok (.iload_n 1, 1) := by decide +kernel
theorem dX4_snip_44 : decode cX4_snip 44 = .ok (.iload_n 2, 1) := by decide +kernel
theorem dX4_snip_45 : decode cX4_snip 45 = .ok (.invokevirtual 118, 3) := by decide +kernel
theorem dX4_snip_48 : decode cX4_snip 48 = .ok (.istore 4, 2) := by decide +kernel
theorem dX4_snip_50 : decode cX4_snip 50 = .ok (.aload_n 0, 1) := by decide +kernel
theorem dX4_snip_51 : decode cX4_snip 51 = .ok (.getfield 23, 3) := by decide +kernel
theorem dX4_snip_54 : decode cX4_snip 54 = .ok (.iload 4, 2) := by decide +kernel
theorem dX4_snip_56 : decode cX4_snip 56 = .ok (.iload_n 3, 1) := by decide +kernel
theorem dX4_snip_57 : decode cX4_snip 57 = .ok (.invokevirtual 233, 3) := by decide +kernel
theorem dX4_snip_60 : decode cX4_snip 60 = .ok (.ifCond .ne 11, 3) := by decide +kernel
theorem dX4_snip_63 : decode cX4_snip 63 = .ok (.new 226, 3) := by decide +kernel
theorem dX4_snip_66 : decode cX4_snip 66 = .ok (.dup, 1) := by decide +kernel
theorem dX4_snip_67 : decode cX4_snip 67 = .ok (.invokespecial 228, 3) := by decide +kernel
theorem dX4_snip_70 : decode cX4_snip 70 = .ok (.athrow, 1) := by decide +kernel
theorem dX4_snip_71 : decode cX4_snip 71 = .ok (.aload_n 0, 1) := by decide +kernel
theorem dX4_snip_72 : decode cX4_snip 72 = .ok (.invokevirtual 73, 3) := by decide +kernel
theorem dX4_snip_75 : decode cX4_snip 75 = .ok (.aload_n 0, 1) := by decide +kernel
theorem dX4_snip_76 : decode cX4_snip 76 = .ok (.getfield 23, 3) := by decide +kernel
theorem dX4_snip_79 : decode cX4_snip 79 = .ok (.aload_n 0, 1) := by decide +kernel
theorem dX4_snip_80 : decode cX4_snip 80 = .ok (.getfield 23, 3) := by decide +kernel
theorem dX4_snip_83 : decode cX4_snip 83 = .ok (.iload 4, 2) := by decide +kernel
theorem dX4_snip_85 : decode cX4_snip 85 = .ok (.iload_n 3, 1) := by decide +kernel
theorem dX4_snip_86 : decode cX4_snip 86 = .ok (.invokevirtual 236, 3) := by decide +kernel
theorem dX4_snip_89 : decode cX4_snip 89 = .ok (.iconst 1, 1) := by decide +kernel
theorem dX4_snip_90 : decode cX4_snip 90 = .ok (.invokevirtual 229, 3) := by decide +kernel
theorem dX4_snip_93 : decode cX4_snip 93 = .ok (.aload_n 0, 1) := by decide +kernel
theorem dX4_snip_94 : decode cX4_snip 94 = .ok (.getfield 23, 3) := by decide +kernel
theorem dX4_snip_97 : decode cX4_snip 97 = .ok (.invokevirtual 96, 3) := by decide +kernel
theorem dX4_snip_100 : decode cX4_snip 100 = .ok (.ireturn, 1) := by decide +kernel
theorem dX4_least_0 : decode cX4_least 0 = .ok (.iload_n 1, 1) := by decide +kernel
theorem dX4_least_1 : decode cX4_least 1 = .ok (.iconst 1, 1) := by decide +kernel
theorem dX4_least_2 : decode cX4_least 2 = .ok (.if_icmp .lt 9, 3) := by decide +kernel
theorem dX4_least_5 : decode cX4_least 5 = .ok (.iload_n 1, 1) := by decide +kernel
theorem dX4_least_6 : decode cX4_least 6 = .ok (.bipush 9, 2) := by decide +kernel
theorem dX4_least_8 : decode cX4_least 8 = .ok (.if_icmp .le 11, 3) := by decide +kernel
theorem dX4_least_11 : decode cX4_least 11 = .ok (.new 63, 3) := by decide +kernel
theorem dX4_least_14 : decode cX4_least 14 = .ok (.dup, 1) := by decide +kernel
theorem dX4_least_15 : decode cX4_least 15 = .ok (.invokespecial 65, 3) := by decide +kernel
theorem dX4_least_18 : decode cX4_least 18 = .ok (.athrow, 1) := by decide +kernel
theorem dX4_least_19 : decode cX4_least 19 = .ok (.aload_n 0, 1) := by decide +kernel
theorem dX4_least_20 : decode cX4_least 20 = .ok (.invokevirtual 73, 3) := by decide +kernel
theorem dX4_least_23 : decode cX4_least 23 = .ok (.aload_n 0, 1) := by decide +kernel
theorem dX4_least_24 : decode cX4_least 24 = .ok (.getfield 23, 3) := by decide +kernel
theorem dX4_least_27 : decode cX4_least 27 = .ok (.getfield 93, 3) := by decide +kernel
theorem dX4_least_30 : decode cX4_least 30 = .ok (.istore_n 2, 1) := by decide +kernel
theorem dX4_least_31 : decode cX4_least 31 = .ok (.aload_n 0, 1) := by decide +kernel
theorem dX4_least_32 : decode cX4_least 32 = .ok (.getfield 23, 3) := by decide +kernel
theorem dX4_least_35 : decode cX4_least 35 = .ok (.iload_n 1, 1) := by decide +kernel
theorem dX4_least_36 : decode cX4_least 36 = .ok (.putfield 93, 3) := by decide +kernel
theorem dX4_least_39 : decode cX4_least 39 = .ok (.iload_n 2, 1) := by decide +kernel
theorem dX4_least_40 : decode cX4_least 40 = .ok (.ireturn, 1) := by decide +kernel
theorem dX4_mend_0 : decode cX4_mend 0 = .ok (.iload_n 1, 1) := by decide +kernel
theorem dX4_mend_1 : decode cX4_mend 1 = .ok (.ifCond .lt 14, 3) := by decide +kernel
theorem dX4_mend_4 : decode cX4_mend 4 = .ok (.iload_n 1, 1) := by decide +kernel
theorem dX4_mend_5 : decode cX4_mend 5 = .ok (.aload_n 0, 1) := by decide +kernel
theorem dX4_mend_6 : decode cX4_mend 6 = .ok (.getfield 23, 3) := by decide +kernel
theorem dX4_mend_9 : decode cX4_mend 9 = .ok (.invokevirtual 83, 3) := by decide +kernel
theorem dX4_mend_12 : decode cX4_mend 12 = .ok (.if_icmp .lt 11, 3) := by decide +kernel
theorem dX4_mend_15 : decode cX4_mend 15 = .ok (.new 115, 3) := by decide +kernel
theorem dX4_mend_18 : decode cX4_mend 18 = .ok (.dup, 1) := by decide +kernel
theorem dX4_mend_19 : decode cX4_mend 19 = .ok (.invokespecial 117, 3) := by decide +kernel
theorem dX4_mend_22 : decode cX4_mend 22 = .ok (.athrow, 1) := by decide +kernel
theorem dX4_mend_23 : decode cX4_mend 23 = .ok (.aload_n 0, 1) := by decide +kernel
theorem dX4_mend_24 : decode cX4_mend 24 = .ok (.getfield 23, 3) := by decide +kernel
theorem dX4_mend_27 : decode cX4_mend 27 = .ok (.iconst 0, 1) := by decide +kernel
theorem dX4_mend_28 : decode cX4_mend 28 = .ok (.iload_n 1, 1) := by decide +kernel
theorem dX4_mend_29 : decode cX4_mend 29 = .ok (.invokevirtual 118, 3) := by decide +kernel
theorem dX4_mend_32 : decode cX4_mend 32 = .ok (.istore_n 2, 1) := by decide +kernel
theorem dX4_mend_33 : decode cX4_mend 33 = .ok (.aload_n 0, 1) := by decide +kernel
theorem dX4_mend_34 : decode cX4_mend 34 = .ok (.getfield 23, 3) := by decide +kernel
theorem dX4_mend_37 : decode cX4_mend 37 = .ok (.iload_n 2, 1) := by decide +kernel
theorem dX4_mend_38 : decode cX4_mend 38 = .ok (.invokevirtual 240, 3) := by decide +kernel
theorem dX4_mend_41 : decode cX4_mend 41 = .ok (.ifCond .eq 11, 3) := by decide +kernel
theorem dX4_mend_44 : decode cX4_mend 44 = .ok (.new 226, 3) := by decide +kernel
theorem dX4_mend_47 : decode cX4_mend 47 = .ok (.dup, 1) := by decide +kernel
theorem dX4_mend_48 : decode cX4_mend 48 = .ok (.invokespecial 228, 3) := by decide +kernel
theorem dX4_mend_51 : decode cX4_mend 51 = .ok (.athrow, 1) := by decide +kernel
theorem dX4_mend_52 : decode cX4_mend 52 = .ok (.aload_n 0, 1) := by decide +kernel
theorem dX4_mend_53 : decode cX4_mend 53 = .ok (.invokevirtual 73, 3) := by decide +kernel
theorem dX4_mend_56 : decode cX4_mend 56 = .ok (.aload_n 0, 1) := by decide +kernel
theorem dX4_mend_57 : decode cX4_mend 57 = .ok (.getfield 23, 3) := by decide +kernel
theorem dX4_mend_60 : decode cX4_mend 60 = .ok (.dup, 1) := by decide +kernel
theorem dX4_mend_61 : decode cX4_mend 61 = .ok (.getfield 243, 3) := by decide +kernel
theorem dX4_mend_64 : decode cX4_mend 64 = .ok (.lconst 1, 1) := by decide +kernel
theorem dX4_mend_65 : decode cX4_mend 65 = .ok (.iload_n 2, 1) := by decide +kernel
theorem dX4_mend_66 : decode cX4_mend 66 = .ok (.lshl, 1) := by decide +kernel
theorem dX4_mend_67 : decode cX4_mend 67 = .ok (.ldc2_w 246, 3) := by decide +kernel
theorem dX4_mend_70 : decode cX4_mend 70 = .ok (.lxor, 1) := by decide +kernel
theorem dX4_mend_71 : decode cX4_mend 71 = .ok (.land, 1) := by decide +kernel
theorem dX4_mend_72 : decode cX4_mend 72 = .ok (.putfield 243, 3) := by decide +kernel
theorem dX4_mend_75 : decode cX4_mend 75 = .ok (.aload_n 0, 1) := by decide +kernel
theorem dX4_mend_76 : decode cX4_mend 76 = .ok (.getfield 23, 3) := by decide +kernel
theorem dX4_mend_79 : decode cX4_mend 79 = .ok (.invokevirtual 96, 3) := by decide +kernel
theorem dX4_mend_82 : decode cX4_mend 82 = .ok (.ireturn, 1) := by decide +kernel
theorem dX4_undo_0 : decode cX4_undo 0 = .ok (.aload_n 0, 1) := by decide +kernel
theorem dX4_undo_1 : decode cX4_undo 1 = .ok (.getfield 31, 3) := by decide +kernel
theorem dX4_undo_4 : decode cX4_undo 4 = .ok (.ifCond .le 12, 3) := by decide +kernel
theorem dX4_undo_7 : decode cX4_undo 7 = .ok (.aload_n 0, 1) := by decide +kernel
theorem dX4_undo_8 : decode cX4_undo 8 = .ok (.getfield 31, 3) := by decide +kernel
theorem dX4_undo_11 : decode cX4_undo 11 = .ok (.bipush 8, 2) := by decide +kernel
theorem dX4_undo_13 : decode cX4_undo 13 = .ok (.if_icmp .le 5, 3) := by decide +kernel
theorem dX4_undo_16 : decode cX4_undo 16 = .ok (.iconst (-1), 1) := by decide +kernel
theorem dX4_undo_17 : decode cX4_undo 17 = .ok (.ireturn, 1) := by decide +kernel
theorem dX4_undo_18 : decode cX4_undo 18 = .ok (.aload_n 0, 1) := by decide +kernel
theorem dX4_undo_19 : decode cX4_undo 19 = .ok (.dup, 1) := by decide +kernel
theorem dX4_undo_20 : decode cX4_undo 20 = .ok (.getfield 31, 3) := by decide +kernel
theorem dX4_undo_23 : decode cX4_undo 23 = .ok (.iconst 1, 1) := by decide +kernel
theorem dX4_undo_24 : decode cX4_undo 24 = .ok (.isub, 1) := by decide +kernel
theorem dX4_undo_25 : decode cX4_undo 25 = .ok (.putfield 31, 3) := by decide +kernel
theorem dX4_undo_28 : decode cX4_undo 28 = .ok (.aload_n 0, 1) := by decide +kernel
theorem dX4_undo_29 : decode cX4_undo 29 = .ok (.getfield 27, 3) := by decide +kernel
theorem dX4_undo_32 : decode cX4_undo 32 = .ok (.aload_n 0, 1) := by decide +kernel
theorem dX4_undo_33 : decode cX4_undo 33 = .ok (.getfield 31, 3) := by decide +kernel
theorem dX4_undo_36 : decode cX4_undo 36 = .ok (.aaload, 1) := by decide +kernel
theorem dX4_undo_37 : decode cX4_undo 37 = .ok (.astore_n 1, 1) := by decide +kernel
theorem dX4_undo_38 : decode cX4_undo 38 = .ok (.aload_n 1, 1) := by decide +kernel
theorem dX4_undo_39 : decode cX4_undo 39 = .ok (.ifnull 11, 3) := by decide +kernel
theorem dX4_undo_42 : decode cX4_undo 42 = .ok (.aload_n 0, 1) := by decide +kernel
theorem dX4_undo_43 : decode cX4_undo 43 = .ok (.getfield 23, 3) := by decide +kernel
theorem dX4_undo_46 : decode cX4_undo 46 = .ok (.aload_n 1, 1) := by decide +kernel
theorem dX4_undo_47 : decode cX4_undo 47 = .ok (.invokevirtual 79, 3) := by decide +kernel
theorem dX4_undo_50 : decode cX4_undo 50 = .ok (.aload_n 0, 1) := by decide +kernel
theorem dX4_undo_51 : decode cX4_undo 51 = .ok (.iconst 0, 1) := by decide +kernel
theorem dX4_undo_52 : decode cX4_undo 52 = .ok (.putfield 55, 3) := by decide +kernel
theorem dX4_undo_55 : decode cX4_undo 55 = .ok (.aload_n 0, 1) := by decide +kernel
theorem dX4_undo_56 : decode cX4_undo 56 = .ok (.getfield 31, 3) := by decide +kernel
theorem dX4_undo_59 : decode cX4_undo 59 = .ok (.ireturn, 1) := by decide +kernel
theorem dX4_checksum_0 : decode cX4_checksum 0 = .ok (.lconst 0, 1) := by decide +kernel
theorem dX4_checksum_1 : decode cX4_checksum 1 = .ok (.lstore_n 1, 1) := by decide +kernel
theorem dX4_checksum_2 : decode cX4_checksum 2 = .ok (.iconst 0, 1) := by decide +kernel
theorem dX4_checksum_3 : decode cX4_checksum 3 = .ok (.istore_n 3, 1) := by decide +kernel
theorem dX4_checksum_4 : decode cX4_checksum 4 = .ok (.iload_n 3, 1) := by decide +kernel
theorem dX4_checksum_5 : decode cX4_checksum 5 = .ok (.bipush 7, 2) := by decide +kernel
theorem dX4_checksum_7 : decode cX4_checksum 7 = .ok (.if_icmp .gt 22, 3) := by decide +kernel
theorem dX4_checksum_10 : decode cX4_checksum 10 = .ok (.ldc2_w 248, 3) := by decide +kernel
theorem dX4_checksum_13 : decode cX4_checksum 13 = .ok (.lload_n 1, 1) := by decide +kernel
theorem dX4_checksum_14 : decode cX4_checksum 14 = .ok (.lmul, 1) := by decide +kernel
theorem dX4_checksum_15 : decode cX4_checksum 15 = .ok (.aload_n 0, 1) := by decide +kernel
theorem dX4_checksum_16 : decode cX4_checksum 16 = .ok (.iload_n 3, 1) := by decide +kernel
theorem dX4_checksum_17 : decode cX4_checksum 17 = .ok (.invokevirtual 250, 3) := by decide +kernel
theorem dX4_checksum_20 : decode cX4_checksum 20 = .ok (.i2l, 1) := by decide +kernel
theorem dX4_checksum_21 : decode cX4_checksum 21 = .ok (.ladd, 1) := by decide +kernel
theorem dX4_checksum_22 : decode cX4_checksum 22 = .ok (.lstore_n 1, 1) := by decide +kernel
theorem dX4_checksum_23 : decode cX4_checksum 23 = .ok (.iinc 3 1, 3) := by decide +kernel
theorem dX4_checksum_26 : decode cX4_checksum 26 = .ok (.goto (-22), 3) := by decide +kernel
theorem dX4_checksum_29 : decode cX4_checksum 29 = .ok (.iconst 0, 1) := by decide +kernel
theorem dX4_checksum_30 : decode cX4_checksum 30 = .ok (.istore_n 3, 1) := by decide +kernel
theorem dX4_checksum_31 : decode cX4_checksum 31 = .ok (.iload_n 3, 1) := by decide +kernel
theorem dX4_checksum_32 : decode cX4_checksum 32 = .ok (.bipush 96, 2) := by decide +kernel
theorem dX4_checksum_34 : decode cX4_checksum 34 = .ok (.if_icmp .ge 49, 3) := by decide +kernel
theorem dX4_checksum_37 : decode cX4_checksum 37 = .ok (.aload_n 0, 1) := by decide +kernel
theorem dX4_checksum_38 : decode cX4_checksum 38 = .ok (.getfield 23, 3) := by decide +kernel
theorem dX4_checksum_41 : decode cX4_checksum 41 = .ok (.iload_n 3, 1) := by decide +kernel
theorem dX4_checksum_42 : decode cX4_checksum 42 = .ok (.invokevirtual 253, 3) := by decide +kernel
theorem dX4_checksum_45 : decode cX4_checksum 45 = .ok (.ifCond .eq 32, 3) := by decide +kernel
theorem dX4_checksum_48 : decode cX4_checksum 48 = .ok (.ldc2_w 248, 3) := by decide +kernel
theorem dX4_checksum_51 : decode cX4_checksum 51 = .ok (.lload_n 1, 1) := by decide +kernel
theorem dX4_checksum_52 : decode cX4_checksum 52 = .ok (.lmul, 1) := by decide +kernel
theorem dX4_checksum_53 : decode cX4_checksum 53 = .ok (.aload_n 0, 1) := by decide +kernel
theorem dX4_checksum_54 : decode cX4_checksum 54 = .ok (.iload_n 3, 1) := by decide +kernel
theorem dX4_checksum_55 : decode cX4_checksum 55 = .ok (.invokevirtual 122, 3) := by decide +kernel
theorem dX4_checksum_58 : decode cX4_checksum 58 = .ok (.i2l, 1) := by decide +kernel
theorem dX4_checksum_59 : decode cX4_checksum 59 = .ok (.ladd, 1) := by decide +kernel
theorem dX4_checksum_60 : decode cX4_checksum 60 = .ok (.lstore_n 1, 1) := by decide +kernel
theorem dX4_checksum_61 : decode cX4_checksum 61 = .ok (.ldc2_w 248, 3) := by decide +kernel
theorem dX4_checksum_64 : decode cX4_checksum 64 = .ok (.lload_n 1, 1) := by decide +kernel
theorem dX4_checksum_65 : decode cX4_checksum 65 = .ok (.lmul, 1) := by decide +kernel
theorem dX4_checksum_66 : decode cX4_checksum 66 = .ok (.aload_n 0, 1) := by decide +kernel
theorem dX4_checksum_67 : decode cX4_checksum 67 = .ok (.getfield 23, 3) := by decide +kernel
theorem dX4_checksum_70 : decode cX4_checksum 70 = .ok (.iload_n 3, 1) := by decide +kernel
theorem dX4_checksum_71 : decode cX4_checksum 71 = .ok (.invokevirtual 132, 3) := by decide +kernel
theorem dX4_checksum_74 : decode cX4_checksum 74 = .ok (.i2l, 1) := by decide +kernel
theorem dX4_checksum_75 : decode cX4_checksum 75 = .ok (.ladd, 1) := by decide +kernel
theorem dX4_checksum_76 : decode cX4_checksum 76 = .ok (.lstore_n 1, 1) := by decide +kernel
theorem dX4_checksum_77 : decode cX4_checksum 77 = .ok (.iinc 3 1, 3) := by decide +kernel
theorem dX4_checksum_80 : decode cX4_checksum 80 = .ok (.goto (-49), 3) := by decide +kernel
theorem dX4_checksum_83 : decode cX4_checksum 83 = .ok (.iconst 0, 1) := by decide +kernel
theorem dX4_checksum_84 : decode cX4_checksum 84 = .ok (.istore_n 3, 1) := by decide +kernel
theorem dX4_checksum_85 : decode cX4_checksum 85 = .ok (.iload_n 3, 1) := by decide +kernel
theorem dX4_checksum_86 : decode cX4_checksum 86 = .ok (.aload_n 0, 1) := by decide +kernel
theorem dX4_checksum_87 : decode cX4_checksum 87 = .ok (.getfield 23, 3) := by decide +kernel
theorem dX4_checksum_90 : decode cX4_checksum 90 = .ok (.getfield 99, 3) := by decide +kernel
theorem dX4_checksum_93 : decode cX4_checksum 93 = .ok (.if_icmp .ge 25, 3) := by decide +kernel
theorem dX4_checksum_96 : decode cX4_checksum 96 = .ok (.ldc2_w 248, 3) := by decide +kernel
theorem dX4_checksum_99 : decode cX4_checksum 99 = .ok (.lload_n 1, 1) := by decide +kernel
theorem dX4_checksum_100 : decode cX4_checksum 100 = .ok (.lmul, 1) := by decide +kernel
theorem dX4_checksum_101 : decode cX4_checksum 101 = .ok (.aload_n 0, 1) := by decide +kernel
theorem dX4_checksum_102 : decode cX4_checksum 102 = .ok (.getfield 23, 3) := by decide +kernel
theorem dX4_checksum_105 : decode cX4_checksum 105 = .ok (.iload_n 3, 1) := by decide +kernel
theorem dX4_checksum_106 : decode cX4_checksum 106 = .ok (.invokevirtual 167, 3) := by decide +kernel
theorem dX4_checksum_109 : decode cX4_checksum 109 = .ok (.i2l, 1) := by decide +kernel
theorem dX4_checksum_110 : decode cX4_checksum 110 = .ok (.ladd, 1) := by decide +kernel
theorem dX4_checksum_111 : decode cX4_checksum 111 = .ok (.lstore_n 1, 1) := by decide +kernel
theorem dX4_checksum_112 : decode cX4_checksum 112 = .ok (.iinc 3 1, 3) := by decide +kernel
theorem dX4_checksum_115 : decode cX4_checksum 115 = .ok (.goto (-30), 3) := by decide +kernel
theorem dX4_checksum_118 : decode cX4_checksum 118 = .ok (.ldc2_w 248, 3) := by decide +kernel
theorem dX4_checksum_121 : decode cX4_checksum 121 = .ok (.lload_n 1, 1) := by decide +kernel
theorem dX4_checksum_122 : decode cX4_checksum 122 = .ok (.lmul, 1) := by decide +kernel
theorem dX4_checksum_123 : decode cX4_checksum 123 = .ok (.aload_n 0, 1) := by decide +kernel
theorem dX4_checksum_124 : decode cX4_checksum 124 = .ok (.invokevirtual 223, 3) := by decide +kernel
theorem dX4_checksum_127 : decode cX4_checksum 127 = .ok (.i2l, 1) := by decide +kernel
theorem dX4_checksum_128 : decode cX4_checksum 128 = .ok (.ladd, 1) := by decide +kernel
theorem dX4_checksum_129 : decode cX4_checksum 129 = .ok (.lstore_n 1, 1) := by decide +kernel
theorem dX4_checksum_130 : decode cX4_checksum 130 = .ok (.ldc2_w 248, 3) := by decide +kernel
theorem dX4_checksum_133 : decode cX4_checksum 133 = .ok (.lload_n 1, 1) := by decide +kernel
theorem dX4_checksum_134 : decode cX4_checksum 134 = .ok (.lmul, 1) := by decide +kernel
theorem dX4_checksum_135 : decode cX4_checksum 135 = .ok (.aload_n 0, 1) := by decide +kernel
theorem dX4_checksum_136 : decode cX4_checksum 136 = .ok (.invokevirtual 177, 3) := by decide +kernel
theorem dX4_checksum_139 : decode cX4_checksum 139 = .ok (.i2l, 1) := by decide +kernel
theorem dX4_checksum_140 : decode cX4_checksum 140 = .ok (.ladd, 1) := by decide +kernel
theorem dX4_checksum_141 : decode cX4_checksum 141 = .ok (.lstore_n 1, 1) := by decide +kernel
theorem dX4_checksum_142 : decode cX4_checksum 142 = .ok (.ldc2_w 248, 3) := by decide +kernel
theorem dX4_checksum_145 : decode cX4_checksum 145 = .ok (.lload_n 1, 1) := by decide +kernel
theorem dX4_checksum_146 : decode cX4_checksum 146 = .ok (.lmul, 1) := by decide +kernel
theorem dX4_checksum_147 : decode cX4_checksum 147 = .ok (.aload_n 0, 1) := by decide +kernel
theorem dX4_checksum_148 : decode cX4_checksum 148 = .ok (.invokevirtual 256, 3) := by decide +kernel
theorem dX4_checksum_151 : decode cX4_checksum 151 = .ok (.i2l, 1) := by decide +kernel
theorem dX4_checksum_152 : decode cX4_checksum 152 = .ok (.ladd, 1) := by decide +kernel
theorem dX4_checksum_153 : decode cX4_checksum 153 = .ok (.lreturn, 1) := by decide +kernel
theorem dX4_putWord_0 : decode cX4_putWord 0 = .ok (.bipush 24, 2) := by decide +kernel
theorem dX4_putWord_2 : decode cX4_putWord 2 = .ok (.istore_n 2, 1) := by decide +kernel
theorem dX4_putWord_3 : decode cX4_putWord 3 = .ok (.iload_n 2, 1) := by decide +kernel
theorem dX4_putWord_4 : decode cX4_putWord 4 = .ok (.ifCond .lt 49, 3) := by decide +kernel
theorem dX4_putWord_7 : decode cX4_putWord 7 = .ok (.aload_n 0, 1) := by decide +kernel
theorem dX4_putWord_8 : decode cX4_putWord 8 = .ok (.getfield 13, 3) := by decide +kernel
theorem dX4_putWord_11 : decode cX4_putWord 11 = .ok (.ifCond .lt 36, 3) := by decide +kernel
theorem dX4_putWord_14 : decode cX4_putWord 14 = .ok (.aload_n 0, 1) := by decide +kernel
theorem dX4_putWord_15 : decode cX4_putWord 15 = .ok (.getfield 13, 3) := by decide +kernel
theorem dX4_putWord_18 : decode cX4_putWord 18 = .ok (.sipush 400, 3) := by decide +kernel
theorem dX4_putWord_21 : decode cX4_putWord 21 = .ok (.if_icmp .ge 26, 3) := by decide +kernel
theorem dX4_putWord_24 : decode cX4_putWord 24 = .ok (.aload_n 0, 1) := by decide +kernel
theorem dX4_putWord_25 : decode cX4_putWord 25 = .ok (.getfield 9, 3) := by decide +kernel
theorem dX4_putWord_28 : decode cX4_putWord 28 = .ok (.aload_n 0, 1) := by decide +kernel
theorem dX4_putWord_29 : decode cX4_putWord 29 = .ok (.getfield 13, 3) := by decide +kernel
theorem dX4_putWord_32 : decode cX4_putWord 32 = .ok (.iload_n 1, 1) := by decide +kernel
theorem dX4_putWord_33 : decode cX4_putWord 33 = .ok (.iload_n 2, 1) := by decide +kernel
theorem dX4_putWord_34 : decode cX4_putWord 34 = .ok (.ishr, 1) := by decide +kernel
theorem dX4_putWord_35 : decode cX4_putWord 35 = .ok (.i2b, 1) := by decide +kernel
theorem dX4_putWord_36 : decode cX4_putWord 36 = .ok (.bastore, 1) := by decide +kernel
theorem dX4_putWord_37 : decode cX4_putWord 37 = .ok (.aload_n 0, 1) := by decide +kernel
theorem dX4_putWord_38 : decode cX4_putWord 38 = .ok (.dup, 1) := by decide +kernel
theorem dX4_putWord_39 : decode cX4_putWord 39 = .ok (.getfield 13, 3) := by decide +kernel
theorem dX4_putWord_42 : decode cX4_putWord 42 = .ok (.iconst 1, 1) := by decide +kernel
theorem dX4_putWord_43 : decode cX4_putWord 43 = .ok (.iadd, 1) := by decide +kernel
theorem dX4_putWord_44 : decode cX4_putWord 44 = .ok (.putfield 13, 3) := by decide +kernel
theorem dX4_putWord_47 : decode cX4_putWord 47 = .ok (.iinc 2 (-8), 3) := by decide +kernel
theorem dX4_putWord_50 : decode cX4_putWord 50 = .ok (.goto (-47), 3) := by decide +kernel
theorem dX4_putWord_53 : decode cX4_putWord 53 = .ok (.return_, 1) := by decide +kernel
theorem dX4_startsWithLetters_0 : decode cX4_startsWithLetters 0 = .ok (.iconst 0, 1) := by decide +kernel
theorem dX4_startsWithLetters_1 : decode cX4_startsWithLetters 1 = .ok (.istore_n 2, 1) := by decide +kernel
theorem dX4_startsWithLetters_2 : decode cX4_startsWithLetters 2 = .ok (.iload_n 2, 1) := by decide +kernel
theorem dX4_startsWithLetters_3 : decode cX4_startsWithLetters 3 = .ok (.iload_n 1, 1) := by decide +kernel
theorem dX4_startsWithLetters_4 : decode cX4_startsWithLetters 4 = .ok (.if_icmp .ge 30, 3) := by decide +kernel
theorem dX4_startsWithLetters_7 : decode cX4_startsWithLetters 7 = .ok (.iload_n 2, 1) := by decide +kernel
theorem dX4_startsWithLetters_8 : decode cX4_startsWithLetters 8 = .ok (.sipush 400, 3) := by decide +kernel
theorem dX4_startsWithLetters_11 : decode cX4_startsWithLetters 11 = .ok (.if_icmp .ge 23, 3) := by decide +kernel
theorem dX4_startsWithLetters_14 : decode cX4_startsWithLetters 14 = .ok (.aload_n 0, 1) := by decide +kernel
theorem dX4_startsWithLetters_15 : decode cX4_startsWithLetters 15 = .ok (.getfield 9, 3) := by decide +kernel
theorem dX4_startsWithLetters_18 : decode cX4_startsWithLetters 18 = .ok (.iload_n 2, 1) := by decide +kernel
theorem dX4_startsWithLetters_19 : decode cX4_startsWithLetters 19 = .ok (.baload, 1) := by decide +kernel
theorem dX4_startsWithLetters_20 : decode cX4_startsWithLetters 20 = .ok (.invokestatic 259, 3) := by decide +kernel
theorem dX4_startsWithLetters_23 : decode cX4_startsWithLetters 23 = .ok (.ifCond .ne 5, 3) := by decide +kernel
theorem dX4_startsWithLetters_26 : decode cX4_startsWithLetters 26 = .ok (.iconst 0, 1) := by decide +kernel
theorem dX4_startsWithLetters_27 : decode cX4_startsWithLetters 27 = .ok (.ireturn, 1) := by decide +kernel
theorem dX4_startsWithLetters_28 : decode cX4_startsWithLetters 28 = .ok (.iinc 2 1, 3) := by decide +kernel
theorem dX4_startsWithLetters_31 : decode cX4_startsWithLetters 31 = .ok (.goto (-29), 3) := by decide +kernel
theorem dX4_startsWithLetters_34 : decode cX4_startsWithLetters 34 = .ok (.iconst 1, 1) := by decide +kernel
theorem dX4_startsWithLetters_35 : decode cX4_startsWithLetters 35 = .ok (.ireturn, 1) := by decide +kernel
theorem dX4_remember_0 : decode cX4_remember 0 = .ok (.aload_n 0, 1) := by decide +kernel
theorem dX4_remember_1 : decode cX4_remember 1 = .ok (.iconst 0, 1) := by decide +kernel
theorem dX4_remember_2 : decode cX4_remember 2 = .ok (.putfield 55, 3) := by decide +kernel
theorem dX4_remember_5 : decode cX4_remember 5 = .ok (.aload_n 0, 1) := by decide +kernel
theorem dX4_remember_6 : decode cX4_remember 6 = .ok (.getfield 31, 3) := by decide +kernel
theorem dX4_remember_9 : decode cX4_remember 9 = .ok (.bipush 8, 2) := by decide +kernel
theorem dX4_remember_11 : decode cX4_remember 11 = .ok (.if_icmp .lt 7, 3) := by decide +kernel
theorem dX4_remember_14 : decode cX4_remember 14 = .ok (.aload_n 0, 1) := by decide +kernel
theorem dX4_remember_15 : decode cX4_remember 15 = .ok (.invokevirtual 262, 3) := by decide +kernel
theorem dX4_remember_18 : decode cX4_remember 18 = .ok (.aload_n 0, 1) := by decide +kernel
theorem dX4_remember_19 : decode cX4_remember 19 = .ok (.getfield 31, 3) := by decide +kernel
theorem dX4_remember_22 : decode cX4_remember 22 = .ok (.ifCond .lt 24, 3) := by decide +kernel
theorem dX4_remember_25 : decode cX4_remember 25 = .ok (.aload_n 0, 1) := by decide +kernel
theorem dX4_remember_26 : decode cX4_remember 26 = .ok (.getfield 31, 3) := by decide +kernel
theorem dX4_remember_29 : decode cX4_remember 29 = .ok (.bipush 8, 2) := by decide +kernel
theorem dX4_remember_31 : decode cX4_remember 31 = .ok (.if_icmp .ge 15, 3) := by decide +kernel
theorem dX4_remember_34 : decode cX4_remember 34 = .ok (.aload_n 0, 1) := by decide +kernel
theorem dX4_remember_35 : decode cX4_remember 35 = .ok (.getfield 27, 3) := by decide +kernel
theorem dX4_remember_38 : decode cX4_remember 38 = .ok (.aload_n 0, 1) := by decide +kernel
theorem dX4_remember_39 : decode cX4_remember 39 = .ok (.getfield 31, 3) := by decide +kernel
theorem dX4_remember_42 : decode cX4_remember 42 = .ok (.aaload, 1) := by decide +kernel
theorem dX4_remember_43 : decode cX4_remember 43 = .ok (.goto 4, 3) := by decide +kernel
theorem dX4_remember_46 : decode cX4_remember 46 = .ok (.aconst_null, 1) := by decide +kernel
theorem dX4_remember_47 : decode cX4_remember 47 = .ok (.astore_n 1, 1) := by decide +kernel
theorem dX4_remember_48 : decode cX4_remember 48 = .ok (.aload_n 1, 1) := by decide +kernel
theorem dX4_remember_49 : decode cX4_remember 49 = .ok (.ifnull 21, 3) := by decide +kernel
theorem dX4_remember_52 : decode cX4_remember 52 = .ok (.aload_n 1, 1) := by decide +kernel
theorem dX4_remember_53 : decode cX4_remember 53 = .ok (.aload_n 0, 1) := by decide +kernel
theorem dX4_remember_54 : decode cX4_remember 54 = .ok (.getfield 23, 3) := by decide +kernel
theorem dX4_remember_57 : decode cX4_remember 57 = .ok (.invokevirtual 79, 3) := by decide +kernel
theorem dX4_remember_60 : decode cX4_remember 60 = .ok (.aload_n 0, 1) := by decide +kernel
theorem dX4_remember_61 : decode cX4_remember 61 = .ok (.dup, 1) := by decide +kernel
theorem dX4_remember_62 : decode cX4_remember 62 = .ok (.getfield 31, 3) := by decide +kernel
theorem dX4_remember_65 : decode cX4_remember 65 = .ok (.iconst 1, 1) := by decide +kernel
theorem dX4_remember_66 : decode cX4_remember 66 = .ok (.iadd, 1) := by decide +kernel
theorem dX4_remember_67 : decode cX4_remember 67 = .ok (.putfield 31, 3) := by decide +kernel
theorem dX4_remember_70 : decode cX4_remember 70 = .ok (.return_, 1) := by decide +kernel
theorem dX4_makeOldestFinal_0 : decode cX4_makeOldestFinal 0 = .ok (.aload_n 0, 1) := by decide +kernel
theorem dX4_makeOldestFinal_1 : decode cX4_makeOldestFinal 1 = .ok (.getfield 27, 3) := by decide +kernel
theorem dX4_makeOldestFinal_4 : decode cX4_makeOldestFinal 4 = .ok (.iconst 0, 1) := by decide +kernel
theorem dX4_makeOldestFinal_5 : decode cX4_makeOldestFinal 5 = .ok (.aaload, 1) := by decide +kernel
theorem dX4_makeOldestFinal_6 : decode cX4_makeOldestFinal 6 = .ok (.astore_n 1, 1) := by decide +kernel
theorem dX4_makeOldestFinal_7 : decode cX4_makeOldestFinal 7 = .ok (.iconst 1, 1) := by decide +kernel
theorem dX4_makeOldestFinal_8 : decode cX4_makeOldestFinal 8 = .ok (.istore_n 2, 1) := by decide +kernel
theorem dX4_makeOldestFinal_9 : decode cX4_makeOldestFinal 9 = .ok (.iload_n 2, 1) := by decide +kernel
theorem dX4_makeOldestFinal_10 : decode cX4_makeOldestFinal 10 = .ok (.bipush 8, 2) := by decide +kernel
theorem dX4_makeOldestFinal_12 : decode cX4_makeOldestFinal 12 = .ok (.if_icmp .ge 23, 3) := by decide +kernel
theorem dX4_makeOldestFinal_15 : decode cX4_makeOldestFinal 15 = .ok (.aload_n 0, 1) := by decide +kernel
theorem dX4_makeOldestFinal_16 : decode cX4_makeOldestFinal 16 = .ok (.getfield 27, 3) := by decide +kernel
theorem dX4_makeOldestFinal_19 : decode cX4_makeOldestFinal 19 = .ok (.iload_n 2, 1) := by decide +kernel
theorem dX4_makeOldestFinal_20 : decode cX4_makeOldestFinal 20 = .ok (.iconst 1, 1) := by decide +kernel
theorem dX4_makeOldestFinal_21 : decode cX4_makeOldestFinal 21 = .ok (.isub, 1) := by decide +kernel
theorem dX4_makeOldestFinal_22 : decode cX4_makeOldestFinal 22 = .ok (.aload_n 0, 1) := by decide +kernel
theorem dX4_makeOldestFinal_23 : decode cX4_makeOldestFinal 23 = .ok (.getfield 27, 3) := by decide +kernel
theorem dX4_makeOldestFinal_26 : decode cX4_makeOldestFinal 26 = .ok (.iload_n 2, 1) := by decide +kernel
theorem dX4_makeOldestFinal_27 : decode cX4_makeOldestFinal 27 = .ok (.aaload, 1) := by decide +kernel
theorem dX4_makeOldestFinal_28 : decode cX4_makeOldestFinal 28 = .ok (.aastore, 1) := by decide +kernel
theorem dX4_makeOldestFinal_29 : decode cX4_makeOldestFinal 29 = .ok (.iinc 2 1, 3) := by decide +kernel
theorem dX4_makeOldestFinal_32 : decode cX4_makeOldestFinal 32 = .ok (.goto (-23), 3) := by decide +kernel
theorem dX4_makeOldestFinal_35 : decode cX4_makeOldestFinal 35 = .ok (.aload_n 0, 1) := by decide +kernel
theorem dX4_makeOldestFinal_36 : decode cX4_makeOldestFinal 36 = .ok (.getfield 27, 3) := by decide +kernel
theorem dX4_makeOldestFinal_39 : decode cX4_makeOldestFinal 39 = .ok (.bipush 7, 2) := by decide +kernel
theorem dX4_makeOldestFinal_41 : decode cX4_makeOldestFinal 41 = .ok (.aload_n 1, 1) := by decide +kernel
theorem dX4_makeOldestFinal_42 : decode cX4_makeOldestFinal 42 = .ok (.aastore, 1) := by decide +kernel
theorem dX4_makeOldestFinal_43 : decode cX4_makeOldestFinal 43 = .ok (.aload_n 0, 1) := by decide +kernel
theorem dX4_makeOldestFinal_44 : decode cX4_makeOldestFinal 44 = .ok (.bipush 7, 2) := by decide +kernel
theorem dX4_makeOldestFinal_46 : decode cX4_makeOldestFinal 46 = .ok (.putfield 31, 3) := by decide +kernel
theorem dX4_makeOldestFinal_49 : decode cX4_makeOldestFinal 49 = .ok (.return_, 1) := by decide +kernel
theorem dX4_letterOrGone_0 : decode cX4_letterOrGone 0 = .ok (.aload_n 0, 1) := by decide +kernel
theorem dX4_letterOrGone_1 : decode cX4_letterOrGone 1 = .ok (.getfield 23, 3) := by decide +kernel
theorem dX4_letterOrGone_4 : decode cX4_letterOrGone 4 = .ok (.aload_n 0, 1) := by decide +kernel
theorem dX4_letterOrGone_5 : decode cX4_letterOrGone 5 = .ok (.getfield 23, 3) := by decide +kernel
theorem dX4_letterOrGone_8 : decode cX4_letterOrGone 8 = .ok (.iload_n 1, 1) := by decide +kernel
theorem dX4_letterOrGone_9 : decode cX4_letterOrGone 9 = .ok (.invokevirtual 126, 3) := by decide +kernel
theorem dX4_letterOrGone_12 : decode cX4_letterOrGone 12 = .ok (.invokevirtual 240, 3) := by decide +kernel
theorem dX4_letterOrGone_15 : decode cX4_letterOrGone 15 = .ok (.ifCond .eq 14, 3) := by decide +kernel
theorem dX4_letterOrGone_18 : decode cX4_letterOrGone 18 = .ok (.aload_n 0, 1) := by decide +kernel
theorem dX4_letterOrGone_19 : decode cX4_letterOrGone 19 = .ok (.getfield 23, 3) := by decide +kernel
theorem dX4_letterOrGone_22 : decode cX4_letterOrGone 22 = .ok (.iload_n 1, 1) := by decide +kernel
theorem dX4_letterOrGone_23 : decode cX4_letterOrGone 23 = .ok (.invokevirtual 142, 3) := by decide +kernel
theorem dX4_letterOrGone_26 : decode cX4_letterOrGone 26 = .ok (.goto 5, 3) := by decide +kernel
theorem dX4_letterOrGone_29 : decode cX4_letterOrGone 29 = .ok (.bipush (-2), 2) := by decide +kernel
theorem dX4_letterOrGone_31 : decode cX4_letterOrGone 31 = .ok (.ireturn, 1) := by decide +kernel
theorem dX4_isUsedByMessage_0 : decode cX4_isUsedByMessage 0 = .ok (.aload_n 0, 1) := by decide +kernel
theorem dX4_isUsedByMessage_1 : decode cX4_isUsedByMessage 1 = .ok (.getfield 23, 3) := by decide +kernel
theorem dX4_isUsedByMessage_4 : decode cX4_isUsedByMessage 4 = .ok (.iload_n 1, 1) := by decide +kernel
theorem dX4_isUsedByMessage_5 : decode cX4_isUsedByMessage 5 = .ok (.invokevirtual 138, 3) := by decide +kernel
theorem dX4_isUsedByMessage_8 : decode cX4_isUsedByMessage 8 = .ok (.ifCond .eq 25, 3) := by decide +kernel
theorem dX4_isUsedByMessage_11 : decode cX4_isUsedByMessage 11 = .ok (.aload_n 0, 1) := by decide +kernel
theorem dX4_isUsedByMessage_12 : decode cX4_isUsedByMessage 12 = .ok (.getfield 23, 3) := by decide +kernel
theorem dX4_isUsedByMessage_15 : decode cX4_isUsedByMessage 15 = .ok (.aload_n 0, 1) := by decide +kernel
theorem dX4_isUsedByMessage_16 : decode cX4_isUsedByMessage 16 = .ok (.getfield 23, 3) := by decide +kernel
theorem dX4_isUsedByMessage_19 : decode cX4_isUsedByMessage 19 = .ok (.iload_n 1, 1) := by decide +kernel
theorem dX4_isUsedByMessage_20 : decode cX4_isUsedByMessage 20 = .ok (.invokevirtual 142, 3) := by decide +kernel
theorem dX4_isUsedByMessage_23 : decode cX4_isUsedByMessage 23 = .ok (.invokevirtual 145, 3) := by decide +kernel
theorem dX4_isUsedByMessage_26 : decode cX4_isUsedByMessage 26 = .ok (.ifCond .le 7, 3) := by decide +kernel
theorem dX4_isUsedByMessage_29 : decode cX4_isUsedByMessage 29 = .ok (.iconst 1, 1) := by decide +kernel
theorem dX4_isUsedByMessage_30 : decode cX4_isUsedByMessage 30 = .ok (.goto 4, 3) := by decide +kernel
theorem dX4_isUsedByMessage_33 : decode cX4_isUsedByMessage 33 = .ok (.iconst 0, 1) := by decide +kernel
theorem dX4_isUsedByMessage_34 : decode cX4_isUsedByMessage 34 = .ok (.ireturn, 1) := by decide +kernel
theorem dX4_bestCuts_0 : decode cX4_bestCuts 0 = .ok (.aload_n 0, 1) := by decide +kernel
theorem dX4_bestCuts_1 : decode cX4_bestCuts 1 = .ok (.getfield 23, 3) := by decide +kernel
theorem dX4_bestCuts_4 : decode cX4_bestCuts 4 = .ok (.getfield 99, 3) := by decide +kernel
theorem dX4_bestCuts_7 : decode cX4_bestCuts 7 = .ok (.bipush 8, 2) := by decide +kernel
theorem dX4_bestCuts_9 : decode cX4_bestCuts 9 = .ok (.if_icmp .le 6, 3) := by decide +kernel
theorem dX4_bestCuts_12 : decode cX4_bestCuts 12 = .ok (.bipush (-2), 2) := by decide +kernel
theorem dX4_bestCuts_14 : decode cX4_bestCuts 14 = .ok (.ireturn, 1) := by decide +kernel
theorem dX4_bestCuts_15 : decode cX4_bestCuts 15 = .ok (.aload_n 0, 1) := by decide +kernel
theorem dX4_bestCuts_16 : decode cX4_bestCuts 16 = .ok (.getfield 55, 3) := by decide +kernel
theorem dX4_bestCuts_19 : decode cX4_bestCuts 19 = .ok (.ifCond .ne 28, 3) := by decide +kernel
theorem dX4_bestCuts_22 : decode cX4_bestCuts 22 = .ok (.aload_n 0, 1) := by decide +kernel
theorem dX4_bestCuts_23 : decode cX4_bestCuts 23 = .ok (.getfield 51, 3) := by decide +kernel
theorem dX4_bestCuts_26 : decode cX4_bestCuts 26 = .ok (.aload_n 0, 1) := by decide +kernel
theorem dX4_bestCuts_27 : decode cX4_bestCuts 27 = .ok (.getfield 23, 3) := by decide +kernel
theorem dX4_bestCuts_30 : decode cX4_bestCuts 30 = .ok (.invokevirtual 265, 3) := by decide +kernel
theorem dX4_bestCuts_33 : decode cX4_bestCuts 33 = .ok (.aload_n 0, 1) := by decide +kernel
theorem dX4_bestCuts_34 : decode cX4_bestCuts 34 = .ok (.getfield 51, 3) := by decide +kernel
theorem dX4_bestCuts_37 : decode cX4_bestCuts 37 = .ok (.lconst 0, 1) := by decide +kernel
theorem dX4_bestCuts_38 : decode cX4_bestCuts 38 = .ok (.invokevirtual 200, 3) := by decide +kernel
theorem dX4_bestCuts_41 : decode cX4_bestCuts 41 = .ok (.pop, 1) := by decide +kernel
theorem dX4_bestCuts_42 : decode cX4_bestCuts 42 = .ok (.aload_n 0, 1) := by decide +kernel
theorem dX4_bestCuts_43 : decode cX4_bestCuts 43 = .ok (.iconst 1, 1) := by decide +kernel
theorem dX4_bestCuts_44 : decode cX4_bestCuts 44 = .ok (.putfield 55, 3) := by decide +kernel
theorem dX4_bestCuts_47 : decode cX4_bestCuts 47 = .ok (.aload_n 0, 1) := by decide +kernel
theorem dX4_bestCuts_48 : decode cX4_bestCuts 48 = .ok (.getfield 51, 3) := by decide +kernel
theorem dX4_bestCuts_51 : decode cX4_bestCuts 51 = .ok (.getfield 268, 3) := by decide +kernel
theorem dX4_bestCuts_54 : decode cX4_bestCuts 54 = .ok (.ireturn, 1) := by decide +kernel
theorem dX4_sizeOfCut_0 : decode cX4_sizeOfCut 0 = .ok (.aload_n 0, 1) := by decide +kernel
theorem dX4_sizeOfCut_1 : decode cX4_sizeOfCut 1 = .ok (.getfield 23, 3) := by decide +kernel
theorem dX4_sizeOfCut_4 : decode cX4_sizeOfCut 4 = .ok (.aload_n 0, 1) := by decide +kernel
theorem dX4_sizeOfCut_5 : decode cX4_sizeOfCut 5 = .ok (.getfield 51, 3) := by decide +kernel
theorem dX4_sizeOfCut_8 : decode cX4_sizeOfCut 8 = .ok (.iload_n 1, 1) := by decide +kernel
theorem dX4_sizeOfCut_9 : decode cX4_sizeOfCut 9 = .ok (.invokevirtual 183, 3) := by decide +kernel
theorem dX4_sizeOfCut_12 : decode cX4_sizeOfCut 12 = .ok (.invokevirtual 132, 3) := by decide +kernel
theorem dX4_sizeOfCut_15 : decode cX4_sizeOfCut 15 = .ok (.ireturn, 1) := by decide +kernel
theorem dX4_sizesOfCut_0 : decode cX4_sizesOfCut 0 = .ok (.aload_n 0, 1) := by decide +kernel
theorem dX4_sizesOfCut_1 : decode cX4_sizesOfCut 1 = .ok (.getfield 51, 3) := by decide +kernel
theorem dX4_sizesOfCut_4 : decode cX4_sizesOfCut 4 = .ok (.iload_n 1, 1) := by decide +kernel
theorem dX4_sizesOfCut_5 : decode cX4_sizesOfCut 5 = .ok (.invokevirtual 180, 3) := by decide +kernel
theorem dX4_sizesOfCut_8 : decode cX4_sizesOfCut 8 = .ok (.aload_n 0, 1) := by decide +kernel
theorem dX4_sizesOfCut_9 : decode cX4_sizesOfCut 9 = .ok (.iload_n 1, 1) := by decide +kernel
theorem dX4_sizesOfCut_10 : decode cX4_sizesOfCut 10 = .ok (.invokevirtual 192, 3) := by decide +kernel
theorem dX4_sizesOfCut_13 : decode cX4_sizesOfCut 13 = .ok (.imul, 1) := by decide +kernel
theorem dX4_sizesOfCut_14 : decode cX4_sizesOfCut 14 = .ok (.ireturn, 1) := by decide +kernel
theorem dX4_isLetter_0 : decode cX4_isLetter 0 = .ok (.iload_n 0, 1) := by decide +kernel
theorem dX4_isLetter_1 : decode cX4_isLetter 1 = .ok (.bipush 97, 2) := by decide +kernel
theorem dX4_isLetter_3 : decode cX4_isLetter 3 = .ok (.if_icmp .lt 13, 3) := by decide +kernel
theorem dX4_isLetter_6 : decode cX4_isLetter 6 = .ok (.iload_n 0, 1) := by decide +kernel
theorem dX4_isLetter_7 : decode cX4_isLetter 7 = .ok (.bipush 122, 2) := by decide +kernel
theorem dX4_isLetter_9 : decode cX4_isLetter 9 = .ok (.if_icmp .gt 7, 3) := by decide +kernel
theorem dX4_isLetter_12 : decode cX4_isLetter 12 = .ok (.iconst 1, 1) := by decide +kernel
theorem dX4_isLetter_13 : decode cX4_isLetter 13 = .ok (.goto 4, 3) := by decide +kernel
theorem dX4_isLetter_16 : decode cX4_isLetter 16 = .ok (.iconst 0, 1) := by decide +kernel
theorem dX4_isLetter_17 : decode cX4_isLetter 17 = .ok (.ireturn, 1) := by decide +kernel
theorem dX4_sideOf_0 : decode cX4_sideOf 0 = .ok (.iload_n 0, 1) := by decide +kernel
theorem dX4_sideOf_1 : decode cX4_sideOf 1 = .ok (.bipush 48, 2) := by decide +kernel
theorem dX4_sideOf_3 : decode cX4_sideOf 3 = .ok (.if_icmp .ge 7, 3) := by decide +kernel
theorem dX4_sideOf_6 : decode cX4_sideOf 6 = .ok (.iconst 0, 1) := by decide +kernel
theorem dX4_sideOf_7 : decode cX4_sideOf 7 = .ok (.goto 4, 3) := by decide +kernel
theorem dX4_sideOf_10 : decode cX4_sideOf 10 = .ok (.iconst 1, 1) := by decide +kernel
theorem dX4_sideOf_11 : decode cX4_sideOf 11 = .ok (.ireturn, 1) := by decide +kernel
theorem dX4_rowOf_0 : decode cX4_rowOf 0 = .ok (.iload_n 0, 1) := by decide +kernel
theorem dX4_rowOf_1 : decode cX4_rowOf 1 = .ok (.bipush 48, 2) := by decide +kernel
theorem dX4_rowOf_3 : decode cX4_rowOf 3 = .ok (.irem, 1) := by decide +kernel
theorem dX4_rowOf_4 : decode cX4_rowOf 4 = .ok (.bipush 8, 2) := by decide +kernel
theorem dX4_rowOf_6 : decode cX4_rowOf 6 = .ok (.idiv, 1) := by decide +kernel
theorem dX4_rowOf_7 : decode cX4_rowOf 7 = .ok (.ireturn, 1) := by decide +kernel
theorem dX4_columnOf_0 : decode cX4_columnOf 0 = .ok (.iload_n 0, 1) := by decide +kernel
theorem dX4_columnOf_1 : decode cX4_columnOf 1 = .ok (.bipush 8, 2) := by decide +kernel
theorem dX4_columnOf_3 : decode cX4_columnOf 3 = .ok (.irem, 1) := by decide +kernel
theorem dX4_columnOf_4 : decode cX4_columnOf 4 = .ok (.ireturn, 1) := by decide +kernel
theorem dX5_init_0 : decode cX5_init 0 = .ok (.aload_n 0, 1) := by decide +kernel
theorem dX5_init_1 : decode cX5_init 1 = .ok (.invokespecial 3, 3) := by decide +kernel
theorem dX5_init_4 : decode cX5_init 4 = .ok (.aload_n 0, 1) := by decide +kernel
theorem dX5_init_5 : decode cX5_init 5 = .ok (.sipush 400, 3) := by decide +kernel
theorem dX5_init_8 : decode cX5_init 8 = .ok (.newarray .int, 2) := by decide +kernel
theorem dX5_init_10 : decode cX5_init 10 = .ok (.putfield 9, 3) := by decide +kernel
theorem dX5_init_13 : decode cX5_init 13 = .ok (.aload_n 0, 1) := by decide +kernel
theorem dX5_init_14 : decode cX5_init 14 = .ok (.iconst (-1), 1) := by decide +kernel
theorem dX5_init_15 : decode cX5_init 15 = .ok (.putfield 13, 3) := by decide +kernel
theorem dX5_init_18 : decode cX5_init 18 = .ok (.aload_n 0, 1) := by decide +kernel
theorem dX5_init_19 : decode cX5_init 19 = .ok (.sipush 186, 3) := by decide +kernel
theorem dX5_init_22 : decode cX5_init 22 = .ok (.newarray .int, 2) := by decide +kernel
theorem dX5_init_24 : decode cX5_init 24 = .ok (.putfield 17, 3) := by decide +kernel
theorem dX5_init_27 : decode cX5_init 27 = .ok (.aload_n 0, 1) := by decide +kernel
theorem dX5_init_28 : decode cX5_init 28 = .ok (.sipush 186, 3) := by decide +kernel
theorem dX5_init_31 : decode cX5_init 31 = .ok (.newarray .int, 2) := by decide +kernel
theorem dX5_init_33 : decode cX5_init 33 = .ok (.putfield 20, 3) := by decide +kernel
theorem dX5_init_36 : decode cX5_init 36 = .ok (.aload_n 0, 1) := by decide +kernel
theorem dX5_init_37 : decode cX5_init 37 = .ok (.sipush 186, 3) := by decide +kernel
theorem dX5_init_40 : decode cX5_init 40 = .ok (.newarray .int, 2) := by decide +kernel
theorem dX5_init_42 : decode cX5_init 42 = .ok (.putfield 23, 3) := by decide +kernel
theorem dX5_init_45 : decode cX5_init 45 = .ok (.aload_n 0, 1) := by decide +kernel
theorem dX5_init_46 : decode cX5_init 46 = .ok (.bipush 8, 2) := by decide +kernel
theorem dX5_init_48 : decode cX5_init 48 = .ok (.sipush 186, 3) := by decide +kernel
theorem dX5_init_51 : decode cX5_init 51 = .ok (.multianewarray 26 2, 4) := by decide +kernel
theorem dX5_init_55 : decode cX5_init 55 = .ok (.putfield 28, 3) := by decide +kernel
theorem dX5_init_58 : decode cX5_init 58 = .ok (.aload_n 0, 1) := by decide +kernel
theorem dX5_init_59 : decode cX5_init 59 = .ok (.bipush 48, 2) := by decide +kernel
theorem dX5_init_61 : decode cX5_init 61 = .ok (.newarray .int, 2) := by decide +kernel
theorem dX5_init_63 : decode cX5_init 63 = .ok (.putfield 31, 3) := by decide +kernel
theorem dX5_init_66 : decode cX5_init 66 = .ok (.aload_n 0, 1) := by decide +kernel
theorem dX5_init_67 : decode cX5_init 67 = .ok (.bipush 48, 2) := by decide +kernel
theorem dX5_init_69 : decode cX5_init 69 = .ok (.newarray .boolean, 2) := by decide +kernel
theorem dX5_init_71 : decode cX5_init 71 = .ok (.putfield 34, 3) := by decide +kernel
theorem dX5_init_74 : decode cX5_init 74 = .ok (.aload_n 0, 1) := by decide +kernel
theorem dX5_init_75 : decode cX5_init 75 = .ok (.bipush 9, 2) := by decide +kernel
theorem dX5_init_77 : decode cX5_init 77 = .ok (.newarray .int, 2) := by decide +kernel
theorem dX5_init_79 : decode cX5_init 79 = .ok (.putfield 38, 3) := by decide +kernel
theorem dX5_init_82 : decode cX5_init 82 = .ok (.aload_n 0, 1) := by decide +kernel
theorem dX5_init_83 : decode cX5_init 83 = .ok (.bipush 8, 2) := by decide +kernel
theorem dX5_init_85 : decode cX5_init 85 = .ok (.newarray .int, 2) := by decide +kernel
theorem dX5_init_87 : decode cX5_init 87 = .ok (.putfield 41, 3) := by decide +kernel
theorem dX5_init_90 : decode cX5_init 90 = .ok (.aload_n 0, 1) := by decide +kernel
theorem dX5_init_91 : decode cX5_init 91 = .ok (.bipush 8, 2) := by decide +kernel
theorem dX5_init_93 : decode cX5_init 93 = .ok (.newarray .int, 2) := by decide +kernel
theorem dX5_init_95 : decode cX5_init 95 = .ok (.putfield 44, 3) := by decide +kernel
theorem dX5_init_98 : decode cX5_init 98 = .ok (.aload_n 0, 1) := by decide +kernel
theorem dX5_init_99 : decode cX5_init 99 = .ok (.bipush 8, 2) := by decide +kernel
theorem dX5_init_101 : decode cX5_init 101 = .ok (.newarray .int, 2) := by decide +kernel
theorem dX5_init_103 : decode cX5_init 103 = .ok (.putfield 47, 3) := by decide +kernel
theorem dX5_init_106 : decode cX5_init 106 = .ok (.aload_n 0, 1) := by decide +kernel
theorem dX5_init_107 : decode cX5_init 107 = .ok (.bipush 9, 2) := by decide +kernel
theorem dX5_init_109 : decode cX5_init 109 = .ok (.newarray .long, 2) := by decide +kernel
theorem dX5_init_111 : decode cX5_init 111 = .ok (.putfield 50, 3) := by decide +kernel
theorem dX5_init_114 : decode cX5_init 114 = .ok (.aload_n 0, 1) := by decide +kernel
theorem dX5_init_115 : decode cX5_init 115 = .ok (.sipush 4096, 3) := by decide +kernel
theorem dX5_init_118 : decode cX5_init 118 = .ok (.newarray .long, 2) := by decide +kernel
theorem dX5_init_120 : decode cX5_init 120 = .ok (.putfield 54, 3) := by decide +kernel
theorem dX5_init_123 : decode cX5_init 123 = .ok (.aload_n 0, 1) := by decide +kernel
theorem dX5_init_124 : decode cX5_init 124 = .ok (.bipush 8, 2) := by decide +kernel
theorem dX5_init_126 : decode cX5_init 126 = .ok (.newarray .int, 2) := by decide +kernel
theorem dX5_init_128 : decode cX5_init 128 = .ok (.putfield 57, 3) := by decide +kernel
theorem dX5_init_131 : decode cX5_init 131 = .ok (.aload_n 0, 1) := by decide +kernel
theorem dX5_init_132 : decode cX5_init 132 = .ok (.getfield 17, 3) := by decide +kernel
theorem dX5_init_135 : decode cX5_init 135 = .ok (.iconst 1, 1) := by decide +kernel
theorem dX5_init_136 : decode cX5_init 136 = .ok (.iconst 1, 1) := by decide +kernel
theorem dX5_init_137 : decode cX5_init 137 = .ok (.invokestatic 60, 3) := by decide +kernel
theorem dX5_init_140 : decode cX5_init 140 = .ok (.return_, 1) := by decide +kernel
theorem dX5_thrown_0 : decode cX5_thrown 0 = .ok (.aload_n 0, 1) := by decide +kernel
theorem dX5_thrown_1 : decode cX5_thrown 1 = .ok (.getfield 64, 3) := by decide +kernel
theorem dX5_thrown_4 : decode cX5_thrown 4 = .ok (.ireturn, 1) := by decide +kernel
theorem dX5_fails_0 : decode cX5_fails 0 = .ok (.iload_n 1, 1) := by decide +kernel
theorem dX5_fails_1 : decode cX5_fails 1 = .ok (.ifCond .eq 15, 3) := by decide +kernel
theorem dX5_fails_4 : decode cX5_fails 4 = .ok (.aload_n 0, 1) := by decide +kernel
theorem dX5_fails_5 : decode cX5_fails 5 = .ok (.getfield 64, 3) := by decide +kernel
theorem dX5_fails_8 : decode cX5_fails 8 = .ok (.ifCond .ne 8, 3) := by decide +kernel
theorem dX5_fails_11 : decode cX5_fails 11 = .ok (.aload_n 0, 1) := by decide +kernel
theorem dX5_fails_12 : decode cX5_fails 12 = .ok (.iload_n 2, 1) := by decide +kernel
theorem dX5_fails_13 : decode cX5_fails 13 = .ok (.putfield 64, 3) := by decide +kernel
theorem dX5_fails_16 : decode cX5_fails 16 = .ok (.aload_n 0, 1) := by decide +kernel
theorem dX5_fails_17 : decode cX5_fails 17 = .ok (.getfield 64, 3) := by decide +kernel
theorem dX5_fails_20 : decode cX5_fails 20 = .ok (.ifCond .eq 7, 3) := by decide +kernel
theorem dX5_fails_23 : decode cX5_fails 23 = .ok (.iconst 1, 1) := by decide +kernel
theorem dX5_fails_24 : decode cX5_fails 24 = .ok (.goto 4, 3) := by decide +kernel
theorem dX5_fails_27 : decode cX5_fails 27 = .ok (.iconst 0, 1) := by decide +kernel
theorem dX5_fails_28 : decode cX5_fails 28 = .ok (.ireturn, 1) := by decide +kernel
theorem dX5_in_0 : decode cX5_in 0 = .ok (.iload_n 0, 1) := by decide +kernel
theorem dX5_in_1 : decode cX5_in 1 = .ok (.iload_n 1, 1) := by decide +kernel
theorem dX5_in_2 : decode cX5_in 2 = .ok (.if_icmp .lt 12, 3) := by decide +kernel
theorem dX5_in_5 : decode cX5_in 5 = .ok (.iload_n 0, 1) := by decide +kernel
theorem dX5_in_6 : decode cX5_in 6 = .ok (.iload_n 2, 1) := by decide +kernel
theorem dX5_in_7 : decode cX5_in 7 = .ok (.if_icmp .gt 7, 3) := by decide +kernel
theorem dX5_in_10 : decode cX5_in 10 = .ok (.iconst 1, 1) := by decide +kernel
theorem dX5_in_11 : decode cX5_in 11 = .ok (.goto 4, 3) := by decide +kernel
theorem dX5_in_14 : decode cX5_in 14 = .ok (.iconst 0, 1) := by decide +kernel
theorem dX5_in_15 : decode cX5_in 15 = .ok (.ireturn, 1) := by decide +kernel
theorem dX5_min_0 : decode cX5_min 0 = .ok (.iload_n 0, 1) := by decide +kernel
theorem dX5_min_1 : decode cX5_min 1 = .ok (.iload_n 1, 1) := by decide +kernel
theorem dX5_min_2 : decode cX5_min 2 = .ok (.if_icmp .ge 7, 3) := by decide +kernel
theorem dX5_min_5 : decode cX5_min 5 = .ok (.iload_n 0, 1) := by decide +kernel
theorem dX5_min_6 : decode cX5_min 6 = .ok (.goto 4, 3) := by decide +kernel
theorem dX5_min_9 : decode cX5_min 9 = .ok (.iload_n 1, 1) := by decide +kernel
theorem dX5_min_10 : decode cX5_min 10 = .ok (.ireturn, 1) := by decide +kernel
theorem dX5_copy_0 : decode cX5_copy 0 = .ok (.iconst 0, 1) := by decide +kernel
theorem dX5_copy_1 : decode cX5_copy 1 = .ok (.istore_n 2, 1) := by decide +kernel
theorem dX5_copy_2 : decode cX5_copy 2 = .ok (.iload_n 2, 1) := by decide +kernel
theorem dX5_copy_3 : decode cX5_copy 3 = .ok (.sipush 186, 3) := by decide +kernel
theorem dX5_copy_6 : decode cX5_copy 6 = .ok (.if_icmp .ge 15, 3) := by decide +kernel
theorem dX5_copy_9 : decode cX5_copy 9 = .ok (.aload_n 1, 1) := by decide +kernel
theorem dX5_copy_10 : decode cX5_copy 10 = .ok (.iload_n 2, 1) := by decide +kernel
theorem dX5_copy_11 : decode cX5_copy 11 = .ok (.aload_n 0, 1) := by decide +kernel
theorem dX5_copy_12 : decode cX5_copy 12 = .ok (.iload_n 2, 1) := by decide +kernel
theorem dX5_copy_13 : decode cX5_copy 13 = .ok (.iaload, 1) := by decide +kernel
theorem dX5_copy_14 : decode cX5_copy 14 = .ok (.iastore, 1) := by decide +kernel
theorem dX5_copy_15 : decode cX5_copy 15 = .ok (.iinc 2 1, 3) := by decide +kernel
theorem dX5_copy_18 : decode cX5_copy 18 = .ok (.goto (-16), 3) := by decide +kernel
theorem dX5_copy_21 : decode cX5_copy 21 = .ok (.return_, 1) := by decide +kernel
theorem dX5_laySheet_0 : decode cX5_laySheet 0 = .ok (.iconst 0, 1) := by decide +kernel
theorem dX5_laySheet_1 : decode cX5_laySheet 1 = .ok (.istore_n 3, 1) := by decide +kernel
theorem dX5_laySheet_2 : decode cX5_laySheet 2 = .ok (.iload_n 3, 1) := by decide +kernel
theorem dX5_laySheet_3 : decode cX5_laySheet 3 = .ok (.sipush 186, 3) := by decide +kernel
theorem dX5_laySheet_6 : decode cX5_laySheet 6 = .ok (.if_icmp .ge 13, 3) := by decide +kernel
theorem dX5_laySheet_9 : decode cX5_laySheet 9 = .ok (.aload_n 0, 1) := by decide +kernel
theorem dX5_laySheet_10 : decode cX5_laySheet 10 = .ok (.iload_n 3, 1) := by decide +kernel
theorem dX5_laySheet_11 : decode cX5_laySheet 11 = .ok (.iconst 0, 1) := by decide +kernel
theorem dX5_laySheet_12 : decode cX5_laySheet 12 = .ok (.iastore, 1) := by decide +kernel
theorem dX5_laySheet_13 : decode cX5_laySheet 13 = .ok (.iinc 3 1, 3) := by decide +kernel
theorem dX5_laySheet_16 : decode cX5_laySheet 16 = .ok (.goto (-14), 3) := by decide +kernel
theorem dX5_laySheet_19 : decode cX5_laySheet 19 = .ok (.aload_n 0, 1) := by decide +kernel
theorem dX5_laySheet_20 : decode cX5_laySheet 20 = .ok (.iconst 0, 1) := by decide +kernel
theorem dX5_laySheet_21 : decode cX5_laySheet 21 = .ok (.iload_n 1, 1) := by decide +kernel
theorem dX5_laySheet_22 : decode cX5_laySheet 22 = .ok (.iastore, 1) := by decide +kernel
theorem dX5_laySheet_23 : decode cX5_laySheet 23 = .ok (.aload_n 0, 1) := by decide +kernel
theorem dX5_laySheet_24 : decode cX5_laySheet 24 = .ok (.iconst 1, 1) := by decide +kernel
theorem dX5_laySheet_25 : decode cX5_laySheet 25 = .ok (.iload_n 2, 1) := by decide +kernel
theorem dX5_laySheet_26 : decode cX5_laySheet 26 = .ok (.iastore, 1) := by decide +kernel
theorem dX5_laySheet_27 : decode cX5_laySheet 27 = .ok (.aload_n 0, 1) := by decide +kernel
theorem dX5_laySheet_28 : decode cX5_laySheet 28 = .ok (.iconst 2, 1) := by decide +kernel
theorem dX5_laySheet_29 : decode cX5_laySheet 29 = .ok (.iconst 1, 1) := by decide +kernel
theorem dX5_laySheet_30 : decode cX5_laySheet 30 = .ok (.iastore, 1) := by decide +kernel
theorem dX5_laySheet_31 : decode cX5_laySheet 31 = .ok (.iconst 0, 1) := by decide +kernel
theorem dX5_laySheet_32 : decode cX5_laySheet 32 = .ok (.istore_n 3, 1) := by decide +kernel
theorem dX5_laySheet_33 : decode cX5_laySheet 33 = .ok (.iload_n 3, 1) := by decide +kernel
theorem dX5_laySheet_34 : decode cX5_laySheet 34 = .ok (.bipush 96, 2) := by decide +kernel
theorem dX5_laySheet_36 : decode cX5_laySheet 36 = .ok (.if_icmp .ge 16, 3) := by decide +kernel
theorem dX5_laySheet_39 : decode cX5_laySheet 39 = .ok (.aload_n 0, 1) := by decide +kernel
theorem dX5_laySheet_40 : decode cX5_laySheet 40 = .ok (.bipush 6, 2) := by decide +kernel
theorem dX5_laySheet_42 : decode cX5_laySheet 42 = .ok (.iload_n 3, 1) := by decide +kernel
theorem dX5_laySheet_43 : decode cX5_laySheet 43 = .ok (.iadd, 1) := by decide +kernel
theorem dX5_laySheet_44 : decode cX5_laySheet 44 = .ok (.iconst (-1), 1) := by decide +kernel
theorem dX5_laySheet_45 : decode cX5_laySheet 45 = .ok (.iastore, 1) := by decide +kernel
theorem dX5_laySheet_46 : decode cX5_laySheet 46 = .ok (.iinc 3 1, 3) := by decide +kernel
theorem dX5_laySheet_49 : decode cX5_laySheet 49 = .ok (.goto (-16), 3) := by decide +kernel
theorem dX5_laySheet_52 : decode cX5_laySheet 52 = .ok (.iconst 0, 1) := by decide +kernel
theorem dX5_laySheet_53 : decode cX5_laySheet 53 = .ok (.istore_n 3, 1) := by decide +kernel
theorem dX5_laySheet_54 : decode cX5_laySheet 54 = .ok (.iload_n 3, 1) := by decide +kernel
theorem dX5_laySheet_55 : decode cX5_laySheet 55 = .ok (.bipush 12, 2) := by decide +kernel
theorem dX5_laySheet_57 : decode cX5_laySheet 57 = .ok (.if_icmp .ge 16, 3) := by decide +kernel
theorem dX5_laySheet_60 : decode cX5_laySheet 60 = .ok (.aload_n 0, 1) := by decide +kernel
theorem dX5_laySheet_61 : decode cX5_laySheet 61 = .ok (.bipush 102, 2) := by decide +kernel
theorem dX5_laySheet_63 : decode cX5_laySheet 63 = .ok (.iload_n 3, 1) := by decide +kernel
theorem dX5_laySheet_64 : decode cX5_laySheet 64 = .ok (.iadd, 1) := by decide +kernel
theorem dX5_laySheet_65 : decode cX5_laySheet 65 = .ok (.iconst 1, 1) := by decide +kernel
theorem dX5_laySheet_66 : decode cX5_laySheet 66 = .ok (.iastore, 1) := by decide +kernel
theorem dX5_laySheet_67 : decode cX5_laySheet 67 = .ok (.iinc 3 1, 3) := by decide +kernel
theorem dX5_laySheet_70 : decode cX5_laySheet 70 = .ok (.goto (-16), 3) := by decide +kernel
theorem dX5_laySheet_73 : decode cX5_laySheet 73 = .ok (.return_, 1) := by decide +kernel
theorem dX5_append_0 : decode cX5_append 0 = .ok (.aload_n 0, 1) := by decide +kernel
theorem dX5_append_1 : decode cX5_append 1 = .ok (.iconst 0, 1) := by decide +kernel
theorem dX5_append_2 : decode cX5_append 2 = .ok (.putfield 64, 3) := by decide +kernel
theorem dX5_append_5 : decode cX5_append 5 = .ok (.aload_n 0, 1) := by decide +kernel
theorem dX5_append_6 : decode cX5_append 6 = .ok (.getfield 67, 3) := by decide +kernel
theorem dX5_append_9 : decode cX5_append 9 = .ok (.bipush 20, 2) := by decide +kernel
theorem dX5_append_11 : decode cX5_append 11 = .ok (.iadd, 1) := by decide +kernel
theorem dX5_append_12 : decode cX5_append 12 = .ok (.sipush 400, 3) := by decide +kernel
theorem dX5_append_15 : decode cX5_append 15 = .ok (.if_icmp .le 5, 3) := by decide +kernel
theorem dX5_append_18 : decode cX5_append 18 = .ok (.iconst (-1), 1) := by decide +kernel
theorem dX5_append_19 : decode cX5_append 19 = .ok (.ireturn, 1) := by decide +kernel
theorem dX5_append_20 : decode cX5_append 20 = .ok (.iconst 0, 1) := by decide +kernel
theorem dX5_append_21 : decode cX5_append 21 = .ok (.istore 6, 2) := by decide +kernel
theorem dX5_append_23 : decode cX5_append 23 = .ok (.iload 6, 2) := by decide +kernel
theorem dX5_append_25 : decode cX5_append 25 = .ok (.bipush 20, 2) := by decide +kernel
theorem dX5_append_27 : decode cX5_append 27 = .ok (.if_icmp .ge 93, 3) := by decide +kernel
theorem dX5_append_30 : decode cX5_append 30 = .ok (.iload 6, 2) := by decide +kernel
theorem dX5_append_32 : decode cX5_append 32 = .ok (.iconst 4, 1) := by decide +kernel
theorem dX5_append_33 : decode cX5_append 33 = .ok (.if_icmp .ge 7, 3) := by decide +kernel
theorem dX5_append_36 : decode cX5_append 36 = .ok (.iload_n 1, 1) := by decide +kernel
theorem dX5_append_37 : decode cX5_append 37 = .ok (.goto 39, 3) := by decide +kernel
theorem dX5_append_40 : decode cX5_append 40 = .ok (.iload 6, 2) := by decide +kernel
theorem dX5_append_42 : decode cX5_append 42 = .ok (.bipush 8, 2) := by decide +kernel
theorem dX5_append_44 : decode cX5_append 44 = .ok (.if_icmp .ge 7, 3) := by decide +kernel
theorem dX5_append_47 : decode cX5_append 47 = .ok (.iload_n 2, 1) := by decide +kernel
theorem dX5_append_48 : decode cX5_append 48 = .ok (.goto 28, 3) := by decide +kernel
theorem dX5_append_51 : decode cX5_append 51 = .ok (.iload 6, 2) := by decide +kernel
theorem dX5_append_53 : decode cX5_append 53 = .ok (.bipush 12, 2) := by decide +kernel
theorem dX5_append_55 : decode cX5_append 55 = .ok (.if_icmp .ge 7, 3) := by decide +kernel
theorem dX5_append_58 : decode cX5_append 58 = .ok (.iload_n 3, 1) := by decide +kernel
theorem dX5_append_59 : decode cX5_append 59 = .ok (.goto 17, 3) := by decide +kernel
theorem dX5_append_62 : decode cX5_append 62 = .ok (.iload 6, 2) := by decide +kernel
theorem dX5_append_64 : decode cX5_append 64 = .ok (.bipush 16, 2) := by decide +kernel
theorem dX5_append_66 : decode cX5_append 66 = .ok (.if_icmp .ge 8, 3) := by decide +kernel
theorem dX5_append_69 : decode cX5_append 69 = .ok (.iload 4, 2) := by decide +kernel
theorem dX5_append_71 : decode cX5_append 71 = .ok (.goto 5, 3) := by decide +kernel
theorem dX5_append_74 : decode cX5_append 74 = .ok (.iload 5, 2) := by decide +kernel
theorem dX5_append_76 : decode cX5_append 76 = .ok (.istore 7, 2) := by decide +kernel
theorem dX5_append_78 : decode cX5_append 78 = .ok (.aload_n 0, 1) := by decide +kernel
theorem dX5_append_79 : decode cX5_append 79 = .ok (.getfield 9, 3) := by decide +kernel
theorem dX5_append_82 : decode cX5_append 82 = .ok (.aload_n 0, 1) := by decide +kernel
theorem dX5_append_83 : decode cX5_append 83 = .ok (.getfield 67, 3) := by decide +kernel
theorem dX5_append_86 : decode cX5_append 86 = .ok (.iload 7, 2) := by decide +kernel
theorem dX5_append_88 : decode cX5_append 88 = .ok (.bipush 24, 2) := by decide +kernel
theorem dX5_append_90 : decode cX5_append 90 = .ok (.bipush 8, 2) := by decide +kernel
theorem dX5_append_92 : decode cX5_append 92 = .ok (.iload 6, 2) := by decide +kernel
theorem dX5_append_94 : decode cX5_append 94 = .ok (.iconst 4, 1) := by decide +kernel
theorem dX5_append_95 : decode cX5_append 95 = .ok (.irem, 1) := by decide +kernel
theorem dX5_append_96 : decode cX5_append 96 = .ok (.imul, 1) := by decide +kernel
theorem dX5_append_97 : decode cX5_append 97 = .ok (.isub, 1) := by decide +kernel
theorem dX5_append_98 : decode cX5_append 98 = .ok (.ishr, 1) := by decide +kernel
theorem dX5_append_99 : decode cX5_append 99 = .ok (.sipush 255, 3) := by decide +kernel
theorem dX5_append_102 : decode cX5_append 102 = .ok (.iand, 1) := by decide +kernel
theorem dX5_append_103 : decode cX5_append 103 = .ok (.iastore, 1) := by decide +kernel
theorem dX5_append_104 : decode cX5_append 104 = .ok (.aload_n 0, 1) := by decide +kernel
theorem dX5_append_105 : decode cX5_append 105 = .ok (.dup, 1) := by decide +kernel
theorem dX5_append_106 : decode cX5_append 106 = .ok (.getfield 67, 3) := by decide +kernel
theorem dX5_append_109 : decode cX5_append 109 = .ok (.iconst 1, 1) := by decide +kernel
theorem dX5_append_110 : decode cX5_append 110 = .ok (.iadd, 1) := by decide +kernel
theorem dX5_append_111 : decode cX5_append 111 = .ok (.putfield 67, 3) := by decide +kernel
theorem dX5_append_114 : decode cX5_append 114 = .ok (.iinc 6 1, 3) := by decide +kernel
theorem dX5_append_117 : decode cX5_append 117 = .ok (.goto (-94), 3) := by decide +kernel
theorem dX5_append_120 : decode cX5_append 120 = .ok (.aload_n 0, 1) := by decide +kernel
theorem dX5_append_121 : decode cX5_append 121 = .ok (.getfield 67, 3) := by decide +kernel
theorem dX5_append_124 : decode cX5_append 124 = .ok (.ireturn, 1) := by decide +kernel
theorem dX5_byteAt_0 : decode cX5_byteAt 0 = .ok (.iload_n 1, 1) := by decide +kernel
theorem dX5_byteAt_1 : decode cX5_byteAt 1 = .ok (.aload_n 0, 1) := by decide +kernel
theorem dX5_byteAt_2 : decode cX5_byteAt 2 = .ok (.getfield 70, 3) := by decide +kernel
theorem dX5_byteAt_5 : decode cX5_byteAt 5 = .ok (.if_icmp .ge 12, 3) := by decide +kernel
theorem dX5_byteAt_8 : decode cX5_byteAt 8 = .ok (.aload_n 0, 1) := by decide +kernel
theorem dX5_byteAt_9 : decode cX5_byteAt 9 = .ok (.getfield 9, 3) := by decide +kernel
theorem dX5_byteAt_12 : decode cX5_byteAt 12 = .ok (.iload_n 1, 1) := by decide +kernel
theorem dX5_byteAt_13 : decode cX5_byteAt 13 = .ok (.iaload, 1) := by decide +kernel
theorem dX5_byteAt_14 : decode cX5_byteAt 14 = .ok (.goto 4, 3) := by decide +kernel
theorem dX5_byteAt_17 : decode cX5_byteAt 17 = .ok (.iconst (-1), 1) := by decide +kernel
theorem dX5_byteAt_18 : decode cX5_byteAt 18 = .ok (.ireturn, 1) := by decide +kernel
theorem dX5_ahead_0 : decode cX5_ahead 0 = .ok (.aload_n 0, 1) := by decide +kernel
theorem dX5_ahead_1 : decode cX5_ahead 1 = .ok (.aload_n 0, 1) := by decide +kernel
theorem dX5_ahead_2 : decode cX5_ahead 2 = .ok (.getfield 73, 3) := by decide +kernel
theorem dX5_ahead_5 : decode cX5_ahead 5 = .ok (.invokevirtual 76, 3) := by decide +kernel
theorem dX5_ahead_8 : decode cX5_ahead 8 = .ok (.bipush 32, 2) := by decide +kernel
theorem dX5_ahead_10 : decode cX5_ahead 10 = .ok (.if_icmp .ne 16, 3) := by decide +kernel
theorem dX5_ahead_13 : decode cX5_ahead 13 = .ok (.aload_n 0, 1) := by decide +kernel
theorem dX5_ahead_14 : decode cX5_ahead 14 = .ok (.dup, 1) := by decide +kernel
theorem dX5_ahead_15 : decode cX5_ahead 15 = .ok (.getfield 73, 3) := by decide +kernel
theorem dX5_ahead_18 : decode cX5_ahead 18 = .ok (.iconst 1, 1) := by decide +kernel
theorem dX5_ahead_19 : decode cX5_ahead 19 = .ok (.iadd, 1) := by decide +kernel
theorem dX5_ahead_20 : decode cX5_ahead 20 = .ok (.putfield 73, 3) := by decide +kernel
theorem dX5_ahead_23 : decode cX5_ahead 23 = .ok (.goto (-23), 3) := by decide +kernel
theorem dX5_ahead_26 : decode cX5_ahead 26 = .ok (.aload_n 0, 1) := by decide +kernel
theorem dX5_ahead_27 : decode cX5_ahead 27 = .ok (.aload_n 0, 1) := by decide +kernel
theorem dX5_ahead_28 : decode cX5_ahead 28 = .ok (.getfield 73, 3) := by decide +kernel
theorem dX5_ahead_31 : decode cX5_ahead 31 = .ok (.invokevirtual 76, 3) := by decide +kernel
theorem dX5_ahead_34 : decode cX5_ahead 34 = .ok (.ireturn, 1) := by decide +kernel
theorem dX5_isGood_0 : decode cX5_isGood 0 = .ok (.aload_n 0, 1) := by decide +kernel
theorem dX5_isGood_1 : decode cX5_isGood 1 = .ok (.getfield 80, 3) := by decide +kernel
theorem dX5_isGood_4 : decode cX5_isGood 4 = .ok (.ifCond .ne 7, 3) := by decide +kernel
theorem dX5_isGood_7 : decode cX5_isGood 7 = .ok (.iconst 1, 1) := by decide +kernel
theorem dX5_isGood_8 : decode cX5_isGood 8 = .ok (.goto 4, 3) := by decide +kernel
theorem dX5_isGood_11 : decode cX5_isGood 11 = .ok (.iconst 0, 1) := by decide +kernel
theorem dX5_isGood_12 : decode cX5_isGood 12 = .ok (.ireturn, 1) := by decide +kernel
theorem dX5_report_0 : decode cX5_report 0 = .ok (.aload_n 0, 1) := by decide +kernel
theorem dX5_report_1 : decode cX5_report 1 = .ok (.getfield 80, 3) := by decide +kernel
theorem dX5_report_4 : decode cX5_report 4 = .ok (.ifCond .eq 4, 3) := by decide +kernel
theorem dX5_report_7 : decode cX5_report 7 = .ok (.return_, 1) := by decide +kernel
theorem dX5_report_8 : decode cX5_report 8 = .ok (.aload_n 0, 1) := by decide +kernel
theorem dX5_report_9 : decode cX5_report 9 = .ok (.iload_n 1, 1) := by decide +kernel
theorem dX5_report_10 : decode cX5_report 10 = .ok (.putfield 80, 3) := by decide +kernel
theorem dX5_report_13 : decode cX5_report 13 = .ok (.aload_n 0, 1) := by decide +kernel
theorem dX5_report_14 : decode cX5_report 14 = .ok (.iload_n 2, 1) := by decide +kernel
theorem dX5_report_15 : decode cX5_report 15 = .ok (.putfield 83, 3) := by decide +kernel
theorem dX5_report_18 : decode cX5_report 18 = .ok (.return_, 1) := by decide +kernel
theorem dX5_isDigit_0 : decode cX5_isDigit 0 = .ok (.iload_n 0, 1) := by decide +kernel
theorem dX5_isDigit_1 : decode cX5_isDigit 1 = .ok (.bipush 48, 2) := by decide +kernel
theorem dX5_isDigit_3 : decode cX5_isDigit 3 = .ok (.bipush 57, 2) := by decide +kernel
theorem dX5_isDigit_5 : decode cX5_isDigit 5 = .ok (.invokestatic 86, 3) := by decide +kernel
theorem dX5_isDigit_8 : decode cX5_isDigit 8 = .ok (.ireturn, 1) := by decide +kernel
theorem dX5_takeWord_0 : decode cX5_takeWord 0 = .ok (.aload_n 0, 1) := by decide +kernel
theorem dX5_takeWord_1 : decode cX5_takeWord 1 = .ok (.invokevirtual 90, 3) := by decide +kernel
theorem dX5_takeWord_4 : decode cX5_takeWord 4 = .ok (.ifCond .ne 5, 3) := by decide +kernel
theorem dX5_takeWord_7 : decode cX5_takeWord 7 = .ok (.iconst 0, 1) := by decide +kernel
theorem dX5_takeWord_8 : decode cX5_takeWord 8 = .ok (.ireturn, 1) := by decide +kernel
theorem dX5_takeWord_9 : decode cX5_takeWord 9 = .ok (.aload_n 0, 1) := by decide +kernel
theorem dX5_takeWord_10 : decode cX5_takeWord 10 = .ok (.invokevirtual 94, 3) := by decide +kernel
theorem dX5_takeWord_13 : decode cX5_takeWord 13 = .ok (.pop, 1) := by decide +kernel
theorem dX5_takeWord_14 : decode cX5_takeWord 14 = .ok (.iconst 0, 1) := by decide +kernel
theorem dX5_takeWord_15 : decode cX5_takeWord 15 = .ok (.istore_n 2, 1) := by decide +kernel
theorem dX5_takeWord_16 : decode cX5_takeWord 16 = .ok (.iload_n 2, 1) := by decide +kernel
theorem dX5_takeWord_17 : decode cX5_takeWord 17 = .ok (.aload_n 1, 1) := by decide +kernel
theorem dX5_takeWord_18 : decode cX5_takeWord 18 = .ok (.invokevirtual 98, 3) := by decide +kernel
theorem dX5_takeWord_21 : decode cX5_takeWord 21 = .ok (.if_icmp .ge 27, 3) := by decide +kernel
theorem dX5_takeWord_24 : decode cX5_takeWord 24 = .ok (.aload_n 0, 1) := by decide +kernel
theorem dX5_takeWord_25 : decode cX5_takeWord 25 = .ok (.aload_n 0, 1) := by decide +kernel
theorem dX5_takeWord_26 : decode cX5_takeWord 26 = .ok (.getfield 73, 3) := by decide +kernel
theorem dX5_takeWord_29 : decode cX5_takeWord 29 = .ok (.iload_n 2, 1) := by decide +kernel
theorem dX5_takeWord_30 : decode cX5_takeWord 30 = .ok (.iadd, 1) := by decide +kernel
theorem dX5_takeWord_31 : decode cX5_takeWord 31 = .ok (.invokevirtual 76, 3) := by decide +kernel
theorem dX5_takeWord_34 : decode cX5_takeWord 34 = .ok (.aload_n 1, 1) := by decide +kernel
theorem dX5_takeWord_35 : decode cX5_takeWord 35 = .ok (.iload_n 2, 1) := by decide +kernel
theorem dX5_takeWord_36 : decode cX5_takeWord 36 = .ok (.invokevirtual 103, 3) := by decide +kernel
theorem dX5_takeWord_39 : decode cX5_takeWord 39 = .ok (.if_icmp .ne 9, 3) := by decide +kernel
theorem dX5_takeWord_42 : decode cX5_takeWord 42 = .ok (.iinc 2 1, 3) := by decide +kernel
theorem dX5_takeWord_45 : decode cX5_takeWord 45 = .ok (.goto (-29), 3) := by decide +kernel
theorem dX5_takeWord_48 : decode cX5_takeWord 48 = .ok (.iload_n 2, 1) := by decide +kernel
theorem dX5_takeWord_49 : decode cX5_takeWord 49 = .ok (.aload_n 1, 1) := by decide +kernel
theorem dX5_takeWord_50 : decode cX5_takeWord 50 = .ok (.invokevirtual 98, 3) := by decide +kernel
theorem dX5_takeWord_53 : decode cX5_takeWord 53 = .ok (.if_icmp .lt 23, 3) := by decide +kernel
theorem dX5_takeWord_56 : decode cX5_takeWord 56 = .ok (.aload_n 0, 1) := by decide +kernel
theorem dX5_takeWord_57 : decode cX5_takeWord 57 = .ok (.aload_n 0, 1) := by decide +kernel
theorem dX5_takeWord_58 : decode cX5_takeWord 58 = .ok (.getfield 73, 3) := by decide +kernel
theorem dX5_takeWord_61 : decode cX5_takeWord 61 = .ok (.iload_n 2, 1) := by decide +kernel
theorem dX5_takeWord_62 : decode cX5_takeWord 62 = .ok (.iadd, 1) := by decide +kernel
theorem dX5_takeWord_63 : decode cX5_takeWord 63 = .ok (.invokevirtual 76, 3) := by decide +kernel
theorem dX5_takeWord_66 : decode cX5_takeWord 66 = .ok (.bipush 97, 2) := by decide +kernel
theorem dX5_takeWord_68 : decode cX5_takeWord 68 = .ok (.bipush 122, 2) := by decide +kernel
theorem dX5_takeWord_70 : decode cX5_takeWord 70 = .ok (.invokestatic 86, 3) := by decide +kernel
theorem dX5_takeWord_73 : decode cX5_takeWord 73 = .ok (.ifCond .eq 5, 3) := by decide +kernel
theorem dX5_takeWord_76 : decode cX5_takeWord 76 = .ok (.iconst 0, 1) := by decide +kernel
theorem dX5_takeWord_77 : decode cX5_takeWord 77 = .ok (.ireturn, 1) := by decide +kernel
theorem dX5_takeWord_78 : decode cX5_takeWord 78 = .ok (.aload_n 0, 1) := by decide +kernel
theorem dX5_takeWord_79 : decode cX5_takeWord 79 = .ok (.dup, 1) := by decide +kernel
theorem dX5_takeWord_80 : decode cX5_takeWord 80 = .ok (.getfield 73, 3) := by decide +kernel
theorem dX5_takeWord_83 : decode cX5_takeWord 83 = .ok (.iload_n 2, 1) := by decide +kernel
theorem dX5_takeWord_84 : decode cX5_takeWord 84 = .ok (.iadd, 1) := by decide +kernel
theorem dX5_takeWord_85 : decode cX5_takeWord 85 = .ok (.putfield 73, 3) := by decide +kernel
theorem dX5_takeWord_88 : decode cX5_takeWord 88 = .ok (.iconst 1, 1) := by decide +kernel
theorem dX5_takeWord_89 : decode cX5_takeWord 89 = .ok (.ireturn, 1) := by decide +kernel
theorem dX5_expect_0 : decode cX5_expect 0 = .ok (.aload_n 0, 1) := by decide +kernel
theorem dX5_expect_1 : decode cX5_expect 1 = .ok (.invokevirtual 90, 3) := by decide +kernel
theorem dX5_expect_4 : decode cX5_expect 4 = .ok (.ifCond .ne 4, 3) := by decide +kernel
theorem dX5_expect_7 : decode cX5_expect 7 = .ok (.return_, 1) := by decide +kernel
theorem dX5_expect_8 : decode cX5_expect 8 = .ok (.aload_n 0, 1) := by decide +kernel
theorem dX5_expect_9 : decode cX5_expect 9 = .ok (.invokevirtual 94, 3) := by decide +kernel
theorem dX5_expect_12 : decode cX5_expect 12 = .ok (.iload_n 1, 1) := by decide +kernel
theorem dX5_expect_13 : decode cX5_expect 13 = .ok (.if_icmp .ne 16, 3) := by decide +kernel
theorem dX5_expect_16 : decode cX5_expect 16 = .ok (.aload_n 0, 1) := by decide +kernel
theorem dX5_expect_17 : decode cX5_expect 17 = .ok (.dup, 1) := by decide +kernel
theorem dX5_expect_18 : decode cX5_expect 18 = .ok (.getfield 73, 3) := by decide +kernel
theorem dX5_expect_21 : decode cX5_expect 21 = .ok (.iconst 1, 1) := by decide +kernel
theorem dX5_expect_22 : decode cX5_expect 22 = .ok (.iadd, 1) := by decide +kernel
theorem dX5_expect_23 : decode cX5_expect 23 = .ok (.putfield 73, 3) := by decide +kernel
theorem dX5_expect_26 : decode cX5_expect 26 = .ok (.goto 13, 3) := by decide +kernel
theorem dX5_expect_29 : decode cX5_expect 29 = .ok (.aload_n 0, 1) := by decide +kernel
theorem dX5_expect_30 : decode cX5_expect 30 = .ok (.bipush (-2), 2) := by decide +kernel
theorem dX5_expect_32 : decode cX5_expect 32 = .ok (.aload_n 0, 1) := by decide +kernel
theorem dX5_expect_33 : decode cX5_expect 33 = .ok (.getfield 73, 3) := by decide +kernel
theorem dX5_expect_36 : decode cX5_expect 36 = .ok (.invokevirtual 107, 3) := by decide +kernel
theorem dX5_expect_39 : decode cX5_expect 39 = .ok (.return_, 1) := by decide +kernel
theorem dX5_number_0 : decode cX5_number 0 = .ok (.aload_n 0, 1) := by decide +kernel
theorem dX5_number_1 : decode cX5_number 1 = .ok (.invokevirtual 90, 3) := by decide +kernel
theorem dX5_number_4 : decode cX5_number 4 = .ok (.ifCond .ne 5, 3) := by decide +kernel
theorem dX5_number_7 : decode cX5_number 7 = .ok (.iconst 0, 1) := by decide +kernel
theorem dX5_number_8 : decode cX5_number 8 = .ok (.ireturn, 1) := by decide +kernel
theorem dX5_number_9 : decode cX5_number 9 = .ok (.aload_n 0, 1) := by decide +kernel
theorem dX5_number_10 : decode cX5_number 10 = .ok (.invokevirtual 94, 3) := by decide +kernel
theorem dX5_number_13 : decode cX5_number 13 = .ok (.invokestatic 111, 3) := by decide +kernel
theorem dX5_number_16 : decode cX5_number 16 = .ok (.ifCond .ne 15, 3) := by decide +kernel
theorem dX5_number_19 : decode cX5_number 19 = .ok (.aload_n 0, 1) := by decide +kernel
theorem dX5_number_20 : decode cX5_number 20 = .ok (.bipush (-2), 2) := by decide +kernel
theorem dX5_number_22 : decode cX5_number 22 = .ok (.aload_n 0, 1) := by decide +kernel
theorem dX5_number_23 : decode cX5_number 23 = .ok (.getfield 73, 3) := by decide +kernel
theorem dX5_number_26 : decode cX5_number 26 = .ok (.invokevirtual 107, 3) := by decide +kernel
theorem dX5_number_29 : decode cX5_number 29 = .ok (.iconst 0, 1) := by decide +kernel
theorem dX5_number_30 : decode cX5_number 30 = .ok (.ireturn, 1) := by decide +kernel
theorem dX5_number_31 : decode cX5_number 31 = .ok (.aload_n 0, 1) := by decide +kernel
theorem dX5_number_32 : decode cX5_number 32 = .ok (.aload_n 0, 1) := by decide +kernel
theorem dX5_number_33 : decode cX5_number 33 = .ok (.getfield 73, 3) := by decide +kernel
theorem dX5_number_36 : decode cX5_number 36 = .ok (.putfield 115, 3) := by decide +kernel
theorem dX5_number_39 : decode cX5_number 39 = .ok (.iconst 0, 1) := by decide +kernel
theorem dX5_number_40 : decode cX5_number 40 = .ok (.istore_n 3, 1) := by decide +kernel
theorem dX5_number_41 : decode cX5_number 41 = .ok (.aload_n 0, 1) := by decide +kernel
theorem dX5_number_42 : decode cX5_number 42 = .ok (.aload_n 0, 1) := by decide +kernel
theorem dX5_number_43 : decode cX5_number 43 = .ok (.getfield 73, 3) := by decide +kernel
theorem dX5_number_46 : decode cX5_number 46 = .ok (.invokevirtual 76, 3) := by decide +kernel
theorem dX5_number_49 : decode cX5_number 49 = .ok (.invokestatic 111, 3) := by decide +kernel
theorem dX5_number_52 : decode cX5_number 52 = .ok (.ifCond .eq 38, 3) := by decide +kernel
theorem dX5_number_55 : decode cX5_number 55 = .ok (.ldc 118, 2) := by decide +kernel
theorem dX5_number_57 : decode cX5_number 57 = .ok (.bipush 10, 2) := by decide +kernel
theorem dX5_number_59 : decode cX5_number 59 = .ok (.iload_n 3, 1) := by decide +kernel
theorem dX5_number_60 : decode cX5_number 60 = .ok (.imul, 1) := by decide +kernel
theorem dX5_number_61 : decode cX5_number 61 = .ok (.aload_n 0, 1) := by decide +kernel
theorem dX5_number_62 : decode cX5_number 62 = .ok (.aload_n 0, 1) := by decide +kernel
theorem dX5_number_63 : decode cX5_number 63 = .ok (.getfield 73, 3) := by decide +kernel
theorem dX5_number_66 : decode cX5_number 66 = .ok (.invokevirtual 76, 3) := by decide +kernel
theorem dX5_number_69 : decode cX5_number 69 = .ok (.iadd, 1) := by decide +kernel
theorem dX5_number_70 : decode cX5_number 70 = .ok (.bipush 48, 2) := by decide +kernel
theorem dX5_number_72 : decode cX5_number 72 = .ok (.isub, 1) := by decide +kernel
theorem dX5_number_73 : decode cX5_number 73 = .ok (.invokestatic 119, 3) := by decide +kernel
theorem dX5_number_76 : decode cX5_number 76 = .ok (.istore_n 3, 1) := by decide +kernel
theorem dX5_number_77 : decode cX5_number 77 = .ok (.aload_n 0, 1) := by decide +kernel
theorem dX5_number_78 : decode cX5_number 78 = .ok (.dup, 1) := by decide +kernel
theorem dX5_number_79 : decode cX5_number 79 = .ok (.getfield 73, 3) := by decide +kernel
theorem dX5_number_82 : decode cX5_number 82 = .ok (.iconst 1, 1) := by decide +kernel
theorem dX5_number_83 : decode cX5_number 83 = .ok (.iadd, 1) := by decide +kernel
theorem dX5_number_84 : decode cX5_number 84 = .ok (.putfield 73, 3) := by decide +kernel
theorem dX5_number_87 : decode cX5_number 87 = .ok (.goto (-46), 3) := by decide +kernel
theorem dX5_number_90 : decode cX5_number 90 = .ok (.iload_n 3, 1) := by decide +kernel
theorem dX5_number_91 : decode cX5_number 91 = .ok (.iload_n 1, 1) := by decide +kernel
theorem dX5_number_92 : decode cX5_number 92 = .ok (.iload_n 2, 1) := by decide +kernel
theorem dX5_number_93 : decode cX5_number 93 = .ok (.invokestatic 86, 3) := by decide +kernel
theorem dX5_number_96 : decode cX5_number 96 = .ok (.ifCond .ne 13, 3) := by decide +kernel
theorem dX5_number_99 : decode cX5_number 99 = .ok (.aload_n 0, 1) := by decide +kernel
theorem dX5_number_100 : decode cX5_number 100 = .ok (.bipush (-3), 2) := by decide +kernel
theorem dX5_number_102 : decode cX5_number 102 = .ok (.aload_n 0, 1) := by decide +kernel
theorem dX5_number_103 : decode cX5_number 103 = .ok (.getfield 115, 3) := by decide +kernel
theorem dX5_number_106 : decode cX5_number 106 = .ok (.invokevirtual 107, 3) := by decide +kernel
theorem dX5_number_109 : decode cX5_number 109 = .ok (.aload_n 0, 1) := by decide +kernel
theorem dX5_number_110 : decode cX5_number 110 = .ok (.invokevirtual 90, 3) := by decide +kernel
theorem dX5_number_113 : decode cX5_number 113 = .ok (.ifCond .eq 7, 3) := by decide +kernel
theorem dX5_number_116 : decode cX5_number 116 = .ok (.iload_n 3, 1) := by decide +kernel
theorem dX5_number_117 : decode cX5_number 117 = .ok (.goto 4, 3) := by decide +kernel
theorem dX5_number_120 : decode cX5_number 120 = .ok (.iconst 0, 1) := by decide +kernel
theorem dX5_number_121 : decode cX5_number 121 = .ok (.ireturn, 1) := by decide +kernel
theorem dX5_once_0 : decode cX5_once 0 = .ok (.aload_n 0, 1) := by decide +kernel
theorem dX5_once_1 : decode cX5_once 1 = .ok (.getfield 123, 3) := by decide +kernel
theorem dX5_once_4 : decode cX5_once 4 = .ok (.iload_n 1, 1) := by decide +kernel
theorem dX5_once_5 : decode cX5_once 5 = .ok (.ishr, 1) := by decide +kernel
theorem dX5_once_6 : decode cX5_once 6 = .ok (.iconst 1, 1) := by decide +kernel
theorem dX5_once_7 : decode cX5_once 7 = .ok (.iand, 1) := by decide +kernel
theorem dX5_once_8 : decode cX5_once 8 = .ok (.iconst 1, 1) := by decide +kernel
theorem dX5_once_9 : decode cX5_once 9 = .ok (.if_icmp .ne 10, 3) := by decide +kernel
theorem dX5_once_12 : decode cX5_once 12 = .ok (.aload_n 0, 1) := by decide +kernel
theorem dX5_once_13 : decode cX5_once 13 = .ok (.bipush (-2), 2) := by decide +kernel
theorem dX5_once_15 : decode cX5_once 15 = .ok (.iload_n 2, 1) := by decide +kernel
theorem dX5_once_16 : decode cX5_once 16 = .ok (.invokevirtual 107, 3) := by decide +kernel
theorem dX5_once_19 : decode cX5_once 19 = .ok (.aload_n 0, 1) := by decide +kernel
theorem dX5_once_20 : decode cX5_once 20 = .ok (.dup, 1) := by decide +kernel
theorem dX5_once_21 : decode cX5_once 21 = .ok (.getfield 123, 3) := by decide +kernel
theorem dX5_once_24 : decode cX5_once 24 = .ok (.iconst 1, 1) := by decide +kernel
theorem dX5_once_25 : decode cX5_once 25 = .ok (.iload_n 1, 1) := by decide +kernel
theorem dX5_once_26 : decode cX5_once 26 = .ok (.ishl, 1) := by decide +kernel
theorem dX5_once_27 : decode cX5_once 27 = .ok (.ior, 1) := by decide +kernel
theorem dX5_once_28 : decode cX5_once 28 = .ok (.putfield 123, 3) := by decide +kernel
theorem dX5_once_31 : decode cX5_once 31 = .ok (.return_, 1) := by decide +kernel
theorem dX5_isLine_0 : decode cX5_isLine 0 = .ok (.iload_n 0, 1) := by decide +kernel
theorem dX5_isLine_1 : decode cX5_isLine 1 = .ok (.bipush 45, 2) := by decide +kernel
theorem dX5_isLine_3 : decode cX5_isLine 3 = .ok (.if_icmp .eq 14, 3) := by decide +kernel
theorem dX5_isLine_6 : decode cX5_isLine 6 = .ok (.iload_n 0, 1) := by decide +kernel
theorem dX5_isLine_7 : decode cX5_isLine 7 = .ok (.bipush 97, 2) := by decide +kernel
theorem dX5_isLine_9 : decode cX5_isLine 9 = .ok (.bipush 122, 2) := by decide +kernel
theorem dX5_isLine_11 : decode cX5_isLine 11 = .ok (.invokestatic 86, 3) := by decide +kernel
theorem dX5_isLine_14 : decode cX5_isLine 14 = .ok (.ifCond .eq 7, 3) := by decide +kernel
theorem dX5_isLine_17 : decode cX5_isLine 17 = .ok (.iconst 1, 1) := by decide +kernel
theorem dX5_isLine_18 : decode cX5_isLine 18 = .ok (.goto 4, 3) := by decide +kernel
theorem dX5_isLine_21 : decode cX5_isLine 21 = .ok (.iconst 0, 1) := by decide +kernel
theorem dX5_isLine_22 : decode cX5_isLine 22 = .ok (.ireturn, 1) := by decide +kernel
theorem dX5_readLine_0 : decode cX5_readLine 0 = .ok (.aload_n 0, 1) := by decide +kernel
theorem dX5_readLine_1 : decode cX5_readLine 1 = .ok (.invokevirtual 90, 3) := by decide +kernel
theorem dX5_readLine_4 : decode cX5_readLine 4 = .ok (.ifCond .ne 4, 3) := by decide +kernel
theorem dX5_readLine_7 : decode cX5_readLine 7 = .ok (.return_, 1) := by decide +kernel
theorem dX5_readLine_8 : decode cX5_readLine 8 = .ok (.aload_n 0, 1) := by decide +kernel
theorem dX5_readLine_9 : decode cX5_readLine 9 = .ok (.invokevirtual 94, 3) := by decide +kernel
theorem dX5_readLine_12 : decode cX5_readLine 12 = .ok (.invokestatic 126, 3) := by decide +kernel
theorem dX5_readLine_15 : decode cX5_readLine 15 = .ok (.ifCond .ne 14, 3) := by decide +kernel
theorem dX5_readLine_18 : decode cX5_readLine 18 = .ok (.aload_n 0, 1) := by decide +kernel
theorem dX5_readLine_19 : decode cX5_readLine 19 = .ok (.bipush (-2), 2) := by decide +kernel
theorem dX5_readLine_21 : decode cX5_readLine 21 = .ok (.aload_n 0, 1) := by decide +kernel
theorem dX5_readLine_22 : decode cX5_readLine 22 = .ok (.getfield 73, 3) := by decide +kernel
theorem dX5_readLine_25 : decode cX5_readLine 25 = .ok (.invokevirtual 107, 3) := by decide +kernel
theorem dX5_readLine_28 : decode cX5_readLine 28 = .ok (.return_, 1) := by decide +kernel
theorem dX5_readLine_29 : decode cX5_readLine 29 = .ok (.aload_n 0, 1) := by decide +kernel
theorem dX5_readLine_30 : decode cX5_readLine 30 = .ok (.getfield 73, 3) := by decide +kernel
theorem dX5_readLine_33 : decode cX5_readLine 33 = .ok (.istore_n 3, 1) := by decide +kernel
theorem dX5_readLine_34 : decode cX5_readLine 34 = .ok (.iconst 0, 1) := by decide +kernel
theorem dX5_readLine_35 : decode cX5_readLine 35 = .ok (.istore 4, 2) := by decide +kernel
theorem dX5_readLine_37 : decode cX5_readLine 37 = .ok (.aload_n 0, 1) := by decide +kernel
theorem dX5_readLine_38 : decode cX5_readLine 38 = .ok (.aload_n 0, 1) := by decide +kernel
theorem dX5_readLine_39 : decode cX5_readLine 39 = .ok (.getfield 73, 3) := by decide +kernel
theorem dX5_readLine_42 : decode cX5_readLine 42 = .ok (.invokevirtual 76, 3) := by decide +kernel
theorem dX5_readLine_45 : decode cX5_readLine 45 = .ok (.invokestatic 126, 3) := by decide +kernel
theorem dX5_readLine_48 : decode cX5_readLine 48 = .ok (.ifCond .eq 80, 3) := by decide +kernel
theorem dX5_readLine_51 : decode cX5_readLine 51 = .ok (.aload_n 0, 1) := by decide +kernel
theorem dX5_readLine_52 : decode cX5_readLine 52 = .ok (.aload_n 0, 1) := by decide +kernel
theorem dX5_readLine_53 : decode cX5_readLine 53 = .ok (.getfield 73, 3) := by decide +kernel
theorem dX5_readLine_56 : decode cX5_readLine 56 = .ok (.invokevirtual 76, 3) := by decide +kernel
theorem dX5_readLine_59 : decode cX5_readLine 59 = .ok (.istore 5, 2) := by decide +kernel
theorem dX5_readLine_61 : decode cX5_readLine 61 = .ok (.iload 4, 2) := by decide +kernel
theorem dX5_readLine_63 : decode cX5_readLine 63 = .ok (.aload_n 0, 1) := by decide +kernel
theorem dX5_readLine_64 : decode cX5_readLine 64 = .ok (.getfield 20, 3) := by decide +kernel
theorem dX5_readLine_67 : decode cX5_readLine 67 = .ok (.iconst 0, 1) := by decide +kernel
theorem dX5_readLine_68 : decode cX5_readLine 68 = .ok (.iaload, 1) := by decide +kernel
theorem dX5_readLine_69 : decode cX5_readLine 69 = .ok (.if_icmp .ge 43, 3) := by decide +kernel
theorem dX5_readLine_72 : decode cX5_readLine 72 = .ok (.aload_n 0, 1) := by decide +kernel
theorem dX5_readLine_73 : decode cX5_readLine 73 = .ok (.getfield 20, 3) := by decide +kernel
theorem dX5_readLine_76 : decode cX5_readLine 76 = .ok (.bipush 6, 2) := by decide +kernel
theorem dX5_readLine_78 : decode cX5_readLine 78 = .ok (.bipush 48, 2) := by decide +kernel
theorem dX5_readLine_80 : decode cX5_readLine 80 = .ok (.iload_n 1, 1) := by decide +kernel
theorem dX5_readLine_81 : decode cX5_readLine 81 = .ok (.imul, 1) := by decide +kernel
theorem dX5_readLine_82 : decode cX5_readLine 82 = .ok (.iadd, 1) := by decide +kernel
theorem dX5_readLine_83 : decode cX5_readLine 83 = .ok (.iload_n 2, 1) := by decide +kernel
theorem dX5_readLine_84 : decode cX5_readLine 84 = .ok (.aload_n 0, 1) := by decide +kernel
theorem dX5_readLine_85 : decode cX5_readLine 85 = .ok (.getfield 20, 3) := by decide +kernel
theorem dX5_readLine_88 : decode cX5_readLine 88 = .ok (.iconst 0, 1) := by decide +kernel
theorem dX5_readLine_89 : decode cX5_readLine 89 = .ok (.iaload, 1) := by decide +kernel
theorem dX5_readLine_90 : decode cX5_readLine 90 = .ok (.imul, 1) := by decide +kernel
theorem dX5_readLine_91 : decode cX5_readLine 91 = .ok (.iadd, 1) := by decide +kernel
theorem dX5_readLine_92 : decode cX5_readLine 92 = .ok (.iload 4, 2) := by decide +kernel
theorem dX5_readLine_94 : decode cX5_readLine 94 = .ok (.iadd, 1) := by decide +kernel
theorem dX5_readLine_95 : decode cX5_readLine 95 = .ok (.iload 5, 2) := by decide +kernel
theorem dX5_readLine_97 : decode cX5_readLine 97 = .ok (.bipush 45, 2) := by decide +kernel
theorem dX5_readLine_99 : decode cX5_readLine 99 = .ok (.if_icmp .ne 7, 3) := by decide +kernel
theorem dX5_readLine_102 : decode cX5_readLine 102 = .ok (.iconst (-1), 1) := by decide +kernel
theorem dX5_readLine_103 : decode cX5_readLine 103 = .ok (.goto 8, 3) := by decide +kernel
theorem dX5_readLine_106 : decode cX5_readLine 106 = .ok (.iload 5, 2) := by decide +kernel
theorem dX5_readLine_108 : decode cX5_readLine 108 = .ok (.bipush 97, 2) := by decide +kernel
theorem dX5_readLine_110 : decode cX5_readLine 110 = .ok (.isub, 1) := by decide +kernel
theorem dX5_readLine_111 : decode cX5_readLine 111 = .ok (.iastore, 1) := by decide +kernel
theorem dX5_readLine_112 : decode cX5_readLine 112 = .ok (.iinc 4 1, 3) := by decide +kernel
theorem dX5_readLine_115 : decode cX5_readLine 115 = .ok (.aload_n 0, 1) := by decide +kernel
theorem dX5_readLine_116 : decode cX5_readLine 116 = .ok (.dup, 1) := by decide +kernel
theorem dX5_readLine_117 : decode cX5_readLine 117 = .ok (.getfield 73, 3) := by decide +kernel
theorem dX5_readLine_120 : decode cX5_readLine 120 = .ok (.iconst 1, 1) := by decide +kernel
theorem dX5_readLine_121 : decode cX5_readLine 121 = .ok (.iadd, 1) := by decide +kernel
theorem dX5_readLine_122 : decode cX5_readLine 122 = .ok (.putfield 73, 3) := by decide +kernel
theorem dX5_readLine_125 : decode cX5_readLine 125 = .ok (.goto (-88), 3) := by decide +kernel
theorem dX5_readLine_128 : decode cX5_readLine 128 = .ok (.iload 4, 2) := by decide +kernel
theorem dX5_readLine_130 : decode cX5_readLine 130 = .ok (.aload_n 0, 1) := by decide +kernel
theorem dX5_readLine_131 : decode cX5_readLine 131 = .ok (.getfield 20, 3) := by decide +kernel
theorem dX5_readLine_134 : decode cX5_readLine 134 = .ok (.iconst 0, 1) := by decide +kernel
theorem dX5_readLine_135 : decode cX5_readLine 135 = .ok (.iaload, 1) := by decide +kernel
theorem dX5_readLine_136 : decode cX5_readLine 136 = .ok (.if_icmp .eq 10, 3) := by decide +kernel
theorem dX5_readLine_139 : decode cX5_readLine 139 = .ok (.aload_n 0, 1) := by decide +kernel
theorem dX5_readLine_140 : decode cX5_readLine 140 = .ok (.bipush (-4), 2) := by decide +kernel
theorem dX5_readLine_142 : decode cX5_readLine 142 = .ok (.iload_n 3, 1) := by decide +kernel
theorem dX5_readLine_143 : decode cX5_readLine 143 = .ok (.invokevirtual 107, 3) := by decide +kernel
theorem dX5_readLine_146 : decode cX5_readLine 146 = .ok (.return_, 1) := by decide +kernel
theorem dX5_readSide_0 : decode cX5_readSide 0 = .ok (.aload_n 0, 1) := by decide +kernel
theorem dX5_readSide_1 : decode cX5_readSide 1 = .ok (.iload_n 1, 1) := by decide +kernel
theorem dX5_readSide_2 : decode cX5_readSide 2 = .ok (.iload_n 2, 1) := by decide +kernel
theorem dX5_readSide_3 : decode cX5_readSide 3 = .ok (.invokevirtual 129, 3) := by decide +kernel
theorem dX5_readSide_6 : decode cX5_readSide 6 = .ok (.iconst 0, 1) := by decide +kernel
theorem dX5_readSide_7 : decode cX5_readSide 7 = .ok (.istore_n 3, 1) := by decide +kernel
theorem dX5_readSide_8 : decode cX5_readSide 8 = .ok (.iload_n 3, 1) := by decide +kernel
theorem dX5_readSide_9 : decode cX5_readSide 9 = .ok (.aload_n 0, 1) := by decide +kernel
theorem dX5_readSide_10 : decode cX5_readSide 10 = .ok (.getfield 20, 3) := by decide +kernel
theorem dX5_readSide_13 : decode cX5_readSide 13 = .ok (.iconst 1, 1) := by decide +kernel
theorem dX5_readSide_14 : decode cX5_readSide 14 = .ok (.iaload, 1) := by decide +kernel
theorem dX5_readSide_15 : decode cX5_readSide 15 = .ok (.if_icmp .ge 15, 3) := by decide +kernel
theorem dX5_readSide_18 : decode cX5_readSide 18 = .ok (.aload_n 0, 1) := by decide +kernel
theorem dX5_readSide_19 : decode cX5_readSide 19 = .ok (.iload_n 1, 1) := by decide +kernel
theorem dX5_readSide_20 : decode cX5_readSide 20 = .ok (.iload_n 3, 1) := by decide +kernel
theorem dX5_readSide_21 : decode cX5_readSide 21 = .ok (.invokevirtual 132, 3) := by decide +kernel
theorem dX5_readSide_24 : decode cX5_readSide 24 = .ok (.iinc 3 1, 3) := by decide +kernel
theorem dX5_readSide_27 : decode cX5_readSide 27 = .ok (.goto (-19), 3) := by decide +kernel
theorem dX5_readSide_30 : decode cX5_readSide 30 = .ok (.return_, 1) := by decide +kernel
theorem dX5_statement_0 : decode cX5_statement 0 = .ok (.aload_n 0, 1) := by decide +kernel
theorem dX5_statement_1 : decode cX5_statement 1 = .ok (.invokevirtual 94, 3) := by decide +kernel
theorem dX5_statement_4 : decode cX5_statement 4 = .ok (.pop, 1) := by decide +kernel
theorem dX5_statement_5 : decode cX5_statement 5 = .ok (.aload_n 0, 1) := by decide +kernel
theorem dX5_statement_6 : decode cX5_statement 6 = .ok (.getfield 73, 3) := by decide +kernel
theorem dX5_statement_9 : decode cX5_statement 9 = .ok (.istore_n 1, 1) := by decide +kernel
theorem dX5_statement_10 : decode cX5_statement 10 = .ok (.aload_n 0, 1) := by decide +kernel
theorem dX5_statement_11 : decode cX5_statement 11 = .ok (.ldc 135, 2) := by decide +kernel
theorem dX5_statement_13 : decode cX5_statement 13 = .ok (.invokevirtual 137, 3) := by decide +kernel
theorem dX5_statement_16 : decode cX5_statement 16 = .ok (.ifCond .eq 12, 3) := by decide +kernel
theorem dX5_statement_19 : decode cX5_statement 19 = .ok (.aload_n 0, 1) := by decide +kernel
theorem dX5_statement_20 : decode cX5_statement 20 = .ok (.iconst 0, 1) := by decide +kernel
theorem dX5_statement_21 : decode cX5_statement 21 = .ok (.iload_n 1, 1) := by decide +kernel
theorem dX5_statement_22 : decode cX5_statement 22 = .ok (.invokevirtual 141, 3) := by decide +kernel
theorem dX5_statement_25 : decode cX5_statement 25 = .ok (.goto 129, 3) := by decide +kernel
theorem dX5_statement_28 : decode cX5_statement 28 = .ok (.aload_n 0, 1) := by decide +kernel
theorem dX5_statement_29 : decode cX5_statement 29 = .ok (.ldc 144, 2) := by decide +kernel
theorem dX5_statement_31 : decode cX5_statement 31 = .ok (.invokevirtual 137, 3) := by decide +kernel
theorem dX5_statement_34 : decode cX5_statement 34 = .ok (.ifCond .eq 12, 3) := by decide +kernel
theorem dX5_statement_37 : decode cX5_statement 37 = .ok (.aload_n 0, 1) := by decide +kernel
theorem dX5_statement_38 : decode cX5_statement 38 = .ok (.iconst 1, 1) := by decide +kernel
theorem dX5_statement_39 : decode cX5_statement 39 = .ok (.iload_n 1, 1) := by decide +kernel
theorem dX5_statement_40 : decode cX5_statement 40 = .ok (.invokevirtual 141, 3) := by decide +kernel
theorem dX5_statement_43 : decode cX5_statement 43 = .ok (.goto 111, 3) := by decide +kernel
theorem dX5_statement_46 : decode cX5_statement 46 = .ok (.aload_n 0, 1) := by decide +kernel
theorem dX5_statement_47 : decode cX5_statement 47 = .ok (.ldc 146, 2) := by decide +kernel
theorem dX5_statement_49 : decode cX5_statement 49 = .ok (.invokevirtual 137, 3) := by decide +kernel
theorem dX5_statement_52 : decode cX5_statement 52 = .ok (.ifCond .eq 64, 3) := by decide +kernel
theorem dX5_statement_55 : decode cX5_statement 55 = .ok (.aload_n 0, 1) := by decide +kernel
theorem dX5_statement_56 : decode cX5_statement 56 = .ok (.iconst 2, 1) := by decide +kernel
theorem dX5_statement_57 : decode cX5_statement 57 = .ok (.iload_n 1, 1) := by decide +kernel
theorem dX5_statement_58 : decode cX5_statement 58 = .ok (.invokevirtual 129, 3) := by decide +kernel
theorem dX5_statement_61 : decode cX5_statement 61 = .ok (.iconst 0, 1) := by decide +kernel
theorem dX5_statement_62 : decode cX5_statement 62 = .ok (.istore_n 2, 1) := by decide +kernel
theorem dX5_statement_63 : decode cX5_statement 63 = .ok (.iload_n 2, 1) := by decide +kernel
theorem dX5_statement_64 : decode cX5_statement 64 = .ok (.iconst 2, 1) := by decide +kernel
theorem dX5_statement_65 : decode cX5_statement 65 = .ok (.if_icmp .ge 48, 3) := by decide +kernel
theorem dX5_statement_68 : decode cX5_statement 68 = .ok (.iconst 0, 1) := by decide +kernel
theorem dX5_statement_69 : decode cX5_statement 69 = .ok (.istore_n 3, 1) := by decide +kernel
theorem dX5_statement_70 : decode cX5_statement 70 = .ok (.iload_n 3, 1) := by decide +kernel
theorem dX5_statement_71 : decode cX5_statement 71 = .ok (.aload_n 0, 1) := by decide +kernel
theorem dX5_statement_72 : decode cX5_statement 72 = .ok (.getfield 20, 3) := by decide +kernel
theorem dX5_statement_75 : decode cX5_statement 75 = .ok (.iconst 1, 1) := by decide +kernel
theorem dX5_statement_76 : decode cX5_statement 76 = .ok (.iaload, 1) := by decide +kernel
theorem dX5_statement_77 : decode cX5_statement 77 = .ok (.if_icmp .ge 30, 3) := by decide +kernel
theorem dX5_statement_80 : decode cX5_statement 80 = .ok (.aload_n 0, 1) := by decide +kernel
theorem dX5_statement_81 : decode cX5_statement 81 = .ok (.getfield 20, 3) := by decide +kernel
theorem dX5_statement_84 : decode cX5_statement 84 = .ok (.bipush 102, 2) := by decide +kernel
theorem dX5_statement_86 : decode cX5_statement 86 = .ok (.bipush 6, 2) := by decide +kernel
theorem dX5_statement_88 : decode cX5_statement 88 = .ok (.iload_n 2, 1) := by decide +kernel
theorem dX5_statement_89 : decode cX5_statement 89 = .ok (.imul, 1) := by decide +kernel
theorem dX5_statement_90 : decode cX5_statement 90 = .ok (.iadd, 1) := by decide +kernel
theorem dX5_statement_91 : decode cX5_statement 91 = .ok (.iload_n 3, 1) := by decide +kernel
theorem dX5_statement_92 : decode cX5_statement 92 = .ok (.iadd, 1) := by decide +kernel
theorem dX5_statement_93 : decode cX5_statement 93 = .ok (.aload_n 0, 1) := by decide +kernel
theorem dX5_statement_94 : decode cX5_statement 94 = .ok (.iconst 1, 1) := by decide +kernel
theorem dX5_statement_95 : decode cX5_statement 95 = .ok (.bipush 9, 2) := by decide +kernel
theorem dX5_statement_97 : decode cX5_statement 97 = .ok (.invokevirtual 147, 3) := by decide +kernel
theorem dX5_statement_100 : decode cX5_statement 100 = .ok (.iastore, 1) := by decide +kernel
theorem dX5_statement_101 : decode cX5_statement 101 = .ok (.iinc 3 1, 3) := by decide +kernel
theorem dX5_statement_104 : decode cX5_statement 104 = .ok (.goto (-34), 3) := by decide +kernel
theorem dX5_statement_107 : decode cX5_statement 107 = .ok (.iinc 2 1, 3) := by decide +kernel
theorem dX5_statement_110 : decode cX5_statement 110 = .ok (.goto (-47), 3) := by decide +kernel
theorem dX5_statement_113 : decode cX5_statement 113 = .ok (.goto 41, 3) := by decide +kernel
theorem dX5_statement_116 : decode cX5_statement 116 = .ok (.aload_n 0, 1) := by decide +kernel
theorem dX5_statement_117 : decode cX5_statement 117 = .ok (.ldc 150, 2) := by decide +kernel
theorem dX5_statement_119 : decode cX5_statement 119 = .ok (.invokevirtual 137, 3) := by decide +kernel
theorem dX5_statement_122 : decode cX5_statement 122 = .ok (.ifCond .eq 25, 3) := by decide +kernel
theorem dX5_statement_125 : decode cX5_statement 125 = .ok (.aload_n 0, 1) := by decide +kernel
theorem dX5_statement_126 : decode cX5_statement 126 = .ok (.iconst 3, 1) := by decide +kernel
theorem dX5_statement_127 : decode cX5_statement 127 = .ok (.iload_n 1, 1) := by decide +kernel
theorem dX5_statement_128 : decode cX5_statement 128 = .ok (.invokevirtual 129, 3) := by decide +kernel
theorem dX5_statement_131 : decode cX5_statement 131 = .ok (.aload_n 0, 1) := by decide +kernel
theorem dX5_statement_132 : decode cX5_statement 132 = .ok (.getfield 20, 3) := by decide +kernel
theorem dX5_statement_135 : decode cX5_statement 135 = .ok (.iconst 2, 1) := by decide +kernel
theorem dX5_statement_136 : decode cX5_statement 136 = .ok (.aload_n 0, 1) := by decide +kernel
theorem dX5_statement_137 : decode cX5_statement 137 = .ok (.iconst 1, 1) := by decide +kernel
theorem dX5_statement_138 : decode cX5_statement 138 = .ok (.bipush 9, 2) := by decide +kernel
theorem dX5_statement_140 : decode cX5_statement 140 = .ok (.invokevirtual 147, 3) := by decide +kernel
theorem dX5_statement_143 : decode cX5_statement 143 = .ok (.iastore, 1) := by decide +kernel
theorem dX5_statement_144 : decode cX5_statement 144 = .ok (.goto 10, 3) := by decide +kernel
theorem dX5_statement_147 : decode cX5_statement 147 = .ok (.aload_n 0, 1) := by decide +kernel
theorem dX5_statement_148 : decode cX5_statement 148 = .ok (.bipush (-2), 2) := by decide +kernel
theorem dX5_statement_150 : decode cX5_statement 150 = .ok (.iload_n 1, 1) := by decide +kernel
theorem dX5_statement_151 : decode cX5_statement 151 = .ok (.invokevirtual 107, 3) := by decide +kernel
theorem dX5_statement_154 : decode cX5_statement 154 = .ok (.aload_n 0, 1) := by decide +kernel
theorem dX5_statement_155 : decode cX5_statement 155 = .ok (.bipush 59, 2) := by decide +kernel
theorem dX5_statement_157 : decode cX5_statement 157 = .ok (.invokevirtual 152, 3) := by decide +kernel
theorem dX5_statement_160 : decode cX5_statement 160 = .ok (.return_, 1) := by decide +kernel
theorem dX5_load_0 : decode cX5_load 0 = .ok (.aload_n 0, 1) := by decide +kernel
theorem dX5_load_1 : decode cX5_load 1 = .ok (.iconst 0, 1) := by decide +kernel
theorem dX5_load_2 : decode cX5_load 2 = .ok (.putfield 64, 3) := by decide +kernel
theorem dX5_load_5 : decode cX5_load 5 = .ok (.aload_n 0, 1) := by decide +kernel
theorem dX5_load_6 : decode cX5_load 6 = .ok (.iload_n 1, 1) := by decide +kernel
theorem dX5_load_7 : decode cX5_load 7 = .ok (.iconst 0, 1) := by decide +kernel
theorem dX5_load_8 : decode cX5_load 8 = .ok (.aload_n 0, 1) := by decide +kernel
theorem dX5_load_9 : decode cX5_load 9 = .ok (.getfield 67, 3) := by decide +kernel
theorem dX5_load_12 : decode cX5_load 12 = .ok (.invokestatic 86, 3) := by decide +kernel
theorem dX5_load_15 : decode cX5_load 15 = .ok (.ifCond .ne 7, 3) := by decide +kernel
theorem dX5_load_18 : decode cX5_load 18 = .ok (.iconst 1, 1) := by decide +kernel
theorem dX5_load_19 : decode cX5_load 19 = .ok (.goto 4, 3) := by decide +kernel
theorem dX5_load_22 : decode cX5_load 22 = .ok (.iconst 0, 1) := by decide +kernel
theorem dX5_load_23 : decode cX5_load 23 = .ok (.iconst 1, 1) := by decide +kernel
theorem dX5_load_24 : decode cX5_load 24 = .ok (.invokevirtual 156, 3) := by decide +kernel
theorem dX5_load_27 : decode cX5_load 27 = .ok (.ifCond .eq 5, 3) := by decide +kernel
theorem dX5_load_30 : decode cX5_load 30 = .ok (.iconst 0, 1) := by decide +kernel
theorem dX5_load_31 : decode cX5_load 31 = .ok (.ireturn, 1) := by decide +kernel
theorem dX5_load_32 : decode cX5_load 32 = .ok (.aload_n 0, 1) := by decide +kernel
theorem dX5_load_33 : decode cX5_load 33 = .ok (.iconst 0, 1) := by decide +kernel
theorem dX5_load_34 : decode cX5_load 34 = .ok (.putfield 67, 3) := by decide +kernel
theorem dX5_load_37 : decode cX5_load 37 = .ok (.aload_n 0, 1) := by decide +kernel
theorem dX5_load_38 : decode cX5_load 38 = .ok (.iload_n 1, 1) := by decide +kernel
theorem dX5_load_39 : decode cX5_load 39 = .ok (.putfield 70, 3) := by decide +kernel
theorem dX5_load_42 : decode cX5_load 42 = .ok (.aload_n 0, 1) := by decide +kernel
theorem dX5_load_43 : decode cX5_load 43 = .ok (.iconst 0, 1) := by decide +kernel
theorem dX5_load_44 : decode cX5_load 44 = .ok (.putfield 73, 3) := by decide +kernel
theorem dX5_load_47 : decode cX5_load 47 = .ok (.aload_n 0, 1) := by decide +kernel
theorem dX5_load_48 : decode cX5_load 48 = .ok (.iconst 0, 1) := by decide +kernel
theorem dX5_load_49 : decode cX5_load 49 = .ok (.putfield 80, 3) := by decide +kernel
theorem dX5_load_52 : decode cX5_load 52 = .ok (.aload_n 0, 1) := by decide +kernel
theorem dX5_load_53 : decode cX5_load 53 = .ok (.iconst (-1), 1) := by decide +kernel
theorem dX5_load_54 : decode cX5_load 54 = .ok (.putfield 83, 3) := by decide +kernel
theorem dX5_load_57 : decode cX5_load 57 = .ok (.aload_n 0, 1) := by decide +kernel
theorem dX5_load_58 : decode cX5_load 58 = .ok (.iconst 0, 1) := by decide +kernel
theorem dX5_load_59 : decode cX5_load 59 = .ok (.putfield 123, 3) := by decide +kernel
theorem dX5_load_62 : decode cX5_load 62 = .ok (.aload_n 0, 1) := by decide +kernel
theorem dX5_load_63 : decode cX5_load 63 = .ok (.ldc 160, 2) := by decide +kernel
theorem dX5_load_65 : decode cX5_load 65 = .ok (.invokevirtual 137, 3) := by decide +kernel
theorem dX5_load_68 : decode cX5_load 68 = .ok (.ifCond .ne 13, 3) := by decide +kernel
theorem dX5_load_71 : decode cX5_load 71 = .ok (.aload_n 0, 1) := by decide +kernel
theorem dX5_load_72 : decode cX5_load 72 = .ok (.bipush (-2), 2) := by decide +kernel
theorem dX5_load_74 : decode cX5_load 74 = .ok (.aload_n 0, 1) := by decide +kernel
theorem dX5_load_75 : decode cX5_load 75 = .ok (.getfield 73, 3) := by decide +kernel
theorem dX5_load_78 : decode cX5_load 78 = .ok (.invokevirtual 107, 3) := by decide +kernel
theorem dX5_load_81 : decode cX5_load 81 = .ok (.aload_n 0, 1) := by decide +kernel
theorem dX5_load_82 : decode cX5_load 82 = .ok (.iconst 1, 1) := by decide +kernel
theorem dX5_load_83 : decode cX5_load 83 = .ok (.bipush 8, 2) := by decide +kernel
theorem dX5_load_85 : decode cX5_load 85 = .ok (.invokevirtual 147, 3) := by decide +kernel
theorem dX5_load_88 : decode cX5_load 88 = .ok (.istore_n 2, 1) := by decide +kernel
theorem dX5_load_89 : decode cX5_load 89 = .ok (.aload_n 0, 1) := by decide +kernel
theorem dX5_load_90 : decode cX5_load 90 = .ok (.iconst 1, 1) := by decide +kernel
theorem dX5_load_91 : decode cX5_load 91 = .ok (.bipush 6, 2) := by decide +kernel
theorem dX5_load_93 : decode cX5_load 93 = .ok (.invokevirtual 147, 3) := by decide +kernel
theorem dX5_load_96 : decode cX5_load 96 = .ok (.istore_n 3, 1) := by decide +kernel
theorem dX5_load_97 : decode cX5_load 97 = .ok (.aload_n 0, 1) := by decide +kernel
theorem dX5_load_98 : decode cX5_load 98 = .ok (.getfield 20, 3) := by decide +kernel
theorem dX5_load_101 : decode cX5_load 101 = .ok (.iload_n 2, 1) := by decide +kernel
theorem dX5_load_102 : decode cX5_load 102 = .ok (.iload_n 3, 1) := by decide +kernel
theorem dX5_load_103 : decode cX5_load 103 = .ok (.invokestatic 60, 3) := by decide +kernel
theorem dX5_load_106 : decode cX5_load 106 = .ok (.aload_n 0, 1) := by decide +kernel
theorem dX5_load_107 : decode cX5_load 107 = .ok (.bipush 59, 2) := by decide +kernel
theorem dX5_load_109 : decode cX5_load 109 = .ok (.invokevirtual 152, 3) := by decide +kernel
theorem dX5_load_112 : decode cX5_load 112 = .ok (.aload_n 0, 1) := by decide +kernel
theorem dX5_load_113 : decode cX5_load 113 = .ok (.invokevirtual 90, 3) := by decide +kernel
theorem dX5_load_116 : decode cX5_load 116 = .ok (.ifCond .eq 18, 3) := by decide +kernel
theorem dX5_load_119 : decode cX5_load 119 = .ok (.aload_n 0, 1) := by decide +kernel
theorem dX5_load_120 : decode cX5_load 120 = .ok (.invokevirtual 94, 3) := by decide +kernel
theorem dX5_load_123 : decode cX5_load 123 = .ok (.iconst (-1), 1) := by decide +kernel
theorem dX5_load_124 : decode cX5_load 124 = .ok (.if_icmp .eq 10, 3) := by decide +kernel
theorem dX5_load_127 : decode cX5_load 127 = .ok (.aload_n 0, 1) := by decide +kernel
theorem dX5_load_128 : decode cX5_load 128 = .ok (.invokevirtual 162, 3) := by decide +kernel
theorem dX5_load_131 : decode cX5_load 131 = .ok (.goto (-19), 3) := by decide +kernel
theorem dX5_load_134 : decode cX5_load 134 = .ok (.aload_n 0, 1) := by decide +kernel
theorem dX5_load_135 : decode cX5_load 135 = .ok (.aload_n 0, 1) := by decide +kernel
theorem dX5_load_136 : decode cX5_load 136 = .ok (.getfield 83, 3) := by decide +kernel
theorem dX5_load_139 : decode cX5_load 139 = .ok (.putfield 13, 3) := by decide +kernel
theorem dX5_load_142 : decode cX5_load 142 = .ok (.aload_n 0, 1) := by decide +kernel
theorem dX5_load_143 : decode cX5_load 143 = .ok (.invokevirtual 90, 3) := by decide +kernel
theorem dX5_load_146 : decode cX5_load 146 = .ok (.ifCond .ne 8, 3) := by decide +kernel
theorem dX5_load_149 : decode cX5_load 149 = .ok (.aload_n 0, 1) := by decide +kernel
theorem dX5_load_150 : decode cX5_load 150 = .ok (.getfield 80, 3) := by decide +kernel
theorem dX5_load_153 : decode cX5_load 153 = .ok (.ireturn, 1) := by decide +kernel
theorem dX5_load_154 : decode cX5_load 154 = .ok (.aload_n 0, 1) := by decide +kernel
theorem dX5_load_155 : decode cX5_load 155 = .ok (.invokevirtual 165, 3) := by decide +kernel
theorem dX5_load_158 : decode cX5_load 158 = .ok (.aload_n 0, 1) := by decide +kernel
theorem dX5_load_159 : decode cX5_load 159 = .ok (.getfield 20, 3) := by decide +kernel
theorem dX5_load_162 : decode cX5_load 162 = .ok (.aload_n 0, 1) := by decide +kernel
theorem dX5_load_163 : decode cX5_load 163 = .ok (.getfield 17, 3) := by decide +kernel
theorem dX5_load_166 : decode cX5_load 166 = .ok (.invokestatic 168, 3) := by decide +kernel
theorem dX5_load_169 : decode cX5_load 169 = .ok (.aload_n 0, 1) := by decide +kernel
theorem dX5_load_170 : decode cX5_load 170 = .ok (.invokevirtual 172, 3) := by decide +kernel
theorem dX5_load_173 : decode cX5_load 173 = .ok (.ireturn, 1) := by decide +kernel
theorem dX5_errorOffset_0 : decode cX5_errorOffset 0 = .ok (.aload_n 0, 1) := by decide +kernel
theorem dX5_errorOffset_1 : decode cX5_errorOffset 1 = .ok (.iconst 0, 1) := by decide +kernel
theorem dX5_errorOffset_2 : decode cX5_errorOffset 2 = .ok (.putfield 64, 3) := by decide +kernel
theorem dX5_errorOffset_5 : decode cX5_errorOffset 5 = .ok (.aload_n 0, 1) := by decide +kernel
theorem dX5_errorOffset_6 : decode cX5_errorOffset 6 = .ok (.getfield 13, 3) := by decide +kernel
theorem dX5_errorOffset_9 : decode cX5_errorOffset 9 = .ok (.ireturn, 1) := by decide +kernel
theorem dX5_cells_0 : decode cX5_cells 0 = .ok (.aload_n 0, 1) := by decide +kernel
theorem dX5_cells_1 : decode cX5_cells 1 = .ok (.getfield 17, 3) := by decide +kernel
theorem dX5_cells_4 : decode cX5_cells 4 = .ok (.iconst 0, 1) := by decide +kernel
theorem dX5_cells_5 : decode cX5_cells 5 = .ok (.iaload, 1) := by decide +kernel
theorem dX5_cells_6 : decode cX5_cells 6 = .ok (.aload_n 0, 1) := by decide +kernel
theorem dX5_cells_7 : decode cX5_cells 7 = .ok (.getfield 17, 3) := by decide +kernel
theorem dX5_cells_10 : decode cX5_cells 10 = .ok (.iconst 1, 1) := by decide +kernel
theorem dX5_cells_11 : decode cX5_cells 11 = .ok (.iaload, 1) := by decide +kernel
theorem dX5_cells_12 : decode cX5_cells 12 = .ok (.imul, 1) := by decide +kernel
theorem dX5_cells_13 : decode cX5_cells 13 = .ok (.ireturn, 1) := by decide +kernel
theorem dX5_behind_0 : decode cX5_behind 0 = .ok (.iload_n 1, 1) := by decide +kernel
theorem dX5_behind_1 : decode cX5_behind 1 = .ok (.aload_n 0, 1) := by decide +kernel
theorem dX5_behind_2 : decode cX5_behind 2 = .ok (.getfield 17, 3) := by decide +kernel
theorem dX5_behind_5 : decode cX5_behind 5 = .ok (.iconst 0, 1) := by decide +kernel
theorem dX5_behind_6 : decode cX5_behind 6 = .ok (.iaload, 1) := by decide +kernel
theorem dX5_behind_7 : decode cX5_behind 7 = .ok (.idiv, 1) := by decide +kernel
theorem dX5_behind_8 : decode cX5_behind 8 = .ok (.istore_n 2, 1) := by decide +kernel
theorem dX5_behind_9 : decode cX5_behind 9 = .ok (.iload_n 1, 1) := by decide +kernel
theorem dX5_behind_10 : decode cX5_behind 10 = .ok (.aload_n 0, 1) := by decide +kernel
theorem dX5_behind_11 : decode cX5_behind 11 = .ok (.getfield 17, 3) := by decide +kernel
theorem dX5_behind_14 : decode cX5_behind 14 = .ok (.iconst 0, 1) := by decide +kernel
theorem dX5_behind_15 : decode cX5_behind 15 = .ok (.iaload, 1) := by decide +kernel
theorem dX5_behind_16 : decode cX5_behind 16 = .ok (.irem, 1) := by decide +kernel
theorem dX5_behind_17 : decode cX5_behind 17 = .ok (.istore_n 3, 1) := by decide +kernel
theorem dX5_behind_18 : decode cX5_behind 18 = .ok (.iload_n 2, 1) := by decide +kernel
theorem dX5_behind_19 : decode cX5_behind 19 = .ok (.aload_n 0, 1) := by decide +kernel
theorem dX5_behind_20 : decode cX5_behind 20 = .ok (.getfield 17, 3) := by decide +kernel
theorem dX5_behind_23 : decode cX5_behind 23 = .ok (.iconst 0, 1) := by decide +kernel
theorem dX5_behind_24 : decode cX5_behind 24 = .ok (.iaload, 1) := by decide +kernel
theorem dX5_behind_25 : decode cX5_behind 25 = .ok (.imul, 1) := by decide +kernel
theorem dX5_behind_26 : decode cX5_behind 26 = .ok (.aload_n 0, 1) := by decide +kernel
theorem dX5_behind_27 : decode cX5_behind 27 = .ok (.getfield 17, 3) := by decide +kernel
theorem dX5_behind_30 : decode cX5_behind 30 = .ok (.iconst 0, 1) := by decide +kernel
theorem dX5_behind_31 : decode cX5_behind 31 = .ok (.iaload, 1) := by decide +kernel
theorem dX5_behind_32 : decode cX5_behind 32 = .ok (.iadd, 1) := by decide +kernel
theorem dX5_behind_33 : decode cX5_behind 33 = .ok (.iconst 1, 1) := by decide +kernel
theorem dX5_behind_34 : decode cX5_behind 34 = .ok (.isub, 1) := by decide +kernel
theorem dX5_behind_35 : decode cX5_behind 35 = .ok (.iload_n 3, 1) := by decide +kernel
theorem dX5_behind_36 : decode cX5_behind 36 = .ok (.isub, 1) := by decide +kernel
theorem dX5_behind_37 : decode cX5_behind 37 = .ok (.ireturn, 1) := by decide +kernel
theorem dX5_cellOf_0 : decode cX5_cellOf 0 = .ok (.iload_n 1, 1) := by decide +kernel
theorem dX5_cellOf_1 : decode cX5_cellOf 1 = .ok (.ifCond .ne 7, 3) := by decide +kernel
theorem dX5_cellOf_4 : decode cX5_cellOf 4 = .ok (.iload_n 2, 1) := by decide +kernel
theorem dX5_cellOf_5 : decode cX5_cellOf 5 = .ok (.goto 8, 3) := by decide +kernel
theorem dX5_cellOf_8 : decode cX5_cellOf 8 = .ok (.aload_n 0, 1) := by decide +kernel
theorem dX5_cellOf_9 : decode cX5_cellOf 9 = .ok (.iload_n 2, 1) := by decide +kernel
theorem dX5_cellOf_10 : decode cX5_cellOf 10 = .ok (.invokevirtual 175, 3) := by decide +kernel
theorem dX5_cellOf_13 : decode cX5_cellOf 13 = .ok (.ireturn, 1) := by decide +kernel
theorem dX5_letterAt_0 : decode cX5_letterAt 0 = .ok (.aload_n 0, 1) := by decide +kernel
theorem dX5_letterAt_1 : decode cX5_letterAt 1 = .ok (.getfield 17, 3) := by decide +kernel
theorem dX5_letterAt_4 : decode cX5_letterAt 4 = .ok (.bipush 6, 2) := by decide +kernel
theorem dX5_letterAt_6 : decode cX5_letterAt 6 = .ok (.bipush 48, 2) := by decide +kernel
theorem dX5_letterAt_8 : decode cX5_letterAt 8 = .ok (.iload_n 1, 1) := by decide +kernel
theorem dX5_letterAt_9 : decode cX5_letterAt 9 = .ok (.imul, 1) := by decide +kernel
theorem dX5_letterAt_10 : decode cX5_letterAt 10 = .ok (.iadd, 1) := by decide +kernel
theorem dX5_letterAt_11 : decode cX5_letterAt 11 = .ok (.iload_n 2, 1) := by decide +kernel
theorem dX5_letterAt_12 : decode cX5_letterAt 12 = .ok (.iadd, 1) := by decide +kernel
theorem dX5_letterAt_13 : decode cX5_letterAt 13 = .ok (.iaload, 1) := by decide +kernel
theorem dX5_letterAt_14 : decode cX5_letterAt 14 = .ok (.ireturn, 1) := by decide +kernel
theorem dX5_sizeAt_0 : decode cX5_sizeAt 0 = .ok (.aload_n 0, 1) := by decide +kernel
theorem dX5_sizeAt_1 : decode cX5_sizeAt 1 = .ok (.getfield 17, 3) := by decide +kernel
theorem dX5_sizeAt_4 : decode cX5_sizeAt 4 = .ok (.bipush 102, 2) := by decide +kernel
theorem dX5_sizeAt_6 : decode cX5_sizeAt 6 = .ok (.bipush 6, 2) := by decide +kernel
theorem dX5_sizeAt_8 : decode cX5_sizeAt 8 = .ok (.iload_n 1, 1) := by decide +kernel
theorem dX5_sizeAt_9 : decode cX5_sizeAt 9 = .ok (.imul, 1) := by decide +kernel
theorem dX5_sizeAt_10 : decode cX5_sizeAt 10 = .ok (.iadd, 1) := by decide +kernel
theorem dX5_sizeAt_11 : decode cX5_sizeAt 11 = .ok (.iload_n 2, 1) := by decide +kernel
theorem dX5_sizeAt_12 : decode cX5_sizeAt 12 = .ok (.aload_n 0, 1) := by decide +kernel
theorem dX5_sizeAt_13 : decode cX5_sizeAt 13 = .ok (.getfield 17, 3) := by decide +kernel
theorem dX5_sizeAt_16 : decode cX5_sizeAt 16 = .ok (.iconst 0, 1) := by decide +kernel
theorem dX5_sizeAt_17 : decode cX5_sizeAt 17 = .ok (.iaload, 1) := by decide +kernel
theorem dX5_sizeAt_18 : decode cX5_sizeAt 18 = .ok (.idiv, 1) := by decide +kernel
theorem dX5_sizeAt_19 : decode cX5_sizeAt 19 = .ok (.iadd, 1) := by decide +kernel
theorem dX5_sizeAt_20 : decode cX5_sizeAt 20 = .ok (.iaload, 1) := by decide +kernel
theorem dX5_sizeAt_21 : decode cX5_sizeAt 21 = .ok (.ireturn, 1) := by decide +kernel
theorem dX5_isGone_0 : decode cX5_isGone 0 = .ok (.aload_n 0, 1) := by decide +kernel
theorem dX5_isGone_1 : decode cX5_isGone 1 = .ok (.getfield 17, 3) := by decide +kernel
theorem dX5_isGone_4 : decode cX5_isGone 4 = .ok (.bipush 114, 2) := by decide +kernel
theorem dX5_isGone_6 : decode cX5_isGone 6 = .ok (.aload_n 0, 1) := by decide +kernel
theorem dX5_isGone_7 : decode cX5_isGone 7 = .ok (.iload_n 1, 1) := by decide +kernel
theorem dX5_isGone_8 : decode cX5_isGone 8 = .ok (.iload_n 2, 1) := by decide +kernel
theorem dX5_isGone_9 : decode cX5_isGone 9 = .ok (.invokevirtual 178, 3) := by decide +kernel
theorem dX5_isGone_12 : decode cX5_isGone 12 = .ok (.iadd, 1) := by decide +kernel
theorem dX5_isGone_13 : decode cX5_isGone 13 = .ok (.iaload, 1) := by decide +kernel
theorem dX5_isGone_14 : decode cX5_isGone 14 = .ok (.iconst 1, 1) := by decide +kernel
theorem dX5_isGone_15 : decode cX5_isGone 15 = .ok (.if_icmp .ne 7, 3) := by decide +kernel
theorem dX5_isGone_18 : decode cX5_isGone 18 = .ok (.iconst 1, 1) := by decide +kernel
theorem dX5_isGone_19 : decode cX5_isGone 19 = .ok (.goto 4, 3) := by decide +kernel
theorem dX5_isGone_22 : decode cX5_isGone 22 = .ok (.iconst 0, 1) := by decide +kernel
theorem dX5_isGone_23 : decode cX5_isGone 23 = .ok (.ireturn, 1) := by decide +kernel
theorem dX5_canUse_0 : decode cX5_canUse 0 = .ok (.aload_n 0, 1) := by decide +kernel
theorem dX5_canUse_1 : decode cX5_canUse 1 = .ok (.iload_n 1, 1) := by decide +kernel
theorem dX5_canUse_2 : decode cX5_canUse 2 = .ok (.iload_n 2, 1) := by decide +kernel
theorem dX5_canUse_3 : decode cX5_canUse 3 = .ok (.invokevirtual 181, 3) := by decide +kernel
theorem dX5_canUse_6 : decode cX5_canUse 6 = .ok (.iconst (-1), 1) := by decide +kernel
theorem dX5_canUse_7 : decode cX5_canUse 7 = .ok (.if_icmp .eq 31, 3) := by decide +kernel
theorem dX5_canUse_10 : decode cX5_canUse 10 = .ok (.aload_n 0, 1) := by decide +kernel
theorem dX5_canUse_11 : decode cX5_canUse 11 = .ok (.iload_n 1, 1) := by decide +kernel
theorem dX5_canUse_12 : decode cX5_canUse 12 = .ok (.iload_n 2, 1) := by decide +kernel
theorem dX5_canUse_13 : decode cX5_canUse 13 = .ok (.invokevirtual 184, 3) := by decide +kernel
theorem dX5_canUse_16 : decode cX5_canUse 16 = .ok (.ifCond .ne 22, 3) := by decide +kernel
theorem dX5_canUse_19 : decode cX5_canUse 19 = .ok (.aload_n 0, 1) := by decide +kernel
theorem dX5_canUse_20 : decode cX5_canUse 20 = .ok (.iload_n 1, 1) := by decide +kernel
theorem dX5_canUse_21 : decode cX5_canUse 21 = .ok (.iload_n 2, 1) := by decide +kernel
theorem dX5_canUse_22 : decode cX5_canUse 22 = .ok (.invokevirtual 188, 3) := by decide +kernel
theorem dX5_canUse_25 : decode cX5_canUse 25 = .ok (.aload_n 0, 1) := by decide +kernel
theorem dX5_canUse_26 : decode cX5_canUse 26 = .ok (.getfield 17, 3) := by decide +kernel
theorem dX5_canUse_29 : decode cX5_canUse 29 = .ok (.iconst 2, 1) := by decide +kernel
theorem dX5_canUse_30 : decode cX5_canUse 30 = .ok (.iaload, 1) := by decide +kernel
theorem dX5_canUse_31 : decode cX5_canUse 31 = .ok (.if_icmp .lt 7, 3) := by decide +kernel
theorem dX5_canUse_34 : decode cX5_canUse 34 = .ok (.iconst 1, 1) := by decide +kernel
theorem dX5_canUse_35 : decode cX5_canUse 35 = .ok (.goto 4, 3) := by decide +kernel
theorem dX5_canUse_38 : decode cX5_canUse 38 = .ok (.iconst 0, 1) := by decide +kernel
theorem dX5_canUse_39 : decode cX5_canUse 39 = .ok (.ireturn, 1) := by decide +kernel
theorem dX5_isLetter_0 : decode cX5_isLetter 0 = .ok (.aload_n 0, 1) := by decide +kernel
theorem dX5_isLetter_1 : decode cX5_isLetter 1 = .ok (.iload_n 1, 1) := by decide +kernel
theorem dX5_isLetter_2 : decode cX5_isLetter 2 = .ok (.iload_n 2, 1) := by decide +kernel
theorem dX5_isLetter_3 : decode cX5_isLetter 3 = .ok (.invokevirtual 181, 3) := by decide +kernel
theorem dX5_isLetter_6 : decode cX5_isLetter 6 = .ok (.iload_n 3, 1) := by decide +kernel
theorem dX5_isLetter_7 : decode cX5_isLetter 7 = .ok (.if_icmp .ne 16, 3) := by decide +kernel
theorem dX5_isLetter_10 : decode cX5_isLetter 10 = .ok (.aload_n 0, 1) := by decide +kernel
theorem dX5_isLetter_11 : decode cX5_isLetter 11 = .ok (.iload_n 1, 1) := by decide +kernel
theorem dX5_isLetter_12 : decode cX5_isLetter 12 = .ok (.iload_n 2, 1) := by decide +kernel
theorem dX5_isLetter_13 : decode cX5_isLetter 13 = .ok (.invokevirtual 191, 3) := by decide +kernel
theorem dX5_isLetter_16 : decode cX5_isLetter 16 = .ok (.ifCond .eq 7, 3) := by decide +kernel
theorem dX5_isLetter_19 : decode cX5_isLetter 19 = .ok (.iconst 1, 1) := by decide +kernel
theorem dX5_isLetter_20 : decode cX5_isLetter 20 = .ok (.goto 4, 3) := by decide +kernel
theorem dX5_isLetter_23 : decode cX5_isLetter 23 = .ok (.iconst 0, 1) := by decide +kernel
theorem dX5_isLetter_24 : decode cX5_isLetter 24 = .ok (.ireturn, 1) := by decide +kernel
theorem dX5_inMessage_0 : decode cX5_inMessage 0 = .ok (.iconst 0, 1) := by decide +kernel
theorem dX5_inMessage_1 : decode cX5_inMessage 1 = .ok (.istore_n 2, 1) := by decide +kernel
theorem dX5_inMessage_2 : decode cX5_inMessage 2 = .ok (.iconst 0, 1) := by decide +kernel
theorem dX5_inMessage_3 : decode cX5_inMessage 3 = .ok (.istore_n 3, 1) := by decide +kernel
theorem dX5_inMessage_4 : decode cX5_inMessage 4 = .ok (.iload_n 3, 1) := by decide +kernel
theorem dX5_inMessage_5 : decode cX5_inMessage 5 = .ok (.aload_n 0, 1) := by decide +kernel
theorem dX5_inMessage_6 : decode cX5_inMessage 6 = .ok (.getfield 17, 3) := by decide +kernel
theorem dX5_inMessage_9 : decode cX5_inMessage 9 = .ok (.iconst 3, 1) := by decide +kernel
theorem dX5_inMessage_10 : decode cX5_inMessage 10 = .ok (.iaload, 1) := by decide +kernel
theorem dX5_inMessage_11 : decode cX5_inMessage 11 = .ok (.if_icmp .ge 31, 3) := by decide +kernel
theorem dX5_inMessage_14 : decode cX5_inMessage 14 = .ok (.iload_n 2, 1) := by decide +kernel
theorem dX5_inMessage_15 : decode cX5_inMessage 15 = .ok (.aload_n 0, 1) := by decide +kernel
theorem dX5_inMessage_16 : decode cX5_inMessage 16 = .ok (.getfield 17, 3) := by decide +kernel
theorem dX5_inMessage_19 : decode cX5_inMessage 19 = .ok (.sipush 162, 3) := by decide +kernel
theorem dX5_inMessage_22 : decode cX5_inMessage 22 = .ok (.iload_n 3, 1) := by decide +kernel
theorem dX5_inMessage_23 : decode cX5_inMessage 23 = .ok (.iadd, 1) := by decide +kernel
theorem dX5_inMessage_24 : decode cX5_inMessage 24 = .ok (.iaload, 1) := by decide +kernel
theorem dX5_inMessage_25 : decode cX5_inMessage 25 = .ok (.iload_n 1, 1) := by decide +kernel
theorem dX5_inMessage_26 : decode cX5_inMessage 26 = .ok (.if_icmp .ne 7, 3) := by decide +kernel
theorem dX5_inMessage_29 : decode cX5_inMessage 29 = .ok (.iconst 1, 1) := by decide +kernel
theorem dX5_inMessage_30 : decode cX5_inMessage 30 = .ok (.goto 4, 3) := by decide +kernel
theorem dX5_inMessage_33 : decode cX5_inMessage 33 = .ok (.iconst 0, 1) := by decide +kernel
theorem dX5_inMessage_34 : decode cX5_inMessage 34 = .ok (.iadd, 1) := by decide +kernel
theorem dX5_inMessage_35 : decode cX5_inMessage 35 = .ok (.istore_n 2, 1) := by decide +kernel
theorem dX5_inMessage_36 : decode cX5_inMessage 36 = .ok (.iinc 3 1, 3) := by decide +kernel
theorem dX5_inMessage_39 : decode cX5_inMessage 39 = .ok (.goto (-35), 3) := by decide +kernel
theorem dX5_inMessage_42 : decode cX5_inMessage 42 = .ok (.iload_n 2, 1) := by decide +kernel
theorem dX5_inMessage_43 : decode cX5_inMessage 43 = .ok (.ireturn, 1) := by decide +kernel
theorem dX5_hasLetter_0 : decode cX5_hasLetter 0 = .ok (.aload_n 0, 1) := by decide +kernel
theorem dX5_hasLetter_1 : decode cX5_hasLetter 1 = .ok (.iconst 0, 1) := by decide +kernel
theorem dX5_hasLetter_2 : decode cX5_hasLetter 2 = .ok (.iload_n 1, 1) := by decide +kernel
theorem dX5_hasLetter_3 : decode cX5_hasLetter 3 = .ok (.iload_n 2, 1) := by decide +kernel
theorem dX5_hasLetter_4 : decode cX5_hasLetter 4 = .ok (.invokevirtual 194, 3) := by decide +kernel
theorem dX5_hasLetter_7 : decode cX5_hasLetter 7 = .ok (.ifCond .ne 17, 3) := by decide +kernel
theorem dX5_hasLetter_10 : decode cX5_hasLetter 10 = .ok (.aload_n 0, 1) := by decide +kernel
theorem dX5_hasLetter_11 : decode cX5_hasLetter 11 = .ok (.iconst 1, 1) := by decide +kernel
theorem dX5_hasLetter_12 : decode cX5_hasLetter 12 = .ok (.aload_n 0, 1) := by decide +kernel
theorem dX5_hasLetter_13 : decode cX5_hasLetter 13 = .ok (.iload_n 1, 1) := by decide +kernel
theorem dX5_hasLetter_14 : decode cX5_hasLetter 14 = .ok (.invokevirtual 175, 3) := by decide +kernel
theorem dX5_hasLetter_17 : decode cX5_hasLetter 17 = .ok (.iload_n 2, 1) := by decide +kernel
theorem dX5_hasLetter_18 : decode cX5_hasLetter 18 = .ok (.invokevirtual 194, 3) := by decide +kernel
theorem dX5_hasLetter_21 : decode cX5_hasLetter 21 = .ok (.ifCond .eq 7, 3) := by decide +kernel
theorem dX5_hasLetter_24 : decode cX5_hasLetter 24 = .ok (.iconst 1, 1) := by decide +kernel
theorem dX5_hasLetter_25 : decode cX5_hasLetter 25 = .ok (.goto 4, 3) := by decide +kernel
theorem dX5_hasLetter_28 : decode cX5_hasLetter 28 = .ok (.iconst 0, 1) := by decide +kernel
theorem dX5_hasLetter_29 : decode cX5_hasLetter 29 = .ok (.ireturn, 1) := by decide +kernel
theorem dX5_gives_0 : decode cX5_gives 0 = .ok (.iconst 0, 1) := by decide +kernel
theorem dX5_gives_1 : decode cX5_gives 1 = .ok (.istore_n 2, 1) := by decide +kernel
theorem dX5_gives_2 : decode cX5_gives 2 = .ok (.iload_n 2, 1) := by decide +kernel
theorem dX5_gives_3 : decode cX5_gives 3 = .ok (.aload_n 0, 1) := by decide +kernel
theorem dX5_gives_4 : decode cX5_gives 4 = .ok (.invokevirtual 172, 3) := by decide +kernel
theorem dX5_gives_7 : decode cX5_gives 7 = .ok (.if_icmp .ge 94, 3) := by decide +kernel
theorem dX5_gives_10 : decode cX5_gives 10 = .ok (.aload_n 0, 1) := by decide +kernel
theorem dX5_gives_11 : decode cX5_gives 11 = .ok (.getfield 34, 3) := by decide +kernel
theorem dX5_gives_14 : decode cX5_gives 14 = .ok (.iload_n 2, 1) := by decide +kernel
theorem dX5_gives_15 : decode cX5_gives 15 = .ok (.baload, 1) := by decide +kernel
theorem dX5_gives_16 : decode cX5_gives 16 = .ok (.ifCond .ne 79, 3) := by decide +kernel
theorem dX5_gives_19 : decode cX5_gives 19 = .ok (.aload_n 0, 1) := by decide +kernel
theorem dX5_gives_20 : decode cX5_gives 20 = .ok (.getfield 197, 3) := by decide +kernel
theorem dX5_gives_23 : decode cX5_gives 23 = .ok (.iload_n 2, 1) := by decide +kernel
theorem dX5_gives_24 : decode cX5_gives 24 = .ok (.lshr, 1) := by decide +kernel
theorem dX5_gives_25 : decode cX5_gives 25 = .ok (.lconst 1, 1) := by decide +kernel
theorem dX5_gives_26 : decode cX5_gives 26 = .ok (.land, 1) := by decide +kernel
theorem dX5_gives_27 : decode cX5_gives 27 = .ok (.lconst 1, 1) := by decide +kernel
theorem dX5_gives_28 : decode cX5_gives 28 = .ok (.lcmp, 1) := by decide +kernel
theorem dX5_gives_29 : decode cX5_gives 29 = .ok (.ifCond .eq 66, 3) := by decide +kernel
theorem dX5_gives_32 : decode cX5_gives 32 = .ok (.aload_n 0, 1) := by decide +kernel
theorem dX5_gives_33 : decode cX5_gives 33 = .ok (.iload_n 2, 1) := by decide +kernel
theorem dX5_gives_34 : decode cX5_gives 34 = .ok (.aload_n 0, 1) := by decide +kernel
theorem dX5_gives_35 : decode cX5_gives 35 = .ok (.getfield 17, 3) := by decide +kernel
theorem dX5_gives_38 : decode cX5_gives 38 = .ok (.sipush 162, 3) := by decide +kernel
theorem dX5_gives_41 : decode cX5_gives 41 = .ok (.iload_n 1, 1) := by decide +kernel
theorem dX5_gives_42 : decode cX5_gives 42 = .ok (.iadd, 1) := by decide +kernel
theorem dX5_gives_43 : decode cX5_gives 43 = .ok (.iaload, 1) := by decide +kernel
theorem dX5_gives_44 : decode cX5_gives 44 = .ok (.invokevirtual 201, 3) := by decide +kernel
theorem dX5_gives_47 : decode cX5_gives 47 = .ok (.ifCond .ne 6, 3) := by decide +kernel
theorem dX5_gives_50 : decode cX5_gives 50 = .ok (.goto 45, 3) := by decide +kernel
theorem dX5_gives_53 : decode cX5_gives 53 = .ok (.aload_n 0, 1) := by decide +kernel
theorem dX5_gives_54 : decode cX5_gives 54 = .ok (.getfield 34, 3) := by decide +kernel
theorem dX5_gives_57 : decode cX5_gives 57 = .ok (.iload_n 2, 1) := by decide +kernel
theorem dX5_gives_58 : decode cX5_gives 58 = .ok (.iconst 1, 1) := by decide +kernel
theorem dX5_gives_59 : decode cX5_gives 59 = .ok (.bastore, 1) := by decide +kernel
theorem dX5_gives_60 : decode cX5_gives 60 = .ok (.aload_n 0, 1) := by decide +kernel
theorem dX5_gives_61 : decode cX5_gives 61 = .ok (.getfield 31, 3) := by decide +kernel
theorem dX5_gives_64 : decode cX5_gives 64 = .ok (.iload_n 2, 1) := by decide +kernel
theorem dX5_gives_65 : decode cX5_gives 65 = .ok (.iaload, 1) := by decide +kernel
theorem dX5_gives_66 : decode cX5_gives 66 = .ok (.iconst (-1), 1) := by decide +kernel
theorem dX5_gives_67 : decode cX5_gives 67 = .ok (.if_icmp .eq 19, 3) := by decide +kernel
theorem dX5_gives_70 : decode cX5_gives 70 = .ok (.aload_n 0, 1) := by decide +kernel
theorem dX5_gives_71 : decode cX5_gives 71 = .ok (.aload_n 0, 1) := by decide +kernel
theorem dX5_gives_72 : decode cX5_gives 72 = .ok (.getfield 31, 3) := by decide +kernel
theorem dX5_gives_75 : decode cX5_gives 75 = .ok (.iload_n 2, 1) := by decide +kernel
theorem dX5_gives_76 : decode cX5_gives 76 = .ok (.iaload, 1) := by decide +kernel
theorem dX5_gives_77 : decode cX5_gives 77 = .ok (.invokevirtual 204, 3) := by decide +kernel
theorem dX5_gives_80 : decode cX5_gives 80 = .ok (.ifCond .ne 6, 3) := by decide +kernel
theorem dX5_gives_83 : decode cX5_gives 83 = .ok (.goto 12, 3) := by decide +kernel
theorem dX5_gives_86 : decode cX5_gives 86 = .ok (.aload_n 0, 1) := by decide +kernel
theorem dX5_gives_87 : decode cX5_gives 87 = .ok (.getfield 31, 3) := by decide +kernel
theorem dX5_gives_90 : decode cX5_gives 90 = .ok (.iload_n 2, 1) := by decide +kernel
theorem dX5_gives_91 : decode cX5_gives 91 = .ok (.iload_n 1, 1) := by decide +kernel
theorem dX5_gives_92 : decode cX5_gives 92 = .ok (.iastore, 1) := by decide +kernel
theorem dX5_gives_93 : decode cX5_gives 93 = .ok (.iconst 1, 1) := by decide +kernel
theorem dX5_gives_94 : decode cX5_gives 94 = .ok (.ireturn, 1) := by decide +kernel
theorem dX5_gives_95 : decode cX5_gives 95 = .ok (.iinc 2 1, 3) := by decide +kernel
theorem dX5_gives_98 : decode cX5_gives 98 = .ok (.goto (-96), 3) := by decide +kernel
theorem dX5_gives_101 : decode cX5_gives 101 = .ok (.iconst 0, 1) := by decide +kernel
theorem dX5_gives_102 : decode cX5_gives 102 = .ok (.ireturn, 1) := by decide +kernel
theorem dX5_missingNow_0 : decode cX5_missingNow 0 = .ok (.aload_n 0, 1) := by decide +kernel
theorem dX5_missingNow_1 : decode cX5_missingNow 1 = .ok (.lconst 0, 1) := by decide +kernel
theorem dX5_missingNow_2 : decode cX5_missingNow 2 = .ok (.putfield 197, 3) := by decide +kernel
theorem dX5_missingNow_5 : decode cX5_missingNow 5 = .ok (.aload_n 0, 1) := by decide +kernel
theorem dX5_missingNow_6 : decode cX5_missingNow 6 = .ok (.iconst 0, 1) := by decide +kernel
theorem dX5_missingNow_7 : decode cX5_missingNow 7 = .ok (.invokevirtual 207, 3) := by decide +kernel
theorem dX5_missingNow_10 : decode cX5_missingNow 10 = .ok (.ireturn, 1) := by decide +kernel
theorem dX5_missingFrom_0 : decode cX5_missingFrom 0 = .ok (.iconst 0, 1) := by decide +kernel
theorem dX5_missingFrom_1 : decode cX5_missingFrom 1 = .ok (.istore_n 2, 1) := by decide +kernel
theorem dX5_missingFrom_2 : decode cX5_missingFrom 2 = .ok (.iconst 0, 1) := by decide +kernel
theorem dX5_missingFrom_3 : decode cX5_missingFrom 3 = .ok (.istore_n 3, 1) := by decide +kernel
theorem dX5_missingFrom_4 : decode cX5_missingFrom 4 = .ok (.iload_n 3, 1) := by decide +kernel
theorem dX5_missingFrom_5 : decode cX5_missingFrom 5 = .ok (.aload_n 0, 1) := by decide +kernel
theorem dX5_missingFrom_6 : decode cX5_missingFrom 6 = .ok (.invokevirtual 172, 3) := by decide +kernel
theorem dX5_missingFrom_9 : decode cX5_missingFrom 9 = .ok (.if_icmp .ge 16, 3) := by decide +kernel
theorem dX5_missingFrom_12 : decode cX5_missingFrom 12 = .ok (.aload_n 0, 1) := by decide +kernel
theorem dX5_missingFrom_13 : decode cX5_missingFrom 13 = .ok (.getfield 31, 3) := by decide +kernel
theorem dX5_missingFrom_16 : decode cX5_missingFrom 16 = .ok (.iload_n 3, 1) := by decide +kernel
theorem dX5_missingFrom_17 : decode cX5_missingFrom 17 = .ok (.iconst (-1), 1) := by decide +kernel
theorem dX5_missingFrom_18 : decode cX5_missingFrom 18 = .ok (.iastore, 1) := by decide +kernel
theorem dX5_missingFrom_19 : decode cX5_missingFrom 19 = .ok (.iinc 3 1, 3) := by decide +kernel
theorem dX5_missingFrom_22 : decode cX5_missingFrom 22 = .ok (.goto (-18), 3) := by decide +kernel
theorem dX5_missingFrom_25 : decode cX5_missingFrom 25 = .ok (.iload_n 1, 1) := by decide +kernel
theorem dX5_missingFrom_26 : decode cX5_missingFrom 26 = .ok (.istore_n 3, 1) := by decide +kernel
theorem dX5_missingFrom_27 : decode cX5_missingFrom 27 = .ok (.iload_n 3, 1) := by decide +kernel
theorem dX5_missingFrom_28 : decode cX5_missingFrom 28 = .ok (.aload_n 0, 1) := by decide +kernel
theorem dX5_missingFrom_29 : decode cX5_missingFrom 29 = .ok (.getfield 17, 3) := by decide +kernel
theorem dX5_missingFrom_32 : decode cX5_missingFrom 32 = .ok (.iconst 3, 1) := by decide +kernel
theorem dX5_missingFrom_33 : decode cX5_missingFrom 33 = .ok (.iaload, 1) := by decide +kernel
theorem dX5_missingFrom_34 : decode cX5_missingFrom 34 = .ok (.if_icmp .ge 51, 3) := by decide +kernel
theorem dX5_missingFrom_37 : decode cX5_missingFrom 37 = .ok (.iconst 0, 1) := by decide +kernel
theorem dX5_missingFrom_38 : decode cX5_missingFrom 38 = .ok (.istore 4, 2) := by decide +kernel
theorem dX5_missingFrom_40 : decode cX5_missingFrom 40 = .ok (.iload 4, 2) := by decide +kernel
theorem dX5_missingFrom_42 : decode cX5_missingFrom 42 = .ok (.aload_n 0, 1) := by decide +kernel
theorem dX5_missingFrom_43 : decode cX5_missingFrom 43 = .ok (.invokevirtual 172, 3) := by decide +kernel
theorem dX5_missingFrom_46 : decode cX5_missingFrom 46 = .ok (.if_icmp .ge 17, 3) := by decide +kernel
theorem dX5_missingFrom_49 : decode cX5_missingFrom 49 = .ok (.aload_n 0, 1) := by decide +kernel
theorem dX5_missingFrom_50 : decode cX5_missingFrom 50 = .ok (.getfield 34, 3) := by decide +kernel
theorem dX5_missingFrom_53 : decode cX5_missingFrom 53 = .ok (.iload 4, 2) := by decide +kernel
theorem dX5_missingFrom_55 : decode cX5_missingFrom 55 = .ok (.iconst 0, 1) := by decide +kernel
theorem dX5_missingFrom_56 : decode cX5_missingFrom 56 = .ok (.bastore, 1) := by decide +kernel
theorem dX5_missingFrom_57 : decode cX5_missingFrom 57 = .ok (.iinc 4 1, 3) := by decide +kernel
theorem dX5_missingFrom_60 : decode cX5_missingFrom 60 = .ok (.goto (-20), 3) := by decide +kernel
theorem dX5_missingFrom_63 : decode cX5_missingFrom 63 = .ok (.iload_n 2, 1) := by decide +kernel
theorem dX5_missingFrom_64 : decode cX5_missingFrom 64 = .ok (.aload_n 0, 1) := by decide +kernel
theorem dX5_missingFrom_65 : decode cX5_missingFrom 65 = .ok (.iload_n 3, 1) := by decide +kernel
theorem dX5_missingFrom_66 : decode cX5_missingFrom 66 = .ok (.invokevirtual 204, 3) := by decide +kernel
theorem dX5_missingFrom_69 : decode cX5_missingFrom 69 = .ok (.ifCond .eq 7, 3) := by decide +kernel
theorem dX5_missingFrom_72 : decode cX5_missingFrom 72 = .ok (.iconst 0, 1) := by decide +kernel
theorem dX5_missingFrom_73 : decode cX5_missingFrom 73 = .ok (.goto 4, 3) := by decide +kernel
theorem dX5_missingFrom_76 : decode cX5_missingFrom 76 = .ok (.iconst 1, 1) := by decide +kernel
theorem dX5_missingFrom_77 : decode cX5_missingFrom 77 = .ok (.iadd, 1) := by decide +kernel
theorem dX5_missingFrom_78 : decode cX5_missingFrom 78 = .ok (.istore_n 2, 1) := by decide +kernel
theorem dX5_missingFrom_79 : decode cX5_missingFrom 79 = .ok (.iinc 3 1, 3) := by decide +kernel
theorem dX5_missingFrom_82 : decode cX5_missingFrom 82 = .ok (.goto (-55), 3) := by decide +kernel
theorem dX5_missingFrom_85 : decode cX5_missingFrom 85 = .ok (.iload_n 2, 1) := by decide +kernel
theorem dX5_missingFrom_86 : decode cX5_missingFrom 86 = .ok (.ireturn, 1) := by decide +kernel
theorem dX5_isStrip_0 : decode cX5_isStrip 0 = .ok (.iload_n 2, 1) := by decide +kernel
theorem dX5_isStrip_1 : decode cX5_isStrip 1 = .ok (.aload_n 0, 1) := by decide +kernel
theorem dX5_isStrip_2 : decode cX5_isStrip 2 = .ok (.getfield 17, 3) := by decide +kernel
theorem dX5_isStrip_5 : decode cX5_isStrip 5 = .ok (.iconst 0, 1) := by decide +kernel
theorem dX5_isStrip_6 : decode cX5_isStrip 6 = .ok (.iaload, 1) := by decide +kernel
theorem dX5_isStrip_7 : decode cX5_isStrip 7 = .ok (.irem, 1) := by decide +kernel
theorem dX5_isStrip_8 : decode cX5_isStrip 8 = .ok (.iload_n 3, 1) := by decide +kernel
theorem dX5_isStrip_9 : decode cX5_isStrip 9 = .ok (.iadd, 1) := by decide +kernel
theorem dX5_isStrip_10 : decode cX5_isStrip 10 = .ok (.aload_n 0, 1) := by decide +kernel
theorem dX5_isStrip_11 : decode cX5_isStrip 11 = .ok (.getfield 17, 3) := by decide +kernel
theorem dX5_isStrip_14 : decode cX5_isStrip 14 = .ok (.iconst 0, 1) := by decide +kernel
theorem dX5_isStrip_15 : decode cX5_isStrip 15 = .ok (.iaload, 1) := by decide +kernel
theorem dX5_isStrip_16 : decode cX5_isStrip 16 = .ok (.if_icmp .le 5, 3) := by decide +kernel
theorem dX5_isStrip_19 : decode cX5_isStrip 19 = .ok (.iconst 0, 1) := by decide +kernel
theorem dX5_isStrip_20 : decode cX5_isStrip 20 = .ok (.ireturn, 1) := by decide +kernel
theorem dX5_isStrip_21 : decode cX5_isStrip 21 = .ok (.iconst 0, 1) := by decide +kernel
theorem dX5_isStrip_22 : decode cX5_isStrip 22 = .ok (.istore 5, 2) := by decide +kernel
theorem dX5_isStrip_24 : decode cX5_isStrip 24 = .ok (.iload 5, 2) := by decide +kernel
theorem dX5_isStrip_26 : decode cX5_isStrip 26 = .ok (.iload_n 3, 1) := by decide +kernel
theorem dX5_isStrip_27 : decode cX5_isStrip 27 = .ok (.if_icmp .ge 37, 3) := by decide +kernel
theorem dX5_isStrip_30 : decode cX5_isStrip 30 = .ok (.aload_n 0, 1) := by decide +kernel
theorem dX5_isStrip_31 : decode cX5_isStrip 31 = .ok (.iload_n 1, 1) := by decide +kernel
theorem dX5_isStrip_32 : decode cX5_isStrip 32 = .ok (.iload_n 2, 1) := by decide +kernel
theorem dX5_isStrip_33 : decode cX5_isStrip 33 = .ok (.iload 5, 2) := by decide +kernel
theorem dX5_isStrip_35 : decode cX5_isStrip 35 = .ok (.iadd, 1) := by decide +kernel
theorem dX5_isStrip_36 : decode cX5_isStrip 36 = .ok (.aload_n 0, 1) := by decide +kernel
theorem dX5_isStrip_37 : decode cX5_isStrip 37 = .ok (.getfield 17, 3) := by decide +kernel
theorem dX5_isStrip_40 : decode cX5_isStrip 40 = .ok (.sipush 162, 3) := by decide +kernel
theorem dX5_isStrip_43 : decode cX5_isStrip 43 = .ok (.iload 4, 2) := by decide +kernel
theorem dX5_isStrip_45 : decode cX5_isStrip 45 = .ok (.iadd, 1) := by decide +kernel
theorem dX5_isStrip_46 : decode cX5_isStrip 46 = .ok (.iload 5, 2) := by decide +kernel
theorem dX5_isStrip_48 : decode cX5_isStrip 48 = .ok (.iadd, 1) := by decide +kernel
theorem dX5_isStrip_49 : decode cX5_isStrip 49 = .ok (.iaload, 1) := by decide +kernel
theorem dX5_isStrip_50 : decode cX5_isStrip 50 = .ok (.invokevirtual 194, 3) := by decide +kernel
theorem dX5_isStrip_53 : decode cX5_isStrip 53 = .ok (.ifCond .ne 5, 3) := by decide +kernel
theorem dX5_isStrip_56 : decode cX5_isStrip 56 = .ok (.iconst 0, 1) := by decide +kernel
theorem dX5_isStrip_57 : decode cX5_isStrip 57 = .ok (.ireturn, 1) := by decide +kernel
theorem dX5_isStrip_58 : decode cX5_isStrip 58 = .ok (.iinc 5 1, 3) := by decide +kernel
theorem dX5_isStrip_61 : decode cX5_isStrip 61 = .ok (.goto (-37), 3) := by decide +kernel
theorem dX5_isStrip_64 : decode cX5_isStrip 64 = .ok (.iconst 1, 1) := by decide +kernel
theorem dX5_isStrip_65 : decode cX5_isStrip 65 = .ok (.ireturn, 1) := by decide +kernel
theorem dX5_longestFrom_0 : decode cX5_longestFrom 0 = .ok (.aload_n 0, 1) := by decide +kernel
theorem dX5_longestFrom_1 : decode cX5_longestFrom 1 = .ok (.getfield 17, 3) := by decide +kernel
theorem dX5_longestFrom_4 : decode cX5_longestFrom 4 = .ok (.iconst 0, 1) := by decide +kernel
theorem dX5_longestFrom_5 : decode cX5_longestFrom 5 = .ok (.iaload, 1) := by decide +kernel
theorem dX5_longestFrom_6 : decode cX5_longestFrom 6 = .ok (.aload_n 0, 1) := by decide +kernel
theorem dX5_longestFrom_7 : decode cX5_longestFrom 7 = .ok (.getfield 17, 3) := by decide +kernel
theorem dX5_longestFrom_10 : decode cX5_longestFrom 10 = .ok (.iconst 3, 1) := by decide +kernel
theorem dX5_longestFrom_11 : decode cX5_longestFrom 11 = .ok (.iaload, 1) := by decide +kernel
theorem dX5_longestFrom_12 : decode cX5_longestFrom 12 = .ok (.iload_n 1, 1) := by decide +kernel
theorem dX5_longestFrom_13 : decode cX5_longestFrom 13 = .ok (.isub, 1) := by decide +kernel
theorem dX5_longestFrom_14 : decode cX5_longestFrom 14 = .ok (.invokestatic 119, 3) := by decide +kernel
theorem dX5_longestFrom_17 : decode cX5_longestFrom 17 = .ok (.istore_n 2, 1) := by decide +kernel
theorem dX5_longestFrom_18 : decode cX5_longestFrom 18 = .ok (.iload_n 2, 1) := by decide +kernel
theorem dX5_longestFrom_19 : decode cX5_longestFrom 19 = .ok (.istore_n 3, 1) := by decide +kernel
theorem dX5_longestFrom_20 : decode cX5_longestFrom 20 = .ok (.iload_n 3, 1) := by decide +kernel
theorem dX5_longestFrom_21 : decode cX5_longestFrom 21 = .ok (.ifCond .le 57, 3) := by decide +kernel
theorem dX5_longestFrom_24 : decode cX5_longestFrom 24 = .ok (.iconst 0, 1) := by decide +kernel
theorem dX5_longestFrom_25 : decode cX5_longestFrom 25 = .ok (.istore 4, 2) := by decide +kernel
theorem dX5_longestFrom_27 : decode cX5_longestFrom 27 = .ok (.iload 4, 2) := by decide +kernel
theorem dX5_longestFrom_29 : decode cX5_longestFrom 29 = .ok (.iconst 2, 1) := by decide +kernel
theorem dX5_longestFrom_30 : decode cX5_longestFrom 30 = .ok (.if_icmp .ge 42, 3) := by decide +kernel
theorem dX5_longestFrom_33 : decode cX5_longestFrom 33 = .ok (.iconst 0, 1) := by decide +kernel
theorem dX5_longestFrom_34 : decode cX5_longestFrom 34 = .ok (.istore 5, 2) := by decide +kernel
theorem dX5_longestFrom_36 : decode cX5_longestFrom 36 = .ok (.iload 5, 2) := by decide +kernel
theorem dX5_longestFrom_38 : decode cX5_longestFrom 38 = .ok (.aload_n 0, 1) := by decide +kernel
theorem dX5_longestFrom_39 : decode cX5_longestFrom 39 = .ok (.invokevirtual 172, 3) := by decide +kernel
theorem dX5_longestFrom_42 : decode cX5_longestFrom 42 = .ok (.if_icmp .ge 24, 3) := by decide +kernel
theorem dX5_longestFrom_45 : decode cX5_longestFrom 45 = .ok (.aload_n 0, 1) := by decide +kernel
theorem dX5_longestFrom_46 : decode cX5_longestFrom 46 = .ok (.iload 4, 2) := by decide +kernel
theorem dX5_longestFrom_48 : decode cX5_longestFrom 48 = .ok (.iload 5, 2) := by decide +kernel
theorem dX5_longestFrom_50 : decode cX5_longestFrom 50 = .ok (.iload_n 3, 1) := by decide +kernel
theorem dX5_longestFrom_51 : decode cX5_longestFrom 51 = .ok (.iload_n 1, 1) := by decide +kernel
theorem dX5_longestFrom_52 : decode cX5_longestFrom 52 = .ok (.invokevirtual 210, 3) := by decide +kernel
theorem dX5_longestFrom_55 : decode cX5_longestFrom 55 = .ok (.ifCond .eq 5, 3) := by decide +kernel
theorem dX5_longestFrom_58 : decode cX5_longestFrom 58 = .ok (.iload_n 3, 1) := by decide +kernel
theorem dX5_longestFrom_59 : decode cX5_longestFrom 59 = .ok (.ireturn, 1) := by decide +kernel
theorem dX5_longestFrom_60 : decode cX5_longestFrom 60 = .ok (.iinc 5 1, 3) := by decide +kernel
theorem dX5_longestFrom_63 : decode cX5_longestFrom 63 = .ok (.goto (-27), 3) := by decide +kernel
theorem dX5_longestFrom_66 : decode cX5_longestFrom 66 = .ok (.iinc 4 1, 3) := by decide +kernel
theorem dX5_longestFrom_69 : decode cX5_longestFrom 69 = .ok (.goto (-42), 3) := by decide +kernel
theorem dX5_longestFrom_72 : decode cX5_longestFrom 72 = .ok (.iinc 3 (-1), 3) := by decide +kernel
theorem dX5_longestFrom_75 : decode cX5_longestFrom 75 = .ok (.goto (-55), 3) := by decide +kernel
theorem dX5_longestFrom_78 : decode cX5_longestFrom 78 = .ok (.iconst 0, 1) := by decide +kernel
theorem dX5_longestFrom_79 : decode cX5_longestFrom 79 = .ok (.ireturn, 1) := by decide +kernel
theorem dX5_layNeeded_0 : decode cX5_layNeeded 0 = .ok (.aload_n 0, 1) := by decide +kernel
theorem dX5_layNeeded_1 : decode cX5_layNeeded 1 = .ok (.getfield 38, 3) := by decide +kernel
theorem dX5_layNeeded_4 : decode cX5_layNeeded 4 = .ok (.aload_n 0, 1) := by decide +kernel
theorem dX5_layNeeded_5 : decode cX5_layNeeded 5 = .ok (.getfield 17, 3) := by decide +kernel
theorem dX5_layNeeded_8 : decode cX5_layNeeded 8 = .ok (.iconst 3, 1) := by decide +kernel
theorem dX5_layNeeded_9 : decode cX5_layNeeded 9 = .ok (.iaload, 1) := by decide +kernel
theorem dX5_layNeeded_10 : decode cX5_layNeeded 10 = .ok (.iconst 0, 1) := by decide +kernel
theorem dX5_layNeeded_11 : decode cX5_layNeeded 11 = .ok (.iastore, 1) := by decide +kernel
theorem dX5_layNeeded_12 : decode cX5_layNeeded 12 = .ok (.aload_n 0, 1) := by decide +kernel
theorem dX5_layNeeded_13 : decode cX5_layNeeded 13 = .ok (.getfield 50, 3) := by decide +kernel
theorem dX5_layNeeded_16 : decode cX5_layNeeded 16 = .ok (.aload_n 0, 1) := by decide +kernel
theorem dX5_layNeeded_17 : decode cX5_layNeeded 17 = .ok (.getfield 17, 3) := by decide +kernel
theorem dX5_layNeeded_20 : decode cX5_layNeeded 20 = .ok (.iconst 3, 1) := by decide +kernel
theorem dX5_layNeeded_21 : decode cX5_layNeeded 21 = .ok (.iaload, 1) := by decide +kernel
theorem dX5_layNeeded_22 : decode cX5_layNeeded 22 = .ok (.lconst 0, 1) := by decide +kernel
theorem dX5_layNeeded_23 : decode cX5_layNeeded 23 = .ok (.lastore, 1) := by decide +kernel
theorem dX5_layNeeded_24 : decode cX5_layNeeded 24 = .ok (.aload_n 0, 1) := by decide +kernel
theorem dX5_layNeeded_25 : decode cX5_layNeeded 25 = .ok (.getfield 17, 3) := by decide +kernel
theorem dX5_layNeeded_28 : decode cX5_layNeeded 28 = .ok (.iconst 3, 1) := by decide +kernel
theorem dX5_layNeeded_29 : decode cX5_layNeeded 29 = .ok (.iaload, 1) := by decide +kernel
theorem dX5_layNeeded_30 : decode cX5_layNeeded 30 = .ok (.iconst 1, 1) := by decide +kernel
theorem dX5_layNeeded_31 : decode cX5_layNeeded 31 = .ok (.isub, 1) := by decide +kernel
theorem dX5_layNeeded_32 : decode cX5_layNeeded 32 = .ok (.istore_n 1, 1) := by decide +kernel
theorem dX5_layNeeded_33 : decode cX5_layNeeded 33 = .ok (.iload_n 1, 1) := by decide +kernel
theorem dX5_layNeeded_34 : decode cX5_layNeeded 34 = .ok (.ifCond .lt 121, 3) := by decide +kernel
theorem dX5_layNeeded_37 : decode cX5_layNeeded 37 = .ok (.aload_n 0, 1) := by decide +kernel
theorem dX5_layNeeded_38 : decode cX5_layNeeded 38 = .ok (.getfield 50, 3) := by decide +kernel
theorem dX5_layNeeded_41 : decode cX5_layNeeded 41 = .ok (.iload_n 1, 1) := by decide +kernel
theorem dX5_layNeeded_42 : decode cX5_layNeeded 42 = .ok (.aload_n 0, 1) := by decide +kernel
theorem dX5_layNeeded_43 : decode cX5_layNeeded 43 = .ok (.getfield 50, 3) := by decide +kernel
theorem dX5_layNeeded_46 : decode cX5_layNeeded 46 = .ok (.iload_n 1, 1) := by decide +kernel
theorem dX5_layNeeded_47 : decode cX5_layNeeded 47 = .ok (.iconst 1, 1) := by decide +kernel
theorem dX5_layNeeded_48 : decode cX5_layNeeded 48 = .ok (.iadd, 1) := by decide +kernel
theorem dX5_layNeeded_49 : decode cX5_layNeeded 49 = .ok (.laload, 1) := by decide +kernel
theorem dX5_layNeeded_50 : decode cX5_layNeeded 50 = .ok (.lastore, 1) := by decide +kernel
theorem dX5_layNeeded_51 : decode cX5_layNeeded 51 = .ok (.iconst 0, 1) := by decide +kernel
theorem dX5_layNeeded_52 : decode cX5_layNeeded 52 = .ok (.istore_n 2, 1) := by decide +kernel
theorem dX5_layNeeded_53 : decode cX5_layNeeded 53 = .ok (.iload_n 2, 1) := by decide +kernel
theorem dX5_layNeeded_54 : decode cX5_layNeeded 54 = .ok (.aload_n 0, 1) := by decide +kernel
theorem dX5_layNeeded_55 : decode cX5_layNeeded 55 = .ok (.invokevirtual 172, 3) := by decide +kernel
theorem dX5_layNeeded_58 : decode cX5_layNeeded 58 = .ok (.if_icmp .ge 39, 3) := by decide +kernel
theorem dX5_layNeeded_61 : decode cX5_layNeeded 61 = .ok (.aload_n 0, 1) := by decide +kernel
theorem dX5_layNeeded_62 : decode cX5_layNeeded 62 = .ok (.iload_n 2, 1) := by decide +kernel
theorem dX5_layNeeded_63 : decode cX5_layNeeded 63 = .ok (.aload_n 0, 1) := by decide +kernel
theorem dX5_layNeeded_64 : decode cX5_layNeeded 64 = .ok (.getfield 17, 3) := by decide +kernel
theorem dX5_layNeeded_67 : decode cX5_layNeeded 67 = .ok (.sipush 162, 3) := by decide +kernel
theorem dX5_layNeeded_70 : decode cX5_layNeeded 70 = .ok (.iload_n 1, 1) := by decide +kernel
theorem dX5_layNeeded_71 : decode cX5_layNeeded 71 = .ok (.iadd, 1) := by decide +kernel
theorem dX5_layNeeded_72 : decode cX5_layNeeded 72 = .ok (.iaload, 1) := by decide +kernel
theorem dX5_layNeeded_73 : decode cX5_layNeeded 73 = .ok (.invokevirtual 201, 3) := by decide +kernel
theorem dX5_layNeeded_76 : decode cX5_layNeeded 76 = .ok (.ifCond .eq 15, 3) := by decide +kernel
theorem dX5_layNeeded_79 : decode cX5_layNeeded 79 = .ok (.aload_n 0, 1) := by decide +kernel
theorem dX5_layNeeded_80 : decode cX5_layNeeded 80 = .ok (.getfield 50, 3) := by decide +kernel
theorem dX5_layNeeded_83 : decode cX5_layNeeded 83 = .ok (.iload_n 1, 1) := by decide +kernel
theorem dX5_layNeeded_84 : decode cX5_layNeeded 84 = .ok (.dup2, 1) := by decide +kernel
theorem dX5_layNeeded_85 : decode cX5_layNeeded 85 = .ok (.laload, 1) := by decide +kernel
theorem dX5_layNeeded_86 : decode cX5_layNeeded 86 = .ok (.lconst 1, 1) := by decide +kernel
theorem dX5_layNeeded_87 : decode cX5_layNeeded 87 = .ok (.iload_n 2, 1) := by decide +kernel
theorem dX5_layNeeded_88 : decode cX5_layNeeded 88 = .ok (.lshl, 1) := by decide +kernel
theorem dX5_layNeeded_89 : decode cX5_layNeeded 89 = .ok (.lor, 1) := by decide +kernel
theorem dX5_layNeeded_90 : decode cX5_layNeeded 90 = .ok (.lastore, 1) := by decide +kernel
theorem dX5_layNeeded_91 : decode cX5_layNeeded 91 = .ok (.iinc 2 1, 3) := by decide +kernel
theorem dX5_layNeeded_94 : decode cX5_layNeeded 94 = .ok (.goto (-41), 3) := by decide +kernel
theorem dX5_layNeeded_97 : decode cX5_layNeeded 97 = .ok (.aload_n 0, 1) := by decide +kernel
theorem dX5_layNeeded_98 : decode cX5_layNeeded 98 = .ok (.getfield 38, 3) := by decide +kernel
theorem dX5_layNeeded_101 : decode cX5_layNeeded 101 = .ok (.iload_n 1, 1) := by decide +kernel
theorem dX5_layNeeded_102 : decode cX5_layNeeded 102 = .ok (.bipush 99, 2) := by decide +kernel
theorem dX5_layNeeded_104 : decode cX5_layNeeded 104 = .ok (.iastore, 1) := by decide +kernel
theorem dX5_layNeeded_105 : decode cX5_layNeeded 105 = .ok (.aload_n 0, 1) := by decide +kernel
theorem dX5_layNeeded_106 : decode cX5_layNeeded 106 = .ok (.iload_n 1, 1) := by decide +kernel
theorem dX5_layNeeded_107 : decode cX5_layNeeded 107 = .ok (.invokevirtual 214, 3) := by decide +kernel
theorem dX5_layNeeded_110 : decode cX5_layNeeded 110 = .ok (.istore_n 2, 1) := by decide +kernel
theorem dX5_layNeeded_111 : decode cX5_layNeeded 111 = .ok (.iconst 1, 1) := by decide +kernel
theorem dX5_layNeeded_112 : decode cX5_layNeeded 112 = .ok (.istore_n 3, 1) := by decide +kernel
theorem dX5_layNeeded_113 : decode cX5_layNeeded 113 = .ok (.iload_n 3, 1) := by decide +kernel
theorem dX5_layNeeded_114 : decode cX5_layNeeded 114 = .ok (.iload_n 2, 1) := by decide +kernel
theorem dX5_layNeeded_115 : decode cX5_layNeeded 115 = .ok (.if_icmp .gt 34, 3) := by decide +kernel
theorem dX5_layNeeded_118 : decode cX5_layNeeded 118 = .ok (.aload_n 0, 1) := by decide +kernel
theorem dX5_layNeeded_119 : decode cX5_layNeeded 119 = .ok (.getfield 38, 3) := by decide +kernel
theorem dX5_layNeeded_122 : decode cX5_layNeeded 122 = .ok (.iload_n 1, 1) := by decide +kernel
theorem dX5_layNeeded_123 : decode cX5_layNeeded 123 = .ok (.aload_n 0, 1) := by decide +kernel
theorem dX5_layNeeded_124 : decode cX5_layNeeded 124 = .ok (.getfield 38, 3) := by decide +kernel
theorem dX5_layNeeded_127 : decode cX5_layNeeded 127 = .ok (.iload_n 1, 1) := by decide +kernel
theorem dX5_layNeeded_128 : decode cX5_layNeeded 128 = .ok (.iaload, 1) := by decide +kernel
theorem dX5_layNeeded_129 : decode cX5_layNeeded 129 = .ok (.iconst 1, 1) := by decide +kernel
theorem dX5_layNeeded_130 : decode cX5_layNeeded 130 = .ok (.aload_n 0, 1) := by decide +kernel
theorem dX5_layNeeded_131 : decode cX5_layNeeded 131 = .ok (.getfield 38, 3) := by decide +kernel
theorem dX5_layNeeded_134 : decode cX5_layNeeded 134 = .ok (.iload_n 1, 1) := by decide +kernel
theorem dX5_layNeeded_135 : decode cX5_layNeeded 135 = .ok (.iload_n 3, 1) := by decide +kernel
theorem dX5_layNeeded_136 : decode cX5_layNeeded 136 = .ok (.iadd, 1) := by decide +kernel
theorem dX5_layNeeded_137 : decode cX5_layNeeded 137 = .ok (.iaload, 1) := by decide +kernel
theorem dX5_layNeeded_138 : decode cX5_layNeeded 138 = .ok (.iadd, 1) := by decide +kernel
theorem dX5_layNeeded_139 : decode cX5_layNeeded 139 = .ok (.invokestatic 119, 3) := by decide +kernel
theorem dX5_layNeeded_142 : decode cX5_layNeeded 142 = .ok (.iastore, 1) := by decide +kernel
theorem dX5_layNeeded_143 : decode cX5_layNeeded 143 = .ok (.iinc 3 1, 3) := by decide +kernel
theorem dX5_layNeeded_146 : decode cX5_layNeeded 146 = .ok (.goto (-33), 3) := by decide +kernel
theorem dX5_layNeeded_149 : decode cX5_layNeeded 149 = .ok (.iinc 1 (-1), 3) := by decide +kernel
theorem dX5_layNeeded_152 : decode cX5_layNeeded 152 = .ok (.goto (-119), 3) := by decide +kernel
theorem dX5_layNeeded_155 : decode cX5_layNeeded 155 = .ok (.return_, 1) := by decide +kernel
theorem dX5_cellsOf_0 : decode cX5_cellsOf 0 = .ok (.lconst 0, 1) := by decide +kernel
theorem dX5_cellsOf_1 : decode cX5_cellsOf 1 = .ok (.lstore 4, 2) := by decide +kernel
theorem dX5_cellsOf_3 : decode cX5_cellsOf 3 = .ok (.iconst 0, 1) := by decide +kernel
theorem dX5_cellsOf_4 : decode cX5_cellsOf 4 = .ok (.istore 6, 2) := by decide +kernel
theorem dX5_cellsOf_6 : decode cX5_cellsOf 6 = .ok (.iload 6, 2) := by decide +kernel
theorem dX5_cellsOf_8 : decode cX5_cellsOf 8 = .ok (.iload_n 3, 1) := by decide +kernel
theorem dX5_cellsOf_9 : decode cX5_cellsOf 9 = .ok (.if_icmp .ge 25, 3) := by decide +kernel
theorem dX5_cellsOf_12 : decode cX5_cellsOf 12 = .ok (.lload 4, 2) := by decide +kernel
theorem dX5_cellsOf_14 : decode cX5_cellsOf 14 = .ok (.lconst 1, 1) := by decide +kernel
theorem dX5_cellsOf_15 : decode cX5_cellsOf 15 = .ok (.aload_n 0, 1) := by decide +kernel
theorem dX5_cellsOf_16 : decode cX5_cellsOf 16 = .ok (.iload_n 1, 1) := by decide +kernel
theorem dX5_cellsOf_17 : decode cX5_cellsOf 17 = .ok (.iload_n 2, 1) := by decide +kernel
theorem dX5_cellsOf_18 : decode cX5_cellsOf 18 = .ok (.iload 6, 2) := by decide +kernel
theorem dX5_cellsOf_20 : decode cX5_cellsOf 20 = .ok (.iadd, 1) := by decide +kernel
theorem dX5_cellsOf_21 : decode cX5_cellsOf 21 = .ok (.invokevirtual 178, 3) := by decide +kernel
theorem dX5_cellsOf_24 : decode cX5_cellsOf 24 = .ok (.lshl, 1) := by decide +kernel
theorem dX5_cellsOf_25 : decode cX5_cellsOf 25 = .ok (.lor, 1) := by decide +kernel
theorem dX5_cellsOf_26 : decode cX5_cellsOf 26 = .ok (.lstore 4, 2) := by decide +kernel
theorem dX5_cellsOf_28 : decode cX5_cellsOf 28 = .ok (.iinc 6 1, 3) := by decide +kernel
theorem dX5_cellsOf_31 : decode cX5_cellsOf 31 = .ok (.goto (-25), 3) := by decide +kernel
theorem dX5_cellsOf_34 : decode cX5_cellsOf 34 = .ok (.lload 4, 2) := by decide +kernel
theorem dX5_cellsOf_36 : decode cX5_cellsOf 36 = .ok (.lreturn, 1) := by decide +kernel
theorem dX5_keyOf_0 : decode cX5_keyOf 0 = .ok (.aload_n 0, 1) := by decide +kernel
theorem dX5_keyOf_1 : decode cX5_keyOf 1 = .ok (.getfield 197, 3) := by decide +kernel
theorem dX5_keyOf_4 : decode cX5_keyOf 4 = .ok (.aload_n 0, 1) := by decide +kernel
theorem dX5_keyOf_5 : decode cX5_keyOf 5 = .ok (.getfield 50, 3) := by decide +kernel
theorem dX5_keyOf_8 : decode cX5_keyOf 8 = .ok (.iload_n 1, 1) := by decide +kernel
theorem dX5_keyOf_9 : decode cX5_keyOf 9 = .ok (.laload, 1) := by decide +kernel
theorem dX5_keyOf_10 : decode cX5_keyOf 10 = .ok (.land, 1) := by decide +kernel
theorem dX5_keyOf_11 : decode cX5_keyOf 11 = .ok (.ldc2_w 217, 3) := by decide +kernel
theorem dX5_keyOf_14 : decode cX5_keyOf 14 = .ok (.iload_n 1, 1) := by decide +kernel
theorem dX5_keyOf_15 : decode cX5_keyOf 15 = .ok (.i2l, 1) := by decide +kernel
theorem dX5_keyOf_16 : decode cX5_keyOf 16 = .ok (.lmul, 1) := by decide +kernel
theorem dX5_keyOf_17 : decode cX5_keyOf 17 = .ok (.iload_n 2, 1) := by decide +kernel
theorem dX5_keyOf_18 : decode cX5_keyOf 18 = .ok (.i2l, 1) := by decide +kernel
theorem dX5_keyOf_19 : decode cX5_keyOf 19 = .ok (.ladd, 1) := by decide +kernel
theorem dX5_keyOf_20 : decode cX5_keyOf 20 = .ok (.lconst 1, 1) := by decide +kernel
theorem dX5_keyOf_21 : decode cX5_keyOf 21 = .ok (.ladd, 1) := by decide +kernel
theorem dX5_keyOf_22 : decode cX5_keyOf 22 = .ok (.bipush 48, 2) := by decide +kernel
theorem dX5_keyOf_24 : decode cX5_keyOf 24 = .ok (.lshl, 1) := by decide +kernel
theorem dX5_keyOf_25 : decode cX5_keyOf 25 = .ok (.lor, 1) := by decide +kernel
theorem dX5_keyOf_26 : decode cX5_keyOf 26 = .ok (.lreturn, 1) := by decide +kernel
theorem dX5_vainAt_0 : decode cX5_vainAt 0 = .ok (.lload_n 1, 1) := by decide +kernel
theorem dX5_vainAt_1 : decode cX5_vainAt 1 = .ok (.lload_n 1, 1) := by decide +kernel
theorem dX5_vainAt_2 : decode cX5_vainAt 2 = .ok (.bipush 21, 2) := by decide +kernel
theorem dX5_vainAt_4 : decode cX5_vainAt 4 = .ok (.lshr, 1) := by decide +kernel
theorem dX5_vainAt_5 : decode cX5_vainAt 5 = .ok (.lxor, 1) := by decide +kernel
theorem dX5_vainAt_6 : decode cX5_vainAt 6 = .ok (.lload_n 1, 1) := by decide +kernel
theorem dX5_vainAt_7 : decode cX5_vainAt 7 = .ok (.bipush 42, 2) := by decide +kernel
theorem dX5_vainAt_9 : decode cX5_vainAt 9 = .ok (.lshr, 1) := by decide +kernel
theorem dX5_vainAt_10 : decode cX5_vainAt 10 = .ok (.lxor, 1) := by decide +kernel
theorem dX5_vainAt_11 : decode cX5_vainAt 11 = .ok (.ldc2_w 219, 3) := by decide +kernel
theorem dX5_vainAt_14 : decode cX5_vainAt 14 = .ok (.land, 1) := by decide +kernel
theorem dX5_vainAt_15 : decode cX5_vainAt 15 = .ok (.l2i, 1) := by decide +kernel
theorem dX5_vainAt_16 : decode cX5_vainAt 16 = .ok (.istore_n 3, 1) := by decide +kernel
theorem dX5_vainAt_17 : decode cX5_vainAt 17 = .ok (.aload_n 0, 1) := by decide +kernel
theorem dX5_vainAt_18 : decode cX5_vainAt 18 = .ok (.getfield 54, 3) := by decide +kernel
theorem dX5_vainAt_21 : decode cX5_vainAt 21 = .ok (.iload_n 3, 1) := by decide +kernel
theorem dX5_vainAt_22 : decode cX5_vainAt 22 = .ok (.laload, 1) := by decide +kernel
theorem dX5_vainAt_23 : decode cX5_vainAt 23 = .ok (.lconst 0, 1) := by decide +kernel
theorem dX5_vainAt_24 : decode cX5_vainAt 24 = .ok (.lcmp, 1) := by decide +kernel
theorem dX5_vainAt_25 : decode cX5_vainAt 25 = .ok (.ifCond .eq 25, 3) := by decide +kernel
theorem dX5_vainAt_28 : decode cX5_vainAt 28 = .ok (.aload_n 0, 1) := by decide +kernel
theorem dX5_vainAt_29 : decode cX5_vainAt 29 = .ok (.getfield 54, 3) := by decide +kernel
theorem dX5_vainAt_32 : decode cX5_vainAt 32 = .ok (.iload_n 3, 1) := by decide +kernel
theorem dX5_vainAt_33 : decode cX5_vainAt 33 = .ok (.laload, 1) := by decide +kernel
theorem dX5_vainAt_34 : decode cX5_vainAt 34 = .ok (.lload_n 1, 1) := by decide +kernel
theorem dX5_vainAt_35 : decode cX5_vainAt 35 = .ok (.lcmp, 1) := by decide +kernel
theorem dX5_vainAt_36 : decode cX5_vainAt 36 = .ok (.ifCond .eq 14, 3) := by decide +kernel
theorem dX5_vainAt_39 : decode cX5_vainAt 39 = .ok (.iload_n 3, 1) := by decide +kernel
theorem dX5_vainAt_40 : decode cX5_vainAt 40 = .ok (.iconst 1, 1) := by decide +kernel
theorem dX5_vainAt_41 : decode cX5_vainAt 41 = .ok (.iadd, 1) := by decide +kernel
theorem dX5_vainAt_42 : decode cX5_vainAt 42 = .ok (.sipush 4096, 3) := by decide +kernel
theorem dX5_vainAt_45 : decode cX5_vainAt 45 = .ok (.irem, 1) := by decide +kernel
theorem dX5_vainAt_46 : decode cX5_vainAt 46 = .ok (.istore_n 3, 1) := by decide +kernel
theorem dX5_vainAt_47 : decode cX5_vainAt 47 = .ok (.goto (-30), 3) := by decide +kernel
theorem dX5_vainAt_50 : decode cX5_vainAt 50 = .ok (.iload_n 3, 1) := by decide +kernel
theorem dX5_vainAt_51 : decode cX5_vainAt 51 = .ok (.ireturn, 1) := by decide +kernel
theorem dX5_plans_0 : decode cX5_plans 0 = .ok (.iload_n 1, 1) := by decide +kernel
theorem dX5_plans_1 : decode cX5_plans 1 = .ok (.aload_n 0, 1) := by decide +kernel
theorem dX5_plans_2 : decode cX5_plans 2 = .ok (.getfield 17, 3) := by decide +kernel
theorem dX5_plans_5 : decode cX5_plans 5 = .ok (.iconst 3, 1) := by decide +kernel
theorem dX5_plans_6 : decode cX5_plans 6 = .ok (.iaload, 1) := by decide +kernel
theorem dX5_plans_7 : decode cX5_plans 7 = .ok (.if_icmp .ne 14, 3) := by decide +kernel
theorem dX5_plans_10 : decode cX5_plans 10 = .ok (.iload_n 2, 1) := by decide +kernel
theorem dX5_plans_11 : decode cX5_plans 11 = .ok (.iload_n 3, 1) := by decide +kernel
theorem dX5_plans_12 : decode cX5_plans 12 = .ok (.if_icmp .ne 7, 3) := by decide +kernel
theorem dX5_plans_15 : decode cX5_plans 15 = .ok (.iconst 1, 1) := by decide +kernel
theorem dX5_plans_16 : decode cX5_plans 16 = .ok (.goto 4, 3) := by decide +kernel
theorem dX5_plans_19 : decode cX5_plans 19 = .ok (.iconst 0, 1) := by decide +kernel
theorem dX5_plans_20 : decode cX5_plans 20 = .ok (.ireturn, 1) := by decide +kernel
theorem dX5_plans_21 : decode cX5_plans 21 = .ok (.aload_n 0, 1) := by decide +kernel
theorem dX5_plans_22 : decode cX5_plans 22 = .ok (.getfield 38, 3) := by decide +kernel
theorem dX5_plans_25 : decode cX5_plans 25 = .ok (.iload_n 1, 1) := by decide +kernel
theorem dX5_plans_26 : decode cX5_plans 26 = .ok (.iaload, 1) := by decide +kernel
theorem dX5_plans_27 : decode cX5_plans 27 = .ok (.iload_n 3, 1) := by decide +kernel
theorem dX5_plans_28 : decode cX5_plans 28 = .ok (.iload_n 2, 1) := by decide +kernel
theorem dX5_plans_29 : decode cX5_plans 29 = .ok (.isub, 1) := by decide +kernel
theorem dX5_plans_30 : decode cX5_plans 30 = .ok (.if_icmp .gt 31, 3) := by decide +kernel
theorem dX5_plans_33 : decode cX5_plans 33 = .ok (.aload_n 0, 1) := by decide +kernel
theorem dX5_plans_34 : decode cX5_plans 34 = .ok (.iload_n 1, 1) := by decide +kernel
theorem dX5_plans_35 : decode cX5_plans 35 = .ok (.invokevirtual 207, 3) := by decide +kernel
theorem dX5_plans_38 : decode cX5_plans 38 = .ok (.ifCond .gt 23, 3) := by decide +kernel
theorem dX5_plans_41 : decode cX5_plans 41 = .ok (.aload_n 0, 1) := by decide +kernel
theorem dX5_plans_42 : decode cX5_plans 42 = .ok (.getfield 54, 3) := by decide +kernel
theorem dX5_plans_45 : decode cX5_plans 45 = .ok (.aload_n 0, 1) := by decide +kernel
theorem dX5_plans_46 : decode cX5_plans 46 = .ok (.aload_n 0, 1) := by decide +kernel
theorem dX5_plans_47 : decode cX5_plans 47 = .ok (.iload_n 1, 1) := by decide +kernel
theorem dX5_plans_48 : decode cX5_plans 48 = .ok (.iload_n 2, 1) := by decide +kernel
theorem dX5_plans_49 : decode cX5_plans 49 = .ok (.invokevirtual 221, 3) := by decide +kernel
theorem dX5_plans_52 : decode cX5_plans 52 = .ok (.invokevirtual 225, 3) := by decide +kernel
theorem dX5_plans_55 : decode cX5_plans 55 = .ok (.laload, 1) := by decide +kernel
theorem dX5_plans_56 : decode cX5_plans 56 = .ok (.lconst 0, 1) := by decide +kernel
theorem dX5_plans_57 : decode cX5_plans 57 = .ok (.lcmp, 1) := by decide +kernel
theorem dX5_plans_58 : decode cX5_plans 58 = .ok (.ifCond .eq 5, 3) := by decide +kernel
theorem dX5_plans_61 : decode cX5_plans 61 = .ok (.iconst 0, 1) := by decide +kernel
theorem dX5_plans_62 : decode cX5_plans 62 = .ok (.ireturn, 1) := by decide +kernel
theorem dX5_plans_63 : decode cX5_plans 63 = .ok (.aload_n 0, 1) := by decide +kernel
theorem dX5_plans_64 : decode cX5_plans 64 = .ok (.getfield 17, 3) := by decide +kernel
theorem dX5_plans_67 : decode cX5_plans 67 = .ok (.iconst 0, 1) := by decide +kernel
theorem dX5_plans_68 : decode cX5_plans 68 = .ok (.iaload, 1) := by decide +kernel
theorem dX5_plans_69 : decode cX5_plans 69 = .ok (.aload_n 0, 1) := by decide +kernel
theorem dX5_plans_70 : decode cX5_plans 70 = .ok (.getfield 17, 3) := by decide +kernel
theorem dX5_plans_73 : decode cX5_plans 73 = .ok (.iconst 3, 1) := by decide +kernel
theorem dX5_plans_74 : decode cX5_plans 74 = .ok (.iaload, 1) := by decide +kernel
theorem dX5_plans_75 : decode cX5_plans 75 = .ok (.iload_n 1, 1) := by decide +kernel
theorem dX5_plans_76 : decode cX5_plans 76 = .ok (.isub, 1) := by decide +kernel
theorem dX5_plans_77 : decode cX5_plans 77 = .ok (.invokestatic 119, 3) := by decide +kernel
theorem dX5_plans_80 : decode cX5_plans 80 = .ok (.istore 4, 2) := by decide +kernel
theorem dX5_plans_82 : decode cX5_plans 82 = .ok (.iload 4, 2) := by decide +kernel
theorem dX5_plans_84 : decode cX5_plans 84 = .ok (.ifCond .le 182, 3) := by decide +kernel
theorem dX5_plans_87 : decode cX5_plans 87 = .ok (.aload_n 0, 1) := by decide +kernel
theorem dX5_plans_88 : decode cX5_plans 88 = .ok (.getfield 38, 3) := by decide +kernel
theorem dX5_plans_91 : decode cX5_plans 91 = .ok (.iload_n 1, 1) := by decide +kernel
theorem dX5_plans_92 : decode cX5_plans 92 = .ok (.iload 4, 2) := by decide +kernel
theorem dX5_plans_94 : decode cX5_plans 94 = .ok (.iadd, 1) := by decide +kernel
theorem dX5_plans_95 : decode cX5_plans 95 = .ok (.iaload, 1) := by decide +kernel
theorem dX5_plans_96 : decode cX5_plans 96 = .ok (.iload_n 3, 1) := by decide +kernel
theorem dX5_plans_97 : decode cX5_plans 97 = .ok (.iload_n 2, 1) := by decide +kernel
theorem dX5_plans_98 : decode cX5_plans 98 = .ok (.isub, 1) := by decide +kernel
theorem dX5_plans_99 : decode cX5_plans 99 = .ok (.iconst 1, 1) := by decide +kernel
theorem dX5_plans_100 : decode cX5_plans 100 = .ok (.isub, 1) := by decide +kernel
theorem dX5_plans_101 : decode cX5_plans 101 = .ok (.if_icmp .le 6, 3) := by decide +kernel
theorem dX5_plans_104 : decode cX5_plans 104 = .ok (.goto 156, 3) := by decide +kernel
theorem dX5_plans_107 : decode cX5_plans 107 = .ok (.iconst 0, 1) := by decide +kernel
theorem dX5_plans_108 : decode cX5_plans 108 = .ok (.istore 5, 2) := by decide +kernel
theorem dX5_plans_110 : decode cX5_plans 110 = .ok (.iload 5, 2) := by decide +kernel
theorem dX5_plans_112 : decode cX5_plans 112 = .ok (.iconst 2, 1) := by decide +kernel
theorem dX5_plans_113 : decode cX5_plans 113 = .ok (.aload_n 0, 1) := by decide +kernel
theorem dX5_plans_114 : decode cX5_plans 114 = .ok (.invokevirtual 172, 3) := by decide +kernel
theorem dX5_plans_117 : decode cX5_plans 117 = .ok (.imul, 1) := by decide +kernel
theorem dX5_plans_118 : decode cX5_plans 118 = .ok (.if_icmp .ge 142, 3) := by decide +kernel
theorem dX5_plans_121 : decode cX5_plans 121 = .ok (.iload 5, 2) := by decide +kernel
theorem dX5_plans_123 : decode cX5_plans 123 = .ok (.aload_n 0, 1) := by decide +kernel
theorem dX5_plans_124 : decode cX5_plans 124 = .ok (.invokevirtual 172, 3) := by decide +kernel
theorem dX5_plans_127 : decode cX5_plans 127 = .ok (.idiv, 1) := by decide +kernel
theorem dX5_plans_128 : decode cX5_plans 128 = .ok (.istore 6, 2) := by decide +kernel
theorem dX5_plans_130 : decode cX5_plans 130 = .ok (.iload 5, 2) := by decide +kernel
theorem dX5_plans_132 : decode cX5_plans 132 = .ok (.aload_n 0, 1) := by decide +kernel
theorem dX5_plans_133 : decode cX5_plans 133 = .ok (.invokevirtual 172, 3) := by decide +kernel
theorem dX5_plans_136 : decode cX5_plans 136 = .ok (.irem, 1) := by decide +kernel
theorem dX5_plans_137 : decode cX5_plans 137 = .ok (.istore 7, 2) := by decide +kernel
theorem dX5_plans_139 : decode cX5_plans 139 = .ok (.aload_n 0, 1) := by decide +kernel
theorem dX5_plans_140 : decode cX5_plans 140 = .ok (.iload 6, 2) := by decide +kernel
theorem dX5_plans_142 : decode cX5_plans 142 = .ok (.iload 7, 2) := by decide +kernel
theorem dX5_plans_144 : decode cX5_plans 144 = .ok (.iload 4, 2) := by decide +kernel
theorem dX5_plans_146 : decode cX5_plans 146 = .ok (.iload_n 1, 1) := by decide +kernel
theorem dX5_plans_147 : decode cX5_plans 147 = .ok (.invokevirtual 210, 3) := by decide +kernel
theorem dX5_plans_150 : decode cX5_plans 150 = .ok (.ifCond .ne 6, 3) := by decide +kernel
theorem dX5_plans_153 : decode cX5_plans 153 = .ok (.goto 101, 3) := by decide +kernel
theorem dX5_plans_156 : decode cX5_plans 156 = .ok (.aload_n 0, 1) := by decide +kernel
theorem dX5_plans_157 : decode cX5_plans 157 = .ok (.iload 6, 2) := by decide +kernel
theorem dX5_plans_159 : decode cX5_plans 159 = .ok (.iload 7, 2) := by decide +kernel
theorem dX5_plans_161 : decode cX5_plans 161 = .ok (.iload 4, 2) := by decide +kernel
theorem dX5_plans_163 : decode cX5_plans 163 = .ok (.invokevirtual 229, 3) := by decide +kernel
theorem dX5_plans_166 : decode cX5_plans 166 = .ok (.lstore 8, 2) := by decide +kernel
theorem dX5_plans_168 : decode cX5_plans 168 = .ok (.aload_n 0, 1) := by decide +kernel
theorem dX5_plans_169 : decode cX5_plans 169 = .ok (.getfield 197, 3) := by decide +kernel
theorem dX5_plans_172 : decode cX5_plans 172 = .ok (.lload 8, 2) := by decide +kernel
theorem dX5_plans_174 : decode cX5_plans 174 = .ok (.land, 1) := by decide +kernel
theorem dX5_plans_175 : decode cX5_plans 175 = .ok (.lconst 0, 1) := by decide +kernel
theorem dX5_plans_176 : decode cX5_plans 176 = .ok (.lcmp, 1) := by decide +kernel
theorem dX5_plans_177 : decode cX5_plans 177 = .ok (.ifCond .eq 6, 3) := by decide +kernel
theorem dX5_plans_180 : decode cX5_plans 180 = .ok (.goto 74, 3) := by decide +kernel
theorem dX5_plans_183 : decode cX5_plans 183 = .ok (.aload_n 0, 1) := by decide +kernel
theorem dX5_plans_184 : decode cX5_plans 184 = .ok (.dup, 1) := by decide +kernel
theorem dX5_plans_185 : decode cX5_plans 185 = .ok (.getfield 197, 3) := by decide +kernel
theorem dX5_plans_188 : decode cX5_plans 188 = .ok (.lload 8, 2) := by decide +kernel
theorem dX5_plans_190 : decode cX5_plans 190 = .ok (.lor, 1) := by decide +kernel
theorem dX5_plans_191 : decode cX5_plans 191 = .ok (.putfield 197, 3) := by decide +kernel
theorem dX5_plans_194 : decode cX5_plans 194 = .ok (.aload_n 0, 1) := by decide +kernel
theorem dX5_plans_195 : decode cX5_plans 195 = .ok (.getfield 41, 3) := by decide +kernel
theorem dX5_plans_198 : decode cX5_plans 198 = .ok (.iload_n 2, 1) := by decide +kernel
theorem dX5_plans_199 : decode cX5_plans 199 = .ok (.iload 4, 2) := by decide +kernel
theorem dX5_plans_201 : decode cX5_plans 201 = .ok (.iastore, 1) := by decide +kernel
theorem dX5_plans_202 : decode cX5_plans 202 = .ok (.aload_n 0, 1) := by decide +kernel
theorem dX5_plans_203 : decode cX5_plans 203 = .ok (.getfield 44, 3) := by decide +kernel
theorem dX5_plans_206 : decode cX5_plans 206 = .ok (.iload_n 2, 1) := by decide +kernel
theorem dX5_plans_207 : decode cX5_plans 207 = .ok (.iload 6, 2) := by decide +kernel
theorem dX5_plans_209 : decode cX5_plans 209 = .ok (.iastore, 1) := by decide +kernel
theorem dX5_plans_210 : decode cX5_plans 210 = .ok (.aload_n 0, 1) := by decide +kernel
theorem dX5_plans_211 : decode cX5_plans 211 = .ok (.getfield 47, 3) := by decide +kernel
theorem dX5_plans_214 : decode cX5_plans 214 = .ok (.iload_n 2, 1) := by decide +kernel
theorem dX5_plans_215 : decode cX5_plans 215 = .ok (.iload 7, 2) := by decide +kernel
theorem dX5_plans_217 : decode cX5_plans 217 = .ok (.iastore, 1) := by decide +kernel
theorem dX5_plans_218 : decode cX5_plans 218 = .ok (.aload_n 0, 1) := by decide +kernel
theorem dX5_plans_219 : decode cX5_plans 219 = .ok (.iload_n 1, 1) := by decide +kernel
theorem dX5_plans_220 : decode cX5_plans 220 = .ok (.iload 4, 2) := by decide +kernel
theorem dX5_plans_222 : decode cX5_plans 222 = .ok (.iadd, 1) := by decide +kernel
theorem dX5_plans_223 : decode cX5_plans 223 = .ok (.iload_n 2, 1) := by decide +kernel
theorem dX5_plans_224 : decode cX5_plans 224 = .ok (.iconst 1, 1) := by decide +kernel
theorem dX5_plans_225 : decode cX5_plans 225 = .ok (.iadd, 1) := by decide +kernel
theorem dX5_plans_226 : decode cX5_plans 226 = .ok (.iload_n 3, 1) := by decide +kernel
theorem dX5_plans_227 : decode cX5_plans 227 = .ok (.invokevirtual 233, 3) := by decide +kernel
theorem dX5_plans_230 : decode cX5_plans 230 = .ok (.istore 10, 2) := by decide +kernel
theorem dX5_plans_232 : decode cX5_plans 232 = .ok (.aload_n 0, 1) := by decide +kernel
theorem dX5_plans_233 : decode cX5_plans 233 = .ok (.dup, 1) := by decide +kernel
theorem dX5_plans_234 : decode cX5_plans 234 = .ok (.getfield 197, 3) := by decide +kernel
theorem dX5_plans_237 : decode cX5_plans 237 = .ok (.lload 8, 2) := by decide +kernel
theorem dX5_plans_239 : decode cX5_plans 239 = .ok (.ldc2_w 236, 3) := by decide +kernel
theorem dX5_plans_242 : decode cX5_plans 242 = .ok (.lxor, 1) := by decide +kernel
theorem dX5_plans_243 : decode cX5_plans 243 = .ok (.land, 1) := by decide +kernel
theorem dX5_plans_244 : decode cX5_plans 244 = .ok (.putfield 197, 3) := by decide +kernel
theorem dX5_plans_247 : decode cX5_plans 247 = .ok (.iload 10, 2) := by decide +kernel
theorem dX5_plans_249 : decode cX5_plans 249 = .ok (.ifCond .eq 5, 3) := by decide +kernel
theorem dX5_plans_252 : decode cX5_plans 252 = .ok (.iconst 1, 1) := by decide +kernel
theorem dX5_plans_253 : decode cX5_plans 253 = .ok (.ireturn, 1) := by decide +kernel
theorem dX5_plans_254 : decode cX5_plans 254 = .ok (.iinc 5 1, 3) := by decide +kernel
theorem dX5_plans_257 : decode cX5_plans 257 = .ok (.goto (-147), 3) := by decide +kernel
theorem dX5_plans_260 : decode cX5_plans 260 = .ok (.iinc 4 (-1), 3) := by decide +kernel
theorem dX5_plans_263 : decode cX5_plans 263 = .ok (.goto (-181), 3) := by decide +kernel
theorem dX5_plans_266 : decode cX5_plans 266 = .ok (.aload_n 0, 1) := by decide +kernel
theorem dX5_plans_267 : decode cX5_plans 267 = .ok (.getfield 238, 3) := by decide +kernel
theorem dX5_plans_270 : decode cX5_plans 270 = .ok (.sipush 2048, 3) := by decide +kernel
theorem dX5_plans_273 : decode cX5_plans 273 = .ok (.if_icmp .ge 34, 3) := by decide +kernel
theorem dX5_plans_276 : decode cX5_plans 276 = .ok (.aload_n 0, 1) := by decide +kernel
theorem dX5_plans_277 : decode cX5_plans 277 = .ok (.iload_n 1, 1) := by decide +kernel
theorem dX5_plans_278 : decode cX5_plans 278 = .ok (.iload_n 2, 1) := by decide +kernel
theorem dX5_plans_279 : decode cX5_plans 279 = .ok (.invokevirtual 221, 3) := by decide +kernel
theorem dX5_plans_282 : decode cX5_plans 282 = .ok (.lstore 4, 2) := by decide +kernel
theorem dX5_plans_284 : decode cX5_plans 284 = .ok (.aload_n 0, 1) := by decide +kernel
theorem dX5_plans_285 : decode cX5_plans 285 = .ok (.getfield 54, 3) := by decide +kernel
theorem dX5_plans_288 : decode cX5_plans 288 = .ok (.aload_n 0, 1) := by decide +kernel
theorem dX5_plans_289 : decode cX5_plans 289 = .ok (.lload 4, 2) := by decide +kernel
theorem dX5_plans_291 : decode cX5_plans 291 = .ok (.invokevirtual 225, 3) := by decide +kernel
theorem dX5_plans_294 : decode cX5_plans 294 = .ok (.lload 4, 2) := by decide +kernel
theorem dX5_plans_296 : decode cX5_plans 296 = .ok (.lastore, 1) := by decide +kernel
theorem dX5_plans_297 : decode cX5_plans 297 = .ok (.aload_n 0, 1) := by decide +kernel
theorem dX5_plans_298 : decode cX5_plans 298 = .ok (.dup, 1) := by decide +kernel
theorem dX5_plans_299 : decode cX5_plans 299 = .ok (.getfield 238, 3) := by decide +kernel
theorem dX5_plans_302 : decode cX5_plans 302 = .ok (.iconst 1, 1) := by decide +kernel
theorem dX5_plans_303 : decode cX5_plans 303 = .ok (.iadd, 1) := by decide +kernel
theorem dX5_plans_304 : decode cX5_plans 304 = .ok (.putfield 238, 3) := by decide +kernel
theorem dX5_plans_307 : decode cX5_plans 307 = .ok (.iconst 0, 1) := by decide +kernel
theorem dX5_plans_308 : decode cX5_plans 308 = .ok (.ireturn, 1) := by decide +kernel
theorem dX5_plansBy_0 : decode cX5_plansBy 0 = .ok (.aload_n 0, 1) := by decide +kernel
theorem dX5_plansBy_1 : decode cX5_plansBy 1 = .ok (.lconst 0, 1) := by decide +kernel
theorem dX5_plansBy_2 : decode cX5_plansBy 2 = .ok (.putfield 197, 3) := by decide +kernel
theorem dX5_plansBy_5 : decode cX5_plansBy 5 = .ok (.aload_n 0, 1) := by decide +kernel
theorem dX5_plansBy_6 : decode cX5_plansBy 6 = .ok (.iconst 0, 1) := by decide +kernel
theorem dX5_plansBy_7 : decode cX5_plansBy 7 = .ok (.putfield 238, 3) := by decide +kernel
theorem dX5_plansBy_10 : decode cX5_plansBy 10 = .ok (.iconst 0, 1) := by decide +kernel
theorem dX5_plansBy_11 : decode cX5_plansBy 11 = .ok (.istore_n 2, 1) := by decide +kernel
theorem dX5_plansBy_12 : decode cX5_plansBy 12 = .ok (.iload_n 2, 1) := by decide +kernel
theorem dX5_plansBy_13 : decode cX5_plansBy 13 = .ok (.sipush 4096, 3) := by decide +kernel
theorem dX5_plansBy_16 : decode cX5_plansBy 16 = .ok (.if_icmp .ge 16, 3) := by decide +kernel
theorem dX5_plansBy_19 : decode cX5_plansBy 19 = .ok (.aload_n 0, 1) := by decide +kernel
theorem dX5_plansBy_20 : decode cX5_plansBy 20 = .ok (.getfield 54, 3) := by decide +kernel
theorem dX5_plansBy_23 : decode cX5_plansBy 23 = .ok (.iload_n 2, 1) := by decide +kernel
theorem dX5_plansBy_24 : decode cX5_plansBy 24 = .ok (.lconst 0, 1) := by decide +kernel
theorem dX5_plansBy_25 : decode cX5_plansBy 25 = .ok (.lastore, 1) := by decide +kernel
theorem dX5_plansBy_26 : decode cX5_plansBy 26 = .ok (.iinc 2 1, 3) := by decide +kernel
theorem dX5_plansBy_29 : decode cX5_plansBy 29 = .ok (.goto (-17), 3) := by decide +kernel
theorem dX5_plansBy_32 : decode cX5_plansBy 32 = .ok (.aload_n 0, 1) := by decide +kernel
theorem dX5_plansBy_33 : decode cX5_plansBy 33 = .ok (.iconst 0, 1) := by decide +kernel
theorem dX5_plansBy_34 : decode cX5_plansBy 34 = .ok (.iconst 0, 1) := by decide +kernel
theorem dX5_plansBy_35 : decode cX5_plansBy 35 = .ok (.iload_n 1, 1) := by decide +kernel
theorem dX5_plansBy_36 : decode cX5_plansBy 36 = .ok (.invokevirtual 233, 3) := by decide +kernel
theorem dX5_plansBy_39 : decode cX5_plansBy 39 = .ok (.ireturn, 1) := by decide +kernel
theorem dX5_layPlan_0 : decode cX5_layPlan 0 = .ok (.aload_n 0, 1) := by decide +kernel
theorem dX5_layPlan_1 : decode cX5_layPlan 1 = .ok (.aload_n 0, 1) := by decide +kernel
theorem dX5_layPlan_2 : decode cX5_layPlan 2 = .ok (.getfield 17, 3) := by decide +kernel
theorem dX5_layPlan_5 : decode cX5_layPlan 5 = .ok (.iconst 3, 1) := by decide +kernel
theorem dX5_layPlan_6 : decode cX5_layPlan 6 = .ok (.iaload, 1) := by decide +kernel
theorem dX5_layPlan_7 : decode cX5_layPlan 7 = .ok (.bipush 8, 2) := by decide +kernel
theorem dX5_layPlan_9 : decode cX5_layPlan 9 = .ok (.if_icmp .le 8, 3) := by decide +kernel
theorem dX5_layPlan_12 : decode cX5_layPlan 12 = .ok (.bipush (-2), 2) := by decide +kernel
theorem dX5_layPlan_14 : decode cX5_layPlan 14 = .ok (.goto 15, 3) := by decide +kernel
theorem dX5_layPlan_17 : decode cX5_layPlan 17 = .ok (.aload_n 0, 1) := by decide +kernel
theorem dX5_layPlan_18 : decode cX5_layPlan 18 = .ok (.invokevirtual 241, 3) := by decide +kernel
theorem dX5_layPlan_21 : decode cX5_layPlan 21 = .ok (.ifCond .le 7, 3) := by decide +kernel
theorem dX5_layPlan_24 : decode cX5_layPlan 24 = .ok (.iconst (-1), 1) := by decide +kernel
theorem dX5_layPlan_25 : decode cX5_layPlan 25 = .ok (.goto 4, 3) := by decide +kernel
theorem dX5_layPlan_28 : decode cX5_layPlan 28 = .ok (.iconst 0, 1) := by decide +kernel
theorem dX5_layPlan_29 : decode cX5_layPlan 29 = .ok (.putfield 244, 3) := by decide +kernel
theorem dX5_layPlan_32 : decode cX5_layPlan 32 = .ok (.aload_n 0, 1) := by decide +kernel
theorem dX5_layPlan_33 : decode cX5_layPlan 33 = .ok (.getfield 244, 3) := by decide +kernel
theorem dX5_layPlan_36 : decode cX5_layPlan 36 = .ok (.ifCond .lt 12, 3) := by decide +kernel
theorem dX5_layPlan_39 : decode cX5_layPlan 39 = .ok (.aload_n 0, 1) := by decide +kernel
theorem dX5_layPlan_40 : decode cX5_layPlan 40 = .ok (.getfield 17, 3) := by decide +kernel
theorem dX5_layPlan_43 : decode cX5_layPlan 43 = .ok (.iconst 3, 1) := by decide +kernel
theorem dX5_layPlan_44 : decode cX5_layPlan 44 = .ok (.iaload, 1) := by decide +kernel
theorem dX5_layPlan_45 : decode cX5_layPlan 45 = .ok (.ifCond .ne 8, 3) := by decide +kernel
theorem dX5_layPlan_48 : decode cX5_layPlan 48 = .ok (.aload_n 0, 1) := by decide +kernel
theorem dX5_layPlan_49 : decode cX5_layPlan 49 = .ok (.getfield 244, 3) := by decide +kernel
theorem dX5_layPlan_52 : decode cX5_layPlan 52 = .ok (.ireturn, 1) := by decide +kernel
theorem dX5_layPlan_53 : decode cX5_layPlan 53 = .ok (.aload_n 0, 1) := by decide +kernel
theorem dX5_layPlan_54 : decode cX5_layPlan 54 = .ok (.invokevirtual 247, 3) := by decide +kernel
theorem dX5_layPlan_57 : decode cX5_layPlan 57 = .ok (.aload_n 0, 1) := by decide +kernel
theorem dX5_layPlan_58 : decode cX5_layPlan 58 = .ok (.aload_n 0, 1) := by decide +kernel
theorem dX5_layPlan_59 : decode cX5_layPlan 59 = .ok (.getfield 38, 3) := by decide +kernel
theorem dX5_layPlan_62 : decode cX5_layPlan 62 = .ok (.iconst 0, 1) := by decide +kernel
theorem dX5_layPlan_63 : decode cX5_layPlan 63 = .ok (.iaload, 1) := by decide +kernel
theorem dX5_layPlan_64 : decode cX5_layPlan 64 = .ok (.putfield 244, 3) := by decide +kernel
theorem dX5_layPlan_67 : decode cX5_layPlan 67 = .ok (.aload_n 0, 1) := by decide +kernel
theorem dX5_layPlan_68 : decode cX5_layPlan 68 = .ok (.aload_n 0, 1) := by decide +kernel
theorem dX5_layPlan_69 : decode cX5_layPlan 69 = .ok (.getfield 244, 3) := by decide +kernel
theorem dX5_layPlan_72 : decode cX5_layPlan 72 = .ok (.invokevirtual 250, 3) := by decide +kernel
theorem dX5_layPlan_75 : decode cX5_layPlan 75 = .ok (.ifCond .ne 16, 3) := by decide +kernel
theorem dX5_layPlan_78 : decode cX5_layPlan 78 = .ok (.aload_n 0, 1) := by decide +kernel
theorem dX5_layPlan_79 : decode cX5_layPlan 79 = .ok (.dup, 1) := by decide +kernel
theorem dX5_layPlan_80 : decode cX5_layPlan 80 = .ok (.getfield 244, 3) := by decide +kernel
theorem dX5_layPlan_83 : decode cX5_layPlan 83 = .ok (.iconst 1, 1) := by decide +kernel
theorem dX5_layPlan_84 : decode cX5_layPlan 84 = .ok (.iadd, 1) := by decide +kernel
theorem dX5_layPlan_85 : decode cX5_layPlan 85 = .ok (.putfield 244, 3) := by decide +kernel
theorem dX5_layPlan_88 : decode cX5_layPlan 88 = .ok (.goto (-21), 3) := by decide +kernel
theorem dX5_layPlan_91 : decode cX5_layPlan 91 = .ok (.aload_n 0, 1) := by decide +kernel
theorem dX5_layPlan_92 : decode cX5_layPlan 92 = .ok (.getfield 244, 3) := by decide +kernel
theorem dX5_layPlan_95 : decode cX5_layPlan 95 = .ok (.ireturn, 1) := by decide +kernel
theorem dX5_laySizes_0 : decode cX5_laySizes 0 = .ok (.iconst 0, 1) := by decide +kernel
theorem dX5_laySizes_1 : decode cX5_laySizes 1 = .ok (.istore_n 1, 1) := by decide +kernel
theorem dX5_laySizes_2 : decode cX5_laySizes 2 = .ok (.iconst 0, 1) := by decide +kernel
theorem dX5_laySizes_3 : decode cX5_laySizes 3 = .ok (.istore_n 2, 1) := by decide +kernel
theorem dX5_laySizes_4 : decode cX5_laySizes 4 = .ok (.iload_n 2, 1) := by decide +kernel
theorem dX5_laySizes_5 : decode cX5_laySizes 5 = .ok (.aload_n 0, 1) := by decide +kernel
theorem dX5_laySizes_6 : decode cX5_laySizes 6 = .ok (.getfield 244, 3) := by decide +kernel
theorem dX5_laySizes_9 : decode cX5_laySizes 9 = .ok (.if_icmp .ge 52, 3) := by decide +kernel
theorem dX5_laySizes_12 : decode cX5_laySizes 12 = .ok (.iconst 0, 1) := by decide +kernel
theorem dX5_laySizes_13 : decode cX5_laySizes 13 = .ok (.istore_n 3, 1) := by decide +kernel
theorem dX5_laySizes_14 : decode cX5_laySizes 14 = .ok (.iload_n 3, 1) := by decide +kernel
theorem dX5_laySizes_15 : decode cX5_laySizes 15 = .ok (.aload_n 0, 1) := by decide +kernel
theorem dX5_laySizes_16 : decode cX5_laySizes 16 = .ok (.getfield 41, 3) := by decide +kernel
theorem dX5_laySizes_19 : decode cX5_laySizes 19 = .ok (.iload_n 2, 1) := by decide +kernel
theorem dX5_laySizes_20 : decode cX5_laySizes 20 = .ok (.iaload, 1) := by decide +kernel
theorem dX5_laySizes_21 : decode cX5_laySizes 21 = .ok (.if_icmp .ge 34, 3) := by decide +kernel
theorem dX5_laySizes_24 : decode cX5_laySizes 24 = .ok (.aload_n 0, 1) := by decide +kernel
theorem dX5_laySizes_25 : decode cX5_laySizes 25 = .ok (.getfield 57, 3) := by decide +kernel
theorem dX5_laySizes_28 : decode cX5_laySizes 28 = .ok (.iload_n 1, 1) := by decide +kernel
theorem dX5_laySizes_29 : decode cX5_laySizes 29 = .ok (.aload_n 0, 1) := by decide +kernel
theorem dX5_laySizes_30 : decode cX5_laySizes 30 = .ok (.aload_n 0, 1) := by decide +kernel
theorem dX5_laySizes_31 : decode cX5_laySizes 31 = .ok (.getfield 44, 3) := by decide +kernel
theorem dX5_laySizes_34 : decode cX5_laySizes 34 = .ok (.iload_n 2, 1) := by decide +kernel
theorem dX5_laySizes_35 : decode cX5_laySizes 35 = .ok (.iaload, 1) := by decide +kernel
theorem dX5_laySizes_36 : decode cX5_laySizes 36 = .ok (.aload_n 0, 1) := by decide +kernel
theorem dX5_laySizes_37 : decode cX5_laySizes 37 = .ok (.getfield 47, 3) := by decide +kernel
theorem dX5_laySizes_40 : decode cX5_laySizes 40 = .ok (.iload_n 2, 1) := by decide +kernel
theorem dX5_laySizes_41 : decode cX5_laySizes 41 = .ok (.iaload, 1) := by decide +kernel
theorem dX5_laySizes_42 : decode cX5_laySizes 42 = .ok (.invokevirtual 188, 3) := by decide +kernel
theorem dX5_laySizes_45 : decode cX5_laySizes 45 = .ok (.iastore, 1) := by decide +kernel
theorem dX5_laySizes_46 : decode cX5_laySizes 46 = .ok (.iinc 1 1, 3) := by decide +kernel
theorem dX5_laySizes_49 : decode cX5_laySizes 49 = .ok (.iinc 3 1, 3) := by decide +kernel
theorem dX5_laySizes_52 : decode cX5_laySizes 52 = .ok (.goto (-38), 3) := by decide +kernel
theorem dX5_laySizes_55 : decode cX5_laySizes 55 = .ok (.iinc 2 1, 3) := by decide +kernel
theorem dX5_laySizes_58 : decode cX5_laySizes 58 = .ok (.goto (-54), 3) := by decide +kernel
theorem dX5_laySizes_61 : decode cX5_laySizes 61 = .ok (.return_, 1) := by decide +kernel
theorem dX5_goesOff_0 : decode cX5_goesOff 0 = .ok (.iconst 0, 1) := by decide +kernel
theorem dX5_goesOff_1 : decode cX5_goesOff 1 = .ok (.istore 4, 2) := by decide +kernel
theorem dX5_goesOff_3 : decode cX5_goesOff 3 = .ok (.iload 4, 2) := by decide +kernel
theorem dX5_goesOff_5 : decode cX5_goesOff 5 = .ok (.iload_n 3, 1) := by decide +kernel
theorem dX5_goesOff_6 : decode cX5_goesOff 6 = .ok (.if_icmp .ge 27, 3) := by decide +kernel
theorem dX5_goesOff_9 : decode cX5_goesOff 9 = .ok (.aload_n 0, 1) := by decide +kernel
theorem dX5_goesOff_10 : decode cX5_goesOff 10 = .ok (.getfield 17, 3) := by decide +kernel
theorem dX5_goesOff_13 : decode cX5_goesOff 13 = .ok (.bipush 114, 2) := by decide +kernel
theorem dX5_goesOff_15 : decode cX5_goesOff 15 = .ok (.aload_n 0, 1) := by decide +kernel
theorem dX5_goesOff_16 : decode cX5_goesOff 16 = .ok (.iload_n 1, 1) := by decide +kernel
theorem dX5_goesOff_17 : decode cX5_goesOff 17 = .ok (.iload_n 2, 1) := by decide +kernel
theorem dX5_goesOff_18 : decode cX5_goesOff 18 = .ok (.iload 4, 2) := by decide +kernel
theorem dX5_goesOff_20 : decode cX5_goesOff 20 = .ok (.iadd, 1) := by decide +kernel
theorem dX5_goesOff_21 : decode cX5_goesOff 21 = .ok (.invokevirtual 178, 3) := by decide +kernel
theorem dX5_goesOff_24 : decode cX5_goesOff 24 = .ok (.iadd, 1) := by decide +kernel
theorem dX5_goesOff_25 : decode cX5_goesOff 25 = .ok (.iconst 1, 1) := by decide +kernel
theorem dX5_goesOff_26 : decode cX5_goesOff 26 = .ok (.iastore, 1) := by decide +kernel
theorem dX5_goesOff_27 : decode cX5_goesOff 27 = .ok (.iinc 4 1, 3) := by decide +kernel
theorem dX5_goesOff_30 : decode cX5_goesOff 30 = .ok (.goto (-27), 3) := by decide +kernel
theorem dX5_goesOff_33 : decode cX5_goesOff 33 = .ok (.aload_n 0, 1) := by decide +kernel
theorem dX5_goesOff_34 : decode cX5_goesOff 34 = .ok (.getfield 17, 3) := by decide +kernel
theorem dX5_goesOff_37 : decode cX5_goesOff 37 = .ok (.iconst 4, 1) := by decide +kernel
theorem dX5_goesOff_38 : decode cX5_goesOff 38 = .ok (.dup2, 1) := by decide +kernel
theorem dX5_goesOff_39 : decode cX5_goesOff 39 = .ok (.iaload, 1) := by decide +kernel
theorem dX5_goesOff_40 : decode cX5_goesOff 40 = .ok (.iconst 1, 1) := by decide +kernel
theorem dX5_goesOff_41 : decode cX5_goesOff 41 = .ok (.iadd, 1) := by decide +kernel
theorem dX5_goesOff_42 : decode cX5_goesOff 42 = .ok (.iastore, 1) := by decide +kernel
theorem dX5_goesOff_43 : decode cX5_goesOff 43 = .ok (.aload_n 0, 1) := by decide +kernel
theorem dX5_goesOff_44 : decode cX5_goesOff 44 = .ok (.getfield 17, 3) := by decide +kernel
theorem dX5_goesOff_47 : decode cX5_goesOff 47 = .ok (.iconst 5, 1) := by decide +kernel
theorem dX5_goesOff_48 : decode cX5_goesOff 48 = .ok (.dup2, 1) := by decide +kernel
theorem dX5_goesOff_49 : decode cX5_goesOff 49 = .ok (.iaload, 1) := by decide +kernel
theorem dX5_goesOff_50 : decode cX5_goesOff 50 = .ok (.iload_n 3, 1) := by decide +kernel
theorem dX5_goesOff_51 : decode cX5_goesOff 51 = .ok (.iadd, 1) := by decide +kernel
theorem dX5_goesOff_52 : decode cX5_goesOff 52 = .ok (.iastore, 1) := by decide +kernel
theorem dX5_goesOff_53 : decode cX5_goesOff 53 = .ok (.return_, 1) := by decide +kernel
theorem dX5_cutPlan_0 : decode cX5_cutPlan 0 = .ok (.iconst 0, 1) := by decide +kernel
theorem dX5_cutPlan_1 : decode cX5_cutPlan 1 = .ok (.istore_n 1, 1) := by decide +kernel
theorem dX5_cutPlan_2 : decode cX5_cutPlan 2 = .ok (.iload_n 1, 1) := by decide +kernel
theorem dX5_cutPlan_3 : decode cX5_cutPlan 3 = .ok (.aload_n 0, 1) := by decide +kernel
theorem dX5_cutPlan_4 : decode cX5_cutPlan 4 = .ok (.getfield 244, 3) := by decide +kernel
theorem dX5_cutPlan_7 : decode cX5_cutPlan 7 = .ok (.if_icmp .ge 31, 3) := by decide +kernel
theorem dX5_cutPlan_10 : decode cX5_cutPlan 10 = .ok (.aload_n 0, 1) := by decide +kernel
theorem dX5_cutPlan_11 : decode cX5_cutPlan 11 = .ok (.aload_n 0, 1) := by decide +kernel
theorem dX5_cutPlan_12 : decode cX5_cutPlan 12 = .ok (.getfield 44, 3) := by decide +kernel
theorem dX5_cutPlan_15 : decode cX5_cutPlan 15 = .ok (.iload_n 1, 1) := by decide +kernel
theorem dX5_cutPlan_16 : decode cX5_cutPlan 16 = .ok (.iaload, 1) := by decide +kernel
theorem dX5_cutPlan_17 : decode cX5_cutPlan 17 = .ok (.aload_n 0, 1) := by decide +kernel
theorem dX5_cutPlan_18 : decode cX5_cutPlan 18 = .ok (.getfield 47, 3) := by decide +kernel
theorem dX5_cutPlan_21 : decode cX5_cutPlan 21 = .ok (.iload_n 1, 1) := by decide +kernel
theorem dX5_cutPlan_22 : decode cX5_cutPlan 22 = .ok (.iaload, 1) := by decide +kernel
theorem dX5_cutPlan_23 : decode cX5_cutPlan 23 = .ok (.aload_n 0, 1) := by decide +kernel
theorem dX5_cutPlan_24 : decode cX5_cutPlan 24 = .ok (.getfield 41, 3) := by decide +kernel
theorem dX5_cutPlan_27 : decode cX5_cutPlan 27 = .ok (.iload_n 1, 1) := by decide +kernel
theorem dX5_cutPlan_28 : decode cX5_cutPlan 28 = .ok (.iaload, 1) := by decide +kernel
theorem dX5_cutPlan_29 : decode cX5_cutPlan 29 = .ok (.invokevirtual 253, 3) := by decide +kernel
theorem dX5_cutPlan_32 : decode cX5_cutPlan 32 = .ok (.iinc 1 1, 3) := by decide +kernel
theorem dX5_cutPlan_35 : decode cX5_cutPlan 35 = .ok (.goto (-33), 3) := by decide +kernel
theorem dX5_cutPlan_38 : decode cX5_cutPlan 38 = .ok (.return_, 1) := by decide +kernel
theorem dX5_cellsThere_0 : decode cX5_cellsThere 0 = .ok (.iconst 0, 1) := by decide +kernel
theorem dX5_cellsThere_1 : decode cX5_cellsThere 1 = .ok (.istore_n 1, 1) := by decide +kernel
theorem dX5_cellsThere_2 : decode cX5_cellsThere 2 = .ok (.iconst 0, 1) := by decide +kernel
theorem dX5_cellsThere_3 : decode cX5_cellsThere 3 = .ok (.istore_n 2, 1) := by decide +kernel
theorem dX5_cellsThere_4 : decode cX5_cellsThere 4 = .ok (.iload_n 2, 1) := by decide +kernel
theorem dX5_cellsThere_5 : decode cX5_cellsThere 5 = .ok (.aload_n 0, 1) := by decide +kernel
theorem dX5_cellsThere_6 : decode cX5_cellsThere 6 = .ok (.invokevirtual 172, 3) := by decide +kernel
theorem dX5_cellsThere_9 : decode cX5_cellsThere 9 = .ok (.if_icmp .ge 23, 3) := by decide +kernel
theorem dX5_cellsThere_12 : decode cX5_cellsThere 12 = .ok (.iload_n 1, 1) := by decide +kernel
theorem dX5_cellsThere_13 : decode cX5_cellsThere 13 = .ok (.iconst 1, 1) := by decide +kernel
theorem dX5_cellsThere_14 : decode cX5_cellsThere 14 = .ok (.aload_n 0, 1) := by decide +kernel
theorem dX5_cellsThere_15 : decode cX5_cellsThere 15 = .ok (.getfield 17, 3) := by decide +kernel
theorem dX5_cellsThere_18 : decode cX5_cellsThere 18 = .ok (.bipush 114, 2) := by decide +kernel
theorem dX5_cellsThere_20 : decode cX5_cellsThere 20 = .ok (.iload_n 2, 1) := by decide +kernel
theorem dX5_cellsThere_21 : decode cX5_cellsThere 21 = .ok (.iadd, 1) := by decide +kernel
theorem dX5_cellsThere_22 : decode cX5_cellsThere 22 = .ok (.iaload, 1) := by decide +kernel
theorem dX5_cellsThere_23 : decode cX5_cellsThere 23 = .ok (.isub, 1) := by decide +kernel
theorem dX5_cellsThere_24 : decode cX5_cellsThere 24 = .ok (.iadd, 1) := by decide +kernel
theorem dX5_cellsThere_25 : decode cX5_cellsThere 25 = .ok (.istore_n 1, 1) := by decide +kernel
theorem dX5_cellsThere_26 : decode cX5_cellsThere 26 = .ok (.iinc 2 1, 3) := by decide +kernel
theorem dX5_cellsThere_29 : decode cX5_cellsThere 29 = .ok (.goto (-25), 3) := by decide +kernel
theorem dX5_cellsThere_32 : decode cX5_cellsThere 32 = .ok (.iload_n 1, 1) := by decide +kernel
theorem dX5_cellsThere_33 : decode cX5_cellsThere 33 = .ok (.ireturn, 1) := by decide +kernel
theorem dX5_usable_0 : decode cX5_usable 0 = .ok (.iconst 0, 1) := by decide +kernel
theorem dX5_usable_1 : decode cX5_usable 1 = .ok (.istore_n 1, 1) := by decide +kernel
theorem dX5_usable_2 : decode cX5_usable 2 = .ok (.iconst 0, 1) := by decide +kernel
theorem dX5_usable_3 : decode cX5_usable 3 = .ok (.istore_n 2, 1) := by decide +kernel
theorem dX5_usable_4 : decode cX5_usable 4 = .ok (.iload_n 2, 1) := by decide +kernel
theorem dX5_usable_5 : decode cX5_usable 5 = .ok (.iconst 2, 1) := by decide +kernel
theorem dX5_usable_6 : decode cX5_usable 6 = .ok (.if_icmp .ge 42, 3) := by decide +kernel
theorem dX5_usable_9 : decode cX5_usable 9 = .ok (.iconst 0, 1) := by decide +kernel
theorem dX5_usable_10 : decode cX5_usable 10 = .ok (.istore_n 3, 1) := by decide +kernel
theorem dX5_usable_11 : decode cX5_usable 11 = .ok (.iload_n 3, 1) := by decide +kernel
theorem dX5_usable_12 : decode cX5_usable 12 = .ok (.aload_n 0, 1) := by decide +kernel
theorem dX5_usable_13 : decode cX5_usable 13 = .ok (.invokevirtual 172, 3) := by decide +kernel
theorem dX5_usable_16 : decode cX5_usable 16 = .ok (.if_icmp .ge 26, 3) := by decide +kernel
theorem dX5_usable_19 : decode cX5_usable 19 = .ok (.iload_n 1, 1) := by decide +kernel
theorem dX5_usable_20 : decode cX5_usable 20 = .ok (.aload_n 0, 1) := by decide +kernel
theorem dX5_usable_21 : decode cX5_usable 21 = .ok (.iload_n 2, 1) := by decide +kernel
theorem dX5_usable_22 : decode cX5_usable 22 = .ok (.iload_n 3, 1) := by decide +kernel
theorem dX5_usable_23 : decode cX5_usable 23 = .ok (.invokevirtual 191, 3) := by decide +kernel
theorem dX5_usable_26 : decode cX5_usable 26 = .ok (.ifCond .eq 7, 3) := by decide +kernel
theorem dX5_usable_29 : decode cX5_usable 29 = .ok (.iconst 1, 1) := by decide +kernel
theorem dX5_usable_30 : decode cX5_usable 30 = .ok (.goto 4, 3) := by decide +kernel
theorem dX5_usable_33 : decode cX5_usable 33 = .ok (.iconst 0, 1) := by decide +kernel
theorem dX5_usable_34 : decode cX5_usable 34 = .ok (.iadd, 1) := by decide +kernel
theorem dX5_usable_35 : decode cX5_usable 35 = .ok (.istore_n 1, 1) := by decide +kernel
theorem dX5_usable_36 : decode cX5_usable 36 = .ok (.iinc 3 1, 3) := by decide +kernel
theorem dX5_usable_39 : decode cX5_usable 39 = .ok (.goto (-28), 3) := by decide +kernel
theorem dX5_usable_42 : decode cX5_usable 42 = .ok (.iinc 2 1, 3) := by decide +kernel
theorem dX5_usable_45 : decode cX5_usable 45 = .ok (.goto (-41), 3) := by decide +kernel
theorem dX5_usable_48 : decode cX5_usable 48 = .ok (.iload_n 1, 1) := by decide +kernel
theorem dX5_usable_49 : decode cX5_usable 49 = .ok (.ireturn, 1) := by decide +kernel
theorem dX5_told_0 : decode cX5_told 0 = .ok (.iload_n 1, 1) := by decide +kernel
theorem dX5_told_1 : decode cX5_told 1 = .ok (.tableswitch 54 3 7 #[35, 40, 40, 40, 49], 35) := by decide +kernel
theorem dX5_told_36 : decode cX5_told 36 = .ok (.aload_n 0, 1) := by decide +kernel
theorem dX5_told_37 : decode cX5_told 37 = .ok (.invokevirtual 257, 3) := by decide +kernel
theorem dX5_told_40 : decode cX5_told 40 = .ok (.ireturn, 1) := by decide +kernel
theorem dX5_told_41 : decode cX5_told 41 = .ok (.aload_n 0, 1) := by decide +kernel
theorem dX5_told_42 : decode cX5_told 42 = .ok (.getfield 17, 3) := by decide +kernel
theorem dX5_told_45 : decode cX5_told 45 = .ok (.iload_n 1, 1) := by decide +kernel
theorem dX5_told_46 : decode cX5_told 46 = .ok (.iconst 1, 1) := by decide +kernel
theorem dX5_told_47 : decode cX5_told 47 = .ok (.isub, 1) := by decide +kernel
theorem dX5_told_48 : decode cX5_told 48 = .ok (.iaload, 1) := by decide +kernel
theorem dX5_told_49 : decode cX5_told 49 = .ok (.ireturn, 1) := by decide +kernel
theorem dX5_told_50 : decode cX5_told 50 = .ok (.aload_n 0, 1) := by decide +kernel
theorem dX5_told_51 : decode cX5_told 51 = .ok (.invokevirtual 260, 3) := by decide +kernel
theorem dX5_told_54 : decode cX5_told 54 = .ok (.ireturn, 1) := by decide +kernel
theorem dX5_told_55 : decode cX5_told 55 = .ok (.aload_n 0, 1) := by decide +kernel
theorem dX5_told_56 : decode cX5_told 56 = .ok (.getfield 17, 3) := by decide +kernel
theorem dX5_told_59 : decode cX5_told 59 = .ok (.iload_n 1, 1) := by decide +kernel
theorem dX5_told_60 : decode cX5_told 60 = .ok (.iaload, 1) := by decide +kernel
theorem dX5_told_61 : decode cX5_told 61 = .ok (.ireturn, 1) := by decide +kernel
theorem dX5_state_0 : decode cX5_state 0 = .ok (.aload_n 0, 1) := by decide +kernel
theorem dX5_state_1 : decode cX5_state 1 = .ok (.iconst 0, 1) := by decide +kernel
theorem dX5_state_2 : decode cX5_state 2 = .ok (.putfield 64, 3) := by decide +kernel
theorem dX5_state_5 : decode cX5_state 5 = .ok (.aload_n 0, 1) := by decide +kernel
theorem dX5_state_6 : decode cX5_state 6 = .ok (.iload_n 1, 1) := by decide +kernel
theorem dX5_state_7 : decode cX5_state 7 = .ok (.iconst 0, 1) := by decide +kernel
theorem dX5_state_8 : decode cX5_state 8 = .ok (.bipush 7, 2) := by decide +kernel
theorem dX5_state_10 : decode cX5_state 10 = .ok (.invokestatic 86, 3) := by decide +kernel
theorem dX5_state_13 : decode cX5_state 13 = .ok (.ifCond .ne 7, 3) := by decide +kernel
theorem dX5_state_16 : decode cX5_state 16 = .ok (.iconst 1, 1) := by decide +kernel
theorem dX5_state_17 : decode cX5_state 17 = .ok (.goto 4, 3) := by decide +kernel
theorem dX5_state_20 : decode cX5_state 20 = .ok (.iconst 0, 1) := by decide +kernel
theorem dX5_state_21 : decode cX5_state 21 = .ok (.iconst 1, 1) := by decide +kernel
theorem dX5_state_22 : decode cX5_state 22 = .ok (.invokevirtual 156, 3) := by decide +kernel
theorem dX5_state_25 : decode cX5_state 25 = .ok (.ifCond .eq 7, 3) := by decide +kernel
theorem dX5_state_28 : decode cX5_state 28 = .ok (.iconst 0, 1) := by decide +kernel
theorem dX5_state_29 : decode cX5_state 29 = .ok (.goto 8, 3) := by decide +kernel
theorem dX5_state_32 : decode cX5_state 32 = .ok (.aload_n 0, 1) := by decide +kernel
theorem dX5_state_33 : decode cX5_state 33 = .ok (.iload_n 1, 1) := by decide +kernel
theorem dX5_state_34 : decode cX5_state 34 = .ok (.invokevirtual 263, 3) := by decide +kernel
theorem dX5_state_37 : decode cX5_state 37 = .ok (.ireturn, 1) := by decide +kernel
theorem dX5_noPlace_0 : decode cX5_noPlace 0 = .ok (.aload_n 0, 1) := by decide +kernel
theorem dX5_noPlace_1 : decode cX5_noPlace 1 = .ok (.iload_n 1, 1) := by decide +kernel
theorem dX5_noPlace_2 : decode cX5_noPlace 2 = .ok (.iconst 0, 1) := by decide +kernel
theorem dX5_noPlace_3 : decode cX5_noPlace 3 = .ok (.iconst 1, 1) := by decide +kernel
theorem dX5_noPlace_4 : decode cX5_noPlace 4 = .ok (.invokestatic 86, 3) := by decide +kernel
theorem dX5_noPlace_7 : decode cX5_noPlace 7 = .ok (.ifCond .eq 17, 3) := by decide +kernel
theorem dX5_noPlace_10 : decode cX5_noPlace 10 = .ok (.iload_n 2, 1) := by decide +kernel
theorem dX5_noPlace_11 : decode cX5_noPlace 11 = .ok (.iconst 0, 1) := by decide +kernel
theorem dX5_noPlace_12 : decode cX5_noPlace 12 = .ok (.aload_n 0, 1) := by decide +kernel
theorem dX5_noPlace_13 : decode cX5_noPlace 13 = .ok (.invokevirtual 172, 3) := by decide +kernel
theorem dX5_noPlace_16 : decode cX5_noPlace 16 = .ok (.iconst 1, 1) := by decide +kernel
theorem dX5_noPlace_17 : decode cX5_noPlace 17 = .ok (.isub, 1) := by decide +kernel
theorem dX5_noPlace_18 : decode cX5_noPlace 18 = .ok (.invokestatic 86, 3) := by decide +kernel
theorem dX5_noPlace_21 : decode cX5_noPlace 21 = .ok (.ifCond .ne 7, 3) := by decide +kernel
theorem dX5_noPlace_24 : decode cX5_noPlace 24 = .ok (.iconst 1, 1) := by decide +kernel
theorem dX5_noPlace_25 : decode cX5_noPlace 25 = .ok (.goto 4, 3) := by decide +kernel
theorem dX5_noPlace_28 : decode cX5_noPlace 28 = .ok (.iconst 0, 1) := by decide +kernel
theorem dX5_noPlace_29 : decode cX5_noPlace 29 = .ok (.iconst 1, 1) := by decide +kernel
theorem dX5_noPlace_30 : decode cX5_noPlace 30 = .ok (.invokevirtual 156, 3) := by decide +kernel
theorem dX5_noPlace_33 : decode cX5_noPlace 33 = .ok (.ireturn, 1) := by decide +kernel
theorem dX5_toldLetter_0 : decode cX5_toldLetter 0 = .ok (.aload_n 0, 1) := by decide +kernel
theorem dX5_toldLetter_1 : decode cX5_toldLetter 1 = .ok (.iload_n 1, 1) := by decide +kernel
theorem dX5_toldLetter_2 : decode cX5_toldLetter 2 = .ok (.iload_n 2, 1) := by decide +kernel
theorem dX5_toldLetter_3 : decode cX5_toldLetter 3 = .ok (.invokevirtual 184, 3) := by decide +kernel
theorem dX5_toldLetter_6 : decode cX5_toldLetter 6 = .ok (.ifCond .eq 8, 3) := by decide +kernel
theorem dX5_toldLetter_9 : decode cX5_toldLetter 9 = .ok (.bipush (-2), 2) := by decide +kernel
theorem dX5_toldLetter_11 : decode cX5_toldLetter 11 = .ok (.goto 9, 3) := by decide +kernel
theorem dX5_toldLetter_14 : decode cX5_toldLetter 14 = .ok (.aload_n 0, 1) := by decide +kernel
theorem dX5_toldLetter_15 : decode cX5_toldLetter 15 = .ok (.iload_n 1, 1) := by decide +kernel
theorem dX5_toldLetter_16 : decode cX5_toldLetter 16 = .ok (.iload_n 2, 1) := by decide +kernel
theorem dX5_toldLetter_17 : decode cX5_toldLetter 17 = .ok (.invokevirtual 181, 3) := by decide +kernel
theorem dX5_toldLetter_20 : decode cX5_toldLetter 20 = .ok (.ireturn, 1) := by decide +kernel
theorem dX5_letter_0 : decode cX5_letter 0 = .ok (.aload_n 0, 1) := by decide +kernel
theorem dX5_letter_1 : decode cX5_letter 1 = .ok (.iconst 0, 1) := by decide +kernel
theorem dX5_letter_2 : decode cX5_letter 2 = .ok (.putfield 64, 3) := by decide +kernel
theorem dX5_letter_5 : decode cX5_letter 5 = .ok (.aload_n 0, 1) := by decide +kernel
theorem dX5_letter_6 : decode cX5_letter 6 = .ok (.iload_n 1, 1) := by decide +kernel
theorem dX5_letter_7 : decode cX5_letter 7 = .ok (.iload_n 2, 1) := by decide +kernel
theorem dX5_letter_8 : decode cX5_letter 8 = .ok (.invokevirtual 266, 3) := by decide +kernel
theorem dX5_letter_11 : decode cX5_letter 11 = .ok (.ifCond .eq 7, 3) := by decide +kernel
theorem dX5_letter_14 : decode cX5_letter 14 = .ok (.iconst 0, 1) := by decide +kernel
theorem dX5_letter_15 : decode cX5_letter 15 = .ok (.goto 9, 3) := by decide +kernel
theorem dX5_letter_18 : decode cX5_letter 18 = .ok (.aload_n 0, 1) := by decide +kernel
theorem dX5_letter_19 : decode cX5_letter 19 = .ok (.iload_n 1, 1) := by decide +kernel
theorem dX5_letter_20 : decode cX5_letter 20 = .ok (.iload_n 2, 1) := by decide +kernel
theorem dX5_letter_21 : decode cX5_letter 21 = .ok (.invokevirtual 269, 3) := by decide +kernel
theorem dX5_letter_24 : decode cX5_letter 24 = .ok (.ireturn, 1) := by decide +kernel
theorem dX5_toldPlace_0 : decode cX5_toldPlace 0 = .ok (.iload_n 3, 1) := by decide +kernel
theorem dX5_toldPlace_1 : decode cX5_toldPlace 1 = .ok (.tableswitch 66 0 3 #[31, 38, 45, 51], 31) := by decide +kernel
theorem dX5_toldPlace_32 : decode cX5_toldPlace 32 = .ok (.aload_n 0, 1) := by decide +kernel
theorem dX5_toldPlace_33 : decode cX5_toldPlace 33 = .ok (.iload_n 1, 1) := by decide +kernel
theorem dX5_toldPlace_34 : decode cX5_toldPlace 34 = .ok (.iload_n 2, 1) := by decide +kernel
theorem dX5_toldPlace_35 : decode cX5_toldPlace 35 = .ok (.invokevirtual 178, 3) := by decide +kernel
theorem dX5_toldPlace_38 : decode cX5_toldPlace 38 = .ok (.ireturn, 1) := by decide +kernel
theorem dX5_toldPlace_39 : decode cX5_toldPlace 39 = .ok (.aload_n 0, 1) := by decide +kernel
theorem dX5_toldPlace_40 : decode cX5_toldPlace 40 = .ok (.iload_n 1, 1) := by decide +kernel
theorem dX5_toldPlace_41 : decode cX5_toldPlace 41 = .ok (.iload_n 2, 1) := by decide +kernel
theorem dX5_toldPlace_42 : decode cX5_toldPlace 42 = .ok (.invokevirtual 188, 3) := by decide +kernel
theorem dX5_toldPlace_45 : decode cX5_toldPlace 45 = .ok (.ireturn, 1) := by decide +kernel
theorem dX5_toldPlace_46 : decode cX5_toldPlace 46 = .ok (.aload_n 0, 1) := by decide +kernel
theorem dX5_toldPlace_47 : decode cX5_toldPlace 47 = .ok (.iload_n 2, 1) := by decide +kernel
theorem dX5_toldPlace_48 : decode cX5_toldPlace 48 = .ok (.invokevirtual 175, 3) := by decide +kernel
theorem dX5_toldPlace_51 : decode cX5_toldPlace 51 = .ok (.ireturn, 1) := by decide +kernel
theorem dX5_toldPlace_52 : decode cX5_toldPlace 52 = .ok (.aload_n 0, 1) := by decide +kernel
theorem dX5_toldPlace_53 : decode cX5_toldPlace 53 = .ok (.iload_n 1, 1) := by decide +kernel
theorem dX5_toldPlace_54 : decode cX5_toldPlace 54 = .ok (.iload_n 2, 1) := by decide +kernel
theorem dX5_toldPlace_55 : decode cX5_toldPlace 55 = .ok (.invokevirtual 191, 3) := by decide +kernel
theorem dX5_toldPlace_58 : decode cX5_toldPlace 58 = .ok (.ifCond .eq 7, 3) := by decide +kernel
theorem dX5_toldPlace_61 : decode cX5_toldPlace 61 = .ok (.iconst 1, 1) := by decide +kernel
theorem dX5_toldPlace_62 : decode cX5_toldPlace 62 = .ok (.goto 4, 3) := by decide +kernel
theorem dX5_toldPlace_65 : decode cX5_toldPlace 65 = .ok (.iconst 0, 1) := by decide +kernel
theorem dX5_toldPlace_66 : decode cX5_toldPlace 66 = .ok (.ireturn, 1) := by decide +kernel
theorem dX5_toldPlace_67 : decode cX5_toldPlace 67 = .ok (.aload_n 0, 1) := by decide +kernel
theorem dX5_toldPlace_68 : decode cX5_toldPlace 68 = .ok (.iload_n 1, 1) := by decide +kernel
theorem dX5_toldPlace_69 : decode cX5_toldPlace 69 = .ok (.iload_n 2, 1) := by decide +kernel
theorem dX5_toldPlace_70 : decode cX5_toldPlace 70 = .ok (.invokevirtual 181, 3) := by decide +kernel
theorem dX5_toldPlace_73 : decode cX5_toldPlace 73 = .ok (.iconst (-1), 1) := by decide +kernel
theorem dX5_toldPlace_74 : decode cX5_toldPlace 74 = .ok (.if_icmp .ne 7, 3) := by decide +kernel
theorem dX5_toldPlace_77 : decode cX5_toldPlace 77 = .ok (.iconst 0, 1) := by decide +kernel
theorem dX5_toldPlace_78 : decode cX5_toldPlace 78 = .ok (.goto 13, 3) := by decide +kernel
theorem dX5_toldPlace_81 : decode cX5_toldPlace 81 = .ok (.aload_n 0, 1) := by decide +kernel
theorem dX5_toldPlace_82 : decode cX5_toldPlace 82 = .ok (.aload_n 0, 1) := by decide +kernel
theorem dX5_toldPlace_83 : decode cX5_toldPlace 83 = .ok (.iload_n 1, 1) := by decide +kernel
theorem dX5_toldPlace_84 : decode cX5_toldPlace 84 = .ok (.iload_n 2, 1) := by decide +kernel
theorem dX5_toldPlace_85 : decode cX5_toldPlace 85 = .ok (.invokevirtual 181, 3) := by decide +kernel
theorem dX5_toldPlace_88 : decode cX5_toldPlace 88 = .ok (.invokevirtual 272, 3) := by decide +kernel
theorem dX5_toldPlace_91 : decode cX5_toldPlace 91 = .ok (.ireturn, 1) := by decide +kernel
theorem dX5_place_0 : decode cX5_place 0 = .ok (.aload_n 0, 1) := by decide +kernel
theorem dX5_place_1 : decode cX5_place 1 = .ok (.iconst 0, 1) := by decide +kernel
theorem dX5_place_2 : decode cX5_place 2 = .ok (.putfield 64, 3) := by decide +kernel
theorem dX5_place_5 : decode cX5_place 5 = .ok (.aload_n 0, 1) := by decide +kernel
theorem dX5_place_6 : decode cX5_place 6 = .ok (.iload_n 1, 1) := by decide +kernel
theorem dX5_place_7 : decode cX5_place 7 = .ok (.iload_n 2, 1) := by decide +kernel
theorem dX5_place_8 : decode cX5_place 8 = .ok (.invokevirtual 266, 3) := by decide +kernel
theorem dX5_place_11 : decode cX5_place 11 = .ok (.ifCond .ne 25, 3) := by decide +kernel
theorem dX5_place_14 : decode cX5_place 14 = .ok (.aload_n 0, 1) := by decide +kernel
theorem dX5_place_15 : decode cX5_place 15 = .ok (.iload_n 3, 1) := by decide +kernel
theorem dX5_place_16 : decode cX5_place 16 = .ok (.iconst 0, 1) := by decide +kernel
theorem dX5_place_17 : decode cX5_place 17 = .ok (.iconst 4, 1) := by decide +kernel
theorem dX5_place_18 : decode cX5_place 18 = .ok (.invokestatic 86, 3) := by decide +kernel
theorem dX5_place_21 : decode cX5_place 21 = .ok (.ifCond .ne 7, 3) := by decide +kernel
theorem dX5_place_24 : decode cX5_place 24 = .ok (.iconst 1, 1) := by decide +kernel
theorem dX5_place_25 : decode cX5_place 25 = .ok (.goto 4, 3) := by decide +kernel
theorem dX5_place_28 : decode cX5_place 28 = .ok (.iconst 0, 1) := by decide +kernel
theorem dX5_place_29 : decode cX5_place 29 = .ok (.iconst 2, 1) := by decide +kernel
theorem dX5_place_30 : decode cX5_place 30 = .ok (.invokevirtual 156, 3) := by decide +kernel
theorem dX5_place_33 : decode cX5_place 33 = .ok (.ifCond .eq 7, 3) := by decide +kernel
theorem dX5_place_36 : decode cX5_place 36 = .ok (.iconst 0, 1) := by decide +kernel
theorem dX5_place_37 : decode cX5_place 37 = .ok (.goto 10, 3) := by decide +kernel
theorem dX5_place_40 : decode cX5_place 40 = .ok (.aload_n 0, 1) := by decide +kernel
theorem dX5_place_41 : decode cX5_place 41 = .ok (.iload_n 1, 1) := by decide +kernel
theorem dX5_place_42 : decode cX5_place 42 = .ok (.iload_n 2, 1) := by decide +kernel
theorem dX5_place_43 : decode cX5_place 43 = .ok (.iload_n 3, 1) := by decide +kernel
theorem dX5_place_44 : decode cX5_place 44 = .ok (.invokevirtual 275, 3) := by decide +kernel
theorem dX5_place_47 : decode cX5_place 47 = .ok (.ireturn, 1) := by decide +kernel
theorem dX5_stock_0 : decode cX5_stock 0 = .ok (.aload_n 0, 1) := by decide +kernel
theorem dX5_stock_1 : decode cX5_stock 1 = .ok (.iconst 0, 1) := by decide +kernel
theorem dX5_stock_2 : decode cX5_stock 2 = .ok (.putfield 64, 3) := by decide +kernel
theorem dX5_stock_5 : decode cX5_stock 5 = .ok (.aload_n 0, 1) := by decide +kernel
theorem dX5_stock_6 : decode cX5_stock 6 = .ok (.iload_n 1, 1) := by decide +kernel
theorem dX5_stock_7 : decode cX5_stock 7 = .ok (.iconst 0, 1) := by decide +kernel
theorem dX5_stock_8 : decode cX5_stock 8 = .ok (.bipush 25, 2) := by decide +kernel
theorem dX5_stock_10 : decode cX5_stock 10 = .ok (.invokestatic 86, 3) := by decide +kernel
theorem dX5_stock_13 : decode cX5_stock 13 = .ok (.ifCond .eq 12, 3) := by decide +kernel
theorem dX5_stock_16 : decode cX5_stock 16 = .ok (.iload_n 2, 1) := by decide +kernel
theorem dX5_stock_17 : decode cX5_stock 17 = .ok (.iconst 0, 1) := by decide +kernel
theorem dX5_stock_18 : decode cX5_stock 18 = .ok (.iconst 2, 1) := by decide +kernel
theorem dX5_stock_19 : decode cX5_stock 19 = .ok (.invokestatic 86, 3) := by decide +kernel
theorem dX5_stock_22 : decode cX5_stock 22 = .ok (.ifCond .ne 7, 3) := by decide +kernel
theorem dX5_stock_25 : decode cX5_stock 25 = .ok (.iconst 1, 1) := by decide +kernel
theorem dX5_stock_26 : decode cX5_stock 26 = .ok (.goto 4, 3) := by decide +kernel
theorem dX5_stock_29 : decode cX5_stock 29 = .ok (.iconst 0, 1) := by decide +kernel
theorem dX5_stock_30 : decode cX5_stock 30 = .ok (.iconst 1, 1) := by decide +kernel
theorem dX5_stock_31 : decode cX5_stock 31 = .ok (.invokevirtual 156, 3) := by decide +kernel
theorem dX5_stock_34 : decode cX5_stock 34 = .ok (.ifCond .eq 5, 3) := by decide +kernel
theorem dX5_stock_37 : decode cX5_stock 37 = .ok (.iconst 0, 1) := by decide +kernel
theorem dX5_stock_38 : decode cX5_stock 38 = .ok (.ireturn, 1) := by decide +kernel
theorem dX5_stock_39 : decode cX5_stock 39 = .ok (.iload_n 2, 1) := by decide +kernel
theorem dX5_stock_40 : decode cX5_stock 40 = .ok (.iconst 2, 1) := by decide +kernel
theorem dX5_stock_41 : decode cX5_stock 41 = .ok (.if_icmp .ne 9, 3) := by decide +kernel
theorem dX5_stock_44 : decode cX5_stock 44 = .ok (.aload_n 0, 1) := by decide +kernel
theorem dX5_stock_45 : decode cX5_stock 45 = .ok (.iload_n 1, 1) := by decide +kernel
theorem dX5_stock_46 : decode cX5_stock 46 = .ok (.invokevirtual 272, 3) := by decide +kernel
theorem dX5_stock_49 : decode cX5_stock 49 = .ok (.ireturn, 1) := by decide +kernel
theorem dX5_stock_50 : decode cX5_stock 50 = .ok (.iconst 0, 1) := by decide +kernel
theorem dX5_stock_51 : decode cX5_stock 51 = .ok (.istore_n 3, 1) := by decide +kernel
theorem dX5_stock_52 : decode cX5_stock 52 = .ok (.iconst 0, 1) := by decide +kernel
theorem dX5_stock_53 : decode cX5_stock 53 = .ok (.istore 4, 2) := by decide +kernel
theorem dX5_stock_55 : decode cX5_stock 55 = .ok (.iload 4, 2) := by decide +kernel
theorem dX5_stock_57 : decode cX5_stock 57 = .ok (.aload_n 0, 1) := by decide +kernel
theorem dX5_stock_58 : decode cX5_stock 58 = .ok (.invokevirtual 172, 3) := by decide +kernel
theorem dX5_stock_61 : decode cX5_stock 61 = .ok (.if_icmp .ge 66, 3) := by decide +kernel
theorem dX5_stock_64 : decode cX5_stock 64 = .ok (.aload_n 0, 1) := by decide +kernel
theorem dX5_stock_65 : decode cX5_stock 65 = .ok (.iconst 0, 1) := by decide +kernel
theorem dX5_stock_66 : decode cX5_stock 66 = .ok (.iload 4, 2) := by decide +kernel
theorem dX5_stock_68 : decode cX5_stock 68 = .ok (.iload_n 1, 1) := by decide +kernel
theorem dX5_stock_69 : decode cX5_stock 69 = .ok (.invokevirtual 194, 3) := by decide +kernel
theorem dX5_stock_72 : decode cX5_stock 72 = .ok (.ifCond .eq 7, 3) := by decide +kernel
theorem dX5_stock_75 : decode cX5_stock 75 = .ok (.iconst 1, 1) := by decide +kernel
theorem dX5_stock_76 : decode cX5_stock 76 = .ok (.goto 4, 3) := by decide +kernel
theorem dX5_stock_79 : decode cX5_stock 79 = .ok (.iconst 0, 1) := by decide +kernel
theorem dX5_stock_80 : decode cX5_stock 80 = .ok (.aload_n 0, 1) := by decide +kernel
theorem dX5_stock_81 : decode cX5_stock 81 = .ok (.iconst 1, 1) := by decide +kernel
theorem dX5_stock_82 : decode cX5_stock 82 = .ok (.aload_n 0, 1) := by decide +kernel
theorem dX5_stock_83 : decode cX5_stock 83 = .ok (.iload 4, 2) := by decide +kernel
theorem dX5_stock_85 : decode cX5_stock 85 = .ok (.invokevirtual 175, 3) := by decide +kernel
theorem dX5_stock_88 : decode cX5_stock 88 = .ok (.iload_n 1, 1) := by decide +kernel
theorem dX5_stock_89 : decode cX5_stock 89 = .ok (.invokevirtual 194, 3) := by decide +kernel
theorem dX5_stock_92 : decode cX5_stock 92 = .ok (.ifCond .eq 7, 3) := by decide +kernel
theorem dX5_stock_95 : decode cX5_stock 95 = .ok (.iconst 1, 1) := by decide +kernel
theorem dX5_stock_96 : decode cX5_stock 96 = .ok (.goto 4, 3) := by decide +kernel
theorem dX5_stock_99 : decode cX5_stock 99 = .ok (.iconst 0, 1) := by decide +kernel
theorem dX5_stock_100 : decode cX5_stock 100 = .ok (.iadd, 1) := by decide +kernel
theorem dX5_stock_101 : decode cX5_stock 101 = .ok (.istore 5, 2) := by decide +kernel
theorem dX5_stock_103 : decode cX5_stock 103 = .ok (.iload_n 3, 1) := by decide +kernel
theorem dX5_stock_104 : decode cX5_stock 104 = .ok (.iload_n 2, 1) := by decide +kernel
theorem dX5_stock_105 : decode cX5_stock 105 = .ok (.ifCond .ne 8, 3) := by decide +kernel
theorem dX5_stock_108 : decode cX5_stock 108 = .ok (.iload 5, 2) := by decide +kernel
theorem dX5_stock_110 : decode cX5_stock 110 = .ok (.goto 9, 3) := by decide +kernel
theorem dX5_stock_113 : decode cX5_stock 113 = .ok (.iconst 1, 1) := by decide +kernel
theorem dX5_stock_114 : decode cX5_stock 114 = .ok (.iload 5, 2) := by decide +kernel
theorem dX5_stock_116 : decode cX5_stock 116 = .ok (.invokestatic 119, 3) := by decide +kernel
theorem dX5_stock_119 : decode cX5_stock 119 = .ok (.iadd, 1) := by decide +kernel
theorem dX5_stock_120 : decode cX5_stock 120 = .ok (.istore_n 3, 1) := by decide +kernel
theorem dX5_stock_121 : decode cX5_stock 121 = .ok (.iinc 4 1, 3) := by decide +kernel
theorem dX5_stock_124 : decode cX5_stock 124 = .ok (.goto (-69), 3) := by decide +kernel
theorem dX5_stock_127 : decode cX5_stock 127 = .ok (.iload_n 3, 1) := by decide +kernel
theorem dX5_stock_128 : decode cX5_stock 128 = .ok (.ireturn, 1) := by decide +kernel
theorem dX5_message_0 : decode cX5_message 0 = .ok (.aload_n 0, 1) := by decide +kernel
theorem dX5_message_1 : decode cX5_message 1 = .ok (.iconst 0, 1) := by decide +kernel
theorem dX5_message_2 : decode cX5_message 2 = .ok (.putfield 64, 3) := by decide +kernel
theorem dX5_message_5 : decode cX5_message 5 = .ok (.aload_n 0, 1) := by decide +kernel
theorem dX5_message_6 : decode cX5_message 6 = .ok (.iload_n 1, 1) := by decide +kernel
theorem dX5_message_7 : decode cX5_message 7 = .ok (.iconst 0, 1) := by decide +kernel
theorem dX5_message_8 : decode cX5_message 8 = .ok (.aload_n 0, 1) := by decide +kernel
theorem dX5_message_9 : decode cX5_message 9 = .ok (.getfield 17, 3) := by decide +kernel
theorem dX5_message_12 : decode cX5_message 12 = .ok (.iconst 3, 1) := by decide +kernel
theorem dX5_message_13 : decode cX5_message 13 = .ok (.iaload, 1) := by decide +kernel
theorem dX5_message_14 : decode cX5_message 14 = .ok (.iconst 1, 1) := by decide +kernel
theorem dX5_message_15 : decode cX5_message 15 = .ok (.isub, 1) := by decide +kernel
theorem dX5_message_16 : decode cX5_message 16 = .ok (.invokestatic 86, 3) := by decide +kernel
theorem dX5_message_19 : decode cX5_message 19 = .ok (.ifCond .ne 7, 3) := by decide +kernel
theorem dX5_message_22 : decode cX5_message 22 = .ok (.iconst 1, 1) := by decide +kernel
theorem dX5_message_23 : decode cX5_message 23 = .ok (.goto 4, 3) := by decide +kernel
theorem dX5_message_26 : decode cX5_message 26 = .ok (.iconst 0, 1) := by decide +kernel
theorem dX5_message_27 : decode cX5_message 27 = .ok (.iconst 1, 1) := by decide +kernel
theorem dX5_message_28 : decode cX5_message 28 = .ok (.invokevirtual 156, 3) := by decide +kernel
theorem dX5_message_31 : decode cX5_message 31 = .ok (.ifCond .eq 7, 3) := by decide +kernel
theorem dX5_message_34 : decode cX5_message 34 = .ok (.iconst 0, 1) := by decide +kernel
theorem dX5_message_35 : decode cX5_message 35 = .ok (.goto 13, 3) := by decide +kernel
theorem dX5_message_38 : decode cX5_message 38 = .ok (.aload_n 0, 1) := by decide +kernel
theorem dX5_message_39 : decode cX5_message 39 = .ok (.getfield 17, 3) := by decide +kernel
theorem dX5_message_42 : decode cX5_message 42 = .ok (.sipush 162, 3) := by decide +kernel
theorem dX5_message_45 : decode cX5_message 45 = .ok (.iload_n 1, 1) := by decide +kernel
theorem dX5_message_46 : decode cX5_message 46 = .ok (.iadd, 1) := by decide +kernel
theorem dX5_message_47 : decode cX5_message 47 = .ok (.iaload, 1) := by decide +kernel
theorem dX5_message_48 : decode cX5_message 48 = .ok (.ireturn, 1) := by decide +kernel
theorem dX5_missing_0 : decode cX5_missing 0 = .ok (.aload_n 0, 1) := by decide +kernel
theorem dX5_missing_1 : decode cX5_missing 1 = .ok (.iconst 0, 1) := by decide +kernel
theorem dX5_missing_2 : decode cX5_missing 2 = .ok (.putfield 64, 3) := by decide +kernel
theorem dX5_missing_5 : decode cX5_missing 5 = .ok (.aload_n 0, 1) := by decide +kernel
theorem dX5_missing_6 : decode cX5_missing 6 = .ok (.invokevirtual 241, 3) := by decide +kernel
theorem dX5_missing_9 : decode cX5_missing 9 = .ok (.ireturn, 1) := by decide +kernel
theorem dX5_fewest_0 : decode cX5_fewest 0 = .ok (.aload_n 0, 1) := by decide +kernel
theorem dX5_fewest_1 : decode cX5_fewest 1 = .ok (.iconst 0, 1) := by decide +kernel
theorem dX5_fewest_2 : decode cX5_fewest 2 = .ok (.putfield 64, 3) := by decide +kernel
theorem dX5_fewest_5 : decode cX5_fewest 5 = .ok (.aload_n 0, 1) := by decide +kernel
theorem dX5_fewest_6 : decode cX5_fewest 6 = .ok (.invokevirtual 279, 3) := by decide +kernel
theorem dX5_fewest_9 : decode cX5_fewest 9 = .ok (.ireturn, 1) := by decide +kernel
theorem dX5_toldCut_0 : decode cX5_toldCut 0 = .ok (.iload_n 2, 1) := by decide +kernel
theorem dX5_toldCut_1 : decode cX5_toldCut 1 = .ok (.ifCond .ne 12, 3) := by decide +kernel
theorem dX5_toldCut_4 : decode cX5_toldCut 4 = .ok (.aload_n 0, 1) := by decide +kernel
theorem dX5_toldCut_5 : decode cX5_toldCut 5 = .ok (.getfield 41, 3) := by decide +kernel
theorem dX5_toldCut_8 : decode cX5_toldCut 8 = .ok (.iload_n 1, 1) := by decide +kernel
theorem dX5_toldCut_9 : decode cX5_toldCut 9 = .ok (.iaload, 1) := by decide +kernel
theorem dX5_toldCut_10 : decode cX5_toldCut 10 = .ok (.goto 54, 3) := by decide +kernel
theorem dX5_toldCut_13 : decode cX5_toldCut 13 = .ok (.iload_n 2, 1) := by decide +kernel
theorem dX5_toldCut_14 : decode cX5_toldCut 14 = .ok (.iconst 1, 1) := by decide +kernel
theorem dX5_toldCut_15 : decode cX5_toldCut 15 = .ok (.if_icmp .ne 12, 3) := by decide +kernel
theorem dX5_toldCut_18 : decode cX5_toldCut 18 = .ok (.aload_n 0, 1) := by decide +kernel
theorem dX5_toldCut_19 : decode cX5_toldCut 19 = .ok (.getfield 44, 3) := by decide +kernel
theorem dX5_toldCut_22 : decode cX5_toldCut 22 = .ok (.iload_n 1, 1) := by decide +kernel
theorem dX5_toldCut_23 : decode cX5_toldCut 23 = .ok (.iaload, 1) := by decide +kernel
theorem dX5_toldCut_24 : decode cX5_toldCut 24 = .ok (.goto 40, 3) := by decide +kernel
theorem dX5_toldCut_27 : decode cX5_toldCut 27 = .ok (.iload_n 2, 1) := by decide +kernel
theorem dX5_toldCut_28 : decode cX5_toldCut 28 = .ok (.iconst 2, 1) := by decide +kernel
theorem dX5_toldCut_29 : decode cX5_toldCut 29 = .ok (.if_icmp .ne 12, 3) := by decide +kernel
theorem dX5_toldCut_32 : decode cX5_toldCut 32 = .ok (.aload_n 0, 1) := by decide +kernel
theorem dX5_toldCut_33 : decode cX5_toldCut 33 = .ok (.getfield 47, 3) := by decide +kernel
theorem dX5_toldCut_36 : decode cX5_toldCut 36 = .ok (.iload_n 1, 1) := by decide +kernel
theorem dX5_toldCut_37 : decode cX5_toldCut 37 = .ok (.iaload, 1) := by decide +kernel
theorem dX5_toldCut_38 : decode cX5_toldCut 38 = .ok (.goto 26, 3) := by decide +kernel
theorem dX5_toldCut_41 : decode cX5_toldCut 41 = .ok (.aload_n 0, 1) := by decide +kernel
theorem dX5_toldCut_42 : decode cX5_toldCut 42 = .ok (.getfield 41, 3) := by decide +kernel
theorem dX5_toldCut_45 : decode cX5_toldCut 45 = .ok (.iload_n 1, 1) := by decide +kernel
theorem dX5_toldCut_46 : decode cX5_toldCut 46 = .ok (.iaload, 1) := by decide +kernel
theorem dX5_toldCut_47 : decode cX5_toldCut 47 = .ok (.aload_n 0, 1) := by decide +kernel
theorem dX5_toldCut_48 : decode cX5_toldCut 48 = .ok (.aload_n 0, 1) := by decide +kernel
theorem dX5_toldCut_49 : decode cX5_toldCut 49 = .ok (.getfield 44, 3) := by decide +kernel
theorem dX5_toldCut_52 : decode cX5_toldCut 52 = .ok (.iload_n 1, 1) := by decide +kernel
theorem dX5_toldCut_53 : decode cX5_toldCut 53 = .ok (.iaload, 1) := by decide +kernel
theorem dX5_toldCut_54 : decode cX5_toldCut 54 = .ok (.aload_n 0, 1) := by decide +kernel
theorem dX5_toldCut_55 : decode cX5_toldCut 55 = .ok (.getfield 47, 3) := by decide +kernel
theorem dX5_toldCut_58 : decode cX5_toldCut 58 = .ok (.iload_n 1, 1) := by decide +kernel
theorem dX5_toldCut_59 : decode cX5_toldCut 59 = .ok (.iaload, 1) := by decide +kernel
theorem dX5_toldCut_60 : decode cX5_toldCut 60 = .ok (.invokevirtual 188, 3) := by decide +kernel
theorem dX5_toldCut_63 : decode cX5_toldCut 63 = .ok (.imul, 1) := by decide +kernel
theorem dX5_toldCut_64 : decode cX5_toldCut 64 = .ok (.ireturn, 1) := by decide +kernel
theorem dX5_cutOf_0 : decode cX5_cutOf 0 = .ok (.aload_n 0, 1) := by decide +kernel
theorem dX5_cutOf_1 : decode cX5_cutOf 1 = .ok (.iconst 0, 1) := by decide +kernel
theorem dX5_cutOf_2 : decode cX5_cutOf 2 = .ok (.putfield 64, 3) := by decide +kernel
theorem dX5_cutOf_5 : decode cX5_cutOf 5 = .ok (.aload_n 0, 1) := by decide +kernel
theorem dX5_cutOf_6 : decode cX5_cutOf 6 = .ok (.invokevirtual 279, 3) := by decide +kernel
theorem dX5_cutOf_9 : decode cX5_cutOf 9 = .ok (.istore_n 3, 1) := by decide +kernel
theorem dX5_cutOf_10 : decode cX5_cutOf 10 = .ok (.aload_n 0, 1) := by decide +kernel
theorem dX5_cutOf_11 : decode cX5_cutOf 11 = .ok (.iload_n 1, 1) := by decide +kernel
theorem dX5_cutOf_12 : decode cX5_cutOf 12 = .ok (.iconst 0, 1) := by decide +kernel
theorem dX5_cutOf_13 : decode cX5_cutOf 13 = .ok (.iload_n 3, 1) := by decide +kernel
theorem dX5_cutOf_14 : decode cX5_cutOf 14 = .ok (.iconst 1, 1) := by decide +kernel
theorem dX5_cutOf_15 : decode cX5_cutOf 15 = .ok (.isub, 1) := by decide +kernel
theorem dX5_cutOf_16 : decode cX5_cutOf 16 = .ok (.invokestatic 86, 3) := by decide +kernel
theorem dX5_cutOf_19 : decode cX5_cutOf 19 = .ok (.ifCond .ne 7, 3) := by decide +kernel
theorem dX5_cutOf_22 : decode cX5_cutOf 22 = .ok (.iconst 1, 1) := by decide +kernel
theorem dX5_cutOf_23 : decode cX5_cutOf 23 = .ok (.goto 4, 3) := by decide +kernel
theorem dX5_cutOf_26 : decode cX5_cutOf 26 = .ok (.iconst 0, 1) := by decide +kernel
theorem dX5_cutOf_27 : decode cX5_cutOf 27 = .ok (.iconst 1, 1) := by decide +kernel
theorem dX5_cutOf_28 : decode cX5_cutOf 28 = .ok (.invokevirtual 156, 3) := by decide +kernel
theorem dX5_cutOf_31 : decode cX5_cutOf 31 = .ok (.ifCond .ne 25, 3) := by decide +kernel
theorem dX5_cutOf_34 : decode cX5_cutOf 34 = .ok (.aload_n 0, 1) := by decide +kernel
theorem dX5_cutOf_35 : decode cX5_cutOf 35 = .ok (.iload_n 2, 1) := by decide +kernel
theorem dX5_cutOf_36 : decode cX5_cutOf 36 = .ok (.iconst 0, 1) := by decide +kernel
theorem dX5_cutOf_37 : decode cX5_cutOf 37 = .ok (.iconst 3, 1) := by decide +kernel
theorem dX5_cutOf_38 : decode cX5_cutOf 38 = .ok (.invokestatic 86, 3) := by decide +kernel
theorem dX5_cutOf_41 : decode cX5_cutOf 41 = .ok (.ifCond .ne 7, 3) := by decide +kernel
theorem dX5_cutOf_44 : decode cX5_cutOf 44 = .ok (.iconst 1, 1) := by decide +kernel
theorem dX5_cutOf_45 : decode cX5_cutOf 45 = .ok (.goto 4, 3) := by decide +kernel
theorem dX5_cutOf_48 : decode cX5_cutOf 48 = .ok (.iconst 0, 1) := by decide +kernel
theorem dX5_cutOf_49 : decode cX5_cutOf 49 = .ok (.iconst 2, 1) := by decide +kernel
theorem dX5_cutOf_50 : decode cX5_cutOf 50 = .ok (.invokevirtual 156, 3) := by decide +kernel
theorem dX5_cutOf_53 : decode cX5_cutOf 53 = .ok (.ifCond .eq 7, 3) := by decide +kernel
theorem dX5_cutOf_56 : decode cX5_cutOf 56 = .ok (.iconst 0, 1) := by decide +kernel
theorem dX5_cutOf_57 : decode cX5_cutOf 57 = .ok (.goto 9, 3) := by decide +kernel
theorem dX5_cutOf_60 : decode cX5_cutOf 60 = .ok (.aload_n 0, 1) := by decide +kernel
theorem dX5_cutOf_61 : decode cX5_cutOf 61 = .ok (.iload_n 1, 1) := by decide +kernel
theorem dX5_cutOf_62 : decode cX5_cutOf 62 = .ok (.iload_n 2, 1) := by decide +kernel
theorem dX5_cutOf_63 : decode cX5_cutOf 63 = .ok (.invokevirtual 282, 3) := by decide +kernel
theorem dX5_cutOf_66 : decode cX5_cutOf 66 = .ok (.ireturn, 1) := by decide +kernel
theorem dX5_unevenness_0 : decode cX5_unevenness 0 = .ok (.aload_n 0, 1) := by decide +kernel
theorem dX5_unevenness_1 : decode cX5_unevenness 1 = .ok (.iconst 0, 1) := by decide +kernel
theorem dX5_unevenness_2 : decode cX5_unevenness 2 = .ok (.putfield 64, 3) := by decide +kernel
theorem dX5_unevenness_5 : decode cX5_unevenness 5 = .ok (.aload_n 0, 1) := by decide +kernel
theorem dX5_unevenness_6 : decode cX5_unevenness 6 = .ok (.invokevirtual 279, 3) := by decide +kernel
theorem dX5_unevenness_9 : decode cX5_unevenness 9 = .ok (.ifCond .ge 5, 3) := by decide +kernel
theorem dX5_unevenness_12 : decode cX5_unevenness 12 = .ok (.iconst (-1), 1) := by decide +kernel
theorem dX5_unevenness_13 : decode cX5_unevenness 13 = .ok (.ireturn, 1) := by decide +kernel
theorem dX5_unevenness_14 : decode cX5_unevenness 14 = .ok (.aload_n 0, 1) := by decide +kernel
theorem dX5_unevenness_15 : decode cX5_unevenness 15 = .ok (.invokevirtual 285, 3) := by decide +kernel
theorem dX5_unevenness_18 : decode cX5_unevenness 18 = .ok (.iconst 0, 1) := by decide +kernel
theorem dX5_unevenness_19 : decode cX5_unevenness 19 = .ok (.istore_n 1, 1) := by decide +kernel
theorem dX5_unevenness_20 : decode cX5_unevenness 20 = .ok (.iconst 1, 1) := by decide +kernel
theorem dX5_unevenness_21 : decode cX5_unevenness 21 = .ok (.istore_n 2, 1) := by decide +kernel
theorem dX5_unevenness_22 : decode cX5_unevenness 22 = .ok (.iload_n 2, 1) := by decide +kernel
theorem dX5_unevenness_23 : decode cX5_unevenness 23 = .ok (.aload_n 0, 1) := by decide +kernel
theorem dX5_unevenness_24 : decode cX5_unevenness 24 = .ok (.getfield 17, 3) := by decide +kernel
theorem dX5_unevenness_27 : decode cX5_unevenness 27 = .ok (.iconst 3, 1) := by decide +kernel
theorem dX5_unevenness_28 : decode cX5_unevenness 28 = .ok (.iaload, 1) := by decide +kernel
theorem dX5_unevenness_29 : decode cX5_unevenness 29 = .ok (.if_icmp .ge 30, 3) := by decide +kernel
theorem dX5_unevenness_32 : decode cX5_unevenness 32 = .ok (.iload_n 1, 1) := by decide +kernel
theorem dX5_unevenness_33 : decode cX5_unevenness 33 = .ok (.aload_n 0, 1) := by decide +kernel
theorem dX5_unevenness_34 : decode cX5_unevenness 34 = .ok (.getfield 57, 3) := by decide +kernel
theorem dX5_unevenness_37 : decode cX5_unevenness 37 = .ok (.iload_n 2, 1) := by decide +kernel
theorem dX5_unevenness_38 : decode cX5_unevenness 38 = .ok (.iaload, 1) := by decide +kernel
theorem dX5_unevenness_39 : decode cX5_unevenness 39 = .ok (.aload_n 0, 1) := by decide +kernel
theorem dX5_unevenness_40 : decode cX5_unevenness 40 = .ok (.getfield 57, 3) := by decide +kernel
theorem dX5_unevenness_43 : decode cX5_unevenness 43 = .ok (.iload_n 2, 1) := by decide +kernel
theorem dX5_unevenness_44 : decode cX5_unevenness 44 = .ok (.iconst 1, 1) := by decide +kernel
theorem dX5_unevenness_45 : decode cX5_unevenness 45 = .ok (.isub, 1) := by decide +kernel
theorem dX5_unevenness_46 : decode cX5_unevenness 46 = .ok (.iaload, 1) := by decide +kernel
theorem dX5_unevenness_47 : decode cX5_unevenness 47 = .ok (.isub, 1) := by decide +kernel
theorem dX5_unevenness_48 : decode cX5_unevenness 48 = .ok (.invokestatic 288, 3) := by decide +kernel
theorem dX5_unevenness_51 : decode cX5_unevenness 51 = .ok (.iadd, 1) := by decide +kernel
theorem dX5_unevenness_52 : decode cX5_unevenness 52 = .ok (.istore_n 1, 1) := by decide +kernel
theorem dX5_unevenness_53 : decode cX5_unevenness 53 = .ok (.iinc 2 1, 3) := by decide +kernel
theorem dX5_unevenness_56 : decode cX5_unevenness 56 = .ok (.goto (-34), 3) := by decide +kernel
theorem dX5_unevenness_59 : decode cX5_unevenness 59 = .ok (.iload_n 1, 1) := by decide +kernel
theorem dX5_unevenness_60 : decode cX5_unevenness 60 = .ok (.ireturn, 1) := by decide +kernel
theorem dX5_copies_0 : decode cX5_copies 0 = .ok (.aload_n 0, 1) := by decide +kernel
theorem dX5_copies_1 : decode cX5_copies 1 = .ok (.iconst 0, 1) := by decide +kernel
theorem dX5_copies_2 : decode cX5_copies 2 = .ok (.putfield 64, 3) := by decide +kernel
theorem dX5_copies_5 : decode cX5_copies 5 = .ok (.iconst 0, 1) := by decide +kernel
theorem dX5_copies_6 : decode cX5_copies 6 = .ok (.istore_n 1, 1) := by decide +kernel
theorem dX5_copies_7 : decode cX5_copies 7 = .ok (.aload_n 0, 1) := by decide +kernel
theorem dX5_copies_8 : decode cX5_copies 8 = .ok (.getfield 17, 3) := by decide +kernel
theorem dX5_copies_11 : decode cX5_copies 11 = .ok (.aload_n 0, 1) := by decide +kernel
theorem dX5_copies_12 : decode cX5_copies 12 = .ok (.getfield 23, 3) := by decide +kernel
theorem dX5_copies_15 : decode cX5_copies 15 = .ok (.invokestatic 168, 3) := by decide +kernel
theorem dX5_copies_18 : decode cX5_copies 18 = .ok (.aload_n 0, 1) := by decide +kernel
theorem dX5_copies_19 : decode cX5_copies 19 = .ok (.invokevirtual 279, 3) := by decide +kernel
theorem dX5_copies_22 : decode cX5_copies 22 = .ok (.ifCond .le 13, 3) := by decide +kernel
theorem dX5_copies_25 : decode cX5_copies 25 = .ok (.aload_n 0, 1) := by decide +kernel
theorem dX5_copies_26 : decode cX5_copies 26 = .ok (.invokevirtual 293, 3) := by decide +kernel
theorem dX5_copies_29 : decode cX5_copies 29 = .ok (.iinc 1 1, 3) := by decide +kernel
theorem dX5_copies_32 : decode cX5_copies 32 = .ok (.goto (-14), 3) := by decide +kernel
theorem dX5_copies_35 : decode cX5_copies 35 = .ok (.aload_n 0, 1) := by decide +kernel
theorem dX5_copies_36 : decode cX5_copies 36 = .ok (.getfield 23, 3) := by decide +kernel
theorem dX5_copies_39 : decode cX5_copies 39 = .ok (.aload_n 0, 1) := by decide +kernel
theorem dX5_copies_40 : decode cX5_copies 40 = .ok (.getfield 17, 3) := by decide +kernel
theorem dX5_copies_43 : decode cX5_copies 43 = .ok (.invokestatic 168, 3) := by decide +kernel
theorem dX5_copies_46 : decode cX5_copies 46 = .ok (.iload_n 1, 1) := by decide +kernel
theorem dX5_copies_47 : decode cX5_copies 47 = .ok (.ireturn, 1) := by decide +kernel
theorem dX5_longest_0 : decode cX5_longest 0 = .ok (.aload_n 0, 1) := by decide +kernel
theorem dX5_longest_1 : decode cX5_longest 1 = .ok (.iconst 0, 1) := by decide +kernel
theorem dX5_longest_2 : decode cX5_longest 2 = .ok (.putfield 64, 3) := by decide +kernel
theorem dX5_longest_5 : decode cX5_longest 5 = .ok (.aload_n 0, 1) := by decide +kernel
theorem dX5_longest_6 : decode cX5_longest 6 = .ok (.iload_n 1, 1) := by decide +kernel
theorem dX5_longest_7 : decode cX5_longest 7 = .ok (.iconst 0, 1) := by decide +kernel
theorem dX5_longest_8 : decode cX5_longest 8 = .ok (.aload_n 0, 1) := by decide +kernel
theorem dX5_longest_9 : decode cX5_longest 9 = .ok (.getfield 17, 3) := by decide +kernel
theorem dX5_longest_12 : decode cX5_longest 12 = .ok (.iconst 3, 1) := by decide +kernel
theorem dX5_longest_13 : decode cX5_longest 13 = .ok (.iaload, 1) := by decide +kernel
theorem dX5_longest_14 : decode cX5_longest 14 = .ok (.iconst 1, 1) := by decide +kernel
theorem dX5_longest_15 : decode cX5_longest 15 = .ok (.isub, 1) := by decide +kernel
theorem dX5_longest_16 : decode cX5_longest 16 = .ok (.invokestatic 86, 3) := by decide +kernel
theorem dX5_longest_19 : decode cX5_longest 19 = .ok (.ifCond .ne 7, 3) := by decide +kernel
theorem dX5_longest_22 : decode cX5_longest 22 = .ok (.iconst 1, 1) := by decide +kernel
theorem dX5_longest_23 : decode cX5_longest 23 = .ok (.goto 4, 3) := by decide +kernel
theorem dX5_longest_26 : decode cX5_longest 26 = .ok (.iconst 0, 1) := by decide +kernel
theorem dX5_longest_27 : decode cX5_longest 27 = .ok (.iconst 1, 1) := by decide +kernel
theorem dX5_longest_28 : decode cX5_longest 28 = .ok (.invokevirtual 156, 3) := by decide +kernel
theorem dX5_longest_31 : decode cX5_longest 31 = .ok (.ifCond .eq 7, 3) := by decide +kernel
theorem dX5_longest_34 : decode cX5_longest 34 = .ok (.iconst 0, 1) := by decide +kernel
theorem dX5_longest_35 : decode cX5_longest 35 = .ok (.goto 8, 3) := by decide +kernel
theorem dX5_longest_38 : decode cX5_longest 38 = .ok (.aload_n 0, 1) := by decide +kernel
theorem dX5_longest_39 : decode cX5_longest 39 = .ok (.iload_n 1, 1) := by decide +kernel
theorem dX5_longest_40 : decode cX5_longest 40 = .ok (.invokevirtual 214, 3) := by decide +kernel
theorem dX5_longest_43 : decode cX5_longest 43 = .ok (.ireturn, 1) := by decide +kernel
theorem dX5_isWanted_0 : decode cX5_isWanted 0 = .ok (.aload_n 0, 1) := by decide +kernel
theorem dX5_isWanted_1 : decode cX5_isWanted 1 = .ok (.iload_n 1, 1) := by decide +kernel
theorem dX5_isWanted_2 : decode cX5_isWanted 2 = .ok (.iload_n 2, 1) := by decide +kernel
theorem dX5_isWanted_3 : decode cX5_isWanted 3 = .ok (.invokevirtual 191, 3) := by decide +kernel
theorem dX5_isWanted_6 : decode cX5_isWanted 6 = .ok (.ifCond .eq 20, 3) := by decide +kernel
theorem dX5_isWanted_9 : decode cX5_isWanted 9 = .ok (.aload_n 0, 1) := by decide +kernel
theorem dX5_isWanted_10 : decode cX5_isWanted 10 = .ok (.aload_n 0, 1) := by decide +kernel
theorem dX5_isWanted_11 : decode cX5_isWanted 11 = .ok (.iload_n 1, 1) := by decide +kernel
theorem dX5_isWanted_12 : decode cX5_isWanted 12 = .ok (.iload_n 2, 1) := by decide +kernel
theorem dX5_isWanted_13 : decode cX5_isWanted 13 = .ok (.invokevirtual 181, 3) := by decide +kernel
theorem dX5_isWanted_16 : decode cX5_isWanted 16 = .ok (.invokevirtual 272, 3) := by decide +kernel
theorem dX5_isWanted_19 : decode cX5_isWanted 19 = .ok (.ifCond .le 7, 3) := by decide +kernel
theorem dX5_isWanted_22 : decode cX5_isWanted 22 = .ok (.iconst 1, 1) := by decide +kernel
theorem dX5_isWanted_23 : decode cX5_isWanted 23 = .ok (.goto 4, 3) := by decide +kernel
theorem dX5_isWanted_26 : decode cX5_isWanted 26 = .ok (.iconst 0, 1) := by decide +kernel
theorem dX5_isWanted_27 : decode cX5_isWanted 27 = .ok (.ireturn, 1) := by decide +kernel
theorem dX5_clashesNow_0 : decode cX5_clashesNow 0 = .ok (.iconst 0, 1) := by decide +kernel
theorem dX5_clashesNow_1 : decode cX5_clashesNow 1 = .ok (.istore_n 1, 1) := by decide +kernel
theorem dX5_clashesNow_2 : decode cX5_clashesNow 2 = .ok (.iconst 0, 1) := by decide +kernel
theorem dX5_clashesNow_3 : decode cX5_clashesNow 3 = .ok (.istore_n 2, 1) := by decide +kernel
theorem dX5_clashesNow_4 : decode cX5_clashesNow 4 = .ok (.iload_n 2, 1) := by decide +kernel
theorem dX5_clashesNow_5 : decode cX5_clashesNow 5 = .ok (.aload_n 0, 1) := by decide +kernel
theorem dX5_clashesNow_6 : decode cX5_clashesNow 6 = .ok (.invokevirtual 172, 3) := by decide +kernel
theorem dX5_clashesNow_9 : decode cX5_clashesNow 9 = .ok (.if_icmp .ge 39, 3) := by decide +kernel
theorem dX5_clashesNow_12 : decode cX5_clashesNow 12 = .ok (.iload_n 1, 1) := by decide +kernel
theorem dX5_clashesNow_13 : decode cX5_clashesNow 13 = .ok (.aload_n 0, 1) := by decide +kernel
theorem dX5_clashesNow_14 : decode cX5_clashesNow 14 = .ok (.iconst 0, 1) := by decide +kernel
theorem dX5_clashesNow_15 : decode cX5_clashesNow 15 = .ok (.iload_n 2, 1) := by decide +kernel
theorem dX5_clashesNow_16 : decode cX5_clashesNow 16 = .ok (.invokevirtual 296, 3) := by decide +kernel
theorem dX5_clashesNow_19 : decode cX5_clashesNow 19 = .ok (.ifCond .eq 20, 3) := by decide +kernel
theorem dX5_clashesNow_22 : decode cX5_clashesNow 22 = .ok (.aload_n 0, 1) := by decide +kernel
theorem dX5_clashesNow_23 : decode cX5_clashesNow 23 = .ok (.iconst 1, 1) := by decide +kernel
theorem dX5_clashesNow_24 : decode cX5_clashesNow 24 = .ok (.aload_n 0, 1) := by decide +kernel
theorem dX5_clashesNow_25 : decode cX5_clashesNow 25 = .ok (.iload_n 2, 1) := by decide +kernel
theorem dX5_clashesNow_26 : decode cX5_clashesNow 26 = .ok (.invokevirtual 175, 3) := by decide +kernel
theorem dX5_clashesNow_29 : decode cX5_clashesNow 29 = .ok (.invokevirtual 296, 3) := by decide +kernel
theorem dX5_clashesNow_32 : decode cX5_clashesNow 32 = .ok (.ifCond .eq 7, 3) := by decide +kernel
theorem dX5_clashesNow_35 : decode cX5_clashesNow 35 = .ok (.iconst 1, 1) := by decide +kernel
theorem dX5_clashesNow_36 : decode cX5_clashesNow 36 = .ok (.goto 4, 3) := by decide +kernel
theorem dX5_clashesNow_39 : decode cX5_clashesNow 39 = .ok (.iconst 0, 1) := by decide +kernel
theorem dX5_clashesNow_40 : decode cX5_clashesNow 40 = .ok (.iadd, 1) := by decide +kernel
theorem dX5_clashesNow_41 : decode cX5_clashesNow 41 = .ok (.istore_n 1, 1) := by decide +kernel
theorem dX5_clashesNow_42 : decode cX5_clashesNow 42 = .ok (.iinc 2 1, 3) := by decide +kernel
theorem dX5_clashesNow_45 : decode cX5_clashesNow 45 = .ok (.goto (-41), 3) := by decide +kernel
theorem dX5_clashesNow_48 : decode cX5_clashesNow 48 = .ok (.iload_n 1, 1) := by decide +kernel
theorem dX5_clashesNow_49 : decode cX5_clashesNow 49 = .ok (.ireturn, 1) := by decide +kernel
theorem dX5_clashes_0 : decode cX5_clashes 0 = .ok (.aload_n 0, 1) := by decide +kernel
theorem dX5_clashes_1 : decode cX5_clashes 1 = .ok (.iconst 0, 1) := by decide +kernel
theorem dX5_clashes_2 : decode cX5_clashes 2 = .ok (.putfield 64, 3) := by decide +kernel
theorem dX5_clashes_5 : decode cX5_clashes 5 = .ok (.aload_n 0, 1) := by decide +kernel
theorem dX5_clashes_6 : decode cX5_clashes 6 = .ok (.invokevirtual 299, 3) := by decide +kernel
theorem dX5_clashes_9 : decode cX5_clashes 9 = .ok (.ireturn, 1) := by decide +kernel
theorem dX5_meanSize_0 : decode cX5_meanSize 0 = .ok (.aload_n 0, 1) := by decide +kernel
theorem dX5_meanSize_1 : decode cX5_meanSize 1 = .ok (.iconst 0, 1) := by decide +kernel
theorem dX5_meanSize_2 : decode cX5_meanSize 2 = .ok (.putfield 64, 3) := by decide +kernel
theorem dX5_meanSize_5 : decode cX5_meanSize 5 = .ok (.aload_n 0, 1) := by decide +kernel
theorem dX5_meanSize_6 : decode cX5_meanSize 6 = .ok (.invokevirtual 279, 3) := by decide +kernel
theorem dX5_meanSize_9 : decode cX5_meanSize 9 = .ok (.ifCond .gt 5, 3) := by decide +kernel
theorem dX5_meanSize_12 : decode cX5_meanSize 12 = .ok (.dconst 0, 1) := by decide +kernel
theorem dX5_meanSize_13 : decode cX5_meanSize 13 = .ok (.dreturn, 1) := by decide +kernel
theorem dX5_meanSize_14 : decode cX5_meanSize 14 = .ok (.aload_n 0, 1) := by decide +kernel
theorem dX5_meanSize_15 : decode cX5_meanSize 15 = .ok (.invokevirtual 285, 3) := by decide +kernel
theorem dX5_meanSize_18 : decode cX5_meanSize 18 = .ok (.iconst 0, 1) := by decide +kernel
theorem dX5_meanSize_19 : decode cX5_meanSize 19 = .ok (.istore_n 1, 1) := by decide +kernel
theorem dX5_meanSize_20 : decode cX5_meanSize 20 = .ok (.iconst 0, 1) := by decide +kernel
theorem dX5_meanSize_21 : decode cX5_meanSize 21 = .ok (.istore_n 2, 1) := by decide +kernel
theorem dX5_meanSize_22 : decode cX5_meanSize 22 = .ok (.iload_n 2, 1) := by decide +kernel
theorem dX5_meanSize_23 : decode cX5_meanSize 23 = .ok (.aload_n 0, 1) := by decide +kernel
theorem dX5_meanSize_24 : decode cX5_meanSize 24 = .ok (.getfield 17, 3) := by decide +kernel
theorem dX5_meanSize_27 : decode cX5_meanSize 27 = .ok (.iconst 3, 1) := by decide +kernel
theorem dX5_meanSize_28 : decode cX5_meanSize 28 = .ok (.iaload, 1) := by decide +kernel
theorem dX5_meanSize_29 : decode cX5_meanSize 29 = .ok (.if_icmp .ge 18, 3) := by decide +kernel
theorem dX5_meanSize_32 : decode cX5_meanSize 32 = .ok (.iload_n 1, 1) := by decide +kernel
theorem dX5_meanSize_33 : decode cX5_meanSize 33 = .ok (.aload_n 0, 1) := by decide +kernel
theorem dX5_meanSize_34 : decode cX5_meanSize 34 = .ok (.getfield 57, 3) := by decide +kernel
theorem dX5_meanSize_37 : decode cX5_meanSize 37 = .ok (.iload_n 2, 1) := by decide +kernel
theorem dX5_meanSize_38 : decode cX5_meanSize 38 = .ok (.iaload, 1) := by decide +kernel
theorem dX5_meanSize_39 : decode cX5_meanSize 39 = .ok (.iadd, 1) := by decide +kernel
theorem dX5_meanSize_40 : decode cX5_meanSize 40 = .ok (.istore_n 1, 1) := by decide +kernel
theorem dX5_meanSize_41 : decode cX5_meanSize 41 = .ok (.iinc 2 1, 3) := by decide +kernel
theorem dX5_meanSize_44 : decode cX5_meanSize 44 = .ok (.goto (-22), 3) := by decide +kernel
theorem dX5_meanSize_47 : decode cX5_meanSize 47 = .ok (.iload_n 1, 1) := by decide +kernel
theorem dX5_meanSize_48 : decode cX5_meanSize 48 = .ok (.i2d, 1) := by decide +kernel
theorem dX5_meanSize_49 : decode cX5_meanSize 49 = .ok (.aload_n 0, 1) := by decide +kernel
theorem dX5_meanSize_50 : decode cX5_meanSize 50 = .ok (.getfield 17, 3) := by decide +kernel
theorem dX5_meanSize_53 : decode cX5_meanSize 53 = .ok (.iconst 3, 1) := by decide +kernel
theorem dX5_meanSize_54 : decode cX5_meanSize 54 = .ok (.iaload, 1) := by decide +kernel
theorem dX5_meanSize_55 : decode cX5_meanSize 55 = .ok (.i2d, 1) := by decide +kernel
theorem dX5_meanSize_56 : decode cX5_meanSize 56 = .ok (.ddiv, 1) := by decide +kernel
theorem dX5_meanSize_57 : decode cX5_meanSize 57 = .ok (.dreturn, 1) := by decide +kernel
theorem dX5_remember_0 : decode cX5_remember 0 = .ok (.aload_n 0, 1) := by decide +kernel
theorem dX5_remember_1 : decode cX5_remember 1 = .ok (.getfield 302, 3) := by decide +kernel
theorem dX5_remember_4 : decode cX5_remember 4 = .ok (.bipush 8, 2) := by decide +kernel
theorem dX5_remember_6 : decode cX5_remember 6 = .ok (.if_icmp .ne 44, 3) := by decide +kernel
theorem dX5_remember_9 : decode cX5_remember 9 = .ok (.iconst 1, 1) := by decide +kernel
theorem dX5_remember_10 : decode cX5_remember 10 = .ok (.istore_n 1, 1) := by decide +kernel
theorem dX5_remember_11 : decode cX5_remember 11 = .ok (.iload_n 1, 1) := by decide +kernel
theorem dX5_remember_12 : decode cX5_remember 12 = .ok (.bipush 8, 2) := by decide +kernel
theorem dX5_remember_14 : decode cX5_remember 14 = .ok (.if_icmp .ge 26, 3) := by decide +kernel
theorem dX5_remember_17 : decode cX5_remember 17 = .ok (.aload_n 0, 1) := by decide +kernel
theorem dX5_remember_18 : decode cX5_remember 18 = .ok (.getfield 28, 3) := by decide +kernel
theorem dX5_remember_21 : decode cX5_remember 21 = .ok (.iload_n 1, 1) := by decide +kernel
theorem dX5_remember_22 : decode cX5_remember 22 = .ok (.aaload, 1) := by decide +kernel
theorem dX5_remember_23 : decode cX5_remember 23 = .ok (.aload_n 0, 1) := by decide +kernel
theorem dX5_remember_24 : decode cX5_remember 24 = .ok (.getfield 28, 3) := by decide +kernel
theorem dX5_remember_27 : decode cX5_remember 27 = .ok (.iload_n 1, 1) := by decide +kernel
theorem dX5_remember_28 : decode cX5_remember 28 = .ok (.iconst 1, 1) := by decide +kernel
theorem dX5_remember_29 : decode cX5_remember 29 = .ok (.isub, 1) := by decide +kernel
theorem dX5_remember_30 : decode cX5_remember 30 = .ok (.aaload, 1) := by decide +kernel
theorem dX5_remember_31 : decode cX5_remember 31 = .ok (.invokestatic 168, 3) := by decide +kernel
theorem dX5_remember_34 : decode cX5_remember 34 = .ok (.iinc 1 1, 3) := by decide +kernel
theorem dX5_remember_37 : decode cX5_remember 37 = .ok (.goto (-26), 3) := by decide +kernel
theorem dX5_remember_40 : decode cX5_remember 40 = .ok (.aload_n 0, 1) := by decide +kernel
theorem dX5_remember_41 : decode cX5_remember 41 = .ok (.dup, 1) := by decide +kernel
theorem dX5_remember_42 : decode cX5_remember 42 = .ok (.getfield 302, 3) := by decide +kernel
theorem dX5_remember_45 : decode cX5_remember 45 = .ok (.iconst 1, 1) := by decide +kernel
theorem dX5_remember_46 : decode cX5_remember 46 = .ok (.isub, 1) := by decide +kernel
theorem dX5_remember_47 : decode cX5_remember 47 = .ok (.putfield 302, 3) := by decide +kernel
theorem dX5_remember_50 : decode cX5_remember 50 = .ok (.aload_n 0, 1) := by decide +kernel
theorem dX5_remember_51 : decode cX5_remember 51 = .ok (.getfield 17, 3) := by decide +kernel
theorem dX5_remember_54 : decode cX5_remember 54 = .ok (.aload_n 0, 1) := by decide +kernel
theorem dX5_remember_55 : decode cX5_remember 55 = .ok (.getfield 28, 3) := by decide +kernel
theorem dX5_remember_58 : decode cX5_remember 58 = .ok (.aload_n 0, 1) := by decide +kernel
theorem dX5_remember_59 : decode cX5_remember 59 = .ok (.getfield 302, 3) := by decide +kernel
theorem dX5_remember_62 : decode cX5_remember 62 = .ok (.aaload, 1) := by decide +kernel
theorem dX5_remember_63 : decode cX5_remember 63 = .ok (.invokestatic 168, 3) := by decide +kernel
theorem dX5_remember_66 : decode cX5_remember 66 = .ok (.aload_n 0, 1) := by decide +kernel
theorem dX5_remember_67 : decode cX5_remember 67 = .ok (.dup, 1) := by decide +kernel
theorem dX5_remember_68 : decode cX5_remember 68 = .ok (.getfield 302, 3) := by decide +kernel
theorem dX5_remember_71 : decode cX5_remember 71 = .ok (.iconst 1, 1) := by decide +kernel
theorem dX5_remember_72 : decode cX5_remember 72 = .ok (.iadd, 1) := by decide +kernel
theorem dX5_remember_73 : decode cX5_remember 73 = .ok (.putfield 302, 3) := by decide +kernel
theorem dX5_remember_76 : decode cX5_remember 76 = .ok (.return_, 1) := by decide +kernel
theorem dX5_areLetters_0 : decode cX5_areLetters 0 = .ok (.iconst 0, 1) := by decide +kernel
theorem dX5_areLetters_1 : decode cX5_areLetters 1 = .ok (.istore_n 2, 1) := by decide +kernel
theorem dX5_areLetters_2 : decode cX5_areLetters 2 = .ok (.iload_n 2, 1) := by decide +kernel
theorem dX5_areLetters_3 : decode cX5_areLetters 3 = .ok (.iload_n 1, 1) := by decide +kernel
theorem dX5_areLetters_4 : decode cX5_areLetters 4 = .ok (.if_icmp .ge 27, 3) := by decide +kernel
theorem dX5_areLetters_7 : decode cX5_areLetters 7 = .ok (.aload_n 0, 1) := by decide +kernel
theorem dX5_areLetters_8 : decode cX5_areLetters 8 = .ok (.getfield 9, 3) := by decide +kernel
theorem dX5_areLetters_11 : decode cX5_areLetters 11 = .ok (.iload_n 2, 1) := by decide +kernel
theorem dX5_areLetters_12 : decode cX5_areLetters 12 = .ok (.iaload, 1) := by decide +kernel
theorem dX5_areLetters_13 : decode cX5_areLetters 13 = .ok (.bipush 97, 2) := by decide +kernel
theorem dX5_areLetters_15 : decode cX5_areLetters 15 = .ok (.bipush 122, 2) := by decide +kernel
theorem dX5_areLetters_17 : decode cX5_areLetters 17 = .ok (.invokestatic 86, 3) := by decide +kernel
theorem dX5_areLetters_20 : decode cX5_areLetters 20 = .ok (.ifCond .ne 5, 3) := by decide +kernel
theorem dX5_areLetters_23 : decode cX5_areLetters 23 = .ok (.iconst 0, 1) := by decide +kernel
theorem dX5_areLetters_24 : decode cX5_areLetters 24 = .ok (.ireturn, 1) := by decide +kernel
theorem dX5_areLetters_25 : decode cX5_areLetters 25 = .ok (.iinc 2 1, 3) := by decide +kernel
theorem dX5_areLetters_28 : decode cX5_areLetters 28 = .ok (.goto (-26), 3) := by decide +kernel
theorem dX5_areLetters_31 : decode cX5_areLetters 31 = .ok (.iconst 1, 1) := by decide +kernel
theorem dX5_areLetters_32 : decode cX5_areLetters 32 = .ok (.ireturn, 1) := by decide +kernel
theorem dX5_tell_0 : decode cX5_tell 0 = .ok (.aload_n 0, 1) := by decide +kernel
theorem dX5_tell_1 : decode cX5_tell 1 = .ok (.iconst 0, 1) := by decide +kernel
theorem dX5_tell_2 : decode cX5_tell 2 = .ok (.putfield 64, 3) := by decide +kernel
theorem dX5_tell_5 : decode cX5_tell 5 = .ok (.aload_n 0, 1) := by decide +kernel
theorem dX5_tell_6 : decode cX5_tell 6 = .ok (.iload_n 1, 1) := by decide +kernel
theorem dX5_tell_7 : decode cX5_tell 7 = .ok (.iconst 1, 1) := by decide +kernel
theorem dX5_tell_8 : decode cX5_tell 8 = .ok (.bipush 24, 2) := by decide +kernel
theorem dX5_tell_10 : decode cX5_tell 10 = .ok (.aload_n 0, 1) := by decide +kernel
theorem dX5_tell_11 : decode cX5_tell 11 = .ok (.getfield 67, 3) := by decide +kernel
theorem dX5_tell_14 : decode cX5_tell 14 = .ok (.invokestatic 119, 3) := by decide +kernel
theorem dX5_tell_17 : decode cX5_tell 17 = .ok (.invokestatic 86, 3) := by decide +kernel
theorem dX5_tell_20 : decode cX5_tell 20 = .ok (.ifCond .eq 11, 3) := by decide +kernel
theorem dX5_tell_23 : decode cX5_tell 23 = .ok (.aload_n 0, 1) := by decide +kernel
theorem dX5_tell_24 : decode cX5_tell 24 = .ok (.iload_n 1, 1) := by decide +kernel
theorem dX5_tell_25 : decode cX5_tell 25 = .ok (.invokevirtual 305, 3) := by decide +kernel
theorem dX5_tell_28 : decode cX5_tell 28 = .ok (.ifCond .ne 7, 3) := by decide +kernel
theorem dX5_tell_31 : decode cX5_tell 31 = .ok (.iconst 1, 1) := by decide +kernel
theorem dX5_tell_32 : decode cX5_tell 32 = .ok (.goto 4, 3) := by decide +kernel
theorem dX5_tell_35 : decode cX5_tell 35 = .ok (.iconst 0, 1) := by decide +kernel
theorem dX5_tell_36 : decode cX5_tell 36 = .ok (.iconst 1, 1) := by decide +kernel
theorem dX5_tell_37 : decode cX5_tell 37 = .ok (.invokevirtual 156, 3) := by decide +kernel
theorem dX5_tell_40 : decode cX5_tell 40 = .ok (.ifCond .eq 5, 3) := by decide +kernel
theorem dX5_tell_43 : decode cX5_tell 43 = .ok (.iconst 0, 1) := by decide +kernel
theorem dX5_tell_44 : decode cX5_tell 44 = .ok (.ireturn, 1) := by decide +kernel
theorem dX5_tell_45 : decode cX5_tell 45 = .ok (.aload_n 0, 1) := by decide +kernel
theorem dX5_tell_46 : decode cX5_tell 46 = .ok (.invokevirtual 165, 3) := by decide +kernel
theorem dX5_tell_49 : decode cX5_tell 49 = .ok (.aload_n 0, 1) := by decide +kernel
theorem dX5_tell_50 : decode cX5_tell 50 = .ok (.iconst 0, 1) := by decide +kernel
theorem dX5_tell_51 : decode cX5_tell 51 = .ok (.putfield 67, 3) := by decide +kernel
theorem dX5_tell_54 : decode cX5_tell 54 = .ok (.aload_n 0, 1) := by decide +kernel
theorem dX5_tell_55 : decode cX5_tell 55 = .ok (.getfield 17, 3) := by decide +kernel
theorem dX5_tell_58 : decode cX5_tell 58 = .ok (.iconst 3, 1) := by decide +kernel
theorem dX5_tell_59 : decode cX5_tell 59 = .ok (.iload_n 1, 1) := by decide +kernel
theorem dX5_tell_60 : decode cX5_tell 60 = .ok (.iastore, 1) := by decide +kernel
theorem dX5_tell_61 : decode cX5_tell 61 = .ok (.iconst 0, 1) := by decide +kernel
theorem dX5_tell_62 : decode cX5_tell 62 = .ok (.istore_n 2, 1) := by decide +kernel
theorem dX5_tell_63 : decode cX5_tell 63 = .ok (.iload_n 2, 1) := by decide +kernel
theorem dX5_tell_64 : decode cX5_tell 64 = .ok (.iload_n 1, 1) := by decide +kernel
theorem dX5_tell_65 : decode cX5_tell 65 = .ok (.if_icmp .ge 28, 3) := by decide +kernel
theorem dX5_tell_68 : decode cX5_tell 68 = .ok (.aload_n 0, 1) := by decide +kernel
theorem dX5_tell_69 : decode cX5_tell 69 = .ok (.getfield 17, 3) := by decide +kernel
theorem dX5_tell_72 : decode cX5_tell 72 = .ok (.sipush 162, 3) := by decide +kernel
theorem dX5_tell_75 : decode cX5_tell 75 = .ok (.iload_n 2, 1) := by decide +kernel
theorem dX5_tell_76 : decode cX5_tell 76 = .ok (.iadd, 1) := by decide +kernel
theorem dX5_tell_77 : decode cX5_tell 77 = .ok (.aload_n 0, 1) := by decide +kernel
theorem dX5_tell_78 : decode cX5_tell 78 = .ok (.getfield 9, 3) := by decide +kernel
theorem dX5_tell_81 : decode cX5_tell 81 = .ok (.iload_n 2, 1) := by decide +kernel
theorem dX5_tell_82 : decode cX5_tell 82 = .ok (.iaload, 1) := by decide +kernel
theorem dX5_tell_83 : decode cX5_tell 83 = .ok (.bipush 97, 2) := by decide +kernel
theorem dX5_tell_85 : decode cX5_tell 85 = .ok (.isub, 1) := by decide +kernel
theorem dX5_tell_86 : decode cX5_tell 86 = .ok (.iastore, 1) := by decide +kernel
theorem dX5_tell_87 : decode cX5_tell 87 = .ok (.iinc 2 1, 3) := by decide +kernel
theorem dX5_tell_90 : decode cX5_tell 90 = .ok (.goto (-27), 3) := by decide +kernel
theorem dX5_tell_93 : decode cX5_tell 93 = .ok (.aload_n 0, 1) := by decide +kernel
theorem dX5_tell_94 : decode cX5_tell 94 = .ok (.invokevirtual 241, 3) := by decide +kernel
theorem dX5_tell_97 : decode cX5_tell 97 = .ok (.ireturn, 1) := by decide +kernel
theorem dX5_cut_0 : decode cX5_cut 0 = .ok (.aload_n 0, 1) := by decide +kernel
theorem dX5_cut_1 : decode cX5_cut 1 = .ok (.iconst 0, 1) := by decide +kernel
theorem dX5_cut_2 : decode cX5_cut 2 = .ok (.putfield 64, 3) := by decide +kernel
theorem dX5_cut_5 : decode cX5_cut 5 = .ok (.aload_n 0, 1) := by decide +kernel
theorem dX5_cut_6 : decode cX5_cut 6 = .ok (.invokevirtual 279, 3) := by decide +kernel
theorem dX5_cut_9 : decode cX5_cut 9 = .ok (.istore_n 1, 1) := by decide +kernel
theorem dX5_cut_10 : decode cX5_cut 10 = .ok (.aload_n 0, 1) := by decide +kernel
theorem dX5_cut_11 : decode cX5_cut 11 = .ok (.iload_n 1, 1) := by decide +kernel
theorem dX5_cut_12 : decode cX5_cut 12 = .ok (.ifCond .gt 7, 3) := by decide +kernel
theorem dX5_cut_15 : decode cX5_cut 15 = .ok (.iconst 1, 1) := by decide +kernel
theorem dX5_cut_16 : decode cX5_cut 16 = .ok (.goto 4, 3) := by decide +kernel
theorem dX5_cut_19 : decode cX5_cut 19 = .ok (.iconst 0, 1) := by decide +kernel
theorem dX5_cut_20 : decode cX5_cut 20 = .ok (.iconst 1, 1) := by decide +kernel
theorem dX5_cut_21 : decode cX5_cut 21 = .ok (.invokevirtual 156, 3) := by decide +kernel
theorem dX5_cut_24 : decode cX5_cut 24 = .ok (.ifCond .eq 5, 3) := by decide +kernel
theorem dX5_cut_27 : decode cX5_cut 27 = .ok (.iconst 0, 1) := by decide +kernel
theorem dX5_cut_28 : decode cX5_cut 28 = .ok (.ireturn, 1) := by decide +kernel
theorem dX5_cut_29 : decode cX5_cut 29 = .ok (.aload_n 0, 1) := by decide +kernel
theorem dX5_cut_30 : decode cX5_cut 30 = .ok (.invokevirtual 165, 3) := by decide +kernel
theorem dX5_cut_33 : decode cX5_cut 33 = .ok (.aload_n 0, 1) := by decide +kernel
theorem dX5_cut_34 : decode cX5_cut 34 = .ok (.invokevirtual 293, 3) := by decide +kernel
theorem dX5_cut_37 : decode cX5_cut 37 = .ok (.iload_n 1, 1) := by decide +kernel
theorem dX5_cut_38 : decode cX5_cut 38 = .ok (.ireturn, 1) := by decide +kernel
theorem dX5_isCut_0 : decode cX5_isCut 0 = .ok (.iload_n 2, 1) := by decide +kernel
theorem dX5_isCut_1 : decode cX5_isCut 1 = .ok (.aload_n 0, 1) := by decide +kernel
theorem dX5_isCut_2 : decode cX5_isCut 2 = .ok (.getfield 17, 3) := by decide +kernel
theorem dX5_isCut_5 : decode cX5_isCut 5 = .ok (.iconst 0, 1) := by decide +kernel
theorem dX5_isCut_6 : decode cX5_isCut 6 = .ok (.iaload, 1) := by decide +kernel
theorem dX5_isCut_7 : decode cX5_isCut 7 = .ok (.irem, 1) := by decide +kernel
theorem dX5_isCut_8 : decode cX5_isCut 8 = .ok (.iload_n 3, 1) := by decide +kernel
theorem dX5_isCut_9 : decode cX5_isCut 9 = .ok (.iadd, 1) := by decide +kernel
theorem dX5_isCut_10 : decode cX5_isCut 10 = .ok (.aload_n 0, 1) := by decide +kernel
theorem dX5_isCut_11 : decode cX5_isCut 11 = .ok (.getfield 17, 3) := by decide +kernel
theorem dX5_isCut_14 : decode cX5_isCut 14 = .ok (.iconst 0, 1) := by decide +kernel
theorem dX5_isCut_15 : decode cX5_isCut 15 = .ok (.iaload, 1) := by decide +kernel
theorem dX5_isCut_16 : decode cX5_isCut 16 = .ok (.if_icmp .le 5, 3) := by decide +kernel
theorem dX5_isCut_19 : decode cX5_isCut 19 = .ok (.iconst 0, 1) := by decide +kernel
theorem dX5_isCut_20 : decode cX5_isCut 20 = .ok (.ireturn, 1) := by decide +kernel
theorem dX5_isCut_21 : decode cX5_isCut 21 = .ok (.iconst 0, 1) := by decide +kernel
theorem dX5_isCut_22 : decode cX5_isCut 22 = .ok (.istore 4, 2) := by decide +kernel
theorem dX5_isCut_24 : decode cX5_isCut 24 = .ok (.iload 4, 2) := by decide +kernel
theorem dX5_isCut_26 : decode cX5_isCut 26 = .ok (.iload_n 3, 1) := by decide +kernel
theorem dX5_isCut_27 : decode cX5_isCut 27 = .ok (.if_icmp .ge 23, 3) := by decide +kernel
theorem dX5_isCut_30 : decode cX5_isCut 30 = .ok (.aload_n 0, 1) := by decide +kernel
theorem dX5_isCut_31 : decode cX5_isCut 31 = .ok (.iload_n 1, 1) := by decide +kernel
theorem dX5_isCut_32 : decode cX5_isCut 32 = .ok (.iload_n 2, 1) := by decide +kernel
theorem dX5_isCut_33 : decode cX5_isCut 33 = .ok (.iload 4, 2) := by decide +kernel
theorem dX5_isCut_35 : decode cX5_isCut 35 = .ok (.iadd, 1) := by decide +kernel
theorem dX5_isCut_36 : decode cX5_isCut 36 = .ok (.invokevirtual 191, 3) := by decide +kernel
theorem dX5_isCut_39 : decode cX5_isCut 39 = .ok (.ifCond .ne 5, 3) := by decide +kernel
theorem dX5_isCut_42 : decode cX5_isCut 42 = .ok (.iconst 0, 1) := by decide +kernel
theorem dX5_isCut_43 : decode cX5_isCut 43 = .ok (.ireturn, 1) := by decide +kernel
theorem dX5_isCut_44 : decode cX5_isCut 44 = .ok (.iinc 4 1, 3) := by decide +kernel
theorem dX5_isCut_47 : decode cX5_isCut 47 = .ok (.goto (-23), 3) := by decide +kernel
theorem dX5_isCut_50 : decode cX5_isCut 50 = .ok (.iconst 1, 1) := by decide +kernel
theorem dX5_isCut_51 : decode cX5_isCut 51 = .ok (.ireturn, 1) := by decide +kernel
theorem dX5_snip_0 : decode cX5_snip 0 = .ok (.aload_n 0, 1) := by decide +kernel
theorem dX5_snip_1 : decode cX5_snip 1 = .ok (.iconst 0, 1) := by decide +kernel
theorem dX5_snip_2 : decode cX5_snip 2 = .ok (.putfield 64, 3) := by decide +kernel
theorem dX5_snip_5 : decode cX5_snip 5 = .ok (.aload_n 0, 1) := by decide +kernel
theorem dX5_snip_6 : decode cX5_snip 6 = .ok (.iload_n 1, 1) := by decide +kernel
theorem dX5_snip_7 : decode cX5_snip 7 = .ok (.iload_n 2, 1) := by decide +kernel
theorem dX5_snip_8 : decode cX5_snip 8 = .ok (.invokevirtual 266, 3) := by decide +kernel
theorem dX5_snip_11 : decode cX5_snip 11 = .ok (.ifCond .ne 49, 3) := by decide +kernel
theorem dX5_snip_14 : decode cX5_snip 14 = .ok (.aload_n 0, 1) := by decide +kernel
theorem dX5_snip_15 : decode cX5_snip 15 = .ok (.iload_n 3, 1) := by decide +kernel
theorem dX5_snip_16 : decode cX5_snip 16 = .ok (.iconst 1, 1) := by decide +kernel
theorem dX5_snip_17 : decode cX5_snip 17 = .ok (.bipush 8, 2) := by decide +kernel
theorem dX5_snip_19 : decode cX5_snip 19 = .ok (.invokestatic 86, 3) := by decide +kernel
theorem dX5_snip_22 : decode cX5_snip 22 = .ok (.ifCond .ne 7, 3) := by decide +kernel
theorem dX5_snip_25 : decode cX5_snip 25 = .ok (.iconst 1, 1) := by decide +kernel
theorem dX5_snip_26 : decode cX5_snip 26 = .ok (.goto 4, 3) := by decide +kernel
theorem dX5_snip_29 : decode cX5_snip 29 = .ok (.iconst 0, 1) := by decide +kernel
theorem dX5_snip_30 : decode cX5_snip 30 = .ok (.iconst 2, 1) := by decide +kernel
theorem dX5_snip_31 : decode cX5_snip 31 = .ok (.invokevirtual 156, 3) := by decide +kernel
theorem dX5_snip_34 : decode cX5_snip 34 = .ok (.ifCond .ne 26, 3) := by decide +kernel
theorem dX5_snip_37 : decode cX5_snip 37 = .ok (.aload_n 0, 1) := by decide +kernel
theorem dX5_snip_38 : decode cX5_snip 38 = .ok (.aload_n 0, 1) := by decide +kernel
theorem dX5_snip_39 : decode cX5_snip 39 = .ok (.iload_n 1, 1) := by decide +kernel
theorem dX5_snip_40 : decode cX5_snip 40 = .ok (.iload_n 2, 1) := by decide +kernel
theorem dX5_snip_41 : decode cX5_snip 41 = .ok (.iload_n 3, 1) := by decide +kernel
theorem dX5_snip_42 : decode cX5_snip 42 = .ok (.invokevirtual 308, 3) := by decide +kernel
theorem dX5_snip_45 : decode cX5_snip 45 = .ok (.ifCond .ne 7, 3) := by decide +kernel
theorem dX5_snip_48 : decode cX5_snip 48 = .ok (.iconst 1, 1) := by decide +kernel
theorem dX5_snip_49 : decode cX5_snip 49 = .ok (.goto 4, 3) := by decide +kernel
theorem dX5_snip_52 : decode cX5_snip 52 = .ok (.iconst 0, 1) := by decide +kernel
theorem dX5_snip_53 : decode cX5_snip 53 = .ok (.iconst 3, 1) := by decide +kernel
theorem dX5_snip_54 : decode cX5_snip 54 = .ok (.invokevirtual 156, 3) := by decide +kernel
theorem dX5_snip_57 : decode cX5_snip 57 = .ok (.ifCond .eq 5, 3) := by decide +kernel
theorem dX5_snip_60 : decode cX5_snip 60 = .ok (.iconst 0, 1) := by decide +kernel
theorem dX5_snip_61 : decode cX5_snip 61 = .ok (.ireturn, 1) := by decide +kernel
theorem dX5_snip_62 : decode cX5_snip 62 = .ok (.aload_n 0, 1) := by decide +kernel
theorem dX5_snip_63 : decode cX5_snip 63 = .ok (.invokevirtual 165, 3) := by decide +kernel
theorem dX5_snip_66 : decode cX5_snip 66 = .ok (.aload_n 0, 1) := by decide +kernel
theorem dX5_snip_67 : decode cX5_snip 67 = .ok (.iload_n 1, 1) := by decide +kernel
theorem dX5_snip_68 : decode cX5_snip 68 = .ok (.iload_n 2, 1) := by decide +kernel
theorem dX5_snip_69 : decode cX5_snip 69 = .ok (.iload_n 3, 1) := by decide +kernel
theorem dX5_snip_70 : decode cX5_snip 70 = .ok (.invokevirtual 253, 3) := by decide +kernel
theorem dX5_snip_73 : decode cX5_snip 73 = .ok (.aload_n 0, 1) := by decide +kernel
theorem dX5_snip_74 : decode cX5_snip 74 = .ok (.invokevirtual 257, 3) := by decide +kernel
theorem dX5_snip_77 : decode cX5_snip 77 = .ok (.ireturn, 1) := by decide +kernel
theorem dX5_least_0 : decode cX5_least 0 = .ok (.aload_n 0, 1) := by decide +kernel
theorem dX5_least_1 : decode cX5_least 1 = .ok (.iconst 0, 1) := by decide +kernel
theorem dX5_least_2 : decode cX5_least 2 = .ok (.putfield 64, 3) := by decide +kernel
theorem dX5_least_5 : decode cX5_least 5 = .ok (.aload_n 0, 1) := by decide +kernel
theorem dX5_least_6 : decode cX5_least 6 = .ok (.iload_n 1, 1) := by decide +kernel
theorem dX5_least_7 : decode cX5_least 7 = .ok (.iconst 1, 1) := by decide +kernel
theorem dX5_least_8 : decode cX5_least 8 = .ok (.bipush 9, 2) := by decide +kernel
theorem dX5_least_10 : decode cX5_least 10 = .ok (.invokestatic 86, 3) := by decide +kernel
theorem dX5_least_13 : decode cX5_least 13 = .ok (.ifCond .ne 7, 3) := by decide +kernel
theorem dX5_least_16 : decode cX5_least 16 = .ok (.iconst 1, 1) := by decide +kernel
theorem dX5_least_17 : decode cX5_least 17 = .ok (.goto 4, 3) := by decide +kernel
theorem dX5_least_20 : decode cX5_least 20 = .ok (.iconst 0, 1) := by decide +kernel
theorem dX5_least_21 : decode cX5_least 21 = .ok (.iconst 1, 1) := by decide +kernel
theorem dX5_least_22 : decode cX5_least 22 = .ok (.invokevirtual 156, 3) := by decide +kernel
theorem dX5_least_25 : decode cX5_least 25 = .ok (.ifCond .eq 5, 3) := by decide +kernel
theorem dX5_least_28 : decode cX5_least 28 = .ok (.iconst 0, 1) := by decide +kernel
theorem dX5_least_29 : decode cX5_least 29 = .ok (.ireturn, 1) := by decide +kernel
theorem dX5_least_30 : decode cX5_least 30 = .ok (.aload_n 0, 1) := by decide +kernel
theorem dX5_least_31 : decode cX5_least 31 = .ok (.invokevirtual 165, 3) := by decide +kernel
theorem dX5_least_34 : decode cX5_least 34 = .ok (.aload_n 0, 1) := by decide +kernel
theorem dX5_least_35 : decode cX5_least 35 = .ok (.getfield 17, 3) := by decide +kernel
theorem dX5_least_38 : decode cX5_least 38 = .ok (.iconst 2, 1) := by decide +kernel
theorem dX5_least_39 : decode cX5_least 39 = .ok (.iaload, 1) := by decide +kernel
theorem dX5_least_40 : decode cX5_least 40 = .ok (.istore_n 2, 1) := by decide +kernel
theorem dX5_least_41 : decode cX5_least 41 = .ok (.aload_n 0, 1) := by decide +kernel
theorem dX5_least_42 : decode cX5_least 42 = .ok (.getfield 17, 3) := by decide +kernel
theorem dX5_least_45 : decode cX5_least 45 = .ok (.iconst 2, 1) := by decide +kernel
theorem dX5_least_46 : decode cX5_least 46 = .ok (.iload_n 1, 1) := by decide +kernel
theorem dX5_least_47 : decode cX5_least 47 = .ok (.iastore, 1) := by decide +kernel
theorem dX5_least_48 : decode cX5_least 48 = .ok (.iload_n 2, 1) := by decide +kernel
theorem dX5_least_49 : decode cX5_least 49 = .ok (.ireturn, 1) := by decide +kernel
theorem dX5_mend_0 : decode cX5_mend 0 = .ok (.aload_n 0, 1) := by decide +kernel
theorem dX5_mend_1 : decode cX5_mend 1 = .ok (.iconst 0, 1) := by decide +kernel
theorem dX5_mend_2 : decode cX5_mend 2 = .ok (.putfield 64, 3) := by decide +kernel
theorem dX5_mend_5 : decode cX5_mend 5 = .ok (.aload_n 0, 1) := by decide +kernel
theorem dX5_mend_6 : decode cX5_mend 6 = .ok (.iload_n 1, 1) := by decide +kernel
theorem dX5_mend_7 : decode cX5_mend 7 = .ok (.iconst 0, 1) := by decide +kernel
theorem dX5_mend_8 : decode cX5_mend 8 = .ok (.aload_n 0, 1) := by decide +kernel
theorem dX5_mend_9 : decode cX5_mend 9 = .ok (.invokevirtual 172, 3) := by decide +kernel
theorem dX5_mend_12 : decode cX5_mend 12 = .ok (.iconst 1, 1) := by decide +kernel
theorem dX5_mend_13 : decode cX5_mend 13 = .ok (.isub, 1) := by decide +kernel
theorem dX5_mend_14 : decode cX5_mend 14 = .ok (.invokestatic 86, 3) := by decide +kernel
theorem dX5_mend_17 : decode cX5_mend 17 = .ok (.ifCond .ne 7, 3) := by decide +kernel
theorem dX5_mend_20 : decode cX5_mend 20 = .ok (.iconst 1, 1) := by decide +kernel
theorem dX5_mend_21 : decode cX5_mend 21 = .ok (.goto 4, 3) := by decide +kernel
theorem dX5_mend_24 : decode cX5_mend 24 = .ok (.iconst 0, 1) := by decide +kernel
theorem dX5_mend_25 : decode cX5_mend 25 = .ok (.iconst 1, 1) := by decide +kernel
theorem dX5_mend_26 : decode cX5_mend 26 = .ok (.invokevirtual 156, 3) := by decide +kernel
theorem dX5_mend_29 : decode cX5_mend 29 = .ok (.ifCond .ne 28, 3) := by decide +kernel
theorem dX5_mend_32 : decode cX5_mend 32 = .ok (.aload_n 0, 1) := by decide +kernel
theorem dX5_mend_33 : decode cX5_mend 33 = .ok (.aload_n 0, 1) := by decide +kernel
theorem dX5_mend_34 : decode cX5_mend 34 = .ok (.getfield 17, 3) := by decide +kernel
theorem dX5_mend_37 : decode cX5_mend 37 = .ok (.bipush 114, 2) := by decide +kernel
theorem dX5_mend_39 : decode cX5_mend 39 = .ok (.iload_n 1, 1) := by decide +kernel
theorem dX5_mend_40 : decode cX5_mend 40 = .ok (.iadd, 1) := by decide +kernel
theorem dX5_mend_41 : decode cX5_mend 41 = .ok (.iaload, 1) := by decide +kernel
theorem dX5_mend_42 : decode cX5_mend 42 = .ok (.ifCond .ne 7, 3) := by decide +kernel
theorem dX5_mend_45 : decode cX5_mend 45 = .ok (.iconst 1, 1) := by decide +kernel
theorem dX5_mend_46 : decode cX5_mend 46 = .ok (.goto 4, 3) := by decide +kernel
theorem dX5_mend_49 : decode cX5_mend 49 = .ok (.iconst 0, 1) := by decide +kernel
theorem dX5_mend_50 : decode cX5_mend 50 = .ok (.iconst 2, 1) := by decide +kernel
theorem dX5_mend_51 : decode cX5_mend 51 = .ok (.invokevirtual 156, 3) := by decide +kernel
theorem dX5_mend_54 : decode cX5_mend 54 = .ok (.ifCond .eq 5, 3) := by decide +kernel
theorem dX5_mend_57 : decode cX5_mend 57 = .ok (.iconst 0, 1) := by decide +kernel
theorem dX5_mend_58 : decode cX5_mend 58 = .ok (.ireturn, 1) := by decide +kernel
theorem dX5_mend_59 : decode cX5_mend 59 = .ok (.aload_n 0, 1) := by decide +kernel
theorem dX5_mend_60 : decode cX5_mend 60 = .ok (.invokevirtual 165, 3) := by decide +kernel
theorem dX5_mend_63 : decode cX5_mend 63 = .ok (.aload_n 0, 1) := by decide +kernel
theorem dX5_mend_64 : decode cX5_mend 64 = .ok (.getfield 17, 3) := by decide +kernel
theorem dX5_mend_67 : decode cX5_mend 67 = .ok (.bipush 114, 2) := by decide +kernel
theorem dX5_mend_69 : decode cX5_mend 69 = .ok (.iload_n 1, 1) := by decide +kernel
theorem dX5_mend_70 : decode cX5_mend 70 = .ok (.iadd, 1) := by decide +kernel
theorem dX5_mend_71 : decode cX5_mend 71 = .ok (.iconst 0, 1) := by decide +kernel
theorem dX5_mend_72 : decode cX5_mend 72 = .ok (.iastore, 1) := by decide +kernel
theorem dX5_mend_73 : decode cX5_mend 73 = .ok (.aload_n 0, 1) := by decide +kernel
theorem dX5_mend_74 : decode cX5_mend 74 = .ok (.invokevirtual 257, 3) := by decide +kernel
theorem dX5_mend_77 : decode cX5_mend 77 = .ok (.ireturn, 1) := by decide +kernel
theorem dX5_undo_0 : decode cX5_undo 0 = .ok (.aload_n 0, 1) := by decide +kernel
theorem dX5_undo_1 : decode cX5_undo 1 = .ok (.iconst 0, 1) := by decide +kernel
theorem dX5_undo_2 : decode cX5_undo 2 = .ok (.putfield 64, 3) := by decide +kernel
theorem dX5_undo_5 : decode cX5_undo 5 = .ok (.aload_n 0, 1) := by decide +kernel
theorem dX5_undo_6 : decode cX5_undo 6 = .ok (.getfield 302, 3) := by decide +kernel
theorem dX5_undo_9 : decode cX5_undo 9 = .ok (.ifCond .ne 5, 3) := by decide +kernel
theorem dX5_undo_12 : decode cX5_undo 12 = .ok (.iconst (-1), 1) := by decide +kernel
theorem dX5_undo_13 : decode cX5_undo 13 = .ok (.ireturn, 1) := by decide +kernel
theorem dX5_undo_14 : decode cX5_undo 14 = .ok (.aload_n 0, 1) := by decide +kernel
theorem dX5_undo_15 : decode cX5_undo 15 = .ok (.dup, 1) := by decide +kernel
theorem dX5_undo_16 : decode cX5_undo 16 = .ok (.getfield 302, 3) := by decide +kernel
theorem dX5_undo_19 : decode cX5_undo 19 = .ok (.iconst 1, 1) := by decide +kernel
theorem dX5_undo_20 : decode cX5_undo 20 = .ok (.isub, 1) := by decide +kernel
theorem dX5_undo_21 : decode cX5_undo 21 = .ok (.putfield 302, 3) := by decide +kernel
theorem dX5_undo_24 : decode cX5_undo 24 = .ok (.aload_n 0, 1) := by decide +kernel
theorem dX5_undo_25 : decode cX5_undo 25 = .ok (.getfield 28, 3) := by decide +kernel
theorem dX5_undo_28 : decode cX5_undo 28 = .ok (.aload_n 0, 1) := by decide +kernel
theorem dX5_undo_29 : decode cX5_undo 29 = .ok (.getfield 302, 3) := by decide +kernel
theorem dX5_undo_32 : decode cX5_undo 32 = .ok (.aaload, 1) := by decide +kernel
theorem dX5_undo_33 : decode cX5_undo 33 = .ok (.aload_n 0, 1) := by decide +kernel
theorem dX5_undo_34 : decode cX5_undo 34 = .ok (.getfield 17, 3) := by decide +kernel
theorem dX5_undo_37 : decode cX5_undo 37 = .ok (.invokestatic 168, 3) := by decide +kernel
theorem dX5_undo_40 : decode cX5_undo 40 = .ok (.aload_n 0, 1) := by decide +kernel
theorem dX5_undo_41 : decode cX5_undo 41 = .ok (.getfield 302, 3) := by decide +kernel
theorem dX5_undo_44 : decode cX5_undo 44 = .ok (.ireturn, 1) := by decide +kernel
theorem dX5_checksum_0 : decode cX5_checksum 0 = .ok (.aload_n 0, 1) := by decide +kernel
theorem dX5_checksum_1 : decode cX5_checksum 1 = .ok (.iconst 0, 1) := by decide +kernel
theorem dX5_checksum_2 : decode cX5_checksum 2 = .ok (.putfield 64, 3) := by decide +kernel
theorem dX5_checksum_5 : decode cX5_checksum 5 = .ok (.lconst 0, 1) := by decide +kernel
theorem dX5_checksum_6 : decode cX5_checksum 6 = .ok (.lstore_n 1, 1) := by decide +kernel
theorem dX5_checksum_7 : decode cX5_checksum 7 = .ok (.iconst 0, 1) := by decide +kernel
theorem dX5_checksum_8 : decode cX5_checksum 8 = .ok (.istore_n 3, 1) := by decide +kernel
theorem dX5_checksum_9 : decode cX5_checksum 9 = .ok (.iload_n 3, 1) := by decide +kernel
theorem dX5_checksum_10 : decode cX5_checksum 10 = .ok (.bipush 8, 2) := by decide +kernel
theorem dX5_checksum_12 : decode cX5_checksum 12 = .ok (.if_icmp .ge 22, 3) := by decide +kernel
theorem dX5_checksum_15 : decode cX5_checksum 15 = .ok (.ldc2_w 311, 3) := by decide +kernel
theorem dX5_checksum_18 : decode cX5_checksum 18 = .ok (.lload_n 1, 1) := by decide +kernel
theorem dX5_checksum_19 : decode cX5_checksum 19 = .ok (.lmul, 1) := by decide +kernel
theorem dX5_checksum_20 : decode cX5_checksum 20 = .ok (.aload_n 0, 1) := by decide +kernel
theorem dX5_checksum_21 : decode cX5_checksum 21 = .ok (.iload_n 3, 1) := by decide +kernel
theorem dX5_checksum_22 : decode cX5_checksum 22 = .ok (.invokevirtual 263, 3) := by decide +kernel
theorem dX5_checksum_25 : decode cX5_checksum 25 = .ok (.i2l, 1) := by decide +kernel
theorem dX5_checksum_26 : decode cX5_checksum 26 = .ok (.ladd, 1) := by decide +kernel
theorem dX5_checksum_27 : decode cX5_checksum 27 = .ok (.lstore_n 1, 1) := by decide +kernel
theorem dX5_checksum_28 : decode cX5_checksum 28 = .ok (.iinc 3 1, 3) := by decide +kernel
theorem dX5_checksum_31 : decode cX5_checksum 31 = .ok (.goto (-22), 3) := by decide +kernel
theorem dX5_checksum_34 : decode cX5_checksum 34 = .ok (.iconst 0, 1) := by decide +kernel
theorem dX5_checksum_35 : decode cX5_checksum 35 = .ok (.istore_n 3, 1) := by decide +kernel
theorem dX5_checksum_36 : decode cX5_checksum 36 = .ok (.iload_n 3, 1) := by decide +kernel
theorem dX5_checksum_37 : decode cX5_checksum 37 = .ok (.iconst 2, 1) := by decide +kernel
theorem dX5_checksum_38 : decode cX5_checksum 38 = .ok (.if_icmp .ge 55, 3) := by decide +kernel
theorem dX5_checksum_41 : decode cX5_checksum 41 = .ok (.iconst 0, 1) := by decide +kernel
theorem dX5_checksum_42 : decode cX5_checksum 42 = .ok (.istore 4, 2) := by decide +kernel
theorem dX5_checksum_44 : decode cX5_checksum 44 = .ok (.iload 4, 2) := by decide +kernel
theorem dX5_checksum_46 : decode cX5_checksum 46 = .ok (.aload_n 0, 1) := by decide +kernel
theorem dX5_checksum_47 : decode cX5_checksum 47 = .ok (.invokevirtual 172, 3) := by decide +kernel
theorem dX5_checksum_50 : decode cX5_checksum 50 = .ok (.if_icmp .ge 37, 3) := by decide +kernel
theorem dX5_checksum_53 : decode cX5_checksum 53 = .ok (.ldc2_w 311, 3) := by decide +kernel
theorem dX5_checksum_56 : decode cX5_checksum 56 = .ok (.ldc2_w 311, 3) := by decide +kernel
theorem dX5_checksum_59 : decode cX5_checksum 59 = .ok (.lload_n 1, 1) := by decide +kernel
theorem dX5_checksum_60 : decode cX5_checksum 60 = .ok (.lmul, 1) := by decide +kernel
theorem dX5_checksum_61 : decode cX5_checksum 61 = .ok (.aload_n 0, 1) := by decide +kernel
theorem dX5_checksum_62 : decode cX5_checksum 62 = .ok (.iload_n 3, 1) := by decide +kernel
theorem dX5_checksum_63 : decode cX5_checksum 63 = .ok (.iload 4, 2) := by decide +kernel
theorem dX5_checksum_65 : decode cX5_checksum 65 = .ok (.invokevirtual 269, 3) := by decide +kernel
theorem dX5_checksum_68 : decode cX5_checksum 68 = .ok (.i2l, 1) := by decide +kernel
theorem dX5_checksum_69 : decode cX5_checksum 69 = .ok (.ladd, 1) := by decide +kernel
theorem dX5_checksum_70 : decode cX5_checksum 70 = .ok (.lmul, 1) := by decide +kernel
theorem dX5_checksum_71 : decode cX5_checksum 71 = .ok (.aload_n 0, 1) := by decide +kernel
theorem dX5_checksum_72 : decode cX5_checksum 72 = .ok (.iload_n 3, 1) := by decide +kernel
theorem dX5_checksum_73 : decode cX5_checksum 73 = .ok (.iload 4, 2) := by decide +kernel
theorem dX5_checksum_75 : decode cX5_checksum 75 = .ok (.invokevirtual 188, 3) := by decide +kernel
theorem dX5_checksum_78 : decode cX5_checksum 78 = .ok (.i2l, 1) := by decide +kernel
theorem dX5_checksum_79 : decode cX5_checksum 79 = .ok (.ladd, 1) := by decide +kernel
theorem dX5_checksum_80 : decode cX5_checksum 80 = .ok (.lstore_n 1, 1) := by decide +kernel
theorem dX5_checksum_81 : decode cX5_checksum 81 = .ok (.iinc 4 1, 3) := by decide +kernel
theorem dX5_checksum_84 : decode cX5_checksum 84 = .ok (.goto (-40), 3) := by decide +kernel
theorem dX5_checksum_87 : decode cX5_checksum 87 = .ok (.iinc 3 1, 3) := by decide +kernel
theorem dX5_checksum_90 : decode cX5_checksum 90 = .ok (.goto (-54), 3) := by decide +kernel
theorem dX5_checksum_93 : decode cX5_checksum 93 = .ok (.iconst 0, 1) := by decide +kernel
theorem dX5_checksum_94 : decode cX5_checksum 94 = .ok (.istore_n 3, 1) := by decide +kernel
theorem dX5_checksum_95 : decode cX5_checksum 95 = .ok (.iload_n 3, 1) := by decide +kernel
theorem dX5_checksum_96 : decode cX5_checksum 96 = .ok (.aload_n 0, 1) := by decide +kernel
theorem dX5_checksum_97 : decode cX5_checksum 97 = .ok (.getfield 17, 3) := by decide +kernel
theorem dX5_checksum_100 : decode cX5_checksum 100 = .ok (.iconst 3, 1) := by decide +kernel
theorem dX5_checksum_101 : decode cX5_checksum 101 = .ok (.iaload, 1) := by decide +kernel
theorem dX5_checksum_102 : decode cX5_checksum 102 = .ok (.if_icmp .ge 27, 3) := by decide +kernel
theorem dX5_checksum_105 : decode cX5_checksum 105 = .ok (.ldc2_w 311, 3) := by decide +kernel
theorem dX5_checksum_108 : decode cX5_checksum 108 = .ok (.lload_n 1, 1) := by decide +kernel
theorem dX5_checksum_109 : decode cX5_checksum 109 = .ok (.lmul, 1) := by decide +kernel
theorem dX5_checksum_110 : decode cX5_checksum 110 = .ok (.aload_n 0, 1) := by decide +kernel
theorem dX5_checksum_111 : decode cX5_checksum 111 = .ok (.getfield 17, 3) := by decide +kernel
theorem dX5_checksum_114 : decode cX5_checksum 114 = .ok (.sipush 162, 3) := by decide +kernel
theorem dX5_checksum_117 : decode cX5_checksum 117 = .ok (.iload_n 3, 1) := by decide +kernel
theorem dX5_checksum_118 : decode cX5_checksum 118 = .ok (.iadd, 1) := by decide +kernel
theorem dX5_checksum_119 : decode cX5_checksum 119 = .ok (.iaload, 1) := by decide +kernel
theorem dX5_checksum_120 : decode cX5_checksum 120 = .ok (.i2l, 1) := by decide +kernel
theorem dX5_checksum_121 : decode cX5_checksum 121 = .ok (.ladd, 1) := by decide +kernel
theorem dX5_checksum_122 : decode cX5_checksum 122 = .ok (.lstore_n 1, 1) := by decide +kernel
theorem dX5_checksum_123 : decode cX5_checksum 123 = .ok (.iinc 3 1, 3) := by decide +kernel
theorem dX5_checksum_126 : decode cX5_checksum 126 = .ok (.goto (-31), 3) := by decide +kernel
theorem dX5_checksum_129 : decode cX5_checksum 129 = .ok (.ldc2_w 311, 3) := by decide +kernel
theorem dX5_checksum_132 : decode cX5_checksum 132 = .ok (.lload_n 1, 1) := by decide +kernel
theorem dX5_checksum_133 : decode cX5_checksum 133 = .ok (.lmul, 1) := by decide +kernel
theorem dX5_checksum_134 : decode cX5_checksum 134 = .ok (.aload_n 0, 1) := by decide +kernel
theorem dX5_checksum_135 : decode cX5_checksum 135 = .ok (.invokevirtual 241, 3) := by decide +kernel
theorem dX5_checksum_138 : decode cX5_checksum 138 = .ok (.i2l, 1) := by decide +kernel
theorem dX5_checksum_139 : decode cX5_checksum 139 = .ok (.ladd, 1) := by decide +kernel
theorem dX5_checksum_140 : decode cX5_checksum 140 = .ok (.lstore_n 1, 1) := by decide +kernel
theorem dX5_checksum_141 : decode cX5_checksum 141 = .ok (.ldc2_w 311, 3) := by decide +kernel
theorem dX5_checksum_144 : decode cX5_checksum 144 = .ok (.lload_n 1, 1) := by decide +kernel
theorem dX5_checksum_145 : decode cX5_checksum 145 = .ok (.lmul, 1) := by decide +kernel
theorem dX5_checksum_146 : decode cX5_checksum 146 = .ok (.aload_n 0, 1) := by decide +kernel
theorem dX5_checksum_147 : decode cX5_checksum 147 = .ok (.invokevirtual 279, 3) := by decide +kernel
theorem dX5_checksum_150 : decode cX5_checksum 150 = .ok (.i2l, 1) := by decide +kernel
theorem dX5_checksum_151 : decode cX5_checksum 151 = .ok (.ladd, 1) := by decide +kernel
theorem dX5_checksum_152 : decode cX5_checksum 152 = .ok (.lstore_n 1, 1) := by decide +kernel
theorem dX5_checksum_153 : decode cX5_checksum 153 = .ok (.ldc2_w 311, 3) := by decide +kernel
theorem dX5_checksum_156 : decode cX5_checksum 156 = .ok (.lload_n 1, 1) := by decide +kernel
theorem dX5_checksum_157 : decode cX5_checksum 157 = .ok (.lmul, 1) := by decide +kernel
theorem dX5_checksum_158 : decode cX5_checksum 158 = .ok (.aload_n 0, 1) := by decide +kernel
theorem dX5_checksum_159 : decode cX5_checksum 159 = .ok (.invokevirtual 299, 3) := by decide +kernel
theorem dX5_checksum_162 : decode cX5_checksum 162 = .ok (.i2l, 1) := by decide +kernel
theorem dX5_checksum_163 : decode cX5_checksum 163 = .ok (.ladd, 1) := by decide +kernel
theorem dX5_checksum_164 : decode cX5_checksum 164 = .ok (.lreturn, 1) := by decide +kernel
theorem dJ13_bitCount_95d88_0 : decode cJ13_bitCount_95d88 0 = .ok (.lload_n 0, 1) := by decide +kernel
theorem dJ13_bitCount_95d88_1 : decode cJ13_bitCount_95d88 1 = .ok (.lload_n 0, 1) := by decide +kernel
theorem dJ13_bitCount_95d88_2 : decode cJ13_bitCount_95d88 2 = .ok (.iconst 1, 1) := by decide +kernel
theorem dJ13_bitCount_95d88_3 : decode cJ13_bitCount_95d88 3 = .ok (.lushr, 1) := by decide +kernel
theorem dJ13_bitCount_95d88_4 : decode cJ13_bitCount_95d88 4 = .ok (.ldc2_w 314, 3) := by decide +kernel
theorem dJ13_bitCount_95d88_7 : decode cJ13_bitCount_95d88 7 = .ok (.land, 1) := by decide +kernel
theorem dJ13_bitCount_95d88_8 : decode cJ13_bitCount_95d88 8 = .ok (.lsub, 1) := by decide +kernel
theorem dJ13_bitCount_95d88_9 : decode cJ13_bitCount_95d88 9 = .ok (.lstore_n 0, 1) := by decide +kernel
theorem dJ13_bitCount_95d88_10 : decode cJ13_bitCount_95d88 10 = .ok (.lload_n 0, 1) := by decide +kernel
theorem dJ13_bitCount_95d88_11 : decode cJ13_bitCount_95d88 11 = .ok (.ldc2_w 316, 3) := by decide +kernel
theorem dJ13_bitCount_95d88_14 : decode cJ13_bitCount_95d88 14 = .ok (.land, 1) := by decide +kernel
theorem dJ13_bitCount_95d88_15 : decode cJ13_bitCount_95d88 15 = .ok (.lload_n 0, 1) := by decide +kernel
theorem dJ13_bitCount_95d88_16 : decode cJ13_bitCount_95d88 16 = .ok (.iconst 2, 1) := by decide +kernel
theorem dJ13_bitCount_95d88_17 : decode cJ13_bitCount_95d88 17 = .ok (.lushr, 1) := by decide +kernel
theorem dJ13_bitCount_95d88_18 : decode cJ13_bitCount_95d88 18 = .ok (.ldc2_w 316, 3) := by decide +kernel
theorem dJ13_bitCount_95d88_21 : decode cJ13_bitCount_95d88 21 = .ok (.land, 1) := by decide +kernel
theorem dJ13_bitCount_95d88_22 : decode cJ13_bitCount_95d88 22 = .ok (.ladd, 1) := by decide +kernel
theorem dJ13_bitCount_95d88_23 : decode cJ13_bitCount_95d88 23 = .ok (.lstore_n 0, 1) := by decide +kernel
theorem dJ13_bitCount_95d88_24 : decode cJ13_bitCount_95d88 24 = .ok (.lload_n 0, 1) := by decide +kernel
theorem dJ13_bitCount_95d88_25 : decode cJ13_bitCount_95d88 25 = .ok (.lload_n 0, 1) := by decide +kernel
theorem dJ13_bitCount_95d88_26 : decode cJ13_bitCount_95d88 26 = .ok (.iconst 4, 1) := by decide +kernel
theorem dJ13_bitCount_95d88_27 : decode cJ13_bitCount_95d88 27 = .ok (.lushr, 1) := by decide +kernel
theorem dJ13_bitCount_95d88_28 : decode cJ13_bitCount_95d88 28 = .ok (.ladd, 1) := by decide +kernel
theorem dJ13_bitCount_95d88_29 : decode cJ13_bitCount_95d88 29 = .ok (.ldc2_w 318, 3) := by decide +kernel
theorem dJ13_bitCount_95d88_32 : decode cJ13_bitCount_95d88 32 = .ok (.land, 1) := by decide +kernel
theorem dJ13_bitCount_95d88_33 : decode cJ13_bitCount_95d88 33 = .ok (.lstore_n 0, 1) := by decide +kernel
theorem dJ13_bitCount_95d88_34 : decode cJ13_bitCount_95d88 34 = .ok (.lload_n 0, 1) := by decide +kernel
theorem dJ13_bitCount_95d88_35 : decode cJ13_bitCount_95d88 35 = .ok (.lload_n 0, 1) := by decide +kernel
theorem dJ13_bitCount_95d88_36 : decode cJ13_bitCount_95d88 36 = .ok (.bipush 8, 2) := by decide +kernel
theorem dJ13_bitCount_95d88_38 : decode cJ13_bitCount_95d88 38 = .ok (.lushr, 1) := by decide +kernel
theorem dJ13_bitCount_95d88_39 : decode cJ13_bitCount_95d88 39 = .ok (.ladd, 1) := by decide +kernel
theorem dJ13_bitCount_95d88_40 : decode cJ13_bitCount_95d88 40 = .ok (.lstore_n 0, 1) := by decide +kernel
theorem dJ13_bitCount_95d88_41 : decode cJ13_bitCount_95d88 41 = .ok (.lload_n 0, 1) := by decide +kernel
theorem dJ13_bitCount_95d88_42 : decode cJ13_bitCount_95d88 42 = .ok (.lload_n 0, 1) := by decide +kernel
theorem dJ13_bitCount_95d88_43 : decode cJ13_bitCount_95d88 43 = .ok (.bipush 16, 2) := by decide +kernel
theorem dJ13_bitCount_95d88_45 : decode cJ13_bitCount_95d88 45 = .ok (.lushr, 1) := by decide +kernel
theorem dJ13_bitCount_95d88_46 : decode cJ13_bitCount_95d88 46 = .ok (.ladd, 1) := by decide +kernel
theorem dJ13_bitCount_95d88_47 : decode cJ13_bitCount_95d88 47 = .ok (.lstore_n 0, 1) := by decide +kernel
theorem dJ13_bitCount_95d88_48 : decode cJ13_bitCount_95d88 48 = .ok (.lload_n 0, 1) := by decide +kernel
theorem dJ13_bitCount_95d88_49 : decode cJ13_bitCount_95d88 49 = .ok (.lload_n 0, 1) := by decide +kernel
theorem dJ13_bitCount_95d88_50 : decode cJ13_bitCount_95d88 50 = .ok (.bipush 32, 2) := by decide +kernel
theorem dJ13_bitCount_95d88_52 : decode cJ13_bitCount_95d88 52 = .ok (.lushr, 1) := by decide +kernel
theorem dJ13_bitCount_95d88_53 : decode cJ13_bitCount_95d88 53 = .ok (.ladd, 1) := by decide +kernel
theorem dJ13_bitCount_95d88_54 : decode cJ13_bitCount_95d88 54 = .ok (.lstore_n 0, 1) := by decide +kernel
theorem dJ13_bitCount_95d88_55 : decode cJ13_bitCount_95d88 55 = .ok (.lload_n 0, 1) := by decide +kernel
theorem dJ13_bitCount_95d88_56 : decode cJ13_bitCount_95d88 56 = .ok (.l2i, 1) := by decide +kernel
theorem dJ13_bitCount_95d88_57 : decode cJ13_bitCount_95d88 57 = .ok (.bipush 127, 2) := by decide +kernel
theorem dJ13_bitCount_95d88_59 : decode cJ13_bitCount_95d88 59 = .ok (.iand, 1) := by decide +kernel
theorem dJ13_bitCount_95d88_60 : decode cJ13_bitCount_95d88 60 = .ok (.ireturn, 1) := by decide +kernel
theorem dJ9_abs_0f7a4_0 : decode cJ9_abs_0f7a4 0 = .ok (.iload_n 0, 1) := by decide +kernel
theorem dJ9_abs_0f7a4_1 : decode cJ9_abs_0f7a4 1 = .ok (.ifCond .ge 8, 3) := by decide +kernel
theorem dJ9_abs_0f7a4_4 : decode cJ9_abs_0f7a4 4 = .ok (.iload_n 0, 1) := by decide +kernel
theorem dJ9_abs_0f7a4_5 : decode cJ9_abs_0f7a4 5 = .ok (.ineg, 1) := by decide +kernel
theorem dJ9_abs_0f7a4_6 : decode cJ9_abs_0f7a4 6 = .ok (.goto 4, 3) := by decide +kernel
theorem dJ9_abs_0f7a4_9 : decode cJ9_abs_0f7a4 9 = .ok (.iload_n 0, 1) := by decide +kernel
theorem dJ9_abs_0f7a4_10 : decode cJ9_abs_0f7a4 10 = .ok (.ireturn, 1) := by decide +kernel
theorem dJ9_max_7cf53_0 : decode cJ9_max_7cf53 0 = .ok (.iload_n 0, 1) := by decide +kernel
theorem dJ9_max_7cf53_1 : decode cJ9_max_7cf53 1 = .ok (.iload_n 1, 1) := by decide +kernel
theorem dJ9_max_7cf53_2 : decode cJ9_max_7cf53 2 = .ok (.if_icmp .lt 7, 3) := by decide +kernel
theorem dJ9_max_7cf53_5 : decode cJ9_max_7cf53 5 = .ok (.iload_n 0, 1) := by decide +kernel
theorem dJ9_max_7cf53_6 : decode cJ9_max_7cf53 6 = .ok (.goto 4, 3) := by decide +kernel
theorem dJ9_max_7cf53_9 : decode cJ9_max_7cf53 9 = .ok (.iload_n 1, 1) := by decide +kernel
theorem dJ9_max_7cf53_10 : decode cJ9_max_7cf53 10 = .ok (.ireturn, 1) := by decide +kernel
theorem dJ9_min_7cf53_0 : decode cJ9_min_7cf53 0 = .ok (.iload_n 0, 1) := by decide +kernel
theorem dJ9_min_7cf53_1 : decode cJ9_min_7cf53 1 = .ok (.iload_n 1, 1) := by decide +kernel
theorem dJ9_min_7cf53_2 : decode cJ9_min_7cf53 2 = .ok (.if_icmp .gt 7, 3) := by decide +kernel
theorem dJ9_min_7cf53_5 : decode cJ9_min_7cf53 5 = .ok (.iload_n 0, 1) := by decide +kernel
theorem dJ9_min_7cf53_6 : decode cJ9_min_7cf53 6 = .ok (.goto 4, 3) := by decide +kernel
theorem dJ9_min_7cf53_9 : decode cJ9_min_7cf53 9 = .ok (.iload_n 1, 1) := by decide +kernel
theorem dJ9_min_7cf53_10 : decode cJ9_min_7cf53 10 = .ok (.ireturn, 1) := by decide +kernel
theorem dJ0_length_8abf5_0 : decode cJ0_length_8abf5 0 = .ok (.aload_n 0, 1) := by decide +kernel
theorem dJ0_length_8abf5_1 : decode cJ0_length_8abf5 1 = .ok (.getfield 9, 3) := by decide +kernel
theorem dJ0_length_8abf5_4 : decode cJ0_length_8abf5 4 = .ok (.arraylength, 1) := by decide +kernel
theorem dJ0_length_8abf5_5 : decode cJ0_length_8abf5 5 = .ok (.aload_n 0, 1) := by decide +kernel
theorem dJ0_length_8abf5_6 : decode cJ0_length_8abf5 6 = .ok (.invokevirtual 335, 3) := by decide +kernel
theorem dJ0_length_8abf5_9 : decode cJ0_length_8abf5 9 = .ok (.ishr, 1) := by decide +kernel
theorem dJ0_length_8abf5_10 : decode cJ0_length_8abf5 10 = .ok (.ireturn, 1) := by decide +kernel
theorem dJ0_charAt_5068e_0 : decode cJ0_charAt_5068e 0 = .ok (.aload_n 0, 1) := by decide +kernel
theorem dJ0_charAt_5068e_1 : decode cJ0_charAt_5068e 1 = .ok (.invokevirtual 492, 3) := by decide +kernel
theorem dJ0_charAt_5068e_4 : decode cJ0_charAt_5068e 4 = .ok (.ifCond .eq 12, 3) := by decide +kernel
theorem dJ0_charAt_5068e_7 : decode cJ0_charAt_5068e 7 = .ok (.aload_n 0, 1) := by decide +kernel
theorem dJ0_charAt_5068e_8 : decode cJ0_charAt_5068e 8 = .ok (.getfield 9, 3) := by decide +kernel
theorem dJ0_charAt_5068e_11 : decode cJ0_charAt_5068e 11 = .ok (.iload_n 1, 1) := by decide +kernel
theorem dJ0_charAt_5068e_12 : decode cJ0_charAt_5068e 12 = .ok (.invokestatic 495, 3) := by decide +kernel
theorem dJ0_charAt_5068e_15 : decode cJ0_charAt_5068e 15 = .ok (.ireturn, 1) := by decide +kernel
theorem dJ0_charAt_5068e_16 : decode cJ0_charAt_5068e 16 = .ok (.aload_n 0, 1) := by decide +kernel
theorem dJ0_charAt_5068e_17 : decode cJ0_charAt_5068e 17 = .ok (.getfield 9, 3) := by decide +kernel
theorem dJ0_charAt_5068e_20 : decode cJ0_charAt_5068e 20 = .ok (.iload_n 1, 1) := by decide +kernel
theorem dJ0_charAt_5068e_21 : decode cJ0_charAt_5068e 21 = .ok (.invokestatic 498, 3) := by decide +kernel
theorem dJ0_charAt_5068e_24 : decode cJ0_charAt_5068e 24 = .ok (.ireturn, 1) := by decide +kernel
theorem dJ0_coder_7d493_0 : decode cJ0_coder_7d493 0 = .ok (.getstatic 38, 3) := by decide +kernel
theorem dJ0_coder_7d493_3 : decode cJ0_coder_7d493 3 = .ok (.ifCond .eq 10, 3) := by decide +kernel
theorem dJ0_coder_7d493_6 : decode cJ0_coder_7d493 6 = .ok (.aload_n 0, 1) := by decide +kernel
theorem dJ0_coder_7d493_7 : decode cJ0_coder_7d493 7 = .ok (.getfield 15, 3) := by decide +kernel
theorem dJ0_coder_7d493_10 : decode cJ0_coder_7d493 10 = .ok (.goto 4, 3) := by decide +kernel
theorem dJ0_coder_7d493_13 : decode cJ0_coder_7d493 13 = .ok (.iconst 1, 1) := by decide +kernel
theorem dJ0_coder_7d493_14 : decode cJ0_coder_7d493 14 = .ok (.ireturn, 1) := by decide +kernel
theorem dJ0_isLatin1_aae02_0 : decode cJ0_isLatin1_aae02 0 = .ok (.getstatic 38, 3) := by decide +kernel
theorem dJ0_isLatin1_aae02_3 : decode cJ0_isLatin1_aae02 3 = .ok (.ifCond .eq 14, 3) := by decide +kernel
theorem dJ0_isLatin1_aae02_6 : decode cJ0_isLatin1_aae02 6 = .ok (.aload_n 0, 1) := by decide +kernel
theorem dJ0_isLatin1_aae02_7 : decode cJ0_isLatin1_aae02 7 = .ok (.getfield 15, 3) := by decide +kernel
theorem dJ0_isLatin1_aae02_10 : decode cJ0_isLatin1_aae02 10 = .ok (.ifCond .ne 7, 3) := by decide +kernel
theorem dJ0_isLatin1_aae02_13 : decode cJ0_isLatin1_aae02 13 = .ok (.iconst 1, 1) := by decide +kernel
theorem dJ0_isLatin1_aae02_14 : decode cJ0_isLatin1_aae02 14 = .ok (.goto 4, 3) := by decide +kernel
theorem dJ0_isLatin1_aae02_17 : decode cJ0_isLatin1_aae02 17 = .ok (.iconst 0, 1) := by decide +kernel
theorem dJ0_isLatin1_aae02_18 : decode cJ0_isLatin1_aae02 18 = .ok (.ireturn, 1) := by decide +kernel
theorem dJ0_checkIndex_df160_0 : decode cJ0_checkIndex_df160 0 = .ok (.iload_n 0, 1) := by decide +kernel
theorem dJ0_checkIndex_df160_1 : decode cJ0_checkIndex_df160 1 = .ok (.iload_n 1, 1) := by decide +kernel
theorem dJ0_checkIndex_df160_2 : decode cJ0_checkIndex_df160 2 = .ok (.getstatic 1053, 3) := by decide +kernel
theorem dJ0_checkIndex_df160_5 : decode cJ0_checkIndex_df160 5 = .ok (.invokestatic 1059, 3) := by decide +kernel
theorem dJ0_checkIndex_df160_8 : decode cJ0_checkIndex_df160 8 = .ok (.pop, 1) := by decide +kernel
theorem dJ0_checkIndex_df160_9 : decode cJ0_checkIndex_df160 9 = .ok (.return_, 1) := by decide +kernel
theorem dJ1_charAt_3b067_0 : decode cJ1_charAt_3b067 0 = .ok (.iload_n 1, 1) := by decide +kernel
theorem dJ1_charAt_3b067_1 : decode cJ1_charAt_3b067 1 = .ok (.aload_n 0, 1) := by decide +kernel
theorem dJ1_charAt_3b067_2 : decode cJ1_charAt_3b067 2 = .ok (.arraylength, 1) := by decide +kernel
theorem dJ1_charAt_3b067_3 : decode cJ1_charAt_3b067 3 = .ok (.invokestatic 9, 3) := by decide +kernel
theorem dJ1_charAt_3b067_6 : decode cJ1_charAt_3b067 6 = .ok (.aload_n 0, 1) := by decide +kernel
theorem dJ1_charAt_3b067_7 : decode cJ1_charAt_3b067 7 = .ok (.iload_n 1, 1) := by decide +kernel
theorem dJ1_charAt_3b067_8 : decode cJ1_charAt_3b067 8 = .ok (.baload, 1) := by decide +kernel
theorem dJ1_charAt_3b067_9 : decode cJ1_charAt_3b067 9 = .ok (.sipush 255, 3) := by decide +kernel
theorem dJ1_charAt_3b067_12 : decode cJ1_charAt_3b067 12 = .ok (.iand, 1) := by decide +kernel
theorem dJ1_charAt_3b067_13 : decode cJ1_charAt_3b067 13 = .ok (.i2c, 1) := by decide +kernel
theorem dJ1_charAt_3b067_14 : decode cJ1_charAt_3b067 14 = .ok (.ireturn, 1) := by decide +kernel
theorem dJ2_getChar_3b067_0 : decode cJ2_getChar_3b067 0 = .ok (.getstatic 44, 3) := by decide +kernel
theorem dJ2_getChar_3b067_3 : decode cJ2_getChar_3b067 3 = .ok (.ifCond .ne 25, 3) := by decide +kernel
theorem dJ2_getChar_3b067_6 : decode cJ2_getChar_3b067 6 = .ok (.iload_n 1, 1) := by decide +kernel
theorem dJ2_getChar_3b067_7 : decode cJ2_getChar_3b067 7 = .ok (.ifCond .lt 11, 3) := by decide +kernel
theorem dJ2_getChar_3b067_10 : decode cJ2_getChar_3b067 10 = .ok (.iload_n 1, 1) := by decide +kernel
theorem dJ2_getChar_3b067_11 : decode cJ2_getChar_3b067 11 = .ok (.aload_n 0, 1) := by decide +kernel
theorem dJ2_getChar_3b067_12 : decode cJ2_getChar_3b067 12 = .ok (.invokestatic 48, 3) := by decide +kernel
theorem dJ2_getChar_3b067_15 : decode cJ2_getChar_3b067 15 = .ok (.if_icmp .lt 13, 3) := by decide +kernel
theorem dJ2_getChar_3b067_18 : decode cJ2_getChar_3b067 18 = .ok (.new 52, 3) := by decide +kernel
theorem dJ2_getChar_3b067_21 : decode cJ2_getChar_3b067 21 = .ok (.dup, 1) := by decide +kernel
theorem dJ2_getChar_3b067_22 : decode cJ2_getChar_3b067 22 = .ok (.ldc 54, 2) := by decide +kernel
theorem dJ2_getChar_3b067_24 : decode cJ2_getChar_3b067 24 = .ok (.invokespecial 56, 3) := by decide +kernel
theorem dJ2_getChar_3b067_27 : decode cJ2_getChar_3b067 27 = .ok (.athrow, 1) := by decide +kernel
theorem dJ2_getChar_3b067_28 : decode cJ2_getChar_3b067 28 = .ok (.iload_n 1, 1) := by decide +kernel
theorem dJ2_getChar_3b067_29 : decode cJ2_getChar_3b067 29 = .ok (.iconst 1, 1) := by decide +kernel
theorem dJ2_getChar_3b067_30 : decode cJ2_getChar_3b067 30 = .ok (.ishl, 1) := by decide +kernel
theorem dJ2_getChar_3b067_31 : decode cJ2_getChar_3b067 31 = .ok (.istore_n 1, 1) := by decide +kernel
theorem dJ2_getChar_3b067_32 : decode cJ2_getChar_3b067 32 = .ok (.aload_n 0, 1) := by decide +kernel
theorem dJ2_getChar_3b067_33 : decode cJ2_getChar_3b067 33 = .ok (.iload_n 1, 1) := by decide +kernel
theorem dJ2_getChar_3b067_34 : decode cJ2_getChar_3b067 34 = .ok (.iinc 1 1, 3) := by decide +kernel
theorem dJ2_getChar_3b067_37 : decode cJ2_getChar_3b067 37 = .ok (.baload, 1) := by decide +kernel
theorem dJ2_getChar_3b067_38 : decode cJ2_getChar_3b067 38 = .ok (.sipush 255, 3) := by decide +kernel
theorem dJ2_getChar_3b067_41 : decode cJ2_getChar_3b067 41 = .ok (.iand, 1) := by decide +kernel
theorem dJ2_getChar_3b067_42 : decode cJ2_getChar_3b067 42 = .ok (.getstatic 59, 3) := by decide +kernel
theorem dJ2_getChar_3b067_45 : decode cJ2_getChar_3b067 45 = .ok (.ishl, 1) := by decide +kernel
theorem dJ2_getChar_3b067_46 : decode cJ2_getChar_3b067 46 = .ok (.aload_n 0, 1) := by decide +kernel
theorem dJ2_getChar_3b067_47 : decode cJ2_getChar_3b067 47 = .ok (.iload_n 1, 1) := by decide +kernel
theorem dJ2_getChar_3b067_48 : decode cJ2_getChar_3b067 48 = .ok (.baload, 1) := by decide +kernel
theorem dJ2_getChar_3b067_49 : decode cJ2_getChar_3b067 49 = .ok (.sipush 255, 3) := by decide +kernel
theorem dJ2_getChar_3b067_52 : decode cJ2_getChar_3b067 52 = .ok (.iand, 1) := by decide +kernel
theorem dJ2_getChar_3b067_53 : decode cJ2_getChar_3b067 53 = .ok (.getstatic 63, 3) := by decide +kernel
theorem dJ2_getChar_3b067_56 : decode cJ2_getChar_3b067 56 = .ok (.ishl, 1) := by decide +kernel
theorem dJ2_getChar_3b067_57 : decode cJ2_getChar_3b067 57 = .ok (.ior, 1) := by decide +kernel
theorem dJ2_getChar_3b067_58 : decode cJ2_getChar_3b067 58 = .ok (.i2c, 1) := by decide +kernel
theorem dJ2_getChar_3b067_59 : decode cJ2_getChar_3b067 59 = .ok (.ireturn, 1) := by decide +kernel
theorem dJ2_length_9d52b_0 : decode cJ2_length_9d52b 0 = .ok (.aload_n 0, 1) := by decide +kernel
theorem dJ2_length_9d52b_1 : decode cJ2_length_9d52b 1 = .ok (.arraylength, 1) := by decide +kernel
theorem dJ2_length_9d52b_2 : decode cJ2_length_9d52b 2 = .ok (.iconst 1, 1) := by decide +kernel
theorem dJ2_length_9d52b_3 : decode cJ2_length_9d52b 3 = .ok (.ishr, 1) := by decide +kernel
theorem dJ2_length_9d52b_4 : decode cJ2_length_9d52b 4 = .ok (.ireturn, 1) := by decide +kernel
theorem dJ2_charAt_3b067_0 : decode cJ2_charAt_3b067 0 = .ok (.iload_n 1, 1) := by decide +kernel
theorem dJ2_charAt_3b067_1 : decode cJ2_charAt_3b067 1 = .ok (.aload_n 0, 1) := by decide +kernel
theorem dJ2_charAt_3b067_2 : decode cJ2_charAt_3b067 2 = .ok (.invokestatic 67, 3) := by decide +kernel
theorem dJ2_charAt_3b067_5 : decode cJ2_charAt_3b067 5 = .ok (.aload_n 0, 1) := by decide +kernel
theorem dJ2_charAt_3b067_6 : decode cJ2_charAt_3b067 6 = .ok (.iload_n 1, 1) := by decide +kernel
theorem dJ2_charAt_3b067_7 : decode cJ2_charAt_3b067 7 = .ok (.invokestatic 71, 3) := by decide +kernel
theorem dJ2_charAt_3b067_10 : decode cJ2_charAt_3b067 10 = .ok (.ireturn, 1) := by decide +kernel
theorem dJ2_checkIndex_2214a_0 : decode cJ2_checkIndex_2214a 0 = .ok (.iload_n 0, 1) := by decide +kernel
theorem dJ2_checkIndex_2214a_1 : decode cJ2_checkIndex_2214a 1 = .ok (.aload_n 1, 1) := by decide +kernel
theorem dJ2_checkIndex_2214a_2 : decode cJ2_checkIndex_2214a 2 = .ok (.invokestatic 48, 3) := by decide +kernel
theorem dJ2_checkIndex_2214a_5 : decode cJ2_checkIndex_2214a 5 = .ok (.invokestatic 414, 3) := by decide +kernel
theorem dJ2_checkIndex_2214a_8 : decode cJ2_checkIndex_2214a 8 = .ok (.return_, 1) := by decide +kernel
theorem dJ7_fill_53178_0 : decode cJ7_fill_53178 0 = .ok (.iconst 0, 1) := by decide +kernel
theorem dJ7_fill_53178_1 : decode cJ7_fill_53178 1 = .ok (.istore_n 2, 1) := by decide +kernel
theorem dJ7_fill_53178_2 : decode cJ7_fill_53178 2 = .ok (.aload_n 0, 1) := by decide +kernel
theorem dJ7_fill_53178_3 : decode cJ7_fill_53178 3 = .ok (.arraylength, 1) := by decide +kernel
theorem dJ7_fill_53178_4 : decode cJ7_fill_53178 4 = .ok (.istore_n 3, 1) := by decide +kernel
theorem dJ7_fill_53178_5 : decode cJ7_fill_53178 5 = .ok (.iload_n 2, 1) := by decide +kernel
theorem dJ7_fill_53178_6 : decode cJ7_fill_53178 6 = .ok (.iload_n 3, 1) := by decide +kernel
theorem dJ7_fill_53178_7 : decode cJ7_fill_53178 7 = .ok (.if_icmp .ge 13, 3) := by decide +kernel
theorem dJ7_fill_53178_10 : decode cJ7_fill_53178 10 = .ok (.aload_n 0, 1) := by decide +kernel
theorem dJ7_fill_53178_11 : decode cJ7_fill_53178 11 = .ok (.iload_n 2, 1) := by decide +kernel
theorem dJ7_fill_53178_12 : decode cJ7_fill_53178 12 = .ok (.iload_n 1, 1) := by decide +kernel
theorem dJ7_fill_53178_13 : decode cJ7_fill_53178 13 = .ok (.iastore, 1) := by decide +kernel
theorem dJ7_fill_53178_14 : decode cJ7_fill_53178 14 = .ok (.iinc 2 1, 3) := by decide +kernel
theorem dJ7_fill_53178_17 : decode cJ7_fill_53178 17 = .ok (.goto (-12), 3) := by decide +kernel
theorem dJ7_fill_53178_20 : decode cJ7_fill_53178 20 = .ok (.return_, 1) := by decide +kernel
theorem dJ3_checkIndex_8e157_0 : decode cJ3_checkIndex_8e157 0 = .ok (.iload_n 0, 1) := by decide +kernel
theorem dJ3_checkIndex_8e157_1 : decode cJ3_checkIndex_8e157 1 = .ok (.ifCond .lt 8, 3) := by decide +kernel
theorem dJ3_checkIndex_8e157_4 : decode cJ3_checkIndex_8e157 4 = .ok (.iload_n 0, 1) := by decide +kernel
theorem dJ3_checkIndex_8e157_5 : decode cJ3_checkIndex_8e157 5 = .ok (.iload_n 1, 1) := by decide +kernel
theorem dJ3_checkIndex_8e157_6 : decode cJ3_checkIndex_8e157 6 = .ok (.if_icmp .lt 10, 3) := by decide +kernel
theorem dJ3_checkIndex_8e157_9 : decode cJ3_checkIndex_8e157 9 = .ok (.aload_n 2, 1) := by decide +kernel
theorem dJ3_checkIndex_8e157_10 : decode cJ3_checkIndex_8e157 10 = .ok (.iload_n 0, 1) := by decide +kernel
theorem dJ3_checkIndex_8e157_11 : decode cJ3_checkIndex_8e157 11 = .ok (.iload_n 1, 1) := by decide +kernel
theorem dJ3_checkIndex_8e157_12 : decode cJ3_checkIndex_8e157 12 = .ok (.invokestatic 95, 3) := by decide +kernel
theorem dJ3_checkIndex_8e157_15 : decode cJ3_checkIndex_8e157 15 = .ok (.athrow, 1) := by decide +kernel
theorem dJ3_checkIndex_8e157_16 : decode cJ3_checkIndex_8e157 16 = .ok (.iload_n 0, 1) := by decide +kernel
theorem dJ3_checkIndex_8e157_17 : decode cJ3_checkIndex_8e157 17 = .ok (.ireturn, 1) := by decide +kernel
theorem dL_load_0 : decode cL_load 0 = .ok (.aload_n 2, 1) := by decide +kernel
theorem dL_load_1 : decode cL_load 1 = .ok (.iconst 0, 1) := by decide +kernel
theorem dL_load_2 : decode cL_load 2 = .ok (.aload_n 0, 1) := by decide +kernel
theorem dL_load_3 : decode cL_load 3 = .ok (.iload_n 1, 1) := by decide +kernel
theorem dL_load_4 : decode cL_load 4 = .ok (.invokevirtual 7, 3) := by decide +kernel
theorem dL_load_7 : decode cL_load 7 = .ok (.i2l, 1) := by decide +kernel
theorem dL_load_8 : decode cL_load 8 = .ok (.lastore, 1) := by decide +kernel
theorem dL_load_9 : decode cL_load 9 = .ok (.goto 6, 3) := by decide +kernel
theorem dL_load_12 : decode cL_load 12 = .ok (.astore_n 3, 1) := by decide +kernel
theorem dL_load_13 : decode cL_load 13 = .ok (.iconst 1, 1) := by decide +kernel
theorem dL_load_14 : decode cL_load 14 = .ok (.ireturn, 1) := by decide +kernel
theorem dL_load_15 : decode cL_load 15 = .ok (.iconst 0, 1) := by decide +kernel
theorem dL_load_16 : decode cL_load 16 = .ok (.ireturn, 1) := by decide +kernel
theorem dL_state_0 : decode cL_state 0 = .ok (.aload_n 2, 1) := by decide +kernel
theorem dL_state_1 : decode cL_state 1 = .ok (.iconst 0, 1) := by decide +kernel
theorem dL_state_2 : decode cL_state 2 = .ok (.aload_n 0, 1) := by decide +kernel
theorem dL_state_3 : decode cL_state 3 = .ok (.iload_n 1, 1) := by decide +kernel
theorem dL_state_4 : decode cL_state 4 = .ok (.invokevirtual 15, 3) := by decide +kernel
theorem dL_state_7 : decode cL_state 7 = .ok (.i2l, 1) := by decide +kernel
theorem dL_state_8 : decode cL_state 8 = .ok (.lastore, 1) := by decide +kernel
theorem dL_state_9 : decode cL_state 9 = .ok (.goto 6, 3) := by decide +kernel
theorem dL_state_12 : decode cL_state 12 = .ok (.astore_n 3, 1) := by decide +kernel
theorem dL_state_13 : decode cL_state 13 = .ok (.iconst 1, 1) := by decide +kernel
theorem dL_state_14 : decode cL_state 14 = .ok (.ireturn, 1) := by decide +kernel
theorem dL_state_15 : decode cL_state 15 = .ok (.iconst 0, 1) := by decide +kernel
theorem dL_state_16 : decode cL_state 16 = .ok (.ireturn, 1) := by decide +kernel
theorem dL_letter_0 : decode cL_letter 0 = .ok (.aload_n 3, 1) := by decide +kernel
theorem dL_letter_1 : decode cL_letter 1 = .ok (.iconst 0, 1) := by decide +kernel
theorem dL_letter_2 : decode cL_letter 2 = .ok (.aload_n 0, 1) := by decide +kernel
theorem dL_letter_3 : decode cL_letter 3 = .ok (.iload_n 1, 1) := by decide +kernel
theorem dL_letter_4 : decode cL_letter 4 = .ok (.iload_n 2, 1) := by decide +kernel
theorem dL_letter_5 : decode cL_letter 5 = .ok (.invokevirtual 18, 3) := by decide +kernel
theorem dL_letter_8 : decode cL_letter 8 = .ok (.i2l, 1) := by decide +kernel
theorem dL_letter_9 : decode cL_letter 9 = .ok (.lastore, 1) := by decide +kernel
theorem dL_letter_10 : decode cL_letter 10 = .ok (.goto 7, 3) := by decide +kernel
theorem dL_letter_13 : decode cL_letter 13 = .ok (.astore 4, 2) := by decide +kernel
theorem dL_letter_15 : decode cL_letter 15 = .ok (.iconst 1, 1) := by decide +kernel
theorem dL_letter_16 : decode cL_letter 16 = .ok (.ireturn, 1) := by decide +kernel
theorem dL_letter_17 : decode cL_letter 17 = .ok (.iconst 0, 1) := by decide +kernel
theorem dL_letter_18 : decode cL_letter 18 = .ok (.ireturn, 1) := by decide +kernel
theorem dL_place_0 : decode cL_place 0 = .ok (.aload 4, 2) := by decide +kernel
theorem dL_place_2 : decode cL_place 2 = .ok (.iconst 0, 1) := by decide +kernel
theorem dL_place_3 : decode cL_place 3 = .ok (.aload_n 0, 1) := by decide +kernel
theorem dL_place_4 : decode cL_place 4 = .ok (.iload_n 1, 1) := by decide +kernel
theorem dL_place_5 : decode cL_place 5 = .ok (.iload_n 2, 1) := by decide +kernel
theorem dL_place_6 : decode cL_place 6 = .ok (.iload_n 3, 1) := by decide +kernel
theorem dL_place_7 : decode cL_place 7 = .ok (.invokevirtual 24, 3) := by decide +kernel
theorem dL_place_10 : decode cL_place 10 = .ok (.i2l, 1) := by decide +kernel
theorem dL_place_11 : decode cL_place 11 = .ok (.lastore, 1) := by decide +kernel
theorem dL_place_12 : decode cL_place 12 = .ok (.goto 11, 3) := by decide +kernel
theorem dL_place_15 : decode cL_place 15 = .ok (.astore 5, 2) := by decide +kernel
theorem dL_place_17 : decode cL_place 17 = .ok (.iconst 1, 1) := by decide +kernel
theorem dL_place_18 : decode cL_place 18 = .ok (.ireturn, 1) := by decide +kernel
theorem dL_place_19 : decode cL_place 19 = .ok (.astore 5, 2) := by decide +kernel
theorem dL_place_21 : decode cL_place 21 = .ok (.iconst 2, 1) := by decide +kernel
theorem dL_place_22 : decode cL_place 22 = .ok (.ireturn, 1) := by decide +kernel
theorem dL_place_23 : decode cL_place 23 = .ok (.iconst 0, 1) := by decide +kernel
theorem dL_place_24 : decode cL_place 24 = .ok (.ireturn, 1) := by decide +kernel
theorem dL_stock_0 : decode cL_stock 0 = .ok (.aload_n 3, 1) := by decide +kernel
theorem dL_stock_1 : decode cL_stock 1 = .ok (.iconst 0, 1) := by decide +kernel
theorem dL_stock_2 : decode cL_stock 2 = .ok (.aload_n 0, 1) := by decide +kernel
theorem dL_stock_3 : decode cL_stock 3 = .ok (.iload_n 1, 1) := by decide +kernel
theorem dL_stock_4 : decode cL_stock 4 = .ok (.iload_n 2, 1) := by decide +kernel
theorem dL_stock_5 : decode cL_stock 5 = .ok (.invokevirtual 28, 3) := by decide +kernel
theorem dL_stock_8 : decode cL_stock 8 = .ok (.i2l, 1) := by decide +kernel
theorem dL_stock_9 : decode cL_stock 9 = .ok (.lastore, 1) := by decide +kernel
theorem dL_stock_10 : decode cL_stock 10 = .ok (.goto 7, 3) := by decide +kernel
theorem dL_stock_13 : decode cL_stock 13 = .ok (.astore 4, 2) := by decide +kernel
theorem dL_stock_15 : decode cL_stock 15 = .ok (.iconst 1, 1) := by decide +kernel
theorem dL_stock_16 : decode cL_stock 16 = .ok (.ireturn, 1) := by decide +kernel
theorem dL_stock_17 : decode cL_stock 17 = .ok (.iconst 0, 1) := by decide +kernel
theorem dL_stock_18 : decode cL_stock 18 = .ok (.ireturn, 1) := by decide +kernel
theorem dL_message_0 : decode cL_message 0 = .ok (.aload_n 2, 1) := by decide +kernel
theorem dL_message_1 : decode cL_message 1 = .ok (.iconst 0, 1) := by decide +kernel
theorem dL_message_2 : decode cL_message 2 = .ok (.aload_n 0, 1) := by decide +kernel
theorem dL_message_3 : decode cL_message 3 = .ok (.iload_n 1, 1) := by decide +kernel
theorem dL_message_4 : decode cL_message 4 = .ok (.invokevirtual 31, 3) := by decide +kernel
theorem dL_message_7 : decode cL_message 7 = .ok (.i2l, 1) := by decide +kernel
theorem dL_message_8 : decode cL_message 8 = .ok (.lastore, 1) := by decide +kernel
theorem dL_message_9 : decode cL_message 9 = .ok (.goto 6, 3) := by decide +kernel
theorem dL_message_12 : decode cL_message 12 = .ok (.astore_n 3, 1) := by decide +kernel
theorem dL_message_13 : decode cL_message 13 = .ok (.iconst 1, 1) := by decide +kernel
theorem dL_message_14 : decode cL_message 14 = .ok (.ireturn, 1) := by decide +kernel
theorem dL_message_15 : decode cL_message 15 = .ok (.iconst 0, 1) := by decide +kernel
theorem dL_message_16 : decode cL_message 16 = .ok (.ireturn, 1) := by decide +kernel
theorem dL_cutOf_0 : decode cL_cutOf 0 = .ok (.aload_n 3, 1) := by decide +kernel
theorem dL_cutOf_1 : decode cL_cutOf 1 = .ok (.iconst 0, 1) := by decide +kernel
theorem dL_cutOf_2 : decode cL_cutOf 2 = .ok (.aload_n 0, 1) := by decide +kernel
theorem dL_cutOf_3 : decode cL_cutOf 3 = .ok (.iload_n 1, 1) := by decide +kernel
theorem dL_cutOf_4 : decode cL_cutOf 4 = .ok (.iload_n 2, 1) := by decide +kernel
theorem dL_cutOf_5 : decode cL_cutOf 5 = .ok (.invokevirtual 36, 3) := by decide +kernel
theorem dL_cutOf_8 : decode cL_cutOf 8 = .ok (.i2l, 1) := by decide +kernel
theorem dL_cutOf_9 : decode cL_cutOf 9 = .ok (.lastore, 1) := by decide +kernel
theorem dL_cutOf_10 : decode cL_cutOf 10 = .ok (.goto 11, 3) := by decide +kernel
theorem dL_cutOf_13 : decode cL_cutOf 13 = .ok (.astore 4, 2) := by decide +kernel
theorem dL_cutOf_15 : decode cL_cutOf 15 = .ok (.iconst 1, 1) := by decide +kernel
theorem dL_cutOf_16 : decode cL_cutOf 16 = .ok (.ireturn, 1) := by decide +kernel
theorem dL_cutOf_17 : decode cL_cutOf 17 = .ok (.astore 4, 2) := by decide +kernel
theorem dL_cutOf_19 : decode cL_cutOf 19 = .ok (.iconst 2, 1) := by decide +kernel
theorem dL_cutOf_20 : decode cL_cutOf 20 = .ok (.ireturn, 1) := by decide +kernel
theorem dL_cutOf_21 : decode cL_cutOf 21 = .ok (.iconst 0, 1) := by decide +kernel
theorem dL_cutOf_22 : decode cL_cutOf 22 = .ok (.ireturn, 1) := by decide +kernel
theorem dL_longest_0 : decode cL_longest 0 = .ok (.aload_n 2, 1) := by decide +kernel
theorem dL_longest_1 : decode cL_longest 1 = .ok (.iconst 0, 1) := by decide +kernel
theorem dL_longest_2 : decode cL_longest 2 = .ok (.aload_n 0, 1) := by decide +kernel
theorem dL_longest_3 : decode cL_longest 3 = .ok (.iload_n 1, 1) := by decide +kernel
theorem dL_longest_4 : decode cL_longest 4 = .ok (.invokevirtual 39, 3) := by decide +kernel
theorem dL_longest_7 : decode cL_longest 7 = .ok (.i2l, 1) := by decide +kernel
theorem dL_longest_8 : decode cL_longest 8 = .ok (.lastore, 1) := by decide +kernel
theorem dL_longest_9 : decode cL_longest 9 = .ok (.goto 6, 3) := by decide +kernel
theorem dL_longest_12 : decode cL_longest 12 = .ok (.astore_n 3, 1) := by decide +kernel
theorem dL_longest_13 : decode cL_longest 13 = .ok (.iconst 1, 1) := by decide +kernel
theorem dL_longest_14 : decode cL_longest 14 = .ok (.ireturn, 1) := by decide +kernel
theorem dL_longest_15 : decode cL_longest 15 = .ok (.iconst 0, 1) := by decide +kernel
theorem dL_longest_16 : decode cL_longest 16 = .ok (.ireturn, 1) := by decide +kernel
theorem dL_tell_0 : decode cL_tell 0 = .ok (.aload_n 2, 1) := by decide +kernel
theorem dL_tell_1 : decode cL_tell 1 = .ok (.iconst 0, 1) := by decide +kernel
theorem dL_tell_2 : decode cL_tell 2 = .ok (.aload_n 0, 1) := by decide +kernel
theorem dL_tell_3 : decode cL_tell 3 = .ok (.iload_n 1, 1) := by decide +kernel
theorem dL_tell_4 : decode cL_tell 4 = .ok (.invokevirtual 42, 3) := by decide +kernel
theorem dL_tell_7 : decode cL_tell 7 = .ok (.i2l, 1) := by decide +kernel
theorem dL_tell_8 : decode cL_tell 8 = .ok (.lastore, 1) := by decide +kernel
theorem dL_tell_9 : decode cL_tell 9 = .ok (.goto 6, 3) := by decide +kernel
theorem dL_tell_12 : decode cL_tell 12 = .ok (.astore_n 3, 1) := by decide +kernel
theorem dL_tell_13 : decode cL_tell 13 = .ok (.iconst 1, 1) := by decide +kernel
theorem dL_tell_14 : decode cL_tell 14 = .ok (.ireturn, 1) := by decide +kernel
theorem dL_tell_15 : decode cL_tell 15 = .ok (.iconst 0, 1) := by decide +kernel
theorem dL_tell_16 : decode cL_tell 16 = .ok (.ireturn, 1) := by decide +kernel
theorem dL_cut_0 : decode cL_cut 0 = .ok (.aload_n 1, 1) := by decide +kernel
theorem dL_cut_1 : decode cL_cut 1 = .ok (.iconst 0, 1) := by decide +kernel
theorem dL_cut_2 : decode cL_cut 2 = .ok (.aload_n 0, 1) := by decide +kernel
theorem dL_cut_3 : decode cL_cut 3 = .ok (.invokevirtual 45, 3) := by decide +kernel
theorem dL_cut_6 : decode cL_cut 6 = .ok (.i2l, 1) := by decide +kernel
theorem dL_cut_7 : decode cL_cut 7 = .ok (.lastore, 1) := by decide +kernel
theorem dL_cut_8 : decode cL_cut 8 = .ok (.goto 6, 3) := by decide +kernel
theorem dL_cut_11 : decode cL_cut 11 = .ok (.astore_n 2, 1) := by decide +kernel
theorem dL_cut_12 : decode cL_cut 12 = .ok (.iconst 1, 1) := by decide +kernel
theorem dL_cut_13 : decode cL_cut 13 = .ok (.ireturn, 1) := by decide +kernel
theorem dL_cut_14 : decode cL_cut 14 = .ok (.iconst 0, 1) := by decide +kernel
theorem dL_cut_15 : decode cL_cut 15 = .ok (.ireturn, 1) := by decide +kernel
theorem dL_snip_0 : decode cL_snip 0 = .ok (.aload 4, 2) := by decide +kernel
theorem dL_snip_2 : decode cL_snip 2 = .ok (.iconst 0, 1) := by decide +kernel
theorem dL_snip_3 : decode cL_snip 3 = .ok (.aload_n 0, 1) := by decide +kernel
theorem dL_snip_4 : decode cL_snip 4 = .ok (.iload_n 1, 1) := by decide +kernel
theorem dL_snip_5 : decode cL_snip 5 = .ok (.iload_n 2, 1) := by decide +kernel
theorem dL_snip_6 : decode cL_snip 6 = .ok (.iload_n 3, 1) := by decide +kernel
theorem dL_snip_7 : decode cL_snip 7 = .ok (.invokevirtual 51, 3) := by decide +kernel
theorem dL_snip_10 : decode cL_snip 10 = .ok (.i2l, 1) := by decide +kernel
theorem dL_snip_11 : decode cL_snip 11 = .ok (.lastore, 1) := by decide +kernel
theorem dL_snip_12 : decode cL_snip 12 = .ok (.goto 15, 3) := by decide +kernel
theorem dL_snip_15 : decode cL_snip 15 = .ok (.astore 5, 2) := by decide +kernel
theorem dL_snip_17 : decode cL_snip 17 = .ok (.iconst 1, 1) := by decide +kernel
theorem dL_snip_18 : decode cL_snip 18 = .ok (.ireturn, 1) := by decide +kernel
theorem dL_snip_19 : decode cL_snip 19 = .ok (.astore 5, 2) := by decide +kernel
theorem dL_snip_21 : decode cL_snip 21 = .ok (.iconst 2, 1) := by decide +kernel
theorem dL_snip_22 : decode cL_snip 22 = .ok (.ireturn, 1) := by decide +kernel
theorem dL_snip_23 : decode cL_snip 23 = .ok (.astore 5, 2) := by decide +kernel
theorem dL_snip_25 : decode cL_snip 25 = .ok (.iconst 3, 1) := by decide +kernel
theorem dL_snip_26 : decode cL_snip 26 = .ok (.ireturn, 1) := by decide +kernel
theorem dL_snip_27 : decode cL_snip 27 = .ok (.iconst 0, 1) := by decide +kernel
theorem dL_snip_28 : decode cL_snip 28 = .ok (.ireturn, 1) := by decide +kernel
theorem dL_least_0 : decode cL_least 0 = .ok (.aload_n 2, 1) := by decide +kernel
theorem dL_least_1 : decode cL_least 1 = .ok (.iconst 0, 1) := by decide +kernel
theorem dL_least_2 : decode cL_least 2 = .ok (.aload_n 0, 1) := by decide +kernel
theorem dL_least_3 : decode cL_least 3 = .ok (.iload_n 1, 1) := by decide +kernel
theorem dL_least_4 : decode cL_least 4 = .ok (.invokevirtual 54, 3) := by decide +kernel
theorem dL_least_7 : decode cL_least 7 = .ok (.i2l, 1) := by decide +kernel
theorem dL_least_8 : decode cL_least 8 = .ok (.lastore, 1) := by decide +kernel
theorem dL_least_9 : decode cL_least 9 = .ok (.goto 6, 3) := by decide +kernel
theorem dL_least_12 : decode cL_least 12 = .ok (.astore_n 3, 1) := by decide +kernel
theorem dL_least_13 : decode cL_least 13 = .ok (.iconst 1, 1) := by decide +kernel
theorem dL_least_14 : decode cL_least 14 = .ok (.ireturn, 1) := by decide +kernel
theorem dL_least_15 : decode cL_least 15 = .ok (.iconst 0, 1) := by decide +kernel
theorem dL_least_16 : decode cL_least 16 = .ok (.ireturn, 1) := by decide +kernel
theorem dL_mend_0 : decode cL_mend 0 = .ok (.aload_n 2, 1) := by decide +kernel
theorem dL_mend_1 : decode cL_mend 1 = .ok (.iconst 0, 1) := by decide +kernel
theorem dL_mend_2 : decode cL_mend 2 = .ok (.aload_n 0, 1) := by decide +kernel
theorem dL_mend_3 : decode cL_mend 3 = .ok (.iload_n 1, 1) := by decide +kernel
theorem dL_mend_4 : decode cL_mend 4 = .ok (.invokevirtual 57, 3) := by decide +kernel
theorem dL_mend_7 : decode cL_mend 7 = .ok (.i2l, 1) := by decide +kernel
theorem dL_mend_8 : decode cL_mend 8 = .ok (.lastore, 1) := by decide +kernel
theorem dL_mend_9 : decode cL_mend 9 = .ok (.goto 9, 3) := by decide +kernel
theorem dL_mend_12 : decode cL_mend 12 = .ok (.astore_n 3, 1) := by decide +kernel
theorem dL_mend_13 : decode cL_mend 13 = .ok (.iconst 1, 1) := by decide +kernel
theorem dL_mend_14 : decode cL_mend 14 = .ok (.ireturn, 1) := by decide +kernel
theorem dL_mend_15 : decode cL_mend 15 = .ok (.astore_n 3, 1) := by decide +kernel
theorem dL_mend_16 : decode cL_mend 16 = .ok (.iconst 2, 1) := by decide +kernel
theorem dL_mend_17 : decode cL_mend 17 = .ok (.ireturn, 1) := by decide +kernel
theorem dL_mend_18 : decode cL_mend 18 = .ok (.iconst 0, 1) := by decide +kernel
theorem dL_mend_19 : decode cL_mend 19 = .ok (.ireturn, 1) := by decide +kernel
theorem dL_law_0 : decode cL_law 0 = .ok (.new 8, 3) := by decide +kernel
theorem dL_law_3 : decode cL_law 3 = .ok (.dup, 1) := by decide +kernel
theorem dL_law_4 : decode cL_law 4 = .ok (.invokespecial 60, 3) := by decide +kernel
theorem dL_law_7 : decode cL_law 7 = .ok (.astore_n 1, 1) := by decide +kernel
theorem dL_law_8 : decode cL_law 8 = .ok (.new 61, 3) := by decide +kernel
theorem dL_law_11 : decode cL_law 11 = .ok (.dup, 1) := by decide +kernel
theorem dL_law_12 : decode cL_law 12 = .ok (.invokespecial 63, 3) := by decide +kernel
theorem dL_law_15 : decode cL_law 15 = .ok (.astore_n 2, 1) := by decide +kernel
theorem dL_law_16 : decode cL_law 16 = .ok (.iconst 1, 1) := by decide +kernel
theorem dL_law_17 : decode cL_law 17 = .ok (.newarray .long, 2) := by decide +kernel
theorem dL_law_19 : decode cL_law 19 = .ok (.astore_n 3, 1) := by decide +kernel
theorem dL_law_20 : decode cL_law 20 = .ok (.iconst 0, 1) := by decide +kernel
theorem dL_law_21 : decode cL_law 21 = .ok (.istore 4, 2) := by decide +kernel
theorem dL_law_23 : decode cL_law 23 = .ok (.iload 4, 2) := by decide +kernel
theorem dL_law_25 : decode cL_law 25 = .ok (.aload_n 0, 1) := by decide +kernel
theorem dL_law_26 : decode cL_law 26 = .ok (.arraylength, 1) := by decide +kernel
theorem dL_law_27 : decode cL_law 27 = .ok (.bipush 6, 2) := by decide +kernel
theorem dL_law_29 : decode cL_law 29 = .ok (.isub, 1) := by decide +kernel
theorem dL_law_30 : decode cL_law 30 = .ok (.if_icmp .gt 1143, 3) := by decide +kernel
theorem dL_law_33 : decode cL_law 33 = .ok (.aload_n 0, 1) := by decide +kernel
theorem dL_law_34 : decode cL_law 34 = .ok (.iload 4, 2) := by decide +kernel
theorem dL_law_36 : decode cL_law 36 = .ok (.iaload, 1) := by decide +kernel
theorem dL_law_37 : decode cL_law 37 = .ok (.bipush 31, 2) := by decide +kernel
theorem dL_law_39 : decode cL_law 39 = .ok (.iand, 1) := by decide +kernel
theorem dL_law_40 : decode cL_law 40 = .ok (.tableswitch 1127 0 22 #[108, 181, 237, 250, 306, 374, 454, 522, 578, 591, 604, 672, 685, 698, 754, 767, 808, 864, 908, 988, 1044, 1100, 1113], 108) := by decide +kernel
theorem dL_law_148 : decode cL_law 148 = .ok (.aload_n 1, 1) := by decide +kernel
theorem dL_law_149 : decode cL_law 149 = .ok (.aload_n 0, 1) := by decide +kernel
theorem dL_law_150 : decode cL_law 150 = .ok (.iload 4, 2) := by decide +kernel
theorem dL_law_152 : decode cL_law 152 = .ok (.iconst 1, 1) := by decide +kernel
theorem dL_law_153 : decode cL_law 153 = .ok (.iadd, 1) := by decide +kernel
theorem dL_law_154 : decode cL_law 154 = .ok (.iaload, 1) := by decide +kernel
theorem dL_law_155 : decode cL_law 155 = .ok (.aload_n 0, 1) := by decide +kernel
theorem dL_law_156 : decode cL_law 156 = .ok (.iload 4, 2) := by decide +kernel
theorem dL_law_158 : decode cL_law 158 = .ok (.iconst 2, 1) := by decide +kernel
theorem dL_law_159 : decode cL_law 159 = .ok (.iadd, 1) := by decide +kernel
theorem dL_law_160 : decode cL_law 160 = .ok (.iaload, 1) := by decide +kernel
theorem dL_law_161 : decode cL_law 161 = .ok (.aload_n 0, 1) := by decide +kernel
theorem dL_law_162 : decode cL_law 162 = .ok (.iload 4, 2) := by decide +kernel
theorem dL_law_164 : decode cL_law 164 = .ok (.iconst 3, 1) := by decide +kernel
theorem dL_law_165 : decode cL_law 165 = .ok (.iadd, 1) := by decide +kernel
theorem dL_law_166 : decode cL_law 166 = .ok (.iaload, 1) := by decide +kernel
theorem dL_law_167 : decode cL_law 167 = .ok (.aload_n 0, 1) := by decide +kernel
theorem dL_law_168 : decode cL_law 168 = .ok (.iload 4, 2) := by decide +kernel
theorem dL_law_170 : decode cL_law 170 = .ok (.iconst 4, 1) := by decide +kernel
theorem dL_law_171 : decode cL_law 171 = .ok (.iadd, 1) := by decide +kernel
theorem dL_law_172 : decode cL_law 172 = .ok (.iaload, 1) := by decide +kernel
theorem dL_law_173 : decode cL_law 173 = .ok (.aload_n 0, 1) := by decide +kernel
theorem dL_law_174 : decode cL_law 174 = .ok (.iload 4, 2) := by decide +kernel
theorem dL_law_176 : decode cL_law 176 = .ok (.iconst 5, 1) := by decide +kernel
theorem dL_law_177 : decode cL_law 177 = .ok (.iadd, 1) := by decide +kernel
theorem dL_law_178 : decode cL_law 178 = .ok (.iaload, 1) := by decide +kernel
theorem dL_law_179 : decode cL_law 179 = .ok (.invokevirtual 64, 3) := by decide +kernel
theorem dL_law_182 : decode cL_law 182 = .ok (.aload_n 2, 1) := by decide +kernel
theorem dL_law_183 : decode cL_law 183 = .ok (.aload_n 0, 1) := by decide +kernel
theorem dL_law_184 : decode cL_law 184 = .ok (.iload 4, 2) := by decide +kernel
theorem dL_law_186 : decode cL_law 186 = .ok (.iconst 1, 1) := by decide +kernel
theorem dL_law_187 : decode cL_law 187 = .ok (.iadd, 1) := by decide +kernel
theorem dL_law_188 : decode cL_law 188 = .ok (.iaload, 1) := by decide +kernel
theorem dL_law_189 : decode cL_law 189 = .ok (.aload_n 0, 1) := by decide +kernel
theorem dL_law_190 : decode cL_law 190 = .ok (.iload 4, 2) := by decide +kernel
theorem dL_law_192 : decode cL_law 192 = .ok (.iconst 2, 1) := by decide +kernel
theorem dL_law_193 : decode cL_law 193 = .ok (.iadd, 1) := by decide +kernel
theorem dL_law_194 : decode cL_law 194 = .ok (.iaload, 1) := by decide +kernel
theorem dL_law_195 : decode cL_law 195 = .ok (.aload_n 0, 1) := by decide +kernel
theorem dL_law_196 : decode cL_law 196 = .ok (.iload 4, 2) := by decide +kernel
theorem dL_law_198 : decode cL_law 198 = .ok (.iconst 3, 1) := by decide +kernel
theorem dL_law_199 : decode cL_law 199 = .ok (.iadd, 1) := by decide +kernel
theorem dL_law_200 : decode cL_law 200 = .ok (.iaload, 1) := by decide +kernel
theorem dL_law_201 : decode cL_law 201 = .ok (.aload_n 0, 1) := by decide +kernel
theorem dL_law_202 : decode cL_law 202 = .ok (.iload 4, 2) := by decide +kernel
theorem dL_law_204 : decode cL_law 204 = .ok (.iconst 4, 1) := by decide +kernel
theorem dL_law_205 : decode cL_law 205 = .ok (.iadd, 1) := by decide +kernel
theorem dL_law_206 : decode cL_law 206 = .ok (.iaload, 1) := by decide +kernel
theorem dL_law_207 : decode cL_law 207 = .ok (.aload_n 0, 1) := by decide +kernel
theorem dL_law_208 : decode cL_law 208 = .ok (.iload 4, 2) := by decide +kernel
theorem dL_law_210 : decode cL_law 210 = .ok (.iconst 5, 1) := by decide +kernel
theorem dL_law_211 : decode cL_law 211 = .ok (.iadd, 1) := by decide +kernel
theorem dL_law_212 : decode cL_law 212 = .ok (.iaload, 1) := by decide +kernel
theorem dL_law_213 : decode cL_law 213 = .ok (.invokevirtual 68, 3) := by decide +kernel
theorem dL_law_216 : decode cL_law 216 = .ok (.if_icmp .eq 951, 3) := by decide +kernel
theorem dL_law_219 : decode cL_law 219 = .ok (.iconst 0, 1) := by decide +kernel
theorem dL_law_220 : decode cL_law 220 = .ok (.ireturn, 1) := by decide +kernel
theorem dL_law_221 : decode cL_law 221 = .ok (.aload_n 1, 1) := by decide +kernel
theorem dL_law_222 : decode cL_law 222 = .ok (.aload_n 0, 1) := by decide +kernel
theorem dL_law_223 : decode cL_law 223 = .ok (.iload 4, 2) := by decide +kernel
theorem dL_law_225 : decode cL_law 225 = .ok (.iconst 1, 1) := by decide +kernel
theorem dL_law_226 : decode cL_law 226 = .ok (.iadd, 1) := by decide +kernel
theorem dL_law_227 : decode cL_law 227 = .ok (.iaload, 1) := by decide +kernel
theorem dL_law_228 : decode cL_law 228 = .ok (.aload_n 3, 1) := by decide +kernel
theorem dL_law_229 : decode cL_law 229 = .ok (.invokestatic 69, 3) := by decide +kernel
theorem dL_law_232 : decode cL_law 232 = .ok (.istore 5, 2) := by decide +kernel
theorem dL_law_234 : decode cL_law 234 = .ok (.aload_n 2, 1) := by decide +kernel
theorem dL_law_235 : decode cL_law 235 = .ok (.aload_n 0, 1) := by decide +kernel
theorem dL_law_236 : decode cL_law 236 = .ok (.iload 4, 2) := by decide +kernel
theorem dL_law_238 : decode cL_law 238 = .ok (.iconst 1, 1) := by decide +kernel
theorem dL_law_239 : decode cL_law 239 = .ok (.iadd, 1) := by decide +kernel
theorem dL_law_240 : decode cL_law 240 = .ok (.iaload, 1) := by decide +kernel
theorem dL_law_241 : decode cL_law 241 = .ok (.invokevirtual 74, 3) := by decide +kernel
theorem dL_law_244 : decode cL_law 244 = .ok (.istore 6, 2) := by decide +kernel
theorem dL_law_246 : decode cL_law 246 = .ok (.aload_n 2, 1) := by decide +kernel
theorem dL_law_247 : decode cL_law 247 = .ok (.invokevirtual 75, 3) := by decide +kernel
theorem dL_law_250 : decode cL_law 250 = .ok (.iload 5, 2) := by decide +kernel
theorem dL_law_252 : decode cL_law 252 = .ok (.if_icmp .eq 5, 3) := by decide +kernel
theorem dL_law_255 : decode cL_law 255 = .ok (.iconst 0, 1) := by decide +kernel
theorem dL_law_256 : decode cL_law 256 = .ok (.ireturn, 1) := by decide +kernel
theorem dL_law_257 : decode cL_law 257 = .ok (.iload 5, 2) := by decide +kernel
theorem dL_law_259 : decode cL_law 259 = .ok (.ifCond .ne 15, 3) := by decide +kernel
theorem dL_law_262 : decode cL_law 262 = .ok (.aload_n 3, 1) := by decide +kernel
theorem dL_law_263 : decode cL_law 263 = .ok (.iconst 0, 1) := by decide +kernel
theorem dL_law_264 : decode cL_law 264 = .ok (.laload, 1) := by decide +kernel
theorem dL_law_265 : decode cL_law 265 = .ok (.iload 6, 2) := by decide +kernel
theorem dL_law_267 : decode cL_law 267 = .ok (.i2l, 1) := by decide +kernel
theorem dL_law_268 : decode cL_law 268 = .ok (.lcmp, 1) := by decide +kernel
theorem dL_law_269 : decode cL_law 269 = .ok (.ifCond .eq 5, 3) := by decide +kernel
theorem dL_law_272 : decode cL_law 272 = .ok (.iconst 0, 1) := by decide +kernel
theorem dL_law_273 : decode cL_law 273 = .ok (.ireturn, 1) := by decide +kernel
theorem dL_law_274 : decode cL_law 274 = .ok (.goto 893, 3) := by decide +kernel
theorem dL_law_277 : decode cL_law 277 = .ok (.aload_n 1, 1) := by decide +kernel
theorem dL_law_278 : decode cL_law 278 = .ok (.invokevirtual 78, 3) := by decide +kernel
theorem dL_law_281 : decode cL_law 281 = .ok (.aload_n 2, 1) := by decide +kernel
theorem dL_law_282 : decode cL_law 282 = .ok (.invokevirtual 81, 3) := by decide +kernel
theorem dL_law_285 : decode cL_law 285 = .ok (.if_icmp .eq 882, 3) := by decide +kernel
theorem dL_law_288 : decode cL_law 288 = .ok (.iconst 0, 1) := by decide +kernel
theorem dL_law_289 : decode cL_law 289 = .ok (.ireturn, 1) := by decide +kernel
theorem dL_law_290 : decode cL_law 290 = .ok (.aload_n 1, 1) := by decide +kernel
theorem dL_law_291 : decode cL_law 291 = .ok (.aload_n 0, 1) := by decide +kernel
theorem dL_law_292 : decode cL_law 292 = .ok (.iload 4, 2) := by decide +kernel
theorem dL_law_294 : decode cL_law 294 = .ok (.iconst 1, 1) := by decide +kernel
theorem dL_law_295 : decode cL_law 295 = .ok (.iadd, 1) := by decide +kernel
theorem dL_law_296 : decode cL_law 296 = .ok (.iaload, 1) := by decide +kernel
theorem dL_law_297 : decode cL_law 297 = .ok (.aload_n 3, 1) := by decide +kernel
theorem dL_law_298 : decode cL_law 298 = .ok (.invokestatic 82, 3) := by decide +kernel
theorem dL_law_301 : decode cL_law 301 = .ok (.istore 5, 2) := by decide +kernel
theorem dL_law_303 : decode cL_law 303 = .ok (.aload_n 2, 1) := by decide +kernel
theorem dL_law_304 : decode cL_law 304 = .ok (.aload_n 0, 1) := by decide +kernel
theorem dL_law_305 : decode cL_law 305 = .ok (.iload 4, 2) := by decide +kernel
theorem dL_law_307 : decode cL_law 307 = .ok (.iconst 1, 1) := by decide +kernel
theorem dL_law_308 : decode cL_law 308 = .ok (.iadd, 1) := by decide +kernel
theorem dL_law_309 : decode cL_law 309 = .ok (.iaload, 1) := by decide +kernel
theorem dL_law_310 : decode cL_law 310 = .ok (.invokevirtual 84, 3) := by decide +kernel
theorem dL_law_313 : decode cL_law 313 = .ok (.istore 6, 2) := by decide +kernel
theorem dL_law_315 : decode cL_law 315 = .ok (.aload_n 2, 1) := by decide +kernel
theorem dL_law_316 : decode cL_law 316 = .ok (.invokevirtual 75, 3) := by decide +kernel
theorem dL_law_319 : decode cL_law 319 = .ok (.iload 5, 2) := by decide +kernel
theorem dL_law_321 : decode cL_law 321 = .ok (.if_icmp .eq 5, 3) := by decide +kernel
theorem dL_law_324 : decode cL_law 324 = .ok (.iconst 0, 1) := by decide +kernel
theorem dL_law_325 : decode cL_law 325 = .ok (.ireturn, 1) := by decide +kernel
theorem dL_law_326 : decode cL_law 326 = .ok (.iload 5, 2) := by decide +kernel
theorem dL_law_328 : decode cL_law 328 = .ok (.ifCond .ne 15, 3) := by decide +kernel
theorem dL_law_331 : decode cL_law 331 = .ok (.aload_n 3, 1) := by decide +kernel
theorem dL_law_332 : decode cL_law 332 = .ok (.iconst 0, 1) := by decide +kernel
theorem dL_law_333 : decode cL_law 333 = .ok (.laload, 1) := by decide +kernel
theorem dL_law_334 : decode cL_law 334 = .ok (.iload 6, 2) := by decide +kernel
theorem dL_law_336 : decode cL_law 336 = .ok (.i2l, 1) := by decide +kernel
theorem dL_law_337 : decode cL_law 337 = .ok (.lcmp, 1) := by decide +kernel
theorem dL_law_338 : decode cL_law 338 = .ok (.ifCond .eq 5, 3) := by decide +kernel
theorem dL_law_341 : decode cL_law 341 = .ok (.iconst 0, 1) := by decide +kernel
theorem dL_law_342 : decode cL_law 342 = .ok (.ireturn, 1) := by decide +kernel
theorem dL_law_343 : decode cL_law 343 = .ok (.goto 824, 3) := by decide +kernel
theorem dL_law_346 : decode cL_law 346 = .ok (.aload_n 1, 1) := by decide +kernel
theorem dL_law_347 : decode cL_law 347 = .ok (.aload_n 0, 1) := by decide +kernel
theorem dL_law_348 : decode cL_law 348 = .ok (.iload 4, 2) := by decide +kernel
theorem dL_law_350 : decode cL_law 350 = .ok (.iconst 1, 1) := by decide +kernel
theorem dL_law_351 : decode cL_law 351 = .ok (.iadd, 1) := by decide +kernel
theorem dL_law_352 : decode cL_law 352 = .ok (.iaload, 1) := by decide +kernel
theorem dL_law_353 : decode cL_law 353 = .ok (.aload_n 0, 1) := by decide +kernel
theorem dL_law_354 : decode cL_law 354 = .ok (.iload 4, 2) := by decide +kernel
theorem dL_law_356 : decode cL_law 356 = .ok (.iconst 2, 1) := by decide +kernel
theorem dL_law_357 : decode cL_law 357 = .ok (.iadd, 1) := by decide +kernel
theorem dL_law_358 : decode cL_law 358 = .ok (.iaload, 1) := by decide +kernel
theorem dL_law_359 : decode cL_law 359 = .ok (.aload_n 3, 1) := by decide +kernel
theorem dL_law_360 : decode cL_law 360 = .ok (.invokestatic 85, 3) := by decide +kernel
theorem dL_law_363 : decode cL_law 363 = .ok (.istore 5, 2) := by decide +kernel
theorem dL_law_365 : decode cL_law 365 = .ok (.aload_n 2, 1) := by decide +kernel
theorem dL_law_366 : decode cL_law 366 = .ok (.aload_n 0, 1) := by decide +kernel
theorem dL_law_367 : decode cL_law 367 = .ok (.iload 4, 2) := by decide +kernel
theorem dL_law_369 : decode cL_law 369 = .ok (.iconst 1, 1) := by decide +kernel
theorem dL_law_370 : decode cL_law 370 = .ok (.iadd, 1) := by decide +kernel
theorem dL_law_371 : decode cL_law 371 = .ok (.iaload, 1) := by decide +kernel
theorem dL_law_372 : decode cL_law 372 = .ok (.aload_n 0, 1) := by decide +kernel
theorem dL_law_373 : decode cL_law 373 = .ok (.iload 4, 2) := by decide +kernel
theorem dL_law_375 : decode cL_law 375 = .ok (.iconst 2, 1) := by decide +kernel
theorem dL_law_376 : decode cL_law 376 = .ok (.iadd, 1) := by decide +kernel
theorem dL_law_377 : decode cL_law 377 = .ok (.iaload, 1) := by decide +kernel
theorem dL_law_378 : decode cL_law 378 = .ok (.invokevirtual 88, 3) := by decide +kernel
theorem dL_law_381 : decode cL_law 381 = .ok (.istore 6, 2) := by decide +kernel
theorem dL_law_383 : decode cL_law 383 = .ok (.aload_n 2, 1) := by decide +kernel
theorem dL_law_384 : decode cL_law 384 = .ok (.invokevirtual 75, 3) := by decide +kernel
theorem dL_law_387 : decode cL_law 387 = .ok (.iload 5, 2) := by decide +kernel
theorem dL_law_389 : decode cL_law 389 = .ok (.if_icmp .eq 5, 3) := by decide +kernel
theorem dL_law_392 : decode cL_law 392 = .ok (.iconst 0, 1) := by decide +kernel
theorem dL_law_393 : decode cL_law 393 = .ok (.ireturn, 1) := by decide +kernel
theorem dL_law_394 : decode cL_law 394 = .ok (.iload 5, 2) := by decide +kernel
theorem dL_law_396 : decode cL_law 396 = .ok (.ifCond .ne 15, 3) := by decide +kernel
theorem dL_law_399 : decode cL_law 399 = .ok (.aload_n 3, 1) := by decide +kernel
theorem dL_law_400 : decode cL_law 400 = .ok (.iconst 0, 1) := by decide +kernel
theorem dL_law_401 : decode cL_law 401 = .ok (.laload, 1) := by decide +kernel
theorem dL_law_402 : decode cL_law 402 = .ok (.iload 6, 2) := by decide +kernel
theorem dL_law_404 : decode cL_law 404 = .ok (.i2l, 1) := by decide +kernel
theorem dL_law_405 : decode cL_law 405 = .ok (.lcmp, 1) := by decide +kernel
theorem dL_law_406 : decode cL_law 406 = .ok (.ifCond .eq 5, 3) := by decide +kernel
theorem dL_law_409 : decode cL_law 409 = .ok (.iconst 0, 1) := by decide +kernel
theorem dL_law_410 : decode cL_law 410 = .ok (.ireturn, 1) := by decide +kernel
theorem dL_law_411 : decode cL_law 411 = .ok (.goto 756, 3) := by decide +kernel
theorem dL_law_414 : decode cL_law 414 = .ok (.aload_n 1, 1) := by decide +kernel
theorem dL_law_415 : decode cL_law 415 = .ok (.aload_n 0, 1) := by decide +kernel
theorem dL_law_416 : decode cL_law 416 = .ok (.iload 4, 2) := by decide +kernel
theorem dL_law_418 : decode cL_law 418 = .ok (.iconst 1, 1) := by decide +kernel
theorem dL_law_419 : decode cL_law 419 = .ok (.iadd, 1) := by decide +kernel
theorem dL_law_420 : decode cL_law 420 = .ok (.iaload, 1) := by decide +kernel
theorem dL_law_421 : decode cL_law 421 = .ok (.aload_n 0, 1) := by decide +kernel
theorem dL_law_422 : decode cL_law 422 = .ok (.iload 4, 2) := by decide +kernel
theorem dL_law_424 : decode cL_law 424 = .ok (.iconst 2, 1) := by decide +kernel
theorem dL_law_425 : decode cL_law 425 = .ok (.iadd, 1) := by decide +kernel
theorem dL_law_426 : decode cL_law 426 = .ok (.iaload, 1) := by decide +kernel
theorem dL_law_427 : decode cL_law 427 = .ok (.aload_n 0, 1) := by decide +kernel
theorem dL_law_428 : decode cL_law 428 = .ok (.iload 4, 2) := by decide +kernel
theorem dL_law_430 : decode cL_law 430 = .ok (.iconst 3, 1) := by decide +kernel
theorem dL_law_431 : decode cL_law 431 = .ok (.iadd, 1) := by decide +kernel
theorem dL_law_432 : decode cL_law 432 = .ok (.iaload, 1) := by decide +kernel
theorem dL_law_433 : decode cL_law 433 = .ok (.aload_n 3, 1) := by decide +kernel
theorem dL_law_434 : decode cL_law 434 = .ok (.invokestatic 89, 3) := by decide +kernel
theorem dL_law_437 : decode cL_law 437 = .ok (.istore 5, 2) := by decide +kernel
theorem dL_law_439 : decode cL_law 439 = .ok (.aload_n 2, 1) := by decide +kernel
theorem dL_law_440 : decode cL_law 440 = .ok (.aload_n 0, 1) := by decide +kernel
theorem dL_law_441 : decode cL_law 441 = .ok (.iload 4, 2) := by decide +kernel
theorem dL_law_443 : decode cL_law 443 = .ok (.iconst 1, 1) := by decide +kernel
theorem dL_law_444 : decode cL_law 444 = .ok (.iadd, 1) := by decide +kernel
theorem dL_law_445 : decode cL_law 445 = .ok (.iaload, 1) := by decide +kernel
theorem dL_law_446 : decode cL_law 446 = .ok (.aload_n 0, 1) := by decide +kernel
theorem dL_law_447 : decode cL_law 447 = .ok (.iload 4, 2) := by decide +kernel
theorem dL_law_449 : decode cL_law 449 = .ok (.iconst 2, 1) := by decide +kernel
theorem dL_law_450 : decode cL_law 450 = .ok (.iadd, 1) := by decide +kernel
theorem dL_law_451 : decode cL_law 451 = .ok (.iaload, 1) := by decide +kernel
theorem dL_law_452 : decode cL_law 452 = .ok (.aload_n 0, 1) := by decide +kernel
theorem dL_law_453 : decode cL_law 453 = .ok (.iload 4, 2) := by decide +kernel
theorem dL_law_455 : decode cL_law 455 = .ok (.iconst 3, 1) := by decide +kernel
theorem dL_law_456 : decode cL_law 456 = .ok (.iadd, 1) := by decide +kernel
theorem dL_law_457 : decode cL_law 457 = .ok (.iaload, 1) := by decide +kernel
theorem dL_law_458 : decode cL_law 458 = .ok (.invokevirtual 92, 3) := by decide +kernel
theorem dL_law_461 : decode cL_law 461 = .ok (.istore 6, 2) := by decide +kernel
theorem dL_law_463 : decode cL_law 463 = .ok (.aload_n 2, 1) := by decide +kernel
theorem dL_law_464 : decode cL_law 464 = .ok (.invokevirtual 75, 3) := by decide +kernel
theorem dL_law_467 : decode cL_law 467 = .ok (.iload 5, 2) := by decide +kernel
theorem dL_law_469 : decode cL_law 469 = .ok (.if_icmp .eq 5, 3) := by decide +kernel
theorem dL_law_472 : decode cL_law 472 = .ok (.iconst 0, 1) := by decide +kernel
theorem dL_law_473 : decode cL_law 473 = .ok (.ireturn, 1) := by decide +kernel
theorem dL_law_474 : decode cL_law 474 = .ok (.iload 5, 2) := by decide +kernel
theorem dL_law_476 : decode cL_law 476 = .ok (.ifCond .ne 15, 3) := by decide +kernel
theorem dL_law_479 : decode cL_law 479 = .ok (.aload_n 3, 1) := by decide +kernel
theorem dL_law_480 : decode cL_law 480 = .ok (.iconst 0, 1) := by decide +kernel
theorem dL_law_481 : decode cL_law 481 = .ok (.laload, 1) := by decide +kernel
theorem dL_law_482 : decode cL_law 482 = .ok (.iload 6, 2) := by decide +kernel
theorem dL_law_484 : decode cL_law 484 = .ok (.i2l, 1) := by decide +kernel
theorem dL_law_485 : decode cL_law 485 = .ok (.lcmp, 1) := by decide +kernel
theorem dL_law_486 : decode cL_law 486 = .ok (.ifCond .eq 5, 3) := by decide +kernel
theorem dL_law_489 : decode cL_law 489 = .ok (.iconst 0, 1) := by decide +kernel
theorem dL_law_490 : decode cL_law 490 = .ok (.ireturn, 1) := by decide +kernel
theorem dL_law_491 : decode cL_law 491 = .ok (.goto 676, 3) := by decide +kernel
theorem dL_law_494 : decode cL_law 494 = .ok (.aload_n 1, 1) := by decide +kernel
theorem dL_law_495 : decode cL_law 495 = .ok (.aload_n 0, 1) := by decide +kernel
theorem dL_law_496 : decode cL_law 496 = .ok (.iload 4, 2) := by decide +kernel
theorem dL_law_498 : decode cL_law 498 = .ok (.iconst 1, 1) := by decide +kernel
theorem dL_law_499 : decode cL_law 499 = .ok (.iadd, 1) := by decide +kernel
theorem dL_law_500 : decode cL_law 500 = .ok (.iaload, 1) := by decide +kernel
theorem dL_law_501 : decode cL_law 501 = .ok (.aload_n 0, 1) := by decide +kernel
theorem dL_law_502 : decode cL_law 502 = .ok (.iload 4, 2) := by decide +kernel
theorem dL_law_504 : decode cL_law 504 = .ok (.iconst 2, 1) := by decide +kernel
theorem dL_law_505 : decode cL_law 505 = .ok (.iadd, 1) := by decide +kernel
theorem dL_law_506 : decode cL_law 506 = .ok (.iaload, 1) := by decide +kernel
theorem dL_law_507 : decode cL_law 507 = .ok (.aload_n 3, 1) := by decide +kernel
theorem dL_law_508 : decode cL_law 508 = .ok (.invokestatic 93, 3) := by decide +kernel
theorem dL_law_511 : decode cL_law 511 = .ok (.istore 5, 2) := by decide +kernel
theorem dL_law_513 : decode cL_law 513 = .ok (.aload_n 2, 1) := by decide +kernel
theorem dL_law_514 : decode cL_law 514 = .ok (.aload_n 0, 1) := by decide +kernel
theorem dL_law_515 : decode cL_law 515 = .ok (.iload 4, 2) := by decide +kernel
theorem dL_law_517 : decode cL_law 517 = .ok (.iconst 1, 1) := by decide +kernel
theorem dL_law_518 : decode cL_law 518 = .ok (.iadd, 1) := by decide +kernel
theorem dL_law_519 : decode cL_law 519 = .ok (.iaload, 1) := by decide +kernel
theorem dL_law_520 : decode cL_law 520 = .ok (.aload_n 0, 1) := by decide +kernel
theorem dL_law_521 : decode cL_law 521 = .ok (.iload 4, 2) := by decide +kernel
theorem dL_law_523 : decode cL_law 523 = .ok (.iconst 2, 1) := by decide +kernel
theorem dL_law_524 : decode cL_law 524 = .ok (.iadd, 1) := by decide +kernel
theorem dL_law_525 : decode cL_law 525 = .ok (.iaload, 1) := by decide +kernel
theorem dL_law_526 : decode cL_law 526 = .ok (.invokevirtual 95, 3) := by decide +kernel
theorem dL_law_529 : decode cL_law 529 = .ok (.istore 6, 2) := by decide +kernel
theorem dL_law_531 : decode cL_law 531 = .ok (.aload_n 2, 1) := by decide +kernel
theorem dL_law_532 : decode cL_law 532 = .ok (.invokevirtual 75, 3) := by decide +kernel
theorem dL_law_535 : decode cL_law 535 = .ok (.iload 5, 2) := by decide +kernel
theorem dL_law_537 : decode cL_law 537 = .ok (.if_icmp .eq 5, 3) := by decide +kernel
theorem dL_law_540 : decode cL_law 540 = .ok (.iconst 0, 1) := by decide +kernel
theorem dL_law_541 : decode cL_law 541 = .ok (.ireturn, 1) := by decide +kernel
theorem dL_law_542 : decode cL_law 542 = .ok (.iload 5, 2) := by decide +kernel
theorem dL_law_544 : decode cL_law 544 = .ok (.ifCond .ne 15, 3) := by decide +kernel
theorem dL_law_547 : decode cL_law 547 = .ok (.aload_n 3, 1) := by decide +kernel
theorem dL_law_548 : decode cL_law 548 = .ok (.iconst 0, 1) := by decide +kernel
theorem dL_law_549 : decode cL_law 549 = .ok (.laload, 1) := by decide +kernel
theorem dL_law_550 : decode cL_law 550 = .ok (.iload 6, 2) := by decide +kernel
theorem dL_law_552 : decode cL_law 552 = .ok (.i2l, 1) := by decide +kernel
theorem dL_law_553 : decode cL_law 553 = .ok (.lcmp, 1) := by decide +kernel
theorem dL_law_554 : decode cL_law 554 = .ok (.ifCond .eq 5, 3) := by decide +kernel
theorem dL_law_557 : decode cL_law 557 = .ok (.iconst 0, 1) := by decide +kernel
theorem dL_law_558 : decode cL_law 558 = .ok (.ireturn, 1) := by decide +kernel
theorem dL_law_559 : decode cL_law 559 = .ok (.goto 608, 3) := by decide +kernel
theorem dL_law_562 : decode cL_law 562 = .ok (.aload_n 1, 1) := by decide +kernel
theorem dL_law_563 : decode cL_law 563 = .ok (.aload_n 0, 1) := by decide +kernel
theorem dL_law_564 : decode cL_law 564 = .ok (.iload 4, 2) := by decide +kernel
theorem dL_law_566 : decode cL_law 566 = .ok (.iconst 1, 1) := by decide +kernel
theorem dL_law_567 : decode cL_law 567 = .ok (.iadd, 1) := by decide +kernel
theorem dL_law_568 : decode cL_law 568 = .ok (.iaload, 1) := by decide +kernel
theorem dL_law_569 : decode cL_law 569 = .ok (.aload_n 3, 1) := by decide +kernel
theorem dL_law_570 : decode cL_law 570 = .ok (.invokestatic 96, 3) := by decide +kernel
theorem dL_law_573 : decode cL_law 573 = .ok (.istore 5, 2) := by decide +kernel
theorem dL_law_575 : decode cL_law 575 = .ok (.aload_n 2, 1) := by decide +kernel
theorem dL_law_576 : decode cL_law 576 = .ok (.aload_n 0, 1) := by decide +kernel
theorem dL_law_577 : decode cL_law 577 = .ok (.iload 4, 2) := by decide +kernel
theorem dL_law_579 : decode cL_law 579 = .ok (.iconst 1, 1) := by decide +kernel
theorem dL_law_580 : decode cL_law 580 = .ok (.iadd, 1) := by decide +kernel
theorem dL_law_581 : decode cL_law 581 = .ok (.iaload, 1) := by decide +kernel
theorem dL_law_582 : decode cL_law 582 = .ok (.invokevirtual 98, 3) := by decide +kernel
theorem dL_law_585 : decode cL_law 585 = .ok (.istore 6, 2) := by decide +kernel
theorem dL_law_587 : decode cL_law 587 = .ok (.aload_n 2, 1) := by decide +kernel
theorem dL_law_588 : decode cL_law 588 = .ok (.invokevirtual 75, 3) := by decide +kernel
theorem dL_law_591 : decode cL_law 591 = .ok (.iload 5, 2) := by decide +kernel
theorem dL_law_593 : decode cL_law 593 = .ok (.if_icmp .eq 5, 3) := by decide +kernel
theorem dL_law_596 : decode cL_law 596 = .ok (.iconst 0, 1) := by decide +kernel
theorem dL_law_597 : decode cL_law 597 = .ok (.ireturn, 1) := by decide +kernel
theorem dL_law_598 : decode cL_law 598 = .ok (.iload 5, 2) := by decide +kernel
theorem dL_law_600 : decode cL_law 600 = .ok (.ifCond .ne 15, 3) := by decide +kernel
theorem dL_law_603 : decode cL_law 603 = .ok (.aload_n 3, 1) := by decide +kernel
theorem dL_law_604 : decode cL_law 604 = .ok (.iconst 0, 1) := by decide +kernel
theorem dL_law_605 : decode cL_law 605 = .ok (.laload, 1) := by decide +kernel
theorem dL_law_606 : decode cL_law 606 = .ok (.iload 6, 2) := by decide +kernel
theorem dL_law_608 : decode cL_law 608 = .ok (.i2l, 1) := by decide +kernel
theorem dL_law_609 : decode cL_law 609 = .ok (.lcmp, 1) := by decide +kernel
theorem dL_law_610 : decode cL_law 610 = .ok (.ifCond .eq 5, 3) := by decide +kernel
theorem dL_law_613 : decode cL_law 613 = .ok (.iconst 0, 1) := by decide +kernel
theorem dL_law_614 : decode cL_law 614 = .ok (.ireturn, 1) := by decide +kernel
theorem dL_law_615 : decode cL_law 615 = .ok (.goto 552, 3) := by decide +kernel
theorem dL_law_618 : decode cL_law 618 = .ok (.aload_n 1, 1) := by decide +kernel
theorem dL_law_619 : decode cL_law 619 = .ok (.invokevirtual 99, 3) := by decide +kernel
theorem dL_law_622 : decode cL_law 622 = .ok (.aload_n 2, 1) := by decide +kernel
theorem dL_law_623 : decode cL_law 623 = .ok (.invokevirtual 102, 3) := by decide +kernel
theorem dL_law_626 : decode cL_law 626 = .ok (.if_icmp .eq 541, 3) := by decide +kernel
theorem dL_law_629 : decode cL_law 629 = .ok (.iconst 0, 1) := by decide +kernel
theorem dL_law_630 : decode cL_law 630 = .ok (.ireturn, 1) := by decide +kernel
theorem dL_law_631 : decode cL_law 631 = .ok (.aload_n 1, 1) := by decide +kernel
theorem dL_law_632 : decode cL_law 632 = .ok (.invokevirtual 103, 3) := by decide +kernel
theorem dL_law_635 : decode cL_law 635 = .ok (.aload_n 2, 1) := by decide +kernel
theorem dL_law_636 : decode cL_law 636 = .ok (.invokevirtual 106, 3) := by decide +kernel
theorem dL_law_639 : decode cL_law 639 = .ok (.if_icmp .eq 528, 3) := by decide +kernel
theorem dL_law_642 : decode cL_law 642 = .ok (.iconst 0, 1) := by decide +kernel
theorem dL_law_643 : decode cL_law 643 = .ok (.ireturn, 1) := by decide +kernel
theorem dL_law_644 : decode cL_law 644 = .ok (.aload_n 1, 1) := by decide +kernel
theorem dL_law_645 : decode cL_law 645 = .ok (.aload_n 0, 1) := by decide +kernel
theorem dL_law_646 : decode cL_law 646 = .ok (.iload 4, 2) := by decide +kernel
theorem dL_law_648 : decode cL_law 648 = .ok (.iconst 1, 1) := by decide +kernel
theorem dL_law_649 : decode cL_law 649 = .ok (.iadd, 1) := by decide +kernel
theorem dL_law_650 : decode cL_law 650 = .ok (.iaload, 1) := by decide +kernel
theorem dL_law_651 : decode cL_law 651 = .ok (.aload_n 0, 1) := by decide +kernel
theorem dL_law_652 : decode cL_law 652 = .ok (.iload 4, 2) := by decide +kernel
theorem dL_law_654 : decode cL_law 654 = .ok (.iconst 2, 1) := by decide +kernel
theorem dL_law_655 : decode cL_law 655 = .ok (.iadd, 1) := by decide +kernel
theorem dL_law_656 : decode cL_law 656 = .ok (.iaload, 1) := by decide +kernel
theorem dL_law_657 : decode cL_law 657 = .ok (.aload_n 3, 1) := by decide +kernel
theorem dL_law_658 : decode cL_law 658 = .ok (.invokestatic 107, 3) := by decide +kernel
theorem dL_law_661 : decode cL_law 661 = .ok (.istore 5, 2) := by decide +kernel
theorem dL_law_663 : decode cL_law 663 = .ok (.aload_n 2, 1) := by decide +kernel
theorem dL_law_664 : decode cL_law 664 = .ok (.aload_n 0, 1) := by decide +kernel
theorem dL_law_665 : decode cL_law 665 = .ok (.iload 4, 2) := by decide +kernel
theorem dL_law_667 : decode cL_law 667 = .ok (.iconst 1, 1) := by decide +kernel
theorem dL_law_668 : decode cL_law 668 = .ok (.iadd, 1) := by decide +kernel
theorem dL_law_669 : decode cL_law 669 = .ok (.iaload, 1) := by decide +kernel
theorem dL_law_670 : decode cL_law 670 = .ok (.aload_n 0, 1) := by decide +kernel
theorem dL_law_671 : decode cL_law 671 = .ok (.iload 4, 2) := by decide +kernel
theorem dL_law_673 : decode cL_law 673 = .ok (.iconst 2, 1) := by decide +kernel
theorem dL_law_674 : decode cL_law 674 = .ok (.iadd, 1) := by decide +kernel
theorem dL_law_675 : decode cL_law 675 = .ok (.iaload, 1) := by decide +kernel
theorem dL_law_676 : decode cL_law 676 = .ok (.invokevirtual 109, 3) := by decide +kernel
theorem dL_law_679 : decode cL_law 679 = .ok (.istore 6, 2) := by decide +kernel
theorem dL_law_681 : decode cL_law 681 = .ok (.aload_n 2, 1) := by decide +kernel
theorem dL_law_682 : decode cL_law 682 = .ok (.invokevirtual 75, 3) := by decide +kernel
theorem dL_law_685 : decode cL_law 685 = .ok (.iload 5, 2) := by decide +kernel
theorem dL_law_687 : decode cL_law 687 = .ok (.if_icmp .eq 5, 3) := by decide +kernel
theorem dL_law_690 : decode cL_law 690 = .ok (.iconst 0, 1) := by decide +kernel
theorem dL_law_691 : decode cL_law 691 = .ok (.ireturn, 1) := by decide +kernel
theorem dL_law_692 : decode cL_law 692 = .ok (.iload 5, 2) := by decide +kernel
theorem dL_law_694 : decode cL_law 694 = .ok (.ifCond .ne 15, 3) := by decide +kernel
theorem dL_law_697 : decode cL_law 697 = .ok (.aload_n 3, 1) := by decide +kernel
theorem dL_law_698 : decode cL_law 698 = .ok (.iconst 0, 1) := by decide +kernel
theorem dL_law_699 : decode cL_law 699 = .ok (.laload, 1) := by decide +kernel
theorem dL_law_700 : decode cL_law 700 = .ok (.iload 6, 2) := by decide +kernel
theorem dL_law_702 : decode cL_law 702 = .ok (.i2l, 1) := by decide +kernel
theorem dL_law_703 : decode cL_law 703 = .ok (.lcmp, 1) := by decide +kernel
theorem dL_law_704 : decode cL_law 704 = .ok (.ifCond .eq 5, 3) := by decide +kernel
theorem dL_law_707 : decode cL_law 707 = .ok (.iconst 0, 1) := by decide +kernel
theorem dL_law_708 : decode cL_law 708 = .ok (.ireturn, 1) := by decide +kernel
theorem dL_law_709 : decode cL_law 709 = .ok (.goto 458, 3) := by decide +kernel
theorem dL_law_712 : decode cL_law 712 = .ok (.aload_n 1, 1) := by decide +kernel
theorem dL_law_713 : decode cL_law 713 = .ok (.invokevirtual 110, 3) := by decide +kernel
theorem dL_law_716 : decode cL_law 716 = .ok (.aload_n 2, 1) := by decide +kernel
theorem dL_law_717 : decode cL_law 717 = .ok (.invokevirtual 113, 3) := by decide +kernel
theorem dL_law_720 : decode cL_law 720 = .ok (.if_icmp .eq 447, 3) := by decide +kernel
theorem dL_law_723 : decode cL_law 723 = .ok (.iconst 0, 1) := by decide +kernel
theorem dL_law_724 : decode cL_law 724 = .ok (.ireturn, 1) := by decide +kernel
theorem dL_law_725 : decode cL_law 725 = .ok (.aload_n 1, 1) := by decide +kernel
theorem dL_law_726 : decode cL_law 726 = .ok (.invokevirtual 114, 3) := by decide +kernel
theorem dL_law_729 : decode cL_law 729 = .ok (.aload_n 2, 1) := by decide +kernel
theorem dL_law_730 : decode cL_law 730 = .ok (.invokevirtual 117, 3) := by decide +kernel
theorem dL_law_733 : decode cL_law 733 = .ok (.if_icmp .eq 434, 3) := by decide +kernel
theorem dL_law_736 : decode cL_law 736 = .ok (.iconst 0, 1) := by decide +kernel
theorem dL_law_737 : decode cL_law 737 = .ok (.ireturn, 1) := by decide +kernel
theorem dL_law_738 : decode cL_law 738 = .ok (.aload_n 1, 1) := by decide +kernel
theorem dL_law_739 : decode cL_law 739 = .ok (.aload_n 0, 1) := by decide +kernel
theorem dL_law_740 : decode cL_law 740 = .ok (.iload 4, 2) := by decide +kernel
theorem dL_law_742 : decode cL_law 742 = .ok (.iconst 1, 1) := by decide +kernel
theorem dL_law_743 : decode cL_law 743 = .ok (.iadd, 1) := by decide +kernel
theorem dL_law_744 : decode cL_law 744 = .ok (.iaload, 1) := by decide +kernel
theorem dL_law_745 : decode cL_law 745 = .ok (.aload_n 3, 1) := by decide +kernel
theorem dL_law_746 : decode cL_law 746 = .ok (.invokestatic 118, 3) := by decide +kernel
theorem dL_law_749 : decode cL_law 749 = .ok (.istore 5, 2) := by decide +kernel
theorem dL_law_751 : decode cL_law 751 = .ok (.aload_n 2, 1) := by decide +kernel
theorem dL_law_752 : decode cL_law 752 = .ok (.aload_n 0, 1) := by decide +kernel
theorem dL_law_753 : decode cL_law 753 = .ok (.iload 4, 2) := by decide +kernel
theorem dL_law_755 : decode cL_law 755 = .ok (.iconst 1, 1) := by decide +kernel
theorem dL_law_756 : decode cL_law 756 = .ok (.iadd, 1) := by decide +kernel
theorem dL_law_757 : decode cL_law 757 = .ok (.iaload, 1) := by decide +kernel
theorem dL_law_758 : decode cL_law 758 = .ok (.invokevirtual 120, 3) := by decide +kernel
theorem dL_law_761 : decode cL_law 761 = .ok (.istore 6, 2) := by decide +kernel
theorem dL_law_763 : decode cL_law 763 = .ok (.aload_n 2, 1) := by decide +kernel
theorem dL_law_764 : decode cL_law 764 = .ok (.invokevirtual 75, 3) := by decide +kernel
theorem dL_law_767 : decode cL_law 767 = .ok (.iload 5, 2) := by decide +kernel
theorem dL_law_769 : decode cL_law 769 = .ok (.if_icmp .eq 5, 3) := by decide +kernel
theorem dL_law_772 : decode cL_law 772 = .ok (.iconst 0, 1) := by decide +kernel
theorem dL_law_773 : decode cL_law 773 = .ok (.ireturn, 1) := by decide +kernel
theorem dL_law_774 : decode cL_law 774 = .ok (.iload 5, 2) := by decide +kernel
theorem dL_law_776 : decode cL_law 776 = .ok (.ifCond .ne 15, 3) := by decide +kernel
theorem dL_law_779 : decode cL_law 779 = .ok (.aload_n 3, 1) := by decide +kernel
theorem dL_law_780 : decode cL_law 780 = .ok (.iconst 0, 1) := by decide +kernel
theorem dL_law_781 : decode cL_law 781 = .ok (.laload, 1) := by decide +kernel
theorem dL_law_782 : decode cL_law 782 = .ok (.iload 6, 2) := by decide +kernel
theorem dL_law_784 : decode cL_law 784 = .ok (.i2l, 1) := by decide +kernel
theorem dL_law_785 : decode cL_law 785 = .ok (.lcmp, 1) := by decide +kernel
theorem dL_law_786 : decode cL_law 786 = .ok (.ifCond .eq 5, 3) := by decide +kernel
theorem dL_law_789 : decode cL_law 789 = .ok (.iconst 0, 1) := by decide +kernel
theorem dL_law_790 : decode cL_law 790 = .ok (.ireturn, 1) := by decide +kernel
theorem dL_law_791 : decode cL_law 791 = .ok (.goto 376, 3) := by decide +kernel
theorem dL_law_794 : decode cL_law 794 = .ok (.aload_n 1, 1) := by decide +kernel
theorem dL_law_795 : decode cL_law 795 = .ok (.invokevirtual 121, 3) := by decide +kernel
theorem dL_law_798 : decode cL_law 798 = .ok (.aload_n 2, 1) := by decide +kernel
theorem dL_law_799 : decode cL_law 799 = .ok (.invokevirtual 124, 3) := by decide +kernel
theorem dL_law_802 : decode cL_law 802 = .ok (.if_icmp .eq 365, 3) := by decide +kernel
theorem dL_law_805 : decode cL_law 805 = .ok (.iconst 0, 1) := by decide +kernel
theorem dL_law_806 : decode cL_law 806 = .ok (.ireturn, 1) := by decide +kernel
theorem dL_law_807 : decode cL_law 807 = .ok (.aload_n 1, 1) := by decide +kernel
theorem dL_law_808 : decode cL_law 808 = .ok (.invokevirtual 125, 3) := by decide +kernel
theorem dL_law_811 : decode cL_law 811 = .ok (.dstore 5, 2) := by decide +kernel
theorem dL_law_813 : decode cL_law 813 = .ok (.aload_n 2, 1) := by decide +kernel
theorem dL_law_814 : decode cL_law 814 = .ok (.invokevirtual 129, 3) := by decide +kernel
theorem dL_law_817 : decode cL_law 817 = .ok (.dstore 7, 2) := by decide +kernel
theorem dL_law_819 : decode cL_law 819 = .ok (.dload 5, 2) := by decide +kernel
theorem dL_law_821 : decode cL_law 821 = .ok (.dload 7, 2) := by decide +kernel
theorem dL_law_823 : decode cL_law 823 = .ok (.dcmp .l, 1) := by decide +kernel
theorem dL_law_824 : decode cL_law 824 = .ok (.ifCond .eq 21, 3) := by decide +kernel
theorem dL_law_827 : decode cL_law 827 = .ok (.dload 5, 2) := by decide +kernel
theorem dL_law_829 : decode cL_law 829 = .ok (.dload 5, 2) := by decide +kernel
theorem dL_law_831 : decode cL_law 831 = .ok (.dcmp .l, 1) := by decide +kernel
theorem dL_law_832 : decode cL_law 832 = .ok (.ifCond .eq 11, 3) := by decide +kernel
theorem dL_law_835 : decode cL_law 835 = .ok (.dload 7, 2) := by decide +kernel
theorem dL_law_837 : decode cL_law 837 = .ok (.dload 7, 2) := by decide +kernel
theorem dL_law_839 : decode cL_law 839 = .ok (.dcmp .l, 1) := by decide +kernel
theorem dL_law_840 : decode cL_law 840 = .ok (.ifCond .ne 5, 3) := by decide +kernel
theorem dL_law_843 : decode cL_law 843 = .ok (.iconst 0, 1) := by decide +kernel
theorem dL_law_844 : decode cL_law 844 = .ok (.ireturn, 1) := by decide +kernel
theorem dL_law_845 : decode cL_law 845 = .ok (.goto 322, 3) := by decide +kernel
theorem dL_law_848 : decode cL_law 848 = .ok (.aload_n 1, 1) := by decide +kernel
theorem dL_law_849 : decode cL_law 849 = .ok (.aload_n 0, 1) := by decide +kernel
theorem dL_law_850 : decode cL_law 850 = .ok (.iload 4, 2) := by decide +kernel
theorem dL_law_852 : decode cL_law 852 = .ok (.iconst 1, 1) := by decide +kernel
theorem dL_law_853 : decode cL_law 853 = .ok (.iadd, 1) := by decide +kernel
theorem dL_law_854 : decode cL_law 854 = .ok (.iaload, 1) := by decide +kernel
theorem dL_law_855 : decode cL_law 855 = .ok (.aload_n 3, 1) := by decide +kernel
theorem dL_law_856 : decode cL_law 856 = .ok (.invokestatic 130, 3) := by decide +kernel
theorem dL_law_859 : decode cL_law 859 = .ok (.istore 5, 2) := by decide +kernel
theorem dL_law_861 : decode cL_law 861 = .ok (.aload_n 2, 1) := by decide +kernel
theorem dL_law_862 : decode cL_law 862 = .ok (.aload_n 0, 1) := by decide +kernel
theorem dL_law_863 : decode cL_law 863 = .ok (.iload 4, 2) := by decide +kernel
theorem dL_law_865 : decode cL_law 865 = .ok (.iconst 1, 1) := by decide +kernel
theorem dL_law_866 : decode cL_law 866 = .ok (.iadd, 1) := by decide +kernel
theorem dL_law_867 : decode cL_law 867 = .ok (.iaload, 1) := by decide +kernel
theorem dL_law_868 : decode cL_law 868 = .ok (.invokevirtual 132, 3) := by decide +kernel
theorem dL_law_871 : decode cL_law 871 = .ok (.istore 6, 2) := by decide +kernel
theorem dL_law_873 : decode cL_law 873 = .ok (.aload_n 2, 1) := by decide +kernel
theorem dL_law_874 : decode cL_law 874 = .ok (.invokevirtual 75, 3) := by decide +kernel
theorem dL_law_877 : decode cL_law 877 = .ok (.iload 5, 2) := by decide +kernel
theorem dL_law_879 : decode cL_law 879 = .ok (.if_icmp .eq 5, 3) := by decide +kernel
theorem dL_law_882 : decode cL_law 882 = .ok (.iconst 0, 1) := by decide +kernel
theorem dL_law_883 : decode cL_law 883 = .ok (.ireturn, 1) := by decide +kernel
theorem dL_law_884 : decode cL_law 884 = .ok (.iload 5, 2) := by decide +kernel
theorem dL_law_886 : decode cL_law 886 = .ok (.ifCond .ne 15, 3) := by decide +kernel
theorem dL_law_889 : decode cL_law 889 = .ok (.aload_n 3, 1) := by decide +kernel
theorem dL_law_890 : decode cL_law 890 = .ok (.iconst 0, 1) := by decide +kernel
theorem dL_law_891 : decode cL_law 891 = .ok (.laload, 1) := by decide +kernel
theorem dL_law_892 : decode cL_law 892 = .ok (.iload 6, 2) := by decide +kernel
theorem dL_law_894 : decode cL_law 894 = .ok (.i2l, 1) := by decide +kernel
theorem dL_law_895 : decode cL_law 895 = .ok (.lcmp, 1) := by decide +kernel
theorem dL_law_896 : decode cL_law 896 = .ok (.ifCond .eq 5, 3) := by decide +kernel
theorem dL_law_899 : decode cL_law 899 = .ok (.iconst 0, 1) := by decide +kernel
theorem dL_law_900 : decode cL_law 900 = .ok (.ireturn, 1) := by decide +kernel
theorem dL_law_901 : decode cL_law 901 = .ok (.goto 266, 3) := by decide +kernel
theorem dL_law_904 : decode cL_law 904 = .ok (.aload_n 1, 1) := by decide +kernel
theorem dL_law_905 : decode cL_law 905 = .ok (.aload_n 3, 1) := by decide +kernel
theorem dL_law_906 : decode cL_law 906 = .ok (.invokestatic 133, 3) := by decide +kernel
theorem dL_law_909 : decode cL_law 909 = .ok (.istore 5, 2) := by decide +kernel
theorem dL_law_911 : decode cL_law 911 = .ok (.aload_n 2, 1) := by decide +kernel
theorem dL_law_912 : decode cL_law 912 = .ok (.invokevirtual 136, 3) := by decide +kernel
theorem dL_law_915 : decode cL_law 915 = .ok (.istore 6, 2) := by decide +kernel
theorem dL_law_917 : decode cL_law 917 = .ok (.aload_n 2, 1) := by decide +kernel
theorem dL_law_918 : decode cL_law 918 = .ok (.invokevirtual 75, 3) := by decide +kernel
theorem dL_law_921 : decode cL_law 921 = .ok (.iload 5, 2) := by decide +kernel
theorem dL_law_923 : decode cL_law 923 = .ok (.if_icmp .eq 5, 3) := by decide +kernel
theorem dL_law_926 : decode cL_law 926 = .ok (.iconst 0, 1) := by decide +kernel
theorem dL_law_927 : decode cL_law 927 = .ok (.ireturn, 1) := by decide +kernel
theorem dL_law_928 : decode cL_law 928 = .ok (.iload 5, 2) := by decide +kernel
theorem dL_law_930 : decode cL_law 930 = .ok (.ifCond .ne 15, 3) := by decide +kernel
theorem dL_law_933 : decode cL_law 933 = .ok (.aload_n 3, 1) := by decide +kernel
theorem dL_law_934 : decode cL_law 934 = .ok (.iconst 0, 1) := by decide +kernel
theorem dL_law_935 : decode cL_law 935 = .ok (.laload, 1) := by decide +kernel
theorem dL_law_936 : decode cL_law 936 = .ok (.iload 6, 2) := by decide +kernel
theorem dL_law_938 : decode cL_law 938 = .ok (.i2l, 1) := by decide +kernel
theorem dL_law_939 : decode cL_law 939 = .ok (.lcmp, 1) := by decide +kernel
theorem dL_law_940 : decode cL_law 940 = .ok (.ifCond .eq 5, 3) := by decide +kernel
theorem dL_law_943 : decode cL_law 943 = .ok (.iconst 0, 1) := by decide +kernel
theorem dL_law_944 : decode cL_law 944 = .ok (.ireturn, 1) := by decide +kernel
theorem dL_law_945 : decode cL_law 945 = .ok (.goto 222, 3) := by decide +kernel
theorem dL_law_948 : decode cL_law 948 = .ok (.aload_n 1, 1) := by decide +kernel
theorem dL_law_949 : decode cL_law 949 = .ok (.aload_n 0, 1) := by decide +kernel
theorem dL_law_950 : decode cL_law 950 = .ok (.iload 4, 2) := by decide +kernel
theorem dL_law_952 : decode cL_law 952 = .ok (.iconst 1, 1) := by decide +kernel
theorem dL_law_953 : decode cL_law 953 = .ok (.iadd, 1) := by decide +kernel
theorem dL_law_954 : decode cL_law 954 = .ok (.iaload, 1) := by decide +kernel
theorem dL_law_955 : decode cL_law 955 = .ok (.aload_n 0, 1) := by decide +kernel
theorem dL_law_956 : decode cL_law 956 = .ok (.iload 4, 2) := by decide +kernel
theorem dL_law_958 : decode cL_law 958 = .ok (.iconst 2, 1) := by decide +kernel
theorem dL_law_959 : decode cL_law 959 = .ok (.iadd, 1) := by decide +kernel
theorem dL_law_960 : decode cL_law 960 = .ok (.iaload, 1) := by decide +kernel
theorem dL_law_961 : decode cL_law 961 = .ok (.aload_n 0, 1) := by decide +kernel
theorem dL_law_962 : decode cL_law 962 = .ok (.iload 4, 2) := by decide +kernel
theorem dL_law_964 : decode cL_law 964 = .ok (.iconst 3, 1) := by decide +kernel
theorem dL_law_965 : decode cL_law 965 = .ok (.iadd, 1) := by decide +kernel
theorem dL_law_966 : decode cL_law 966 = .ok (.iaload, 1) := by decide +kernel
theorem dL_law_967 : decode cL_law 967 = .ok (.aload_n 3, 1) := by decide +kernel
theorem dL_law_968 : decode cL_law 968 = .ok (.invokestatic 137, 3) := by decide +kernel
theorem dL_law_971 : decode cL_law 971 = .ok (.istore 5, 2) := by decide +kernel
theorem dL_law_973 : decode cL_law 973 = .ok (.aload_n 2, 1) := by decide +kernel
theorem dL_law_974 : decode cL_law 974 = .ok (.aload_n 0, 1) := by decide +kernel
theorem dL_law_975 : decode cL_law 975 = .ok (.iload 4, 2) := by decide +kernel
theorem dL_law_977 : decode cL_law 977 = .ok (.iconst 1, 1) := by decide +kernel
theorem dL_law_978 : decode cL_law 978 = .ok (.iadd, 1) := by decide +kernel
theorem dL_law_979 : decode cL_law 979 = .ok (.iaload, 1) := by decide +kernel
theorem dL_law_980 : decode cL_law 980 = .ok (.aload_n 0, 1) := by decide +kernel
theorem dL_law_981 : decode cL_law 981 = .ok (.iload 4, 2) := by decide +kernel
theorem dL_law_983 : decode cL_law 983 = .ok (.iconst 2, 1) := by decide +kernel
theorem dL_law_984 : decode cL_law 984 = .ok (.iadd, 1) := by decide +kernel
theorem dL_law_985 : decode cL_law 985 = .ok (.iaload, 1) := by decide +kernel
theorem dL_law_986 : decode cL_law 986 = .ok (.aload_n 0, 1) := by decide +kernel
theorem dL_law_987 : decode cL_law 987 = .ok (.iload 4, 2) := by decide +kernel
theorem dL_law_989 : decode cL_law 989 = .ok (.iconst 3, 1) := by decide +kernel
theorem dL_law_990 : decode cL_law 990 = .ok (.iadd, 1) := by decide +kernel
theorem dL_law_991 : decode cL_law 991 = .ok (.iaload, 1) := by decide +kernel
theorem dL_law_992 : decode cL_law 992 = .ok (.invokevirtual 139, 3) := by decide +kernel
theorem dL_law_995 : decode cL_law 995 = .ok (.istore 6, 2) := by decide +kernel
theorem dL_law_997 : decode cL_law 997 = .ok (.aload_n 2, 1) := by decide +kernel
theorem dL_law_998 : decode cL_law 998 = .ok (.invokevirtual 75, 3) := by decide +kernel
theorem dL_law_1001 : decode cL_law 1001 = .ok (.iload 5, 2) := by decide +kernel
theorem dL_law_1003 : decode cL_law 1003 = .ok (.if_icmp .eq 5, 3) := by decide +kernel
theorem dL_law_1006 : decode cL_law 1006 = .ok (.iconst 0, 1) := by decide +kernel
theorem dL_law_1007 : decode cL_law 1007 = .ok (.ireturn, 1) := by decide +kernel
theorem dL_law_1008 : decode cL_law 1008 = .ok (.iload 5, 2) := by decide +kernel
theorem dL_law_1010 : decode cL_law 1010 = .ok (.ifCond .ne 15, 3) := by decide +kernel
theorem dL_law_1013 : decode cL_law 1013 = .ok (.aload_n 3, 1) := by decide +kernel
theorem dL_law_1014 : decode cL_law 1014 = .ok (.iconst 0, 1) := by decide +kernel
theorem dL_law_1015 : decode cL_law 1015 = .ok (.laload, 1) := by decide +kernel
theorem dL_law_1016 : decode cL_law 1016 = .ok (.iload 6, 2) := by decide +kernel
theorem dL_law_1018 : decode cL_law 1018 = .ok (.i2l, 1) := by decide +kernel
theorem dL_law_1019 : decode cL_law 1019 = .ok (.lcmp, 1) := by decide +kernel
theorem dL_law_1020 : decode cL_law 1020 = .ok (.ifCond .eq 5, 3) := by decide +kernel
theorem dL_law_1023 : decode cL_law 1023 = .ok (.iconst 0, 1) := by decide +kernel
theorem dL_law_1024 : decode cL_law 1024 = .ok (.ireturn, 1) := by decide +kernel
theorem dL_law_1025 : decode cL_law 1025 = .ok (.goto 142, 3) := by decide +kernel
theorem dL_law_1028 : decode cL_law 1028 = .ok (.aload_n 1, 1) := by decide +kernel
theorem dL_law_1029 : decode cL_law 1029 = .ok (.aload_n 0, 1) := by decide +kernel
theorem dL_law_1030 : decode cL_law 1030 = .ok (.iload 4, 2) := by decide +kernel
theorem dL_law_1032 : decode cL_law 1032 = .ok (.iconst 1, 1) := by decide +kernel
theorem dL_law_1033 : decode cL_law 1033 = .ok (.iadd, 1) := by decide +kernel
theorem dL_law_1034 : decode cL_law 1034 = .ok (.iaload, 1) := by decide +kernel
theorem dL_law_1035 : decode cL_law 1035 = .ok (.aload_n 3, 1) := by decide +kernel
theorem dL_law_1036 : decode cL_law 1036 = .ok (.invokestatic 140, 3) := by decide +kernel
theorem dL_law_1039 : decode cL_law 1039 = .ok (.istore 5, 2) := by decide +kernel
theorem dL_law_1041 : decode cL_law 1041 = .ok (.aload_n 2, 1) := by decide +kernel
theorem dL_law_1042 : decode cL_law 1042 = .ok (.aload_n 0, 1) := by decide +kernel
theorem dL_law_1043 : decode cL_law 1043 = .ok (.iload 4, 2) := by decide +kernel
theorem dL_law_1045 : decode cL_law 1045 = .ok (.iconst 1, 1) := by decide +kernel
theorem dL_law_1046 : decode cL_law 1046 = .ok (.iadd, 1) := by decide +kernel
theorem dL_law_1047 : decode cL_law 1047 = .ok (.iaload, 1) := by decide +kernel
theorem dL_law_1048 : decode cL_law 1048 = .ok (.invokevirtual 142, 3) := by decide +kernel
theorem dL_law_1051 : decode cL_law 1051 = .ok (.istore 6, 2) := by decide +kernel
theorem dL_law_1053 : decode cL_law 1053 = .ok (.aload_n 2, 1) := by decide +kernel
theorem dL_law_1054 : decode cL_law 1054 = .ok (.invokevirtual 75, 3) := by decide +kernel
theorem dL_law_1057 : decode cL_law 1057 = .ok (.iload 5, 2) := by decide +kernel
theorem dL_law_1059 : decode cL_law 1059 = .ok (.if_icmp .eq 5, 3) := by decide +kernel
theorem dL_law_1062 : decode cL_law 1062 = .ok (.iconst 0, 1) := by decide +kernel
theorem dL_law_1063 : decode cL_law 1063 = .ok (.ireturn, 1) := by decide +kernel
theorem dL_law_1064 : decode cL_law 1064 = .ok (.iload 5, 2) := by decide +kernel
theorem dL_law_1066 : decode cL_law 1066 = .ok (.ifCond .ne 15, 3) := by decide +kernel
theorem dL_law_1069 : decode cL_law 1069 = .ok (.aload_n 3, 1) := by decide +kernel
theorem dL_law_1070 : decode cL_law 1070 = .ok (.iconst 0, 1) := by decide +kernel
theorem dL_law_1071 : decode cL_law 1071 = .ok (.laload, 1) := by decide +kernel
theorem dL_law_1072 : decode cL_law 1072 = .ok (.iload 6, 2) := by decide +kernel
theorem dL_law_1074 : decode cL_law 1074 = .ok (.i2l, 1) := by decide +kernel
theorem dL_law_1075 : decode cL_law 1075 = .ok (.lcmp, 1) := by decide +kernel
theorem dL_law_1076 : decode cL_law 1076 = .ok (.ifCond .eq 5, 3) := by decide +kernel
theorem dL_law_1079 : decode cL_law 1079 = .ok (.iconst 0, 1) := by decide +kernel
theorem dL_law_1080 : decode cL_law 1080 = .ok (.ireturn, 1) := by decide +kernel
theorem dL_law_1081 : decode cL_law 1081 = .ok (.goto 86, 3) := by decide +kernel
theorem dL_law_1084 : decode cL_law 1084 = .ok (.aload_n 1, 1) := by decide +kernel
theorem dL_law_1085 : decode cL_law 1085 = .ok (.aload_n 0, 1) := by decide +kernel
theorem dL_law_1086 : decode cL_law 1086 = .ok (.iload 4, 2) := by decide +kernel
theorem dL_law_1088 : decode cL_law 1088 = .ok (.iconst 1, 1) := by decide +kernel
theorem dL_law_1089 : decode cL_law 1089 = .ok (.iadd, 1) := by decide +kernel
theorem dL_law_1090 : decode cL_law 1090 = .ok (.iaload, 1) := by decide +kernel
theorem dL_law_1091 : decode cL_law 1091 = .ok (.aload_n 3, 1) := by decide +kernel
theorem dL_law_1092 : decode cL_law 1092 = .ok (.invokestatic 143, 3) := by decide +kernel
theorem dL_law_1095 : decode cL_law 1095 = .ok (.istore 5, 2) := by decide +kernel
theorem dL_law_1097 : decode cL_law 1097 = .ok (.aload_n 2, 1) := by decide +kernel
theorem dL_law_1098 : decode cL_law 1098 = .ok (.aload_n 0, 1) := by decide +kernel
theorem dL_law_1099 : decode cL_law 1099 = .ok (.iload 4, 2) := by decide +kernel
theorem dL_law_1101 : decode cL_law 1101 = .ok (.iconst 1, 1) := by decide +kernel
theorem dL_law_1102 : decode cL_law 1102 = .ok (.iadd, 1) := by decide +kernel
theorem dL_law_1103 : decode cL_law 1103 = .ok (.iaload, 1) := by decide +kernel
theorem dL_law_1104 : decode cL_law 1104 = .ok (.invokevirtual 145, 3) := by decide +kernel
theorem dL_law_1107 : decode cL_law 1107 = .ok (.istore 6, 2) := by decide +kernel
theorem dL_law_1109 : decode cL_law 1109 = .ok (.aload_n 2, 1) := by decide +kernel
theorem dL_law_1110 : decode cL_law 1110 = .ok (.invokevirtual 75, 3) := by decide +kernel
theorem dL_law_1113 : decode cL_law 1113 = .ok (.iload 5, 2) := by decide +kernel
theorem dL_law_1115 : decode cL_law 1115 = .ok (.if_icmp .eq 5, 3) := by decide +kernel
theorem dL_law_1118 : decode cL_law 1118 = .ok (.iconst 0, 1) := by decide +kernel
theorem dL_law_1119 : decode cL_law 1119 = .ok (.ireturn, 1) := by decide +kernel
theorem dL_law_1120 : decode cL_law 1120 = .ok (.iload 5, 2) := by decide +kernel
theorem dL_law_1122 : decode cL_law 1122 = .ok (.ifCond .ne 15, 3) := by decide +kernel
theorem dL_law_1125 : decode cL_law 1125 = .ok (.aload_n 3, 1) := by decide +kernel
theorem dL_law_1126 : decode cL_law 1126 = .ok (.iconst 0, 1) := by decide +kernel
theorem dL_law_1127 : decode cL_law 1127 = .ok (.laload, 1) := by decide +kernel
theorem dL_law_1128 : decode cL_law 1128 = .ok (.iload 6, 2) := by decide +kernel
theorem dL_law_1130 : decode cL_law 1130 = .ok (.i2l, 1) := by decide +kernel
theorem dL_law_1131 : decode cL_law 1131 = .ok (.lcmp, 1) := by decide +kernel
theorem dL_law_1132 : decode cL_law 1132 = .ok (.ifCond .eq 5, 3) := by decide +kernel
theorem dL_law_1135 : decode cL_law 1135 = .ok (.iconst 0, 1) := by decide +kernel
theorem dL_law_1136 : decode cL_law 1136 = .ok (.ireturn, 1) := by decide +kernel
theorem dL_law_1137 : decode cL_law 1137 = .ok (.goto 30, 3) := by decide +kernel
theorem dL_law_1140 : decode cL_law 1140 = .ok (.aload_n 1, 1) := by decide +kernel
theorem dL_law_1141 : decode cL_law 1141 = .ok (.invokevirtual 146, 3) := by decide +kernel
theorem dL_law_1144 : decode cL_law 1144 = .ok (.aload_n 2, 1) := by decide +kernel
theorem dL_law_1145 : decode cL_law 1145 = .ok (.invokevirtual 149, 3) := by decide +kernel
theorem dL_law_1148 : decode cL_law 1148 = .ok (.if_icmp .eq 19, 3) := by decide +kernel
theorem dL_law_1151 : decode cL_law 1151 = .ok (.iconst 0, 1) := by decide +kernel
theorem dL_law_1152 : decode cL_law 1152 = .ok (.ireturn, 1) := by decide +kernel
theorem dL_law_1153 : decode cL_law 1153 = .ok (.aload_n 1, 1) := by decide +kernel
theorem dL_law_1154 : decode cL_law 1154 = .ok (.invokevirtual 150, 3) := by decide +kernel
theorem dL_law_1157 : decode cL_law 1157 = .ok (.aload_n 2, 1) := by decide +kernel
theorem dL_law_1158 : decode cL_law 1158 = .ok (.invokevirtual 154, 3) := by decide +kernel
theorem dL_law_1161 : decode cL_law 1161 = .ok (.lcmp, 1) := by decide +kernel
theorem dL_law_1162 : decode cL_law 1162 = .ok (.ifCond .eq 5, 3) := by decide +kernel
theorem dL_law_1165 : decode cL_law 1165 = .ok (.iconst 0, 1) := by decide +kernel
theorem dL_law_1166 : decode cL_law 1166 = .ok (.ireturn, 1) := by decide +kernel
theorem dL_law_1167 : decode cL_law 1167 = .ok (.iinc 4 6, 3) := by decide +kernel
theorem dL_law_1170 : decode cL_law 1170 = .ok (.goto (-1147), 3) := by decide +kernel
theorem dL_law_1173 : decode cL_law 1173 = .ok (.iconst 1, 1) := by decide +kernel
theorem dL_law_1174 : decode cL_law 1174 = .ok (.ireturn, 1) := by decide +kernel
end
section
/-! THE ABSTRACT MACHINE: a heap of numbered cells whose kinds stand in one table; a judgement AW over it, sound by the kit's rows -/
abbrev AH : Type := Nat × (Nat → Nat → Int32) × (Nat → Nat → Int64) × (Nat → Nat → Option Nat)
def hN (h : AH) : Nat := h.1
def hI (h : AH) : Nat → Nat → Int32 := h.2.1
def hL (h : AH) : Nat → Nat → Int64 := h.2.2.1
def hR (h : AH) : Nat → Nat → Option Nat := h.2.2.2
def up2 {α : Type} (f : Nat → Nat → α) (a j : Nat) (x : α) : Nat → Nat → α := fun b k => if b = a ∧ k = j then x else f b k
def upr {α : Type} (f : Nat → Nat → α) (a : Nat) (g : Nat → α) : Nat → Nat → α := fun b => if b = a then g else f b
def sI (h : AH) (a j : Nat) (x : Int32) : AH := (hN h, up2 (hI h) a j x, hL h, hR h)
def sL (h : AH) (a j : Nat) (x : Int64) : AH := (hN h, hI h, up2 (hL h) a j x, hR h)
def sR (h : AH) (a j : Nat) (x : Option Nat) : AH := (hN h, hI h, hL h, up2 (hR h) a j x)
def rI (h : AH) (a : Nat) (g : Nat → Int32) : AH := (hN h, upr (hI h) a g, hL h, hR h)
def nw (h : AH) : AH := (hN h + 1, upr (hI h) (hN h) (fun _ => 0), upr (hL h) (hN h) (fun _ => 0), upr (hR h) (hN h) (fun _ => none))
def nwM (h : AH) (n : Nat) : AH := (hN h + 1 + n, (fun b => if hN h ≤ b ∧ b ≤ hN h + n then (fun _ => 0) else hI h b), (fun b => if hN h ≤ b ∧ b ≤ hN h + n then (fun _ => 0) else hL h b),
  (fun b => if b = hN h then (fun i => if i < n then some (hN h + 1 + i) else none) else if hN h < b ∧ b ≤ hN h + n then (fun _ => none) else hR h b))
/-- the kinds of the cells, in the order of their making: .inl class, .inr (0 int, 1 byte, 2 boolean, 3 long, 4 Sheet, 5 int[] rows; length) -/
def shL : List (Nat ⊕ (Nat × Nat)) :=
  [.inl 4, .inr (1, 400), .inl 3, .inr (0, 96), .inr (0, 12), .inr (0, 24), .inr (4, 8), .inl 2, .inl 3, .inr (0, 96), .inr (0, 12), .inr (0, 24), .inr (1, 400),
   .inl 0, .inr (3, 24), .inr (0, 48), .inl 1, .inl 0, .inr (3, 24), .inr (0, 48), .inr (3, 8), .inr (3, 96), .inr (5, 8),
   .inr (0, 96), .inr (0, 96), .inr (0, 96), .inr (0, 96), .inr (0, 96), .inr (0, 96), .inr (0, 96), .inr (0, 96), .inr (0, 9), .inr (0, 8), .inr (0, 8),
   .inl 3, .inr (0, 96), .inr (0, 12), .inr (0, 24), .inl 3, .inr (0, 96), .inr (0, 12), .inr (0, 24), .inl 3, .inr (0, 96), .inr (0, 12), .inr (0, 24), .inl 3, .inr (0, 96), .inr (0, 12), .inr (0, 24),
   .inl 3, .inr (0, 96), .inr (0, 12), .inr (0, 24), .inl 3, .inr (0, 96), .inr (0, 12), .inr (0, 24), .inl 3, .inr (0, 96), .inr (0, 12), .inr (0, 24), .inl 3, .inr (0, 96), .inr (0, 12), .inr (0, 24),
   .inl 5, .inr (0, 400), .inr (0, 186), .inr (0, 186), .inr (0, 186), .inr (5, 8), .inr (0, 186), .inr (0, 186), .inr (0, 186), .inr (0, 186), .inr (0, 186), .inr (0, 186), .inr (0, 186), .inr (0, 186),
   .inr (0, 48), .inr (2, 48), .inr (0, 9), .inr (0, 8), .inr (0, 8), .inr (0, 8), .inr (3, 9), .inr (3, 4096), .inr (0, 8), .inr (3, 1)]
def shK (a : Nat) : Option (Nat ⊕ (Nat × Nat)) := shL[a]?
def nF (ci : Nat) : Nat := match ci with | 0 => 4 | 1 => 10 | 2 => 10 | 3 => 10 | 4 => 10 | _ => 27
def fT (ci : Nat) : Nat → FieldType := match ci with | 0 => tyX0 | 1 => tyX1 | 2 => tyX2 | 3 => tyX3 | 4 => tyX4 | _ => tyX5
def cT (ci : Nat) : u_T := match ci with | 0 => TX0 | 1 => TX1 | 2 => TX2 | 3 => TX3 | 4 => TX4 | _ => TX5
def cR (ci : Nat) : String := match ci with | 0 => RX0 | 1 => RX1 | 2 => RX2 | 3 => RX3 | 4 => RX4 | _ => RX5
def kT (ty : FieldType) : Nat := match ty with | .long => 1 | .object _ => 2 | .array _ => 2 | _ => 0
def fK (ci k : Nat) : Nat := kT (fT ci k)
def tyF (t : Nat) : FieldType := match t with | 0 => .int | 1 => .byte | 2 => .boolean | 3 => .long | 4 => .object "LetterCuts$Sheet" | _ => .array .int
def tysOf (cls : Nat → ClassId) : List (ClassId × FieldType) := [(cls 0, .int), (cls 1, .byte), (cls 2, .boolean), (cls 3, .long), (cls 4, .object "LetterCuts$Sheet"), (cls 5, .array .int)]
def fv (ad : Nat → Nat) (h : AH) (a ci k : Nat) : Value := if fK ci k = 0 then .int (hI h a k) else if fK ci k = 1 then .long (hL h a k) else va_rf ((hR h a k).map ad)
def aC (ad : Nat → Nat) (h : AH) (a t n : Nat) : vp_A := (n, if t ≤ 2 then .inl (hI h a) else if t = 3 then .inr (.inl (hL h a)) else .inr (.inr (.inr (.inr (fun j => (hR h a j).map ad)))))
def ceK (cls : Nat → ClassId) (ad : Nat → Nat) (h : AH) (a : Nat) (k : Option (Nat ⊕ (Nat × Nat))) : va_E := match k with
  | some (.inl ci) => .inr (ci, (List.range (nF ci)).map (fv ad h a ci))
  | some (.inr (t, n)) => .inl (cls t, aC ad h a t n)
  | none => .inr (0, [])
def ce (cls : Nat → ClassId) (ad : Nat → Nat) (h : AH) (a : Nat) : va_E := ceK cls ad h a (shK a)
def wld (cls : Nat → ClassId) (ad : Nat → Nat) (h : AH) : va_W := (List.range (hN h)).map (fun a => (ad a, ce cls ad h a))
def wfh (h : AH) : Prop := hN h ≤ 90 ∧ ∀ a j k, a < hN h → hR h a j = some k → k < hN h
/-- an abstract value's own value: the cells by their addresses -/
def cv (ad : Nat → Nat) : Value → Value
  | .ref a => .ref (ad a)
  | v => v
theorem cv_cat (ad : Nat → Nat) (v : Value) : (cv ad v).category = v.category := by cases v <;> rfl
-- locals
def lget (i : Nat) : List (Nat × Value) → Option Value
  | [] => none
  | q :: r => if q.1 = i then some q.2 else lget i r
def lins (i : Nat) (v : Value) : List (Nat × Value) → List (Nat × Value)
  | [] => [(i, v)]
  | q :: r => if i < q.1 then (i, v) :: q :: r else q :: lins i v r
def ls1 (i : Nat) (v : Value) (ls : List (Nat × Value)) : List (Nat × Value) := lins i v (ls.filter (fun q => !(q.1 == i) && !(q.1 + 1 == i && q.2.category == 2)))
def ls2 (i : Nat) (v : Value) (ls : List (Nat × Value)) : List (Nat × Value) := lins i v (ls.filter (fun q => !(q.1 == i) && (!(q.1 == i + 1) && !(q.1 + 1 == i && q.2.category == 2))))
def cl1 (ad : Nat → Nat) (q : Nat × Value) : Nat × Value := (q.1, cv ad q.2)
theorem lget_mem {i : Nat} {v : Value} : ∀ {ls : List (Nat × Value)}, lget i ls = some v → (i, v) ∈ ls
  | [], h => by simp [lget] at h
  | q :: r, h => by
    unfold lget at h
    split at h
    · rename_i e
      cases h
      rw [← e]
      exact List.mem_cons_self
    · exact List.mem_cons_of_mem _ (lget_mem h)
theorem lins_mem {i : Nat} {v : Value} {q : Nat × Value} : ∀ {l : List (Nat × Value)}, q ∈ lins i v l → q ∈ (i, v) :: l
  | [], h => h
  | p :: r, h => by
    unfold lins at h
    split at h
    · exact h
    · rcases List.mem_cons.mp h with rfl | h
      · simp
      · rcases List.mem_cons.mp (lins_mem h) with rfl | h
        · simp
        · exact List.mem_cons_of_mem _ (List.mem_cons_of_mem _ h)
theorem lv_has_of {A : Array Slot} {n : Nat} {l l' : List (Nat × Value)} (h : lv_has A n l) (hs : ∀ q ∈ l', q ∈ l) : lv_has A n l' := ⟨h.1, h.2.1, fun q hq => h.2.2 q (hs q hq)⟩
theorem filt_map {ad : Nat → Nat} {f : Nat × Value → Bool} (hf : ∀ q, f (cl1 ad q) = f q) (ls : List (Nat × Value)) : (ls.map (cl1 ad)).filter f = (ls.filter f).map (cl1 ad) := by
  induction ls with
  | nil => rfl
  | cons q r ih =>
    rw [List.map_cons, List.filter_cons, List.filter_cons, hf q]
    split
    · rw [ih, List.map_cons]
    · exact ih
theorem ls1_has {A : Array Slot} {n : Nat} {ad : Nat → Nat} {i : Nat} {v : Value} {ls : List (Nat × Value)} (h : lv_has A n ((i, cv ad v) :: (ls.map (cl1 ad)).filter (fun q => !(q.1 == i) && !(q.1 + 1 == i && q.2.category == 2)))) : lv_has A n ((ls1 i v ls).map (cl1 ad)) := by
  rw [filt_map (fun q => by simp only [cl1, cv_cat])] at h
  refine lv_has_of h (fun q hq => ?_)
  obtain ⟨p, hp, rfl⟩ := List.mem_map.mp hq
  rcases List.mem_cons.mp (lins_mem hp) with rfl | hp
  · exact List.mem_cons_self
  · exact List.mem_cons_of_mem _ (List.mem_map.mpr ⟨p, hp, rfl⟩)
theorem ls2_has {A : Array Slot} {n : Nat} {ad : Nat → Nat} {i : Nat} {v : Value} {ls : List (Nat × Value)} (h : lv_has A n ((i, cv ad v) :: (ls.map (cl1 ad)).filter (fun q => !(q.1 == i) && (!(q.1 == i + 1) && !(q.1 + 1 == i && q.2.category == 2))))) : lv_has A n ((ls2 i v ls).map (cl1 ad)) := by
  rw [filt_map (fun q => by simp only [cl1, cv_cat])] at h
  refine lv_has_of h (fun q hq => ?_)
  obtain ⟨p, hp, rfl⟩ := List.mem_map.mp hq
  rcases List.mem_cons.mp (lins_mem hp) with rfl | hp
  · exact List.mem_cons_self
  · exact List.mem_cons_of_mem _ (List.mem_map.mpr ⟨p, hp, rfl⟩)
theorem lget_at {A : Array Slot} {n : Nat} {ad : Nat → Nat} {i : Nat} {v : Value} {ls : List (Nat × Value)} (h : lv_has A n (ls.map (cl1 ad))) (hv : lget i ls = some v) : A[i]? = some (.val (cv ad v)) :=
  h.2.2 (i, cv ad v) (List.mem_map.mpr ⟨(i, v), lget_mem hv, rfl⟩)
-- the world's cells
theorem wld_get {cls : Nat → ClassId} {ad : Nat → Nat} {h : AH} {a : Nat} (ha : a < hN h) : (wld cls ad h)[a]? = some (ad a, ce cls ad h a) := by
  unfold wld
  rw [List.getElem?_map, List.getElem?_range ha]
  rfl
theorem wld_len {cls : Nat → ClassId} {ad : Nat → Nat} {h : AH} : (wld cls ad h).length = hN h := by simp [wld]
theorem ce_congr {cls : Nat → ClassId} {ad ad' : Nat → Nat} {h h' : AH} {a : Nat} (e1 : hI h' a = hI h a) (e2 : hL h' a = hL h a) (e3 : ∀ j, (hR h' a j).map ad' = (hR h a j).map ad) : ce cls ad' h' a = ce cls ad h a := by
  have f : ∀ ci, fv ad' h' a ci = fv ad h a ci := fun ci => funext fun k => by simp only [fv, e1, e2, e3]
  have g : ∀ t n, aC ad' h' a t n = aC ad h a t n := fun t n => by simp only [aC, e1, e2, funext e3]
  unfold ce ceK
  split
  · rw [f]
  · rw [g]
  · rfl
theorem wld_set {cls : Nat → ClassId} {ad : Nat → Nat} {h h' : AH} {a : Nat} {e : va_E} (hn : hN h' = hN h) (ho : ∀ b, b ≠ a → ce cls ad h' b = ce cls ad h b) (he : e = ce cls ad h' a) (ha : a < hN h) : (wld cls ad h).set a (ad a, e) = wld cls ad h' := by
  subst he
  apply List.ext_getElem?
  intro i
  by_cases hi : i < hN h
  · rw [wld_get (by rw [hn]; exact hi), List.getElem?_set]
    by_cases e : a = i
    · subst e
      rw [if_pos rfl, wld_len, if_pos ha]
    · rw [if_neg e, wld_get hi, ho i (fun q => e q.symm)]
  · rw [List.getElem?_eq_none (by rw [List.length_set, wld_len]; omega), List.getElem?_eq_none (by rw [wld_len, hn]; omega)]
theorem range_set {f : Nat → Value} {n k : Nat} {v : Value} (hk : k < n) : ((List.range n).map f).set k v = (List.range n).map (fun j => if j = k then v else f j) := by
  apply List.ext_getElem?
  intro i
  rw [List.getElem?_set]
  by_cases hi : i < n
  · by_cases e : k = i
    · subst e
      simp [hk]
    · have e' : ¬ i = k := fun q => e q.symm
      simp [e, e', hi]
  · have e : ¬ k = i := fun q => hi (q ▸ hk)
    have e' : ¬ i = k := fun q => e q.symm
    simp [e, e', hi]
-- read and write of the abstract heap
theorem up2_row {α : Type} {f : Nat → Nat → α} {a j b : Nat} {x : α} (hb : b ≠ a) : up2 f a j x b = f b := funext fun k => if_neg (fun q => hb q.1)
theorem upr_row {α : Type} {f : Nat → Nat → α} {a b : Nat} {g : Nat → α} (hb : b ≠ a) : upr f a g b = f b := if_neg hb
theorem up2_self {α : Type} {f : Nat → Nat → α} {a j k : Nat} {x : α} : up2 f a j x a k = if k = j then x else f a k := by
  by_cases e : k = j <;> simp [up2, e]
theorem hN_sI {h : AH} {a j : Nat} {x : Int32} : hN (sI h a j x) = hN h := rfl
theorem hN_sL {h : AH} {a j : Nat} {x : Int64} : hN (sL h a j x) = hN h := rfl
theorem hN_sR {h : AH} {a j : Nat} {x : Option Nat} : hN (sR h a j x) = hN h := rfl
theorem hN_rI {h : AH} {a : Nat} {g : Nat → Int32} : hN (rI h a g) = hN h := rfl
theorem hI_sI {h : AH} {a j b k : Nat} {x : Int32} : hI (sI h a j x) b k = if b = a ∧ k = j then x else hI h b k := rfl
theorem hL_sI {h : AH} {a j : Nat} {x : Int32} : hL (sI h a j x) = hL h := rfl
theorem hR_sI {h : AH} {a j : Nat} {x : Int32} : hR (sI h a j x) = hR h := rfl
theorem hI_sL {h : AH} {a j : Nat} {x : Int64} : hI (sL h a j x) = hI h := rfl
theorem hL_sL {h : AH} {a j b k : Nat} {x : Int64} : hL (sL h a j x) b k = if b = a ∧ k = j then x else hL h b k := rfl
theorem hR_sL {h : AH} {a j : Nat} {x : Int64} : hR (sL h a j x) = hR h := rfl
theorem hI_sR {h : AH} {a j : Nat} {x : Option Nat} : hI (sR h a j x) = hI h := rfl
theorem hL_sR {h : AH} {a j : Nat} {x : Option Nat} : hL (sR h a j x) = hL h := rfl
theorem hR_sR {h : AH} {a j b k : Nat} {x : Option Nat} : hR (sR h a j x) b k = if b = a ∧ k = j then x else hR h b k := rfl
theorem hI_rI {h : AH} {a b : Nat} {g : Nat → Int32} : hI (rI h a g) b = if b = a then g else hI h b := rfl
theorem hL_rI {h : AH} {a : Nat} {g : Nat → Int32} : hL (rI h a g) = hL h := rfl
theorem hR_rI {h : AH} {a : Nat} {g : Nat → Int32} : hR (rI h a g) = hR h := rfl
-- the kinds
theorem ce_obj {cls : Nat → ClassId} {ad : Nat → Nat} {h : AH} {a ci : Nat} (hs : shK a = some (.inl ci)) : ce cls ad h a = .inr (ci, (List.range (nF ci)).map (fv ad h a ci)) := by unfold ce; rw [hs]; rfl
theorem ce_arr {cls : Nat → ClassId} {ad : Nat → Nat} {h : AH} {a t n : Nat} (hs : shK a = some (.inr (t, n))) : ce cls ad h a = .inl (cls t, aC ad h a t n) := by unfold ce; rw [hs]; rfl
theorem shK_ci {a ci : Nat} (hs : shK a = some (.inl ci)) : ci < 6 := by
  have h : ∀ k : Fin 90, ∀ ci, shK k.val = some (.inl ci) → ci < 6 := by
    intro k ci h
    have hm : (Sum.inl ci : Nat ⊕ (Nat × Nat)) ∈ shL := List.mem_of_getElem? h
    simp [shL] at hm
    omega
  have ha : a < 90 := by
    have := (List.getElem?_eq_some_iff.mp hs).1
    simpa [shL] using this
  exact h ⟨a, ha⟩ ci hs
theorem vwCl_at {ci : Nat} (h : ci < 6) : vwCl[ci]? = some (cR ci, cT ci, nF ci) := by
  match ci, h with
  | 0, _ => rfl
  | 1, _ => rfl
  | 2, _ => rfl
  | 3, _ => rfl
  | 4, _ => rfl
  | 5, _ => rfl
end
section
/-! what a method finds around its world: the script, five String constants, two statics of Throwable, words that change form under warming -/
abbrev XT : Type := (Nat × Nat × (Nat → Int32)) × (Nat → Nat) × (Nat → Nat) × Nat
def isNw : Cond → Bool
  | .methodLinkNest .. => true
  | .fieldLinkNest .. => true
  | .castable .. => true
  | _ => false
def zLen : List Nat := [4, 5, 4, 5, 5]
def zByt : List (List Int32) := [[112, 97, 103, 101], [102, 114, 111, 110, 116], [98, 97, 99, 107], [115, 105, 122, 101, 115], [108, 101, 97, 115, 116]]
def zStr : List (String × Nat × String × Nat) := [(RX2, 79, "page", 0), (RX2, 99, "front", 1), (RX2, 105, "back", 2), (RX2, 107, "sizes", 3), (RX2, 112, "least", 4), (RX5, 160, "page", 0), (RX5, 135, "front", 1), (RX5, 144, "back", 2), (RX5, 146, "sizes", 3), (RX5, 150, "least", 4)]
abbrev eIA : String := "java/lang/IllegalArgumentException"
abbrev eIO : String := "java/lang/IndexOutOfBoundsException"
abbrev eNS : String := "java/util/NoSuchElementException"
abbrev eIS : String := "java/lang/IllegalStateException"
def zNc : List (String × String) := [(eIA, eIO), (eIA, eNS), (eIS, eIO), (eIS, eIA)]
abbrev zF1 : String := "jdk/internal/util/Preconditions"
abbrev zF2 : String := "SIOOBE_FORMATTER"
abbrev zF3 : String := "Ljava/util/function/BiFunction;"
def EV (X : XT) (A : Nat → Prop) (U : State) (H : Heap) : Prop :=
  (∀ w, w ∈ tables_1 → isNw w = true → va_Nw w U) ∧ (∀ q ∈ zNc, va_Nc q.1 q.2 U) ∧ va_AO "LetterCuts$Sheet" U ∧ va_AOA .int U ∧
  vk_S 5 zLen zByt X.2.1 X.2.2.1 A U H ∧ (∀ q ∈ zStr, vk_R q.1 q.2.1 q.2.2.1 (X.2.1 q.2.2.2) U) ∧
  va_Z "java/lang/String" "COMPACT_STRINGS" "Z" (.int 1) A U H ∧ vx_Zq Bundle.tN "UNASSIGNED_STACK" Bundle.steD A U H ∧ vx_Zq Bundle.tN "SUPPRESSED_SENTINEL" Bundle.listD A U H ∧
  (va_X X.1.1 X.1.2.1 X.1.2.2 U H ∧ X.1.1 < H.size ∧ ¬ A X.1.1) ∧ (va_Z zF1 zF2 zF3 .null A U H ∨ va_Z zF1 zF2 zF3 (.ref X.2.2.2) A U H)
theorem nw_warm {s U : State} (hW : s.WarmedH U.vm) {w : Cond} (hw : isNw w = true) (h : va_Nw w s) : va_Nw w U := by
  cases w <;> first | exact va_Nw.warmM hW h | exact va_Nw.warmF hW h | exact va_Nw.warmC hW h | (simp [isNw] at hw)
theorem nw_same {U U' : State} (hv : U.vm = U'.vm) {w : Cond} (hw : isNw w = true) (h : va_Nw w U) : va_Nw w U' := by
  cases w <;> first | exact va_Nw.same rfl hv h | (simp [isNw] at hw)
theorem va_AOA.moved {ty : FieldType} {u U : State} (hvm : u.vm.Alike U.vm) (h : va_AOA ty u) : va_AOA ty U := by
  unfold va_AOA at h
  rw [← Cond.arrayOver_setVmC (args := #[]) hvm (.array ty)] at h
  exact h
theorem EV.call {X : XT} {A A' : Nat → Prop} {s U : State} {H : Heap} {locs : List Loc} (h : EV X A s s.heap) (hW : s.WarmedH U.vm) (hU : U.heap = H) (hS : va_S A s.heap H locs) (hA : ∀ q, A' q → A q) : EV X A' U U.heap := by
  subst hU
  obtain ⟨h1, h2, h3, h4, h5, h6, h7, h8, h9, ⟨h10, h11, h12⟩, h13⟩ := h
  exact ⟨fun w hw hn => nw_warm hW hn (h1 w hw hn), fun q hq => va_Nc.moved hW.alike (h2 q hq), va_AO.moved hW.alike h3, va_AOA.moved hW.alike h4,
    ((h5.kept hS.2.1).narrow hA).moved hW.alike, fun q hq => vk_R.warm hW (h6 q hq), ((h7.kept hS.2.1).narrow hA).moved hW.alike, ((h8.kept hS.2.1).narrow hA).moved hW.alike, ((h9.kept hS.2.1).narrow hA).moved hW.alike,
    ⟨(h10.kept (hS.2.1 _ h11 h12)).moved hW.alike, Nat.lt_of_lt_of_le h11 hS.1, fun z => h12 (hA _ z)⟩, h13.imp (fun z => ((z.kept hS.2.1).narrow hA).moved hW.alike) (fun z => ((z.kept hS.2.1).narrow hA).moved hW.alike)⟩
theorem EV.same {X : XT} {A : Nat → Prop} {U U' : State} {H : Heap} (hv : U'.vm = U.vm) (h : EV X A U H) : EV X A U' H := by
  have ha : U.vm.Alike U'.vm := by rw [hv]; exact Vm.Alike.refl _
  obtain ⟨h1, h2, h3, h4, h5, h6, h7, h8, h9, ⟨h10, h11, h12⟩, h13⟩ := h
  exact ⟨fun w hw hn => nw_same hv.symm hn (h1 w hw hn), fun q hq => va_Nc.moved ha (h2 q hq), va_AO.moved ha h3, va_AOA.moved ha h4,
    h5.moved ha, fun q hq => vk_R.same hv (h6 q hq), h7.moved ha, h8.moved ha, h9.moved ha, ⟨h10.moved ha, h11, h12⟩, h13.imp (fun z => z.moved ha) (fun z => z.moved ha)⟩
/-- the addresses of the script, the Strings and their bytes, under the numbers from 1000 on -/
def adOK (X : XT) (ad : Nat → Nat) : Prop := ad 1000 = X.1.1 ∧ (∀ i, i < 5 → ad (1001 + i) = X.2.1 i) ∧ (∀ i, i < 5 → ad (1011 + i) = X.2.2.1 i) ∧ ad 1020 = X.2.2.2
/-! the judgement -/
abbrev MT : Type := MethodName × ByteArray × Nat × Option FieldType × List (Nat × Nat × Nat × Nat)
abbrev Res : Type := Option Value ⊕ String
def mN (t : MT) : MethodName := t.1
def mB (t : MT) : ByteArray := t.2.1
def mL (t : MT) : Nat := t.2.2.1
def mR (t : MT) : Option FieldType := t.2.2.2.1
def mH (t : MT) : List (Nat × Nat × Nat × Nat) := t.2.2.2.2
def CX (X : XT) (mt : MT) (l : Launch) (d : Nat) (R : Room) (p : Program) (s : State) (m : MethodId) (args : Array Value) (meth : Method) (c : Code) (A : Nat → Prop) (G : va_G) (cls : Nat → ClassId) : Prop :=
  p.tables.exec = Jvm.exec ∧ c.code = mB mt ∧ c.maxLocals = mL mt ∧ s.vm.findClass (mN mt).cls = some m.cls ∧ (∀ w, w ∈ lw_tbl → goodWord w = true → w.before args s = true) ∧ meth.locks = false ∧ l.stackTraces = false ∧
  c.exceptionTable.toList = tableOf (mH mt) ∧ meth.name = (mN mt).name ∧ (∀ q, s.heap.size ≤ q → A q) ∧ va_K G vwCl (tysOf cls) s ∧ EV X A s s.heap ∧ d ≤ R.frames ∧ 40 * d ≤ R.locals
def WD (X : XT) (A : Nat → Prop) (G : va_G) (cls : Nat → ClassId) (s : State) (h : AH) (ad : Nat → Nat) (H : Heap) (locs : List Loc) : Prop :=
  va_P G vwCl (wld cls ad h) H ∧ va_D A (wld cls ad h) ∧ va_S A s.heap H locs ∧ wfh h ∧ adOK X ad
def retOK (mt : MT) (ins : Instr) (v : Option Value) : Prop := (v = none ∧ ins = .return_ ∧ mR mt = none) ∨ (∃ x ty, v = some (.int x) ∧ ins = .ireturn ∧ mR mt = some ty ∧ narrow ty (.int x) = .int x) ∨ (∃ x, v = some (.long x) ∧ ins = .lreturn ∧ mR mt = some .long) ∨ (∃ x, v = some (.double x) ∧ ins = .dreturn ∧ mR mt = some .double)
/-- 'throw new E()' at pc, and the words that it wants -/
def thrOK (mt : MT) (pc : Nat) (E : String) : Prop := ∃ ik ic names, decode (mB mt) pc = .ok (.new ik, 3) ∧ decode (mB mt) (pc + 3) = .ok (.dup, 1) ∧ decode (mB mt) (pc + 4) = .ok (.invokespecial ic, 3) ∧ decode (mB mt) (pc + 7) = .ok (.athrow, 1) ∧
  Bundle.fit E = true ∧ (∀ n ∈ names, Bundle.fit n = true) ∧ names.length ≤ 3 ∧ (∀ w ∈ Cond.classLink (mN mt).cls ik E :: Cond.initialized E :: vx_at0 (mN mt).cls ic E names, w ∈ lw_tbl ∧ goodWord w = true ∨ w ∈ tables_1 ∧ isNw w = true) ∧ mH mt = []
def FIN (X : XT) (mt : MT) (p : Program) (l : Launch) (e : Env) (R : Room) (s : State) (m : MethodId) (args : Array Value) (below : List Frame) (meth : Method) (c : Code) (A : Nat → Prop) (G : va_G) (cls : Nat → ClassId) (Z : State → Prop) (n : Nat) (ad : Nat → Nat) (Q : Res → AH → Prop) : Prop :=
  (∀ (v : Option Value) (h' : AH), Q (.inl v) h' → ∀ (ad' : Nat → Nat) (H' : Heap) (locs' : List Loc) (cells' slots' : Nat) (lsA : Array Slot) (pc : Nat) (ins : Instr), (∀ a, (a < n ∨ hN h' ≤ a) → ad' a = ad a) → n ≤ hN h' → WD X A G cls s h' ad' H' locs' → cells' ≤ R.cells → slots' ≤ R.slots →
    decode (mB mt) pc = .ok (ins, 1) → retOK mt ins v → W p l e R s m args below meth c H' locs' cells' slots' Z (F0 m pc lsA ((v.map (cv ad')).toList))) ∧
  (∀ (E : String) (h' : AH), Q (.inr E) h' → ∀ (ad' : Nat → Nat) (H' : Heap) (locs' : List Loc) (cells' slots' : Nat) (lsA : Array Slot) (pc : Nat) (st : List Value), (∀ a, (a < n ∨ hN h' ≤ a) → ad' a = ad a) → n ≤ hN h' → WD X A G cls s h' ad' H' locs' → cells' + 1 ≤ R.cells → slots' + 6 ≤ R.slots →
    lsA.size = c.maxLocals → (st.map fun v => v.category).sum ≤ 8 → 8 ≤ R.frames → 320 ≤ R.locals → thrOK mt pc E → W p l e R s m args below meth c H' locs' cells' slots' Z (F0 m pc lsA st))
def AW (X : XT) (mt : MT) (d kc ks pc : Nat) (ls : List (Nat × Value)) (st : List Value) (h : AH) (Q : Res → AH → Prop) : Prop :=
  ∀ (p : Program) (l : Launch) (e : Env) (R : Room) (s : State) (m : MethodId) (args : Array Value) (below : List Frame) (meth : Method) (c : Code) (A : Nat → Prop) (G : va_G) (cls : Nat → ClassId) (Z : State → Prop) (H : Heap) (locs : List Loc) (cells slots : Nat) (ad : Nat → Nat) (lsA : Array Slot),
    CX X mt l d R p s m args meth c A G cls → FIN X mt p l e R s m args below meth c A G cls Z (hN h) ad Q → WD X A G cls s h ad H locs → cells + kc ≤ R.cells → slots + ks ≤ R.slots → lv_has lsA (mL mt) (ls.map (cl1 ad)) →
    W p l e R s m args below meth c H locs cells slots Z (F0 m pc lsA (st.map (cv ad)))
end
section
/-! rows of AW: instructions that leave the heap alone -/
theorem AW.p1 {X : XT} {mt : MT} {d kc ks pc pc' : Nat} {ls : List (Nat × Value)} {st st' : List Value} {h : AH} {Q : Res → AH → Prop}
    (row : ∀ (p : Program) (l : Launch) (e : Env) (R : Room) (s : State) (m : MethodId) (args : Array Value) (below : List Frame) (meth : Method) (c : Code) (H : Heap) (locs : List Loc) (cells slots : Nat) (Z : State → Prop) (lsA : Array Slot) (ad : Nat → Nat), p.tables.exec = Jvm.exec → c.code = mB mt → s.vm.findClass (mN mt).cls = some m.cls → (∀ w, w ∈ lw_tbl → goodWord w = true → w.before args s = true) → lv_has lsA (mL mt) (ls.map (cl1 ad)) →
      W p l e R s m args below meth c H locs cells slots Z (F0 m pc' lsA (st'.map (cv ad))) → W p l e R s m args below meth c H locs cells slots Z (F0 m pc lsA (st.map (cv ad))))
    (k : AW X mt d kc ks pc' ls st' h Q) : AW X mt d kc ks pc ls st h Q := by
  intro p l e R s m args below meth c A G cls Z H locs cells slots ad lsA C F D hc hs hl
  exact row p l e R s m args below meth c H locs cells slots Z lsA ad C.1 C.2.1 C.2.2.2.1 C.2.2.2.2.1 hl (k p l e R s m args below meth c A G cls Z H locs cells slots ad lsA C F D hc hs hl)
section RW5
variable {X : XT} {mt : MT} {d kc ks pc : Nat} {ls ls' : List (Nat × Value)} {st : List Value} {h : AH} {Q : Res → AH → Prop}
theorem a_null  (hd : decode (mB mt) pc = .ok (.aconst_null, 1))  (k : AW X mt d kc ks (pc + 1) ls (.null :: st) h Q) : AW X mt d kc ks pc ls (st) h Q := AW.p1 (fun _ _ _ _ _ _ _ _ _ _ _ _ _ _ _ _ _ hx hb ho hw hl k => lv_null hx hb hd k) k
theorem a_iconst {n : Int} {v : Int32} (hd : decode (mB mt) pc = .ok (.iconst n, 1)) (hv : Int32.ofInt n = v) (k : AW X mt d kc ks (pc + 1) ls (.int v :: st) h Q) : AW X mt d kc ks pc ls (st) h Q := AW.p1 (fun _ _ _ _ _ _ _ _ _ _ _ _ _ _ _ _ _ hx hb ho hw hl k => lv_iconst hx hb hd hv k) k
theorem a_bipush {n : Int} {v : Int32} (hd : decode (mB mt) pc = .ok (.bipush n, 2)) (hv : (Int8.ofInt n).toInt32 = v) (k : AW X mt d kc ks (pc + 2) ls (.int v :: st) h Q) : AW X mt d kc ks pc ls (st) h Q := AW.p1 (fun _ _ _ _ _ _ _ _ _ _ _ _ _ _ _ _ _ hx hb ho hw hl k => lv_bipush hx hb hd hv k) k
theorem a_sipush {n : Int} {v : Int32} (hd : decode (mB mt) pc = .ok (.sipush n, 3)) (hv : (Int16.ofInt n).toInt32 = v) (k : AW X mt d kc ks (pc + 3) ls (.int v :: st) h Q) : AW X mt d kc ks pc ls (st) h Q := AW.p1 (fun _ _ _ _ _ _ _ _ _ _ _ _ _ _ _ _ _ hx hb ho hw hl k => lv_sipush hx hb hd hv k) k
theorem a_lconst {n : Fin 2} {v : Int64} (hd : decode (mB mt) pc = .ok (.lconst n, 1)) (hv : Int64.ofNat (n : Nat) = v) (k : AW X mt d kc ks (pc + 1) ls (.long v :: st) h Q) : AW X mt d kc ks pc ls (st) h Q := AW.p1 (fun _ _ _ _ _ _ _ _ _ _ _ _ _ _ _ _ _ hx hb ho hw hl k => lv_lconst hx hb hd hv k) k
theorem a_dconst0  (hd : decode (mB mt) pc = .ok (.dconst 0, 1))  (k : AW X mt d kc ks (pc + 1) ls (.double FP.dconst0 :: st) h Q) : AW X mt d kc ks pc ls (st) h Q := AW.p1 (fun _ _ _ _ _ _ _ _ _ _ _ _ _ _ _ _ _ hx hb ho hw hl k => lv_dconst0 hx hb hd k) k
theorem a_ldc {i : Nat} {v : Int32} (hd : decode (mB mt) pc = .ok (.ldc i, 2)) (hc : Cond.constant (mN mt).cls i v ∈ lw_tbl) (k : AW X mt d kc ks (pc + 2) ls (.int v :: st) h Q) : AW X mt d kc ks pc ls (st) h Q := AW.p1 (fun _ _ _ _ _ _ _ _ _ _ _ _ _ _ _ _ _ hx hb ho hw hl k => lv_ldc hx hb ho (hw _ hc rfl) hd k) k
theorem a_ldc2 {i : Nat} {v : Int64} (hd : decode (mB mt) pc = .ok (.ldc2_w i, 3)) (hc : Cond.constantLong (mN mt).cls i v ∈ lw_tbl) (k : AW X mt d kc ks (pc + 3) ls (.long v :: st) h Q) : AW X mt d kc ks pc ls (st) h Q := AW.p1 (fun _ _ _ _ _ _ _ _ _ _ _ _ _ _ _ _ _ hx hb ho hw hl k => lv_ldc2 hx hb ho (hw _ hc rfl) hd k) k
theorem a_iload_n {n : Fin 4} {i : Nat} {x : Int32} (hd : decode (mB mt) pc = .ok (.iload_n n, 1)) (hi : (n : Nat) = i) (hv : lget i ls = some (.int x)) (k : AW X mt d kc ks (pc + 1) ls (.int x :: st) h Q) : AW X mt d kc ks pc ls (st) h Q := AW.p1 (fun _ _ _ _ _ _ _ _ _ _ _ _ _ _ _ _ _ hx hb ho hw hl k => lv_iload_n hx hb hd hi (lget_at hl hv) k) k
theorem a_iload {i : Nat} {x : Int32} (hd : decode (mB mt) pc = .ok (.iload i, 2)) (hv : lget i ls = some (.int x)) (k : AW X mt d kc ks (pc + 2) ls (.int x :: st) h Q) : AW X mt d kc ks pc ls (st) h Q := AW.p1 (fun _ _ _ _ _ _ _ _ _ _ _ _ _ _ _ _ _ hx hb ho hw hl k => lv_iload hx hb hd (lget_at hl hv) k) k
theorem a_lload_n {n : Fin 4} {i : Nat} {x : Int64} (hd : decode (mB mt) pc = .ok (.lload_n n, 1)) (hi : (n : Nat) = i) (hv : lget i ls = some (.long x)) (k : AW X mt d kc ks (pc + 1) ls (.long x :: st) h Q) : AW X mt d kc ks pc ls (st) h Q := AW.p1 (fun _ _ _ _ _ _ _ _ _ _ _ _ _ _ _ _ _ hx hb ho hw hl k => lv_lload_n hx hb hd hi (lget_at hl hv) k) k
theorem a_lload {i : Nat} {x : Int64} (hd : decode (mB mt) pc = .ok (.lload i, 2)) (hv : lget i ls = some (.long x)) (k : AW X mt d kc ks (pc + 2) ls (.long x :: st) h Q) : AW X mt d kc ks pc ls (st) h Q := AW.p1 (fun _ _ _ _ _ _ _ _ _ _ _ _ _ _ _ _ _ hx hb ho hw hl k => lv_lload hx hb hd (lget_at hl hv) k) k
theorem a_dload_n {n : Fin 4} {i : Nat} {x : UInt64} (hd : decode (mB mt) pc = .ok (.dload_n n, 1)) (hi : (n : Nat) = i) (hv : lget i ls = some (.double x)) (k : AW X mt d kc ks (pc + 1) ls (.double x :: st) h Q) : AW X mt d kc ks pc ls (st) h Q := AW.p1 (fun _ _ _ _ _ _ _ _ _ _ _ _ _ _ _ _ _ hx hb ho hw hl k => lv_dload_n hx hb hd hi (lget_at hl hv) k) k
theorem a_dload {i : Nat} {x : UInt64} (hd : decode (mB mt) pc = .ok (.dload i, 2)) (hv : lget i ls = some (.double x)) (k : AW X mt d kc ks (pc + 2) ls (.double x :: st) h Q) : AW X mt d kc ks pc ls (st) h Q := AW.p1 (fun _ _ _ _ _ _ _ _ _ _ _ _ _ _ _ _ _ hx hb ho hw hl k => lv_dload hx hb hd (lget_at hl hv) k) k
theorem a_aload_n {n : Fin 4} {i : Nat} {x : Nat} (hd : decode (mB mt) pc = .ok (.aload_n n, 1)) (hi : (n : Nat) = i) (hv : lget i ls = some (.ref x)) (k : AW X mt d kc ks (pc + 1) ls (.ref x :: st) h Q) : AW X mt d kc ks pc ls (st) h Q := AW.p1 (fun _ _ _ _ _ _ _ _ _ _ _ _ _ _ _ _ _ hx hb ho hw hl k => lv_aload_n hx hb hd hi (lget_at hl hv) k) k
theorem a_aload {i : Nat} {x : Nat} (hd : decode (mB mt) pc = .ok (.aload i, 2)) (hv : lget i ls = some (.ref x)) (k : AW X mt d kc ks (pc + 2) ls (.ref x :: st) h Q) : AW X mt d kc ks pc ls (st) h Q := AW.p1 (fun _ _ _ _ _ _ _ _ _ _ _ _ _ _ _ _ _ hx hb ho hw hl k => lv_aload hx hb hd (lget_at hl hv) k) k
theorem a_dup {v : Value} (hd : decode (mB mt) pc = .ok (.dup, 1)) (hv : v.category = 1) (k : AW X mt d kc ks (pc + 1) ls (v :: v :: st) h Q) : AW X mt d kc ks pc ls (v :: st) h Q := AW.p1 (fun _ _ _ _ _ _ _ _ _ _ _ _ _ _ _ _ _ hx hb ho hw hl k => lv_dup hx hb hd ((cv_cat _ v).trans hv) k) k
theorem a_pop {v : Value} (hd : decode (mB mt) pc = .ok (.pop, 1)) (hv : v.category = 1) (k : AW X mt d kc ks (pc + 1) ls (st) h Q) : AW X mt d kc ks pc ls (v :: st) h Q := AW.p1 (fun _ _ _ _ _ _ _ _ _ _ _ _ _ _ _ _ _ hx hb ho hw hl k => lv_pop hx hb hd ((cv_cat _ v).trans hv) k) k
theorem a_dup2_11 {v w : Value} (hd : decode (mB mt) pc = .ok (.dup2, 1)) (hv : v.category = 1) (hw1 : w.category = 1) (k : AW X mt d kc ks (pc + 1) ls (v :: w :: v :: w :: st) h Q) : AW X mt d kc ks pc ls (v :: w :: st) h Q := AW.p1 (fun _ _ _ _ _ _ _ _ _ _ _ _ _ _ _ _ _ hx hb ho hw hl k => lv_dup2_11 hx hb hd ((cv_cat _ v).trans hv) ((cv_cat _ w).trans hw1) k) k
theorem a_dup2_2 {v : Value} (hd : decode (mB mt) pc = .ok (.dup2, 1)) (hv : v.category = 2) (k : AW X mt d kc ks (pc + 1) ls (v :: v :: st) h Q) : AW X mt d kc ks pc ls (v :: st) h Q := AW.p1 (fun _ _ _ _ _ _ _ _ _ _ _ _ _ _ _ _ _ hx hb ho hw hl k => lv_dup2_2 hx hb hd ((cv_cat _ v).trans hv) k) k
theorem a_iadd {x y : Int32} (hd : decode (mB mt) pc = .ok (.iadd, 1))  (k : AW X mt d kc ks (pc + 1) ls (.int (x + y) :: st) h Q) : AW X mt d kc ks pc ls (.int y :: .int x :: st) h Q := AW.p1 (fun _ _ _ _ _ _ _ _ _ _ _ _ _ _ _ _ _ hx hb ho hw hl k => lv_iadd hx hb hd k) k
theorem a_isub {x y : Int32} (hd : decode (mB mt) pc = .ok (.isub, 1))  (k : AW X mt d kc ks (pc + 1) ls (.int (x - y) :: st) h Q) : AW X mt d kc ks pc ls (.int y :: .int x :: st) h Q := AW.p1 (fun _ _ _ _ _ _ _ _ _ _ _ _ _ _ _ _ _ hx hb ho hw hl k => lv_isub hx hb hd k) k
theorem a_imul {x y : Int32} (hd : decode (mB mt) pc = .ok (.imul, 1))  (k : AW X mt d kc ks (pc + 1) ls (.int (x * y) :: st) h Q) : AW X mt d kc ks pc ls (.int y :: .int x :: st) h Q := AW.p1 (fun _ _ _ _ _ _ _ _ _ _ _ _ _ _ _ _ _ hx hb ho hw hl k => lv_imul hx hb hd k) k
theorem a_iand {x y : Int32} (hd : decode (mB mt) pc = .ok (.iand, 1))  (k : AW X mt d kc ks (pc + 1) ls (.int (x &&& y) :: st) h Q) : AW X mt d kc ks pc ls (.int y :: .int x :: st) h Q := AW.p1 (fun _ _ _ _ _ _ _ _ _ _ _ _ _ _ _ _ _ hx hb ho hw hl k => lv_iand hx hb hd k) k
theorem a_ior {x y : Int32} (hd : decode (mB mt) pc = .ok (.ior, 1))  (k : AW X mt d kc ks (pc + 1) ls (.int (x ||| y) :: st) h Q) : AW X mt d kc ks pc ls (.int y :: .int x :: st) h Q := AW.p1 (fun _ _ _ _ _ _ _ _ _ _ _ _ _ _ _ _ _ hx hb ho hw hl k => lv_ior hx hb hd k) k
theorem a_ishl {x y : Int32} (hd : decode (mB mt) pc = .ok (.ishl, 1))  (k : AW X mt d kc ks (pc + 1) ls (.int (x <<< (y &&& 31)) :: st) h Q) : AW X mt d kc ks pc ls (.int y :: .int x :: st) h Q := AW.p1 (fun _ _ _ _ _ _ _ _ _ _ _ _ _ _ _ _ _ hx hb ho hw hl k => lv_ishl hx hb hd k) k
theorem a_ishr {x y : Int32} (hd : decode (mB mt) pc = .ok (.ishr, 1))  (k : AW X mt d kc ks (pc + 1) ls (.int (x >>> (y &&& 31)) :: st) h Q) : AW X mt d kc ks pc ls (.int y :: .int x :: st) h Q := AW.p1 (fun _ _ _ _ _ _ _ _ _ _ _ _ _ _ _ _ _ hx hb ho hw hl k => lv_ishr hx hb hd k) k
theorem a_idiv {x y : Int32} (hd : decode (mB mt) pc = .ok (.idiv, 1)) (hy : ¬ y = 0) (k : AW X mt d kc ks (pc + 1) ls (.int (x / y) :: st) h Q) : AW X mt d kc ks pc ls (.int y :: .int x :: st) h Q := AW.p1 (fun _ _ _ _ _ _ _ _ _ _ _ _ _ _ _ _ _ hx hb ho hw hl k => lv_idiv hx hb hd hy k) k
theorem a_irem {x y : Int32} (hd : decode (mB mt) pc = .ok (.irem, 1)) (hy : ¬ y = 0) (k : AW X mt d kc ks (pc + 1) ls (.int (x - x / y * y) :: st) h Q) : AW X mt d kc ks pc ls (.int y :: .int x :: st) h Q := AW.p1 (fun _ _ _ _ _ _ _ _ _ _ _ _ _ _ _ _ _ hx hb ho hw hl k => lv_irem hx hb hd hy k) k
theorem a_ineg {x : Int32} (hd : decode (mB mt) pc = .ok (.ineg, 1))  (k : AW X mt d kc ks (pc + 1) ls (.int (-x) :: st) h Q) : AW X mt d kc ks pc ls (.int x :: st) h Q := AW.p1 (fun _ _ _ _ _ _ _ _ _ _ _ _ _ _ _ _ _ hx hb ho hw hl k => lv_ineg hx hb hd k) k
theorem a_ladd {x y : Int64} (hd : decode (mB mt) pc = .ok (.ladd, 1))  (k : AW X mt d kc ks (pc + 1) ls (.long (x + y) :: st) h Q) : AW X mt d kc ks pc ls (.long y :: .long x :: st) h Q := AW.p1 (fun _ _ _ _ _ _ _ _ _ _ _ _ _ _ _ _ _ hx hb ho hw hl k => lv_ladd hx hb hd k) k
theorem a_lsub {x y : Int64} (hd : decode (mB mt) pc = .ok (.lsub, 1))  (k : AW X mt d kc ks (pc + 1) ls (.long (x - y) :: st) h Q) : AW X mt d kc ks pc ls (.long y :: .long x :: st) h Q := AW.p1 (fun _ _ _ _ _ _ _ _ _ _ _ _ _ _ _ _ _ hx hb ho hw hl k => lv_lsub hx hb hd k) k
theorem a_lmul {x y : Int64} (hd : decode (mB mt) pc = .ok (.lmul, 1))  (k : AW X mt d kc ks (pc + 1) ls (.long (x * y) :: st) h Q) : AW X mt d kc ks pc ls (.long y :: .long x :: st) h Q := AW.p1 (fun _ _ _ _ _ _ _ _ _ _ _ _ _ _ _ _ _ hx hb ho hw hl k => lv_lmul hx hb hd k) k
theorem a_land {x y : Int64} (hd : decode (mB mt) pc = .ok (.land, 1))  (k : AW X mt d kc ks (pc + 1) ls (.long (x &&& y) :: st) h Q) : AW X mt d kc ks pc ls (.long y :: .long x :: st) h Q := AW.p1 (fun _ _ _ _ _ _ _ _ _ _ _ _ _ _ _ _ _ hx hb ho hw hl k => lv_land hx hb hd k) k
theorem a_lor {x y : Int64} (hd : decode (mB mt) pc = .ok (.lor, 1))  (k : AW X mt d kc ks (pc + 1) ls (.long (x ||| y) :: st) h Q) : AW X mt d kc ks pc ls (.long y :: .long x :: st) h Q := AW.p1 (fun _ _ _ _ _ _ _ _ _ _ _ _ _ _ _ _ _ hx hb ho hw hl k => lv_lor hx hb hd k) k
theorem a_lxor {x y : Int64} (hd : decode (mB mt) pc = .ok (.lxor, 1))  (k : AW X mt d kc ks (pc + 1) ls (.long (x ^^^ y) :: st) h Q) : AW X mt d kc ks pc ls (.long y :: .long x :: st) h Q := AW.p1 (fun _ _ _ _ _ _ _ _ _ _ _ _ _ _ _ _ _ hx hb ho hw hl k => lv_lxor hx hb hd k) k
theorem a_lshl {x : Int64} {y : Int32} (hd : decode (mB mt) pc = .ok (.lshl, 1))  (k : AW X mt d kc ks (pc + 1) ls (.long (x <<< (y.toInt64 &&& 63)) :: st) h Q) : AW X mt d kc ks pc ls (.int y :: .long x :: st) h Q := AW.p1 (fun _ _ _ _ _ _ _ _ _ _ _ _ _ _ _ _ _ hx hb ho hw hl k => lv_lshl hx hb hd rfl k) k
theorem a_lshr {x : Int64} {y : Int32} (hd : decode (mB mt) pc = .ok (.lshr, 1))  (k : AW X mt d kc ks (pc + 1) ls (.long (x >>> (y.toInt64 &&& 63)) :: st) h Q) : AW X mt d kc ks pc ls (.int y :: .long x :: st) h Q := AW.p1 (fun _ _ _ _ _ _ _ _ _ _ _ _ _ _ _ _ _ hx hb ho hw hl k => lv_lshr hx hb hd rfl k) k
theorem a_lushr {x : Int64} {y : Int32} (hd : decode (mB mt) pc = .ok (.lushr, 1))  (k : AW X mt d kc ks (pc + 1) ls (.long ((x.toUInt64 >>> (y.toInt64.toUInt64 &&& Int64.toUInt64 63)).toInt64) :: st) h Q) : AW X mt d kc ks pc ls (.int y :: .long x :: st) h Q := AW.p1 (fun _ _ _ _ _ _ _ _ _ _ _ _ _ _ _ _ _ hx hb ho hw hl k => lv_lushr hx hb hd rfl k) k
theorem a_i2l {x : Int32} (hd : decode (mB mt) pc = .ok (.i2l, 1))  (k : AW X mt d kc ks (pc + 1) ls (.long x.toInt64 :: st) h Q) : AW X mt d kc ks pc ls (.int x :: st) h Q := AW.p1 (fun _ _ _ _ _ _ _ _ _ _ _ _ _ _ _ _ _ hx hb ho hw hl k => lv_i2l hx hb hd rfl k) k
theorem a_l2i {x : Int64} (hd : decode (mB mt) pc = .ok (.l2i, 1))  (k : AW X mt d kc ks (pc + 1) ls (.int x.toInt32 :: st) h Q) : AW X mt d kc ks pc ls (.long x :: st) h Q := AW.p1 (fun _ _ _ _ _ _ _ _ _ _ _ _ _ _ _ _ _ hx hb ho hw hl k => lv_l2i hx hb hd rfl k) k
theorem a_i2b {x : Int32} (hd : decode (mB mt) pc = .ok (.i2b, 1))  (k : AW X mt d kc ks (pc + 1) ls (.int x.toInt8.toInt32 :: st) h Q) : AW X mt d kc ks pc ls (.int x :: st) h Q := AW.p1 (fun _ _ _ _ _ _ _ _ _ _ _ _ _ _ _ _ _ hx hb ho hw hl k => lv_i2b hx hb hd rfl k) k
theorem a_i2c {x : Int32} (hd : decode (mB mt) pc = .ok (.i2c, 1))  (k : AW X mt d kc ks (pc + 1) ls (.int (x.toUInt32 % 65536).toInt32 :: st) h Q) : AW X mt d kc ks pc ls (.int x :: st) h Q := AW.p1 (fun _ _ _ _ _ _ _ _ _ _ _ _ _ _ _ _ _ hx hb ho hw hl k => lv_i2c hx hb hd rfl k) k
theorem a_i2d {x : Int32} (hd : decode (mB mt) pc = .ok (.i2d, 1))  (k : AW X mt d kc ks (pc + 1) ls (.double (FP.i2d x) :: st) h Q) : AW X mt d kc ks pc ls (.int x :: st) h Q := AW.p1 (fun _ _ _ _ _ _ _ _ _ _ _ _ _ _ _ _ _ hx hb ho hw hl k => lv_i2d hx hb hd k) k
theorem a_ddiv {x y : UInt64} (hd : decode (mB mt) pc = .ok (.ddiv, 1)) (hn : vf_n64 (FP.ddiv x y)) (k : AW X mt d kc ks (pc + 1) ls (.double (FP.ddiv x y) :: st) h Q) : AW X mt d kc ks pc ls (.double y :: .double x :: st) h Q := AW.p1 (fun _ _ _ _ _ _ _ _ _ _ _ _ _ _ _ _ _ hx hb ho hw hl k => lv_ddiv hx hb hd hn k) k
theorem a_dcmp {x y : UInt64} {op : CmpOp} (hd : decode (mB mt) pc = .ok (.dcmp op, 1))  (k : AW X mt d kc ks (pc + 1) ls (.int (Op.cmpValue (FP.dcmp x y) op) :: st) h Q) : AW X mt d kc ks pc ls (.double y :: .double x :: st) h Q := AW.p1 (fun _ _ _ _ _ _ _ _ _ _ _ _ _ _ _ _ _ hx hb ho hw hl k => lv_dcmp hx hb hd k) k
theorem a_lcmp {x y : Int64} (hd : decode (mB mt) pc = .ok (.lcmp, 1))  (k : AW X mt d kc ks (pc + 1) ls (.int (lg_cmp x y) :: st) h Q) : AW X mt d kc ks pc ls (.long y :: .long x :: st) h Q := AW.p1 (fun _ _ _ _ _ _ _ _ _ _ _ _ _ _ _ _ _ hx hb ho hw hl k => W.lcmp hx hb hd k) k
theorem a_istore_n {n : Fin 4} {i : Nat} {x : Int32} (hd : decode (mB mt) pc = .ok (.istore_n n, 1)) (hi : (n : Nat) = i) (hn : i < mL mt) (hl : ls1 i (.int x) ls = ls') (k : AW X mt d kc ks (pc + 1) ls' st h Q) : AW X mt d kc ks pc ls (.int x :: st) h Q := by
  intro p l e R s m args below meth c A G cls Z H locs cells slots ad lsA C F D hc hs hA
  subst hl
  exact lv_istore_n C.1 C.2.1 hd hi hA hn rfl (fun lsB hB => k p l e R s m args below meth c A G cls Z H locs cells slots ad lsB C F D hc hs (ls1_has (v := .int x) hB))
theorem a_istore {i : Nat} {x : Int32} (hd : decode (mB mt) pc = .ok (.istore i, 2)) (hn : i < mL mt) (hl : ls1 i (.int x) ls = ls') (k : AW X mt d kc ks (pc + 2) ls' st h Q) : AW X mt d kc ks pc ls (.int x :: st) h Q := by
  intro p l e R s m args below meth c A G cls Z H locs cells slots ad lsA C F D hc hs hA
  subst hl
  exact lv_istore C.1 C.2.1 hd hA hn rfl (fun lsB hB => k p l e R s m args below meth c A G cls Z H locs cells slots ad lsB C F D hc hs (ls1_has (v := .int x) hB))
theorem a_lstore_n {n : Fin 4} {i : Nat} {x : Int64} (hd : decode (mB mt) pc = .ok (.lstore_n n, 1)) (hi : (n : Nat) = i) (hn : i + 1 < mL mt) (hl : ls2 i (.long x) ls = ls') (k : AW X mt d kc ks (pc + 1) ls' st h Q) : AW X mt d kc ks pc ls (.long x :: st) h Q := by
  intro p l e R s m args below meth c A G cls Z H locs cells slots ad lsA C F D hc hs hA
  subst hl
  exact lv_lstore_n C.1 C.2.1 hd hi hA hn rfl (fun lsB hB => k p l e R s m args below meth c A G cls Z H locs cells slots ad lsB C F D hc hs (ls2_has (v := .long x) hB))
theorem a_lstore {i : Nat} {x : Int64} (hd : decode (mB mt) pc = .ok (.lstore i, 2)) (hn : i + 1 < mL mt) (hl : ls2 i (.long x) ls = ls') (k : AW X mt d kc ks (pc + 2) ls' st h Q) : AW X mt d kc ks pc ls (.long x :: st) h Q := by
  intro p l e R s m args below meth c A G cls Z H locs cells slots ad lsA C F D hc hs hA
  subst hl
  exact lv_lstore C.1 C.2.1 hd hA hn rfl (fun lsB hB => k p l e R s m args below meth c A G cls Z H locs cells slots ad lsB C F D hc hs (ls2_has (v := .long x) hB))
theorem a_dstore_n {n : Fin 4} {i : Nat} {x : UInt64} (hd : decode (mB mt) pc = .ok (.dstore_n n, 1)) (hi : (n : Nat) = i) (hn : i + 1 < mL mt) (hl : ls2 i (.double x) ls = ls') (k : AW X mt d kc ks (pc + 1) ls' st h Q) : AW X mt d kc ks pc ls (.double x :: st) h Q := by
  intro p l e R s m args below meth c A G cls Z H locs cells slots ad lsA C F D hc hs hA
  subst hl
  exact lv_dstore_n C.1 C.2.1 hd hi hA hn rfl (fun lsB hB => k p l e R s m args below meth c A G cls Z H locs cells slots ad lsB C F D hc hs (ls2_has (v := .double x) hB))
theorem a_dstore {i : Nat} {x : UInt64} (hd : decode (mB mt) pc = .ok (.dstore i, 2)) (hn : i + 1 < mL mt) (hl : ls2 i (.double x) ls = ls') (k : AW X mt d kc ks (pc + 2) ls' st h Q) : AW X mt d kc ks pc ls (.double x :: st) h Q := by
  intro p l e R s m args below meth c A G cls Z H locs cells slots ad lsA C F D hc hs hA
  subst hl
  exact lv_dstore C.1 C.2.1 hd hA hn rfl (fun lsB hB => k p l e R s m args below meth c A G cls Z H locs cells slots ad lsB C F D hc hs (ls2_has (v := .double x) hB))
theorem a_astore_n {n : Fin 4} {i : Nat} {x : Nat} (hd : decode (mB mt) pc = .ok (.astore_n n, 1)) (hi : (n : Nat) = i) (hn : i < mL mt) (hl : ls1 i (.ref x) ls = ls') (k : AW X mt d kc ks (pc + 1) ls' st h Q) : AW X mt d kc ks pc ls (.ref x :: st) h Q := by
  intro p l e R s m args below meth c A G cls Z H locs cells slots ad lsA C F D hc hs hA
  subst hl
  exact lv_astore_n C.1 C.2.1 hd hi hA hn rfl (fun lsB hB => k p l e R s m args below meth c A G cls Z H locs cells slots ad lsB C F D hc hs (ls1_has (v := .ref x) hB))
theorem a_astore {i : Nat} {x : Nat} (hd : decode (mB mt) pc = .ok (.astore i, 2)) (hn : i < mL mt) (hl : ls1 i (.ref x) ls = ls') (k : AW X mt d kc ks (pc + 2) ls' st h Q) : AW X mt d kc ks pc ls (.ref x :: st) h Q := by
  intro p l e R s m args below meth c A G cls Z H locs cells slots ad lsA C F D hc hs hA
  subst hl
  exact lv_astore C.1 C.2.1 hd hA hn rfl (fun lsB hB => k p l e R s m args below meth c A G cls Z H locs cells slots ad lsB C F D hc hs (ls1_has (v := .ref x) hB))
theorem a_iinc {i : Nat} {n : Int} {x v : Int32} (hd : decode (mB mt) pc = .ok (.iinc i n, 3)) (hv : lget i ls = some (.int x)) (hx : x + Int32.ofInt n = v) (hn : i < mL mt) (hl : ls1 i (.int v) ls = ls') (k : AW X mt d kc ks (pc + 3) ls' st h Q) : AW X mt d kc ks pc ls st h Q := by
  intro p l e R s m args below meth c A G cls Z H locs cells slots ad lsA C F D hc hs hA
  subst hl
  obtain ⟨j, hj⟩ := List.getElem?_of_mem (List.mem_map.mpr ⟨(i, Value.int x), lget_mem hv, rfl⟩ : ((i, Value.int x) : Nat × Value) ∈ ls.map (cl1 ad))
  exact lv_iinc C.1 C.2.1 hd hA hj hx hn rfl (fun lsB hB => k p l e R s m args below meth c A G cls Z H locs cells slots ad lsB C F D hc hs (ls1_has (v := .int v) hB))
theorem a_if_eq {x : Int32} {off : Int} {tgt : Nat} (hd : decode (mB mt) pc = .ok (.ifCond .eq off, 3)) (ht : (pc : Int) + off = (tgt : Int)) (kt : x = 0 → AW X mt d kc ks tgt ls st h Q) (kf : ¬ x = 0 → AW X mt d kc ks (pc + 3) ls st h Q) : AW X mt d kc ks pc ls (.int x :: st) h Q := by
  intro p l e R s m args below meth c A G cls Z H locs cells slots ad lsA C F D hc hs hA
  exact lv_if_eq C.1 C.2.1 hd ht (fun q => kt q p l e R s m args below meth c A G cls Z H locs cells slots ad lsA C F D hc hs hA) (fun q => kf q p l e R s m args below meth c A G cls Z H locs cells slots ad lsA C F D hc hs hA)
theorem a_icmp_eq {x y : Int32} {off : Int} {tgt : Nat} (hd : decode (mB mt) pc = .ok (.if_icmp .eq off, 3)) (ht : (pc : Int) + off = (tgt : Int)) (kt : x = y → AW X mt d kc ks tgt ls st h Q) (kf : ¬ x = y → AW X mt d kc ks (pc + 3) ls st h Q) : AW X mt d kc ks pc ls (.int y :: .int x :: st) h Q := by
  intro p l e R s m args below meth c A G cls Z H locs cells slots ad lsA C F D hc hs hA
  exact lv_icmp_eq C.1 C.2.1 hd ht (fun q => kt q p l e R s m args below meth c A G cls Z H locs cells slots ad lsA C F D hc hs hA) (fun q => kf q p l e R s m args below meth c A G cls Z H locs cells slots ad lsA C F D hc hs hA)
theorem a_if_ne {x : Int32} {off : Int} {tgt : Nat} (hd : decode (mB mt) pc = .ok (.ifCond .ne off, 3)) (ht : (pc : Int) + off = (tgt : Int)) (kt : ¬ x = 0 → AW X mt d kc ks tgt ls st h Q) (kf : x = 0 → AW X mt d kc ks (pc + 3) ls st h Q) : AW X mt d kc ks pc ls (.int x :: st) h Q := by
  intro p l e R s m args below meth c A G cls Z H locs cells slots ad lsA C F D hc hs hA
  exact lv_if_ne C.1 C.2.1 hd ht (fun q => kt q p l e R s m args below meth c A G cls Z H locs cells slots ad lsA C F D hc hs hA) (fun q => kf q p l e R s m args below meth c A G cls Z H locs cells slots ad lsA C F D hc hs hA)
theorem a_icmp_ne {x y : Int32} {off : Int} {tgt : Nat} (hd : decode (mB mt) pc = .ok (.if_icmp .ne off, 3)) (ht : (pc : Int) + off = (tgt : Int)) (kt : ¬ x = y → AW X mt d kc ks tgt ls st h Q) (kf : x = y → AW X mt d kc ks (pc + 3) ls st h Q) : AW X mt d kc ks pc ls (.int y :: .int x :: st) h Q := by
  intro p l e R s m args below meth c A G cls Z H locs cells slots ad lsA C F D hc hs hA
  exact lv_icmp_ne C.1 C.2.1 hd ht (fun q => kt q p l e R s m args below meth c A G cls Z H locs cells slots ad lsA C F D hc hs hA) (fun q => kf q p l e R s m args below meth c A G cls Z H locs cells slots ad lsA C F D hc hs hA)
theorem a_if_lt {x : Int32} {off : Int} {tgt : Nat} (hd : decode (mB mt) pc = .ok (.ifCond .lt off, 3)) (ht : (pc : Int) + off = (tgt : Int)) (kt : x < 0 → AW X mt d kc ks tgt ls st h Q) (kf : ¬ x < 0 → AW X mt d kc ks (pc + 3) ls st h Q) : AW X mt d kc ks pc ls (.int x :: st) h Q := by
  intro p l e R s m args below meth c A G cls Z H locs cells slots ad lsA C F D hc hs hA
  exact lv_if_lt C.1 C.2.1 hd ht (fun q => kt q p l e R s m args below meth c A G cls Z H locs cells slots ad lsA C F D hc hs hA) (fun q => kf q p l e R s m args below meth c A G cls Z H locs cells slots ad lsA C F D hc hs hA)
theorem a_icmp_lt {x y : Int32} {off : Int} {tgt : Nat} (hd : decode (mB mt) pc = .ok (.if_icmp .lt off, 3)) (ht : (pc : Int) + off = (tgt : Int)) (kt : x < y → AW X mt d kc ks tgt ls st h Q) (kf : ¬ x < y → AW X mt d kc ks (pc + 3) ls st h Q) : AW X mt d kc ks pc ls (.int y :: .int x :: st) h Q := by
  intro p l e R s m args below meth c A G cls Z H locs cells slots ad lsA C F D hc hs hA
  exact lv_icmp_lt C.1 C.2.1 hd ht (fun q => kt q p l e R s m args below meth c A G cls Z H locs cells slots ad lsA C F D hc hs hA) (fun q => kf q p l e R s m args below meth c A G cls Z H locs cells slots ad lsA C F D hc hs hA)
theorem a_if_ge {x : Int32} {off : Int} {tgt : Nat} (hd : decode (mB mt) pc = .ok (.ifCond .ge off, 3)) (ht : (pc : Int) + off = (tgt : Int)) (kt : 0 ≤ x → AW X mt d kc ks tgt ls st h Q) (kf : ¬ 0 ≤ x → AW X mt d kc ks (pc + 3) ls st h Q) : AW X mt d kc ks pc ls (.int x :: st) h Q := by
  intro p l e R s m args below meth c A G cls Z H locs cells slots ad lsA C F D hc hs hA
  exact lv_if_ge C.1 C.2.1 hd ht (fun q => kt q p l e R s m args below meth c A G cls Z H locs cells slots ad lsA C F D hc hs hA) (fun q => kf q p l e R s m args below meth c A G cls Z H locs cells slots ad lsA C F D hc hs hA)
theorem a_icmp_ge {x y : Int32} {off : Int} {tgt : Nat} (hd : decode (mB mt) pc = .ok (.if_icmp .ge off, 3)) (ht : (pc : Int) + off = (tgt : Int)) (kt : y ≤ x → AW X mt d kc ks tgt ls st h Q) (kf : ¬ y ≤ x → AW X mt d kc ks (pc + 3) ls st h Q) : AW X mt d kc ks pc ls (.int y :: .int x :: st) h Q := by
  intro p l e R s m args below meth c A G cls Z H locs cells slots ad lsA C F D hc hs hA
  exact lv_icmp_ge C.1 C.2.1 hd ht (fun q => kt q p l e R s m args below meth c A G cls Z H locs cells slots ad lsA C F D hc hs hA) (fun q => kf q p l e R s m args below meth c A G cls Z H locs cells slots ad lsA C F D hc hs hA)
theorem a_if_gt {x : Int32} {off : Int} {tgt : Nat} (hd : decode (mB mt) pc = .ok (.ifCond .gt off, 3)) (ht : (pc : Int) + off = (tgt : Int)) (kt : 0 < x → AW X mt d kc ks tgt ls st h Q) (kf : ¬ 0 < x → AW X mt d kc ks (pc + 3) ls st h Q) : AW X mt d kc ks pc ls (.int x :: st) h Q := by
  intro p l e R s m args below meth c A G cls Z H locs cells slots ad lsA C F D hc hs hA
  exact lv_if_gt C.1 C.2.1 hd ht (fun q => kt q p l e R s m args below meth c A G cls Z H locs cells slots ad lsA C F D hc hs hA) (fun q => kf q p l e R s m args below meth c A G cls Z H locs cells slots ad lsA C F D hc hs hA)
theorem a_icmp_gt {x y : Int32} {off : Int} {tgt : Nat} (hd : decode (mB mt) pc = .ok (.if_icmp .gt off, 3)) (ht : (pc : Int) + off = (tgt : Int)) (kt : y < x → AW X mt d kc ks tgt ls st h Q) (kf : ¬ y < x → AW X mt d kc ks (pc + 3) ls st h Q) : AW X mt d kc ks pc ls (.int y :: .int x :: st) h Q := by
  intro p l e R s m args below meth c A G cls Z H locs cells slots ad lsA C F D hc hs hA
  exact lv_icmp_gt C.1 C.2.1 hd ht (fun q => kt q p l e R s m args below meth c A G cls Z H locs cells slots ad lsA C F D hc hs hA) (fun q => kf q p l e R s m args below meth c A G cls Z H locs cells slots ad lsA C F D hc hs hA)
theorem a_if_le {x : Int32} {off : Int} {tgt : Nat} (hd : decode (mB mt) pc = .ok (.ifCond .le off, 3)) (ht : (pc : Int) + off = (tgt : Int)) (kt : x ≤ 0 → AW X mt d kc ks tgt ls st h Q) (kf : ¬ x ≤ 0 → AW X mt d kc ks (pc + 3) ls st h Q) : AW X mt d kc ks pc ls (.int x :: st) h Q := by
  intro p l e R s m args below meth c A G cls Z H locs cells slots ad lsA C F D hc hs hA
  exact lv_if_le C.1 C.2.1 hd ht (fun q => kt q p l e R s m args below meth c A G cls Z H locs cells slots ad lsA C F D hc hs hA) (fun q => kf q p l e R s m args below meth c A G cls Z H locs cells slots ad lsA C F D hc hs hA)
theorem a_icmp_le {x y : Int32} {off : Int} {tgt : Nat} (hd : decode (mB mt) pc = .ok (.if_icmp .le off, 3)) (ht : (pc : Int) + off = (tgt : Int)) (kt : x ≤ y → AW X mt d kc ks tgt ls st h Q) (kf : ¬ x ≤ y → AW X mt d kc ks (pc + 3) ls st h Q) : AW X mt d kc ks pc ls (.int y :: .int x :: st) h Q := by
  intro p l e R s m args below meth c A G cls Z H locs cells slots ad lsA C F D hc hs hA
  exact lv_icmp_le C.1 C.2.1 hd ht (fun q => kt q p l e R s m args below meth c A G cls Z H locs cells slots ad lsA C F D hc hs hA) (fun q => kf q p l e R s m args below meth c A G cls Z H locs cells slots ad lsA C F D hc hs hA)
theorem a_goto {off : Int} {tgt : Nat} (hd : decode (mB mt) pc = .ok (.goto off, 3)) (ht : (pc : Int) + off = (tgt : Int)) (k : AW X mt d kc ks tgt ls st h Q) : AW X mt d kc ks pc ls st h Q := AW.p1 (fun _ _ _ _ _ _ _ _ _ _ _ _ _ _ _ _ _ hx hb _ _ _ k => lv_goto hx hb hd ht k) k
theorem a_ifnull {off : Int} {x : Nat} (hd : decode (mB mt) pc = .ok (.ifnull off, 3)) (k : AW X mt d kc ks (pc + 3) ls st h Q) : AW X mt d kc ks pc ls (.ref x :: st) h Q := AW.p1 (fun _ _ _ _ _ _ _ _ _ _ _ _ _ _ _ _ _ hx hb _ _ _ k => lv_ifnull hx hb hd k) k
theorem a_ifnonnull {off : Int} {tgt : Nat} {x : Nat} (hd : decode (mB mt) pc = .ok (.ifnonnull off, 3)) (ht : (pc : Int) + off = (tgt : Int)) (k : AW X mt d kc ks tgt ls st h Q) : AW X mt d kc ks pc ls (.ref x :: st) h Q := AW.p1 (fun _ _ _ _ _ _ _ _ _ _ _ _ _ _ _ _ _ hx hb _ _ _ k => lv_ifnonnull hx hb hd ht k) k
theorem a_tableIn {dflt lo hi : Int} {offs : Array Int} {len : Nat} {x : Int32} {off : Int} {tgt : Nat} (hd : decode (mB mt) pc = .ok (.tableswitch dflt lo hi offs, len)) (h1 : ¬ x.toInt < lo) (h2 : ¬ hi < x.toInt) (h3 : offs[(x.toInt - lo).toNat]? = some off) (ht : (pc : Int) + off = (tgt : Int)) (k : AW X mt d kc ks tgt ls st h Q) : AW X mt d kc ks pc ls (.int x :: st) h Q := AW.p1 (fun _ _ _ _ _ _ _ _ _ _ _ _ _ _ _ _ _ hx hb _ _ _ k => lv_tableIn hx hb hd h1 h2 h3 ht k) k
theorem a_tableOut {dflt lo hi : Int} {offs : Array Int} {len : Nat} {x : Int32} {tgt : Nat} (hd : decode (mB mt) pc = .ok (.tableswitch dflt lo hi offs, len)) (h1 : x.toInt < lo ∨ hi < x.toInt) (ht : (pc : Int) + dflt = (tgt : Int)) (k : AW X mt d kc ks tgt ls st h Q) : AW X mt d kc ks pc ls (.int x :: st) h Q := AW.p1 (fun _ _ _ _ _ _ _ _ _ _ _ _ _ _ _ _ _ hx hb _ _ _ k => lv_tableOut hx hb hd h1 ht k) k
/-- the top of the stack, said otherwise -/
theorem a_top {v v' : Value} (e : v = v') (k : AW X mt d kc ks pc ls (v' :: st) h Q) : AW X mt d kc ks pc ls (v :: st) h Q := by rw [e]; exact k
theorem a_heap {h' : AH} (e : h = h') (k : AW X mt d kc ks pc ls st h' Q) : AW X mt d kc ks pc ls st h Q := by rw [e]; exact k
theorem a_locs (e : ls = ls') (k : AW X mt d kc ks pc ls' st h Q) : AW X mt d kc ks pc ls st h Q := by rw [e]; exact k
/-- fewer locals -/
theorem a_drop (hs : ∀ q ∈ ls', q ∈ ls) (k : AW X mt d kc ks pc ls' st h Q) : AW X mt d kc ks pc ls st h Q := by
  intro p l e R s m args below meth c A G cls Z H locs cells slots ad lsA C F D hc hs2 hA
  refine k p l e R s m args below meth c A G cls Z H locs cells slots ad lsA C F D hc hs2 (lv_has_of hA (fun q hq => ?_))
  obtain ⟨z, hz, rfl⟩ := List.mem_map.mp hq
  exact List.mem_map.mpr ⟨z, hs z hz, rfl⟩
theorem a_room {kc' ks' : Nat} (h1 : kc' ≤ kc) (h2 : ks' ≤ ks) (k : AW X mt d kc' ks' pc ls st h Q) : AW X mt d kc ks pc ls st h Q := by
  intro p l e R s m args below meth c A G cls Z H locs cells slots ad lsA C F D hc hs hA
  exact k p l e R s m args below meth c A G cls Z H locs cells slots ad lsA C F D (by omega) (by omega) hA
/-- the same judgement, a weaker end -/
theorem a_post {Q' : Res → AH → Prop} (hq : ∀ r h2, Q' r h2 → Q r h2) (k : AW X mt d kc ks pc ls st h Q') : AW X mt d kc ks pc ls st h Q := by
  intro p l e R s m args below meth c A G cls Z H locs cells slots ad lsA C F D hc hs hA
  exact k p l e R s m args below meth c A G cls Z H locs cells slots ad lsA C ⟨fun v h2 q => F.1 v h2 (hq _ _ q), fun E h2 q => F.2 E h2 (hq _ _ q)⟩ D hc hs hA
end RW5
end
section
/-! ===== BEGIN a constructor that throws (launches without stack traces) ===== -/
section VXIA
variable {p : Program} {l : Launch} {e : Env} {R : Room} {s : State} {m : MethodId} {args : Array Value} {below : List Frame} {meth : Method} {c : Code} {T : State} {locs : List Loc} {cells slots : Nat}
theorem vx_callI (X : Stand p l e R s m args below meth c T locs cells slots) (hexec : p.tables.exec = Jvm.exec) {own : String} {index : Nat} {y : MethodName} {bytes : ByteArray} {maxL : Nat}
    (hown : s.vm.findClass own = some m.cls) (hy1 : y.name = "<init>") (hlink : (Cond.methodLink own index y).before args s = true) (hinst : (Cond.instanceMethod y).before args s = true)
    (hcode : (Cond.code y bytes maxL none).before args s = true) (hy : y.cls ≠ "java/lang/invoke/MethodHandle" ∧ y.cls ≠ "java/lang/invoke/VarHandle")
    {W9 : Nat} {Pre : Pt → Array Value → Prop} {Post : Pt → Array Value → Option Value → Pt → Prop} {PostX : Pt → Array Value → Addr → Pt → Prop} (hK : vx_Back l R p e below s args y 3 W9 Pre Post PostX)
    {g : JFrame} (hg : g.method = m) (hsize : g.locals.size = c.maxLocals) {a : Addr} {argsL rest : List Value} (hlen : ∀ sig, parseMethodDescriptor y.desc = some sig → argsL.length = sig.parameters.length)
    (hstack : g.stack = argsL.reverse ++ .ref a :: rest) (hW : 2 * g.monitorRoom + (rest.map fun v => v.category).sum ≤ W9) (hdg : decode c.code g.pc = .ok (.invokespecial index, 3))
    (hpre : ∀ vm₁, s.WarmedH vm₁ → Pre ⟨T.setVm vm₁, locs, cells, slots⟩ (Value.ref a :: argsL).toArray) :
    (∃ (v : Option Value) (vm₁ : Vm) (B : Pt), s.WarmedH vm₁ ∧ Stand p l e R s m args below meth c B.U B.locs B.cells B.slots ∧ Post ⟨T.setVm vm₁, locs, cells, slots⟩ (Value.ref a :: argsL).toArray v B ∧
      ∀ target, Steps p.tables e below (B.U.setTop { g with pc := g.pc + 3, stack := v.toList ++ rest }) target → Steps p.tables e below (T.setTop g) target) ∨
    (∃ (q : Addr) (vm₁ : Vm) (B : Pt), s.WarmedH vm₁ ∧ Stand p l e R s m args below meth c B.U B.locs B.cells B.slots ∧ PostX ⟨T.setVm vm₁, locs, cells, slots⟩ (Value.ref a :: argsL).toArray q B ∧
      Steps p.tables e below (T.setTop g) ((B.U.setTop { g with stack := rest }).pushFrame (.throwing q))) := by
  subst hg
  have hpl : e.platform.magicAccessors = ({} : Platform).magicAccessors := by rw [X.admits.platform]
  obtain ⟨mk, methM, cM, kP, vm₁, hnamed, hmethM, hcodeM, -, hlocalsM, -, hkP, -, hW₁, hstep₁⟩ := Steps.initColdArgs (e := e) X.here hexec X.warmed hpl hown hy1 hy hlink hinst hcode (f := g) rfl hlen hstack hdg
  have X₁ := X.noted hW₁
  rcases hK g.method meth c ⟨T.setVm vm₁, locs, cells, slots⟩ { g with stack := rest } (.invokespecial index) mk (Value.ref a :: argsL).toArray X₁ rfl hsize hdg hW (X₁.named hnamed) (hpre vm₁ X₁.warmed) with ⟨v, B, X', hpost, hsteps⟩ | ⟨q, B, X', hpost, hsteps⟩
  · exact Or.inl ⟨v, vm₁, B, X₁.warmed, X', hpost, fun target h => hstep₁ _ fun acts => by rw [doInvoke_state]; exact hsteps.trans h⟩
  · exact Or.inr ⟨q, vm₁, B, X₁.warmed, X', hpost, hstep₁ _ fun acts => by rw [doInvoke_state]; exact hsteps⟩
end VXIA
section VXIB
variable {p : Program} {l : Launch} {e : Env} {R : Room} {s : State} {m : MethodId} {args : Array Value} {below : List Frame} {meth : Method} {c : Code} {H : Heap} {locs : List Loc} {cells slots : Nat}
variable {y : MethodName} {bytes cc : ByteArray} {maxL nL mc ms n index : Nat} {ret : Option FieldType} {ws : List Cond} {rm : Room} {Pc : Array Value → State → Prop} {Qc : Array Value → State → Outcome → State → Prop} {XC : String → State → State → Prop} {free : Addr → Prop} {Ts : List Cond} {own C : String} {b : Addr} {As rest : List Value} {g : JFrame}
theorem vx_runI (S : CallFix p m c cc nL s args Ts own) (hM : vx_Met l y ws rm Pc Qc XC mc ms free) (cw : CallB R s args own index y bytes maxL none ws rm mc ms n ∧ y.name = "<init>" ∧ (Cond.instanceMethod y).before args s = true) (hp : PreS s H Pc (.ref b :: As))
    (hg : g.method = m) (hn : As.length = n) (hsize : g.locals.size = nL) (hstack : g.stack = As.reverse ++ .ref b :: rest) (hW : 2 * g.monitorRoom + (rest.map fun v => v.category).sum ≤ 8) (hdg : decode cc g.pc = .ok (.invokespecial index, 3)) (hf : cells + mc ≤ R.cells ∧ slots + ms ≤ R.slots) :
    vx_Run p l e R s m args below meth c H locs cells slots mc ms g rest (Qc (Value.ref b :: As).toArray) XC free := by
  have hK : vx_Back l R p e below s args y 3 8 (PreOf R mc ms Pc) (PostOf Qc mc ms free) (vx_Post XC mc ms free) := vx_callBack cw.1 hM hp.1
  obtain ⟨⟨-, -, -, -, -, -, hcode, -, hy, hlen, hl⟩, hy1, hin⟩ := cw
  obtain ⟨hx, hb, hml, ho, -⟩ := S
  have hPc := hp.2
  intro T hT X
  rcases vx_callI X hx (bytes := bytes) (maxL := maxL) ho hy1 hl hin hcode hy hK hg (hsize.trans hml.symm) (a := b) (argsL := As) (rest := rest) (fun sig h => hn.trans (hlen sig h)) hstack hW (by rw [hb]; exact hdg)
    (fun vm₁ hW₁ => ⟨hf.1, hf.2, hPc (T.setVm vm₁) hT hW₁⟩) with ⟨v, vm₁, ⟨U', l2, c2, s2⟩, hW₁, X', ⟨g', mk, t, L, e1, e2, hq, h1, hL, h2, h3⟩, st⟩ | ⟨q, vm₁, ⟨U', l2, c2, s2⟩, hW₁, X', ⟨g', mk, t, L, E, ce, e1, e2, hq, hce, hcv, hcl, h1, hL, h2, h3⟩, st⟩
  · dsimp only [Pt.U, Pt.locs, Pt.cells, Pt.slots] at X' e1 e2 h1 h2 h3 st
    subst h1; subst h2; subst h3
    exact Or.inl ⟨v, (T.setVm vm₁).calling g' mk (Value.ref b :: As).toArray, t, U', L, hT, X', hL, e1, e2, hq, st⟩
  · dsimp only [Pt.U, Pt.locs, Pt.cells, Pt.slots] at X' e1 e2 h1 h2 h3 st hcl
    subst h1; subst h2; subst h3
    exact Or.inr ⟨q, (T.setVm vm₁).calling g' mk (Value.ref b :: As).toArray, t, U', L, E, ce, hT, X', hL, e1, e2, hq, hce, hcv, vx_cls hW₁ hcl, st⟩
end VXIB
/-! ===== END ===== -/
/-! ===== BEGIN a private constructor of a nest mate that throws ===== -/
section VXIC
variable {p : Program} {l : Launch} {e : Env} {R : Room} {s : State} {m : MethodId} {args : Array Value} {below : List Frame} {meth : Method} {c : Code} {T : State} {locs : List Loc} {cells slots : Nat}
theorem vx_callIN (X : Stand p l e R s m args below meth c T locs cells slots) (hexec : p.tables.exec = Jvm.exec) {own : String} {index : Nat} {host : String} {y : MethodName} {bytes : ByteArray} {maxL : Nat}
    (hown : s.vm.findClass own = some m.cls) (hy1 : y.name = "<init>") (hlink : (Cond.methodLinkNest own index y host).before args s = true) (hinst : (Cond.instanceMethod y).before args s = true)
    (hcode : (Cond.code y bytes maxL none).before args s = true) (hy : y.cls ≠ "java/lang/invoke/MethodHandle" ∧ y.cls ≠ "java/lang/invoke/VarHandle")
    {W9 : Nat} {Pre : Pt → Array Value → Prop} {Post : Pt → Array Value → Option Value → Pt → Prop} {PostX : Pt → Array Value → Addr → Pt → Prop} (hK : vx_Back l R p e below s args y 3 W9 Pre Post PostX)
    {g : JFrame} (hg : g.method = m) (hsize : g.locals.size = c.maxLocals) {a : Addr} {argsL rest : List Value} (hlen : ∀ sig, parseMethodDescriptor y.desc = some sig → argsL.length = sig.parameters.length)
    (hstack : g.stack = argsL.reverse ++ .ref a :: rest) (hW : 2 * g.monitorRoom + (rest.map fun v => v.category).sum ≤ W9) (hdg : decode c.code g.pc = .ok (.invokespecial index, 3))
    (hpre : ∀ vm₁, s.WarmedH vm₁ → Pre ⟨T.setVm vm₁, locs, cells, slots⟩ (Value.ref a :: argsL).toArray) :
    (∃ (v : Option Value) (vm₁ : Vm) (B : Pt), s.WarmedH vm₁ ∧ Stand p l e R s m args below meth c B.U B.locs B.cells B.slots ∧ Post ⟨T.setVm vm₁, locs, cells, slots⟩ (Value.ref a :: argsL).toArray v B ∧
      ∀ target, Steps p.tables e below (B.U.setTop { g with pc := g.pc + 3, stack := v.toList ++ rest }) target → Steps p.tables e below (T.setTop g) target) ∨
    (∃ (q : Addr) (vm₁ : Vm) (B : Pt), s.WarmedH vm₁ ∧ Stand p l e R s m args below meth c B.U B.locs B.cells B.slots ∧ PostX ⟨T.setVm vm₁, locs, cells, slots⟩ (Value.ref a :: argsL).toArray q B ∧
      Steps p.tables e below (T.setTop g) ((B.U.setTop { g with stack := rest }).pushFrame (.throwing q))) := by
  subst hg
  have hpl : e.platform.magicAccessors = ({} : Platform).magicAccessors := by rw [X.admits.platform]
  obtain ⟨mk, methM, cM, kP, vm₁, hnamed, hmethM, hcodeM, -, hlocalsM, -, hkP, -, hW₁, hstep₁⟩ := Steps.initColdArgsNest (e := e) X.here hexec X.warmed hpl hown hy1 hy hlink hinst hcode (f := g) rfl hlen hstack hdg
  have X₁ := X.noted hW₁
  rcases hK g.method meth c ⟨T.setVm vm₁, locs, cells, slots⟩ { g with stack := rest } (.invokespecial index) mk (Value.ref a :: argsL).toArray X₁ rfl hsize hdg hW (X₁.named hnamed) (hpre vm₁ X₁.warmed) with ⟨v, B, X', hpost, hsteps⟩ | ⟨q, B, X', hpost, hsteps⟩
  · exact Or.inl ⟨v, vm₁, B, X₁.warmed, X', hpost, fun target h => hstep₁ _ fun acts => by rw [doInvoke_state]; exact hsteps.trans h⟩
  · exact Or.inr ⟨q, vm₁, B, X₁.warmed, X', hpost, hstep₁ _ fun acts => by rw [doInvoke_state]; exact hsteps⟩
end VXIC
section VXID
variable {p : Program} {l : Launch} {e : Env} {R : Room} {s : State} {m : MethodId} {args : Array Value} {below : List Frame} {meth : Method} {c : Code} {H : Heap} {locs : List Loc} {cells slots : Nat}
theorem vx_runIN {y : MethodName} {bytes cc : ByteArray} {maxL nL mc ms n index : Nat} {ws : List Cond} {rm : Room} {Pc : Array Value → State → Prop} {Qc : Array Value → State → Outcome → State → Prop} {XC : String → State → State → Prop} {free : Addr → Prop} {Ts : List Cond} {own host : String} {b : Addr} {As rest : List Value} {g : JFrame}
    (S : CallFix p m c cc nL s args Ts own) (hM : vx_Met l y ws rm Pc Qc XC mc ms free) (cw : va_CN R s args own index y host bytes maxL none ws rm mc ms n ∧ y.name = "<init>" ∧ (Cond.instanceMethod y).before args s = true) (hp : PreS s H Pc (.ref b :: As))
    (hg : g.method = m) (hn : As.length = n) (hsize : g.locals.size = nL) (hstack : g.stack = As.reverse ++ .ref b :: rest) (hW : 2 * g.monitorRoom + (rest.map fun v => v.category).sum ≤ 8) (hdg : decode cc g.pc = .ok (.invokespecial index, 3)) (hf : cells + mc ≤ R.cells ∧ slots + ms ≤ R.slots) :
    vx_Run p l e R s m args below meth c H locs cells slots mc ms g rest (Qc (Value.ref b :: As).toArray) XC free := by
  obtain ⟨⟨⟨hrc, hrs, hfr, hlo, hws, hcw⟩, hcode, hini, hy, hlen, hl⟩, hx1, hx2⟩ := cw
  have hK : vx_Back l R p e below s args y 3 8 (PreOf R mc ms Pc) (PostOf Qc mc ms free) (vx_Post XC mc ms free) := vx_back (bytes := bytes) (maxL := maxL) (ret := none) hM hp.1 hrc hrs hfr hlo hws hcw (fun a' U hW => word_at hW (Or.inl (by first | rfl | simp [Cond.onTables, Cond.keeps, Cond.steady])) hini)
  obtain ⟨hx, hb, hml, ho, -⟩ := S
  have hPc := hp.2
  intro T hT X
  rcases vx_callIN X hx (bytes := bytes) (maxL := maxL) ho hx1 hl hx2 hcode hy hK hg (hsize.trans hml.symm) (a := b) (argsL := As) (rest := rest) (fun sig h => hn.trans (hlen sig h)) hstack hW (by rw [hb]; exact hdg)
    (fun vm₁ hW₁ => ⟨hf.1, hf.2, hPc (T.setVm vm₁) hT hW₁⟩) with ⟨v, vm₁, ⟨U', l2, c2, s2⟩, hW₁, X', ⟨g', mk, t, L, e1, e2, hq, h1, hL, h2, h3⟩, st⟩ | ⟨q, vm₁, ⟨U', l2, c2, s2⟩, hW₁, X', ⟨g', mk, t, L, E, ce, e1, e2, hq, hce, hcv, hcl, h1, hL, h2, h3⟩, st⟩
  · dsimp only [Pt.U, Pt.locs, Pt.cells, Pt.slots] at X' e1 e2 h1 h2 h3 st
    subst h1; subst h2; subst h3
    exact Or.inl ⟨v, (T.setVm vm₁).calling g' mk (Value.ref b :: As).toArray, t, U', L, hT, X', hL, e1, e2, hq, st⟩
  · dsimp only [Pt.U, Pt.locs, Pt.cells, Pt.slots] at X' e1 e2 h1 h2 h3 st hcl
    subst h1; subst h2; subst h3
    exact Or.inr ⟨q, (T.setVm vm₁).calling g' mk (Value.ref b :: As).toArray, t, U', L, E, ce, hT, X', hL, e1, e2, hq, hce, hcv, vx_cls hW₁ hcl, st⟩
end VXID
/-! ===== END ===== -/
/-! ===== BEGIN a private method of a nest mate that may throw (follows va_callVN, va_callSN, va_runVN, va_runSN) ===== -/
section
variable {p : Program} {l : Launch} {e : Env} {R : Room} {s : State} {m : MethodId} {args : Array Value} {below : List Frame} {meth : Method} {c : Code} {H : Heap} {locs : List Loc} {cells slots : Nat}
variable {T : State}
theorem vx_callVN (X : Stand p l e R s m args below meth c T locs cells slots) (hexec : p.tables.exec = Jvm.exec) {own C : String} {index : Nat} {host : String} {y : MethodName} {bytes : ByteArray} {maxL : Nat} {ret : Option FieldType}
    (hown : s.vm.findClass own = some m.cls) (hlink : (Cond.methodLinkNest own index y host).before args s = true) (hinst : (Cond.instanceMethod y).before args s = true) (hsel : (Cond.selects C y y).before args s = true)
    (hcode : (Cond.code y bytes maxL ret).before args s = true) (hy : y.cls ≠ "java/lang/invoke/MethodHandle" ∧ y.cls ≠ "java/lang/invoke/VarHandle")
    {W : Nat} {Pre : Pt → Array Value → Prop} {Post : Pt → Array Value → Option Value → Pt → Prop} {PostX : Pt → Array Value → Addr → Pt → Prop} (hK : vx_Back l R p e below s args y 3 W Pre Post PostX)
    {b : Addr} {cellB : Cell} (hcell : T.heap[b]? = some cellB) (hobj : cellB.vm.isStatics = false) (hcls : s.vm.findClass C = some cellB.cls)
    {g : JFrame} (hg : g.method = m) (hsize : g.locals.size = c.maxLocals) {argsL rest : List Value} (hlen : ∀ sig, parseMethodDescriptor y.desc = some sig → argsL.length = sig.parameters.length)
    (hstack : g.stack = argsL.reverse ++ .ref b :: rest) (hW : 2 * g.monitorRoom + (rest.map fun v => v.category).sum ≤ W) (hdg : decode c.code g.pc = .ok (.invokevirtual index, 3))
    (hpre : ∀ vm₁, s.WarmedH vm₁ → Pre ⟨T.setVm vm₁, locs, cells, slots⟩ (Value.ref b :: argsL).toArray) :
    (∃ (v : Option Value) (vm₁ : Vm) (B : Pt), s.WarmedH vm₁ ∧ Stand p l e R s m args below meth c B.U B.locs B.cells B.slots ∧ Post ⟨T.setVm vm₁, locs, cells, slots⟩ (Value.ref b :: argsL).toArray v B ∧
      ∀ target, Steps p.tables e below (B.U.setTop { g with pc := g.pc + 3, stack := v.toList ++ rest }) target → Steps p.tables e below (T.setTop g) target) ∨
    (∃ (q : Addr) (vm₁ : Vm) (B : Pt), s.WarmedH vm₁ ∧ Stand p l e R s m args below meth c B.U B.locs B.cells B.slots ∧ PostX ⟨T.setVm vm₁, locs, cells, slots⟩ (Value.ref b :: argsL).toArray q B ∧
      Steps p.tables e below (T.setTop g) ((B.U.setTop { g with stack := rest }).pushFrame (.throwing q))) := by
  obtain ⟨mk, methM, hnamed, hmethM, hstM, habM⟩ := Cond.instanceMethod_spec hinst
  obtain ⟨methM', cM, hmethM', -, -, -, -, -, -, hsigM⟩ := Cond.code_spec hnamed hcode
  cases hmethM.symm.trans hmethM'
  obtain ⟨c2, r2, m2, q1, q2, q3, q4, kP, hkP, hkPi⟩ := Cond.selects_spec hsel
  cases hcls.symm.trans q1
  cases (State.methodFound?_of_named hnamed hy).symm.trans q2
  cases hnamed.symm.trans q3
  have hselP : selectMethod e.platform s.vm cellB.cls mk = .method mk := by rw [Launch.admits_selectMethod X.admits]; exact q4
  obtain ⟨vm₁, X₁, hstep₁⟩ := X.invokevirtualNest hexec hown hlink hnamed hmethM hstM hkP hkPi hy (a := b) (cell := cellB) hcell
    (fun z h => by rw [h] at hobj; cases hobj) hselP hmethM habM hkP hkPi (g := g) hg (argsL := argsL) (rest := rest) (hlen _ hsigM) hstack hdg
  rcases hK m meth c ⟨T.setVm vm₁, locs, cells, slots⟩ { g with stack := rest } (.invokevirtual index) mk (Value.ref b :: argsL).toArray X₁ hg hsize hdg hW (X₁.named hnamed) (hpre vm₁ X₁.warmed) with ⟨v, B, X', hpost, hsteps⟩ | ⟨q, B, X', hpost, hsteps⟩
  · exact Or.inl ⟨v, vm₁, B, X₁.warmed, X', hpost, fun target h => hstep₁ _ fun acts => by rw [doInvoke_state]; exact hsteps.trans h⟩
  · exact Or.inr ⟨q, vm₁, B, X₁.warmed, X', hpost, hstep₁ _ fun acts => by rw [doInvoke_state]; exact hsteps⟩
theorem vx_callSN (X : Stand p l e R s m args below meth c T locs cells slots) (hexec : p.tables.exec = Jvm.exec) {own : String} {index : Nat} {host : String} {y : MethodName} {bytes : ByteArray} {maxL : Nat} {ret : Option FieldType}
    (hown : s.vm.findClass own = some m.cls) (hlink : (Cond.methodLinkNest own index y host).before args s = true) (hstat : (Cond.static y).before args s = true) (hinit : (Cond.initialized y.cls).before args s = true)
    (hcode : (Cond.code y bytes maxL ret).before args s = true) (hy : y.cls ≠ "java/lang/invoke/MethodHandle" ∧ y.cls ≠ "java/lang/invoke/VarHandle")
    {W : Nat} {Pre : Pt → Array Value → Prop} {Post : Pt → Array Value → Option Value → Pt → Prop} {PostX : Pt → Array Value → Addr → Pt → Prop} (hK : vx_Back l R p e below s args y 3 W Pre Post PostX)
    {g : JFrame} (hg : g.method = m) (hsize : g.locals.size = c.maxLocals) {argsL rest : List Value} (hlen : ∀ sig, parseMethodDescriptor y.desc = some sig → argsL.length = sig.parameters.length)
    (hstack : g.stack = argsL.reverse ++ rest) (hW : 2 * g.monitorRoom + (rest.map fun v => v.category).sum ≤ W) (hdg : decode c.code g.pc = .ok (.invokestatic index, 3))
    (hpre : ∀ vm₁, s.WarmedH vm₁ → Pre ⟨T.setVm vm₁, locs, cells, slots⟩ argsL.toArray) :
    (∃ (v : Option Value) (vm₁ : Vm) (B : Pt), s.WarmedH vm₁ ∧ Stand p l e R s m args below meth c B.U B.locs B.cells B.slots ∧ Post ⟨T.setVm vm₁, locs, cells, slots⟩ argsL.toArray v B ∧
      ∀ target, Steps p.tables e below (B.U.setTop { g with pc := g.pc + 3, stack := v.toList ++ rest }) target → Steps p.tables e below (T.setTop g) target) ∨
    (∃ (q : Addr) (vm₁ : Vm) (B : Pt), s.WarmedH vm₁ ∧ Stand p l e R s m args below meth c B.U B.locs B.cells B.slots ∧ PostX ⟨T.setVm vm₁, locs, cells, slots⟩ argsL.toArray q B ∧
      Steps p.tables e below (T.setTop g) ((B.U.setTop { g with stack := rest }).pushFrame (.throwing q))) := by
  obtain ⟨mk, hnamed⟩ := Cond.code_named hcode
  obtain ⟨methM, cM, hmethM, -, -, -, -, -, -, hsigM⟩ := Cond.code_spec hnamed hcode
  have hstatic : methM.isStatic = true := Cond.static_spec hnamed hmethM hstat
  obtain ⟨kP, hkP, -⟩ := className_of_methodNamed hnamed
  have hinitP : kP.init = .initialized := Cond.initialized_spec (findClass_of_methodNamed hnamed) hkP hinit
  obtain ⟨vm₁, X₁, hstep₁⟩ := X.invokestaticNest hexec hown hlink hnamed hmethM hstatic hkP hinitP hy (g := g) hg (argsL := argsL) (rest := rest) (hlen _ hsigM) hstack hdg
  rcases hK m meth c ⟨T.setVm vm₁, locs, cells, slots⟩ { g with stack := rest } (.invokestatic index) mk argsL.toArray X₁ hg hsize hdg hW (X₁.named hnamed) (hpre vm₁ X₁.warmed) with ⟨v, B, X', hpost, hsteps⟩ | ⟨q, B, X', hpost, hsteps⟩
  · exact Or.inl ⟨v, vm₁, B, X₁.warmed, X', hpost, fun target h => hstep₁ _ fun acts => by rw [doInvoke_state]; exact hsteps.trans h⟩
  · exact Or.inr ⟨q, vm₁, B, X₁.warmed, X', hpost, hstep₁ _ fun acts => by rw [doInvoke_state]; exact hsteps⟩
theorem vx_runVN {y : MethodName} {bytes cc : ByteArray} {maxL nL mc ms n index : Nat} {ret : Option FieldType} {ws : List Cond} {rm : Room} {Pc : Array Value → State → Prop} {Qc : Array Value → State → Outcome → State → Prop} {XC : String → State → State → Prop} {free : Addr → Prop} {Ts : List Cond} {own C host : String} {b : Addr} {As rest : List Value} {g : JFrame}
    (S : CallFix p m c cc nL s args Ts own) (hM : vx_Met l y ws rm Pc Qc XC mc ms free) (cw : va_CN R s args own index y host bytes maxL ret ws rm mc ms n ∧ (Cond.instanceMethod y).before args s = true ∧ (Cond.selects C y y).before args s = true) (hp : PreV s H C b Pc As)
    (hg : g.method = m) (hn : As.length = n) (hsize : g.locals.size = nL) (hstack : g.stack = As.reverse ++ .ref b :: rest) (hW : 2 * g.monitorRoom + (rest.map fun v => v.category).sum ≤ 8) (hdg : decode cc g.pc = .ok (.invokevirtual index, 3)) (hf : cells + mc ≤ R.cells ∧ slots + ms ≤ R.slots) :
    vx_Run p l e R s m args below meth c H locs cells slots mc ms g rest (Qc (Value.ref b :: As).toArray) XC free := by
  obtain ⟨⟨⟨hrc, hrs, hfr, hlo, hws, hcw⟩, hcode, hini, hy, hlen, hl⟩, hx1, hx2⟩ := cw
  have hK : vx_Back l R p e below s args y 3 8 (PreOf R mc ms Pc) (PostOf Qc mc ms free) (vx_Post XC mc ms free) := vx_back (bytes := bytes) (maxL := maxL) (ret := ret) hM hp.1 hrc hrs hfr hlo hws hcw (fun a' U hW => word_at hW (Or.inl (by first | rfl | simp [Cond.onTables, Cond.keeps, Cond.steady])) hini)
  obtain ⟨hx, hb, hml, ho, -⟩ := S
  obtain ⟨-, ⟨cellB, hcB, hoB, hclB⟩, hPc⟩ := hp
  intro T hT X
  rcases vx_callVN X hx (C := C) (bytes := bytes) (maxL := maxL) (ret := ret) ho hl hx1 hx2 hcode hy hK (by rw [hT]; exact hcB) hoB hclB hg (hsize.trans hml.symm) (argsL := As) (rest := rest) (fun sig h => hn.trans (hlen sig h)) hstack hW (by rw [hb]; exact hdg)
    (fun vm₁ hW₁ => ⟨hf.1, hf.2, hPc (T.setVm vm₁) hT hW₁⟩) with ⟨v, vm₁, ⟨U', l2, c2, s2⟩, hW₁, X', ⟨g', mk, t, L, e1, e2, hq, h1, hL, h2, h3⟩, st⟩ | ⟨q, vm₁, ⟨U', l2, c2, s2⟩, hW₁, X', ⟨g', mk, t, L, E, ce, e1, e2, hq, hce, hcv, hcl, h1, hL, h2, h3⟩, st⟩
  · dsimp only [Pt.U, Pt.locs, Pt.cells, Pt.slots] at X' e1 e2 h1 h2 h3 st
    subst h1; subst h2; subst h3
    exact Or.inl ⟨v, (T.setVm vm₁).calling g' mk (Value.ref b :: As).toArray, t, U', L, hT, X', hL, e1, e2, hq, st⟩
  · dsimp only [Pt.U, Pt.locs, Pt.cells, Pt.slots] at X' e1 e2 h1 h2 h3 st hcl
    subst h1; subst h2; subst h3
    exact Or.inr ⟨q, (T.setVm vm₁).calling g' mk (Value.ref b :: As).toArray, t, U', L, E, ce, hT, X', hL, e1, e2, hq, hce, hcv, vx_cls hW₁ hcl, st⟩
theorem vx_runSN {y : MethodName} {bytes cc : ByteArray} {maxL nL mc ms n index : Nat} {ret : Option FieldType} {ws : List Cond} {rm : Room} {Pc : Array Value → State → Prop} {Qc : Array Value → State → Outcome → State → Prop} {XC : String → State → State → Prop} {free : Addr → Prop} {Ts : List Cond} {own host : String} {As rest : List Value} {g : JFrame}
    (S : CallFix p m c cc nL s args Ts own) (hM : vx_Met l y ws rm Pc Qc XC mc ms free) (cw : va_CN R s args own index y host bytes maxL ret ws rm mc ms n ∧ (Cond.static y).before args s = true ∧ True) (hp : PreS s H Pc As)
    (hg : g.method = m) (hn : As.length = n) (hsize : g.locals.size = nL) (hstack : g.stack = As.reverse ++ rest) (hW : 2 * g.monitorRoom + (rest.map fun v => v.category).sum ≤ 8) (hdg : decode cc g.pc = .ok (.invokestatic index, 3)) (hf : cells + mc ≤ R.cells ∧ slots + ms ≤ R.slots) :
    vx_Run p l e R s m args below meth c H locs cells slots mc ms g rest (Qc As.toArray) XC free := by
  obtain ⟨⟨⟨hrc, hrs, hfr, hlo, hws, hcw⟩, hcode, hini, hy, hlen, hl⟩, hx1, hx2⟩ := cw
  have hK : vx_Back l R p e below s args y 3 8 (PreOf R mc ms Pc) (PostOf Qc mc ms free) (vx_Post XC mc ms free) := vx_back (bytes := bytes) (maxL := maxL) (ret := ret) hM hp.1 hrc hrs hfr hlo hws hcw (fun a' U hW => word_at hW (Or.inl (by first | rfl | simp [Cond.onTables, Cond.keeps, Cond.steady])) hini)
  obtain ⟨hx, hb, hml, ho, -⟩ := S
  have hPc := hp.2
  intro T hT X
  rcases vx_callSN X hx (bytes := bytes) (maxL := maxL) (ret := ret) ho hl hx1 hini hcode hy hK hg (hsize.trans hml.symm) (argsL := As) (rest := rest) (fun sig h => hn.trans (hlen sig h)) hstack hW (by rw [hb]; exact hdg)
    (fun vm₁ hW₁ => ⟨hf.1, hf.2, hPc (T.setVm vm₁) hT hW₁⟩) with ⟨v, vm₁, ⟨U', l2, c2, s2⟩, hW₁, X', ⟨g', mk, t, L, e1, e2, hq, h1, hL, h2, h3⟩, st⟩ | ⟨q, vm₁, ⟨U', l2, c2, s2⟩, hW₁, X', ⟨g', mk, t, L, E, ce, e1, e2, hq, hce, hcv, hcl, h1, hL, h2, h3⟩, st⟩
  · dsimp only [Pt.U, Pt.locs, Pt.cells, Pt.slots] at X' e1 e2 h1 h2 h3 st
    subst h1; subst h2; subst h3
    exact Or.inl ⟨v, (T.setVm vm₁).calling g' mk As.toArray, t, U', L, hT, X', hL, e1, e2, hq, st⟩
  · dsimp only [Pt.U, Pt.locs, Pt.cells, Pt.slots] at X' e1 e2 h1 h2 h3 st hcl
    subst h1; subst h2; subst h3
    exact Or.inr ⟨q, (T.setVm vm₁).calling g' mk As.toArray, t, U', L, E, ce, hT, X', hL, e1, e2, hq, hce, hcv, vx_cls hW₁ hcl, st⟩
end
/-! ===== END ===== -/
end
section
/-! rows of AW: fields and arrays -/
theorem cls_cases {P : Nat → Prop} (h0 : P 0) (h1 : P 1) (h2 : P 2) (h3 : P 3) (h4 : P 4) (h5 : P 5) : ∀ ci, ci < 6 → P ci := by
  intro ci h
  match ci, h with
  | 0, _ => exact h0
  | 1, _ => exact h1
  | 2, _ => exact h2
  | 3, _ => exact h3
  | 4, _ => exact h4
  | 5, _ => exact h5
theorem uws_ok : ∀ ci, ci < 6 → ∀ w ∈ u_ws (cR ci) (cT ci) (nF ci), w ∈ lw_tbl ∧ goodWord w = true := cls_cases (by decide +kernel) (by decide +kernel) (by decide +kernel) (by decide +kernel) (by decide +kernel) (by decide +kernel)
theorem tyc_ok : ∀ ci, ci < 6 → ∀ k, k < nF ci → parseFieldDescriptor (cT ci k).2.2.1 = some (fT ci k) := cls_cases tyX0_ok tyX1_ok tyX2_ok tyX3_ok tyX4_ok tyX5_ok
theorem nmc_ok : ∀ ci, ci < 6 → ∀ a, a < nF ci → ∀ b, b < nF ci → a ≠ b → (cT ci a).2.1 ≠ (cT ci b).2.1 := cls_cases nmX0 nmX1 nmX2 nmX3 nmX4 nmX5
theorem shK_len {a t n : Nat} (hs : shK a = some (.inr (t, n))) : t < 6 ∧ n ≤ 4096 := by
  have hm : (Sum.inr (t, n) : Nat ⊕ (Nat × Nat)) ∈ shL := List.mem_of_getElem? hs
  have h : ∀ x ∈ shL, ∀ t n, x = .inr (t, n) → t < 6 ∧ n ≤ 4096 := by
    have h1 : shL.all (fun x => match x with | .inl _ => true | .inr (t, n) => decide (t < 6) && decide (n ≤ 4096)) = true := by decide +kernel
    intro x hx t n e
    have h2 := List.all_eq_true.mp h1 x hx
    subst e
    simpa using h2
  exact h _ hm t n rfl
theorem shK_lt {a : Nat} {k : Nat ⊕ (Nat × Nat)} (hs : shK a = some k) : a < 90 := by
  have := (List.getElem?_eq_some_iff.mp hs).1
  simpa [shL] using this
/-- the link of a field that a method reads or writes: plain, or of a nest mate -/
def FL (mt : MT) (idx ci k : Nat) : Prop := (Cond.fieldLink (mN mt).cls idx (cT ci k).1 (cT ci k).2.1 (cT ci k).2.2.1 ∈ lw_tbl) ∨ ∃ host, Cond.fieldLinkNest (mN mt).cls idx (cT ci k).1 (cT ci k).2.1 (cT ci k).2.2.1 host ∈ tables_1
theorem fs_get {f : Nat → Value} {n k : Nat} (hk : k < n) : ((List.range n).map f)[k]? = some (f k) := by simp [hk]
theorem nI_i {j n : Nat} (hj : j < n) (hn : n ≤ 4096) : vp_in (nI j) n ∧ (nI j).toNatClampNeg = j := ⟨vp_in_nI hj (by omega), nI_clamp (by omega)⟩
section RW7
variable {X : XT} {mt : MT} {d kc ks pc : Nat} {ls ls' : List (Nat × Value)} {st : List Value} {h : AH} {Q : Res → AH → Prop}
theorem a_get {a ci k idx : Nat} {v : Value} (hd : decode (mB mt) pc = .ok (.getfield idx, 3)) (hf : FL mt idx ci k) (hk : k < nF ci) (hs : shK a = some (.inl ci)) (ha : a < hN h) (hv : ∀ ad, fv ad h a ci k = cv ad v) (kk : AW X mt d kc ks (pc + 3) ls (v :: st) h Q) : AW X mt d kc ks pc ls (.ref a :: st) h Q := by
  intro p l e R s m args below meth c A G cls Z H locs cells slots ad lsA C F D hc hs2 hA
  have hci := shK_ci hs
  have g := kk p l e R s m args below meth c A G cls Z H locs cells slots ad lsA C F D hc hs2 hA
  obtain ⟨hx, hb, hml, hown, hw, -, -, -, -, -, hK, hE, -, -⟩ := id C
  have hget : (wld cls ad h)[a]? = some (ad a, .inr (ci, (List.range (nF ci)).map (fv ad h a ci))) := by rw [wld_get ha, ce_obj hs]
  have hval : ((List.range (nF ci)).map (fv ad h a ci))[k]? = some (cv ad v) := by rw [fs_get hk, hv]
  rcases hf with hf | ⟨host, hf⟩
  · exact va_get (C := cR ci) (T := cT ci) (N := nF ci) (Ts := u_ws (cR ci) (cT ci) (nF ci)) hx hb (fun w q => hw w (uws_ok ci hci w q).1 (uws_ok ci hci w q).2) (fun _ q => q) hown hK D.1 a hget (vwCl_at hci) k hk (hw _ hf rfl) (fun _ q => q) hval hd g
  · exact va_getN (C := cR ci) (T := cT ci) (N := nF ci) (Ts := u_ws (cR ci) (cT ci) (nF ci)) hx hb (fun w q => hw w (uws_ok ci hci w q).1 (uws_ok ci hci w q).2) (fun _ q => q) hown hK D.1 a hget (vwCl_at hci) k hk (va_Nw.use rfl (hE.1 _ hf rfl)) (fun _ q => q) hval hd g
theorem a_getI {a ci k idx : Nat} (hd : decode (mB mt) pc = .ok (.getfield idx, 3)) (hf : FL mt idx ci k) (hk : k < nF ci) (ht : fK ci k = 0) (hs : shK a = some (.inl ci)) (ha : a < hN h) (kk : AW X mt d kc ks (pc + 3) ls (.int (hI h a k) :: st) h Q) : AW X mt d kc ks pc ls (.ref a :: st) h Q :=
  a_get hd hf hk hs ha (fun ad => by simp [fv, ht, cv]) kk
theorem a_getL {a ci k idx : Nat} (hd : decode (mB mt) pc = .ok (.getfield idx, 3)) (hf : FL mt idx ci k) (hk : k < nF ci) (ht : fK ci k = 1) (hs : shK a = some (.inl ci)) (ha : a < hN h) (kk : AW X mt d kc ks (pc + 3) ls (.long (hL h a k) :: st) h Q) : AW X mt d kc ks pc ls (.ref a :: st) h Q :=
  a_get hd hf hk hs ha (fun ad => by simp [fv, ht, cv]) kk
theorem a_getR {a ci k idx b : Nat} (hd : decode (mB mt) pc = .ok (.getfield idx, 3)) (hf : FL mt idx ci k) (hk : k < nF ci) (ht : fK ci k = 2) (hs : shK a = some (.inl ci)) (ha : a < hN h) (hr : hR h a k = some b) (kk : AW X mt d kc ks (pc + 3) ls (.ref b :: st) h Q) : AW X mt d kc ks pc ls (.ref a :: st) h Q :=
  a_get hd hf hk hs ha (fun ad => by simp [fv, ht, cv, hr, va_rf]) kk
theorem a_put {a ci k idx : Nat} {v : Value} {h' : AH} (hd : decode (mB mt) pc = .ok (.putfield idx, 3)) (hf : FL mt idx ci k) (hk : k < nF ci) (hs : shK a = some (.inl ci)) (ha : a < hN h) (hfin : (cT ci k).2.2.2 = false ∨ ((cT ci k).2.2.2 = true ∧ (mN mt).name = "<init>" ∧ (cT ci k).1 = (mN mt).cls ∧ Cond.fieldLink (mN mt).cls idx (cT ci k).1 (cT ci k).2.1 (cT ci k).2.2.1 ∈ lw_tbl))
    (hn : ∀ ad, narrow (fT ci k) (cv ad v) = cv ad v) (hfit : ∀ ad, fits (fT ci k) (cv ad v) = true) (eN : hN h' = hN h) (ho : ∀ b, b ≠ a → hI h' b = hI h b ∧ hL h' b = hL h b ∧ hR h' b = hR h b) (hv : ∀ ad, (fun j => if j = k then cv ad v else fv ad h a ci j) = fv ad h' a ci) (hw' : wfh h → wfh h')
    (kk : AW X mt d kc ks (pc + 3) ls st h' Q) : AW X mt d kc ks pc ls (v :: .ref a :: st) h Q := by
  intro p l e R s m args below meth c A G cls Z H locs cells slots ad lsA C F D hc hs2 hA
  have hci := shK_ci hs
  obtain ⟨hx, hb, hml, hown, hw, -, -, -, hnm, -, hK, hE, -, -⟩ := id C
  have hget : (wld cls ad h)[a]? = some (ad a, .inr (ci, (List.range (nF ci)).map (fv ad h a ci))) := by rw [wld_get ha, ce_obj hs]
  have hset : (wld cls ad h).set a (ad a, .inr (ci, ((List.range (nF ci)).map (fv ad h a ci)).set k (cv ad v))) = wld cls ad h' := by
    refine wld_set eN (fun b q => ce_congr (ho b q).1 (ho b q).2.1 (fun j => by rw [(ho b q).2.2])) ?_ ha
    rw [ce_obj hs, range_set hk, hv]
  have hl : k < ((List.range (nF ci)).map (fv ad h a ci)).length := by simp [hk]
  have go : ∀ (H1 : Heap) (locs1 : List Loc), va_P G vwCl ((wld cls ad h).set a (ad a, .inr (ci, ((List.range (nF ci)).map (fv ad h a ci)).set k (cv ad v)))) H1 → va_D A ((wld cls ad h).set a (ad a, .inr (ci, ((List.range (nF ci)).map (fv ad h a ci)).set k (cv ad v)))) → va_S A s.heap H1 locs1 →
      W p l e R s m args below meth c H1 locs1 cells slots Z (F0 m (pc + 3) lsA (st.map (cv ad))) := by
    intro H1 locs1 q1 q2 q3
    rw [hset] at q1 q2
    exact kk p l e R s m args below meth c A G cls Z H1 locs1 cells slots ad lsA C (eN ▸ F) ⟨q1, q2, q3, hw' D.2.2.2.1, D.2.2.2.2⟩ hc hs2 hA
  have ht := fun w q => hw w (uws_ok ci hci w q).1 (uws_ok ci hci w q).2
  rcases hfin with hfin | ⟨hfin, hi, ho2, hf⟩
  · rcases hf with hf | ⟨host, hf⟩
    · exact va_put (C := cR ci) (T := cT ci) (N := nF ci) (Ts := u_ws (cR ci) (cT ci) (nF ci)) hx hb ht (fun _ q => q) (fT ci) (tyc_ok ci hci) (nmc_ok ci hci) hown hK D.1 D.2.1 D.2.2.1 a hget (vwCl_at hci) k hk (hw _ hf rfl) (fun _ q => q) hfin (tyc_ok ci hci k hk) (hn ad) (hfit ad) hl hd go
    · exact va_putN (C := cR ci) (T := cT ci) (N := nF ci) (Ts := u_ws (cR ci) (cT ci) (nF ci)) hx hb ht (fun _ q => q) (fT ci) (tyc_ok ci hci) (nmc_ok ci hci) hown hK D.1 D.2.1 D.2.2.1 a hget (vwCl_at hci) k hk (va_Nw.use rfl (hE.1 _ hf rfl)) (fun _ q => q) hfin (tyc_ok ci hci k hk) (hn ad) (hfit ad) hl hd go
  · exact va_putF (C := cR ci) (T := cT ci) (N := nF ci) (Ts := u_ws (cR ci) (cT ci) (nF ci)) hx hb ht (fun _ q => q) (fT ci) (tyc_ok ci hci) (nmc_ok ci hci) hown hK D.1 D.2.1 D.2.2.1 a hget (vwCl_at hci) k hk (hw _ hf rfl) (fun _ q => q) hfin (hnm.trans hi) ho2 (tyc_ok ci hci k hk) (hn ad) (hfit ad) hl hd go
theorem wfh_sI {h : AH} {a j : Nat} {x : Int32} : wfh h → wfh (sI h a j x) := fun w => w
theorem wfh_sL {h : AH} {a j : Nat} {x : Int64} : wfh h → wfh (sL h a j x) := fun w => w
theorem wfh_rI {h : AH} {a : Nat} {g : Nat → Int32} : wfh h → wfh (rI h a g) := fun w => w
theorem wfh_sR {h : AH} {a j b : Nat} (hb : b < hN h) : wfh h → wfh (sR h a j (some b)) := fun w => ⟨w.1, fun a' j' k' h1 h2 => by
  rw [hR_sR] at h2
  by_cases e : a' = a ∧ j' = j
  · rw [if_pos e] at h2
    cases h2
    exact hb
  · rw [if_neg e] at h2
    exact w.2 a' j' k' h1 h2⟩
theorem a_putI {a ci k idx : Nat} {x : Int32} (hd : decode (mB mt) pc = .ok (.putfield idx, 3)) (hf : FL mt idx ci k) (hk : k < nF ci) (ht : fT ci k = .int ∨ (fT ci k = .boolean ∧ (x = 0 ∨ x = 1))) (hs : shK a = some (.inl ci)) (ha : a < hN h) (hfin : (cT ci k).2.2.2 = false) (kk : AW X mt d kc ks (pc + 3) ls st (sI h a k x) Q) : AW X mt d kc ks pc ls (.int x :: .ref a :: st) h Q := by
  have hk0 : fK ci k = 0 := by rcases ht with e | ⟨e, -⟩ <;> simp [fK, kT, e]
  refine a_put hd hf hk hs ha (Or.inl hfin) (fun ad => ?_) (fun ad => ?_) hN_sI (fun b q => ⟨up2_row q, rfl, rfl⟩) (fun ad => ?_) wfh_sI kk
  · rcases ht with e | ⟨e, e2⟩
    · rw [e]; rfl
    · rw [e]; rcases e2 with rfl | rfl <;> rfl
  · rcases ht with e | ⟨e, e2⟩
    · rw [e]; rfl
    · rw [e]; rcases e2 with rfl | rfl <;> rfl
  · funext j
    by_cases e : j = k
    · subst e
      simp [fv, hk0, hI_sI, cv]
    · simp [fv, hI_sI, e, hL_sI, hR_sI]
theorem a_putL {a ci k idx : Nat} {x : Int64} (hd : decode (mB mt) pc = .ok (.putfield idx, 3)) (hf : FL mt idx ci k) (hk : k < nF ci) (ht : fT ci k = .long) (hs : shK a = some (.inl ci)) (ha : a < hN h) (hfin : (cT ci k).2.2.2 = false) (kk : AW X mt d kc ks (pc + 3) ls st (sL h a k x) Q) : AW X mt d kc ks pc ls (.long x :: .ref a :: st) h Q := by
  have hk0 : fK ci k = 1 := by simp [fK, kT, ht]
  refine a_put hd hf hk hs ha (Or.inl hfin) (fun ad => by rw [ht]; rfl) (fun ad => by rw [ht]; rfl) hN_sL (fun b q => ⟨rfl, up2_row q, rfl⟩) (fun ad => ?_) wfh_sL kk
  funext j
  by_cases e : j = k
  · subst e
    simp [fv, hk0, hL_sL, cv]
  · simp [fv, hL_sL, e, hI_sL, hR_sL]
theorem a_putRF {a ci k idx b : Nat} (hd : decode (mB mt) pc = .ok (.putfield idx, 3)) (hf : Cond.fieldLink (mN mt).cls idx (cT ci k).1 (cT ci k).2.1 (cT ci k).2.2.1 ∈ lw_tbl) (hk : k < nF ci) (ht : fK ci k = 2) (hs : shK a = some (.inl ci)) (ha : a < hN h) (hb : b < hN h) (hfin : (cT ci k).2.2.2 = true) (hi : (mN mt).name = "<init>") (ho : (cT ci k).1 = (mN mt).cls) (kk : AW X mt d kc ks (pc + 3) ls st (sR h a k (some b)) Q) : AW X mt d kc ks pc ls (.ref b :: .ref a :: st) h Q := by
  have hty : (∃ s, fT ci k = .object s) ∨ ∃ s, fT ci k = .array s := by
    cases e : fT ci k <;> simp [fK, kT, e] at ht ⊢
  refine a_put hd (Or.inl hf) hk hs ha (Or.inr ⟨hfin, hi, ho, hf⟩) (fun ad => ?_) (fun ad => ?_) hN_sR (fun b q => ⟨rfl, rfl, up2_row q⟩) (fun ad => ?_) (wfh_sR hb) kk
  · rcases hty with ⟨s, e⟩ | ⟨s, e⟩ <;> rw [e] <;> rfl
  · rcases hty with ⟨s, e⟩ | ⟨s, e⟩ <;> rw [e] <;> rfl
  · funext j
    by_cases e : j = k
    · subst e
      simp [fv, ht, hR_sR, cv, va_rf]
    · simp [fv, hR_sR, e, hI_sR, hL_sR]
-- arrays
theorem a_iald {a n j : Nat} {i : Int32} (hd : decode (mB mt) pc = .ok (.iaload, 1)) (hs : shK a = some (.inr (0, n))) (ha : a < hN h) (hi : i = nI j) (hj : j < n) (kk : AW X mt d kc ks (pc + 1) ls (.int (hI h a j) :: st) h Q) : AW X mt d kc ks pc ls (.int i :: .ref a :: st) h Q := by
  subst hi
  intro p l e R s m args below meth c A G cls Z H locs cells slots ad lsA C F D hc hs2 hA
  have g := kk p l e R s m args below meth c A G cls Z H locs cells slots ad lsA C F D hc hs2 hA
  obtain ⟨q1, q2⟩ := nI_i hj (shK_len hs).2
  exact va_iald C.1 C.2.1 C.2.2.2.2.2.2.2.2.2.2.1 D.1 a 0 (f := hI h a) (by rw [wld_get ha, ce_arr hs]; rfl) rfl q1 hd (by rw [q2]; exact g)
theorem a_bald {a n j : Nat} {i : Int32} (hd : decode (mB mt) pc = .ok (.baload, 1)) (hs : shK a = some (.inr (1, n))) (ha : a < hN h) (hi : i = nI j) (hj : j < n) (kk : AW X mt d kc ks (pc + 1) ls (.int (hI h a j) :: st) h Q) : AW X mt d kc ks pc ls (.int i :: .ref a :: st) h Q := by
  subst hi
  intro p l e R s m args below meth c A G cls Z H locs cells slots ad lsA C F D hc hs2 hA
  have g := kk p l e R s m args below meth c A G cls Z H locs cells slots ad lsA C F D hc hs2 hA
  obtain ⟨q1, q2⟩ := nI_i hj (shK_len hs).2
  exact va_bald C.1 C.2.1 C.2.2.2.2.2.2.2.2.2.2.1 D.1 a 1 (f := hI h a) (by rw [wld_get ha, ce_arr hs]; rfl) rfl q1 hd (by rw [q2]; exact g)
theorem a_zald {a n j : Nat} {i : Int32} (hd : decode (mB mt) pc = .ok (.baload, 1)) (hs : shK a = some (.inr (2, n))) (ha : a < hN h) (hi : i = nI j) (hj : j < n) (kk : AW X mt d kc ks (pc + 1) ls (.int (hI h a j) :: st) h Q) : AW X mt d kc ks pc ls (.int i :: .ref a :: st) h Q := by
  subst hi
  intro p l e R s m args below meth c A G cls Z H locs cells slots ad lsA C F D hc hs2 hA
  have g := kk p l e R s m args below meth c A G cls Z H locs cells slots ad lsA C F D hc hs2 hA
  obtain ⟨q1, q2⟩ := nI_i hj (shK_len hs).2
  exact va_zald C.1 C.2.1 C.2.2.2.2.2.2.2.2.2.2.1 D.1 a 2 (f := hI h a) (by rw [wld_get ha, ce_arr hs]; rfl) rfl q1 hd (by rw [q2]; exact g)
theorem a_lald {a n j : Nat} {i : Int32} (hd : decode (mB mt) pc = .ok (.laload, 1)) (hs : shK a = some (.inr (3, n))) (ha : a < hN h) (hi : i = nI j) (hj : j < n) (kk : AW X mt d kc ks (pc + 1) ls (.long (hL h a j) :: st) h Q) : AW X mt d kc ks pc ls (.int i :: .ref a :: st) h Q := by
  subst hi
  intro p l e R s m args below meth c A G cls Z H locs cells slots ad lsA C F D hc hs2 hA
  have g := kk p l e R s m args below meth c A G cls Z H locs cells slots ad lsA C F D hc hs2 hA
  obtain ⟨q1, q2⟩ := nI_i hj (shK_len hs).2
  exact va_lald C.1 C.2.1 C.2.2.2.2.2.2.2.2.2.2.1 D.1 a 3 (f := hL h a) (by rw [wld_get ha, ce_arr hs]; rfl) rfl q1 hd (by rw [q2]; exact g)
theorem a_aald {a n j b : Nat} {i : Int32} (hd : decode (mB mt) pc = .ok (.aaload, 1)) (hs : shK a = some (.inr (4, n))) (ha : a < hN h) (hi : i = nI j) (hj : j < n) (hr : hR h a j = some b) (kk : AW X mt d kc ks (pc + 1) ls (.ref b :: st) h Q) : AW X mt d kc ks pc ls (.int i :: .ref a :: st) h Q := by
  subst hi
  intro p l e R s m args below meth c A G cls Z H locs cells slots ad lsA C F D hc hs2 hA
  have g := kk p l e R s m args below meth c A G cls Z H locs cells slots ad lsA C F D hc hs2 hA
  obtain ⟨q1, q2⟩ := nI_i hj (shK_len hs).2
  exact va_aldq C.1 C.2.1 C.2.2.2.2.2.2.2.2.2.2.1 D.1 a 4 (f := fun j => (hR h a j).map ad) (by rw [wld_get ha, ce_arr hs]; rfl) rfl q1 hd (by rw [q2, hr]; exact g)
theorem a_rald {a n j b : Nat} {i : Int32} (hd : decode (mB mt) pc = .ok (.aaload, 1)) (hs : shK a = some (.inr (5, n))) (ha : a < hN h) (hi : i = nI j) (hj : j < n) (hr : hR h a j = some b) (kk : AW X mt d kc ks (pc + 1) ls (.ref b :: st) h Q) : AW X mt d kc ks pc ls (.int i :: .ref a :: st) h Q := by
  subst hi
  intro p l e R s m args below meth c A G cls Z H locs cells slots ad lsA C F D hc hs2 hA
  have g := kk p l e R s m args below meth c A G cls Z H locs cells slots ad lsA C F D hc hs2 hA
  obtain ⟨q1, q2⟩ := nI_i hj (shK_len hs).2
  have hget : (wld cls ad h)[a]? = some (ad a, .inl (cls 5, n, .inr (.inr (.inr (.inr (fun j => (hR h a j).map ad)))))) := by rw [wld_get ha, ce_arr hs]; rfl
  have hcell : H[ad a]? = some (vp_cell (cls 5) (n, .inr (.inr (.inr (.inr (fun j => (hR h a j).map ad)))))) := D.1 a _ hget
  have hK := C.2.2.2.2.2.2.2.2.2.2.1
  have hAr : ArrOfT s (cls 5) (.array .int) := (hK.2 5 (cls 5, .array .int) rfl).1
  rw [vp_cell_q] at hcell
  have q2' : (nI j).toNatClampNeg = j := q2
  exact W.aald (ty := .array .int) (v := .ref (ad b)) C.1 C.2.1 hcell (hAr n (fun j => va_rf ((hR h a j).map ad))) rfl (fun q => by cases q) (by rw [arrV_size]; exact q1) (by rw [q2']; simp [arrV, hj, hr, va_rf]) rfl rfl hd g
theorem a_alen {a t n : Nat} (hd : decode (mB mt) pc = .ok (.arraylength, 1)) (hs : shK a = some (.inr (t, n))) (ha : a < hN h) (kk : AW X mt d kc ks (pc + 1) ls (.int (nI n) :: st) h Q) : AW X mt d kc ks pc ls (.ref a :: st) h Q := by
  intro p l e R s m args below meth c A G cls Z H locs cells slots ad lsA C F D hc hs2 hA
  have g := kk p l e R s m args below meth c A G cls Z H locs cells slots ad lsA C F D hc hs2 hA
  have hK := C.2.2.2.2.2.2.2.2.2.2.1
  have ht : ∃ ty, (tysOf cls)[t]? = some (cls t, ty) := by
    have := (shK_len hs).1
    match t, this with
    | 0, _ => exact ⟨_, rfl⟩
    | 1, _ => exact ⟨_, rfl⟩
    | 2, _ => exact ⟨_, rfl⟩
    | 3, _ => exact ⟨_, rfl⟩
    | 4, _ => exact ⟨_, rfl⟩
    | 5, _ => exact ⟨_, rfl⟩
  obtain ⟨ty, ht⟩ := ht
  exact va_alen C.1 C.2.1 hK D.1 a t (x := aC ad h a t n) (by rw [wld_get ha, ce_arr hs]) ht rfl hd g
theorem a_iast {a n j : Nat} {i x : Int32} (hd : decode (mB mt) pc = .ok (.iastore, 1)) (hs : shK a = some (.inr (0, n))) (ha : a < hN h) (hi : i = nI j) (hj : j < n) (kk : AW X mt d kc ks (pc + 1) ls st (sI h a j x) Q) : AW X mt d kc ks pc ls (.int x :: .int i :: .ref a :: st) h Q := by
  subst hi
  intro p l e R s m args below meth c A G cls Z H locs cells slots ad lsA C F D hc hs2 hA
  obtain ⟨q1, q2⟩ := nI_i hj (shK_len hs).2
  have hset : (wld cls ad h).set a (ad a, .inl (cls 0, n, .inl (upd (hI h a) j x))) = wld cls ad (sI h a j x) := by
    refine wld_set hN_sI (fun b q => ce_congr (up2_row q) rfl (fun _ => rfl)) ?_ ha
    rw [ce_arr hs]
    have e : hI (sI h a j x) a = upd (hI h a) j x := funext fun k => by rw [hI_sI]; simp [upd]
    simp [aC, e]
  refine va_iast C.1 C.2.1 C.2.2.2.2.2.2.2.2.2.2.1 D.1 D.2.1 D.2.2.1 a 0 (f := hI h a) (by rw [wld_get ha, ce_arr hs]; rfl) rfl q1 hd (fun H1 locs1 z1 z2 z3 => ?_)
  rw [q2, hset] at z1 z2
  exact kk p l e R s m args below meth c A G cls Z H1 locs1 cells slots ad lsA C F ⟨z1, z2, z3, wfh_sI D.2.2.2.1, D.2.2.2.2⟩ hc hs2 hA
theorem a_bast {a n j : Nat} {i x : Int32} (hd : decode (mB mt) pc = .ok (.bastore, 1)) (hs : shK a = some (.inr (1, n))) (ha : a < hN h) (hi : i = nI j) (hj : j < n) (kk : AW X mt d kc ks (pc + 1) ls st (sI h a j x.toInt8.toInt32) Q) : AW X mt d kc ks pc ls (.int x :: .int i :: .ref a :: st) h Q := by
  subst hi
  intro p l e R s m args below meth c A G cls Z H locs cells slots ad lsA C F D hc hs2 hA
  obtain ⟨q1, q2⟩ := nI_i hj (shK_len hs).2
  have hset : (wld cls ad h).set a (ad a, .inl (cls 1, n, .inl (upd (hI h a) j x.toInt8.toInt32))) = wld cls ad (sI h a j x.toInt8.toInt32) := by
    refine wld_set hN_sI (fun b q => ce_congr (up2_row q) rfl (fun _ => rfl)) ?_ ha
    rw [ce_arr hs]
    have e : hI (sI h a j x.toInt8.toInt32) a = upd (hI h a) j x.toInt8.toInt32 := funext fun k => by rw [hI_sI]; simp [upd]
    simp [aC, e]
  refine va_bast C.1 C.2.1 C.2.2.2.2.2.2.2.2.2.2.1 D.1 D.2.1 D.2.2.1 a 1 (f := hI h a) (by rw [wld_get ha, ce_arr hs]; rfl) rfl q1 hd (fun H1 locs1 z1 z2 z3 => ?_)
  rw [q2, show vp_nar .byte x = x.toInt8.toInt32 from rfl, hset] at z1 z2
  exact kk p l e R s m args below meth c A G cls Z H1 locs1 cells slots ad lsA C F ⟨z1, z2, z3, wfh_sI D.2.2.2.1, D.2.2.2.2⟩ hc hs2 hA
theorem a_zast {a n j : Nat} {i x : Int32} (hd : decode (mB mt) pc = .ok (.bastore, 1)) (hs : shK a = some (.inr (2, n))) (ha : a < hN h) (hi : i = nI j) (hj : j < n) (kk : AW X mt d kc ks (pc + 1) ls st (sI h a j (x &&& 1)) Q) : AW X mt d kc ks pc ls (.int x :: .int i :: .ref a :: st) h Q := by
  subst hi
  intro p l e R s m args below meth c A G cls Z H locs cells slots ad lsA C F D hc hs2 hA
  obtain ⟨q1, q2⟩ := nI_i hj (shK_len hs).2
  have hset : (wld cls ad h).set a (ad a, .inl (cls 2, n, .inl (upd (hI h a) j (x &&& 1)))) = wld cls ad (sI h a j (x &&& 1)) := by
    refine wld_set hN_sI (fun b q => ce_congr (up2_row q) rfl (fun _ => rfl)) ?_ ha
    rw [ce_arr hs]
    have e : hI (sI h a j (x &&& 1)) a = upd (hI h a) j (x &&& 1) := funext fun k => by rw [hI_sI]; simp [upd]
    simp [aC, e]
  refine va_zast C.1 C.2.1 C.2.2.2.2.2.2.2.2.2.2.1 D.1 D.2.1 D.2.2.1 a 2 (f := hI h a) (by rw [wld_get ha, ce_arr hs]; rfl) rfl q1 hd (fun H1 locs1 z1 z2 z3 => ?_)
  rw [q2, show vp_nar .boolean x = x &&& 1 from rfl, hset] at z1 z2
  exact kk p l e R s m args below meth c A G cls Z H1 locs1 cells slots ad lsA C F ⟨z1, z2, z3, wfh_sI D.2.2.2.1, D.2.2.2.2⟩ hc hs2 hA
theorem a_last {a n j : Nat} {i : Int32} {x : Int64} (hd : decode (mB mt) pc = .ok (.lastore, 1)) (hs : shK a = some (.inr (3, n))) (ha : a < hN h) (hi : i = nI j) (hj : j < n) (kk : AW X mt d kc ks (pc + 1) ls st (sL h a j x) Q) : AW X mt d kc ks pc ls (.long x :: .int i :: .ref a :: st) h Q := by
  subst hi
  intro p l e R s m args below meth c A G cls Z H locs cells slots ad lsA C F D hc hs2 hA
  obtain ⟨q1, q2⟩ := nI_i hj (shK_len hs).2
  have hset : (wld cls ad h).set a (ad a, .inl (cls 3, n, .inr (.inl (vp_updL (hL h a) j x)))) = wld cls ad (sL h a j x) := by
    refine wld_set hN_sL (fun b q => ce_congr rfl (up2_row q) (fun _ => rfl)) ?_ ha
    rw [ce_arr hs]
    have e : hL (sL h a j x) a = vp_updL (hL h a) j x := funext fun k => by rw [hL_sL]; simp [vp_updL]
    simp [aC, e]
  refine va_last C.1 C.2.1 C.2.2.2.2.2.2.2.2.2.2.1 D.1 D.2.1 D.2.2.1 a 3 (f := hL h a) (by rw [wld_get ha, ce_arr hs]; rfl) rfl q1 hd (fun H1 locs1 z1 z2 z3 => ?_)
  rw [q2, hset] at z1 z2
  exact kk p l e R s m args below meth c A G cls Z H1 locs1 cells slots ad lsA C F ⟨z1, z2, z3, wfh_sL D.2.2.2.1, D.2.2.2.2⟩ hc hs2 hA
theorem a_aast {a n j b : Nat} {i : Int32} (hd : decode (mB mt) pc = .ok (.aastore, 1)) (hs : shK a = some (.inr (4, n))) (ha : a < hN h) (hi : i = nI j) (hj : j < n) (hsb : shK b = some (.inl 3)) (hb : b < hN h) (kk : AW X mt d kc ks (pc + 1) ls st (sR h a j (some b)) Q) : AW X mt d kc ks pc ls (.ref b :: .int i :: .ref a :: st) h Q := by
  subst hi
  intro p l e R s m args below meth c A G cls Z H locs cells slots ad lsA C F D hc hs2 hA
  obtain ⟨q1, q2⟩ := nI_i hj (shK_len hs).2
  have hset : (wld cls ad h).set a (ad a, .inl (cls 4, n, .inr (.inr (.inr (.inr (va_up (fun j => (hR h a j).map ad) j (some (ad b)))))))) = wld cls ad (sR h a j (some b)) := by
    refine wld_set hN_sR (fun b q => ce_congr rfl rfl (fun _ => by rw [show hR (sR h a j _) _ = _ from up2_row q])) ?_ ha
    rw [ce_arr hs]
    have e : (fun k => (hR (sR h a j (some b)) a k).map ad) = va_up (fun j => (hR h a j).map ad) j (some (ad b)) := funext fun k => by
      rw [hR_sR]
      by_cases e : k = j <;> simp [va_up, e]
    simp [aC, e]
  refine va_astq C.1 C.2.1 C.2.2.2.2.2.2.2.2.2.2.1 D.1 D.2.1 D.2.2.1 a 4 b 3 (r := (RX3, TX3, 10)) (f := fun j => (hR h a j).map ad) (by rw [wld_get ha, ce_arr hs]; rfl) rfl (by rw [wld_get hb, ce_obj hsb]) rfl q1 hd (fun H1 locs1 z1 z2 z3 => ?_)
  rw [q2, hset] at z1 z2
  exact kk p l e R s m args below meth c A G cls Z H1 locs1 cells slots ad lsA C F ⟨z1, z2, z3, wfh_sR hb D.2.2.2.1, D.2.2.2.2⟩ hc hs2 hA
end RW7
end
section
/-! rows of AW: cells that are made; the ends of a method -/
def okv (n : Nat) : Value → Bool
  | .ref a => decide (a < n) || decide (90 ≤ a)
  | _ => true
theorem cv_okv {n : Nat} {ad ad' : Nat → Nat} (he : ∀ a, (a < n ∨ 90 ≤ a) → ad' a = ad a) {v : Value} (hv : okv n v = true) : cv ad' v = cv ad v := by
  cases v <;> first | rfl | skip
  rename_i a
  simp only [okv, Bool.or_eq_true, decide_eq_true_eq] at hv
  simp only [cv, he a hv]
theorem map_okv {n : Nat} {ad ad' : Nat → Nat} (he : ∀ a, (a < n ∨ 90 ≤ a) → ad' a = ad a) {st : List Value} (hv : st.all (okv n) = true) : st.map (cv ad') = st.map (cv ad) :=
  List.map_congr_left fun v q => cv_okv he (List.all_eq_true.mp hv v q)
theorem map_okl {n : Nat} {ad ad' : Nat → Nat} (he : ∀ a, (a < n ∨ 90 ≤ a) → ad' a = ad a) {ls : List (Nat × Value)} (hv : ls.all (fun q => okv n q.2) = true) : ls.map (cl1 ad') = ls.map (cl1 ad) :=
  List.map_congr_left fun v q => by simp only [cl1, cv_okv he (List.all_eq_true.mp hv v q)]
theorem adOK_up {X : XT} {ad ad' : Nat → Nat} {n : Nat} (he : ∀ a, (a < n ∨ 90 ≤ a) → ad' a = ad a) (h : adOK X ad) : adOK X ad' :=
  ⟨(he _ (Or.inr (by omega))).trans h.1, fun i hi => (he _ (Or.inr (by omega))).trans (h.2.1 i hi), fun i hi => (he _ (Or.inr (by omega))).trans (h.2.2.1 i hi), (he _ (Or.inr (by omega))).trans h.2.2.2⟩
theorem wld_ext {cls : Nat → ClassId} {ad ad' : Nat → Nat} {h h' : AH} {new : va_W} (hn : hN h' = hN h + new.length) (ho : ∀ a, a < hN h → ad' a = ad a ∧ ce cls ad' h' a = ce cls ad h a) (hnew : ∀ i, i < new.length → new[i]? = some (ad' (hN h + i), ce cls ad' h' (hN h + i))) : wld cls ad' h' = wld cls ad h ++ new := by
  apply List.ext_getElem?
  intro i
  by_cases hi : i < hN h
  · rw [wld_get (by omega), List.getElem?_append_left (by rw [wld_len]; exact hi), wld_get hi, (ho i hi).1, (ho i hi).2]
  · rw [List.getElem?_append_right (by rw [wld_len]; omega), wld_len]
    by_cases hj : i < hN h'
    · rw [wld_get hj, hnew (i - hN h) (by omega), show hN h + (i - hN h) = i by omega]
    · rw [List.getElem?_eq_none (by rw [wld_len]; omega), List.getElem?_eq_none (by omega)]
theorem up_ne {α : Type} {f : Nat → α} {k j : Nat} {v : α} (h : j ≠ k) : va_up f k v j = f j := if_neg h
theorem up_eq {α : Type} {f : Nat → α} {k : Nat} {v : α} : va_up f k v k = v := if_pos rfl
theorem hN_nw {h : AH} : hN (nw h) = hN h + 1 := rfl
theorem nw_old {cls : Nat → ClassId} {ad : Nat → Nat} {h : AH} {q : Nat} (hw : wfh h) : ∀ a, a < hN h → va_up ad (hN h) q a = ad a ∧ ce cls (va_up ad (hN h) q) (nw h) a = ce cls ad h a := by
  intro a ha
  have hne : a ≠ hN h := by omega
  refine ⟨up_ne hne, ce_congr (upr_row hne) (upr_row hne) (fun j => ?_)⟩
  rw [show hR (nw h) a = hR h a from upr_row hne]
  cases e : hR h a j with
  | none => rfl
  | some k => simp only [Option.map_some]; rw [up_ne (by have := hw.2 a j k ha e; omega)]
theorem wfh_nw {h : AH} (hn : hN h < 90) (hw : wfh h) : wfh (nw h) := by
  refine ⟨by rw [hN_nw]; omega, fun a j k ha e => ?_⟩
  rw [hN_nw] at ha ⊢
  by_cases q : a = hN h
  · rw [show hR (nw h) a = (fun _ => none) from by subst q; exact if_pos rfl] at e
    cases e
  · rw [show hR (nw h) a = hR h a from upr_row q] at e
    have := hw.2 a j k (by omega) e
    omega
theorem nw_row {h : AH} : hI (nw h) (hN h) = (fun _ => 0) ∧ hL (nw h) (hN h) = (fun _ => 0) ∧ hR (nw h) (hN h) = (fun _ => none) := ⟨if_pos rfl, if_pos rfl, if_pos rfl⟩
theorem dflt_ok : ∀ ci, ci < 6 → ∀ k, k < nF ci → defaultValue (fT ci k) = if fK ci k = 0 then .int 0 else if fK ci k = 1 then .long 0 else .null := cls_cases (by decide +kernel) (by decide +kernel) (by decide +kernel) (by decide +kernel) (by decide +kernel) (by decide +kernel)
section RW8
variable {X : XT} {mt : MT} {d kc ks pc : Nat} {ls ls' : List (Nat × Value)} {st : List Value} {h : AH} {Q : Res → AH → Prop}
/-- FIN, seen behind a making -/
theorem FIN.up {p : Program} {l : Launch} {e : Env} {R : Room} {s : State} {m : MethodId} {args : Array Value} {below : List Frame} {meth : Method} {c : Code} {A : Nat → Prop} {G : va_G} {cls : Nat → ClassId} {Z : State → Prop} {n n1 : Nat} {ad ad1 : Nat → Nat} (F : FIN X mt p l e R s m args below meth c A G cls Z n ad Q) (hn : n ≤ n1) (he : ∀ a, (a < n ∨ n1 ≤ a) → ad1 a = ad a) : FIN X mt p l e R s m args below meth c A G cls Z n1 ad1 Q :=
  ⟨fun v h' q ad' H' locs' cells' slots' lsA pc ins q1 q2 q3 q4 q5 q6 q7 => F.1 v h' q ad' H' locs' cells' slots' lsA pc ins (fun a ha => (q1 a (by rcases ha with z | z <;> omega)).trans (he a (by rcases ha with z | z <;> omega))) (by omega) q3 q4 q5 q6 q7,
   fun E h' q ad' H' locs' cells' slots' lsA pc st q1 q2 q3 q4 q5 => F.2 E h' q ad' H' locs' cells' slots' lsA pc st (fun a ha => (q1 a (by rcases ha with z | z <;> omega)).trans (he a (by rcases ha with z | z <;> omega))) (by omega) q3 q4 q5⟩
theorem a_new {ci idx : Nat} (hd : decode (mB mt) pc = .ok (.new idx, 3)) (hs : shK (hN h) = some (.inl ci)) (hl1 : Cond.classLink (mN mt).cls idx (cR ci) ∈ lw_tbl) (hl2 : Cond.instantiable (cR ci) (nF ci) ∈ lw_tbl) (hl3 : Cond.initialized (cR ci) ∈ lw_tbl) (hok1 : ls.all (fun q => okv (hN h) q.2) = true) (hok2 : st.all (okv (hN h)) = true)
    (kk : AW X mt d kc ks (pc + 3) ls (.ref (hN h) :: st) (nw h) Q) : AW X mt d (kc + 1) (ks + nF ci) pc ls st h Q := by
  intro p l e R s m args below meth c A G cls Z H locs cells slots ad lsA C F D hc hs2 hA
  have hci := shK_ci hs
  obtain ⟨hx, hb, hml, hown, hw, -, -, -, -, hAs, hK, hE, -, -⟩ := id C
  refine va_new (ci := ci) (C := cR ci) (T := cT ci) (N := nF ci) (Ts := u_ws (cR ci) (cT ci) (nF ci)) (fs := (List.range (nF ci)).map (fv ad (nw h) (hN h) ci)) hx hb (fun w q => hw w (uws_ok ci hci w q).1 (uws_ok ci hci w q).2) (fun _ q => q) (fT ci) (tyc_ok ci hci) hown (hw _ hl1 rfl) (hw _ hl2 rfl) (hw _ hl3 rfl) hK D.1 D.2.1 D.2.2.1 hAs (vwCl_at hci) (fun j hj => ?_) (by omega) (by omega) hd (fun q H1 z1 z2 z3 => ?_)
  · rw [dflt_ok ci hci j hj]
    simp only [vp_V, List.getD_eq_getElem?_getD, fs_get hj, Option.getD_some, fv, nw_row]
    rfl
  · have hn90 := shK_lt hs
    have hext : ∀ a, (a < hN h ∨ hN h + 1 ≤ a) → va_up ad (hN h) q a = ad a := fun a ha => up_ne (by omega)
    have hext9 : ∀ a, (a < hN h ∨ 90 ≤ a) → va_up ad (hN h) q a = ad a := fun a ha => up_ne (by omega)
    have hwld : wld cls (va_up ad (hN h) q) (nw h) = wld cls ad h ++ [(q, .inr (ci, (List.range (nF ci)).map (fv ad (nw h) (hN h) ci)))] := by
      refine wld_ext rfl (nw_old D.2.2.2.1) (fun i hi => ?_)
      have h0 : i = 0 := by simp at hi; omega
      subst h0
      rw [Nat.add_zero, up_eq, ce_obj hs]
      have e : fv (va_up ad (hN h) q) (nw h) (hN h) ci = fv ad (nw h) (hN h) ci := funext fun k => by simp only [fv, nw_row]; rfl
      rw [e]; rfl
    have g := kk p l e R s m args below meth c A G cls Z H1 locs (cells + 1) (slots + nF ci) (va_up ad (hN h) q) lsA C (F.up (Nat.le_succ _) hext) ⟨by rw [hwld]; exact z1, by rw [hwld]; exact z2, z3, wfh_nw hn90 D.2.2.2.1, adOK_up hext9 D.2.2.2.2⟩ (by omega) (by omega) (by rw [map_okl hext9 hok1]; exact hA)
    rw [List.map_cons, map_okv hext9 hok2] at g
    have e : cv (va_up ad (hN h) q) (.ref (hN h)) = .ref q := by simp only [cv, up_eq]
    rw [e] at g
    exact g
theorem cls_same {s : State} {G : va_G} {cls : Nat → ClassId} {tys : List (ClassId × FieldType)} {t : Nat} {ty : FieldType} {cA : ClassId} (hK : va_K G vwCl (tysOf cls) s) (hK2 : va_K G vwCl (tysOf cls ++ [(cA, ty)]) s) (ht : (tysOf cls)[t]? = some (cls t, ty)) : cA = cls t := by
  have h1 := (hK.2 t _ ht).2
  have h2 := (hK2.2 6 (cA, ty) rfl).2
  cases ty <;> first | exact Option.some.inj (h2.symm.trans h1) | skip
  obtain ⟨_, _, _, _, _, e1⟩ := h1
  obtain ⟨_, _, _, _, _, e2⟩ := h2
  exact Option.some.inj (e2.symm.trans e1)
theorem tys_at {cls : Nat → ClassId} : ∀ t, t < 6 → (tysOf cls)[t]? = some (cls t, tyF t) := cls_cases rfl rfl rfl rfl rfl rfl
theorem a_newarr {t n : Nat} {at' : ArrayType} {i : Int32} (hd : decode (mB mt) pc = .ok (.newarray at', 2)) (hs : shK (hN h) = some (.inr (t, n))) (hat : newarray.typeOf at' = tyF t) (ht : t < 4) (hl1 : Cond.arrayClass (tyF t) ∈ lw_tbl) (hi : i = nI n) (hok1 : ls.all (fun q => okv (hN h) q.2) = true) (hok2 : st.all (okv (hN h)) = true)
    (kk : AW X mt d kc ks (pc + 2) ls (.ref (hN h) :: st) (nw h) Q) : AW X mt d (kc + 1) (ks + n) pc ls (.int i :: st) h Q := by
  subst hi
  intro p l e R s m args below meth c A G cls Z H locs cells slots ad lsA C F D hc hs2 hA
  have hn := (shK_len hs).2
  obtain ⟨hx, hb, hml, hown, hw, -, -, -, -, hAs, hK, hE, -, -⟩ := id C
  have hcell : ∀ cA : ClassId, vp_cell cA (aC ad (nw h) (hN h) t n) = arrV cA n (fun _ => defaultValue (tyF t)) := by
    intro cA
    match t, ht with
    | 0, _ => simp only [aC, nw_row]; rfl
    | 1, _ => simp only [aC, nw_row]; rfl
    | 2, _ => simp only [aC, nw_row]; rfl
    | 3, _ => simp only [aC, nw_row]; rfl
  have hcb : componentBytes (tyF t) ≤ 8 := by
    match t, ht with
    | 0, _ => decide
    | 1, _ => decide
    | 2, _ => decide
    | 3, _ => decide
  refine va_newa (N' := n) (a0 := aC ad (nw h) (hN h) t n) hx hb (by rw [hat]; exact hw _ hl1 rfl) hat hK D.1 D.2.1 D.2.2.1 hAs hcell (nI_pos (by omega)) (nI_clamp (by omega)) (Nat.le_trans (Nat.mul_le_mul hn hcb) (by decide)) (by omega) (by omega) hd (fun q cA H1 zK z1 z2 z3 => ?_)
  have hn90 := shK_lt hs
  have hcA : cA = cls t := cls_same (tys := tysOf cls) hK zK (tys_at t (by omega))
  subst hcA
  have hext : ∀ a, (a < hN h ∨ hN h + 1 ≤ a) → va_up ad (hN h) q a = ad a := fun a ha => up_ne (by omega)
  have hext9 : ∀ a, (a < hN h ∨ 90 ≤ a) → va_up ad (hN h) q a = ad a := fun a ha => up_ne (by omega)
  have hwld : wld cls (va_up ad (hN h) q) (nw h) = wld cls ad h ++ [(q, .inl (cls t, aC ad (nw h) (hN h) t n))] := by
    refine wld_ext rfl (nw_old D.2.2.2.1) (fun i hi => ?_)
    have h0 : i = 0 := by simp at hi; omega
    subst h0
    rw [Nat.add_zero, up_eq, ce_arr hs]
    have e : aC (va_up ad (hN h) q) (nw h) (hN h) t n = aC ad (nw h) (hN h) t n := by simp only [aC, nw_row]; rfl
    rw [e]; rfl
  have g := kk p l e R s m args below meth c A G cls Z H1 locs (cells + 1) (slots + n) (va_up ad (hN h) q) lsA C (F.up (Nat.le_succ _) hext) ⟨by rw [hwld]; exact z1, by rw [hwld]; exact z2, z3, wfh_nw hn90 D.2.2.2.1, adOK_up hext9 D.2.2.2.2⟩ (by omega) (by omega) (by rw [map_okl hext9 hok1]; exact hA)
  rw [List.map_cons, map_okv hext9 hok2] at g
  have e : cv (va_up ad (hN h) q) (.ref (hN h)) = .ref q := by simp only [cv, up_eq]
  rw [e] at g
  exact g
theorem a_newref {n idx : Nat} {i : Int32} (hd : decode (mB mt) pc = .ok (.anewarray idx, 3)) (hs : shK (hN h) = some (.inr (4, n))) (hl1 : Cond.classLink (mN mt).cls idx "LetterCuts$Sheet" ∈ lw_tbl) (hi : i = nI n) (hok1 : ls.all (fun q => okv (hN h) q.2) = true) (hok2 : st.all (okv (hN h)) = true)
    (kk : AW X mt d kc ks (pc + 3) ls (.ref (hN h) :: st) (nw h) Q) : AW X mt d (kc + 1) (ks + n) pc ls (.int i :: st) h Q := by
  subst hi
  intro p l e R s m args below meth c A G cls Z H locs cells slots ad lsA C F D hc hs2 hA
  have hn := (shK_len hs).2
  obtain ⟨hx, hb, hml, hown, hw, -, -, -, -, hAs, hK, hE, -, -⟩ := id C
  refine va_newq (N' := n) hx hb hown (hw _ hl1 rfl) hE.2.2.1 hK D.1 D.2.1 D.2.2.1 hAs (nI_pos (by omega)) (nI_clamp (by omega)) (Nat.le_trans (Nat.mul_le_mul_right 4 hn) (by decide)) (by omega) (by omega) hd (fun q cA H1 zK z1 z2 z3 => ?_)
  have hn90 := shK_lt hs
  have hcA : cA = cls 4 := cls_same (t := 4) (tys := tysOf cls) hK zK (tys_at 4 (by omega))
  subst hcA
  have hext : ∀ a, (a < hN h ∨ hN h + 1 ≤ a) → va_up ad (hN h) q a = ad a := fun a ha => up_ne (by omega)
  have hext9 : ∀ a, (a < hN h ∨ 90 ≤ a) → va_up ad (hN h) q a = ad a := fun a ha => up_ne (by omega)
  have hwld : wld cls (va_up ad (hN h) q) (nw h) = wld cls ad h ++ [(q, .inl (cls 4, n, .inr (.inr (.inr (.inr (fun _ => none))))))] := by
    refine wld_ext rfl (nw_old D.2.2.2.1) (fun i hi => ?_)
    have h0 : i = 0 := by simp at hi; omega
    subst h0
    rw [Nat.add_zero, up_eq, ce_arr hs]
    simp only [aC, nw_row]
    rfl
  have g := kk p l e R s m args below meth c A G cls Z H1 locs (cells + 1) (slots + n) (va_up ad (hN h) q) lsA C (F.up (Nat.le_succ _) hext) ⟨by rw [hwld]; exact z1, by rw [hwld]; exact z2, z3, wfh_nw hn90 D.2.2.2.1, adOK_up hext9 D.2.2.2.2⟩ (by omega) (by omega) (by rw [map_okl hext9 hok1]; exact hA)
  rw [List.map_cons, map_okv hext9 hok2] at g
  have e : cv (va_up ad (hN h) q) (.ref (hN h)) = .ref q := by simp only [cv, up_eq]
  rw [e] at g
  exact g
end RW8
end
section
/-! contracts, calls, ends -/
theorem gw_mem {w : Cond} (h1 : w ∈ lw_tbl) (h2 : goodWord w = true) : w ∈ lw_tbl.filter goodWord := List.mem_filter.mpr ⟨h1, h2⟩
def wsM (mt : MT) : List Cond := Cond.code (mN mt) (mB mt) (mL mt) (mR mt) :: lw_tbl.filter goodWord
def rmM (d mc ms : Nat) : Room := { frames := d, cells := mc, slots := ms, locals := 40 * d }
def PB (X : XT) (G : va_G) (cls : Nat → ClassId) (ad : Nat → Nat) (h : AH) (sz : Nat) : State → Prop := fun U =>
  U.heap.size = sz ∧ va_P G vwCl (wld cls ad h) U.heap ∧ va_K G vwCl (tysOf cls) U ∧ va_D (fun _ => True) (wld cls ad h) ∧ EV X (va_A (wld cls ad h) sz) U U.heap
def EXT (X : XT) (G : va_G) (cls : Nat → ClassId) (ad ad' : Nat → Nat) (h h' : AH) (sz : Nat) (t : State) : Prop :=
  (∀ a, (a < hN h ∨ hN h' ≤ a) → ad' a = ad a) ∧ hN h ≤ hN h' ∧ wfh h' ∧ adOK X ad' ∧ va_P G vwCl (wld cls ad' h') t.heap ∧ va_D (va_A (wld cls ad h) sz) (wld cls ad' h')
def QR (X : XT) (G : va_G) (cls : Nat → ClassId) (ad : Nat → Nat) (h : AH) (sz : Nat) (Q : Res → AH → Prop) : Array Value → State → Outcome → State → Prop := fun _ st oc t =>
  (∃ (v : Option Value) (h' : AH) (ad' : Nat → Nat), oc = .returned (v.map (cv ad')) ∧ Q (.inl v) h' ∧ EXT X G cls ad ad' h h' sz t) ∧ va_F (va_A (wld cls ad h) sz) st t
def QX (X : XT) (G : va_G) (cls : Nat → ClassId) (ad : Nat → Nat) (h : AH) (sz : Nat) (Q : Res → AH → Prop) : String → State → State → Prop := fun E st t =>
  (∃ (h' : AH) (ad' : Nat → Nat), Q (.inr E) h' ∧ EXT X G cls ad ad' h h' sz t) ∧ va_F (va_A (wld cls ad h) sz) st t
/-- a method's contract: from the heap h with these arguments it ends as Q says -/
def AC (mt : MT) (d mc ms : Nat) (as : List Value) (h : AH) (Q : Res → AH → Prop) : Prop :=
  ∀ (X : XT) (l : Launch), l.stackTraces = false → ∀ (G : va_G) (cls : Nat → ClassId) (ad : Nat → Nat) (sz : Nat), wfh h → adOK X ad →
    vx_Met l (mN mt) (wsM mt) (rmM d mc ms) (va_Pc (as.map (cv ad)) (PB X G cls ad h sz)) (QR X G cls ad h sz Q) (QX X G cls ad h sz Q) mc ms (va_A (wld cls ad h) sz)
theorem AC.post {mt : MT} {d mc ms : Nat} {as : List Value} {h : AH} {Q Q' : Res → AH → Prop} (k : AC mt d mc ms as h Q') (hq : ∀ r h2, Q' r h2 → Q r h2) : AC mt d mc ms as h Q := by
  intro X l hl G cls ad sz hw ha p e h1 h2 h3 s m args below h4 h5 h6 h7
  obtain ⟨n, o, a1, a2, a3, a4⟩ := k X l hl G cls ad sz hw ha p e h1 h2 h3 s m args below h4 h5 h6 h7
  refine ⟨n, o, a1, a2, a3, ?_⟩
  rcases a4 with ⟨⟨⟨v, h', ad', b1, b2, b3⟩, b4⟩, b5⟩ | ⟨q, b1, E, ce, L, ⟨⟨h', ad', b2, b3⟩, b4⟩, b5⟩
  · exact Or.inl ⟨⟨⟨v, h', ad', b1, hq _ _ b2, b3⟩, b4⟩, b5⟩
  · exact Or.inr ⟨q, b1, E, ce, L, ⟨⟨h', ad', hq _ _ b2, b3⟩, b4⟩, b5⟩
theorem args_map {ad : Nat → Nat} : ∀ (as : List Value) (i : Nat), lv_args i (as.map (cv ad)) = (lv_args i as).map (cl1 ad)
  | [], _ => rfl
  | v :: as, i => by
    simp only [List.map_cons, lv_args, cv_cat]
    rw [args_map as]
    rfl
theorem sl_len {ad : Nat → Nat} (as : List Value) : (lg_sl (as.map (cv ad))).length = (lg_sl as).length := by
  induction as with
  | nil => rfl
  | cons v as ih =>
    unfold lg_sl at ih ⊢
    simp only [List.map_cons, List.flatMap_cons, List.length_append, ih, cv_cat]
    congr 1
    split <;> rfl
theorem thr_words {mt : MT} {X : XT} {A : Nat → Prop} {args : Array Value} {s : State} (hw : ∀ w, w ∈ lw_tbl → goodWord w = true → w.before args s = true) (hE : EV X A s s.heap) {w : Cond} (h : w ∈ lw_tbl ∧ goodWord w = true ∨ w ∈ tables_1 ∧ isNw w = true) : w.before args s = true := by
  rcases h with ⟨h1, h2⟩ | ⟨h1, h2⟩
  · exact hw w h1 h2
  · refine va_Nw.use ?_ (hE.1 w h1 h2)
    cases w <;> first | rfl | (simp [isNw] at h2)
theorem thr_ot {w : Cond} (h : w ∈ lw_tbl ∧ goodWord w = true ∨ w ∈ tables_1 ∧ isNw w = true) : vx_ot w = true := by
  rcases h with ⟨-, h⟩ | ⟨-, h⟩
  · simp [vx_ot, h]
  · cases w <;> first | rfl | (simp [isNw] at h)
theorem blind_PB {X : XT} {G : va_G} {cls : Nat → ClassId} {ad : Nat → Nat} {h : AH} {sz : Nat} {av : List Value} : FrameBlind (va_Pc av (PB X G cls ad h sz)) := by
  intro a U g mk q
  obtain ⟨q0, q1, q2, q3, q4, q5⟩ := q
  exact ⟨q0, q1, q2, va_K.moved (u := U) (U := U.calling g mk a) (Vm.Alike.refl U.vm) q3, q4, EV.same (U := U) rfl q5⟩
/-- a body that keeps AW keeps the contract -/
theorem AC.of {mt : MT} {d mc ms : Nat} {as : List Value} {h : AH} {Q : Res → AH → Prop} (hty : plainName (mN mt).cls = true) (hH : mH mt = []) (hlen : (lg_sl as).length ≤ mL mt) (k : ∀ X, AW X mt d mc ms 0 (lv_args 0 as) [] h Q) : AC mt d mc ms as h Q := by
  intro X l hst G cls ad sz hwf had
  refine vx_ofW (cc := mB mt) (maxL := mL mt) (ret := mR mt) hty rfl ?_
  intro p e s m args below meth c s₁ B hml ht hv
  obtain ⟨rfl, hsz, hP, hK, hD0, hE⟩ := hv
  subst hsz
  have hts := atoms_spec (ws := wsM mt) B.pre
  have hD := hD0.self (sz := s.heap.size)
  have hl := lv_entry (as.map (cv ad)) (n := mL mt) (by rw [sl_len]; exact hlen)
  rw [lg_entry_eq]
  rw [args_map] at hl
  have C : CX X mt l d (headSpec (wsM mt) (rmM d mc ms)).room p s m (as.map (cv ad)).toArray meth c (va_A (wld cls ad h) s.heap.size) G cls :=
    ⟨B.exec, B.bytes, hml, findClass_of_methodNamed B.named, fun w h1 h2 => hts w (List.mem_cons_of_mem _ (gw_mem h1 h2)), B.notSynchronized, hst, by
      rw [hH]
      cases e : c.exceptionTable.toList with
      | nil => rfl
      | cons x r => exact absurd (ht x (by rw [e]; exact List.mem_cons_self)) id,
     (name_of_methodNamed B.named B.method).1, fun q hq => Or.inr hq, hK, hE, Nat.le_refl _, Nat.le_refl _⟩
  refine k X p l e (headSpec (wsM mt) (rmM d mc ms)).room s m (as.map (cv ad)).toArray below meth c (va_A (wld cls ad h) s.heap.size) G cls _ s.heap [] 0 0 ad _ C ?_ ⟨hP, hD, va_S.rf, hwf, had⟩ (Nat.le_of_eq (Nat.zero_add _)) (Nat.le_of_eq (Nat.zero_add _)) hl
  refine ⟨?_, ?_⟩
  · intro v h' hq ad' H' locs' cells' slots' lsA pc ins q1 q2 D' hc' hs' hd hr
    have hpost : ∀ t : State, t.heap = H' → s.WarmedH t.vm → QR X G cls ad h s.heap.size Q (as.map (cv ad)).toArray s (.returned (v.map (cv ad'))) t := fun t ht _ =>
      ⟨⟨v, h', ad', rfl, hq, q1, q2, D'.2.2.2.1, D'.2.2.2.2, by rw [ht]; exact D'.1, D'.2.1⟩, D'.2.2.1.F ht⟩
    refine W.widen (k := mc) (n := ms) hc' hs' (vx_ret ?_)
    rcases hr with ⟨rfl, rfl, hr⟩ | ⟨x, ty, rfl, rfl, hr, hn⟩ | ⟨x, rfl, rfl, hr⟩ | ⟨x, rfl, rfl, hr⟩
    · exact W.vret B.exec B.bytes (B.returns.trans hr) hpost D'.2.2.1.2.2 hd B.notSynchronized
    · exact W.zret B.exec B.bytes (B.returns.trans hr) hn hpost D'.2.2.1.2.2 hd B.notSynchronized
    · exact W.lret B.exec B.bytes (B.returns.trans hr) hpost D'.2.2.1.2.2 hd B.notSynchronized
    · exact W.dret B.exec B.bytes (B.returns.trans hr) hpost D'.2.2.1.2.2 hd B.notSynchronized
  · intro E h' hq ad' H' locs' cells' slots' lsA pc st q1 q2 D' hc' hs' hsz hcat hf8 hl8 ht'
    obtain ⟨ik, ic, names, d0, d3, d4, d7, f1, f2, f3, f4, -⟩ := ht'
    have hnl : names.length ≤ 3 := f3
    refine vx_throw0 B.exec B.bytes hst C.2.2.2.1 f1 f2 (thr_words (mt := mt) C.2.2.2.2.1 hE (f4 _ List.mem_cons_self)) (thr_words (mt := mt) C.2.2.2.2.1 hE (f4 _ (List.mem_cons_of_mem _ List.mem_cons_self))) (fun w q => thr_words (mt := mt) C.2.2.2.2.1 hE (f4 w (List.mem_cons_of_mem _ (List.mem_cons_of_mem _ q))))
      (fun w q => thr_ot (f4 w q)) hE.2.2.2.2.2.2.2.1 hE.2.2.2.2.2.2.2.2.1 D'.2.2.1 hsz d0 d3 d4 d7 (fun x q => absurd (ht x q) id) (by omega) (by omega) hc' hs' B.notSynchronized ?_ D'.2.2.1.2.2 hc' hs'
    intro t hvm hz hk
    have hF : va_F (va_A (wld cls ad h) s.heap.size) s t := ⟨Nat.le_trans D'.2.2.1.1 hz, fun q g1 g2 => (hk q (Nat.lt_of_lt_of_le g1 D'.2.2.1.1)).trans (D'.2.2.1.2.1 q g1 g2)⟩
    exact ⟨⟨h', ad', hq, q1, q2, D'.2.2.2.1, D'.2.2.2.2, D'.1.kept (fun k q hq2 => hk _ ((D'.1 k q hq2).lt)), D'.2.1⟩, hF⟩
end
section
/-! rows of AW: ends and calls -/
def CE (mt : MT) (n : Nat) : Prop := (Cond.code (mN mt) (mB mt) (mL mt) (mR mt) ∈ lw_tbl ∧ Cond.initialized (mN mt).cls ∈ lw_tbl) ∧ ((mN mt).cls ≠ "java/lang/invoke/MethodHandle" ∧ (mN mt).cls ≠ "java/lang/invoke/VarHandle" ∧ (parseMethodDescriptor (mN mt).desc).map (fun d => d.parameters.length) = some n) ∧ mL mt ≤ 20
theorem wsM_good {mt : MT} {n : Nat} (h : CE mt n) : GoodIn (lw_tbl.filter goodWord) (wsM mt) := by
  intro w hw
  rcases List.mem_cons.mp hw with rfl | hw
  · exact ⟨gw_mem h.1.1 rfl, Or.inl rfl⟩
  · exact ⟨hw, good_of_word (List.mem_filter.mp hw).2⟩
section RW10
variable {X : XT} {mt : MT} {d kc ks pc : Nat} {ls ls' : List (Nat × Value)} {st : List Value} {h : AH} {Q : Res → AH → Prop}
theorem a_ret_ {v : Option Value} {ins : Instr} (hd : decode (mB mt) pc = .ok (ins, 1)) (hr : retOK mt ins v) (hq : Q (.inl v) h) : AW X mt d kc ks pc ls v.toList h Q := by
  intro p l e R s m args below meth c A G cls Z H locs cells slots ad lsA C F D hc hs2 hA
  have g := F.1 v h hq ad H locs cells slots lsA pc ins (fun _ _ => rfl) (Nat.le_refl _) D (by omega) (by omega) hd hr
  cases v <;> exact g
theorem a_ireturn {x : Int32} {ty : FieldType} (hd : decode (mB mt) pc = .ok (.ireturn, 1)) (hr : mR mt = some ty) (hn : narrow ty (.int x) = .int x) (hq : Q (.inl (some (.int x))) h) : AW X mt d kc ks pc ls [.int x] h Q :=
  a_ret_ (v := some (.int x)) hd (Or.inr (Or.inl ⟨x, ty, rfl, rfl, hr, hn⟩)) hq
theorem a_lreturn {x : Int64} (hd : decode (mB mt) pc = .ok (.lreturn, 1)) (hr : mR mt = some .long) (hq : Q (.inl (some (.long x))) h) : AW X mt d kc ks pc ls [.long x] h Q :=
  a_ret_ (v := some (.long x)) hd (Or.inr (Or.inr (Or.inl ⟨x, rfl, rfl, hr⟩))) hq
theorem a_dreturn {x : UInt64} (hd : decode (mB mt) pc = .ok (.dreturn, 1)) (hr : mR mt = some .double) (hq : Q (.inl (some (.double x))) h) : AW X mt d kc ks pc ls [.double x] h Q :=
  a_ret_ (v := some (.double x)) hd (Or.inr (Or.inr (Or.inr ⟨x, rfl, rfl, hr⟩))) hq
theorem a_return (hd : decode (mB mt) pc = .ok (.return_, 1)) (hr : mR mt = none) (hq : Q (.inl none) h) : AW X mt d kc ks pc ls [] h Q :=
  a_ret_ (v := none) hd (Or.inl ⟨rfl, rfl, hr⟩) hq
theorem a_throw {E : String} (ht : thrOK mt pc E) (h8 : 8 ≤ d) (hst : (st.map fun v => v.category).sum ≤ 8) (hq : Q (.inr E) h) : AW X mt d (kc + 1) (ks + 6) pc ls st h Q := by
  intro p l e R s m args below meth c A G cls Z H locs cells slots ad lsA C F D hc hs2 hA
  obtain ⟨-, -, hml, -, -, -, -, -, -, -, -, -, hd1, hd2⟩ := id C
  refine F.2 E h hq ad H locs cells slots lsA pc _ (fun _ _ => rfl) (Nat.le_refl _) D (by omega) (by omega) (hA.1.trans hml.symm) ?_ (by omega) (by omega) ht
  rw [List.map_map, show ((fun v : Value => v.category) ∘ cv ad) = (fun v => v.category) from funext (cv_cat ad)]
  exact hst
/-- behind a call that returns -/
theorem w_after {p : Program} {l : Launch} {e : Env} {R : Room} {s : State} {m : MethodId} {args : Array Value} {below : List Frame} {meth : Method} {c : Code} {A : Nat → Prop} {G : va_G} {cls : Nat → ClassId} {Z : State → Prop} {H : Heap} {locs : List Loc} {cells slots mc ms : Nat} {ad : Nat → Nat} {lsA : Array Slot} {st0 : List Value} {a : Array Value} {Q' : Res → AH → Prop}
    (hr : vx_Run p l e R s m args below meth c H locs cells slots mc ms (F0 m pc lsA st0) (st.map (cv ad)) (QR X G cls ad h H.size Q' a) (QX X G cls ad h H.size Q') (va_A (wld cls ad h) H.size))
    (C : CX X mt l d R p s m args meth c A G cls) (F : FIN X mt p l e R s m args below meth c A G cls Z (hN h) ad Q) (D : WD X A G cls s h ad H locs) (hc : cells + (kc + mc) ≤ R.cells) (hs2 : slots + (ks + ms) ≤ R.slots) (hA : lv_has lsA (mL mt) (ls.map (cl1 ad)))
    (hnt : ∀ E h', ¬ Q' (.inr E) h') (hok : (∀ v h', Q' (.inl v) h' → hN h' = hN h) ∨ (ls.all (fun q => okv (hN h) q.2) = true ∧ st.all (okv (hN h)) = true)) (kk : ∀ v h', Q' (.inl v) h' → AW X mt d kc ks (pc + 3) ls (v.toList ++ st) h' Q) :
    W p l e R s m args below meth c H locs cells slots Z (F0 m pc lsA st0) := by
  intro T hT Xs
  have hFA : ∀ q, va_A (wld cls ad h) H.size q → A q := fun q hq => by
    rcases hq with ⟨k, e9, hq⟩ | hq
    · exact D.2.1.2 k _ hq
    · exact C.2.2.2.2.2.2.2.2.2.1 q (Nat.le_trans D.2.2.1.1 hq)
  rcases hr T hT Xs with ⟨v, st₀, t, T', L, h0, X', hL, e1, e2, ⟨⟨v', h', ad', hv, hq, x1, x2, x3, x4, x5, x6⟩, hF⟩, go⟩ | ⟨q, st₀, t, T', L, E, ce, h0, X', hL, e1, e2, ⟨⟨h', ad', hq, -⟩, -⟩, -⟩
  · cases hv
    obtain ⟨k1, k2, k3⟩ := vx_keep (A0 := A) (A1 := va_A (wld cls ad h) H.size) h0 e1 D.2.2.1 (fun q _ z => hFA q z) hFA hL hF
    have hls : ls.map (cl1 ad') = ls.map (cl1 ad) ∧ st.map (cv ad') = st.map (cv ad) := by
      rcases hok with hok | ⟨o1, o2⟩
      · have hn := hok _ _ hq
        have he : ad' = ad := funext fun a => x1 a (by rw [hn]; omega)
        rw [he]; exact ⟨rfl, rfl⟩
      · have h90 := x3.1
        have hext : ∀ a, (a < hN h ∨ 90 ≤ a) → ad' a = ad a := fun a ha => x1 a (by omega)
        exact ⟨map_okl hext o1, map_okv hext o2⟩
    have g := kk v' h' hq p l e R s m args below meth c A G cls Z T'.heap (locs ++ L) (cells + mc) (slots + ms) ad' lsA C (F.up x2 x1) ⟨by rw [e1]; exact x5, x6.weaken (fun _ q _ z => hFA q.1 z), k3, x3, x4⟩ (by omega) (by omega) (by rw [hls.1]; exact hA)
    have e9 : (v'.toList ++ st).map (cv ad') = (v'.map (cv ad')).toList ++ st.map (cv ad) := by
      rw [List.map_append, hls.2]
      cases v' <;> rfl
    rw [e9] at g
    obtain ⟨t2, a1, b1⟩ := g T' rfl X'
    exact ⟨t2, go t2 a1, b1⟩
  · exact absurd hq (hnt E h')
theorem pre_call {p : Program} {l : Launch} {R : Room} {s : State} {m : MethodId} {args : Array Value} {meth : Method} {c : Code} {A : Nat → Prop} {G : va_G} {cls : Nat → ClassId} {H : Heap} {locs : List Loc} {ad : Nat → Nat} (C : CX X mt l d R p s m args meth c A G cls) (D : WD X A G cls s h ad H locs) (av : List Value) : FrameBlind (va_Pc av (PB X G cls ad h H.size)) ∧ ∀ U : State, U.heap = H → s.WarmedH U.vm → va_Pc av (PB X G cls ad h H.size) av.toArray U := by
  refine ⟨blind_PB, fun U hU hW => ⟨rfl, by rw [hU], by rw [hU]; exact D.1, va_K.moved hW.alike C.2.2.2.2.2.2.2.2.2.2.1, D.2.1.weaken (fun _ _ _ _ => trivial), ?_⟩⟩
  refine EV.call C.2.2.2.2.2.2.2.2.2.2.2.1 hW hU D.2.2.1 (fun q hq => ?_)
  rcases hq with ⟨k, e9, hq⟩ | hq
  · exact D.2.1.2 k _ hq
  · exact C.2.2.2.2.2.2.2.2.2.1 q (Nat.le_trans D.2.2.1.1 hq)
theorem cat_rest {ad : Nat → Nat} (hst : (st.map fun v => v.category).sum ≤ 8) : ((st.map (cv ad)).map fun v => v.category).sum ≤ 8 := by
  rw [List.map_map, show ((fun v : Value => v.category) ∘ cv ad) = (fun v => v.category) from funext (cv_cat ad)]
  exact hst
/-- invokestatic -/
theorem a_callS {mt' : MT} {idx n mc ms : Nat} {as stk : List Value} {Q' : Res → AH → Prop} (hd : decode (mB mt) pc = .ok (.invokestatic idx, 3)) (hl : Cond.methodLink (mN mt).cls idx (mN mt') ∈ lw_tbl ∧ Cond.static (mN mt') ∈ lw_tbl) (hce : CE mt' n) (hc' : AC mt' d mc ms as h Q') (hn : as.length = n) (hstk : stk = as.reverse ++ st) (hst : (st.map fun v => v.category).sum ≤ 8)
    (hnt : ∀ E h', ¬ Q' (.inr E) h') (hok : (∀ v h', Q' (.inl v) h' → hN h' = hN h) ∨ (ls.all (fun q => okv (hN h) q.2) = true ∧ st.all (okv (hN h)) = true)) (kk : ∀ v h', Q' (.inl v) h' → AW X mt (d + 1) kc ks (pc + 3) ls (v.toList ++ st) h' Q) : AW X mt (d + 1) (kc + mc) (ks + ms) pc ls stk h Q := by
  subst hstk
  intro p l e R s m args below meth c A G cls Z H locs cells slots ad lsA C F D hc hs2 hA
  obtain ⟨hx, hb, hml, hown, hw, -, hls, -, -, -, hK, -, hd1, hd2⟩ := id C
  have ht : ∀ w ∈ lw_tbl.filter goodWord, w.before args s = true := fun w q => hw w (List.mem_filter.mp q).1 (List.mem_filter.mp q).2
  have cw : CallB R s args (mN mt).cls idx (mN mt') (mB mt') (mL mt') (mR mt') (wsM mt') (rmM d mc ms) mc ms n := callB_of n ht (wsM_good hce) rfl rfl rfl (hw _ hce.1.2 rfl) (hw _ hl.1 rfl) hce.2.1 ⟨by show d + 1 ≤ _; exact hd1, by show 8 + (mL mt' + 11) + 40 * d ≤ _; have := hce.2.2; omega⟩
  refine w_after (st := st) (mc := mc) (ms := ms) (Q' := Q') (a := (as.map (cv ad)).toArray) ?_ C F D hc hs2 hA hnt hok kk
  exact vx_runS (As := as.map (cv ad)) (rest := st.map (cv ad)) ⟨hx, hb, hml, hown, ht⟩ (hc' X l hls G cls ad H.size D.2.2.2.1 D.2.2.2.2) ⟨cw, hw _ hl.2 rfl⟩ (pre_call C D _) rfl (by rw [List.length_map]; exact hn) (hA.1) (by simp) (lv_room (cat_rest hst)) hd ⟨by omega, by omega⟩
theorem a_callSN {mt' : MT} {host : String} {idx n mc ms : Nat} {as stk : List Value} {Q' : Res → AH → Prop} (hd : decode (mB mt) pc = .ok (.invokestatic idx, 3)) (hl : Cond.methodLinkNest (mN mt).cls idx (mN mt') host ∈ tables_1 ∧ Cond.static (mN mt') ∈ lw_tbl) (hce : CE mt' n) (hc' : AC mt' d mc ms as h Q') (hn : as.length = n) (hstk : stk = as.reverse ++ st) (hst : (st.map fun v => v.category).sum ≤ 8)
    (hnt : ∀ E h', ¬ Q' (.inr E) h') (hok : (∀ v h', Q' (.inl v) h' → hN h' = hN h) ∨ (ls.all (fun q => okv (hN h) q.2) = true ∧ st.all (okv (hN h)) = true)) (kk : ∀ v h', Q' (.inl v) h' → AW X mt (d + 1) kc ks (pc + 3) ls (v.toList ++ st) h' Q) : AW X mt (d + 1) (kc + mc) (ks + ms) pc ls stk h Q := by
  subst hstk
  intro p l e R s m args below meth c A G cls Z H locs cells slots ad lsA C F D hc hs2 hA
  obtain ⟨hx, hb, hml, hown, hw, -, hls, -, -, -, hK, hE, hd1, hd2⟩ := id C
  have ht : ∀ w ∈ lw_tbl.filter goodWord, w.before args s = true := fun w q => hw w (List.mem_filter.mp q).1 (List.mem_filter.mp q).2
  have cw : va_CN R s args (mN mt).cls idx (mN mt') host (mB mt') (mL mt') (mR mt') (wsM mt') (rmM d mc ms) mc ms n := va_cnB n ht (wsM_good hce) rfl rfl rfl (hE.1 _ hl.1 rfl) (hw _ hce.1.2 rfl) hce.2.1 ⟨by show d + 1 ≤ _; exact hd1, by show 8 + (mL mt' + 11) + 40 * d ≤ _; have := hce.2.2; omega⟩
  refine w_after (st := st) (mc := mc) (ms := ms) (Q' := Q') (a := (as.map (cv ad)).toArray) ?_ C F D hc hs2 hA hnt hok kk
  exact vx_runSN (As := as.map (cv ad)) (rest := st.map (cv ad)) ⟨hx, hb, hml, hown, ht⟩ (hc' X l hls G cls ad H.size D.2.2.2.1 D.2.2.2.2) ⟨cw, hw _ hl.2 rfl, trivial⟩ (pre_call C D _) rfl (by rw [List.length_map]; exact hn) (hA.1) (by simp) (lv_room (cat_rest hst)) hd ⟨by omega, by omega⟩
/-- invokevirtual -/
theorem a_callV {mt' : MT} {idx n mc ms b ci : Nat} {as stk : List Value} {Q' : Res → AH → Prop} (hd : decode (mB mt) pc = .ok (.invokevirtual idx, 3)) (hl : Cond.methodLink (mN mt).cls idx (mN mt') ∈ lw_tbl ∧ Cond.instanceMethod (mN mt') ∈ lw_tbl ∧ Cond.selects (cR ci) (mN mt') (mN mt') ∈ lw_tbl) (hce : CE mt' n) (hs : shK b = some (.inl ci)) (hb : b < hN h) (hc' : AC mt' d mc ms (.ref b :: as) h Q') (hn : as.length = n) (hstk : stk = as.reverse ++ .ref b :: st) (hst : (st.map fun v => v.category).sum ≤ 8)
    (hnt : ∀ E h', ¬ Q' (.inr E) h') (hok : (∀ v h', Q' (.inl v) h' → hN h' = hN h) ∨ (ls.all (fun q => okv (hN h) q.2) = true ∧ st.all (okv (hN h)) = true)) (kk : ∀ v h', Q' (.inl v) h' → AW X mt (d + 1) kc ks (pc + 3) ls (v.toList ++ st) h' Q) : AW X mt (d + 1) (kc + mc) (ks + ms) pc ls stk h Q := by
  subst hstk
  intro p l e R s m args below meth c A G cls Z H locs cells slots ad lsA C F D hc hs2 hA
  obtain ⟨hx, hb2, hml, hown, hw, -, hls, -, -, -, hK, -, hd1, hd2⟩ := id C
  have ht : ∀ w ∈ lw_tbl.filter goodWord, w.before args s = true := fun w q => hw w (List.mem_filter.mp q).1 (List.mem_filter.mp q).2
  have cw : CallB R s args (mN mt).cls idx (mN mt') (mB mt') (mL mt') (mR mt') (wsM mt') (rmM d mc ms) mc ms n := callB_of n ht (wsM_good hce) rfl rfl rfl (hw _ hce.1.2 rfl) (hw _ hl.1 rfl) hce.2.1 ⟨by show d + 1 ≤ _; exact hd1, by show 8 + (mL mt' + 11) + 40 * d ≤ _; have := hce.2.2; omega⟩
  have hrecv := va_recv (q := (cR ci, cT ci, nF ci)) hK D.1 (vwCl_at (shK_ci hs)) (by rw [wld_get hb, ce_obj hs])
  obtain ⟨q1, q2⟩ := pre_call C D ((Value.ref b :: as).map (cv ad))
  refine w_after (st := st) (mc := mc) (ms := ms) (Q' := Q') (a := ((Value.ref b :: as).map (cv ad)).toArray) ?_ C F D hc hs2 hA hnt hok kk
  exact vx_runV (C := cR ci) (b := ad b) (As := as.map (cv ad)) (rest := st.map (cv ad)) ⟨hx, hb2, hml, hown, ht⟩ (hc' X l hls G cls ad H.size D.2.2.2.1 D.2.2.2.2) ⟨cw, hw _ hl.2.1 rfl, hw _ hl.2.2 rfl⟩ ⟨q1, hrecv, q2⟩ rfl (by rw [List.length_map]; exact hn) (hA.1) (by simp [cv]) (lv_room (cat_rest hst)) hd ⟨by omega, by omega⟩
theorem a_callVN {mt' : MT} {host : String} {idx n mc ms b ci : Nat} {as stk : List Value} {Q' : Res → AH → Prop} (hd : decode (mB mt) pc = .ok (.invokevirtual idx, 3)) (hl : Cond.methodLinkNest (mN mt).cls idx (mN mt') host ∈ tables_1 ∧ Cond.instanceMethod (mN mt') ∈ lw_tbl ∧ Cond.selects (cR ci) (mN mt') (mN mt') ∈ lw_tbl) (hce : CE mt' n) (hs : shK b = some (.inl ci)) (hb : b < hN h) (hc' : AC mt' d mc ms (.ref b :: as) h Q') (hn : as.length = n) (hstk : stk = as.reverse ++ .ref b :: st) (hst : (st.map fun v => v.category).sum ≤ 8)
    (hnt : ∀ E h', ¬ Q' (.inr E) h') (hok : (∀ v h', Q' (.inl v) h' → hN h' = hN h) ∨ (ls.all (fun q => okv (hN h) q.2) = true ∧ st.all (okv (hN h)) = true)) (kk : ∀ v h', Q' (.inl v) h' → AW X mt (d + 1) kc ks (pc + 3) ls (v.toList ++ st) h' Q) : AW X mt (d + 1) (kc + mc) (ks + ms) pc ls stk h Q := by
  subst hstk
  intro p l e R s m args below meth c A G cls Z H locs cells slots ad lsA C F D hc hs2 hA
  obtain ⟨hx, hb2, hml, hown, hw, -, hls, -, -, -, hK, hE, hd1, hd2⟩ := id C
  have ht : ∀ w ∈ lw_tbl.filter goodWord, w.before args s = true := fun w q => hw w (List.mem_filter.mp q).1 (List.mem_filter.mp q).2
  have cw : va_CN R s args (mN mt).cls idx (mN mt') host (mB mt') (mL mt') (mR mt') (wsM mt') (rmM d mc ms) mc ms n := va_cnB n ht (wsM_good hce) rfl rfl rfl (hE.1 _ hl.1 rfl) (hw _ hce.1.2 rfl) hce.2.1 ⟨by show d + 1 ≤ _; exact hd1, by show 8 + (mL mt' + 11) + 40 * d ≤ _; have := hce.2.2; omega⟩
  have hrecv := va_recv (q := (cR ci, cT ci, nF ci)) hK D.1 (vwCl_at (shK_ci hs)) (by rw [wld_get hb, ce_obj hs])
  obtain ⟨q1, q2⟩ := pre_call C D ((Value.ref b :: as).map (cv ad))
  refine w_after (st := st) (mc := mc) (ms := ms) (Q' := Q') (a := ((Value.ref b :: as).map (cv ad)).toArray) ?_ C F D hc hs2 hA hnt hok kk
  exact vx_runVN (C := cR ci) (b := ad b) (As := as.map (cv ad)) (rest := st.map (cv ad)) ⟨hx, hb2, hml, hown, ht⟩ (hc' X l hls G cls ad H.size D.2.2.2.1 D.2.2.2.2) ⟨cw, hw _ hl.2.1 rfl, hw _ hl.2.2 rfl⟩ ⟨q1, hrecv, q2⟩ rfl (by rw [List.length_map]; exact hn) (hA.1) (by simp [cv]) (lv_room (cat_rest hst)) hd ⟨by omega, by omega⟩
/-- constructors -/
theorem a_callI {mt' : MT} {idx n mc ms b : Nat} {as stk : List Value} {Q' : Res → AH → Prop} (hd : decode (mB mt) pc = .ok (.invokespecial idx, 3)) (hl : Cond.methodLink (mN mt).cls idx (mN mt') ∈ lw_tbl ∧ Cond.instanceMethod (mN mt') ∈ lw_tbl) (hnm : (mN mt').name = "<init>") (hret : mR mt' = none) (hce : CE mt' n) (hc' : AC mt' d mc ms (.ref b :: as) h Q') (hn : as.length = n) (hstk : stk = as.reverse ++ .ref b :: st) (hst : (st.map fun v => v.category).sum ≤ 8)
    (hnt : ∀ E h', ¬ Q' (.inr E) h') (hok : (∀ v h', Q' (.inl v) h' → hN h' = hN h) ∨ (ls.all (fun q => okv (hN h) q.2) = true ∧ st.all (okv (hN h)) = true)) (kk : ∀ v h', Q' (.inl v) h' → AW X mt (d + 1) kc ks (pc + 3) ls (v.toList ++ st) h' Q) : AW X mt (d + 1) (kc + mc) (ks + ms) pc ls stk h Q := by
  subst hstk
  intro p l e R s m args below meth c A G cls Z H locs cells slots ad lsA C F D hc hs2 hA
  obtain ⟨hx, hb2, hml, hown, hw, -, hls, -, -, -, hK, -, hd1, hd2⟩ := id C
  have ht : ∀ w ∈ lw_tbl.filter goodWord, w.before args s = true := fun w q => hw w (List.mem_filter.mp q).1 (List.mem_filter.mp q).2
  have cw : CallB R s args (mN mt).cls idx (mN mt') (mB mt') (mL mt') none (wsM mt') (rmM d mc ms) mc ms n := callB_of n ht (wsM_good hce) (by rw [← hret]; rfl) rfl rfl (hw _ hce.1.2 rfl) (hw _ hl.1 rfl) hce.2.1 ⟨by show d + 1 ≤ _; exact hd1, by show 8 + (mL mt' + 11) + 40 * d ≤ _; have := hce.2.2; omega⟩
  refine w_after (st := st) (mc := mc) (ms := ms) (Q' := Q') (a := ((Value.ref b :: as).map (cv ad)).toArray) ?_ C F D hc hs2 hA hnt hok kk
  exact vx_runI (b := ad b) (As := as.map (cv ad)) (rest := st.map (cv ad)) ⟨hx, hb2, hml, hown, ht⟩ (hc' X l hls G cls ad H.size D.2.2.2.1 D.2.2.2.2) ⟨cw, hnm, hw _ hl.2 rfl⟩ (pre_call C D _) rfl (by rw [List.length_map]; exact hn) (hA.1) (by simp [cv]) (lv_room (cat_rest hst)) hd ⟨by omega, by omega⟩
theorem a_callIN {mt' : MT} {host : String} {idx n mc ms b : Nat} {as stk : List Value} {Q' : Res → AH → Prop} (hd : decode (mB mt) pc = .ok (.invokespecial idx, 3)) (hl : Cond.methodLinkNest (mN mt).cls idx (mN mt') host ∈ tables_1 ∧ Cond.instanceMethod (mN mt') ∈ lw_tbl) (hnm : (mN mt').name = "<init>") (hret : mR mt' = none) (hce : CE mt' n) (hc' : AC mt' d mc ms (.ref b :: as) h Q') (hn : as.length = n) (hstk : stk = as.reverse ++ .ref b :: st) (hst : (st.map fun v => v.category).sum ≤ 8)
    (hnt : ∀ E h', ¬ Q' (.inr E) h') (hok : (∀ v h', Q' (.inl v) h' → hN h' = hN h) ∨ (ls.all (fun q => okv (hN h) q.2) = true ∧ st.all (okv (hN h)) = true)) (kk : ∀ v h', Q' (.inl v) h' → AW X mt (d + 1) kc ks (pc + 3) ls (v.toList ++ st) h' Q) : AW X mt (d + 1) (kc + mc) (ks + ms) pc ls stk h Q := by
  subst hstk
  intro p l e R s m args below meth c A G cls Z H locs cells slots ad lsA C F D hc hs2 hA
  obtain ⟨hx, hb2, hml, hown, hw, -, hls, -, -, -, hK, hE, hd1, hd2⟩ := id C
  have ht : ∀ w ∈ lw_tbl.filter goodWord, w.before args s = true := fun w q => hw w (List.mem_filter.mp q).1 (List.mem_filter.mp q).2
  have cw : va_CN R s args (mN mt).cls idx (mN mt') host (mB mt') (mL mt') none (wsM mt') (rmM d mc ms) mc ms n := va_cnB n ht (wsM_good hce) (by rw [← hret]; rfl) rfl rfl (hE.1 _ hl.1 rfl) (hw _ hce.1.2 rfl) hce.2.1 ⟨by show d + 1 ≤ _; exact hd1, by show 8 + (mL mt' + 11) + 40 * d ≤ _; have := hce.2.2; omega⟩
  refine w_after (st := st) (mc := mc) (ms := ms) (Q' := Q') (a := ((Value.ref b :: as).map (cv ad)).toArray) ?_ C F D hc hs2 hA hnt hok kk
  exact vx_runIN (b := ad b) (As := as.map (cv ad)) (rest := st.map (cv ad)) ⟨hx, hb2, hml, hown, ht⟩ (hc' X l hls G cls ad H.size D.2.2.2.1 D.2.2.2.2) ⟨cw, hnm, hw _ hl.2 rfl⟩ (pre_call C D _) rfl (by rw [List.length_map]; exact hn) (hA.1) (by simp [cv]) (lv_room (cat_rest hst)) hd ⟨by omega, by omega⟩
end RW10
end
section
/-! rows of AW: Object's constructor, what lies outside the world, arraycopy, rows of rows -/
section RW11
variable {X : XT} {mt : MT} {d kc ks pc : Nat} {ls ls' : List (Nat × Value)} {st : List Value} {h : AH} {Q : Res → AH → Prop}
theorem objI_in : Cond.instanceMethod objectInit ∈ lw_tbl ∧ Cond.code objectInit ⟨#[0xb1]⟩ 1 none ∈ lw_tbl := by decide +kernel
theorem a_objInit {idx b : Nat} (hd : decode (mB mt) pc = .ok (.invokespecial idx, 3)) (hl : Cond.methodLink (mN mt).cls idx objectInit ∈ lw_tbl) (hst : (st.map fun v => v.category).sum ≤ 8) (kk : AW X mt (d + 1) kc ks (pc + 3) ls st h Q) : AW X mt (d + 1) kc ks pc ls (.ref b :: st) h Q := by
  intro p l e R s m args below meth c A G cls Z H locs cells slots ad lsA C F D hc hs2 hA
  obtain ⟨hx, hb, hml, hown, hw, -, hls, -, -, -, hK, -, hd1, hd2⟩ := id C
  refine W.objInit hx hb hown (hw _ hl rfl) (hw _ objI_in.1 rfl) (hw _ objI_in.2 rfl) rfl (hA.1.trans hml.symm) rfl hd (by omega) ?_ (W.eq rfl (kk p l e R s m args below meth c A G cls Z H locs cells slots ad lsA C F D hc hs2 hA))
  have := cat_rest (ad := ad) hst
  show 2 * 0 + _ + 12 ≤ R.locals
  omega
-- the script
theorem a_slen (hd : decode (mB mt) pc = .ok (.arraylength, 1)) (kk : AW X mt d kc ks (pc + 1) ls (.int (nI X.1.2.1) :: st) h Q) : AW X mt d kc ks pc ls (.ref 1000 :: st) h Q := by
  intro p l e R s m args below meth c A G cls Z H locs cells slots ad lsA C F D hc hs2 hA
  obtain ⟨hx, hb, hml, hown, hw, -, hls, -, -, -, hK, hE, hd1, hd2⟩ := id C
  obtain ⟨⟨h10, h11, h12⟩, -⟩ := hE.2.2.2.2.2.2.2.2.2
  have g := kk p l e R s m args below meth c A G cls Z H locs cells slots ad lsA C F D hc hs2 hA
  have e1 : cv ad (.ref 1000) = .ref X.1.1 := by simp only [cv, D.2.2.2.2.1]
  rw [List.map_cons, e1]
  exact va_slen hx hb h10 h11 h12 D.2.2.1 hd g
theorem a_sald {i : Int32} {j : Nat} (hd : decode (mB mt) pc = .ok (.iaload, 1)) (hi : i = nI j) (hj : j < X.1.2.1) (hj2 : j < 2 ^ 31) (hL : X.1.2.1 < 2 ^ 31) (kk : AW X mt d kc ks (pc + 1) ls (.int (X.1.2.2 j) :: st) h Q) : AW X mt d kc ks pc ls (.int i :: .ref 1000 :: st) h Q := by
  subst hi
  intro p l e R s m args below meth c A G cls Z H locs cells slots ad lsA C F D hc hs2 hA
  obtain ⟨hx, hb, hml, hown, hw, -, hls, -, -, -, hK, hE, hd1, hd2⟩ := id C
  obtain ⟨⟨h10, h11, h12⟩, -⟩ := hE.2.2.2.2.2.2.2.2.2
  have g := kk p l e R s m args below meth c A G cls Z H locs cells slots ad lsA C F D hc hs2 hA
  have e1 : cv ad (.ref 1000) = .ref X.1.1 := by simp only [cv, D.2.2.2.2.1]
  rw [List.map_cons, List.map_cons, e1]
  exact va_sld hx hb h10 h11 h12 D.2.2.1 (vp_in_nI hj hL) hd (by rw [nI_clamp hj2]; exact g)
-- String constants: .ref (1001 + i), their bytes .ref (1011 + i)
theorem a_ldcS {i idx : Nat} {tx : String} (hd : decode (mB mt) pc = .ok (.ldc idx, 2)) (hz : ((mN mt).cls, idx, tx, i) ∈ zStr) (hi : i < 5) (kk : AW X mt d kc ks (pc + 2) ls (.ref (1001 + i) :: st) h Q) : AW X mt d kc ks pc ls st h Q := by
  intro p l e R s m args below meth c A G cls Z H locs cells slots ad lsA C F D hc hs2 hA
  obtain ⟨hx, hb, hml, hown, hw, -, hls, -, -, -, hK, hE, hd1, hd2⟩ := id C
  have g := kk p l e R s m args below meth c A G cls Z H locs cells slots ad lsA C F D hc hs2 hA
  have e1 : cv ad (.ref (1001 + i)) = .ref (X.2.1 i) := by simp only [cv, D.2.2.2.2.2.1 i hi]
  rw [List.map_cons, e1] at g
  exact va_ldcS hx hb hown (hE.2.2.2.2.2.1 _ hz) hd g
theorem a_strV {i idx : Nat} (hd : decode (mB mt) pc = .ok (.getfield idx, 3)) (hl : Cond.fieldLink (mN mt).cls idx "java/lang/String" "value" "[B" ∈ lw_tbl) (hi : i < 5) (kk : AW X mt d kc ks (pc + 3) ls (.ref (1011 + i) :: st) h Q) : AW X mt d kc ks pc ls (.ref (1001 + i) :: st) h Q := by
  intro p l e R s m args below meth c A G cls Z H locs cells slots ad lsA C F D hc hs2 hA
  obtain ⟨hx, hb, hml, hown, hw, -, hls, -, -, -, hK, hE, hd1, hd2⟩ := id C
  have g := kk p l e R s m args below meth c A G cls Z H locs cells slots ad lsA C F D hc hs2 hA
  have e1 : cv ad (.ref (1001 + i)) = .ref (X.2.1 i) := by simp only [cv, D.2.2.2.2.2.1 i hi]
  have e2 : cv ad (.ref (1011 + i)) = .ref (X.2.2.1 i) := by simp only [cv, D.2.2.2.2.2.2.1 i hi]
  rw [List.map_cons, e2] at g
  rw [List.map_cons, e1]
  exact vk_getf hx hb (hE.2.2.2.2.1.1 i hi).2.2.1 D.2.2.1 hown (hw _ hl rfl) (fun _ q => q) hd g
theorem a_strC {i idx : Nat} (hd : decode (mB mt) pc = .ok (.getfield idx, 3)) (hl : Cond.fieldLink (mN mt).cls idx "java/lang/String" "coder" "B" ∈ lw_tbl) (hi : i < 5) (kk : AW X mt d kc ks (pc + 3) ls (.int 0 :: st) h Q) : AW X mt d kc ks pc ls (.ref (1001 + i) :: st) h Q := by
  intro p l e R s m args below meth c A G cls Z H locs cells slots ad lsA C F D hc hs2 hA
  obtain ⟨hx, hb, hml, hown, hw, -, hls, -, -, -, hK, hE, hd1, hd2⟩ := id C
  have g := kk p l e R s m args below meth c A G cls Z H locs cells slots ad lsA C F D hc hs2 hA
  have e1 : cv ad (.ref (1001 + i)) = .ref (X.2.1 i) := by simp only [cv, D.2.2.2.2.2.1 i hi]
  rw [List.map_cons, e1]
  exact vk_getf hx hb (hE.2.2.2.2.1.1 i hi).2.1 D.2.2.1 hown (hw _ hl rfl) (fun _ q => q) hd g
theorem a_strL {i : Nat} (hd : decode (mB mt) pc = .ok (.arraylength, 1)) (hi : i < 5) (kk : AW X mt d kc ks (pc + 1) ls (.int (nI (zLen.getD i 0)) :: st) h Q) : AW X mt d kc ks pc ls (.ref (1011 + i) :: st) h Q := by
  intro p l e R s m args below meth c A G cls Z H locs cells slots ad lsA C F D hc hs2 hA
  obtain ⟨hx, hb, hml, hown, hw, -, hls, -, -, -, hK, hE, hd1, hd2⟩ := id C
  have g := kk p l e R s m args below meth c A G cls Z H locs cells slots ad lsA C F D hc hs2 hA
  have e2 : cv ad (.ref (1011 + i)) = .ref (X.2.2.1 i) := by simp only [cv, D.2.2.2.2.2.2.1 i hi]
  rw [List.map_cons, e2]
  exact va_tlen hx hb (hE.2.2.2.2.1.1 i hi).2.2.2 D.2.2.1 rfl hd g
theorem a_strB {i j : Nat} (hd : decode (mB mt) pc = .ok (.baload, 1)) (hi : i < 5) (hj : j < zLen.getD i 0) (hj2 : zLen.getD i 0 < 2 ^ 31) (kk : AW X mt d kc ks (pc + 1) ls (.int ((zByt.getD i []).getD j 0) :: st) h Q) : AW X mt d kc ks pc ls (.int (nI j) :: .ref (1011 + i) :: st) h Q := by
  intro p l e R s m args below meth c A G cls Z H locs cells slots ad lsA C F D hc hs2 hA
  obtain ⟨hx, hb, hml, hown, hw, -, hls, -, -, -, hK, hE, hd1, hd2⟩ := id C
  have g := kk p l e R s m args below meth c A G cls Z H locs cells slots ad lsA C F D hc hs2 hA
  have e2 : cv ad (.ref (1011 + i)) = .ref (X.2.2.1 i) := by simp only [cv, D.2.2.2.2.2.2.1 i hi]
  rw [List.map_cons, List.map_cons, e2]
  exact va_tb hx hb (hE.2.2.2.2.1.1 i hi).2.2.2 D.2.2.1 (vp_in_nI hj hj2) (v := .int ((zByt.getD i []).getD j 0)) (by rw [nI_clamp (by omega)]) hd g
theorem a_getCS {idx : Nat} (hd : decode (mB mt) pc = .ok (.getstatic idx, 3)) (hl : Cond.fieldLink (mN mt).cls idx "java/lang/String" "COMPACT_STRINGS" "Z" ∈ lw_tbl) (kk : AW X mt d kc ks (pc + 3) ls (.int 1 :: st) h Q) : AW X mt d kc ks pc ls st h Q := by
  intro p l e R s m args below meth c A G cls Z H locs cells slots ad lsA C F D hc hs2 hA
  obtain ⟨hx, hb, hml, hown, hw, -, hls, -, -, -, hK, hE, hd1, hd2⟩ := id C
  exact va_gets hx hb hE.2.2.2.2.2.2.1 D.2.2.1 hown (hw _ hl rfl) (fun _ q => q) hd (kk p l e R s m args below meth c A G cls Z H locs cells slots ad lsA C F D hc hs2 hA)
theorem a_getSF {idx : Nat} (hd : decode (mB mt) pc = .ok (.getstatic idx, 3)) (hl : Cond.fieldLink (mN mt).cls idx zF1 zF2 zF3 ∈ lw_tbl) (k1 : AW X mt d kc ks (pc + 3) ls (.null :: st) h Q) (k2 : AW X mt d kc ks (pc + 3) ls (.ref 1020 :: st) h Q) : AW X mt d kc ks pc ls st h Q := by
  intro p l e R s m args below meth c A G cls Z H locs cells slots ad lsA C F D hc hs2 hA
  obtain ⟨hx, hb, hml, hown, hw, -, hls, -, -, -, hK, hE, hd1, hd2⟩ := id C
  rcases hE.2.2.2.2.2.2.2.2.2.2 with hz | hz
  · exact va_gets hx hb hz D.2.2.1 hown (hw _ hl rfl) (fun _ q => q) hd (k1 p l e R s m args below meth c A G cls Z H locs cells slots ad lsA C F D hc hs2 hA)
  · have g := k2 p l e R s m args below meth c A G cls Z H locs cells slots ad lsA C F D hc hs2 hA
    have e1 : cv ad (.ref 1020) = .ref X.2.2.2 := by simp only [cv, D.2.2.2.2.2.2.2]
    rw [List.map_cons, e1] at g
    exact va_gets hx hb hz D.2.2.1 hown (hw _ hl rfl) (fun _ q => q) hd g
/-- a method of a String constant -/
theorem a_callVs {mt' : MT} {idx n i : Nat} {as stk : List Value} {Q' : Res → AH → Prop} (hd : decode (mB mt) pc = .ok (.invokevirtual idx, 3)) (hl : Cond.methodLink (mN mt).cls idx (mN mt') ∈ lw_tbl ∧ Cond.instanceMethod (mN mt') ∈ lw_tbl ∧ Cond.selects "java/lang/String" (mN mt') (mN mt') ∈ lw_tbl) (hce : CE mt' n) (hi : i < 5) (hc' : AC mt' d 0 0 (.ref (1001 + i) :: as) h Q') (hn : as.length = n) (hstk : stk = as.reverse ++ .ref (1001 + i) :: st) (hst : (st.map fun v => v.category).sum ≤ 8)
    (hnt : ∀ E h', ¬ Q' (.inr E) h') (hok : ∀ v h', Q' (.inl v) h' → hN h' = hN h) (kk : ∀ v h', Q' (.inl v) h' → AW X mt (d + 1) kc ks (pc + 3) ls (v.toList ++ st) h' Q) : AW X mt (d + 1) kc ks pc ls stk h Q := by
  subst hstk
  intro p l e R s m args below meth c A G cls Z H locs cells slots ad lsA C F D hc hs2 hA
  obtain ⟨hx, hb2, hml, hown, hw, -, hls, -, -, -, hK, hE, hd1, hd2⟩ := id C
  have ht : ∀ w ∈ lw_tbl.filter goodWord, w.before args s = true := fun w q => hw w (List.mem_filter.mp q).1 (List.mem_filter.mp q).2
  have cw : CallB R s args (mN mt).cls idx (mN mt') (mB mt') (mL mt') (mR mt') (wsM mt') (rmM d 0 0) 0 0 n := callB_of n ht (wsM_good hce) rfl rfl rfl (hw _ hce.1.2 rfl) (hw _ hl.1 rfl) hce.2.1 ⟨by show d + 1 ≤ _; exact hd1, by show 8 + (mL mt' + 11) + 40 * d ≤ _; have := hce.2.2; omega⟩
  have hrecv := vk_recv hE.2.2.2.2.1 hi D.2.2.1
  rw [← D.2.2.2.2.2.1 i hi] at hrecv
  obtain ⟨q1, q2⟩ := pre_call C D ((Value.ref (1001 + i) :: as).map (cv ad))
  refine w_after (st := st) (mc := 0) (ms := 0) (Q' := Q') (a := ((Value.ref (1001 + i) :: as).map (cv ad)).toArray) ?_ C F D hc hs2 hA hnt (Or.inl hok) kk
  exact vx_runV (C := "java/lang/String") (b := ad (1001 + i)) (As := as.map (cv ad)) (rest := st.map (cv ad)) ⟨hx, hb2, hml, hown, ht⟩ (hc' X l hls G cls ad H.size D.2.2.2.1 D.2.2.2.2) ⟨cw, hw _ hl.2.1 rfl, hw _ hl.2.2 rfl⟩ ⟨q1, hrecv, q2⟩ rfl (by rw [List.length_map]; exact hn) (hA.1) (by simp [cv]) (lv_room (cat_rest hst)) hd ⟨by omega, by omega⟩
-- System.arraycopy, of ints and of bytes
theorem acp_in : Cond.native arraycopyName ∈ lw_tbl ∧ Cond.static arraycopyName ∈ lw_tbl ∧ Cond.initialized "java/lang/System" ∈ lw_tbl := by decide +kernel
theorem a_copy {a b n1 n2 t idx sp dp n : Nat} {i1 i2 i3 : Int32} (hd : decode (mB mt) pc = .ok (.invokestatic idx, 3)) (hl : Cond.methodLink (mN mt).cls idx arraycopyName ∈ lw_tbl) (hsa : shK a = some (.inr (t, n1))) (hsb : shK b = some (.inr (t, n2))) (ht : t ≤ 1) (ha : a < hN h) (hb : b < hN h) (hi1 : i1 = nI sp) (hi2 : i2 = nI dp) (hi3 : i3 = nI n) (h4 : sp + n ≤ n1) (h5 : dp + n ≤ n2) (hfit : t = 1 → ∀ i, i < n → fits .byte (.int (hI h a (sp + i))) = true) (hst : (st.map fun v => v.category).sum ≤ 8)
    (kk : AW X mt (d + 1) kc ks (pc + 3) ls st (rI h b (va_cpy (hI h a) (hI h b) sp dp n)) Q) : AW X mt (d + 1) kc ks pc ls (.int i3 :: .int i2 :: .ref b :: .int i1 :: .ref a :: st) h Q := by
  subst hi1; subst hi2; subst hi3
  intro p l e R s m args below meth c A G cls Z H locs cells slots ad lsA C F D hc hs2 hA
  obtain ⟨hx, hb2, hml, hown, hw, -, hls, -, -, -, hK, hE, hd1, hd2⟩ := id C
  have l1 := (shK_len hsa).2
  have l2 := (shK_len hsb).2
  have hga : (wld cls ad h)[a]? = some (ad a, .inl (cls t, n1, .inl (hI h a))) := by
    rw [wld_get ha, ce_arr hsa]; unfold aC; rw [if_pos (by omega)]
  have hgb : (wld cls ad h)[b]? = some (ad b, .inl (cls t, n2, .inl (hI h b))) := by
    rw [wld_get hb, ce_arr hsb]; unfold aC; rw [if_pos (by omega)]
  have hset : (wld cls ad h).set b (ad b, .inl (cls t, n2, .inl (va_cpy (hI h a) (hI h b) sp dp n))) = wld cls ad (rI h b (va_cpy (hI h a) (hI h b) sp dp n)) := by
    refine wld_set hN_rI (fun q z => ce_congr (upr_row z) rfl (fun _ => rfl)) ?_ hb
    rw [ce_arr hsb]
    have e : hI (rI h b (va_cpy (hI h a) (hI h b) sp dp n)) b = va_cpy (hI h a) (hI h b) sp dp n := if_pos rfl
    unfold aC
    rw [if_pos (by omega), e]
  have c1 : (nI sp).toNatClampNeg = sp := nI_clamp (by omega)
  have c2 : (nI dp).toNatClampNeg = dp := nI_clamp (by omega)
  have c3 : (nI n).toNatClampNeg = n := nI_clamp (by omega)
  have hcat := cat_rest (ad := ad) hst
  have go : ∀ (H1 : Heap) (locs1 : List Loc), va_P G vwCl ((wld cls ad h).set b (ad b, .inl (cls t, n2, .inl (va_cpy (hI h a) (hI h b) (nI sp).toNatClampNeg (nI dp).toNatClampNeg (nI n).toNatClampNeg)))) H1 → va_D A ((wld cls ad h).set b (ad b, .inl (cls t, n2, .inl (va_cpy (hI h a) (hI h b) (nI sp).toNatClampNeg (nI dp).toNatClampNeg (nI n).toNatClampNeg)))) → va_S A s.heap H1 locs1 → W p l e R s m args below meth c H1 locs1 cells slots Z (F0 m (pc + 3) lsA (st.map (cv ad))) := by
    intro H1 locs1 z1 z2 z3
    rw [c1, c2, c3, hset] at z1 z2
    exact kk p l e R s m args below meth c A G cls Z H1 locs1 cells slots ad lsA C F ⟨z1, z2, z3, wfh_rI D.2.2.2.1, D.2.2.2.2⟩ hc hs2 hA
  have hwords : nativeFrameWords "java/lang/System" "arraycopy" 5 + 11 ≤ 32 := by decide
  rcases (by omega : t = 0 ∨ t = 1) with rfl | rfl
  · exact va_copyi hx hb2 (hml.trans hA.1.symm) hown (hw _ hl rfl) (hw _ acp_in.1 rfl) (hw _ acp_in.2.1 rfl) (hw _ acp_in.2.2 rfl) hK D.1 D.2.1 D.2.2.1 a b 0 0 (ty := .int) hga hgb rfl rfl rfl (nI_pos (by omega)) (nI_pos (by omega)) (nI_pos (by omega)) (by rw [c1, c3]; exact h4) (by rw [c2, c3]; exact h5) (fun _ _ => rfl) (by omega) (by omega) hd go
  · exact va_copyi hx hb2 (hml.trans hA.1.symm) hown (hw _ hl rfl) (hw _ acp_in.1 rfl) (hw _ acp_in.2.1 rfl) (hw _ acp_in.2.2 rfl) hK D.1 D.2.1 D.2.2.1 a b 1 1 (ty := .byte) hga hgb rfl rfl rfl (nI_pos (by omega)) (nI_pos (by omega)) (nI_pos (by omega)) (by rw [c1, c3]; exact h4) (by rw [c2, c3]; exact h5) (fun i hi => by rw [c1]; exact hfit rfl i (by rw [c3] at hi; exact hi)) (by omega) (by omega) hd go
end RW11
end
section
theorem zz_end : True := trivial
end
