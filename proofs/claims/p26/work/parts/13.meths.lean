/-! the methods, and the words that their calls and fields want (by program) -/
theorem tbi {w : Cond} (i : Nat) (h : tables_1[i]? = some w) : w ∈ lw_tb2 := List.mem_append_left _ (List.mem_append_right _ (List.mem_of_getElem? h))
theorem tbj {w : Cond} (i : Nat) (h : tables_1[i]? = some w) : w ∈ tables_1 := List.mem_of_getElem? h
theorem sli {w : Cond} (i : Nat) (h : (lw_privs[i]?).map (fun q => Cond.selects q.1.cls q.1 q.1) = some w) : w ∈ lw_tb2 := List.mem_append_left _ (List.mem_append_left _ (List.mem_of_getElem? (i := i) (by rw [k2_sels, List.getElem?_map]; exact h)))
theorem jsi {w : Cond} (i : Nat) (h : (jPr.map (fun y => Cond.selects RJ4 y y))[i]? = some w) : w ∈ lw_tb2 := List.mem_append_right _ (List.mem_of_getElem? h)
def mX0_init : MT := (yX0_init, cX0_init, 1, none, [])
theorem ceX0_init : CE mX0_init 0 := ⟨⟨tbi 142 (by decide +kernel), tbi 5 (by decide +kernel)⟩, ⟨by decide +kernel, by decide +kernel, by decide +kernel⟩, by decide⟩
def mX0_clear : MT := (yX0_clear, cX0_clear, 1, none, [])
theorem ceX0_clear : CE mX0_clear 0 := ⟨⟨tbi 765 (by decide +kernel), tbi 5 (by decide +kernel)⟩, ⟨by decide +kernel, by decide +kernel, by decide +kernel⟩, by decide⟩
def mX0_give : MT := (yX0_give, cX0_give, 3, some .boolean, [])
theorem ceX0_give : CE mX0_give 1 := ⟨⟨tbi 771 (by decide +kernel), tbi 5 (by decide +kernel)⟩, ⟨by decide +kernel, by decide +kernel, by decide +kernel⟩, by decide⟩
def mX0_findCell : MT := (yX0_findCell, cX0_findCell, 6, some .boolean, [])
theorem ceX0_findCell : CE mX0_findCell 2 := ⟨⟨tbi 775 (by decide +kernel), tbi 5 (by decide +kernel)⟩, ⟨by decide +kernel, by decide +kernel, by decide +kernel⟩, by decide⟩
def mX0_canMove : MT := (yX0_canMove, cX0_canMove, 3, some .boolean, [])
theorem ceX0_canMove : CE mX0_canMove 2 := ⟨⟨tbi 780 (by decide +kernel), tbi 5 (by decide +kernel)⟩, ⟨by decide +kernel, by decide +kernel, by decide +kernel⟩, by decide⟩
def mX1_init : MT := (yX1_init, cX1_init, 1, none, [])
theorem ceX1_init : CE mX1_init 0 := ⟨⟨tbi 162 (by decide +kernel), tbi 6 (by decide +kernel)⟩, ⟨by decide +kernel, by decide +kernel, by decide +kernel⟩, by decide⟩
def mX1_spotOfCut : MT := (yX1_spotOfCut, cX1_spotOfCut, 2, some .int, [])
theorem ceX1_spotOfCut : CE mX1_spotOfCut 1 := ⟨⟨tbi 819 (by decide +kernel), tbi 6 (by decide +kernel)⟩, ⟨by decide +kernel, by decide +kernel, by decide +kernel⟩, by decide⟩
def mX1_lengthOfCut : MT := (yX1_lengthOfCut, cX1_lengthOfCut, 2, some .int, [])
theorem ceX1_lengthOfCut : CE mX1_lengthOfCut 1 := ⟨⟨tbi 815 (by decide +kernel), tbi 6 (by decide +kernel)⟩, ⟨by decide +kernel, by decide +kernel, by decide +kernel⟩, by decide⟩
def mX1_prepare : MT := (yX1_prepare, cX1_prepare, 4, none, [])
theorem ceX1_prepare : CE mX1_prepare 1 := ⟨⟨tbi 739 (by decide +kernel), tbi 6 (by decide +kernel)⟩, ⟨by decide +kernel, by decide +kernel, by decide +kernel⟩, by decide⟩
def mX1_boundSaved : MT := (yX1_boundSaved, cX1_boundSaved, 5, some .int, [])
theorem ceX1_boundSaved : CE mX1_boundSaved 1 := ⟨⟨tbi 753 (by decide +kernel), tbi 6 (by decide +kernel)⟩, ⟨by decide +kernel, by decide +kernel, by decide +kernel⟩, by decide⟩
def mX1_choose : MT := (yX1_choose, cX1_choose, 7, some .int, [])
theorem ceX1_choose : CE mX1_choose 1 := ⟨⟨tbi 757 (by decide +kernel), tbi 6 (by decide +kernel)⟩, ⟨by decide +kernel, by decide +kernel, by decide +kernel⟩, by decide⟩
def mX1_chooseCut : MT := (yX1_chooseCut, cX1_chooseCut, 9, some .int, [])
theorem ceX1_chooseCut : CE mX1_chooseCut 3 := ⟨⟨tbi 796 (by decide +kernel), tbi 6 (by decide +kernel)⟩, ⟨by decide +kernel, by decide +kernel, by decide +kernel⟩, by decide⟩
def mX1_freeStrip : MT := (yX1_freeStrip, cX1_freeStrip, 9, some .long, [])
theorem ceX1_freeStrip : CE mX1_freeStrip 4 := ⟨⟨tbi 792 (by decide +kernel), tbi 6 (by decide +kernel)⟩, ⟨by decide +kernel, by decide +kernel, by decide +kernel⟩, by decide⟩
def mX1_canSave : MT := (yX1_canSave, cX1_canSave, 8, some .boolean, [])
theorem ceX1_canSave : CE mX1_canSave 4 := ⟨⟨tbi 784 (by decide +kernel), tbi 6 (by decide +kernel)⟩, ⟨by decide +kernel, by decide +kernel, by decide +kernel⟩, by decide⟩
def mX1_canSaveAt : MT := (yX1_canSaveAt, cX1_canSaveAt, 10, some .boolean, [])
theorem ceX1_canSaveAt : CE mX1_canSaveAt 4 := ⟨⟨tbi 788 (by decide +kernel), tbi 6 (by decide +kernel)⟩, ⟨by decide +kernel, by decide +kernel, by decide +kernel⟩, by decide⟩
def mX1_canSpell : MT := (yX1_canSpell, cX1_canSpell, 7, some .boolean, [])
theorem ceX1_canSpell : CE mX1_canSpell 3 := ⟨⟨tbi 761 (by decide +kernel), tbi 6 (by decide +kernel)⟩, ⟨by decide +kernel, by decide +kernel, by decide +kernel⟩, by decide⟩
def mX2_init : MT := (yX2_init, cX2_init, 1, none, [])
theorem ceX2_init : CE mX2_init 0 := ⟨⟨tbi 101 (by decide +kernel), tbi 4 (by decide +kernel)⟩, ⟨by decide +kernel, by decide +kernel, by decide +kernel⟩, by decide⟩
def mX2_read : MT := (yX2_read, cX2_read, 4, some .int, [])
theorem ceX2_read : CE mX2_read 2 := ⟨⟨tbi 534 (by decide +kernel), tbi 4 (by decide +kernel)⟩, ⟨by decide +kernel, by decide +kernel, by decide +kernel⟩, by decide⟩
def mX2_readPage : MT := (yX2_readPage, cX2_readPage, 4, none, [])
theorem ceX2_readPage : CE mX2_readPage 0 := ⟨⟨tbi 543 (by decide +kernel), tbi 4 (by decide +kernel)⟩, ⟨by decide +kernel, by decide +kernel, by decide +kernel⟩, by decide⟩
def mX2_readStatement : MT := (yX2_readStatement, cX2_readStatement, 2, none, [])
theorem ceX2_readStatement : CE mX2_readStatement 0 := ⟨⟨tbi 582 (by decide +kernel), tbi 4 (by decide +kernel)⟩, ⟨by decide +kernel, by decide +kernel, by decide +kernel⟩, by decide⟩
def mX2_readLines : MT := (yX2_readLines, cX2_readLines, 3, none, [])
theorem ceX2_readLines : CE mX2_readLines 1 := ⟨⟨tbi 587 (by decide +kernel), tbi 4 (by decide +kernel)⟩, ⟨by decide +kernel, by decide +kernel, by decide +kernel⟩, by decide⟩
def mX2_readLine : MT := (yX2_readLine, cX2_readLine, 4, none, [])
theorem ceX2_readLine : CE mX2_readLine 1 := ⟨⟨tbi 591 (by decide +kernel), tbi 4 (by decide +kernel)⟩, ⟨by decide +kernel, by decide +kernel, by decide +kernel⟩, by decide⟩
def mX2_readSizes : MT := (yX2_readSizes, cX2_readSizes, 3, none, [])
theorem ceX2_readSizes : CE mX2_readSizes 0 := ⟨⟨tbi 597 (by decide +kernel), tbi 4 (by decide +kernel)⟩, ⟨by decide +kernel, by decide +kernel, by decide +kernel⟩, by decide⟩
def mX2_readNumber : MT := (yX2_readNumber, cX2_readNumber, 4, some .int, [])
theorem ceX2_readNumber : CE mX2_readNumber 1 := ⟨⟨tbi 569 (by decide +kernel), tbi 4 (by decide +kernel)⟩, ⟨by decide +kernel, by decide +kernel, by decide +kernel⟩, by decide⟩
def mX2_readSemicolon : MT := (yX2_readSemicolon, cX2_readSemicolon, 1, none, [])
theorem ceX2_readSemicolon : CE mX2_readSemicolon 0 := ⟨⟨tbi 573 (by decide +kernel), tbi 4 (by decide +kernel)⟩, ⟨by decide +kernel, by decide +kernel, by decide +kernel⟩, by decide⟩
def mX2_skipSpaces : MT := (yX2_skipSpaces, cX2_skipSpaces, 1, none, [])
theorem ceX2_skipSpaces : CE mX2_skipSpaces 0 := ⟨⟨tbi 547 (by decide +kernel), tbi 4 (by decide +kernel)⟩, ⟨by decide +kernel, by decide +kernel, by decide +kernel⟩, by decide⟩
def mX2_hasMore : MT := (yX2_hasMore, cX2_hasMore, 1, some .boolean, [])
theorem ceX2_hasMore : CE mX2_hasMore 0 := ⟨⟨tbi 578 (by decide +kernel), tbi 4 (by decide +kernel)⟩, ⟨by decide +kernel, by decide +kernel, by decide +kernel⟩, by decide⟩
def mX2_skipWord : MT := (yX2_skipWord, cX2_skipWord, 1, none, [])
theorem ceX2_skipWord : CE mX2_skipWord 0 := ⟨⟨tbi 551 (by decide +kernel), tbi 4 (by decide +kernel)⟩, ⟨by decide +kernel, by decide +kernel, by decide +kernel⟩, by decide⟩
def mX2_isWord : MT := (yX2_isWord, cX2_isWord, 4, some .boolean, [])
theorem ceX2_isWord : CE mX2_isWord 2 := ⟨⟨tbi 559 (by decide +kernel), tbi 4 (by decide +kernel)⟩, ⟨by decide +kernel, by decide +kernel, by decide +kernel⟩, by decide⟩
def mX2_fail : MT := (yX2_fail, cX2_fail, 3, none, [])
theorem ceX2_fail : CE mX2_fail 2 := ⟨⟨tbi 565 (by decide +kernel), tbi 4 (by decide +kernel)⟩, ⟨by decide +kernel, by decide +kernel, by decide +kernel⟩, by decide⟩
def mX3_init : MT := (yX3_init, cX3_init, 1, none, [])
theorem ceX3_init : CE mX3_init 0 := ⟨⟨tbi 40 (by decide +kernel), tbi 2 (by decide +kernel)⟩, ⟨by decide +kernel, by decide +kernel, by decide +kernel⟩, by decide⟩
def mX3_startAnew : MT := (yX3_startAnew, cX3_startAnew, 3, none, [])
theorem ceX3_startAnew : CE mX3_startAnew 2 := ⟨⟨tbi 45 (by decide +kernel), tbi 2 (by decide +kernel)⟩, ⟨by decide +kernel, by decide +kernel, by decide +kernel⟩, by decide⟩
def mX3_copyFrom : MT := (yX3_copyFrom, cX3_copyFrom, 2, none, [])
theorem ceX3_copyFrom : CE mX3_copyFrom 1 := ⟨⟨tbi 243 (by decide +kernel), tbi 2 (by decide +kernel)⟩, ⟨by decide +kernel, by decide +kernel, by decide +kernel⟩, by decide⟩
def mX3_countCells : MT := (yX3_countCells, cX3_countCells, 1, some .int, [])
theorem ceX3_countCells : CE mX3_countCells 0 := ⟨⟨tbi 610 (by decide +kernel), tbi 2 (by decide +kernel)⟩, ⟨by decide +kernel, by decide +kernel, by decide +kernel⟩, by decide⟩
def mX3_hasPlace : MT := (yX3_hasPlace, cX3_hasPlace, 3, some .boolean, [])
theorem ceX3_hasPlace : CE mX3_hasPlace 2 := ⟨⟨tbi 623 (by decide +kernel), tbi 2 (by decide +kernel)⟩, ⟨by decide +kernel, by decide +kernel, by decide +kernel⟩, by decide⟩
def mX3_hasSpot : MT := (yX3_hasSpot, cX3_hasSpot, 2, some .boolean, [])
theorem ceX3_hasSpot : CE mX3_hasSpot 1 := ⟨⟨tbi 672 (by decide +kernel), tbi 2 (by decide +kernel)⟩, ⟨by decide +kernel, by decide +kernel, by decide +kernel⟩, by decide⟩
def mX3_spotOf : MT := (yX3_spotOf, cX3_spotOf, 4, some .int, [])
theorem ceX3_spotOf : CE mX3_spotOf 2 := ⟨⟨tbi 643 (by decide +kernel), tbi 2 (by decide +kernel)⟩, ⟨by decide +kernel, by decide +kernel, by decide +kernel⟩, by decide⟩
def mX3_placeOf : MT := (yX3_placeOf, cX3_placeOf, 2, some .int, [])
theorem ceX3_placeOf : CE mX3_placeOf 1 := ⟨⟨tbi 661 (by decide +kernel), tbi 2 (by decide +kernel)⟩, ⟨by decide +kernel, by decide +kernel, by decide +kernel⟩, by decide⟩
def mX3_spotBehind : MT := (yX3_spotBehind, cX3_spotBehind, 3, some .int, [])
theorem ceX3_spotBehind : CE mX3_spotBehind 1 := ⟨⟨tbi 654 (by decide +kernel), tbi 2 (by decide +kernel)⟩, ⟨by decide +kernel, by decide +kernel, by decide +kernel⟩, by decide⟩
def mX3_cellOf : MT := (yX3_cellOf, cX3_cellOf, 2, some .int, [])
theorem ceX3_cellOf : CE mX3_cellOf 1 := ⟨⟨tbi 647 (by decide +kernel), tbi 2 (by decide +kernel)⟩, ⟨by decide +kernel, by decide +kernel, by decide +kernel⟩, by decide⟩
def mX3_letterAt : MT := (yX3_letterAt, cX3_letterAt, 2, some .int, [])
theorem ceX3_letterAt : CE mX3_letterAt 1 := ⟨⟨tbi 681 (by decide +kernel), tbi 2 (by decide +kernel)⟩, ⟨by decide +kernel, by decide +kernel, by decide +kernel⟩, by decide⟩
def mX3_sizeAt : MT := (yX3_sizeAt, cX3_sizeAt, 2, some .int, [])
theorem ceX3_sizeAt : CE mX3_sizeAt 1 := ⟨⟨tbi 668 (by decide +kernel), tbi 2 (by decide +kernel)⟩, ⟨by decide +kernel, by decide +kernel, by decide +kernel⟩, by decide⟩
def mX3_isThere : MT := (yX3_isThere, cX3_isThere, 2, some .boolean, [])
theorem ceX3_isThere : CE mX3_isThere 1 := ⟨⟨tbi 686 (by decide +kernel), tbi 2 (by decide +kernel)⟩, ⟨by decide +kernel, by decide +kernel, by decide +kernel⟩, by decide⟩
def mX3_canUse : MT := (yX3_canUse, cX3_canUse, 2, some .boolean, [])
theorem ceX3_canUse : CE mX3_canUse 1 := ⟨⟨tbi 677 (by decide +kernel), tbi 2 (by decide +kernel)⟩, ⟨by decide +kernel, by decide +kernel, by decide +kernel⟩, by decide⟩
def mX3_countThere : MT := (yX3_countThere, cX3_countThere, 1, some .int, [])
theorem ceX3_countThere : CE mX3_countThere 0 := ⟨⟨tbi 906 (by decide +kernel), tbi 2 (by decide +kernel)⟩, ⟨by decide +kernel, by decide +kernel, by decide +kernel⟩, by decide⟩
def mX3_countUsable : MT := (yX3_countUsable, cX3_countUsable, 3, some .int, [])
theorem ceX3_countUsable : CE mX3_countUsable 0 := ⟨⟨tbi 1217 (by decide +kernel), tbi 2 (by decide +kernel)⟩, ⟨by decide +kernel, by decide +kernel, by decide +kernel⟩, by decide⟩
def mX3_countUsableOf : MT := (yX3_countUsableOf, cX3_countUsableOf, 4, some .int, [])
theorem ceX3_countUsableOf : CE mX3_countUsableOf 1 := ⟨⟨tbi 712 (by decide +kernel), tbi 2 (by decide +kernel)⟩, ⟨by decide +kernel, by decide +kernel, by decide +kernel⟩, by decide⟩
def mX3_cellsWith : MT := (yX3_cellsWith, cX3_cellsWith, 5, some .long, [])
theorem ceX3_cellsWith : CE mX3_cellsWith 1 := ⟨⟨tbi 717 (by decide +kernel), tbi 2 (by decide +kernel)⟩, ⟨by decide +kernel, by decide +kernel, by decide +kernel⟩, by decide⟩
def mX3_hasMessageLetter : MT := (yX3_hasMessageLetter, cX3_hasMessageLetter, 2, some .boolean, [])
theorem ceX3_hasMessageLetter : CE mX3_hasMessageLetter 1 := ⟨⟨tbi 700 (by decide +kernel), tbi 2 (by decide +kernel)⟩, ⟨by decide +kernel, by decide +kernel, by decide +kernel⟩, by decide⟩
def mX3_messageAt : MT := (yX3_messageAt, cX3_messageAt, 2, some .int, [])
theorem ceX3_messageAt : CE mX3_messageAt 1 := ⟨⟨tbi 696 (by decide +kernel), tbi 2 (by decide +kernel)⟩, ⟨by decide +kernel, by decide +kernel, by decide +kernel⟩, by decide⟩
def mX3_countInMessage : MT := (yX3_countInMessage, cX3_countInMessage, 4, some .int, [])
theorem ceX3_countInMessage : CE mX3_countInMessage 1 := ⟨⟨tbi 692 (by decide +kernel), tbi 2 (by decide +kernel)⟩, ⟨by decide +kernel, by decide +kernel, by decide +kernel⟩, by decide⟩
def mX3_isStrip : MT := (yX3_isStrip, cX3_isStrip, 4, some .boolean, [])
theorem ceX3_isStrip : CE mX3_isStrip 2 := ⟨⟨tbi 898 (by decide +kernel), tbi 2 (by decide +kernel)⟩, ⟨by decide +kernel, by decide +kernel, by decide +kernel⟩, by decide⟩
def mX3_cellsOfStrip : MT := (yX3_cellsOfStrip, cX3_cellsOfStrip, 6, some .long, [])
theorem ceX3_cellsOfStrip : CE mX3_cellsOfStrip 2 := ⟨⟨tbi 902 (by decide +kernel), tbi 2 (by decide +kernel)⟩, ⟨by decide +kernel, by decide +kernel, by decide +kernel⟩, by decide⟩
def mX3_lettersFrom : MT := (yX3_lettersFrom, cX3_lettersFrom, 5, some .int, [])
theorem ceX3_lettersFrom : CE mX3_lettersFrom 2 := ⟨⟨tbi 749 (by decide +kernel), tbi 2 (by decide +kernel)⟩, ⟨by decide +kernel, by decide +kernel, by decide +kernel⟩, by decide⟩
def mX3_take : MT := (yX3_take, cX3_take, 4, none, [])
theorem ceX3_take : CE mX3_take 2 := ⟨⟨tbi 885 (by decide +kernel), tbi 2 (by decide +kernel)⟩, ⟨by decide +kernel, by decide +kernel, by decide +kernel⟩, by decide⟩
def mX4_init : MT := (yX4_init, cX4_init, 2, none, [])
theorem ceX4_init : CE mX4_init 0 := ⟨⟨tbi 32 (by decide +kernel), tbi 1 (by decide +kernel)⟩, ⟨by decide +kernel, by decide +kernel, by decide +kernel⟩, by decide⟩
def mX4_append : MT := (yX4_append, cX4_append, 6, some .int, [])
theorem ceX4_append : CE mX4_append 5 := ⟨⟨tbi 940 (by decide +kernel), tbi 1 (by decide +kernel)⟩, ⟨by decide +kernel, by decide +kernel, by decide +kernel⟩, by decide⟩
def mX4_load : MT := (yX4_load, cX4_load, 3, some .int, [])
theorem ceX4_load : CE mX4_load 1 := ⟨⟨tbi 465 (by decide +kernel), tbi 1 (by decide +kernel)⟩, ⟨by decide +kernel, by decide +kernel, by decide +kernel⟩, by decide⟩
def mX4_errorOffset : MT := (yX4_errorOffset, cX4_errorOffset, 1, some .int, [])
theorem ceX4_errorOffset : CE mX4_errorOffset 0 := ⟨⟨tbi 235 (by decide +kernel), tbi 1 (by decide +kernel)⟩, ⟨by decide +kernel, by decide +kernel, by decide +kernel⟩, by decide⟩
def mX4_state : MT := (yX4_state, cX4_state, 2, some .int, [])
theorem ceX4_state : CE mX4_state 1 := ⟨⟨tbi 1213 (by decide +kernel), tbi 1 (by decide +kernel)⟩, ⟨by decide +kernel, by decide +kernel, by decide +kernel⟩, by decide⟩
def mX4_letter : MT := (yX4_letter, cX4_letter, 3, some .int, [])
theorem ceX4_letter : CE mX4_letter 2 := ⟨⟨tbi 1266 (by decide +kernel), tbi 1 (by decide +kernel)⟩, ⟨by decide +kernel, by decide +kernel, by decide +kernel⟩, by decide⟩
def mX4_place : MT := (yX4_place, cX4_place, 5, some .int, [])
theorem ceX4_place : CE mX4_place 3 := ⟨⟨tbi 619 (by decide +kernel), tbi 1 (by decide +kernel)⟩, ⟨by decide +kernel, by decide +kernel, by decide +kernel⟩, by decide⟩
def mX4_stock : MT := (yX4_stock, cX4_stock, 3, some .int, [])
theorem ceX4_stock : CE mX4_stock 2 := ⟨⟨tbi 708 (by decide +kernel), tbi 1 (by decide +kernel)⟩, ⟨by decide +kernel, by decide +kernel, by decide +kernel⟩, by decide⟩
def mX4_message : MT := (yX4_message, cX4_message, 2, some .int, [])
theorem ceX4_message : CE mX4_message 1 := ⟨⟨tbi 1273 (by decide +kernel), tbi 1 (by decide +kernel)⟩, ⟨by decide +kernel, by decide +kernel, by decide +kernel⟩, by decide⟩
def mX4_missing : MT := (yX4_missing, cX4_missing, 3, some .int, [])
theorem ceX4_missing : CE mX4_missing 0 := ⟨⟨tbi 855 (by decide +kernel), tbi 1 (by decide +kernel)⟩, ⟨by decide +kernel, by decide +kernel, by decide +kernel⟩, by decide⟩
def mX4_cutOf : MT := (yX4_cutOf, cX4_cutOf, 3, some .int, [])
theorem ceX4_cutOf : CE mX4_cutOf 2 := ⟨⟨tbi 731 (by decide +kernel), tbi 1 (by decide +kernel)⟩, ⟨by decide +kernel, by decide +kernel, by decide +kernel⟩, by decide⟩
def mX4_longest : MT := (yX4_longest, cX4_longest, 4, some .int, [])
theorem ceX4_longest : CE mX4_longest 1 := ⟨⟨tbi 836 (by decide +kernel), tbi 1 (by decide +kernel)⟩, ⟨by decide +kernel, by decide +kernel, by decide +kernel⟩, by decide⟩
def mX4_clashes : MT := (yX4_clashes, cX4_clashes, 3, some .int, [])
theorem ceX4_clashes : CE mX4_clashes 0 := ⟨⟨tbi 1226 (by decide +kernel), tbi 1 (by decide +kernel)⟩, ⟨by decide +kernel, by decide +kernel, by decide +kernel⟩, by decide⟩
def mX4_tell : MT := (yX4_tell, cX4_tell, 3, some .int, [])
theorem ceX4_tell : CE mX4_tell 1 := ⟨⟨tbi 846 (by decide +kernel), tbi 1 (by decide +kernel)⟩, ⟨by decide +kernel, by decide +kernel, by decide +kernel⟩, by decide⟩
def mX4_cut : MT := (yX4_cut, cX4_cut, 2, some .int, [])
theorem ceX4_cut : CE mX4_cut 0 := ⟨⟨tbi 866 (by decide +kernel), tbi 1 (by decide +kernel)⟩, ⟨by decide +kernel, by decide +kernel, by decide +kernel⟩, by decide⟩
def mX4_snip : MT := (yX4_snip, cX4_snip, 5, some .int, [])
theorem ceX4_snip : CE mX4_snip 3 := ⟨⟨tbi 894 (by decide +kernel), tbi 1 (by decide +kernel)⟩, ⟨by decide +kernel, by decide +kernel, by decide +kernel⟩, by decide⟩
def mX4_least : MT := (yX4_least, cX4_least, 3, some .int, [])
theorem ceX4_least : CE mX4_least 1 := ⟨⟨tbi 913 (by decide +kernel), tbi 1 (by decide +kernel)⟩, ⟨by decide +kernel, by decide +kernel, by decide +kernel⟩, by decide⟩
def mX4_mend : MT := (yX4_mend, cX4_mend, 3, some .int, [])
theorem ceX4_mend : CE mX4_mend 1 := ⟨⟨tbi 920 (by decide +kernel), tbi 1 (by decide +kernel)⟩, ⟨by decide +kernel, by decide +kernel, by decide +kernel⟩, by decide⟩
def mX4_undo : MT := (yX4_undo, cX4_undo, 2, some .int, [])
theorem ceX4_undo : CE mX4_undo 0 := ⟨⟨tbi 239 (by decide +kernel), tbi 1 (by decide +kernel)⟩, ⟨by decide +kernel, by decide +kernel, by decide +kernel⟩, by decide⟩
def mX4_checksum : MT := (yX4_checksum, cX4_checksum, 4, some .long, [])
theorem ceX4_checksum : CE mX4_checksum 0 := ⟨⟨tbi 1208 (by decide +kernel), tbi 1 (by decide +kernel)⟩, ⟨by decide +kernel, by decide +kernel, by decide +kernel⟩, by decide⟩
def mX4_putWord : MT := (yX4_putWord, cX4_putWord, 3, none, [])
theorem ceX4_putWord : CE mX4_putWord 1 := ⟨⟨tbi 944 (by decide +kernel), tbi 1 (by decide +kernel)⟩, ⟨by decide +kernel, by decide +kernel, by decide +kernel⟩, by decide⟩
def mX4_startsWithLetters : MT := (yX4_startsWithLetters, cX4_startsWithLetters, 3, some .boolean, [])
theorem ceX4_startsWithLetters : CE mX4_startsWithLetters 1 := ⟨⟨tbi 850 (by decide +kernel), tbi 1 (by decide +kernel)⟩, ⟨by decide +kernel, by decide +kernel, by decide +kernel⟩, by decide⟩
def mX4_remember : MT := (yX4_remember, cX4_remember, 2, none, [])
theorem ceX4_remember : CE mX4_remember 0 := ⟨⟨tbi 602 (by decide +kernel), tbi 1 (by decide +kernel)⟩, ⟨by decide +kernel, by decide +kernel, by decide +kernel⟩, by decide⟩
def mX4_makeOldestFinal : MT := (yX4_makeOldestFinal, cX4_makeOldestFinal, 3, none, [])
theorem ceX4_makeOldestFinal : CE mX4_makeOldestFinal 0 := ⟨⟨tbi 606 (by decide +kernel), tbi 1 (by decide +kernel)⟩, ⟨by decide +kernel, by decide +kernel, by decide +kernel⟩, by decide⟩
def mX4_letterOrGone : MT := (yX4_letterOrGone, cX4_letterOrGone, 2, some .int, [])
theorem ceX4_letterOrGone : CE mX4_letterOrGone 1 := ⟨⟨tbi 1222 (by decide +kernel), tbi 1 (by decide +kernel)⟩, ⟨by decide +kernel, by decide +kernel, by decide +kernel⟩, by decide⟩
def mX4_isUsedByMessage : MT := (yX4_isUsedByMessage, cX4_isUsedByMessage, 2, some .boolean, [])
theorem ceX4_isUsedByMessage : CE mX4_isUsedByMessage 1 := ⟨⟨tbi 1230 (by decide +kernel), tbi 1 (by decide +kernel)⟩, ⟨by decide +kernel, by decide +kernel, by decide +kernel⟩, by decide⟩
def mX4_bestCuts : MT := (yX4_bestCuts, cX4_bestCuts, 1, some .int, [])
theorem ceX4_bestCuts : CE mX4_bestCuts 0 := ⟨⟨tbi 735 (by decide +kernel), tbi 1 (by decide +kernel)⟩, ⟨by decide +kernel, by decide +kernel, by decide +kernel⟩, by decide⟩
def mX4_sizeOfCut : MT := (yX4_sizeOfCut, cX4_sizeOfCut, 2, some .int, [])
theorem ceX4_sizeOfCut : CE mX4_sizeOfCut 1 := ⟨⟨tbi 828 (by decide +kernel), tbi 1 (by decide +kernel)⟩, ⟨by decide +kernel, by decide +kernel, by decide +kernel⟩, by decide⟩
def mX4_sizesOfCut : MT := (yX4_sizesOfCut, cX4_sizesOfCut, 2, some .int, [])
theorem ceX4_sizesOfCut : CE mX4_sizesOfCut 1 := ⟨⟨tbi 824 (by decide +kernel), tbi 1 (by decide +kernel)⟩, ⟨by decide +kernel, by decide +kernel, by decide +kernel⟩, by decide⟩
def mX4_isLetter : MT := (yX4_isLetter, cX4_isLetter, 1, some .boolean, [])
theorem ceX4_isLetter : CE mX4_isLetter 1 := ⟨⟨tbi 554 (by decide +kernel), tbi 1 (by decide +kernel)⟩, ⟨by decide +kernel, by decide +kernel, by decide +kernel⟩, by decide⟩
def mX4_sideOf : MT := (yX4_sideOf, cX4_sideOf, 1, some .int, [])
theorem ceX4_sideOf : CE mX4_sideOf 1 := ⟨⟨tbi 650 (by decide +kernel), tbi 1 (by decide +kernel)⟩, ⟨by decide +kernel, by decide +kernel, by decide +kernel⟩, by decide⟩
def mX4_rowOf : MT := (yX4_rowOf, cX4_rowOf, 1, some .int, [])
theorem ceX4_rowOf : CE mX4_rowOf 1 := ⟨⟨tbi 664 (by decide +kernel), tbi 1 (by decide +kernel)⟩, ⟨by decide +kernel, by decide +kernel, by decide +kernel⟩, by decide⟩
def mX4_columnOf : MT := (yX4_columnOf, cX4_columnOf, 1, some .int, [])
theorem ceX4_columnOf : CE mX4_columnOf 1 := ⟨⟨tbi 657 (by decide +kernel), tbi 1 (by decide +kernel)⟩, ⟨by decide +kernel, by decide +kernel, by decide +kernel⟩, by decide⟩
def mX5_init : MT := (yX5_init, cX5_init, 2, none, [])
theorem ceX5_init : CE mX5_init 1 := ⟨⟨tbi 251 (by decide +kernel), tbi 7 (by decide +kernel)⟩, ⟨by decide +kernel, by decide +kernel, by decide +kernel⟩, by decide⟩
def mX5_below : MT := (yX5_below, cX5_below, 2, some .int, [])
theorem ceX5_below : CE mX5_below 1 := ⟨⟨tbi 260 (by decide +kernel), tbi 7 (by decide +kernel)⟩, ⟨by decide +kernel, by decide +kernel, by decide +kernel⟩, by decide⟩
def mX6_init : MT := (yX6_init, cX6_init, 1, none, [])
theorem ceX6_init : CE mX6_init 0 := ⟨⟨tbi 266 (by decide +kernel), tbi 8 (by decide +kernel)⟩, ⟨by decide +kernel, by decide +kernel, by decide +kernel⟩, by decide⟩
def mX6_copy : MT := (yX6_copy, cX6_copy, 2, some (.object "LetterCutsLaw$Sheet"), [])
theorem ceX6_copy : CE mX6_copy 0 := ⟨⟨tbi 323 (by decide +kernel), tbi 8 (by decide +kernel)⟩, ⟨by decide +kernel, by decide +kernel, by decide +kernel⟩, by decide⟩
def mX6_all : MT := (yX6_all, cX6_all, 1, some .int, [])
theorem ceX6_all : CE mX6_all 0 := ⟨⟨tbi 336 (by decide +kernel), tbi 8 (by decide +kernel)⟩, ⟨by decide +kernel, by decide +kernel, by decide +kernel⟩, by decide⟩
def mX6_sign : MT := (yX6_sign, cX6_sign, 3, some .char, [])
theorem ceX6_sign : CE mX6_sign 2 := ⟨⟨tbi 405 (by decide +kernel), tbi 8 (by decide +kernel)⟩, ⟨by decide +kernel, by decide +kernel, by decide +kernel⟩, by decide⟩
def mX6_size : MT := (yX6_size, cX6_size, 3, some .int, [])
theorem ceX6_size : CE mX6_size 2 := ⟨⟨tbi 409 (by decide +kernel), tbi 8 (by decide +kernel)⟩, ⟨by decide +kernel, by decide +kernel, by decide +kernel⟩, by decide⟩
def mX6_cell : MT := (yX6_cell, cX6_cell, 4, some .int, [])
theorem ceX6_cell : CE mX6_cell 2 := ⟨⟨tbi 397 (by decide +kernel), tbi 8 (by decide +kernel)⟩, ⟨by decide +kernel, by decide +kernel, by decide +kernel⟩, by decide⟩
def mX6_canUse : MT := (yX6_canUse, cX6_canUse, 3, some .boolean, [])
theorem ceX6_canUse : CE mX6_canUse 2 := ⟨⟨tbi 401 (by decide +kernel), tbi 8 (by decide +kernel)⟩, ⟨by decide +kernel, by decide +kernel, by decide +kernel⟩, by decide⟩
def mX6_has : MT := (yX6_has, cX6_has, 5, some .boolean, [])
theorem ceX6_has : CE mX6_has 2 := ⟨⟨tbi 393 (by decide +kernel), tbi 8 (by decide +kernel)⟩, ⟨by decide +kernel, by decide +kernel, by decide +kernel⟩, by decide⟩
def mX6_letter : MT := (yX6_letter, cX6_letter, 3, some .int, [])
theorem ceX6_letter : CE mX6_letter 2 := ⟨⟨tbi 1244 (by decide +kernel), tbi 8 (by decide +kernel)⟩, ⟨by decide +kernel, by decide +kernel, by decide +kernel⟩, by decide⟩
def mX6_many : MT := (yX6_many, cX6_many, 4, some .int, [])
theorem ceX6_many : CE mX6_many 1 := ⟨⟨tbi 1255 (by decide +kernel), tbi 8 (by decide +kernel)⟩, ⟨by decide +kernel, by decide +kernel, by decide +kernel⟩, by decide⟩
def mX6_missing : MT := (yX6_missing, cX6_missing, 7, some .int, [])
theorem ceX6_missing : CE mX6_missing 0 := ⟨⟨tbi 340 (by decide +kernel), tbi 8 (by decide +kernel)⟩, ⟨by decide +kernel, by decide +kernel, by decide +kernel⟩, by decide⟩
def mX6_isStrip : MT := (yX6_isStrip, cX6_isStrip, 5, some .boolean, [])
theorem ceX6_isStrip : CE mX6_isStrip 3 := ⟨⟨tbi 422 (by decide +kernel), tbi 8 (by decide +kernel)⟩, ⟨by decide +kernel, by decide +kernel, by decide +kernel⟩, by decide⟩
def mX6_says : MT := (yX6_says, cX6_says, 6, some .boolean, [])
theorem ceX6_says : CE mX6_says 4 := ⟨⟨tbi 438 (by decide +kernel), tbi 8 (by decide +kernel)⟩, ⟨by decide +kernel, by decide +kernel, by decide +kernel⟩, by decide⟩
def mX6_isAhead : MT := (yX6_isAhead, cX6_isAhead, 3, some .boolean, [])
theorem ceX6_isAhead : CE mX6_isAhead 1 := ⟨⟨tbi 434 (by decide +kernel), tbi 8 (by decide +kernel)⟩, ⟨by decide +kernel, by decide +kernel, by decide +kernel⟩, by decide⟩
def mX6_tries : MT := (yX6_tries, cX6_tries, 8, none, [])
theorem ceX6_tries : CE mX6_tries 2 := ⟨⟨tbi 430 (by decide +kernel), tbi 8 (by decide +kernel)⟩, ⟨by decide +kernel, by decide +kernel, by decide +kernel⟩, by decide⟩
def mX6_plan : MT := (yX6_plan, cX6_plan, 1, some .int, [])
theorem ceX6_plan : CE mX6_plan 0 := ⟨⟨tbi 426 (by decide +kernel), tbi 8 (by decide +kernel)⟩, ⟨by decide +kernel, by decide +kernel, by decide +kernel⟩, by decide⟩
def mX6_ofCut : MT := (yX6_ofCut, cX6_ofCut, 6, some .int, [])
theorem ceX6_ofCut : CE mX6_ofCut 2 := ⟨⟨tbi 452 (by decide +kernel), tbi 8 (by decide +kernel)⟩, ⟨by decide +kernel, by decide +kernel, by decide +kernel⟩, by decide⟩
def mX6_cutsOff : MT := (yX6_cutsOff, cX6_cutsOff, 5, none, [])
theorem ceX6_cutsOff : CE mX6_cutsOff 3 := ⟨⟨tbi 444 (by decide +kernel), tbi 8 (by decide +kernel)⟩, ⟨by decide +kernel, by decide +kernel, by decide +kernel⟩, by decide⟩
def mX6_cutsPlan : MT := (yX6_cutsPlan, cX6_cutsPlan, 3, none, [])
theorem ceX6_cutsPlan : CE mX6_cutsPlan 1 := ⟨⟨tbi 448 (by decide +kernel), tbi 8 (by decide +kernel)⟩, ⟨by decide +kernel, by decide +kernel, by decide +kernel⟩, by decide⟩
def mX6_there : MT := (yX6_there, cX6_there, 6, some .int, [])
theorem ceX6_there : CE mX6_there 0 := ⟨⟨tbi 457 (by decide +kernel), tbi 8 (by decide +kernel)⟩, ⟨by decide +kernel, by decide +kernel, by decide +kernel⟩, by decide⟩
def mX6_clashes : MT := (yX6_clashes, cX6_clashes, 6, some .int, [])
theorem ceX6_clashes : CE mX6_clashes 0 := ⟨⟨tbi 1251 (by decide +kernel), tbi 8 (by decide +kernel)⟩, ⟨by decide +kernel, by decide +kernel, by decide +kernel⟩, by decide⟩
def mX6_told : MT := (yX6_told, cX6_told, 5, some .int, [])
theorem ceX6_told : CE mX6_told 1 := ⟨⟨tbi 1239 (by decide +kernel), tbi 8 (by decide +kernel)⟩, ⟨by decide +kernel, by decide +kernel, by decide +kernel⟩, by decide⟩
def mX6_checksum : MT := (yX6_checksum, cX6_checksum, 5, some .long, [])
theorem ceX6_checksum : CE mX6_checksum 0 := ⟨⟨tbi 1234 (by decide +kernel), tbi 8 (by decide +kernel)⟩, ⟨by decide +kernel, by decide +kernel, by decide +kernel⟩, by decide⟩
def mJ5_init_d00df : MT := (yJ5_init_d00df, cJ5_init_d00df, 2, none, [])
theorem ceJ5_init_d00df : CE mJ5_init_d00df 1 := ⟨⟨tbi 956 (by decide +kernel), tbi 25 (by decide +kernel)⟩, ⟨by decide +kernel, by decide +kernel, by decide +kernel⟩, by decide⟩
def mJ5_length_8abf5 : MT := (yJ5_length_8abf5, cJ5_length_8abf5, 1, some .int, [])
theorem ceJ5_length_8abf5 : CE mJ5_length_8abf5 0 := ⟨⟨tbi 1110 (by decide +kernel), tbi 25 (by decide +kernel)⟩, ⟨by decide +kernel, by decide +kernel, by decide +kernel⟩, by decide⟩
def mJ5_ensureCapacityInternal_d00df : MT := (yJ5_ensureCapacityInternal_d00df, cJ5_ensureCapacityInternal_d00df, 3, none, [])
theorem ceJ5_ensureCapacityInternal_d00df : CE mJ5_ensureCapacityInternal_d00df 1 := ⟨⟨tbi 993 (by decide +kernel), tbi 25 (by decide +kernel)⟩, ⟨by decide +kernel, by decide +kernel, by decide +kernel⟩, by decide⟩
def mJ5_newCapacity_0f7a4 : MT := (yJ5_newCapacity_0f7a4, cJ5_newCapacity_0f7a4, 6, some .int, [])
theorem ceJ5_newCapacity_0f7a4 : CE mJ5_newCapacity_0f7a4 1 := ⟨⟨tbi 997 (by decide +kernel), tbi 25 (by decide +kernel)⟩, ⟨by decide +kernel, by decide +kernel, by decide +kernel⟩, by decide⟩
def mJ5_inflate_da8c8 : MT := (yJ5_inflate_da8c8, cJ5_inflate_da8c8, 2, none, [])
theorem ceJ5_inflate_da8c8 : CE mJ5_inflate_da8c8 0 := ⟨⟨tbi 1050 (by decide +kernel), tbi 25 (by decide +kernel)⟩, ⟨by decide +kernel, by decide +kernel, by decide +kernel⟩, by decide⟩
def mJ5_append_cf1ce : MT := (yJ5_append_cf1ce, cJ5_append_cf1ce, 3, some (.object "java/lang/AbstractStringBuilder"), [])
theorem ceJ5_append_cf1ce : CE mJ5_append_cf1ce 1 := ⟨⟨tbi 985 (by decide +kernel), tbi 25 (by decide +kernel)⟩, ⟨by decide +kernel, by decide +kernel, by decide +kernel⟩, by decide⟩
def mJ5_appendNull_278bc : MT := (yJ5_appendNull_278bc, cJ5_appendNull_278bc, 3, some (.object "java/lang/AbstractStringBuilder"), [])
theorem ceJ5_appendNull_278bc : CE mJ5_appendNull_278bc 0 := ⟨⟨tbi 989 (by decide +kernel), tbi 25 (by decide +kernel)⟩, ⟨by decide +kernel, by decide +kernel, by decide +kernel⟩, by decide⟩
def mJ5_append_3fe6f : MT := (yJ5_append_3fe6f, cJ5_append_3fe6f, 2, some (.object "java/lang/AbstractStringBuilder"), [])
theorem ceJ5_append_3fe6f : CE mJ5_append_3fe6f 1 := ⟨⟨tbi 1078 (by decide +kernel), tbi 25 (by decide +kernel)⟩, ⟨by decide +kernel, by decide +kernel, by decide +kernel⟩, by decide⟩
def mJ5_append_c97b9 : MT := (yJ5_append_c97b9, cJ5_append_c97b9, 4, some (.object "java/lang/AbstractStringBuilder"), [])
theorem ceJ5_append_c97b9 : CE mJ5_append_c97b9 1 := ⟨⟨tbi 1130 (by decide +kernel), tbi 25 (by decide +kernel)⟩, ⟨by decide +kernel, by decide +kernel, by decide +kernel⟩, by decide⟩
def mJ5_getValue_6d5f1 : MT := (yJ5_getValue_6d5f1, cJ5_getValue_6d5f1, 1, some (.array Jvm.ClassFile.FieldType.byte), [])
theorem ceJ5_getValue_6d5f1 : CE mJ5_getValue_6d5f1 0 := ⟨⟨tbi 1102 (by decide +kernel), tbi 25 (by decide +kernel)⟩, ⟨by decide +kernel, by decide +kernel, by decide +kernel⟩, by decide⟩
def mJ5_isLatin1_aae02 : MT := (yJ5_isLatin1_aae02, cJ5_isLatin1_aae02, 1, some .boolean, [])
theorem ceJ5_isLatin1_aae02 : CE mJ5_isLatin1_aae02 0 := ⟨⟨tbi 1021 (by decide +kernel), tbi 25 (by decide +kernel)⟩, ⟨by decide +kernel, by decide +kernel, by decide +kernel⟩, by decide⟩
def mJ5_inflateIfNeededFor_a7421 : MT := (yJ5_inflateIfNeededFor_a7421, cJ5_inflateIfNeededFor_a7421, 2, none, [])
theorem ceJ5_inflateIfNeededFor_a7421 : CE mJ5_inflateIfNeededFor_a7421 1 := ⟨⟨tbi 1045 (by decide +kernel), tbi 25 (by decide +kernel)⟩, ⟨by decide +kernel, by decide +kernel, by decide +kernel⟩, by decide⟩
def mJ5_putStringAt_47b60 : MT := (yJ5_putStringAt_47b60, cJ5_putStringAt_47b60, 3, none, [])
theorem ceJ5_putStringAt_47b60 : CE mJ5_putStringAt_47b60 2 := ⟨⟨tbi 1041 (by decide +kernel), tbi 25 (by decide +kernel)⟩, ⟨by decide +kernel, by decide +kernel, by decide +kernel⟩, by decide⟩
def mJ6_getChars_ba4f3 : MT := (yJ6_getChars_ba4f3, cJ6_getChars_ba4f3, 7, some .int, [])
theorem ceJ6_getChars_ba4f3 : CE mJ6_getChars_ba4f3 3 := ⟨⟨tbi 1136 (by decide +kernel), tbi 20 (by decide +kernel)⟩, ⟨by decide +kernel, by decide +kernel, by decide +kernel⟩, by decide⟩
def mJ6_stringSize_0f7a4 : MT := (yJ6_stringSize_0f7a4, cJ6_stringSize_0f7a4, 4, some .int, [])
theorem ceJ6_stringSize_0f7a4 : CE mJ6_stringSize_0f7a4 1 := ⟨⟨tbi 1133 (by decide +kernel), tbi 20 (by decide +kernel)⟩, ⟨by decide +kernel, by decide +kernel, by decide +kernel⟩, by decide⟩
def mJ6_bitCount_0f7a4 : MT := (yJ6_bitCount_0f7a4, cJ6_bitCount_0f7a4, 1, some .int, [])
theorem ceJ6_bitCount_0f7a4 : CE mJ6_bitCount_0f7a4 1 := ⟨⟨tbi 412 (by decide +kernel), tbi 20 (by decide +kernel)⟩, ⟨by decide +kernel, by decide +kernel, by decide +kernel⟩, by decide⟩
def mJ13_bitCount_95d88 : MT := (yJ13_bitCount_95d88, cJ13_bitCount_95d88, 2, some .int, [])
theorem ceJ13_bitCount_95d88 : CE mJ13_bitCount_95d88 1 := ⟨⟨tbi 720 (by decide +kernel), tbi 10 (by decide +kernel)⟩, ⟨by decide +kernel, by decide +kernel, by decide +kernel⟩, by decide⟩
def mJ9_max_7cf53 : MT := (yJ9_max_7cf53, cJ9_max_7cf53, 2, some .int, [])
theorem ceJ9_max_7cf53 : CE mJ9_max_7cf53 2 := ⟨⟨tbi 418 (by decide +kernel), tbi 15 (by decide +kernel)⟩, ⟨by decide +kernel, by decide +kernel, by decide +kernel⟩, by decide⟩
def mJ9_min_7cf53 : MT := (yJ9_min_7cf53, cJ9_min_7cf53, 2, some .int, [])
theorem ceJ9_min_7cf53 : CE mJ9_min_7cf53 2 := ⟨⟨tbi 537 (by decide +kernel), tbi 15 (by decide +kernel)⟩, ⟨by decide +kernel, by decide +kernel, by decide +kernel⟩, by decide⟩
def mJ0_init_81219 : MT := (yJ0_init_81219, cJ0_init_81219, 2, none, [])
theorem ceJ0_init_81219 : CE mJ0_init_81219 1 := ⟨⟨tbi 1093 (by decide +kernel), tbi 16 (by decide +kernel)⟩, ⟨by decide +kernel, by decide +kernel, by decide +kernel⟩, by decide⟩
def mJ0_length_8abf5 : MT := (yJ0_length_8abf5, cJ0_length_8abf5, 1, some .int, [])
theorem ceJ0_length_8abf5 : CE mJ0_length_8abf5 0 := ⟨⟨tbi 344 (by decide +kernel), tbi 16 (by decide +kernel)⟩, ⟨by decide +kernel, by decide +kernel, by decide +kernel⟩, by decide⟩
def mJ0_charAt_5068e : MT := (yJ0_charAt_5068e, cJ0_charAt_5068e, 2, some .char, [])
theorem ceJ0_charAt_5068e : CE mJ0_charAt_5068e 1 := ⟨⟨tbi 355 (by decide +kernel), tbi 16 (by decide +kernel)⟩, ⟨by decide +kernel, by decide +kernel, by decide +kernel⟩, by decide⟩
def mJ0_getBytes_840e7 : MT := (yJ0_getBytes_840e7, cJ0_getBytes_840e7, 4, none, [])
theorem ceJ0_getBytes_840e7 : CE mJ0_getBytes_840e7 3 := ⟨⟨tbi 1069 (by decide +kernel), tbi 16 (by decide +kernel)⟩, ⟨by decide +kernel, by decide +kernel, by decide +kernel⟩, by decide⟩
def mJ0_init_db425 : MT := (yJ0_init_db425, cJ0_init_db425, 5, none, [])
theorem ceJ0_init_db425 : CE mJ0_init_db425 2 := ⟨⟨tbi 1096 (by decide +kernel), tbi 16 (by decide +kernel)⟩, ⟨by decide +kernel, by decide +kernel, by decide +kernel⟩, by decide⟩
def mJ0_coder_7d493 : MT := (yJ0_coder_7d493, cJ0_coder_7d493, 1, some .byte, [])
theorem ceJ0_coder_7d493 : CE mJ0_coder_7d493 0 := ⟨⟨tbi 348 (by decide +kernel), tbi 16 (by decide +kernel)⟩, ⟨by decide +kernel, by decide +kernel, by decide +kernel⟩, by decide⟩
def mJ0_isLatin1_aae02 : MT := (yJ0_isLatin1_aae02, cJ0_isLatin1_aae02, 1, some .boolean, [])
theorem ceJ0_isLatin1_aae02 : CE mJ0_isLatin1_aae02 0 := ⟨⟨tbi 359 (by decide +kernel), tbi 16 (by decide +kernel)⟩, ⟨by decide +kernel, by decide +kernel, by decide +kernel⟩, by decide⟩
def mJ0_checkIndex_df160 : MT := (yJ0_checkIndex_df160, cJ0_checkIndex_df160, 2, none, [])
theorem ceJ0_checkIndex_df160 : CE mJ0_checkIndex_df160 2 := ⟨⟨tbi 365 (by decide +kernel), tbi 16 (by decide +kernel)⟩, ⟨by decide +kernel, by decide +kernel, by decide +kernel⟩, by decide⟩
def mJ0_checkBoundsOffCount_cabcc : MT := (yJ0_checkBoundsOffCount_cabcc, cJ0_checkBoundsOffCount_cabcc, 3, some .int, [])
theorem ceJ0_checkBoundsOffCount_cabcc : CE mJ0_checkBoundsOffCount_cabcc 3 := ⟨⟨tbi 1062 (by decide +kernel), tbi 16 (by decide +kernel)⟩, ⟨by decide +kernel, by decide +kernel, by decide +kernel⟩, by decide⟩
def mJ0_checkBoundsBeginEnd_23922 : MT := (yJ0_checkBoundsBeginEnd_23922, cJ0_checkBoundsBeginEnd_23922, 3, none, [])
theorem ceJ0_checkBoundsBeginEnd_23922 : CE mJ0_checkBoundsBeginEnd_23922 3 := ⟨⟨tbi 1030 (by decide +kernel), tbi 16 (by decide +kernel)⟩, ⟨by decide +kernel, by decide +kernel, by decide +kernel⟩, by decide⟩
def mJ4_init_da8c8 : MT := (yJ4_init_da8c8, cJ4_init_da8c8, 1, none, [])
theorem ceJ4_init_da8c8 : CE mJ4_init_da8c8 0 := ⟨⟨tbi 953 (by decide +kernel), tbi 26 (by decide +kernel)⟩, ⟨by decide +kernel, by decide +kernel, by decide +kernel⟩, by decide⟩
def mJ4_append_15ec4 : MT := (yJ4_append_15ec4, cJ4_append_15ec4, 2, some (.object "java/lang/StringBuilder"), [])
theorem ceJ4_append_15ec4 : CE mJ4_append_15ec4 1 := ⟨⟨tbi 982 (by decide +kernel), tbi 26 (by decide +kernel)⟩, ⟨by decide +kernel, by decide +kernel, by decide +kernel⟩, by decide⟩
def mJ4_append_cf468 : MT := (yJ4_append_cf468, cJ4_append_cf468, 2, some (.object "java/lang/StringBuilder"), [])
theorem ceJ4_append_cf468 : CE mJ4_append_cf468 1 := ⟨⟨tbi 1075 (by decide +kernel), tbi 26 (by decide +kernel)⟩, ⟨by decide +kernel, by decide +kernel, by decide +kernel⟩, by decide⟩
def mJ4_append_bf812 : MT := (yJ4_append_bf812, cJ4_append_bf812, 2, some (.object "java/lang/StringBuilder"), [])
theorem ceJ4_append_bf812 : CE mJ4_append_bf812 1 := ⟨⟨tbi 1127 (by decide +kernel), tbi 26 (by decide +kernel)⟩, ⟨by decide +kernel, by decide +kernel, by decide +kernel⟩, by decide⟩
def mJ4_toString_0e30d : MT := (yJ4_toString_0e30d, cJ4_toString_0e30d, 1, some (.object "java/lang/String"), [])
theorem ceJ4_toString_0e30d : CE mJ4_toString_0e30d 0 := ⟨⟨tbi 1088 (by decide +kernel), tbi 26 (by decide +kernel)⟩, ⟨by decide +kernel, by decide +kernel, by decide +kernel⟩, by decide⟩
def mJ4_length_8abf5 : MT := (yJ4_length_8abf5, cJ4_length_8abf5, 1, some .int, [])
theorem ceJ4_length_8abf5 : CE mJ4_length_8abf5 0 := ⟨⟨tbi 1108 (by decide +kernel), tbi 26 (by decide +kernel)⟩, ⟨by decide +kernel, by decide +kernel, by decide +kernel⟩, by decide⟩
def mJ1_charAt_3b067 : MT := (yJ1_charAt_3b067, cJ1_charAt_3b067, 2, some .char, [])
theorem ceJ1_charAt_3b067 : CE mJ1_charAt_3b067 2 := ⟨⟨tbi 362 (by decide +kernel), tbi 17 (by decide +kernel)⟩, ⟨by decide +kernel, by decide +kernel, by decide +kernel⟩, by decide⟩
def mJ1_canEncode_fc78d : MT := (yJ1_canEncode_fc78d, cJ1_canEncode_fc78d, 1, some .boolean, [])
theorem ceJ1_canEncode_fc78d : CE mJ1_canEncode_fc78d 1 := ⟨⟨tbi 1081 (by decide +kernel), tbi 17 (by decide +kernel)⟩, ⟨by decide +kernel, by decide +kernel, by decide +kernel⟩, by decide⟩
def mJ1_inflate_0e8fd : MT := (yJ1_inflate_0e8fd, cJ1_inflate_0e8fd, 5, none, [])
theorem ceJ1_inflate_0e8fd : CE mJ1_inflate_0e8fd 5 := ⟨⟨tbi 1053 (by decide +kernel), tbi 17 (by decide +kernel)⟩, ⟨by decide +kernel, by decide +kernel, by decide +kernel⟩, by decide⟩
def mJ2_newBytesFor_77867 : MT := (yJ2_newBytesFor_77867, cJ2_newBytesFor_77867, 1, some (.array Jvm.ClassFile.FieldType.byte), [])
theorem ceJ2_newBytesFor_77867 : CE mJ2_newBytesFor_77867 1 := ⟨⟨tbi 961 (by decide +kernel), tbi 19 (by decide +kernel)⟩, ⟨by decide +kernel, by decide +kernel, by decide +kernel⟩, by decide⟩
def mJ2_newBytesLength_0f7a4 : MT := (yJ2_newBytesLength_0f7a4, cJ2_newBytesLength_0f7a4, 1, some .int, [])
theorem ceJ2_newBytesLength_0f7a4 : CE mJ2_newBytesLength_0f7a4 1 := ⟨⟨tbi 964 (by decide +kernel), tbi 19 (by decide +kernel)⟩, ⟨by decide +kernel, by decide +kernel, by decide +kernel⟩, by decide⟩
def mJ2_putChar_b72d1 : MT := (yJ2_putChar_b72d1, cJ2_putChar_b72d1, 3, none, [])
theorem ceJ2_putChar_b72d1 : CE mJ2_putChar_b72d1 3 := ⟨⟨tbi 1036 (by decide +kernel), tbi 19 (by decide +kernel)⟩, ⟨by decide +kernel, by decide +kernel, by decide +kernel⟩, by decide⟩
def mJ2_getChar_3b067 : MT := (yJ2_getChar_3b067, cJ2_getChar_3b067, 2, some .char, [])
theorem ceJ2_getChar_3b067 : CE mJ2_getChar_3b067 2 := ⟨⟨tbi 383 (by decide +kernel), tbi 19 (by decide +kernel)⟩, ⟨by decide +kernel, by decide +kernel, by decide +kernel⟩, by decide⟩
def mJ2_length_9d52b : MT := (yJ2_length_9d52b, cJ2_length_9d52b, 1, some .int, [])
theorem ceJ2_length_9d52b : CE mJ2_length_9d52b 1 := ⟨⟨tbi 379 (by decide +kernel), tbi 19 (by decide +kernel)⟩, ⟨by decide +kernel, by decide +kernel, by decide +kernel⟩, by decide⟩
def mJ2_coderFromArrayLen_85cad : MT := (yJ2_coderFromArrayLen_85cad, cJ2_coderFromArrayLen_85cad, 2, some .byte, [])
theorem ceJ2_coderFromArrayLen_85cad : CE mJ2_coderFromArrayLen_85cad 2 := ⟨⟨tbi 1173 (by decide +kernel), tbi 19 (by decide +kernel)⟩, ⟨by decide +kernel, by decide +kernel, by decide +kernel⟩, by decide⟩
def mJ2_compress_39247 : MT := (yJ2_compress_39247, cJ2_compress_39247, 6, some (.array Jvm.ClassFile.FieldType.byte), [])
theorem ceJ2_compress_39247 : CE mJ2_compress_39247 3 := ⟨⟨tbi 1166 (by decide +kernel), tbi 19 (by decide +kernel)⟩, ⟨by decide +kernel, by decide +kernel, by decide +kernel⟩, by decide⟩
def mJ2_compress_5af95 : MT := (yJ2_compress_5af95, cJ2_compress_5af95, 7, some .int, [])
theorem ceJ2_compress_5af95 : CE mJ2_compress_5af95 5 := ⟨⟨tbi 1169 (by decide +kernel), tbi 19 (by decide +kernel)⟩, ⟨by decide +kernel, by decide +kernel, by decide +kernel⟩, by decide⟩
def mJ2_putCharSB_b72d1 : MT := (yJ2_putCharSB_b72d1, cJ2_putCharSB_b72d1, 3, none, [])
theorem ceJ2_putCharSB_b72d1 : CE mJ2_putCharSB_b72d1 3 := ⟨⟨tbi 1084 (by decide +kernel), tbi 19 (by decide +kernel)⟩, ⟨by decide +kernel, by decide +kernel, by decide +kernel⟩, by decide⟩
def mJ2_getChars_46870 : MT := (yJ2_getChars_46870, cJ2_getChars_46870, 5, some .int, [])
theorem ceJ2_getChars_46870 : CE mJ2_getChars_46870 4 := ⟨⟨tbi 1143 (by decide +kernel), tbi 19 (by decide +kernel)⟩, ⟨by decide +kernel, by decide +kernel, by decide +kernel⟩, by decide⟩
def mJ2_putCharsAt_cd4e5 : MT := (yJ2_putCharsAt_cd4e5, cJ2_putCharsAt_cd4e5, 7, some .int, [])
theorem ceJ2_putCharsAt_cd4e5 : CE mJ2_putCharsAt_cd4e5 6 := ⟨⟨tbi 1024 (by decide +kernel), tbi 19 (by decide +kernel)⟩, ⟨by decide +kernel, by decide +kernel, by decide +kernel⟩, by decide⟩
def mJ2_charAt_3b067 : MT := (yJ2_charAt_3b067, cJ2_charAt_3b067, 2, some .char, [])
theorem ceJ2_charAt_3b067 : CE mJ2_charAt_3b067 2 := ⟨⟨tbi 373 (by decide +kernel), tbi 19 (by decide +kernel)⟩, ⟨by decide +kernel, by decide +kernel, by decide +kernel⟩, by decide⟩
def mJ2_inflate_0e8fd : MT := (yJ2_inflate_0e8fd, cJ2_inflate_0e8fd, 6, none, [])
theorem ceJ2_inflate_0e8fd : CE mJ2_inflate_0e8fd 5 := ⟨⟨tbi 1056 (by decide +kernel), tbi 19 (by decide +kernel)⟩, ⟨by decide +kernel, by decide +kernel, by decide +kernel⟩, by decide⟩
def mJ2_getChars_ba4f3 : MT := (yJ2_getChars_ba4f3, cJ2_getChars_ba4f3, 7, some .int, [])
theorem ceJ2_getChars_ba4f3 : CE mJ2_getChars_ba4f3 3 := ⟨⟨tbi 1146 (by decide +kernel), tbi 19 (by decide +kernel)⟩, ⟨by decide +kernel, by decide +kernel, by decide +kernel⟩, by decide⟩
def mJ2_checkIndex_2214a : MT := (yJ2_checkIndex_2214a, cJ2_checkIndex_2214a, 2, none, [])
theorem ceJ2_checkIndex_2214a : CE mJ2_checkIndex_2214a 2 := ⟨⟨tbi 376 (by decide +kernel), tbi 19 (by decide +kernel)⟩, ⟨by decide +kernel, by decide +kernel, by decide +kernel⟩, by decide⟩
def mJ2_checkBoundsBeginEnd_d044e : MT := (yJ2_checkBoundsBeginEnd_d044e, cJ2_checkBoundsBeginEnd_d044e, 3, none, [])
theorem ceJ2_checkBoundsBeginEnd_d044e : CE mJ2_checkBoundsBeginEnd_d044e 3 := ⟨⟨tbi 1027 (by decide +kernel), tbi 19 (by decide +kernel)⟩, ⟨by decide +kernel, by decide +kernel, by decide +kernel⟩, by decide⟩
def mJ2_checkBoundsOffCount_d044e : MT := (yJ2_checkBoundsOffCount_d044e, cJ2_checkBoundsOffCount_d044e, 3, none, [])
theorem ceJ2_checkBoundsOffCount_d044e : CE mJ2_checkBoundsOffCount_d044e 3 := ⟨⟨tbi 1059 (by decide +kernel), tbi 19 (by decide +kernel)⟩, ⟨by decide +kernel, by decide +kernel, by decide +kernel⟩, by decide⟩
def mJ7_fill_53178 : MT := (yJ7_fill_53178, cJ7_fill_53178, 4, none, [])
theorem ceJ7_fill_53178 : CE mJ7_fill_53178 2 := ⟨⟨tbi 48 (by decide +kernel), tbi 3 (by decide +kernel)⟩, ⟨by decide +kernel, by decide +kernel, by decide +kernel⟩, by decide⟩
def mJ7_copyOf_9075b : MT := (yJ7_copyOf_9075b, cJ7_copyOf_9075b, 3, some (.array Jvm.ClassFile.FieldType.byte), [])
theorem ceJ7_copyOf_9075b : CE mJ7_copyOf_9075b 2 := ⟨⟨tbi 1009 (by decide +kernel), tbi 3 (by decide +kernel)⟩, ⟨by decide +kernel, by decide +kernel, by decide +kernel⟩, by decide⟩
def mJ7_checkLength_df160 : MT := (yJ7_checkLength_df160, cJ7_checkLength_df160, 2, none, [])
theorem ceJ7_checkLength_df160 : CE mJ7_checkLength_df160 2 := ⟨⟨tbi 1120 (by decide +kernel), tbi 3 (by decide +kernel)⟩, ⟨by decide +kernel, by decide +kernel, by decide +kernel⟩, by decide⟩
def mJ7_copyOfRange_39247 : MT := (yJ7_copyOfRange_39247, cJ7_copyOfRange_39247, 3, some (.array Jvm.ClassFile.FieldType.byte), [])
theorem ceJ7_copyOfRange_39247 : CE mJ7_copyOfRange_39247 3 := ⟨⟨tbi 1114 (by decide +kernel), tbi 3 (by decide +kernel)⟩, ⟨by decide +kernel, by decide +kernel, by decide +kernel⟩, by decide⟩
def mJ7_copyOfRangeByte_39247 : MT := (yJ7_copyOfRangeByte_39247, cJ7_copyOfRangeByte_39247, 5, some (.array Jvm.ClassFile.FieldType.byte), [])
theorem ceJ7_copyOfRangeByte_39247 : CE mJ7_copyOfRangeByte_39247 3 := ⟨⟨tbi 1117 (by decide +kernel), tbi 3 (by decide +kernel)⟩, ⟨by decide +kernel, by decide +kernel, by decide +kernel⟩, by decide⟩
def mJ8_newLength_cabcc : MT := (yJ8_newLength_cabcc, cJ8_newLength_cabcc, 4, some .int, [])
theorem ceJ8_newLength_cabcc : CE mJ8_newLength_cabcc 3 := ⟨⟨tbi 1000 (by decide +kernel), tbi 27 (by decide +kernel)⟩, ⟨by decide +kernel, by decide +kernel, by decide +kernel⟩, by decide⟩
def mJ8_hugeLength_7cf53 : MT := (yJ8_hugeLength_7cf53, cJ8_hugeLength_7cf53, 3, some .int, [])
theorem ceJ8_hugeLength_7cf53 : CE mJ8_hugeLength_7cf53 2 := ⟨⟨tbi 1005 (by decide +kernel), tbi 27 (by decide +kernel)⟩, ⟨by decide +kernel, by decide +kernel, by decide +kernel⟩, by decide⟩
def mJ3_checkIndex_8e157 : MT := (yJ3_checkIndex_8e157, cJ3_checkIndex_8e157, 3, some .int, [])
theorem ceJ3_checkIndex_8e157 : CE mJ3_checkIndex_8e157 3 := ⟨⟨tbi 370 (by decide +kernel), tbi 18 (by decide +kernel)⟩, ⟨by decide +kernel, by decide +kernel, by decide +kernel⟩, by decide⟩
def mJ3_checkFromToIndex_8c36e : MT := (yJ3_checkFromToIndex_8c36e, cJ3_checkFromToIndex_8c36e, 4, some .int, [])
theorem ceJ3_checkFromToIndex_8c36e : CE mJ3_checkFromToIndex_8c36e 4 := ⟨⟨tbi 1033 (by decide +kernel), tbi 18 (by decide +kernel)⟩, ⟨by decide +kernel, by decide +kernel, by decide +kernel⟩, by decide⟩
def mJ3_checkFromIndexSize_8c36e : MT := (yJ3_checkFromIndexSize_8c36e, cJ3_checkFromIndexSize_8c36e, 4, some .int, [])
theorem ceJ3_checkFromIndexSize_8c36e : CE mJ3_checkFromIndexSize_8c36e 4 := ⟨⟨tbi 1065 (by decide +kernel), tbi 18 (by decide +kernel)⟩, ⟨by decide +kernel, by decide +kernel, by decide +kernel⟩, by decide⟩
def mL_put : MT := (yL_put, cL_put, 3, none, [])
theorem ceL_put : CE mL_put 3 := ⟨⟨tbi 933 (by decide +kernel), tbi 0 (by decide +kernel)⟩, ⟨by decide +kernel, by decide +kernel, by decide +kernel⟩, by decide⟩
def mL_flush : MT := (yL_flush, cL_flush, 3, none, [])
theorem ceL_flush : CE mL_flush 2 := ⟨⟨tbi 936 (by decide +kernel), tbi 0 (by decide +kernel)⟩, ⟨by decide +kernel, by decide +kernel, by decide +kernel⟩, by decide⟩
def mL_loadText : MT := (yL_loadText, cL_loadText, 3, some .int, [])
theorem ceL_loadText : CE mL_loadText 2 := ⟨⟨tbi 1201 (by decide +kernel), tbi 0 (by decide +kernel)⟩, ⟨by decide +kernel, by decide +kernel, by decide +kernel⟩, by decide⟩
def mL_write : MT := (yL_write, cL_write, 4, none, [])
theorem ceL_write : CE mL_write 3 := ⟨⟨tbi 928 (by decide +kernel), tbi 0 (by decide +kernel)⟩, ⟨by decide +kernel, by decide +kernel, by decide +kernel⟩, by decide⟩
def mL_writeNumber : MT := (yL_writeNumber, cL_writeNumber, 4, none, [])
theorem ceL_writeNumber : CE mL_writeNumber 3 := ⟨⟨tbi 1192 (by decide +kernel), tbi 0 (by decide +kernel)⟩, ⟨by decide +kernel, by decide +kernel, by decide +kernel⟩, by decide⟩
def mL_load : MT := (yL_load, cL_load, 3, some .int, [(0, 5, 6, 40)])
def mL_state : MT := (yL_state, cL_state, 3, some .int, [(0, 5, 6, 40)])
def mL_letter : MT := (yL_letter, cL_letter, 4, some .int, [(0, 6, 7, 50)])
def mL_place : MT := (yL_place, cL_place, 5, some .int, [(0, 7, 8, 50), (0, 7, 13, 40)])
def mL_stock : MT := (yL_stock, cL_stock, 4, some .int, [(0, 6, 7, 40)])
def mL_message : MT := (yL_message, cL_message, 3, some .int, [(0, 5, 6, 63)])
def mL_cutOf : MT := (yL_cutOf, cL_cutOf, 4, some .int, [(0, 6, 7, 63), (0, 6, 11, 40)])
def mL_longest : MT := (yL_longest, cL_longest, 3, some .int, [(0, 5, 6, 63)])
def mL_tell : MT := (yL_tell, cL_tell, 3, some .int, [(0, 5, 6, 40)])
def mL_cut : MT := (yL_cut, cL_cut, 2, some .int, [(0, 4, 5, 78)])
def mL_snip : MT := (yL_snip, cL_snip, 5, some .int, [(0, 7, 8, 50), (0, 7, 13, 40), (0, 7, 18, 78)])
def mL_least : MT := (yL_least, cL_least, 3, some .int, [(0, 5, 6, 40)])
def mL_mend : MT := (yL_mend, cL_mend, 3, some .int, [(0, 5, 6, 50), (0, 5, 10, 78)])
def mL_tellText : MT := (yL_tellText, cL_tellText, 3, some .int, [])
theorem ceL_tellText : CE mL_tellText 3 := ⟨⟨tbi 925 (by decide +kernel), tbi 0 (by decide +kernel)⟩, ⟨by decide +kernel, by decide +kernel, by decide +kernel⟩, by decide⟩
def mL_randomWord : MT := (yL_randomWord, cL_randomWord, 3, some (.object "java/lang/String"), [])
theorem ceL_randomWord : CE mL_randomWord 1 := ⟨⟨tbi 947 (by decide +kernel), tbi 0 (by decide +kernel)⟩, ⟨by decide +kernel, by decide +kernel, by decide +kernel⟩, by decide⟩
def mL_randomSheet : MT := (yL_randomSheet, cL_randomSheet, 7, some (.object "LetterCutsLaw$Sheet"), [])
theorem ceL_randomSheet : CE mL_randomSheet 3 := ⟨⟨tbi 1187 (by decide +kernel), tbi 0 (by decide +kernel)⟩, ⟨by decide +kernel, by decide +kernel, by decide +kernel⟩, by decide⟩
def mL_agrees : MT := (yL_agrees, cL_agrees, 4, some .boolean, [])
theorem ceL_agrees : CE mL_agrees 2 := ⟨⟨tbi 1204 (by decide +kernel), tbi 0 (by decide +kernel)⟩, ⟨by decide +kernel, by decide +kernel, by decide +kernel⟩, by decide⟩
theorem lfm_RX4_9 {mt : MT} (h : (mN mt).cls = RX4) : Cond.fieldLink (mN mt).cls 9 (cT 4 0).1 (cT 4 0).2.1 (cT 4 0).2.2.1 ∈ lw_tb2 := by rw [h]; exact tbi 201 (by decide +kernel)
theorem lf_RX4_9 {mt : MT} (h : (mN mt).cls = RX4) : FL mt 9 4 0 := Or.inl (lfm_RX4_9 h)
theorem lfm_RX4_13 {mt : MT} (h : (mN mt).cls = RX4) : Cond.fieldLink (mN mt).cls 13 (cT 4 1).1 (cT 4 1).2.1 (cT 4 1).2.2.1 ∈ lw_tb2 := by rw [h]; exact tbi 202 (by decide +kernel)
theorem lf_RX4_13 {mt : MT} (h : (mN mt).cls = RX4) : FL mt 13 4 1 := Or.inl (lfm_RX4_13 h)
theorem lfm_RX4_17 {mt : MT} (h : (mN mt).cls = RX4) : Cond.fieldLink (mN mt).cls 17 (cT 4 2).1 (cT 4 2).2.1 (cT 4 2).2.2.1 ∈ lw_tb2 := by rw [h]; exact tbi 203 (by decide +kernel)
theorem lf_RX4_17 {mt : MT} (h : (mN mt).cls = RX4) : FL mt 17 4 2 := Or.inl (lfm_RX4_17 h)
theorem lc_RX4_22 {mt : MT} (h : (mN mt).cls = RX4) : Cond.methodLinkNest (mN mt).cls 22 (mN mX3_init) "LetterCuts" ∈ tables_1 ∧ Cond.instanceMethod (mN mX3_init) ∈ lw_tb2 := by rw [h]; exact ⟨tbj 38 (by decide +kernel), tbi 39 (by decide +kernel)⟩
theorem lfm_RX4_23 {mt : MT} (h : (mN mt).cls = RX4) : Cond.fieldLink (mN mt).cls 23 (cT 4 3).1 (cT 4 3).2.1 (cT 4 3).2.2.1 ∈ lw_tb2 := by rw [h]; exact tbi 204 (by decide +kernel)
theorem lf_RX4_23 {mt : MT} (h : (mN mt).cls = RX4) : FL mt 23 4 3 := Or.inl (lfm_RX4_23 h)
theorem lfm_RX4_27 {mt : MT} (h : (mN mt).cls = RX4) : Cond.fieldLink (mN mt).cls 27 (cT 4 4).1 (cT 4 4).2.1 (cT 4 4).2.2.1 ∈ lw_tb2 := by rw [h]; exact tbi 205 (by decide +kernel)
theorem lf_RX4_27 {mt : MT} (h : (mN mt).cls = RX4) : FL mt 27 4 4 := Or.inl (lfm_RX4_27 h)
theorem lfm_RX4_31 {mt : MT} (h : (mN mt).cls = RX4) : Cond.fieldLink (mN mt).cls 31 (cT 4 5).1 (cT 4 5).2.1 (cT 4 5).2.2.1 ∈ lw_tb2 := by rw [h]; exact tbi 206 (by decide +kernel)
theorem lf_RX4_31 {mt : MT} (h : (mN mt).cls = RX4) : FL mt 31 4 5 := Or.inl (lfm_RX4_31 h)
theorem lc_RX4_36 {mt : MT} (h : (mN mt).cls = RX4) : Cond.methodLinkNest (mN mt).cls 36 (mN mX2_init) "LetterCuts" ∈ tables_1 ∧ Cond.instanceMethod (mN mX2_init) ∈ lw_tb2 := by rw [h]; exact ⟨tbj 99 (by decide +kernel), tbi 100 (by decide +kernel)⟩
theorem lfm_RX4_37 {mt : MT} (h : (mN mt).cls = RX4) : Cond.fieldLink (mN mt).cls 37 (cT 4 6).1 (cT 4 6).2.1 (cT 4 6).2.2.1 ∈ lw_tb2 := by rw [h]; exact tbi 207 (by decide +kernel)
theorem lf_RX4_37 {mt : MT} (h : (mN mt).cls = RX4) : FL mt 37 4 6 := Or.inl (lfm_RX4_37 h)
theorem lc_RX4_43 {mt : MT} (h : (mN mt).cls = RX4) : Cond.methodLinkNest (mN mt).cls 43 (mN mX0_init) "LetterCuts" ∈ tables_1 ∧ Cond.instanceMethod (mN mX0_init) ∈ lw_tb2 := by rw [h]; exact ⟨tbj 140 (by decide +kernel), tbi 141 (by decide +kernel)⟩
theorem lfm_RX4_44 {mt : MT} (h : (mN mt).cls = RX4) : Cond.fieldLink (mN mt).cls 44 (cT 4 7).1 (cT 4 7).2.1 (cT 4 7).2.2.1 ∈ lw_tb2 := by rw [h]; exact tbi 208 (by decide +kernel)
theorem lf_RX4_44 {mt : MT} (h : (mN mt).cls = RX4) : FL mt 44 4 7 := Or.inl (lfm_RX4_44 h)
theorem lc_RX4_50 {mt : MT} (h : (mN mt).cls = RX4) : Cond.methodLinkNest (mN mt).cls 50 (mN mX1_init) "LetterCuts" ∈ tables_1 ∧ Cond.instanceMethod (mN mX1_init) ∈ lw_tb2 := by rw [h]; exact ⟨tbj 160 (by decide +kernel), tbi 161 (by decide +kernel)⟩
theorem lfm_RX4_51 {mt : MT} (h : (mN mt).cls = RX4) : Cond.fieldLink (mN mt).cls 51 (cT 4 8).1 (cT 4 8).2.1 (cT 4 8).2.2.1 ∈ lw_tb2 := by rw [h]; exact tbi 209 (by decide +kernel)
theorem lf_RX4_51 {mt : MT} (h : (mN mt).cls = RX4) : FL mt 51 4 8 := Or.inl (lfm_RX4_51 h)
theorem lfm_RX4_55 {mt : MT} (h : (mN mt).cls = RX4) : Cond.fieldLink (mN mt).cls 55 (cT 4 9).1 (cT 4 9).2.1 (cT 4 9).2.2.1 ∈ lw_tb2 := by rw [h]; exact tbi 210 (by decide +kernel)
theorem lf_RX4_55 {mt : MT} (h : (mN mt).cls = RX4) : FL mt 55 4 9 := Or.inl (lfm_RX4_55 h)
theorem lc_RX4_59 {mt : MT} (h : (mN mt).cls = RX4) : Cond.methodLink (mN mt).cls 59 (mN mX4_putWord) ∈ lw_tb2 ∧ Cond.instanceMethod (mN mX4_putWord) ∈ lw_tb2 ∧ Cond.selects (cR 4) (mN mX4_putWord) (mN mX4_putWord) ∈ lw_tb2 := by rw [h]; exact ⟨tbi 941 (by decide +kernel), tbi 943 (by decide +kernel), sli 60 (by decide +kernel)⟩
theorem lc_RX4_66 {mt : MT} (h : (mN mt).cls = RX4) : Cond.methodLinkNest (mN mt).cls 66 (mN mX2_read) "LetterCuts" ∈ tables_1 ∧ Cond.instanceMethod (mN mX2_read) ∈ lw_tb2 ∧ Cond.selects (cR 2) (mN mX2_read) (mN mX2_read) ∈ lw_tb2 := by rw [h]; exact ⟨tbj 531 (by decide +kernel), tbi 533 (by decide +kernel), sli 6 (by decide +kernel)⟩
theorem lf_RX4_70 {mt : MT} (h : (mN mt).cls = RX4) : FL mt 70 2 5 := Or.inr ⟨"LetterCuts", by rw [h]; exact tbj 112 (by decide +kernel)⟩
theorem lc_RX4_73 {mt : MT} (h : (mN mt).cls = RX4) : Cond.methodLink (mN mt).cls 73 (mN mX4_remember) ∈ lw_tb2 ∧ Cond.instanceMethod (mN mX4_remember) ∈ lw_tb2 ∧ Cond.selects (cR 4) (mN mX4_remember) (mN mX4_remember) ∈ lw_tb2 := by rw [h]; exact ⟨tbi 599 (by decide +kernel), tbi 601 (by decide +kernel), sli 19 (by decide +kernel)⟩
theorem lf_RX4_76 {mt : MT} (h : (mN mt).cls = RX4) : FL mt 76 2 0 := Or.inr ⟨"LetterCuts", by rw [h]; exact tbj 106 (by decide +kernel)⟩
theorem lc_RX4_79 {mt : MT} (h : (mN mt).cls = RX4) : Cond.methodLinkNest (mN mt).cls 79 (mN mX3_copyFrom) "LetterCuts" ∈ tables_1 ∧ Cond.instanceMethod (mN mX3_copyFrom) ∈ lw_tb2 ∧ Cond.selects (cR 3) (mN mX3_copyFrom) (mN mX3_copyFrom) ∈ lw_tb2 := by rw [h]; exact ⟨tbj 240 (by decide +kernel), tbi 242 (by decide +kernel), sli 1 (by decide +kernel)⟩
theorem lc_RX4_83 {mt : MT} (h : (mN mt).cls = RX4) : Cond.methodLinkNest (mN mt).cls 83 (mN mX3_countCells) "LetterCuts" ∈ tables_1 ∧ Cond.instanceMethod (mN mX3_countCells) ∈ lw_tb2 ∧ Cond.selects (cR 3) (mN mX3_countCells) (mN mX3_countCells) ∈ lw_tb2 := by rw [h]; exact ⟨tbj 607 (by decide +kernel), tbi 609 (by decide +kernel), sli 21 (by decide +kernel)⟩
theorem lf_RX4_87 {mt : MT} (h : (mN mt).cls = RX4) : FL mt 87 3 0 := Or.inr ⟨"LetterCuts", by rw [h]; exact tbj 50 (by decide +kernel)⟩
theorem lf_RX4_90 {mt : MT} (h : (mN mt).cls = RX4) : FL mt 90 3 1 := Or.inr ⟨"LetterCuts", by rw [h]; exact tbj 54 (by decide +kernel)⟩
theorem lf_RX4_93 {mt : MT} (h : (mN mt).cls = RX4) : FL mt 93 3 2 := Or.inr ⟨"LetterCuts", by rw [h]; exact tbj 57 (by decide +kernel)⟩
theorem lc_RX4_96 {mt : MT} (h : (mN mt).cls = RX4) : Cond.methodLinkNest (mN mt).cls 96 (mN mX3_countThere) "LetterCuts" ∈ tables_1 ∧ Cond.instanceMethod (mN mX3_countThere) ∈ lw_tb2 ∧ Cond.selects (cR 3) (mN mX3_countThere) (mN mX3_countThere) ∈ lw_tb2 := by rw [h]; exact ⟨tbj 903 (by decide +kernel), tbi 905 (by decide +kernel), sli 59 (by decide +kernel)⟩
theorem lf_RX4_99 {mt : MT} (h : (mN mt).cls = RX4) : FL mt 99 3 7 := Or.inr ⟨"LetterCuts", by rw [h]; exact tbj 68 (by decide +kernel)⟩
theorem lf_RX4_102 {mt : MT} (h : (mN mt).cls = RX4) : FL mt 102 3 8 := Or.inr ⟨"LetterCuts", by rw [h]; exact tbj 70 (by decide +kernel)⟩
theorem lf_RX4_105 {mt : MT} (h : (mN mt).cls = RX4) : FL mt 105 3 9 := Or.inr ⟨"LetterCuts", by rw [h]; exact tbj 72 (by decide +kernel)⟩
theorem lc_RX4_108 {mt : MT} (h : (mN mt).cls = RX4) : Cond.methodLinkNest (mN mt).cls 108 (mN mX3_countUsable) "LetterCuts" ∈ tables_1 ∧ Cond.instanceMethod (mN mX3_countUsable) ∈ lw_tb2 ∧ Cond.selects (cR 3) (mN mX3_countUsable) (mN mX3_countUsable) ∈ lw_tb2 := by rw [h]; exact ⟨tbj 1214 (by decide +kernel), tbi 1216 (by decide +kernel), sli 61 (by decide +kernel)⟩
theorem lc_RX4_111 {mt : MT} (h : (mN mt).cls = RX4) : Cond.methodLinkNest (mN mt).cls 111 (mN mX3_hasPlace) "LetterCuts" ∈ tables_1 ∧ Cond.instanceMethod (mN mX3_hasPlace) ∈ lw_tb2 ∧ Cond.selects (cR 3) (mN mX3_hasPlace) (mN mX3_hasPlace) ∈ lw_tb2 := by rw [h]; exact ⟨tbj 620 (by decide +kernel), tbi 622 (by decide +kernel), sli 22 (by decide +kernel)⟩
theorem lc_RX4_118 {mt : MT} (h : (mN mt).cls = RX4) : Cond.methodLinkNest (mN mt).cls 118 (mN mX3_spotOf) "LetterCuts" ∈ tables_1 ∧ Cond.instanceMethod (mN mX3_spotOf) ∈ lw_tb2 ∧ Cond.selects (cR 3) (mN mX3_spotOf) (mN mX3_spotOf) ∈ lw_tb2 := by rw [h]; exact ⟨tbj 640 (by decide +kernel), tbi 642 (by decide +kernel), sli 23 (by decide +kernel)⟩
theorem lc_RX4_122 {mt : MT} (h : (mN mt).cls = RX4) : Cond.methodLink (mN mt).cls 122 (mN mX4_letterOrGone) ∈ lw_tb2 ∧ Cond.instanceMethod (mN mX4_letterOrGone) ∈ lw_tb2 ∧ Cond.selects (cR 4) (mN mX4_letterOrGone) (mN mX4_letterOrGone) ∈ lw_tb2 := by rw [h]; exact ⟨tbi 1219 (by decide +kernel), tbi 1221 (by decide +kernel), sli 62 (by decide +kernel)⟩
theorem lc_RX4_126 {mt : MT} (h : (mN mt).cls = RX4) : Cond.methodLinkNest (mN mt).cls 126 (mN mX3_cellOf) "LetterCuts" ∈ tables_1 ∧ Cond.instanceMethod (mN mX3_cellOf) ∈ lw_tb2 ∧ Cond.selects (cR 3) (mN mX3_cellOf) (mN mX3_cellOf) ∈ lw_tb2 := by rw [h]; exact ⟨tbj 644 (by decide +kernel), tbi 646 (by decide +kernel), sli 24 (by decide +kernel)⟩
theorem lc_RX4_129 {mt : MT} (h : (mN mt).cls = RX4) : Cond.methodLinkNest (mN mt).cls 129 (mN mX3_placeOf) "LetterCuts" ∈ tables_1 ∧ Cond.instanceMethod (mN mX3_placeOf) ∈ lw_tb2 ∧ Cond.selects (cR 3) (mN mX3_placeOf) (mN mX3_placeOf) ∈ lw_tb2 := by rw [h]; exact ⟨tbj 658 (by decide +kernel), tbi 660 (by decide +kernel), sli 26 (by decide +kernel)⟩
theorem lc_RX4_132 {mt : MT} (h : (mN mt).cls = RX4) : Cond.methodLinkNest (mN mt).cls 132 (mN mX3_sizeAt) "LetterCuts" ∈ tables_1 ∧ Cond.instanceMethod (mN mX3_sizeAt) ∈ lw_tb2 ∧ Cond.selects (cR 3) (mN mX3_sizeAt) (mN mX3_sizeAt) ∈ lw_tb2 := by rw [h]; exact ⟨tbj 665 (by decide +kernel), tbi 667 (by decide +kernel), sli 27 (by decide +kernel)⟩
theorem lc_RX4_135 {mt : MT} (h : (mN mt).cls = RX4) : Cond.methodLinkNest (mN mt).cls 135 (mN mX3_spotBehind) "LetterCuts" ∈ tables_1 ∧ Cond.instanceMethod (mN mX3_spotBehind) ∈ lw_tb2 ∧ Cond.selects (cR 3) (mN mX3_spotBehind) (mN mX3_spotBehind) ∈ lw_tb2 := by rw [h]; exact ⟨tbj 673 (by decide +kernel), tbi 653 (by decide +kernel), sli 25 (by decide +kernel)⟩
theorem lc_RX4_138 {mt : MT} (h : (mN mt).cls = RX4) : Cond.methodLinkNest (mN mt).cls 138 (mN mX3_canUse) "LetterCuts" ∈ tables_1 ∧ Cond.instanceMethod (mN mX3_canUse) ∈ lw_tb2 ∧ Cond.selects (cR 3) (mN mX3_canUse) (mN mX3_canUse) ∈ lw_tb2 := by rw [h]; exact ⟨tbj 674 (by decide +kernel), tbi 676 (by decide +kernel), sli 29 (by decide +kernel)⟩
theorem lc_RX4_142 {mt : MT} (h : (mN mt).cls = RX4) : Cond.methodLinkNest (mN mt).cls 142 (mN mX3_letterAt) "LetterCuts" ∈ tables_1 ∧ Cond.instanceMethod (mN mX3_letterAt) ∈ lw_tb2 ∧ Cond.selects (cR 3) (mN mX3_letterAt) (mN mX3_letterAt) ∈ lw_tb2 := by rw [h]; exact ⟨tbj 688 (by decide +kernel), tbi 680 (by decide +kernel), sli 30 (by decide +kernel)⟩
theorem lc_RX4_145 {mt : MT} (h : (mN mt).cls = RX4) : Cond.methodLinkNest (mN mt).cls 145 (mN mX3_countInMessage) "LetterCuts" ∈ tables_1 ∧ Cond.instanceMethod (mN mX3_countInMessage) ∈ lw_tb2 ∧ Cond.selects (cR 3) (mN mX3_countInMessage) (mN mX3_countInMessage) ∈ lw_tb2 := by rw [h]; exact ⟨tbj 689 (by decide +kernel), tbi 691 (by decide +kernel), sli 32 (by decide +kernel)⟩
theorem lc_RX4_148 {mt : MT} (h : (mN mt).cls = RX4) : Cond.methodLinkNest (mN mt).cls 148 (mN mX3_countUsableOf) "LetterCuts" ∈ tables_1 ∧ Cond.instanceMethod (mN mX3_countUsableOf) ∈ lw_tb2 ∧ Cond.selects (cR 3) (mN mX3_countUsableOf) (mN mX3_countUsableOf) ∈ lw_tb2 := by rw [h]; exact ⟨tbj 709 (by decide +kernel), tbi 711 (by decide +kernel), sli 35 (by decide +kernel)⟩
theorem lc_RX4_151 {mt : MT} (h : (mN mt).cls = RX4) : Cond.methodLinkNest (mN mt).cls 151 (mN mX3_cellsWith) "LetterCuts" ∈ tables_1 ∧ Cond.instanceMethod (mN mX3_cellsWith) ∈ lw_tb2 ∧ Cond.selects (cR 3) (mN mX3_cellsWith) (mN mX3_cellsWith) ∈ lw_tb2 := by rw [h]; exact ⟨tbj 714 (by decide +kernel), tbi 716 (by decide +kernel), sli 36 (by decide +kernel)⟩
theorem lc_RX4_155 {mt : MT} (h : (mN mt).cls = RX4) : Cond.methodLink (mN mt).cls 155 (mN mJ13_bitCount_95d88) ∈ lw_tb2 ∧ Cond.static (mN mJ13_bitCount_95d88) ∈ lw_tb2 := by rw [h]; exact ⟨tbi 718 (by decide +kernel), tbi 719 (by decide +kernel)⟩
theorem lc_RX4_161 {mt : MT} (h : (mN mt).cls = RX4) : Cond.methodLinkNest (mN mt).cls 161 (mN mX3_hasMessageLetter) "LetterCuts" ∈ tables_1 ∧ Cond.instanceMethod (mN mX3_hasMessageLetter) ∈ lw_tb2 ∧ Cond.selects (cR 3) (mN mX3_hasMessageLetter) (mN mX3_hasMessageLetter) ∈ lw_tb2 := by rw [h]; exact ⟨tbj 837 (by decide +kernel), tbi 699 (by decide +kernel), sli 34 (by decide +kernel)⟩
theorem lc_RX4_167 {mt : MT} (h : (mN mt).cls = RX4) : Cond.methodLinkNest (mN mt).cls 167 (mN mX3_messageAt) "LetterCuts" ∈ tables_1 ∧ Cond.instanceMethod (mN mX3_messageAt) ∈ lw_tb2 ∧ Cond.selects (cR 3) (mN mX3_messageAt) (mN mX3_messageAt) ∈ lw_tb2 := by rw [h]; exact ⟨tbj 857 (by decide +kernel), tbi 695 (by decide +kernel), sli 33 (by decide +kernel)⟩
theorem lc_RX4_170 {mt : MT} (h : (mN mt).cls = RX4) : Cond.methodLinkNest (mN mt).cls 170 (mN mX0_clear) "LetterCuts" ∈ tables_1 ∧ Cond.instanceMethod (mN mX0_clear) ∈ lw_tb2 ∧ Cond.selects (cR 0) (mN mX0_clear) (mN mX0_clear) ∈ lw_tb2 := by rw [h]; exact ⟨tbj 856 (by decide +kernel), tbi 764 (by decide +kernel), sli 43 (by decide +kernel)⟩
theorem lc_RX4_173 {mt : MT} (h : (mN mt).cls = RX4) : Cond.methodLinkNest (mN mt).cls 173 (mN mX0_give) "LetterCuts" ∈ tables_1 ∧ Cond.instanceMethod (mN mX0_give) ∈ lw_tb2 ∧ Cond.selects (cR 0) (mN mX0_give) (mN mX0_give) ∈ lw_tb2 := by rw [h]; exact ⟨tbj 858 (by decide +kernel), tbi 770 (by decide +kernel), sli 44 (by decide +kernel)⟩
theorem lc_RX4_177 {mt : MT} (h : (mN mt).cls = RX4) : Cond.methodLink (mN mt).cls 177 (mN mX4_bestCuts) ∈ lw_tb2 ∧ Cond.instanceMethod (mN mX4_bestCuts) ∈ lw_tb2 ∧ Cond.selects (cR 4) (mN mX4_bestCuts) (mN mX4_bestCuts) ∈ lw_tb2 := by rw [h]; exact ⟨tbi 732 (by decide +kernel), tbi 734 (by decide +kernel), sli 37 (by decide +kernel)⟩
theorem lc_RX4_180 {mt : MT} (h : (mN mt).cls = RX4) : Cond.methodLinkNest (mN mt).cls 180 (mN mX1_lengthOfCut) "LetterCuts" ∈ tables_1 ∧ Cond.instanceMethod (mN mX1_lengthOfCut) ∈ lw_tb2 ∧ Cond.selects (cR 1) (mN mX1_lengthOfCut) (mN mX1_lengthOfCut) ∈ lw_tb2 := by rw [h]; exact ⟨tbj 812 (by decide +kernel), tbi 814 (by decide +kernel), sli 51 (by decide +kernel)⟩
theorem lc_RX4_183 {mt : MT} (h : (mN mt).cls = RX4) : Cond.methodLinkNest (mN mt).cls 183 (mN mX1_spotOfCut) "LetterCuts" ∈ tables_1 ∧ Cond.instanceMethod (mN mX1_spotOfCut) ∈ lw_tb2 ∧ Cond.selects (cR 1) (mN mX1_spotOfCut) (mN mX1_spotOfCut) ∈ lw_tb2 := by rw [h]; exact ⟨tbj 816 (by decide +kernel), tbi 818 (by decide +kernel), sli 52 (by decide +kernel)⟩
theorem lc_RX4_186 {mt : MT} (h : (mN mt).cls = RX4) : Cond.methodLink (mN mt).cls 186 (mN mX4_sideOf) ∈ lw_tb2 ∧ Cond.static (mN mX4_sideOf) ∈ lw_tb2 := by rw [h]; exact ⟨tbi 820 (by decide +kernel), tbi 649 (by decide +kernel)⟩
theorem lc_RX4_189 {mt : MT} (h : (mN mt).cls = RX4) : Cond.methodLink (mN mt).cls 189 (mN mX4_sizesOfCut) ∈ lw_tb2 ∧ Cond.instanceMethod (mN mX4_sizesOfCut) ∈ lw_tb2 ∧ Cond.selects (cR 4) (mN mX4_sizesOfCut) (mN mX4_sizesOfCut) ∈ lw_tb2 := by rw [h]; exact ⟨tbi 821 (by decide +kernel), tbi 823 (by decide +kernel), sli 53 (by decide +kernel)⟩
theorem lc_RX4_192 {mt : MT} (h : (mN mt).cls = RX4) : Cond.methodLink (mN mt).cls 192 (mN mX4_sizeOfCut) ∈ lw_tb2 ∧ Cond.instanceMethod (mN mX4_sizeOfCut) ∈ lw_tb2 ∧ Cond.selects (cR 4) (mN mX4_sizeOfCut) (mN mX4_sizeOfCut) ∈ lw_tb2 := by rw [h]; exact ⟨tbi 825 (by decide +kernel), tbi 827 (by decide +kernel), sli 54 (by decide +kernel)⟩
theorem lc_RX4_200 {mt : MT} (h : (mN mt).cls = RX4) : Cond.methodLinkNest (mN mt).cls 200 (mN mX1_choose) "LetterCuts" ∈ tables_1 ∧ Cond.instanceMethod (mN mX1_choose) ∈ lw_tb2 ∧ Cond.selects (cR 1) (mN mX1_choose) (mN mX1_choose) ∈ lw_tb2 := by rw [h]; exact ⟨tbj 754 (by decide +kernel), tbi 756 (by decide +kernel), sli 41 (by decide +kernel)⟩
theorem lf_RX4_203 {mt : MT} (h : (mN mt).cls = RX4) : FL mt 203 1 9 := Or.inr ⟨"LetterCuts", by rw [h]; exact tbj 179 (by decide +kernel)⟩
theorem lc_RX4_207 {mt : MT} (h : (mN mt).cls = RX4) : Cond.methodLinkNest (mN mt).cls 207 (mN mX3_lettersFrom) "LetterCuts" ∈ tables_1 ∧ Cond.instanceMethod (mN mX3_lettersFrom) ∈ lw_tb2 ∧ Cond.selects (cR 3) (mN mX3_lettersFrom) (mN mX3_lettersFrom) ∈ lw_tb2 := by rw [h]; exact ⟨tbj 838 (by decide +kernel), tbi 748 (by decide +kernel), sli 39 (by decide +kernel)⟩
theorem lc_RX4_210 {mt : MT} (h : (mN mt).cls = RX4) : Cond.methodLink (mN mt).cls 210 (mN mJ9_max_7cf53) ∈ lw_tb2 ∧ Cond.static (mN mJ9_max_7cf53) ∈ lw_tb2 := by rw [h]; exact ⟨tbi 839 (by decide +kernel), tbi 417 (by decide +kernel)⟩
theorem lc_RX4_213 {mt : MT} (h : (mN mt).cls = RX4) : Cond.methodLink (mN mt).cls 213 (mN mX4_isUsedByMessage) ∈ lw_tb2 ∧ Cond.instanceMethod (mN mX4_isUsedByMessage) ∈ lw_tb2 ∧ Cond.selects (cR 4) (mN mX4_isUsedByMessage) (mN mX4_isUsedByMessage) ∈ lw_tb2 := by rw [h]; exact ⟨tbi 1227 (by decide +kernel), tbi 1229 (by decide +kernel), sli 63 (by decide +kernel)⟩
theorem lc_RX4_216 {mt : MT} (h : (mN mt).cls = RX4) : Cond.methodLink (mN mt).cls 216 (mN mX4_startsWithLetters) ∈ lw_tb2 ∧ Cond.instanceMethod (mN mX4_startsWithLetters) ∈ lw_tb2 ∧ Cond.selects (cR 4) (mN mX4_startsWithLetters) (mN mX4_startsWithLetters) ∈ lw_tb2 := by rw [h]; exact ⟨tbi 847 (by decide +kernel), tbi 849 (by decide +kernel), sli 55 (by decide +kernel)⟩
theorem lf_RX4_219 {mt : MT} (h : (mN mt).cls = RX4) : FL mt 219 3 6 := Or.inr ⟨"LetterCuts", by rw [h]; exact tbj 65 (by decide +kernel)⟩
theorem lc_RX4_223 {mt : MT} (h : (mN mt).cls = RX4) : Cond.methodLink (mN mt).cls 223 (mN mX4_missing) ∈ lw_tb2 ∧ Cond.instanceMethod (mN mX4_missing) ∈ lw_tb2 ∧ Cond.selects (cR 4) (mN mX4_missing) (mN mX4_missing) ∈ lw_tb2 := by rw [h]; exact ⟨tbi 852 (by decide +kernel), tbi 853 (by decide +kernel), tbi 854 (by decide +kernel)⟩
theorem lc_RX4_229 {mt : MT} (h : (mN mt).cls = RX4) : Cond.methodLinkNest (mN mt).cls 229 (mN mX3_take) "LetterCuts" ∈ tables_1 ∧ Cond.instanceMethod (mN mX3_take) ∈ lw_tb2 ∧ Cond.selects (cR 3) (mN mX3_take) (mN mX3_take) ∈ lw_tb2 := by rw [h]; exact ⟨tbj 882 (by decide +kernel), tbi 884 (by decide +kernel), sli 56 (by decide +kernel)⟩
theorem lc_RX4_233 {mt : MT} (h : (mN mt).cls = RX4) : Cond.methodLinkNest (mN mt).cls 233 (mN mX3_isStrip) "LetterCuts" ∈ tables_1 ∧ Cond.instanceMethod (mN mX3_isStrip) ∈ lw_tb2 ∧ Cond.selects (cR 3) (mN mX3_isStrip) (mN mX3_isStrip) ∈ lw_tb2 := by rw [h]; exact ⟨tbj 895 (by decide +kernel), tbi 897 (by decide +kernel), sli 57 (by decide +kernel)⟩
theorem lc_RX4_236 {mt : MT} (h : (mN mt).cls = RX4) : Cond.methodLinkNest (mN mt).cls 236 (mN mX3_cellsOfStrip) "LetterCuts" ∈ tables_1 ∧ Cond.instanceMethod (mN mX3_cellsOfStrip) ∈ lw_tb2 ∧ Cond.selects (cR 3) (mN mX3_cellsOfStrip) (mN mX3_cellsOfStrip) ∈ lw_tb2 := by rw [h]; exact ⟨tbj 899 (by decide +kernel), tbi 901 (by decide +kernel), sli 58 (by decide +kernel)⟩
theorem lc_RX4_240 {mt : MT} (h : (mN mt).cls = RX4) : Cond.methodLinkNest (mN mt).cls 240 (mN mX3_isThere) "LetterCuts" ∈ tables_1 ∧ Cond.instanceMethod (mN mX3_isThere) ∈ lw_tb2 ∧ Cond.selects (cR 3) (mN mX3_isThere) (mN mX3_isThere) ∈ lw_tb2 := by rw [h]; exact ⟨tbj 921 (by decide +kernel), tbi 685 (by decide +kernel), sli 31 (by decide +kernel)⟩
theorem lf_RX4_243 {mt : MT} (h : (mN mt).cls = RX4) : FL mt 243 3 5 := Or.inr ⟨"LetterCuts", by rw [h]; exact tbj 63 (by decide +kernel)⟩
theorem lc_RX4_250 {mt : MT} (h : (mN mt).cls = RX4) : Cond.methodLink (mN mt).cls 250 (mN mX4_state) ∈ lw_tb2 ∧ Cond.instanceMethod (mN mX4_state) ∈ lw_tb2 ∧ Cond.selects (cR 4) (mN mX4_state) (mN mX4_state) ∈ lw_tb2 := by rw [h]; exact ⟨tbi 1210 (by decide +kernel), tbi 1211 (by decide +kernel), tbi 1212 (by decide +kernel)⟩
theorem lc_RX4_253 {mt : MT} (h : (mN mt).cls = RX4) : Cond.methodLinkNest (mN mt).cls 253 (mN mX3_hasSpot) "LetterCuts" ∈ tables_1 ∧ Cond.instanceMethod (mN mX3_hasSpot) ∈ lw_tb2 ∧ Cond.selects (cR 3) (mN mX3_hasSpot) (mN mX3_hasSpot) ∈ lw_tb2 := by rw [h]; exact ⟨tbj 1218 (by decide +kernel), tbi 671 (by decide +kernel), sli 28 (by decide +kernel)⟩
theorem lc_RX4_256 {mt : MT} (h : (mN mt).cls = RX4) : Cond.methodLink (mN mt).cls 256 (mN mX4_clashes) ∈ lw_tb2 ∧ Cond.instanceMethod (mN mX4_clashes) ∈ lw_tb2 ∧ Cond.selects (cR 4) (mN mX4_clashes) (mN mX4_clashes) ∈ lw_tb2 := by rw [h]; exact ⟨tbi 1223 (by decide +kernel), tbi 1224 (by decide +kernel), tbi 1225 (by decide +kernel)⟩
theorem lc_RX4_259 {mt : MT} (h : (mN mt).cls = RX4) : Cond.methodLink (mN mt).cls 259 (mN mX4_isLetter) ∈ lw_tb2 ∧ Cond.static (mN mX4_isLetter) ∈ lw_tb2 := by rw [h]; exact ⟨tbi 851 (by decide +kernel), tbi 553 (by decide +kernel)⟩
theorem lc_RX4_262 {mt : MT} (h : (mN mt).cls = RX4) : Cond.methodLink (mN mt).cls 262 (mN mX4_makeOldestFinal) ∈ lw_tb2 ∧ Cond.instanceMethod (mN mX4_makeOldestFinal) ∈ lw_tb2 ∧ Cond.selects (cR 4) (mN mX4_makeOldestFinal) (mN mX4_makeOldestFinal) ∈ lw_tb2 := by rw [h]; exact ⟨tbi 603 (by decide +kernel), tbi 605 (by decide +kernel), sli 20 (by decide +kernel)⟩
theorem lc_RX4_265 {mt : MT} (h : (mN mt).cls = RX4) : Cond.methodLinkNest (mN mt).cls 265 (mN mX1_prepare) "LetterCuts" ∈ tables_1 ∧ Cond.instanceMethod (mN mX1_prepare) ∈ lw_tb2 ∧ Cond.selects (cR 1) (mN mX1_prepare) (mN mX1_prepare) ∈ lw_tb2 := by rw [h]; exact ⟨tbj 736 (by decide +kernel), tbi 738 (by decide +kernel), sli 38 (by decide +kernel)⟩
theorem lf_RX4_268 {mt : MT} (h : (mN mt).cls = RX4) : FL mt 268 1 8 := Or.inr ⟨"LetterCuts", by rw [h]; exact tbj 177 (by decide +kernel)⟩
theorem lfm_RX0_9 {mt : MT} (h : (mN mt).cls = RX0) : Cond.fieldLink (mN mt).cls 9 (cT 0 0).1 (cT 0 0).2.1 (cT 0 0).2.2.1 ∈ lw_tb2 := by rw [h]; exact tbi 144 (by decide +kernel)
theorem lf_RX0_9 {mt : MT} (h : (mN mt).cls = RX0) : FL mt 9 0 0 := Or.inl (lfm_RX0_9 h)
theorem lfm_RX0_15 {mt : MT} (h : (mN mt).cls = RX0) : Cond.fieldLink (mN mt).cls 15 (cT 0 1).1 (cT 0 1).2.1 (cT 0 1).2.2.1 ∈ lw_tb2 := by rw [h]; exact tbi 145 (by decide +kernel)
theorem lf_RX0_15 {mt : MT} (h : (mN mt).cls = RX0) : FL mt 15 0 1 := Or.inl (lfm_RX0_15 h)
theorem lfm_RX0_19 {mt : MT} (h : (mN mt).cls = RX0) : Cond.fieldLink (mN mt).cls 19 (cT 0 2).1 (cT 0 2).2.1 (cT 0 2).2.2.1 ∈ lw_tb2 := by rw [h]; exact tbi 146 (by decide +kernel)
theorem lf_RX0_19 {mt : MT} (h : (mN mt).cls = RX0) : FL mt 19 0 2 := Or.inl (lfm_RX0_19 h)
theorem lc_RX0_23 {mt : MT} (h : (mN mt).cls = RX0) : Cond.methodLink (mN mt).cls 23 (mN mJ7_fill_53178) ∈ lw_tb2 ∧ Cond.static (mN mJ7_fill_53178) ∈ lw_tb2 := by rw [h]; exact ⟨tbi 766 (by decide +kernel), tbi 47 (by decide +kernel)⟩
theorem lfm_RX0_29 {mt : MT} (h : (mN mt).cls = RX0) : Cond.fieldLink (mN mt).cls 29 (cT 0 3).1 (cT 0 3).2.1 (cT 0 3).2.2.1 ∈ lw_tb2 := by rw [h]; exact tbi 147 (by decide +kernel)
theorem lf_RX0_29 {mt : MT} (h : (mN mt).cls = RX0) : FL mt 29 0 3 := Or.inl (lfm_RX0_29 h)
theorem lc_RX0_33 {mt : MT} (h : (mN mt).cls = RX0) : Cond.methodLink (mN mt).cls 33 (mN mX0_findCell) ∈ lw_tb2 ∧ Cond.instanceMethod (mN mX0_findCell) ∈ lw_tb2 ∧ Cond.selects (cR 0) (mN mX0_findCell) (mN mX0_findCell) ∈ lw_tb2 := by rw [h]; exact ⟨tbi 772 (by decide +kernel), tbi 774 (by decide +kernel), sli 45 (by decide +kernel)⟩
theorem lc_RX0_39 {mt : MT} (h : (mN mt).cls = RX0) : Cond.methodLink (mN mt).cls 39 (mN mX0_canMove) ∈ lw_tb2 ∧ Cond.instanceMethod (mN mX0_canMove) ∈ lw_tb2 ∧ Cond.selects (cR 0) (mN mX0_canMove) (mN mX0_canMove) ∈ lw_tb2 := by rw [h]; exact ⟨tbi 777 (by decide +kernel), tbi 779 (by decide +kernel), sli 46 (by decide +kernel)⟩
theorem lc_RX1_11 {mt : MT} (h : (mN mt).cls = RX1) : Cond.methodLinkNest (mN mt).cls 11 (mN mX0_init) "LetterCuts" ∈ tables_1 ∧ Cond.instanceMethod (mN mX0_init) ∈ lw_tb2 := by rw [h]; exact ⟨tbj 165 (by decide +kernel), tbi 141 (by decide +kernel)⟩
theorem lfm_RX1_12 {mt : MT} (h : (mN mt).cls = RX1) : Cond.fieldLink (mN mt).cls 12 (cT 1 0).1 (cT 1 0).2.1 (cT 1 0).2.2.1 ∈ lw_tb2 := by rw [h]; exact tbi 168 (by decide +kernel)
theorem lf_RX1_12 {mt : MT} (h : (mN mt).cls = RX1) : FL mt 12 1 0 := Or.inl (lfm_RX1_12 h)
theorem lfm_RX1_18 {mt : MT} (h : (mN mt).cls = RX1) : Cond.fieldLink (mN mt).cls 18 (cT 1 1).1 (cT 1 1).2.1 (cT 1 1).2.2.1 ∈ lw_tb2 := by rw [h]; exact tbi 169 (by decide +kernel)
theorem lf_RX1_18 {mt : MT} (h : (mN mt).cls = RX1) : FL mt 18 1 1 := Or.inl (lfm_RX1_18 h)
theorem lfm_RX1_22 {mt : MT} (h : (mN mt).cls = RX1) : Cond.fieldLink (mN mt).cls 22 (cT 1 2).1 (cT 1 2).2.1 (cT 1 2).2.2.1 ∈ lw_tb2 := by rw [h]; exact tbi 170 (by decide +kernel)
theorem lf_RX1_22 {mt : MT} (h : (mN mt).cls = RX1) : FL mt 22 1 2 := Or.inl (lfm_RX1_22 h)
theorem lfm_RX1_27 {mt : MT} (h : (mN mt).cls = RX1) : Cond.fieldLink (mN mt).cls 27 (cT 1 3).1 (cT 1 3).2.1 (cT 1 3).2.2.1 ∈ lw_tb2 := by rw [h]; exact tbi 171 (by decide +kernel)
theorem lf_RX1_27 {mt : MT} (h : (mN mt).cls = RX1) : FL mt 27 1 3 := Or.inl (lfm_RX1_27 h)
theorem lfm_RX1_30 {mt : MT} (h : (mN mt).cls = RX1) : Cond.fieldLink (mN mt).cls 30 (cT 1 4).1 (cT 1 4).2.1 (cT 1 4).2.2.1 ∈ lw_tb2 := by rw [h]; exact tbi 172 (by decide +kernel)
theorem lf_RX1_30 {mt : MT} (h : (mN mt).cls = RX1) : FL mt 30 1 4 := Or.inl (lfm_RX1_30 h)
theorem lfm_RX1_34 {mt : MT} (h : (mN mt).cls = RX1) : Cond.fieldLink (mN mt).cls 34 (cT 1 6).1 (cT 1 6).2.1 (cT 1 6).2.2.1 ∈ lw_tb2 := by rw [h]; exact tbi 174 (by decide +kernel)
theorem lf_RX1_34 {mt : MT} (h : (mN mt).cls = RX1) : FL mt 34 1 6 := Or.inl (lfm_RX1_34 h)
theorem lfm_RX1_37 {mt : MT} (h : (mN mt).cls = RX1) : Cond.fieldLink (mN mt).cls 37 (cT 1 7).1 (cT 1 7).2.1 (cT 1 7).2.2.1 ∈ lw_tb2 := by rw [h]; exact tbi 175 (by decide +kernel)
theorem lf_RX1_37 {mt : MT} (h : (mN mt).cls = RX1) : FL mt 37 1 7 := Or.inl (lfm_RX1_37 h)
theorem lfm_RX1_40 {mt : MT} (h : (mN mt).cls = RX1) : Cond.fieldLink (mN mt).cls 40 (cT 1 8).1 (cT 1 8).2.1 (cT 1 8).2.2.1 ∈ lw_tb2 := by rw [h]; exact tbi 176 (by decide +kernel)
theorem lf_RX1_40 {mt : MT} (h : (mN mt).cls = RX1) : FL mt 40 1 8 := Or.inl (lfm_RX1_40 h)
theorem lf_RX1_44 {mt : MT} (h : (mN mt).cls = RX1) : FL mt 44 3 7 := Or.inr ⟨"LetterCuts", by rw [h]; exact tbj 67 (by decide +kernel)⟩
theorem lc_RX1_49 {mt : MT} (h : (mN mt).cls = RX1) : Cond.methodLink (mN mt).cls 49 (mN mJ9_min_7cf53) ∈ lw_tb2 ∧ Cond.static (mN mJ9_min_7cf53) ∈ lw_tb2 := by rw [h]; exact ⟨tbi 740 (by decide +kernel), tbi 536 (by decide +kernel)⟩
theorem lc_RX1_55 {mt : MT} (h : (mN mt).cls = RX1) : Cond.methodLink (mN mt).cls 55 (mN mJ9_max_7cf53) ∈ lw_tb2 ∧ Cond.static (mN mJ9_max_7cf53) ∈ lw_tb2 := by rw [h]; exact ⟨tbi 741 (by decide +kernel), tbi 417 (by decide +kernel)⟩
theorem lfm_RX1_58 {mt : MT} (h : (mN mt).cls = RX1) : Cond.fieldLink (mN mt).cls 58 (cT 1 5).1 (cT 1 5).2.1 (cT 1 5).2.2.1 ∈ lw_tb2 := by rw [h]; exact tbi 173 (by decide +kernel)
theorem lf_RX1_58 {mt : MT} (h : (mN mt).cls = RX1) : FL mt 58 1 5 := Or.inl (lfm_RX1_58 h)
theorem lc_RX1_61 {mt : MT} (h : (mN mt).cls = RX1) : Cond.methodLinkNest (mN mt).cls 61 (mN mX3_hasSpot) "LetterCuts" ∈ tables_1 ∧ Cond.instanceMethod (mN mX3_hasSpot) ∈ lw_tb2 ∧ Cond.selects (cR 3) (mN mX3_hasSpot) (mN mX3_hasSpot) ∈ lw_tb2 := by rw [h]; exact ⟨tbj 742 (by decide +kernel), tbi 671 (by decide +kernel), sli 28 (by decide +kernel)⟩
theorem lc_RX1_65 {mt : MT} (h : (mN mt).cls = RX1) : Cond.methodLinkNest (mN mt).cls 65 (mN mX3_cellOf) "LetterCuts" ∈ tables_1 ∧ Cond.instanceMethod (mN mX3_cellOf) ∈ lw_tb2 ∧ Cond.selects (cR 3) (mN mX3_cellOf) (mN mX3_cellOf) ∈ lw_tb2 := by rw [h]; exact ⟨tbj 743 (by decide +kernel), tbi 646 (by decide +kernel), sli 24 (by decide +kernel)⟩
theorem lc_RX1_69 {mt : MT} (h : (mN mt).cls = RX1) : Cond.methodLinkNest (mN mt).cls 69 (mN mX3_messageAt) "LetterCuts" ∈ tables_1 ∧ Cond.instanceMethod (mN mX3_messageAt) ∈ lw_tb2 ∧ Cond.selects (cR 3) (mN mX3_messageAt) (mN mX3_messageAt) ∈ lw_tb2 := by rw [h]; exact ⟨tbj 744 (by decide +kernel), tbi 695 (by decide +kernel), sli 33 (by decide +kernel)⟩
theorem lc_RX1_72 {mt : MT} (h : (mN mt).cls = RX1) : Cond.methodLinkNest (mN mt).cls 72 (mN mX3_cellsWith) "LetterCuts" ∈ tables_1 ∧ Cond.instanceMethod (mN mX3_cellsWith) ∈ lw_tb2 ∧ Cond.selects (cR 3) (mN mX3_cellsWith) (mN mX3_cellsWith) ∈ lw_tb2 := by rw [h]; exact ⟨tbj 745 (by decide +kernel), tbi 716 (by decide +kernel), sli 36 (by decide +kernel)⟩
theorem lc_RX1_76 {mt : MT} (h : (mN mt).cls = RX1) : Cond.methodLinkNest (mN mt).cls 76 (mN mX3_lettersFrom) "LetterCuts" ∈ tables_1 ∧ Cond.instanceMethod (mN mX3_lettersFrom) ∈ lw_tb2 ∧ Cond.selects (cR 3) (mN mX3_lettersFrom) (mN mX3_lettersFrom) ∈ lw_tb2 := by rw [h]; exact ⟨tbj 746 (by decide +kernel), tbi 748 (by decide +kernel), sli 39 (by decide +kernel)⟩
theorem lc_RX1_79 {mt : MT} (h : (mN mt).cls = RX1) : Cond.methodLink (mN mt).cls 79 (mN mX1_boundSaved) ∈ lw_tb2 ∧ Cond.instanceMethod (mN mX1_boundSaved) ∈ lw_tb2 ∧ Cond.selects (cR 1) (mN mX1_boundSaved) (mN mX1_boundSaved) ∈ lw_tb2 := by rw [h]; exact ⟨tbi 750 (by decide +kernel), tbi 752 (by decide +kernel), sli 40 (by decide +kernel)⟩
theorem lfm_RX1_82 {mt : MT} (h : (mN mt).cls = RX1) : Cond.fieldLink (mN mt).cls 82 (cT 1 9).1 (cT 1 9).2.1 (cT 1 9).2.2.1 ∈ lw_tb2 := by rw [h]; exact tbi 178 (by decide +kernel)
theorem lf_RX1_82 {mt : MT} (h : (mN mt).cls = RX1) : FL mt 82 1 9 := Or.inl (lfm_RX1_82 h)
theorem lc_RX1_86 {mt : MT} (h : (mN mt).cls = RX1) : Cond.methodLink (mN mt).cls 86 (mN mX1_canSpell) ∈ lw_tb2 ∧ Cond.instanceMethod (mN mX1_canSpell) ∈ lw_tb2 ∧ Cond.selects (cR 1) (mN mX1_canSpell) (mN mX1_canSpell) ∈ lw_tb2 := by rw [h]; exact ⟨tbi 758 (by decide +kernel), tbi 760 (by decide +kernel), sli 42 (by decide +kernel)⟩
theorem lc_RX1_90 {mt : MT} (h : (mN mt).cls = RX1) : Cond.methodLink (mN mt).cls 90 (mN mX1_canSave) ∈ lw_tb2 ∧ Cond.instanceMethod (mN mX1_canSave) ∈ lw_tb2 ∧ Cond.selects (cR 1) (mN mX1_canSave) (mN mX1_canSave) ∈ lw_tb2 := by rw [h]; exact ⟨tbi 781 (by decide +kernel), tbi 783 (by decide +kernel), sli 47 (by decide +kernel)⟩
theorem lc_RX1_94 {mt : MT} (h : (mN mt).cls = RX1) : Cond.methodLink (mN mt).cls 94 (mN mX1_chooseCut) ∈ lw_tb2 ∧ Cond.instanceMethod (mN mX1_chooseCut) ∈ lw_tb2 ∧ Cond.selects (cR 1) (mN mX1_chooseCut) (mN mX1_chooseCut) ∈ lw_tb2 := by rw [h]; exact ⟨tbi 793 (by decide +kernel), tbi 795 (by decide +kernel), sli 50 (by decide +kernel)⟩
theorem lc_RX1_98 {mt : MT} (h : (mN mt).cls = RX1) : Cond.methodLink (mN mt).cls 98 (mN mX1_freeStrip) ∈ lw_tb2 ∧ Cond.instanceMethod (mN mX1_freeStrip) ∈ lw_tb2 ∧ Cond.selects (cR 1) (mN mX1_freeStrip) (mN mX1_freeStrip) ∈ lw_tb2 := by rw [h]; exact ⟨tbi 789 (by decide +kernel), tbi 791 (by decide +kernel), sli 49 (by decide +kernel)⟩
theorem lc_RX1_102 {mt : MT} (h : (mN mt).cls = RX1) : Cond.methodLink (mN mt).cls 102 (mN mX1_canSaveAt) ∈ lw_tb2 ∧ Cond.instanceMethod (mN mX1_canSaveAt) ∈ lw_tb2 ∧ Cond.selects (cR 1) (mN mX1_canSaveAt) (mN mX1_canSaveAt) ∈ lw_tb2 := by rw [h]; exact ⟨tbi 785 (by decide +kernel), tbi 787 (by decide +kernel), sli 48 (by decide +kernel)⟩
theorem lc_RX1_105 {mt : MT} (h : (mN mt).cls = RX1) : Cond.methodLinkNest (mN mt).cls 105 (mN mX0_clear) "LetterCuts" ∈ tables_1 ∧ Cond.instanceMethod (mN mX0_clear) ∈ lw_tb2 ∧ Cond.selects (cR 0) (mN mX0_clear) (mN mX0_clear) ∈ lw_tb2 := by rw [h]; exact ⟨tbj 762 (by decide +kernel), tbi 764 (by decide +kernel), sli 43 (by decide +kernel)⟩
theorem lc_RX1_110 {mt : MT} (h : (mN mt).cls = RX1) : Cond.methodLinkNest (mN mt).cls 110 (mN mX0_give) "LetterCuts" ∈ tables_1 ∧ Cond.instanceMethod (mN mX0_give) ∈ lw_tb2 ∧ Cond.selects (cR 0) (mN mX0_give) (mN mX0_give) ∈ lw_tb2 := by rw [h]; exact ⟨tbj 768 (by decide +kernel), tbi 770 (by decide +kernel), sli 44 (by decide +kernel)⟩
theorem lc_RX2_11 {mt : MT} (h : (mN mt).cls = RX2) : Cond.methodLinkNest (mN mt).cls 11 (mN mX3_init) "LetterCuts" ∈ tables_1 ∧ Cond.instanceMethod (mN mX3_init) ∈ lw_tb2 := by rw [h]; exact ⟨tbj 104 (by decide +kernel), tbi 39 (by decide +kernel)⟩
theorem lfm_RX2_12 {mt : MT} (h : (mN mt).cls = RX2) : Cond.fieldLink (mN mt).cls 12 (cT 2 0).1 (cT 2 0).2.1 (cT 2 0).2.2.1 ∈ lw_tb2 := by rw [h]; exact tbi 105 (by decide +kernel)
theorem lf_RX2_12 {mt : MT} (h : (mN mt).cls = RX2) : FL mt 12 2 0 := Or.inl (lfm_RX2_12 h)
theorem lfm_RX2_18 {mt : MT} (h : (mN mt).cls = RX2) : Cond.fieldLink (mN mt).cls 18 (cT 2 1).1 (cT 2 1).2.1 (cT 2 1).2.2.1 ∈ lw_tb2 := by rw [h]; exact tbi 107 (by decide +kernel)
theorem lf_RX2_18 {mt : MT} (h : (mN mt).cls = RX2) : FL mt 18 2 1 := Or.inl (lfm_RX2_18 h)
theorem lfm_RX2_22 {mt : MT} (h : (mN mt).cls = RX2) : Cond.fieldLink (mN mt).cls 22 (cT 2 5).1 (cT 2 5).2.1 (cT 2 5).2.2.1 ∈ lw_tb2 := by rw [h]; exact tbi 111 (by decide +kernel)
theorem lf_RX2_22 {mt : MT} (h : (mN mt).cls = RX2) : FL mt 22 2 5 := Or.inl (lfm_RX2_22 h)
theorem lc_RX2_26 {mt : MT} (h : (mN mt).cls = RX2) : Cond.methodLink (mN mt).cls 26 (mN mJ9_min_7cf53) ∈ lw_tb2 ∧ Cond.static (mN mJ9_min_7cf53) ∈ lw_tb2 := by rw [h]; exact ⟨tbi 535 (by decide +kernel), tbi 536 (by decide +kernel)⟩
theorem lc_RX2_32 {mt : MT} (h : (mN mt).cls = RX2) : Cond.methodLink (mN mt).cls 32 (mN mJ9_max_7cf53) ∈ lw_tb2 ∧ Cond.static (mN mJ9_max_7cf53) ∈ lw_tb2 := by rw [h]; exact ⟨tbi 538 (by decide +kernel), tbi 417 (by decide +kernel)⟩
theorem lfm_RX2_35 {mt : MT} (h : (mN mt).cls = RX2) : Cond.fieldLink (mN mt).cls 35 (cT 2 2).1 (cT 2 2).2.1 (cT 2 2).2.2.1 ∈ lw_tb2 := by rw [h]; exact tbi 108 (by decide +kernel)
theorem lf_RX2_35 {mt : MT} (h : (mN mt).cls = RX2) : FL mt 35 2 2 := Or.inl (lfm_RX2_35 h)
theorem lfm_RX2_44 {mt : MT} (h : (mN mt).cls = RX2) : Cond.fieldLink (mN mt).cls 44 (cT 2 3).1 (cT 2 3).2.1 (cT 2 3).2.2.1 ∈ lw_tb2 := by rw [h]; exact tbi 109 (by decide +kernel)
theorem lf_RX2_44 {mt : MT} (h : (mN mt).cls = RX2) : FL mt 44 2 3 := Or.inl (lfm_RX2_44 h)
theorem lfm_RX2_47 {mt : MT} (h : (mN mt).cls = RX2) : Cond.fieldLink (mN mt).cls 47 (cT 2 4).1 (cT 2 4).2.1 (cT 2 4).2.2.1 ∈ lw_tb2 := by rw [h]; exact tbi 110 (by decide +kernel)
theorem lf_RX2_47 {mt : MT} (h : (mN mt).cls = RX2) : FL mt 47 2 4 := Or.inl (lfm_RX2_47 h)
theorem lfm_RX2_50 {mt : MT} (h : (mN mt).cls = RX2) : Cond.fieldLink (mN mt).cls 50 (cT 2 6).1 (cT 2 6).2.1 (cT 2 6).2.2.1 ∈ lw_tb2 := by rw [h]; exact tbi 113 (by decide +kernel)
theorem lf_RX2_50 {mt : MT} (h : (mN mt).cls = RX2) : FL mt 50 2 6 := Or.inl (lfm_RX2_50 h)
theorem lfm_RX2_54 {mt : MT} (h : (mN mt).cls = RX2) : Cond.fieldLink (mN mt).cls 54 (cT 2 7).1 (cT 2 7).2.1 (cT 2 7).2.2.1 ∈ lw_tb2 := by rw [h]; exact tbi 114 (by decide +kernel)
theorem lf_RX2_54 {mt : MT} (h : (mN mt).cls = RX2) : FL mt 54 2 7 := Or.inl (lfm_RX2_54 h)
theorem lfm_RX2_57 {mt : MT} (h : (mN mt).cls = RX2) : Cond.fieldLink (mN mt).cls 57 (cT 2 8).1 (cT 2 8).2.1 (cT 2 8).2.2.1 ∈ lw_tb2 := by rw [h]; exact tbi 115 (by decide +kernel)
theorem lf_RX2_57 {mt : MT} (h : (mN mt).cls = RX2) : FL mt 57 2 8 := Or.inl (lfm_RX2_57 h)
theorem lfm_RX2_60 {mt : MT} (h : (mN mt).cls = RX2) : Cond.fieldLink (mN mt).cls 60 (cT 2 9).1 (cT 2 9).2.1 (cT 2 9).2.2.1 ∈ lw_tb2 := by rw [h]; exact tbi 116 (by decide +kernel)
theorem lf_RX2_60 {mt : MT} (h : (mN mt).cls = RX2) : FL mt 60 2 9 := Or.inl (lfm_RX2_60 h)
theorem lc_RX2_63 {mt : MT} (h : (mN mt).cls = RX2) : Cond.methodLink (mN mt).cls 63 (mN mX2_readPage) ∈ lw_tb2 ∧ Cond.instanceMethod (mN mX2_readPage) ∈ lw_tb2 ∧ Cond.selects (cR 2) (mN mX2_readPage) (mN mX2_readPage) ∈ lw_tb2 := by rw [h]; exact ⟨tbi 540 (by decide +kernel), tbi 542 (by decide +kernel), sli 7 (by decide +kernel)⟩
theorem lc_RX2_66 {mt : MT} (h : (mN mt).cls = RX2) : Cond.methodLink (mN mt).cls 66 (mN mX2_hasMore) ∈ lw_tb2 ∧ Cond.instanceMethod (mN mX2_hasMore) ∈ lw_tb2 ∧ Cond.selects (cR 2) (mN mX2_hasMore) (mN mX2_hasMore) ∈ lw_tb2 := by rw [h]; exact ⟨tbi 575 (by decide +kernel), tbi 577 (by decide +kernel), sli 14 (by decide +kernel)⟩
theorem lc_RX2_70 {mt : MT} (h : (mN mt).cls = RX2) : Cond.methodLink (mN mt).cls 70 (mN mX2_readStatement) ∈ lw_tb2 ∧ Cond.instanceMethod (mN mX2_readStatement) ∈ lw_tb2 ∧ Cond.selects (cR 2) (mN mX2_readStatement) (mN mX2_readStatement) ∈ lw_tb2 := by rw [h]; exact ⟨tbi 579 (by decide +kernel), tbi 581 (by decide +kernel), sli 15 (by decide +kernel)⟩
theorem lc_RX2_73 {mt : MT} (h : (mN mt).cls = RX2) : Cond.methodLink (mN mt).cls 73 (mN mX2_skipSpaces) ∈ lw_tb2 ∧ Cond.instanceMethod (mN mX2_skipSpaces) ∈ lw_tb2 ∧ Cond.selects (cR 2) (mN mX2_skipSpaces) (mN mX2_skipSpaces) ∈ lw_tb2 := by rw [h]; exact ⟨tbi 544 (by decide +kernel), tbi 546 (by decide +kernel), sli 8 (by decide +kernel)⟩
theorem lc_RX2_76 {mt : MT} (h : (mN mt).cls = RX2) : Cond.methodLink (mN mt).cls 76 (mN mX2_skipWord) ∈ lw_tb2 ∧ Cond.instanceMethod (mN mX2_skipWord) ∈ lw_tb2 ∧ Cond.selects (cR 2) (mN mX2_skipWord) (mN mX2_skipWord) ∈ lw_tb2 := by rw [h]; exact ⟨tbi 548 (by decide +kernel), tbi 550 (by decide +kernel), sli 9 (by decide +kernel)⟩
theorem lc_RX2_81 {mt : MT} (h : (mN mt).cls = RX2) : Cond.methodLink (mN mt).cls 81 (mN mX2_isWord) ∈ lw_tb2 ∧ Cond.instanceMethod (mN mX2_isWord) ∈ lw_tb2 ∧ Cond.selects (cR 2) (mN mX2_isWord) (mN mX2_isWord) ∈ lw_tb2 := by rw [h]; exact ⟨tbi 556 (by decide +kernel), tbi 558 (by decide +kernel), sli 10 (by decide +kernel)⟩
theorem lc_RX2_85 {mt : MT} (h : (mN mt).cls = RX2) : Cond.methodLink (mN mt).cls 85 (mN mX2_fail) ∈ lw_tb2 ∧ Cond.instanceMethod (mN mX2_fail) ∈ lw_tb2 ∧ Cond.selects (cR 2) (mN mX2_fail) (mN mX2_fail) ∈ lw_tb2 := by rw [h]; exact ⟨tbi 562 (by decide +kernel), tbi 564 (by decide +kernel), sli 11 (by decide +kernel)⟩
theorem lc_RX2_89 {mt : MT} (h : (mN mt).cls = RX2) : Cond.methodLink (mN mt).cls 89 (mN mX2_readNumber) ∈ lw_tb2 ∧ Cond.instanceMethod (mN mX2_readNumber) ∈ lw_tb2 ∧ Cond.selects (cR 2) (mN mX2_readNumber) (mN mX2_readNumber) ∈ lw_tb2 := by rw [h]; exact ⟨tbi 566 (by decide +kernel), tbi 568 (by decide +kernel), sli 12 (by decide +kernel)⟩
theorem lc_RX2_93 {mt : MT} (h : (mN mt).cls = RX2) : Cond.methodLink (mN mt).cls 93 (mN mX2_readSemicolon) ∈ lw_tb2 ∧ Cond.instanceMethod (mN mX2_readSemicolon) ∈ lw_tb2 ∧ Cond.selects (cR 2) (mN mX2_readSemicolon) (mN mX2_readSemicolon) ∈ lw_tb2 := by rw [h]; exact ⟨tbi 570 (by decide +kernel), tbi 572 (by decide +kernel), sli 13 (by decide +kernel)⟩
theorem lc_RX2_96 {mt : MT} (h : (mN mt).cls = RX2) : Cond.methodLinkNest (mN mt).cls 96 (mN mX3_startAnew) "LetterCuts" ∈ tables_1 ∧ Cond.instanceMethod (mN mX3_startAnew) ∈ lw_tb2 ∧ Cond.selects (cR 3) (mN mX3_startAnew) (mN mX3_startAnew) ∈ lw_tb2 := by rw [h]; exact ⟨tbj 574 (by decide +kernel), tbi 44 (by decide +kernel), sli 0 (by decide +kernel)⟩
theorem lc_RX2_101 {mt : MT} (h : (mN mt).cls = RX2) : Cond.methodLink (mN mt).cls 101 (mN mX2_readLines) ∈ lw_tb2 ∧ Cond.instanceMethod (mN mX2_readLines) ∈ lw_tb2 ∧ Cond.selects (cR 2) (mN mX2_readLines) (mN mX2_readLines) ∈ lw_tb2 := by rw [h]; exact ⟨tbi 584 (by decide +kernel), tbi 586 (by decide +kernel), sli 16 (by decide +kernel)⟩
theorem lc_RX2_109 {mt : MT} (h : (mN mt).cls = RX2) : Cond.methodLink (mN mt).cls 109 (mN mX2_readSizes) ∈ lw_tb2 ∧ Cond.instanceMethod (mN mX2_readSizes) ∈ lw_tb2 ∧ Cond.selects (cR 2) (mN mX2_readSizes) (mN mX2_readSizes) ∈ lw_tb2 := by rw [h]; exact ⟨tbi 594 (by decide +kernel), tbi 596 (by decide +kernel), sli 18 (by decide +kernel)⟩
theorem lf_RX2_114 {mt : MT} (h : (mN mt).cls = RX2) : FL mt 114 3 2 := Or.inr ⟨"LetterCuts", by rw [h]; exact tbj 56 (by decide +kernel)⟩
theorem lf_RX2_117 {mt : MT} (h : (mN mt).cls = RX2) : FL mt 117 3 1 := Or.inr ⟨"LetterCuts", by rw [h]; exact tbj 53 (by decide +kernel)⟩
theorem lc_RX2_120 {mt : MT} (h : (mN mt).cls = RX2) : Cond.methodLink (mN mt).cls 120 (mN mX2_readLine) ∈ lw_tb2 ∧ Cond.instanceMethod (mN mX2_readLine) ∈ lw_tb2 ∧ Cond.selects (cR 2) (mN mX2_readLine) (mN mX2_readLine) ∈ lw_tb2 := by rw [h]; exact ⟨tbi 588 (by decide +kernel), tbi 590 (by decide +kernel), sli 17 (by decide +kernel)⟩
theorem lc_RX2_123 {mt : MT} (h : (mN mt).cls = RX2) : Cond.methodLinkNest (mN mt).cls 123 (mN mX4_isLetter) "LetterCuts" ∈ tables_1 ∧ Cond.static (mN mX4_isLetter) ∈ lw_tb2 := by rw [h]; exact ⟨tbj 552 (by decide +kernel), tbi 553 (by decide +kernel)⟩
theorem lf_RX2_127 {mt : MT} (h : (mN mt).cls = RX2) : FL mt 127 3 0 := Or.inr ⟨"LetterCuts", by rw [h]; exact tbj 51 (by decide +kernel)⟩
theorem lf_RX2_130 {mt : MT} (h : (mN mt).cls = RX2) : FL mt 130 3 3 := Or.inr ⟨"LetterCuts", by rw [h]; exact tbj 59 (by decide +kernel)⟩
theorem lf_RX2_134 {mt : MT} (h : (mN mt).cls = RX2) : FL mt 134 3 4 := Or.inr ⟨"LetterCuts", by rw [h]; exact tbj 61 (by decide +kernel)⟩
theorem lc_RX2_136 {mt : MT} (h : (mN mt).cls = RX2) : Cond.methodLink (mN mt).cls 136 (mN mJ0_length_8abf5) ∈ lw_tb2 ∧ Cond.instanceMethod (mN mJ0_length_8abf5) ∈ lw_tb2 ∧ Cond.selects (cR 7) (mN mJ0_length_8abf5) (mN mJ0_length_8abf5) ∈ lw_tb2 := by rw [h]; exact ⟨tbi 560 (by decide +kernel), tbi 342 (by decide +kernel), tbi 343 (by decide +kernel)⟩
theorem lc_RX2_141 {mt : MT} (h : (mN mt).cls = RX2) : Cond.methodLink (mN mt).cls 141 (mN mJ0_charAt_5068e) ∈ lw_tb2 ∧ Cond.instanceMethod (mN mJ0_charAt_5068e) ∈ lw_tb2 ∧ Cond.selects (cR 7) (mN mJ0_charAt_5068e) (mN mJ0_charAt_5068e) ∈ lw_tb2 := by rw [h]; exact ⟨tbi 561 (by decide +kernel), tbi 353 (by decide +kernel), tbi 354 (by decide +kernel)⟩
theorem lfm_RX3_9 {mt : MT} (h : (mN mt).cls = RX3) : Cond.fieldLink (mN mt).cls 9 (cT 3 3).1 (cT 3 3).2.1 (cT 3 3).2.2.1 ∈ lw_tb2 := by rw [h]; exact tbi 58 (by decide +kernel)
theorem lf_RX3_9 {mt : MT} (h : (mN mt).cls = RX3) : FL mt 9 3 3 := Or.inl (lfm_RX3_9 h)
theorem lfm_RX3_15 {mt : MT} (h : (mN mt).cls = RX3) : Cond.fieldLink (mN mt).cls 15 (cT 3 4).1 (cT 3 4).2.1 (cT 3 4).2.2.1 ∈ lw_tb2 := by rw [h]; exact tbi 60 (by decide +kernel)
theorem lf_RX3_15 {mt : MT} (h : (mN mt).cls = RX3) : FL mt 15 3 4 := Or.inl (lfm_RX3_15 h)
theorem lfm_RX3_18 {mt : MT} (h : (mN mt).cls = RX3) : Cond.fieldLink (mN mt).cls 18 (cT 3 6).1 (cT 3 6).2.1 (cT 3 6).2.2.1 ∈ lw_tb2 := by rw [h]; exact tbi 64 (by decide +kernel)
theorem lf_RX3_18 {mt : MT} (h : (mN mt).cls = RX3) : FL mt 18 3 6 := Or.inl (lfm_RX3_18 h)
theorem lc_RX3_21 {mt : MT} (h : (mN mt).cls = RX3) : Cond.methodLink (mN mt).cls 21 (mN mX3_startAnew) ∈ lw_tb2 ∧ Cond.instanceMethod (mN mX3_startAnew) ∈ lw_tb2 ∧ Cond.selects (cR 3) (mN mX3_startAnew) (mN mX3_startAnew) ∈ lw_tb2 := by rw [h]; exact ⟨tbi 42 (by decide +kernel), tbi 44 (by decide +kernel), sli 0 (by decide +kernel)⟩
theorem lfm_RX3_25 {mt : MT} (h : (mN mt).cls = RX3) : Cond.fieldLink (mN mt).cls 25 (cT 3 0).1 (cT 3 0).2.1 (cT 3 0).2.2.1 ∈ lw_tb2 := by rw [h]; exact tbi 49 (by decide +kernel)
theorem lf_RX3_25 {mt : MT} (h : (mN mt).cls = RX3) : FL mt 25 3 0 := Or.inl (lfm_RX3_25 h)
theorem lfm_RX3_29 {mt : MT} (h : (mN mt).cls = RX3) : Cond.fieldLink (mN mt).cls 29 (cT 3 1).1 (cT 3 1).2.1 (cT 3 1).2.2.1 ∈ lw_tb2 := by rw [h]; exact tbi 52 (by decide +kernel)
theorem lf_RX3_29 {mt : MT} (h : (mN mt).cls = RX3) : FL mt 29 3 1 := Or.inl (lfm_RX3_29 h)
theorem lfm_RX3_32 {mt : MT} (h : (mN mt).cls = RX3) : Cond.fieldLink (mN mt).cls 32 (cT 3 2).1 (cT 3 2).2.1 (cT 3 2).2.2.1 ∈ lw_tb2 := by rw [h]; exact tbi 55 (by decide +kernel)
theorem lf_RX3_32 {mt : MT} (h : (mN mt).cls = RX3) : FL mt 32 3 2 := Or.inl (lfm_RX3_32 h)
theorem lc_RX3_35 {mt : MT} (h : (mN mt).cls = RX3) : Cond.methodLink (mN mt).cls 35 (mN mJ7_fill_53178) ∈ lw_tb2 ∧ Cond.static (mN mJ7_fill_53178) ∈ lw_tb2 := by rw [h]; exact ⟨tbi 46 (by decide +kernel), tbi 47 (by decide +kernel)⟩
theorem lfm_RX3_41 {mt : MT} (h : (mN mt).cls = RX3) : Cond.fieldLink (mN mt).cls 41 (cT 3 5).1 (cT 3 5).2.1 (cT 3 5).2.2.1 ∈ lw_tb2 := by rw [h]; exact tbi 62 (by decide +kernel)
theorem lf_RX3_41 {mt : MT} (h : (mN mt).cls = RX3) : FL mt 41 3 5 := Or.inl (lfm_RX3_41 h)
theorem lfm_RX3_45 {mt : MT} (h : (mN mt).cls = RX3) : Cond.fieldLink (mN mt).cls 45 (cT 3 7).1 (cT 3 7).2.1 (cT 3 7).2.2.1 ∈ lw_tb2 := by rw [h]; exact tbi 66 (by decide +kernel)
theorem lf_RX3_45 {mt : MT} (h : (mN mt).cls = RX3) : FL mt 45 3 7 := Or.inl (lfm_RX3_45 h)
theorem lfm_RX3_48 {mt : MT} (h : (mN mt).cls = RX3) : Cond.fieldLink (mN mt).cls 48 (cT 3 8).1 (cT 3 8).2.1 (cT 3 8).2.2.1 ∈ lw_tb2 := by rw [h]; exact tbi 69 (by decide +kernel)
theorem lf_RX3_48 {mt : MT} (h : (mN mt).cls = RX3) : FL mt 48 3 8 := Or.inl (lfm_RX3_48 h)
theorem lfm_RX3_51 {mt : MT} (h : (mN mt).cls = RX3) : Cond.fieldLink (mN mt).cls 51 (cT 3 9).1 (cT 3 9).2.1 (cT 3 9).2.2.1 ∈ lw_tb2 := by rw [h]; exact tbi 71 (by decide +kernel)
theorem lf_RX3_51 {mt : MT} (h : (mN mt).cls = RX3) : FL mt 51 3 9 := Or.inl (lfm_RX3_51 h)
theorem lc_RX3_60 {mt : MT} (h : (mN mt).cls = RX3) : Cond.methodLink (mN mt).cls 60 (mN mX3_countCells) ∈ lw_tb2 ∧ Cond.instanceMethod (mN mX3_countCells) ∈ lw_tb2 ∧ Cond.selects (cR 3) (mN mX3_countCells) (mN mX3_countCells) ∈ lw_tb2 := by rw [h]; exact ⟨tbi 624 (by decide +kernel), tbi 609 (by decide +kernel), sli 21 (by decide +kernel)⟩
theorem lc_RX3_64 {mt : MT} (h : (mN mt).cls = RX3) : Cond.methodLinkNest (mN mt).cls 64 (mN mX4_rowOf) "LetterCuts" ∈ tables_1 ∧ Cond.static (mN mX4_rowOf) ∈ lw_tb2 := by rw [h]; exact ⟨tbj 662 (by decide +kernel), tbi 663 (by decide +kernel)⟩
theorem lc_RX3_68 {mt : MT} (h : (mN mt).cls = RX3) : Cond.methodLinkNest (mN mt).cls 68 (mN mX4_columnOf) "LetterCuts" ∈ tables_1 ∧ Cond.static (mN mX4_columnOf) ∈ lw_tb2 := by rw [h]; exact ⟨tbj 655 (by decide +kernel), tbi 656 (by decide +kernel)⟩
theorem lc_RX3_71 {mt : MT} (h : (mN mt).cls = RX3) : Cond.methodLinkNest (mN mt).cls 71 (mN mX4_sideOf) "LetterCuts" ∈ tables_1 ∧ Cond.static (mN mX4_sideOf) ∈ lw_tb2 := by rw [h]; exact ⟨tbj 648 (by decide +kernel), tbi 649 (by decide +kernel)⟩
theorem lc_RX3_74 {mt : MT} (h : (mN mt).cls = RX3) : Cond.methodLink (mN mt).cls 74 (mN mX3_spotBehind) ∈ lw_tb2 ∧ Cond.instanceMethod (mN mX3_spotBehind) ∈ lw_tb2 ∧ Cond.selects (cR 3) (mN mX3_spotBehind) (mN mX3_spotBehind) ∈ lw_tb2 := by rw [h]; exact ⟨tbi 651 (by decide +kernel), tbi 653 (by decide +kernel), sli 25 (by decide +kernel)⟩
theorem lc_RX3_77 {mt : MT} (h : (mN mt).cls = RX3) : Cond.methodLink (mN mt).cls 77 (mN mX3_hasSpot) ∈ lw_tb2 ∧ Cond.instanceMethod (mN mX3_hasSpot) ∈ lw_tb2 ∧ Cond.selects (cR 3) (mN mX3_hasSpot) (mN mX3_hasSpot) ∈ lw_tb2 := by rw [h]; exact ⟨tbi 669 (by decide +kernel), tbi 671 (by decide +kernel), sli 28 (by decide +kernel)⟩
theorem lc_RX3_81 {mt : MT} (h : (mN mt).cls = RX3) : Cond.methodLink (mN mt).cls 81 (mN mX3_letterAt) ∈ lw_tb2 ∧ Cond.instanceMethod (mN mX3_letterAt) ∈ lw_tb2 ∧ Cond.selects (cR 3) (mN mX3_letterAt) (mN mX3_letterAt) ∈ lw_tb2 := by rw [h]; exact ⟨tbi 678 (by decide +kernel), tbi 680 (by decide +kernel), sli 30 (by decide +kernel)⟩
theorem lc_RX3_84 {mt : MT} (h : (mN mt).cls = RX3) : Cond.methodLink (mN mt).cls 84 (mN mX3_cellOf) ∈ lw_tb2 ∧ Cond.instanceMethod (mN mX3_cellOf) ∈ lw_tb2 ∧ Cond.selects (cR 3) (mN mX3_cellOf) (mN mX3_cellOf) ∈ lw_tb2 := by rw [h]; exact ⟨tbi 682 (by decide +kernel), tbi 646 (by decide +kernel), sli 24 (by decide +kernel)⟩
theorem lc_RX3_87 {mt : MT} (h : (mN mt).cls = RX3) : Cond.methodLink (mN mt).cls 87 (mN mX3_isThere) ∈ lw_tb2 ∧ Cond.instanceMethod (mN mX3_isThere) ∈ lw_tb2 ∧ Cond.selects (cR 3) (mN mX3_isThere) (mN mX3_isThere) ∈ lw_tb2 := by rw [h]; exact ⟨tbi 683 (by decide +kernel), tbi 685 (by decide +kernel), sli 31 (by decide +kernel)⟩
theorem lc_RX3_90 {mt : MT} (h : (mN mt).cls = RX3) : Cond.methodLink (mN mt).cls 90 (mN mX3_sizeAt) ∈ lw_tb2 ∧ Cond.instanceMethod (mN mX3_sizeAt) ∈ lw_tb2 ∧ Cond.selects (cR 3) (mN mX3_sizeAt) (mN mX3_sizeAt) ∈ lw_tb2 := by rw [h]; exact ⟨tbi 687 (by decide +kernel), tbi 667 (by decide +kernel), sli 27 (by decide +kernel)⟩
theorem lc_RX3_93 {mt : MT} (h : (mN mt).cls = RX3) : Cond.methodLink (mN mt).cls 93 (mN mJ13_bitCount_95d88) ∈ lw_tb2 ∧ Cond.static (mN mJ13_bitCount_95d88) ∈ lw_tb2 := by rw [h]; exact ⟨tbi 886 (by decide +kernel), tbi 719 (by decide +kernel)⟩
theorem lc_RX3_99 {mt : MT} (h : (mN mt).cls = RX3) : Cond.methodLink (mN mt).cls 99 (mN mX3_canUse) ∈ lw_tb2 ∧ Cond.instanceMethod (mN mX3_canUse) ∈ lw_tb2 ∧ Cond.selects (cR 3) (mN mX3_canUse) (mN mX3_canUse) ∈ lw_tb2 := by rw [h]; exact ⟨tbi 713 (by decide +kernel), tbi 676 (by decide +kernel), sli 29 (by decide +kernel)⟩
theorem lc_RX3_102 {mt : MT} (h : (mN mt).cls = RX3) : Cond.methodLink (mN mt).cls 102 (mN mX3_hasMessageLetter) ∈ lw_tb2 ∧ Cond.instanceMethod (mN mX3_hasMessageLetter) ∈ lw_tb2 ∧ Cond.selects (cR 3) (mN mX3_hasMessageLetter) (mN mX3_hasMessageLetter) ∈ lw_tb2 := by rw [h]; exact ⟨tbi 697 (by decide +kernel), tbi 699 (by decide +kernel), sli 34 (by decide +kernel)⟩
theorem lc_RX3_105 {mt : MT} (h : (mN mt).cls = RX3) : Cond.methodLink (mN mt).cls 105 (mN mX3_messageAt) ∈ lw_tb2 ∧ Cond.instanceMethod (mN mX3_messageAt) ∈ lw_tb2 ∧ Cond.selects (cR 3) (mN mX3_messageAt) (mN mX3_messageAt) ∈ lw_tb2 := by rw [h]; exact ⟨tbi 693 (by decide +kernel), tbi 695 (by decide +kernel), sli 33 (by decide +kernel)⟩
theorem lc_RL_7 {mt : MT} (h : (mN mt).cls = RL) : Cond.methodLink (mN mt).cls 7 (mN mL_flush) ∈ lw_tb2 ∧ Cond.static (mN mL_flush) ∈ lw_tb2 := by rw [h]; exact ⟨tbi 934 (by decide +kernel), tbi 935 (by decide +kernel)⟩
theorem lc_RL_13 {mt : MT} (h : (mN mt).cls = RL) : Cond.methodLink (mN mt).cls 13 (mN mX4_append) ∈ lw_tb2 ∧ Cond.instanceMethod (mN mX4_append) ∈ lw_tb2 ∧ Cond.selects (cR 4) (mN mX4_append) (mN mX4_append) ∈ lw_tb2 := by rw [h]; exact ⟨tbi 937 (by decide +kernel), tbi 938 (by decide +kernel), tbi 939 (by decide +kernel)⟩
theorem lc_RL_19 {mt : MT} (h : (mN mt).cls = RL) : Cond.methodLink (mN mt).cls 19 (mN mL_load) ∈ lw_tb2 ∧ Cond.static (mN mL_load) ∈ lw_tb2 := by rw [h]; exact ⟨tbi 458 (by decide +kernel), tbi 459 (by decide +kernel)⟩
theorem lc_RL_23 {mt : MT} (h : (mN mt).cls = RL) : Cond.methodLink (mN mt).cls 23 (mN mJ0_length_8abf5) ∈ lw_tb2 ∧ Cond.instanceMethod (mN mJ0_length_8abf5) ∈ lw_tb2 ∧ Cond.selects (cR 7) (mN mJ0_length_8abf5) (mN mJ0_length_8abf5) ∈ lw_tb2 := by rw [h]; exact ⟨tbi 929 (by decide +kernel), tbi 342 (by decide +kernel), tbi 343 (by decide +kernel)⟩
theorem lc_RL_29 {mt : MT} (h : (mN mt).cls = RL) : Cond.methodLink (mN mt).cls 29 (mN mJ0_charAt_5068e) ∈ lw_tb2 ∧ Cond.instanceMethod (mN mJ0_charAt_5068e) ∈ lw_tb2 ∧ Cond.selects (cR 7) (mN mJ0_charAt_5068e) (mN mJ0_charAt_5068e) ∈ lw_tb2 := by rw [h]; exact ⟨tbi 930 (by decide +kernel), tbi 353 (by decide +kernel), tbi 354 (by decide +kernel)⟩
theorem lc_RL_33 {mt : MT} (h : (mN mt).cls = RL) : Cond.methodLink (mN mt).cls 33 (mN mL_put) ∈ lw_tb2 ∧ Cond.static (mN mL_put) ∈ lw_tb2 := by rw [h]; exact ⟨tbi 931 (by decide +kernel), tbi 932 (by decide +kernel)⟩
theorem lc_RL_37 {mt : MT} (h : (mN mt).cls = RL) : Cond.methodLink (mN mt).cls 37 (mN mX4_load) ∈ lw_tb2 ∧ Cond.instanceMethod (mN mX4_load) ∈ lw_tb2 ∧ Cond.selects (cR 4) (mN mX4_load) (mN mX4_load) ∈ lw_tb2 := by rw [h]; exact ⟨tbi 462 (by decide +kernel), tbi 463 (by decide +kernel), tbi 464 (by decide +kernel)⟩
theorem lc_RL_43 {mt : MT} (h : (mN mt).cls = RL) : Cond.methodLink (mN mt).cls 43 (mN mX4_state) ∈ lw_tb2 ∧ Cond.instanceMethod (mN mX4_state) ∈ lw_tb2 ∧ Cond.selects (cR 4) (mN mX4_state) (mN mX4_state) ∈ lw_tb2 := by rw [h]; exact ⟨tbi 1259 (by decide +kernel), tbi 1211 (by decide +kernel), tbi 1212 (by decide +kernel)⟩
theorem lc_RL_46 {mt : MT} (h : (mN mt).cls = RL) : Cond.methodLink (mN mt).cls 46 (mN mX4_letter) ∈ lw_tb2 ∧ Cond.instanceMethod (mN mX4_letter) ∈ lw_tb2 ∧ Cond.selects (cR 4) (mN mX4_letter) (mN mX4_letter) ∈ lw_tb2 := by rw [h]; exact ⟨tbi 1263 (by decide +kernel), tbi 1264 (by decide +kernel), tbi 1265 (by decide +kernel)⟩
theorem lc_RL_53 {mt : MT} (h : (mN mt).cls = RL) : Cond.methodLink (mN mt).cls 53 (mN mX4_place) ∈ lw_tb2 ∧ Cond.instanceMethod (mN mX4_place) ∈ lw_tb2 ∧ Cond.selects (cR 4) (mN mX4_place) (mN mX4_place) ∈ lw_tb2 := by rw [h]; exact ⟨tbi 616 (by decide +kernel), tbi 617 (by decide +kernel), tbi 618 (by decide +kernel)⟩
theorem lc_RL_57 {mt : MT} (h : (mN mt).cls = RL) : Cond.methodLink (mN mt).cls 57 (mN mX4_stock) ∈ lw_tb2 ∧ Cond.instanceMethod (mN mX4_stock) ∈ lw_tb2 ∧ Cond.selects (cR 4) (mN mX4_stock) (mN mX4_stock) ∈ lw_tb2 := by rw [h]; exact ⟨tbi 705 (by decide +kernel), tbi 706 (by decide +kernel), tbi 707 (by decide +kernel)⟩
theorem lc_RL_60 {mt : MT} (h : (mN mt).cls = RL) : Cond.methodLink (mN mt).cls 60 (mN mX4_message) ∈ lw_tb2 ∧ Cond.instanceMethod (mN mX4_message) ∈ lw_tb2 ∧ Cond.selects (cR 4) (mN mX4_message) (mN mX4_message) ∈ lw_tb2 := by rw [h]; exact ⟨tbi 1270 (by decide +kernel), tbi 1271 (by decide +kernel), tbi 1272 (by decide +kernel)⟩
theorem lc_RL_66 {mt : MT} (h : (mN mt).cls = RL) : Cond.methodLink (mN mt).cls 66 (mN mX4_cutOf) ∈ lw_tb2 ∧ Cond.instanceMethod (mN mX4_cutOf) ∈ lw_tb2 ∧ Cond.selects (cR 4) (mN mX4_cutOf) (mN mX4_cutOf) ∈ lw_tb2 := by rw [h]; exact ⟨tbi 728 (by decide +kernel), tbi 729 (by decide +kernel), tbi 730 (by decide +kernel)⟩
theorem lc_RL_69 {mt : MT} (h : (mN mt).cls = RL) : Cond.methodLink (mN mt).cls 69 (mN mX4_longest) ∈ lw_tb2 ∧ Cond.instanceMethod (mN mX4_longest) ∈ lw_tb2 ∧ Cond.selects (cR 4) (mN mX4_longest) (mN mX4_longest) ∈ lw_tb2 := by rw [h]; exact ⟨tbi 833 (by decide +kernel), tbi 834 (by decide +kernel), tbi 835 (by decide +kernel)⟩
theorem lc_RL_72 {mt : MT} (h : (mN mt).cls = RL) : Cond.methodLink (mN mt).cls 72 (mN mX4_tell) ∈ lw_tb2 ∧ Cond.instanceMethod (mN mX4_tell) ∈ lw_tb2 ∧ Cond.selects (cR 4) (mN mX4_tell) (mN mX4_tell) ∈ lw_tb2 := by rw [h]; exact ⟨tbi 843 (by decide +kernel), tbi 844 (by decide +kernel), tbi 845 (by decide +kernel)⟩
theorem lc_RL_75 {mt : MT} (h : (mN mt).cls = RL) : Cond.methodLink (mN mt).cls 75 (mN mX4_cut) ∈ lw_tb2 ∧ Cond.instanceMethod (mN mX4_cut) ∈ lw_tb2 ∧ Cond.selects (cR 4) (mN mX4_cut) (mN mX4_cut) ∈ lw_tb2 := by rw [h]; exact ⟨tbi 863 (by decide +kernel), tbi 864 (by decide +kernel), tbi 865 (by decide +kernel)⟩
theorem lc_RL_81 {mt : MT} (h : (mN mt).cls = RL) : Cond.methodLink (mN mt).cls 81 (mN mX4_snip) ∈ lw_tb2 ∧ Cond.instanceMethod (mN mX4_snip) ∈ lw_tb2 ∧ Cond.selects (cR 4) (mN mX4_snip) (mN mX4_snip) ∈ lw_tb2 := by rw [h]; exact ⟨tbi 891 (by decide +kernel), tbi 892 (by decide +kernel), tbi 893 (by decide +kernel)⟩
theorem lc_RL_84 {mt : MT} (h : (mN mt).cls = RL) : Cond.methodLink (mN mt).cls 84 (mN mX4_least) ∈ lw_tb2 ∧ Cond.instanceMethod (mN mX4_least) ∈ lw_tb2 ∧ Cond.selects (cR 4) (mN mX4_least) (mN mX4_least) ∈ lw_tb2 := by rw [h]; exact ⟨tbi 910 (by decide +kernel), tbi 911 (by decide +kernel), tbi 912 (by decide +kernel)⟩
theorem lc_RL_87 {mt : MT} (h : (mN mt).cls = RL) : Cond.methodLink (mN mt).cls 87 (mN mX4_mend) ∈ lw_tb2 ∧ Cond.instanceMethod (mN mX4_mend) ∈ lw_tb2 ∧ Cond.selects (cR 4) (mN mX4_mend) (mN mX4_mend) ∈ lw_tb2 := by rw [h]; exact ⟨tbi 917 (by decide +kernel), tbi 918 (by decide +kernel), tbi 919 (by decide +kernel)⟩
theorem lc_RL_90 {mt : MT} (h : (mN mt).cls = RL) : Cond.methodLink (mN mt).cls 90 (mN mL_write) ∈ lw_tb2 ∧ Cond.static (mN mL_write) ∈ lw_tb2 := by rw [h]; exact ⟨tbi 926 (by decide +kernel), tbi 927 (by decide +kernel)⟩
theorem lc_RL_94 {mt : MT} (h : (mN mt).cls = RL) : Cond.methodLink (mN mt).cls 94 (mN mL_tell) ∈ lw_tb2 ∧ Cond.static (mN mL_tell) ∈ lw_tb2 := by rw [h]; exact ⟨tbi 840 (by decide +kernel), tbi 841 (by decide +kernel)⟩
theorem lc_RL_98 {mt : MT} (h : (mN mt).cls = RL) : Cond.methodLink (mN mt).cls 98 (mN mX5_below) ∈ lw_tb2 ∧ Cond.instanceMethod (mN mX5_below) ∈ lw_tb2 ∧ Cond.selects (cR 5) (mN mX5_below) (mN mX5_below) ∈ lw_tb2 := by rw [h]; exact ⟨tbi 257 (by decide +kernel), tbi 258 (by decide +kernel), tbi 259 (by decide +kernel)⟩
theorem lc_RL_105 {mt : MT} (h : (mN mt).cls = RL) : Cond.methodLink (mN mt).cls 105 (mN mJ4_init_da8c8) ∈ lw_tb2 ∧ Cond.instanceMethod (mN mJ4_init_da8c8) ∈ lw_tb2 := by rw [h]; exact ⟨tbi 951 (by decide +kernel), tbi 952 (by decide +kernel)⟩
theorem lc_RL_106 {mt : MT} (h : (mN mt).cls = RL) : Cond.methodLink (mN mt).cls 106 (mN mJ4_append_15ec4) ∈ lw_tb2 ∧ Cond.instanceMethod (mN mJ4_append_15ec4) ∈ lw_tb2 ∧ Cond.selects (cR 8) (mN mJ4_append_15ec4) (mN mJ4_append_15ec4) ∈ lw_tb2 := by rw [h]; exact ⟨tbi 979 (by decide +kernel), tbi 980 (by decide +kernel), tbi 981 (by decide +kernel)⟩
theorem lc_RL_109 {mt : MT} (h : (mN mt).cls = RL) : Cond.methodLink (mN mt).cls 109 (mN mJ4_append_cf468) ∈ lw_tb2 ∧ Cond.instanceMethod (mN mJ4_append_cf468) ∈ lw_tb2 ∧ Cond.selects (cR 8) (mN mJ4_append_cf468) (mN mJ4_append_cf468) ∈ lw_tb2 := by rw [h]; exact ⟨tbi 1072 (by decide +kernel), tbi 1073 (by decide +kernel), tbi 1074 (by decide +kernel)⟩
theorem lc_RL_112 {mt : MT} (h : (mN mt).cls = RL) : Cond.methodLink (mN mt).cls 112 (mN mJ4_toString_0e30d) ∈ lw_tb2 ∧ Cond.instanceMethod (mN mJ4_toString_0e30d) ∈ lw_tb2 ∧ Cond.selects (cR 8) (mN mJ4_toString_0e30d) (mN mJ4_toString_0e30d) ∈ lw_tb2 := by rw [h]; exact ⟨tbi 1085 (by decide +kernel), tbi 1086 (by decide +kernel), tbi 1087 (by decide +kernel)⟩
theorem lc_RL_118 {mt : MT} (h : (mN mt).cls = RL) : Cond.methodLinkNest (mN mt).cls 118 (mN mX6_init) "LetterCutsLaw" ∈ tables_1 ∧ Cond.instanceMethod (mN mX6_init) ∈ lw_tb2 := by rw [h]; exact ⟨tbj 264 (by decide +kernel), tbi 265 (by decide +kernel)⟩
theorem lfm_RL_119 {mt : MT} (h : (mN mt).cls = RL) : Cond.fieldLink (mN mt).cls 119 (cT 6 0).1 (cT 6 0).2.1 (cT 6 0).2.2.1 ∈ lw_tb2 := by rw [h]; exact tbi 273 (by decide +kernel)
theorem lf_RL_119 {mt : MT} (h : (mN mt).cls = RL) : FL mt 119 6 0 := Or.inl (lfm_RL_119 h)
theorem lfm_RL_123 {mt : MT} (h : (mN mt).cls = RL) : Cond.fieldLink (mN mt).cls 123 (cT 6 1).1 (cT 6 1).2.1 (cT 6 1).2.2.1 ∈ lw_tb2 := by rw [h]; exact tbi 275 (by decide +kernel)
theorem lf_RL_123 {mt : MT} (h : (mN mt).cls = RL) : FL mt 123 6 1 := Or.inl (lfm_RL_123 h)
theorem lc_RL_126 {mt : MT} (h : (mN mt).cls = RL) : Cond.methodLink (mN mt).cls 126 (mN mX6_all) ∈ lw_tb2 ∧ Cond.instanceMethod (mN mX6_all) ∈ lw_tb2 ∧ Cond.selects (cR 6) (mN mX6_all) (mN mX6_all) ∈ lw_tb2 := by rw [h]; exact ⟨tbi 333 (by decide +kernel), tbi 334 (by decide +kernel), tbi 335 (by decide +kernel)⟩
theorem lfm_RL_129 {mt : MT} (h : (mN mt).cls = RL) : Cond.fieldLink (mN mt).cls 129 (cT 6 5).1 (cT 6 5).2.1 (cT 6 5).2.2.1 ∈ lw_tb2 := by rw [h]; exact tbi 283 (by decide +kernel)
theorem lf_RL_129 {mt : MT} (h : (mN mt).cls = RL) : FL mt 129 6 5 := Or.inl (lfm_RL_129 h)
theorem lfm_RL_133 {mt : MT} (h : (mN mt).cls = RL) : Cond.fieldLink (mN mt).cls 133 (cT 6 2).1 (cT 6 2).2.1 (cT 6 2).2.2.1 ∈ lw_tb2 := by rw [h]; exact tbi 277 (by decide +kernel)
theorem lf_RL_133 {mt : MT} (h : (mN mt).cls = RL) : FL mt 133 6 2 := Or.inl (lfm_RL_133 h)
theorem lfm_RL_137 {mt : MT} (h : (mN mt).cls = RL) : Cond.fieldLink (mN mt).cls 137 (cT 6 3).1 (cT 6 3).2.1 (cT 6 3).2.2.1 ∈ lw_tb2 := by rw [h]; exact tbi 279 (by decide +kernel)
theorem lf_RL_137 {mt : MT} (h : (mN mt).cls = RL) : FL mt 137 6 3 := Or.inl (lfm_RL_137 h)
theorem lc_RL_143 {mt : MT} (h : (mN mt).cls = RL) : Cond.methodLink (mN mt).cls 143 (mN mL_writeNumber) ∈ lw_tb2 ∧ Cond.static (mN mL_writeNumber) ∈ lw_tb2 := by rw [h]; exact ⟨tbi 1190 (by decide +kernel), tbi 1191 (by decide +kernel)⟩
theorem lfm_RL_154 {mt : MT} (h : (mN mt).cls = RL) : Cond.fieldLink (mN mt).cls 154 (cT 6 4).1 (cT 6 4).2.1 (cT 6 4).2.2.1 ∈ lw_tb2 := by rw [h]; exact tbi 281 (by decide +kernel)
theorem lf_RL_154 {mt : MT} (h : (mN mt).cls = RL) : FL mt 154 6 4 := Or.inl (lfm_RL_154 h)
theorem lc_RL_160 {mt : MT} (h : (mN mt).cls = RL) : Cond.methodLink (mN mt).cls 160 (mN mL_loadText) ∈ lw_tb2 ∧ Cond.static (mN mL_loadText) ∈ lw_tb2 := by rw [h]; exact ⟨tbi 1199 (by decide +kernel), tbi 1200 (by decide +kernel)⟩
theorem lc_RL_164 {mt : MT} (h : (mN mt).cls = RL) : Cond.methodLink (mN mt).cls 164 (mN mX4_checksum) ∈ lw_tb2 ∧ Cond.instanceMethod (mN mX4_checksum) ∈ lw_tb2 ∧ Cond.selects (cR 4) (mN mX4_checksum) (mN mX4_checksum) ∈ lw_tb2 := by rw [h]; exact ⟨tbi 1205 (by decide +kernel), tbi 1206 (by decide +kernel), tbi 1207 (by decide +kernel)⟩
theorem lc_RL_168 {mt : MT} (h : (mN mt).cls = RL) : Cond.methodLink (mN mt).cls 168 (mN mX6_checksum) ∈ lw_tb2 ∧ Cond.instanceMethod (mN mX6_checksum) ∈ lw_tb2 ∧ Cond.selects (cR 6) (mN mX6_checksum) (mN mX6_checksum) ∈ lw_tb2 := by rw [h]; exact ⟨tbi 1231 (by decide +kernel), tbi 1232 (by decide +kernel), tbi 1233 (by decide +kernel)⟩
theorem lc_RL_169 {mt : MT} (h : (mN mt).cls = RL) : Cond.methodLink (mN mt).cls 169 (mN mL_state) ∈ lw_tb2 ∧ Cond.static (mN mL_state) ∈ lw_tb2 := by rw [h]; exact ⟨tbi 1256 (by decide +kernel), tbi 1257 (by decide +kernel)⟩
theorem lc_RL_171 {mt : MT} (h : (mN mt).cls = RL) : Cond.methodLink (mN mt).cls 171 (mN mL_letter) ∈ lw_tb2 ∧ Cond.static (mN mL_letter) ∈ lw_tb2 := by rw [h]; exact ⟨tbi 1260 (by decide +kernel), tbi 1261 (by decide +kernel)⟩
theorem lfm_RL_174 {mt : MT} (h : (mN mt).cls = RL) : Cond.fieldLink (mN mt).cls 174 (cT 6 6).1 (cT 6 6).2.1 (cT 6 6).2.2.1 ∈ lw_tb2 := by rw [h]; exact tbi 285 (by decide +kernel)
theorem lf_RL_174 {mt : MT} (h : (mN mt).cls = RL) : FL mt 174 6 6 := Or.inl (lfm_RL_174 h)
theorem lc_RL_177 {mt : MT} (h : (mN mt).cls = RL) : Cond.methodLink (mN mt).cls 177 (mN mL_message) ∈ lw_tb2 ∧ Cond.static (mN mL_message) ∈ lw_tb2 := by rw [h]; exact ⟨tbi 1267 (by decide +kernel), tbi 1268 (by decide +kernel)⟩
theorem lc_RL_179 {mt : MT} (h : (mN mt).cls = RL) : Cond.methodLink (mN mt).cls 179 (mN mX6_told) ∈ lw_tb2 ∧ Cond.instanceMethod (mN mX6_told) ∈ lw_tb2 ∧ Cond.selects (cR 6) (mN mX6_told) (mN mX6_told) ∈ lw_tb2 := by rw [h]; exact ⟨tbi 1274 (by decide +kernel), tbi 1237 (by decide +kernel), tbi 1238 (by decide +kernel)⟩
theorem lc_RL_182 {mt : MT} (h : (mN mt).cls = RL) : Cond.methodLink (mN mt).cls 182 (mN mX4_init) ∈ lw_tb2 ∧ Cond.instanceMethod (mN mX4_init) ∈ lw_tb2 := by rw [h]; exact ⟨tbi 30 (by decide +kernel), tbi 31 (by decide +kernel)⟩
theorem lc_RL_183 {mt : MT} (h : (mN mt).cls = RL) : Cond.methodLink (mN mt).cls 183 (mN mX5_init) ∈ lw_tb2 ∧ Cond.instanceMethod (mN mX5_init) ∈ lw_tb2 := by rw [h]; exact ⟨tbi 249 (by decide +kernel), tbi 250 (by decide +kernel)⟩
theorem lc_RL_186 {mt : MT} (h : (mN mt).cls = RL) : Cond.methodLink (mN mt).cls 186 (mN mL_agrees) ∈ lw_tb2 ∧ Cond.static (mN mL_agrees) ∈ lw_tb2 := by rw [h]; exact ⟨tbi 1202 (by decide +kernel), tbi 1203 (by decide +kernel)⟩
theorem lc_RL_190 {mt : MT} (h : (mN mt).cls = RL) : Cond.methodLink (mN mt).cls 190 (mN mX4_errorOffset) ∈ lw_tb2 ∧ Cond.instanceMethod (mN mX4_errorOffset) ∈ lw_tb2 ∧ Cond.selects (cR 4) (mN mX4_errorOffset) (mN mX4_errorOffset) ∈ lw_tb2 := by rw [h]; exact ⟨tbi 232 (by decide +kernel), tbi 233 (by decide +kernel), tbi 234 (by decide +kernel)⟩
theorem lc_RL_193 {mt : MT} (h : (mN mt).cls = RL) : Cond.methodLink (mN mt).cls 193 (mN mX4_undo) ∈ lw_tb2 ∧ Cond.instanceMethod (mN mX4_undo) ∈ lw_tb2 ∧ Cond.selects (cR 4) (mN mX4_undo) (mN mX4_undo) ∈ lw_tb2 := by rw [h]; exact ⟨tbi 236 (by decide +kernel), tbi 237 (by decide +kernel), tbi 238 (by decide +kernel)⟩
theorem lc_RL_196 {mt : MT} (h : (mN mt).cls = RL) : Cond.methodLink (mN mt).cls 196 (mN mL_cut) ∈ lw_tb2 ∧ Cond.static (mN mL_cut) ∈ lw_tb2 := by rw [h]; exact ⟨tbi 859 (by decide +kernel), tbi 860 (by decide +kernel)⟩
theorem lc_RL_199 {mt : MT} (h : (mN mt).cls = RL) : Cond.methodLink (mN mt).cls 199 (mN mL_snip) ∈ lw_tb2 ∧ Cond.static (mN mL_snip) ∈ lw_tb2 := by rw [h]; exact ⟨tbi 888 (by decide +kernel), tbi 889 (by decide +kernel)⟩
theorem lc_RL_202 {mt : MT} (h : (mN mt).cls = RL) : Cond.methodLink (mN mt).cls 202 (mN mL_least) ∈ lw_tb2 ∧ Cond.static (mN mL_least) ∈ lw_tb2 := by rw [h]; exact ⟨tbi 907 (by decide +kernel), tbi 908 (by decide +kernel)⟩
theorem lc_RL_204 {mt : MT} (h : (mN mt).cls = RL) : Cond.methodLink (mN mt).cls 204 (mN mL_mend) ∈ lw_tb2 ∧ Cond.static (mN mL_mend) ∈ lw_tb2 := by rw [h]; exact ⟨tbi 914 (by decide +kernel), tbi 915 (by decide +kernel)⟩
theorem lc_RL_206 {mt : MT} (h : (mN mt).cls = RL) : Cond.methodLink (mN mt).cls 206 (mN mL_randomSheet) ∈ lw_tb2 ∧ Cond.static (mN mL_randomSheet) ∈ lw_tb2 := by rw [h]; exact ⟨tbi 1185 (by decide +kernel), tbi 1186 (by decide +kernel)⟩
theorem lc_RL_210 {mt : MT} (h : (mN mt).cls = RL) : Cond.methodLink (mN mt).cls 210 (mN mX6_copy) ∈ lw_tb2 ∧ Cond.instanceMethod (mN mX6_copy) ∈ lw_tb2 ∧ Cond.selects (cR 6) (mN mX6_copy) (mN mX6_copy) ∈ lw_tb2 := by rw [h]; exact ⟨tbi 320 (by decide +kernel), tbi 321 (by decide +kernel), tbi 322 (by decide +kernel)⟩
theorem lc_RL_214 {mt : MT} (h : (mN mt).cls = RL) : Cond.methodLink (mN mt).cls 214 (mN mL_randomWord) ∈ lw_tb2 ∧ Cond.static (mN mL_randomWord) ∈ lw_tb2 := by rw [h]; exact ⟨tbi 945 (by decide +kernel), tbi 946 (by decide +kernel)⟩
theorem lc_RL_218 {mt : MT} (h : (mN mt).cls = RL) : Cond.methodLink (mN mt).cls 218 (mN mL_tellText) ∈ lw_tb2 ∧ Cond.static (mN mL_tellText) ∈ lw_tb2 := by rw [h]; exact ⟨tbi 923 (by decide +kernel), tbi 924 (by decide +kernel)⟩
theorem lc_RL_222 {mt : MT} (h : (mN mt).cls = RL) : Cond.methodLink (mN mt).cls 222 (mN mX6_missing) ∈ lw_tb2 ∧ Cond.instanceMethod (mN mX6_missing) ∈ lw_tb2 ∧ Cond.selects (cR 6) (mN mX6_missing) (mN mX6_missing) ∈ lw_tb2 := by rw [h]; exact ⟨tbi 337 (by decide +kernel), tbi 338 (by decide +kernel), tbi 339 (by decide +kernel)⟩
theorem lc_RL_225 {mt : MT} (h : (mN mt).cls = RL) : Cond.methodLink (mN mt).cls 225 (mN mX6_plan) ∈ lw_tb2 ∧ Cond.instanceMethod (mN mX6_plan) ∈ lw_tb2 ∧ Cond.selects (cR 6) (mN mX6_plan) (mN mX6_plan) ∈ lw_tb2 := by rw [h]; exact ⟨tbi 423 (by decide +kernel), tbi 424 (by decide +kernel), tbi 425 (by decide +kernel)⟩
theorem lc_RL_228 {mt : MT} (h : (mN mt).cls = RL) : Cond.methodLink (mN mt).cls 228 (mN mX6_cutsPlan) ∈ lw_tb2 ∧ Cond.instanceMethod (mN mX6_cutsPlan) ∈ lw_tb2 ∧ Cond.selects (cR 6) (mN mX6_cutsPlan) (mN mX6_cutsPlan) ∈ lw_tb2 := by rw [h]; exact ⟨tbi 445 (by decide +kernel), tbi 446 (by decide +kernel), tbi 447 (by decide +kernel)⟩
theorem lc_RL_231 {mt : MT} (h : (mN mt).cls = RL) : Cond.methodLink (mN mt).cls 231 (mN mX6_isStrip) ∈ lw_tb2 ∧ Cond.instanceMethod (mN mX6_isStrip) ∈ lw_tb2 ∧ Cond.selects (cR 6) (mN mX6_isStrip) (mN mX6_isStrip) ∈ lw_tb2 := by rw [h]; exact ⟨tbi 419 (by decide +kernel), tbi 420 (by decide +kernel), tbi 421 (by decide +kernel)⟩
theorem lc_RL_235 {mt : MT} (h : (mN mt).cls = RL) : Cond.methodLink (mN mt).cls 235 (mN mX6_cutsOff) ∈ lw_tb2 ∧ Cond.instanceMethod (mN mX6_cutsOff) ∈ lw_tb2 ∧ Cond.selects (cR 6) (mN mX6_cutsOff) (mN mX6_cutsOff) ∈ lw_tb2 := by rw [h]; exact ⟨tbi 441 (by decide +kernel), tbi 442 (by decide +kernel), tbi 443 (by decide +kernel)⟩
theorem lc_RL_239 {mt : MT} (h : (mN mt).cls = RL) : Cond.methodLink (mN mt).cls 239 (mN mX6_there) ∈ lw_tb2 ∧ Cond.instanceMethod (mN mX6_there) ∈ lw_tb2 ∧ Cond.selects (cR 6) (mN mX6_there) (mN mX6_there) ∈ lw_tb2 := by rw [h]; exact ⟨tbi 454 (by decide +kernel), tbi 455 (by decide +kernel), tbi 456 (by decide +kernel)⟩
theorem lc_RL_242 {mt : MT} (h : (mN mt).cls = RL) : Cond.methodLink (mN mt).cls 242 (mN mL_place) ∈ lw_tb2 ∧ Cond.static (mN mL_place) ∈ lw_tb2 := by rw [h]; exact ⟨tbi 612 (by decide +kernel), tbi 613 (by decide +kernel)⟩
theorem lc_RL_244 {mt : MT} (h : (mN mt).cls = RL) : Cond.methodLink (mN mt).cls 244 (mN mL_stock) ∈ lw_tb2 ∧ Cond.static (mN mL_stock) ∈ lw_tb2 := by rw [h]; exact ⟨tbi 702 (by decide +kernel), tbi 703 (by decide +kernel)⟩
theorem lc_RL_246 {mt : MT} (h : (mN mt).cls = RL) : Cond.methodLink (mN mt).cls 246 (mN mL_longest) ∈ lw_tb2 ∧ Cond.static (mN mL_longest) ∈ lw_tb2 := by rw [h]; exact ⟨tbi 830 (by decide +kernel), tbi 831 (by decide +kernel)⟩
theorem lc_RL_248 {mt : MT} (h : (mN mt).cls = RL) : Cond.methodLink (mN mt).cls 248 (mN mL_cutOf) ∈ lw_tb2 ∧ Cond.static (mN mL_cutOf) ∈ lw_tb2 := by rw [h]; exact ⟨tbi 724 (by decide +kernel), tbi 725 (by decide +kernel)⟩
theorem lfm_RX5_7 {mt : MT} (h : (mN mt).cls = RX5) : Cond.fieldLink (mN mt).cls 7 (cT 5 0).1 (cT 5 0).2.1 (cT 5 0).2.2.1 ∈ lw_tb2 := by rw [h]; exact tbi 253 (by decide +kernel)
theorem lf_RX5_7 {mt : MT} (h : (mN mt).cls = RX5) : FL mt 7 5 0 := Or.inl (lfm_RX5_7 h)
theorem lfm_RX6_7 {mt : MT} (h : (mN mt).cls = RX6) : Cond.fieldLink (mN mt).cls 7 (cT 6 0).1 (cT 6 0).2.1 (cT 6 0).2.2.1 ∈ lw_tb2 := by rw [h]; exact tbi 272 (by decide +kernel)
theorem lf_RX6_7 {mt : MT} (h : (mN mt).cls = RX6) : FL mt 7 6 0 := Or.inl (lfm_RX6_7 h)
theorem lfm_RX6_13 {mt : MT} (h : (mN mt).cls = RX6) : Cond.fieldLink (mN mt).cls 13 (cT 6 1).1 (cT 6 1).2.1 (cT 6 1).2.2.1 ∈ lw_tb2 := by rw [h]; exact tbi 274 (by decide +kernel)
theorem lf_RX6_13 {mt : MT} (h : (mN mt).cls = RX6) : FL mt 13 6 1 := Or.inl (lfm_RX6_13 h)
theorem lfm_RX6_20 {mt : MT} (h : (mN mt).cls = RX6) : Cond.fieldLink (mN mt).cls 20 (cT 6 2).1 (cT 6 2).2.1 (cT 6 2).2.2.1 ∈ lw_tb2 := by rw [h]; exact tbi 276 (by decide +kernel)
theorem lf_RX6_20 {mt : MT} (h : (mN mt).cls = RX6) : FL mt 20 6 2 := Or.inl (lfm_RX6_20 h)
theorem lfm_RX6_24 {mt : MT} (h : (mN mt).cls = RX6) : Cond.fieldLink (mN mt).cls 24 (cT 6 3).1 (cT 6 3).2.1 (cT 6 3).2.2.1 ∈ lw_tb2 := by rw [h]; exact tbi 278 (by decide +kernel)
theorem lf_RX6_24 {mt : MT} (h : (mN mt).cls = RX6) : FL mt 24 6 3 := Or.inl (lfm_RX6_24 h)
theorem lfm_RX6_28 {mt : MT} (h : (mN mt).cls = RX6) : Cond.fieldLink (mN mt).cls 28 (cT 6 4).1 (cT 6 4).2.1 (cT 6 4).2.2.1 ∈ lw_tb2 := by rw [h]; exact tbi 280 (by decide +kernel)
theorem lf_RX6_28 {mt : MT} (h : (mN mt).cls = RX6) : FL mt 28 6 4 := Or.inl (lfm_RX6_28 h)
theorem lfm_RX6_31 {mt : MT} (h : (mN mt).cls = RX6) : Cond.fieldLink (mN mt).cls 31 (cT 6 5).1 (cT 6 5).2.1 (cT 6 5).2.2.1 ∈ lw_tb2 := by rw [h]; exact tbi 282 (by decide +kernel)
theorem lf_RX6_31 {mt : MT} (h : (mN mt).cls = RX6) : FL mt 31 6 5 := Or.inl (lfm_RX6_31 h)
theorem lfm_RX6_37 {mt : MT} (h : (mN mt).cls = RX6) : Cond.fieldLink (mN mt).cls 37 (cT 6 6).1 (cT 6 6).2.1 (cT 6 6).2.2.1 ∈ lw_tb2 := by rw [h]; exact tbi 284 (by decide +kernel)
theorem lf_RX6_37 {mt : MT} (h : (mN mt).cls = RX6) : FL mt 37 6 6 := Or.inl (lfm_RX6_37 h)
theorem lfm_RX6_41 {mt : MT} (h : (mN mt).cls = RX6) : Cond.fieldLink (mN mt).cls 41 (cT 6 9).1 (cT 6 9).2.1 (cT 6 9).2.2.1 ∈ lw_tb2 := by rw [h]; exact tbi 288 (by decide +kernel)
theorem lf_RX6_41 {mt : MT} (h : (mN mt).cls = RX6) : FL mt 41 6 9 := Or.inl (lfm_RX6_41 h)
theorem lfm_RX6_44 {mt : MT} (h : (mN mt).cls = RX6) : Cond.fieldLink (mN mt).cls 44 (cT 6 10).1 (cT 6 10).2.1 (cT 6 10).2.2.1 ∈ lw_tb2 := by rw [h]; exact tbi 289 (by decide +kernel)
theorem lf_RX6_44 {mt : MT} (h : (mN mt).cls = RX6) : FL mt 44 6 10 := Or.inl (lfm_RX6_44 h)
theorem lc_RX6_47 {mt : MT} (h : (mN mt).cls = RX6) : Cond.methodLink (mN mt).cls 47 (mN mX6_init) ∈ lw_tb2 ∧ Cond.instanceMethod (mN mX6_init) ∈ lw_tb2 := by rw [h]; exact ⟨tbi 325 (by decide +kernel), tbi 265 (by decide +kernel)⟩
theorem lfm_RX6_53 {mt : MT} (h : (mN mt).cls = RX6) : Cond.fieldLink (mN mt).cls 53 (cT 6 7).1 (cT 6 7).2.1 (cT 6 7).2.2.1 ∈ lw_tb2 := by rw [h]; exact tbi 286 (by decide +kernel)
theorem lf_RX6_53 {mt : MT} (h : (mN mt).cls = RX6) : FL mt 53 6 7 := Or.inl (lfm_RX6_53 h)
theorem lfm_RX6_56 {mt : MT} (h : (mN mt).cls = RX6) : Cond.fieldLink (mN mt).cls 56 (cT 6 8).1 (cT 6 8).2.1 (cT 6 8).2.2.1 ∈ lw_tb2 := by rw [h]; exact tbi 287 (by decide +kernel)
theorem lf_RX6_56 {mt : MT} (h : (mN mt).cls = RX6) : FL mt 56 6 8 := Or.inl (lfm_RX6_56 h)
theorem lc_RX6_59 {mt : MT} (h : (mN mt).cls = RX6) : Cond.methodLink (mN mt).cls 59 (mN mJ0_charAt_5068e) ∈ lw_tb2 ∧ Cond.instanceMethod (mN mJ0_charAt_5068e) ∈ lw_tb2 ∧ Cond.selects (cR 7) (mN mJ0_charAt_5068e) (mN mJ0_charAt_5068e) ∈ lw_tb2 := by rw [h]; exact ⟨tbi 352 (by decide +kernel), tbi 353 (by decide +kernel), tbi 354 (by decide +kernel)⟩
theorem lc_RX6_63 {mt : MT} (h : (mN mt).cls = RX6) : Cond.methodLink (mN mt).cls 63 (mN mX6_sign) ∈ lw_tb2 ∧ Cond.instanceMethod (mN mX6_sign) ∈ lw_tb2 ∧ Cond.selects (cR 6) (mN mX6_sign) (mN mX6_sign) ∈ lw_tb2 := by rw [h]; exact ⟨tbi 402 (by decide +kernel), tbi 403 (by decide +kernel), tbi 404 (by decide +kernel)⟩
theorem lc_RX6_67 {mt : MT} (h : (mN mt).cls = RX6) : Cond.methodLink (mN mt).cls 67 (mN mX6_cell) ∈ lw_tb2 ∧ Cond.instanceMethod (mN mX6_cell) ∈ lw_tb2 ∧ Cond.selects (cR 6) (mN mX6_cell) (mN mX6_cell) ∈ lw_tb2 := by rw [h]; exact ⟨tbi 394 (by decide +kernel), tbi 395 (by decide +kernel), tbi 396 (by decide +kernel)⟩
theorem lc_RX6_71 {mt : MT} (h : (mN mt).cls = RX6) : Cond.methodLink (mN mt).cls 71 (mN mX6_size) ∈ lw_tb2 ∧ Cond.instanceMethod (mN mX6_size) ∈ lw_tb2 ∧ Cond.selects (cR 6) (mN mX6_size) (mN mX6_size) ∈ lw_tb2 := by rw [h]; exact ⟨tbi 406 (by decide +kernel), tbi 407 (by decide +kernel), tbi 408 (by decide +kernel)⟩
theorem lc_RX6_74 {mt : MT} (h : (mN mt).cls = RX6) : Cond.methodLink (mN mt).cls 74 (mN mX6_canUse) ∈ lw_tb2 ∧ Cond.instanceMethod (mN mX6_canUse) ∈ lw_tb2 ∧ Cond.selects (cR 6) (mN mX6_canUse) (mN mX6_canUse) ∈ lw_tb2 := by rw [h]; exact ⟨tbi 398 (by decide +kernel), tbi 399 (by decide +kernel), tbi 400 (by decide +kernel)⟩
theorem lc_RX6_78 {mt : MT} (h : (mN mt).cls = RX6) : Cond.methodLink (mN mt).cls 78 (mN mJ0_length_8abf5) ∈ lw_tb2 ∧ Cond.instanceMethod (mN mJ0_length_8abf5) ∈ lw_tb2 ∧ Cond.selects (cR 7) (mN mJ0_length_8abf5) (mN mJ0_length_8abf5) ∈ lw_tb2 := by rw [h]; exact ⟨tbi 341 (by decide +kernel), tbi 342 (by decide +kernel), tbi 343 (by decide +kernel)⟩
theorem lc_RX6_82 {mt : MT} (h : (mN mt).cls = RX6) : Cond.methodLink (mN mt).cls 82 (mN mX6_all) ∈ lw_tb2 ∧ Cond.instanceMethod (mN mX6_all) ∈ lw_tb2 ∧ Cond.selects (cR 6) (mN mX6_all) (mN mX6_all) ∈ lw_tb2 := by rw [h]; exact ⟨tbi 351 (by decide +kernel), tbi 334 (by decide +kernel), tbi 335 (by decide +kernel)⟩
theorem lc_RX6_85 {mt : MT} (h : (mN mt).cls = RX6) : Cond.methodLink (mN mt).cls 85 (mN mX6_has) ∈ lw_tb2 ∧ Cond.instanceMethod (mN mX6_has) ∈ lw_tb2 ∧ Cond.selects (cR 6) (mN mX6_has) (mN mX6_has) ∈ lw_tb2 := by rw [h]; exact ⟨tbi 390 (by decide +kernel), tbi 391 (by decide +kernel), tbi 392 (by decide +kernel)⟩
theorem lc_RX6_89 {mt : MT} (h : (mN mt).cls = RX6) : Cond.methodLink (mN mt).cls 89 (mN mJ6_bitCount_0f7a4) ∈ lw_tb2 ∧ Cond.static (mN mJ6_bitCount_0f7a4) ∈ lw_tb2 := by rw [h]; exact ⟨tbi 410 (by decide +kernel), tbi 411 (by decide +kernel)⟩
theorem lc_RX6_95 {mt : MT} (h : (mN mt).cls = RX6) : Cond.methodLink (mN mt).cls 95 (mN mJ9_max_7cf53) ∈ lw_tb2 ∧ Cond.static (mN mJ9_max_7cf53) ∈ lw_tb2 := by rw [h]; exact ⟨tbi 416 (by decide +kernel), tbi 417 (by decide +kernel)⟩
theorem lc_RX6_100 {mt : MT} (h : (mN mt).cls = RX6) : Cond.methodLink (mN mt).cls 100 (mN mX6_isStrip) ∈ lw_tb2 ∧ Cond.instanceMethod (mN mX6_isStrip) ∈ lw_tb2 ∧ Cond.selects (cR 6) (mN mX6_isStrip) (mN mX6_isStrip) ∈ lw_tb2 := by rw [h]; exact ⟨tbi 439 (by decide +kernel), tbi 420 (by decide +kernel), tbi 421 (by decide +kernel)⟩
theorem lc_RX6_104 {mt : MT} (h : (mN mt).cls = RX6) : Cond.methodLink (mN mt).cls 104 (mN mX6_says) ∈ lw_tb2 ∧ Cond.instanceMethod (mN mX6_says) ∈ lw_tb2 ∧ Cond.selects (cR 6) (mN mX6_says) (mN mX6_says) ∈ lw_tb2 := by rw [h]; exact ⟨tbi 435 (by decide +kernel), tbi 437 (by decide +kernel), sli 4 (by decide +kernel)⟩
theorem lfm_RX6_108 {mt : MT} (h : (mN mt).cls = RX6) : Cond.fieldLink (mN mt).cls 108 (cT 6 11).1 (cT 6 11).2.1 (cT 6 11).2.2.1 ∈ lw_tb2 := by rw [h]; exact tbi 290 (by decide +kernel)
theorem lf_RX6_108 {mt : MT} (h : (mN mt).cls = RX6) : FL mt 108 6 11 := Or.inl (lfm_RX6_108 h)
theorem lc_RX6_111 {mt : MT} (h : (mN mt).cls = RX6) : Cond.methodLink (mN mt).cls 111 (mN mX6_isAhead) ∈ lw_tb2 ∧ Cond.instanceMethod (mN mX6_isAhead) ∈ lw_tb2 ∧ Cond.selects (cR 6) (mN mX6_isAhead) (mN mX6_isAhead) ∈ lw_tb2 := by rw [h]; exact ⟨tbi 431 (by decide +kernel), tbi 433 (by decide +kernel), sli 3 (by decide +kernel)⟩
theorem lfm_RX6_115 {mt : MT} (h : (mN mt).cls = RX6) : Cond.fieldLink (mN mt).cls 115 (cT 6 12).1 (cT 6 12).2.1 (cT 6 12).2.2.1 ∈ lw_tb2 := by rw [h]; exact tbi 291 (by decide +kernel)
theorem lf_RX6_115 {mt : MT} (h : (mN mt).cls = RX6) : FL mt 115 6 12 := Or.inl (lfm_RX6_115 h)
theorem lc_RX6_119 {mt : MT} (h : (mN mt).cls = RX6) : Cond.methodLink (mN mt).cls 119 (mN mX6_tries) ∈ lw_tb2 ∧ Cond.instanceMethod (mN mX6_tries) ∈ lw_tb2 ∧ Cond.selects (cR 6) (mN mX6_tries) (mN mX6_tries) ∈ lw_tb2 := by rw [h]; exact ⟨tbi 427 (by decide +kernel), tbi 429 (by decide +kernel), sli 2 (by decide +kernel)⟩
theorem lc_RX6_125 {mt : MT} (h : (mN mt).cls = RX6) : Cond.methodLink (mN mt).cls 125 (mN mX6_ofCut) ∈ lw_tb2 ∧ Cond.instanceMethod (mN mX6_ofCut) ∈ lw_tb2 ∧ Cond.selects (cR 6) (mN mX6_ofCut) (mN mX6_ofCut) ∈ lw_tb2 := by rw [h]; exact ⟨tbi 449 (by decide +kernel), tbi 450 (by decide +kernel), tbi 451 (by decide +kernel)⟩
theorem lc_RX6_128 {mt : MT} (h : (mN mt).cls = RX6) : Cond.methodLink (mN mt).cls 128 (mN mX6_cutsOff) ∈ lw_tb2 ∧ Cond.instanceMethod (mN mX6_cutsOff) ∈ lw_tb2 ∧ Cond.selects (cR 6) (mN mX6_cutsOff) (mN mX6_cutsOff) ∈ lw_tb2 := by rw [h]; exact ⟨tbi 453 (by decide +kernel), tbi 442 (by decide +kernel), tbi 443 (by decide +kernel)⟩
theorem lc_RX6_132 {mt : MT} (h : (mN mt).cls = RX6) : Cond.methodLink (mN mt).cls 132 (mN mX6_many) ∈ lw_tb2 ∧ Cond.instanceMethod (mN mX6_many) ∈ lw_tb2 ∧ Cond.selects (cR 6) (mN mX6_many) (mN mX6_many) ∈ lw_tb2 := by rw [h]; exact ⟨tbi 1252 (by decide +kernel), tbi 1253 (by decide +kernel), tbi 1254 (by decide +kernel)⟩
theorem lc_RX6_136 {mt : MT} (h : (mN mt).cls = RX6) : Cond.methodLink (mN mt).cls 136 (mN mX6_there) ∈ lw_tb2 ∧ Cond.instanceMethod (mN mX6_there) ∈ lw_tb2 ∧ Cond.selects (cR 6) (mN mX6_there) (mN mX6_there) ∈ lw_tb2 := by rw [h]; exact ⟨tbi 1240 (by decide +kernel), tbi 455 (by decide +kernel), tbi 456 (by decide +kernel)⟩
theorem lc_RX6_141 {mt : MT} (h : (mN mt).cls = RX6) : Cond.methodLink (mN mt).cls 141 (mN mX6_told) ∈ lw_tb2 ∧ Cond.instanceMethod (mN mX6_told) ∈ lw_tb2 ∧ Cond.selects (cR 6) (mN mX6_told) (mN mX6_told) ∈ lw_tb2 := by rw [h]; exact ⟨tbi 1236 (by decide +kernel), tbi 1237 (by decide +kernel), tbi 1238 (by decide +kernel)⟩
theorem lc_RX6_144 {mt : MT} (h : (mN mt).cls = RX6) : Cond.methodLink (mN mt).cls 144 (mN mX6_letter) ∈ lw_tb2 ∧ Cond.instanceMethod (mN mX6_letter) ∈ lw_tb2 ∧ Cond.selects (cR 6) (mN mX6_letter) (mN mX6_letter) ∈ lw_tb2 := by rw [h]; exact ⟨tbi 1241 (by decide +kernel), tbi 1242 (by decide +kernel), tbi 1243 (by decide +kernel)⟩
theorem lc_RX6_149 {mt : MT} (h : (mN mt).cls = RX6) : Cond.methodLink (mN mt).cls 149 (mN mX6_missing) ∈ lw_tb2 ∧ Cond.instanceMethod (mN mX6_missing) ∈ lw_tb2 ∧ Cond.selects (cR 6) (mN mX6_missing) (mN mX6_missing) ∈ lw_tb2 := by rw [h]; exact ⟨tbi 1246 (by decide +kernel), tbi 338 (by decide +kernel), tbi 339 (by decide +kernel)⟩
theorem lc_RX6_152 {mt : MT} (h : (mN mt).cls = RX6) : Cond.methodLink (mN mt).cls 152 (mN mX6_plan) ∈ lw_tb2 ∧ Cond.instanceMethod (mN mX6_plan) ∈ lw_tb2 ∧ Cond.selects (cR 6) (mN mX6_plan) (mN mX6_plan) ∈ lw_tb2 := by rw [h]; exact ⟨tbi 1247 (by decide +kernel), tbi 424 (by decide +kernel), tbi 425 (by decide +kernel)⟩
theorem lc_RX6_155 {mt : MT} (h : (mN mt).cls = RX6) : Cond.methodLink (mN mt).cls 155 (mN mX6_clashes) ∈ lw_tb2 ∧ Cond.instanceMethod (mN mX6_clashes) ∈ lw_tb2 ∧ Cond.selects (cR 6) (mN mX6_clashes) (mN mX6_clashes) ∈ lw_tb2 := by rw [h]; exact ⟨tbi 1248 (by decide +kernel), tbi 1249 (by decide +kernel), tbi 1250 (by decide +kernel)⟩
theorem lfm_RJ5_15 {mt : MT} (h : (mN mt).cls = RJ5) : Cond.fieldLink (mN mt).cls 15 (cT 8 0).1 (cT 8 0).2.1 (cT 8 0).2.2.1 ∈ lw_tb2 := by rw [h]; exact tbi 966 (by decide +kernel)
theorem lf_RJ5_15 {mt : MT} (h : (mN mt).cls = RJ5) : FL mt 15 8 0 := Or.inl (lfm_RJ5_15 h)
theorem lfm_RJ5_22 {mt : MT} (h : (mN mt).cls = RJ5) : Cond.fieldLink (mN mt).cls 22 (cT 8 1).1 (cT 8 1).2.1 (cT 8 1).2.2.1 ∈ lw_tb2 := by rw [h]; exact tbi 967 (by decide +kernel)
theorem lf_RJ5_22 {mt : MT} (h : (mN mt).cls = RJ5) : FL mt 22 8 1 := Or.inl (lfm_RJ5_22 h)
theorem lc_RJ5_26 {mt : MT} (h : (mN mt).cls = RJ5) : Cond.methodLink (mN mt).cls 26 (mN mJ2_newBytesFor_77867) ∈ lw_tb2 ∧ Cond.static (mN mJ2_newBytesFor_77867) ∈ lw_tb2 := by rw [h]; exact ⟨tbi 959 (by decide +kernel), tbi 960 (by decide +kernel)⟩
theorem lc_RJ5_32 {mt : MT} (h : (mN mt).cls = RJ5) : Cond.methodLink (mN mt).cls 32 (mN mJ0_length_8abf5) ∈ lw_tb2 ∧ Cond.instanceMethod (mN mJ0_length_8abf5) ∈ lw_tb2 ∧ Cond.selects (cR 7) (mN mJ0_length_8abf5) (mN mJ0_length_8abf5) ∈ lw_tb2 := by rw [h]; exact ⟨tbi 1037 (by decide +kernel), tbi 342 (by decide +kernel), tbi 343 (by decide +kernel)⟩
theorem lc_RJ5_40 {mt : MT} (h : (mN mt).cls = RJ5) : Cond.methodLink (mN mt).cls 40 (mN mJ0_coder_7d493) ∈ lw_tb2 ∧ Cond.instanceMethod (mN mJ0_coder_7d493) ∈ lw_tb2 ∧ Cond.selects (cR 7) (mN mJ0_coder_7d493) (mN mJ0_coder_7d493) ∈ lw_tb2 := by rw [h]; exact ⟨tbi 1046 (by decide +kernel), tbi 346 (by decide +kernel), tbi 347 (by decide +kernel)⟩
theorem lfm_RJ5_79 {mt : MT} (h : (mN mt).cls = RJ5) : Cond.fieldLink (mN mt).cls 79 (cT 8 3).1 (cT 8 3).2.1 (cT 8 3).2.2.1 ∈ lw_tb2 := by rw [h]; exact tbi 969 (by decide +kernel)
theorem lf_RJ5_79 {mt : MT} (h : (mN mt).cls = RJ5) : FL mt 79 8 3 := Or.inl (lfm_RJ5_79 h)
theorem lc_RJ5_83 {mt : MT} (h : (mN mt).cls = RJ5) : UW mt 83 8 0 (mN mJ5_isLatin1_aae02) mJ5_isLatin1_aae02 := by unfold UW; rw [h]; exact ⟨⟨⟨tbi 1017 (by decide +kernel), tbi 1019 (by decide +kernel)⟩, tbi 1018 (by decide +kernel), tbi 1018 (by decide +kernel)⟩, ⟨_, _, _, ceJ5_isLatin1_aae02.1.1⟩, ⟨by decide +kernel, by decide +kernel, by decide +kernel⟩, fun a s hw => hw _ (tbi 1020 (by decide +kernel)) rfl⟩
theorem lc_RJ5_100 {mt : MT} (h : (mN mt).cls = RJ5) : UW mt 100 8 1 (mN mJ5_ensureCapacityInternal_d00df) mJ5_ensureCapacityInternal_d00df := by unfold UW; rw [h]; exact ⟨⟨⟨tbi 990 (by decide +kernel), tbi 1279 (by decide +kernel)⟩, tbi 992 (by decide +kernel), tbi 992 (by decide +kernel)⟩, ⟨_, _, _, ceJ5_ensureCapacityInternal_d00df.1.1⟩, ⟨by decide +kernel, by decide +kernel, by decide +kernel⟩, fun a s hw => hw _ (jsi 0 rfl) rfl⟩
theorem lc_RJ5_104 {mt : MT} (h : (mN mt).cls = RJ5) : UW mt 104 8 1 (mN mJ5_newCapacity_0f7a4) mJ5_newCapacity_0f7a4 := by unfold UW; rw [h]; exact ⟨⟨⟨tbi 994 (by decide +kernel), tbi 1280 (by decide +kernel)⟩, tbi 996 (by decide +kernel), tbi 996 (by decide +kernel)⟩, ⟨_, _, _, ceJ5_newCapacity_0f7a4.1.1⟩, ⟨by decide +kernel, by decide +kernel, by decide +kernel⟩, fun a s hw => hw _ (jsi 1 rfl) rfl⟩
theorem lc_RJ5_108 {mt : MT} (h : (mN mt).cls = RJ5) : Cond.methodLink (mN mt).cls 108 (mN mJ7_copyOf_9075b) ∈ lw_tb2 ∧ Cond.static (mN mJ7_copyOf_9075b) ∈ lw_tb2 := by rw [h]; exact ⟨tbi 1007 (by decide +kernel), tbi 1008 (by decide +kernel)⟩
theorem lc_RJ5_114 {mt : MT} (h : (mN mt).cls = RJ5) : Cond.methodLink (mN mt).cls 114 (mN mJ8_newLength_cabcc) ∈ lw_tb2 ∧ Cond.static (mN mJ8_newLength_cabcc) ∈ lw_tb2 := by rw [h]; exact ⟨tbi 998 (by decide +kernel), tbi 999 (by decide +kernel)⟩
theorem lc_RJ5_125 {mt : MT} (h : (mN mt).cls = RJ5) : Cond.methodLink (mN mt).cls 125 (mN mJ1_inflate_0e8fd) ∈ lw_tb2 ∧ Cond.static (mN mJ1_inflate_0e8fd) ∈ lw_tb2 := by rw [h]; exact ⟨tbi 1051 (by decide +kernel), tbi 1052 (by decide +kernel)⟩
theorem lc_RJ5_191 {mt : MT} (h : (mN mt).cls = RJ5) : Cond.methodLink (mN mt).cls 191 (mN mJ1_canEncode_fc78d) ∈ lw_tb2 ∧ Cond.static (mN mJ1_canEncode_fc78d) ∈ lw_tb2 := by rw [h]; exact ⟨tbi 1079 (by decide +kernel), tbi 1080 (by decide +kernel)⟩
theorem lc_RJ5_195 {mt : MT} (h : (mN mt).cls = RJ5) : UW mt 195 8 0 (mN mJ5_inflate_da8c8) mJ5_inflate_da8c8 := by unfold UW; rw [h]; exact ⟨⟨⟨tbi 1047 (by decide +kernel), tbi 1283 (by decide +kernel)⟩, tbi 1049 (by decide +kernel), tbi 1049 (by decide +kernel)⟩, ⟨_, _, _, ceJ5_inflate_da8c8.1.1⟩, ⟨by decide +kernel, by decide +kernel, by decide +kernel⟩, fun a s hw => hw _ (jsi 2 rfl) rfl⟩
theorem lc_RJ5_197 {mt : MT} (h : (mN mt).cls = RJ5) : Cond.methodLink (mN mt).cls 197 (mN mJ2_putCharSB_b72d1) ∈ lw_tb2 ∧ Cond.static (mN mJ2_putCharSB_b72d1) ∈ lw_tb2 := by rw [h]; exact ⟨tbi 1082 (by decide +kernel), tbi 1083 (by decide +kernel)⟩
theorem lc_RJ5_204 {mt : MT} (h : (mN mt).cls = RJ5) : UW mt 204 8 0 (mN mJ5_appendNull_278bc) mJ5_appendNull_278bc := by unfold UW; rw [h]; exact ⟨⟨⟨tbi 986 (by decide +kernel), tbi 1278 (by decide +kernel)⟩, tbi 988 (by decide +kernel), tbi 988 (by decide +kernel)⟩, ⟨_, _, _, ceJ5_appendNull_278bc.1.1⟩, ⟨by decide +kernel, by decide +kernel, by decide +kernel⟩, fun a s hw => hw _ (jsi 3 rfl) rfl⟩
theorem lc_RJ5_208 {mt : MT} (h : (mN mt).cls = RJ5) : UW mt 208 8 2 (mN mJ5_putStringAt_47b60) mJ5_putStringAt_47b60 := by unfold UW; rw [h]; exact ⟨⟨⟨tbi 1038 (by decide +kernel), tbi 1281 (by decide +kernel)⟩, tbi 1040 (by decide +kernel), tbi 1040 (by decide +kernel)⟩, ⟨_, _, _, ceJ5_putStringAt_47b60.1.1⟩, ⟨by decide +kernel, by decide +kernel, by decide +kernel⟩, fun a s hw => hw _ (jsi 4 rfl) rfl⟩
theorem lc_RJ5_226 {mt : MT} (h : (mN mt).cls = RJ5) : Cond.methodLink (mN mt).cls 226 (mN mJ2_putCharsAt_cd4e5) ∈ lw_tb2 ∧ Cond.static (mN mJ2_putCharsAt_cd4e5) ∈ lw_tb2 := by rw [h]; exact ⟨tbi 1022 (by decide +kernel), tbi 1023 (by decide +kernel)⟩
theorem lc_RJ5_245 {mt : MT} (h : (mN mt).cls = RJ5) : Cond.methodLink (mN mt).cls 245 (mN mJ6_stringSize_0f7a4) ∈ lw_tb2 ∧ Cond.static (mN mJ6_stringSize_0f7a4) ∈ lw_tb2 := by rw [h]; exact ⟨tbi 1131 (by decide +kernel), tbi 1132 (by decide +kernel)⟩
theorem lc_RJ5_248 {mt : MT} (h : (mN mt).cls = RJ5) : Cond.methodLink (mN mt).cls 248 (mN mJ6_getChars_ba4f3) ∈ lw_tb2 ∧ Cond.static (mN mJ6_getChars_ba4f3) ∈ lw_tb2 := by rw [h]; exact ⟨tbi 1134 (by decide +kernel), tbi 1135 (by decide +kernel)⟩
theorem lc_RJ5_251 {mt : MT} (h : (mN mt).cls = RJ5) : Cond.methodLink (mN mt).cls 251 (mN mJ2_getChars_46870) ∈ lw_tb2 ∧ Cond.static (mN mJ2_getChars_46870) ∈ lw_tb2 := by rw [h]; exact ⟨tbi 1141 (by decide +kernel), tbi 1142 (by decide +kernel)⟩
theorem lc_RJ5_397 {mt : MT} (h : (mN mt).cls = RJ5) : UW mt 397 8 1 (mN mJ5_inflateIfNeededFor_a7421) mJ5_inflateIfNeededFor_a7421 := by unfold UW; rw [h]; exact ⟨⟨⟨tbi 1042 (by decide +kernel), tbi 1282 (by decide +kernel)⟩, tbi 1044 (by decide +kernel), tbi 1044 (by decide +kernel)⟩, ⟨_, _, _, ceJ5_inflateIfNeededFor_a7421.1.1⟩, ⟨by decide +kernel, by decide +kernel, by decide +kernel⟩, fun a s hw => hw _ (jsi 5 rfl) rfl⟩
theorem lc_RJ5_399 {mt : MT} (h : (mN mt).cls = RJ5) : Cond.methodLink (mN mt).cls 399 (mN mJ0_getBytes_840e7) ∈ lw_tb2 ∧ Cond.instanceMethod (mN mJ0_getBytes_840e7) ∈ lw_tb2 ∧ Cond.selects (cR 7) (mN mJ0_getBytes_840e7) (mN mJ0_getBytes_840e7) ∈ lw_tb2 := by rw [h]; exact ⟨tbi 1066 (by decide +kernel), tbi 1067 (by decide +kernel), tbi 1068 (by decide +kernel)⟩
theorem lfm_RJ0_9 {mt : MT} (h : (mN mt).cls = RJ0) : Cond.fieldLink (mN mt).cls 9 (cT 7 0).1 (cT 7 0).2.1 (cT 7 0).2.2.1 ∈ lw_tb2 := by rw [h]; exact tbi 1174 (by decide +kernel)
theorem lf_RJ0_9 {mt : MT} (h : (mN mt).cls = RJ0) : FL mt 9 7 0 := Or.inl (lfm_RJ0_9 h)
theorem lfm_RJ0_15 {mt : MT} (h : (mN mt).cls = RJ0) : Cond.fieldLink (mN mt).cls 15 (cT 7 1).1 (cT 7 1).2.1 (cT 7 1).2.2.1 ∈ lw_tb2 := by rw [h]; exact tbi 1175 (by decide +kernel)
theorem lf_RJ0_15 {mt : MT} (h : (mN mt).cls = RJ0) : FL mt 15 7 1 := Or.inl (lfm_RJ0_15 h)
theorem lc_RJ0_47 {mt : MT} (h : (mN mt).cls = RJ0) : Cond.methodLink (mN mt).cls 47 (mN mJ2_coderFromArrayLen_85cad) ∈ lw_tb2 ∧ Cond.static (mN mJ2_coderFromArrayLen_85cad) ∈ lw_tb2 := by rw [h]; exact ⟨tbi 1171 (by decide +kernel), tbi 1172 (by decide +kernel)⟩
theorem lc_RJ0_54 {mt : MT} (h : (mN mt).cls = RJ0) : Cond.methodLink (mN mt).cls 54 (mN mJ7_copyOfRange_39247) ∈ lw_tb2 ∧ Cond.static (mN mJ7_copyOfRange_39247) ∈ lw_tb2 := by rw [h]; exact ⟨tbi 1112 (by decide +kernel), tbi 1113 (by decide +kernel)⟩
theorem lc_RJ0_106 {mt : MT} (h : (mN mt).cls = RJ0) : Cond.methodLink (mN mt).cls 106 (mN mJ1_inflate_0e8fd) ∈ lw_tb2 ∧ Cond.static (mN mJ1_inflate_0e8fd) ∈ lw_tb2 := by rw [h]; exact ⟨tbi 1071 (by decide +kernel), tbi 1052 (by decide +kernel)⟩
theorem lc_RJ0_335 {mt : MT} (h : (mN mt).cls = RJ0) : Cond.methodLink (mN mt).cls 335 (mN mJ0_coder_7d493) ∈ lw_tb2 ∧ Cond.instanceMethod (mN mJ0_coder_7d493) ∈ lw_tb2 ∧ Cond.selects (cR 7) (mN mJ0_coder_7d493) (mN mJ0_coder_7d493) ∈ lw_tb2 := by rw [h]; exact ⟨tbi 345 (by decide +kernel), tbi 346 (by decide +kernel), tbi 347 (by decide +kernel)⟩
theorem lc_RJ0_489 {mt : MT} (h : (mN mt).cls = RJ0) : Cond.methodLink (mN mt).cls 489 (mN mJ0_init_db425) ∈ lw_tb2 ∧ Cond.instanceMethod (mN mJ0_init_db425) ∈ lw_tb2 := by rw [h]; exact ⟨tbi 1094 (by decide +kernel), tbi 1095 (by decide +kernel)⟩
theorem lc_RJ0_492 {mt : MT} (h : (mN mt).cls = RJ0) : Cond.methodLink (mN mt).cls 492 (mN mJ0_isLatin1_aae02) ∈ lw_tb2 ∧ Cond.instanceMethod (mN mJ0_isLatin1_aae02) ∈ lw_tb2 ∧ Cond.selects (cR 7) (mN mJ0_isLatin1_aae02) (mN mJ0_isLatin1_aae02) ∈ lw_tb2 := by rw [h]; exact ⟨tbi 356 (by decide +kernel), tbi 357 (by decide +kernel), tbi 358 (by decide +kernel)⟩
theorem lc_RJ0_495 {mt : MT} (h : (mN mt).cls = RJ0) : Cond.methodLink (mN mt).cls 495 (mN mJ1_charAt_3b067) ∈ lw_tb2 ∧ Cond.static (mN mJ1_charAt_3b067) ∈ lw_tb2 := by rw [h]; exact ⟨tbi 360 (by decide +kernel), tbi 361 (by decide +kernel)⟩
theorem lc_RJ0_498 {mt : MT} (h : (mN mt).cls = RJ0) : Cond.methodLink (mN mt).cls 498 (mN mJ2_charAt_3b067) ∈ lw_tb2 ∧ Cond.static (mN mJ2_charAt_3b067) ∈ lw_tb2 := by rw [h]; exact ⟨tbi 371 (by decide +kernel), tbi 372 (by decide +kernel)⟩
theorem lc_RJ0_549 {mt : MT} (h : (mN mt).cls = RJ0) : UW mt 549 8 0 (mN mJ5_length_8abf5) mJ4_length_8abf5 := by unfold UW; rw [h]; exact ⟨⟨⟨tbi 1103 (by decide +kernel), tbi 1105 (by decide +kernel)⟩, tbi 1107 (by decide +kernel), tbi 1104 (by decide +kernel)⟩, ⟨_, _, _, ceJ5_length_8abf5.1.1⟩, ⟨by decide +kernel, by decide +kernel, by decide +kernel⟩, fun a s hw => hw _ (tbi 1106 (by decide +kernel)) rfl⟩
theorem lc_RJ0_552 {mt : MT} (h : (mN mt).cls = RJ0) : UW mt 552 8 0 (mN mJ5_getValue_6d5f1) mJ5_getValue_6d5f1 := by unfold UW; rw [h]; exact ⟨⟨⟨tbi 1098 (by decide +kernel), tbi 1100 (by decide +kernel)⟩, tbi 1099 (by decide +kernel), tbi 1099 (by decide +kernel)⟩, ⟨_, _, _, ceJ5_getValue_6d5f1.1.1⟩, ⟨by decide +kernel, by decide +kernel, by decide +kernel⟩, fun a s hw => hw _ (tbi 1101 (by decide +kernel)) rfl⟩
theorem lc_RJ0_1047 {mt : MT} (h : (mN mt).cls = RJ0) : UW mt 1047 8 0 (mN mJ5_isLatin1_aae02) mJ5_isLatin1_aae02 := by unfold UW; rw [h]; exact ⟨⟨⟨tbi 1111 (by decide +kernel), tbi 1019 (by decide +kernel)⟩, tbi 1018 (by decide +kernel), tbi 1018 (by decide +kernel)⟩, ⟨_, _, _, ceJ5_isLatin1_aae02.1.1⟩, ⟨by decide +kernel, by decide +kernel, by decide +kernel⟩, fun a s hw => hw _ (tbi 1020 (by decide +kernel)) rfl⟩
theorem lfm_RJ0_1048 {mt : MT} (h : (mN mt).cls = RJ0) : Cond.fieldLink (mN mt).cls 1048 (cT 8 2).1 (cT 8 2).2.1 (cT 8 2).2.2.1 ∈ lw_tb2 := by rw [h]; exact tbi 968 (by decide +kernel)
theorem lf_RJ0_1048 {mt : MT} (h : (mN mt).cls = RJ0) : FL mt 1048 8 2 := Or.inl (lfm_RJ0_1048 h)
theorem lc_RJ0_1051 {mt : MT} (h : (mN mt).cls = RJ0) : Cond.methodLink (mN mt).cls 1051 (mN mJ2_compress_39247) ∈ lw_tb2 ∧ Cond.static (mN mJ2_compress_39247) ∈ lw_tb2 := by rw [h]; exact ⟨tbi 1164 (by decide +kernel), tbi 1165 (by decide +kernel)⟩
theorem lc_RJ0_1059 {mt : MT} (h : (mN mt).cls = RJ0) : Cond.methodLink (mN mt).cls 1059 (mN mJ3_checkIndex_8e157) ∈ lw_tb2 ∧ Cond.static (mN mJ3_checkIndex_8e157) ∈ lw_tb2 := by rw [h]; exact ⟨tbi 368 (by decide +kernel), tbi 369 (by decide +kernel)⟩
theorem lc_RJ0_1062 {mt : MT} (h : (mN mt).cls = RJ0) : Cond.methodLink (mN mt).cls 1062 (mN mJ3_checkFromToIndex_8c36e) ∈ lw_tb2 ∧ Cond.static (mN mJ3_checkFromToIndex_8c36e) ∈ lw_tb2 := by rw [h]; exact ⟨tbi 1031 (by decide +kernel), tbi 1032 (by decide +kernel)⟩
theorem lc_RJ0_1065 {mt : MT} (h : (mN mt).cls = RJ0) : Cond.methodLink (mN mt).cls 1065 (mN mJ3_checkFromIndexSize_8c36e) ∈ lw_tb2 ∧ Cond.static (mN mJ3_checkFromIndexSize_8c36e) ∈ lw_tb2 := by rw [h]; exact ⟨tbi 1063 (by decide +kernel), tbi 1064 (by decide +kernel)⟩
theorem lc_RJ4_1 {mt : MT} (h : (mN mt).cls = RJ4) : Cond.methodLink (mN mt).cls 1 (mN mJ5_init_d00df) ∈ lw_tb2 ∧ Cond.instanceMethod (mN mJ5_init_d00df) ∈ lw_tb2 := by rw [h]; exact ⟨tbi 954 (by decide +kernel), tbi 955 (by decide +kernel)⟩
theorem lc_RJ4_29 {mt : MT} (h : (mN mt).cls = RJ4) : (Cond.methodLink (mN mt).cls 29 (mN mJ5_append_cf1ce) ∈ lw_tb2 ∧ Cond.sameMethod (mN mJ5_append_cf1ce).cls (mN mJ5_append_cf1ce).cls (mN mJ5_append_cf1ce).name (mN mJ5_append_cf1ce).desc ∈ lw_tb2) ∧ Cond.instanceMethod (mN mJ5_append_cf1ce) ∈ lw_tb2 ∧ Cond.superclass (mN mt).cls (mN mJ5_append_cf1ce).cls ∈ lw_tb2 := by rw [h]; exact ⟨⟨tbi 983 (by decide +kernel), tbi 1277 (by decide +kernel)⟩, tbi 984 (by decide +kernel), tbi 978 (by decide +kernel)⟩
theorem lc_RJ4_50 {mt : MT} (h : (mN mt).cls = RJ4) : (Cond.methodLink (mN mt).cls 50 (mN mJ5_append_3fe6f) ∈ lw_tb2 ∧ Cond.sameMethod (mN mJ5_append_3fe6f).cls (mN mJ5_append_3fe6f).cls (mN mJ5_append_3fe6f).name (mN mJ5_append_3fe6f).desc ∈ lw_tb2) ∧ Cond.instanceMethod (mN mJ5_append_3fe6f) ∈ lw_tb2 ∧ Cond.superclass (mN mt).cls (mN mJ5_append_3fe6f).cls ∈ lw_tb2 := by rw [h]; exact ⟨⟨tbi 1076 (by decide +kernel), tbi 1284 (by decide +kernel)⟩, tbi 1077 (by decide +kernel), tbi 978 (by decide +kernel)⟩
theorem lc_RJ4_53 {mt : MT} (h : (mN mt).cls = RJ4) : (Cond.methodLink (mN mt).cls 53 (mN mJ5_append_c97b9) ∈ lw_tb2 ∧ Cond.sameMethod (mN mJ5_append_c97b9).cls (mN mJ5_append_c97b9).cls (mN mJ5_append_c97b9).name (mN mJ5_append_c97b9).desc ∈ lw_tb2) ∧ Cond.instanceMethod (mN mJ5_append_c97b9) ∈ lw_tb2 ∧ Cond.superclass (mN mt).cls (mN mJ5_append_c97b9).cls ∈ lw_tb2 := by rw [h]; exact ⟨⟨tbi 1128 (by decide +kernel), tbi 1285 (by decide +kernel)⟩, tbi 1129 (by decide +kernel), tbi 978 (by decide +kernel)⟩
theorem lc_RJ4_137 {mt : MT} (h : (mN mt).cls = RJ4) : Cond.methodLink (mN mt).cls 137 (mN mJ0_init_81219) ∈ lw_tb2 ∧ Cond.instanceMethod (mN mJ0_init_81219) ∈ lw_tb2 := by rw [h]; exact ⟨tbi 1091 (by decide +kernel), tbi 1092 (by decide +kernel)⟩
theorem lc_RJ4_343 {mt : MT} (h : (mN mt).cls = RJ4) : (Cond.methodLink (mN mt).cls 343 (mN mJ5_length_8abf5) ∈ lw_tb2 ∧ Cond.sameMethod (mN mJ5_length_8abf5).cls (mN mJ5_length_8abf5).cls (mN mJ5_length_8abf5).name (mN mJ5_length_8abf5).desc ∈ lw_tb2) ∧ Cond.instanceMethod (mN mJ5_length_8abf5) ∈ lw_tb2 ∧ Cond.superclass (mN mt).cls (mN mJ5_length_8abf5).cls ∈ lw_tb2 := by rw [h]; exact ⟨⟨tbi 1109 (by decide +kernel), tbi 1105 (by decide +kernel)⟩, tbi 1104 (by decide +kernel), tbi 978 (by decide +kernel)⟩
theorem lc_RJ1_9 {mt : MT} (h : (mN mt).cls = RJ1) : Cond.methodLink (mN mt).cls 9 (mN mJ0_checkIndex_df160) ∈ lw_tb2 ∧ Cond.static (mN mJ0_checkIndex_df160) ∈ lw_tb2 := by rw [h]; exact ⟨tbi 363 (by decide +kernel), tbi 364 (by decide +kernel)⟩
theorem lc_RJ1_240 {mt : MT} (h : (mN mt).cls = RJ1) : Cond.methodLink (mN mt).cls 240 (mN mJ2_inflate_0e8fd) ∈ lw_tb2 ∧ Cond.static (mN mJ2_inflate_0e8fd) ∈ lw_tb2 := by rw [h]; exact ⟨tbi 1054 (by decide +kernel), tbi 1055 (by decide +kernel)⟩
theorem lc_RJ2_11 {mt : MT} (h : (mN mt).cls = RJ2) : Cond.methodLink (mN mt).cls 11 (mN mJ2_newBytesLength_0f7a4) ∈ lw_tb2 ∧ Cond.static (mN mJ2_newBytesLength_0f7a4) ∈ lw_tb2 := by rw [h]; exact ⟨tbi 962 (by decide +kernel), tbi 963 (by decide +kernel)⟩
theorem lc_RJ2_48 {mt : MT} (h : (mN mt).cls = RJ2) : Cond.methodLink (mN mt).cls 48 (mN mJ2_length_9d52b) ∈ lw_tb2 ∧ Cond.static (mN mJ2_length_9d52b) ∈ lw_tb2 := by rw [h]; exact ⟨tbi 377 (by decide +kernel), tbi 378 (by decide +kernel)⟩
theorem lc_RJ2_67 {mt : MT} (h : (mN mt).cls = RJ2) : Cond.methodLink (mN mt).cls 67 (mN mJ2_checkIndex_2214a) ∈ lw_tb2 ∧ Cond.static (mN mJ2_checkIndex_2214a) ∈ lw_tb2 := by rw [h]; exact ⟨tbi 374 (by decide +kernel), tbi 375 (by decide +kernel)⟩
theorem lc_RJ2_71 {mt : MT} (h : (mN mt).cls = RJ2) : Cond.methodLink (mN mt).cls 71 (mN mJ2_getChar_3b067) ∈ lw_tb2 ∧ Cond.static (mN mJ2_getChar_3b067) ∈ lw_tb2 := by rw [h]; exact ⟨tbi 381 (by decide +kernel), tbi 382 (by decide +kernel)⟩
theorem lc_RJ2_96 {mt : MT} (h : (mN mt).cls = RJ2) : Cond.methodLink (mN mt).cls 96 (mN mJ2_checkBoundsBeginEnd_d044e) ∈ lw_tb2 ∧ Cond.static (mN mJ2_checkBoundsBeginEnd_d044e) ∈ lw_tb2 := by rw [h]; exact ⟨tbi 1025 (by decide +kernel), tbi 1026 (by decide +kernel)⟩
theorem lc_RJ2_111 {mt : MT} (h : (mN mt).cls = RJ2) : Cond.methodLink (mN mt).cls 111 (mN mJ2_putChar_b72d1) ∈ lw_tb2 ∧ Cond.static (mN mJ2_putChar_b72d1) ∈ lw_tb2 := by rw [h]; exact ⟨tbi 1034 (by decide +kernel), tbi 1035 (by decide +kernel)⟩
theorem lc_RJ2_123 {mt : MT} (h : (mN mt).cls = RJ2) : Cond.methodLink (mN mt).cls 123 (mN mJ2_compress_5af95) ∈ lw_tb2 ∧ Cond.static (mN mJ2_compress_5af95) ∈ lw_tb2 := by rw [h]; exact ⟨tbi 1167 (by decide +kernel), tbi 1168 (by decide +kernel)⟩
theorem lc_RJ2_126 {mt : MT} (h : (mN mt).cls = RJ2) : Cond.methodLink (mN mt).cls 126 (mN mJ7_copyOfRange_39247) ∈ lw_tb2 ∧ Cond.static (mN mJ7_copyOfRange_39247) ∈ lw_tb2 := by rw [h]; exact ⟨tbi 1170 (by decide +kernel), tbi 1113 (by decide +kernel)⟩
theorem lc_RJ2_173 {mt : MT} (h : (mN mt).cls = RJ2) : Cond.methodLink (mN mt).cls 173 (mN mJ2_checkBoundsOffCount_d044e) ∈ lw_tb2 ∧ Cond.static (mN mJ2_checkBoundsOffCount_d044e) ∈ lw_tb2 := by rw [h]; exact ⟨tbi 1057 (by decide +kernel), tbi 1058 (by decide +kernel)⟩
theorem lc_RJ2_241 {mt : MT} (h : (mN mt).cls = RJ2) : Cond.methodLink (mN mt).cls 241 (mN mJ0_checkBoundsBeginEnd_23922) ∈ lw_tb2 ∧ Cond.static (mN mJ0_checkBoundsBeginEnd_23922) ∈ lw_tb2 := by rw [h]; exact ⟨tbi 1028 (by decide +kernel), tbi 1029 (by decide +kernel)⟩
theorem lc_RJ2_393 {mt : MT} (h : (mN mt).cls = RJ2) : Cond.methodLink (mN mt).cls 393 (mN mJ2_getChars_ba4f3) ∈ lw_tb2 ∧ Cond.static (mN mJ2_getChars_ba4f3) ∈ lw_tb2 := by rw [h]; exact ⟨tbi 1144 (by decide +kernel), tbi 1145 (by decide +kernel)⟩
theorem lc_RJ2_414 {mt : MT} (h : (mN mt).cls = RJ2) : Cond.methodLink (mN mt).cls 414 (mN mJ0_checkIndex_df160) ∈ lw_tb2 ∧ Cond.static (mN mJ0_checkIndex_df160) ∈ lw_tb2 := by rw [h]; exact ⟨tbi 380 (by decide +kernel), tbi 364 (by decide +kernel)⟩
theorem lc_RJ2_419 {mt : MT} (h : (mN mt).cls = RJ2) : Cond.methodLink (mN mt).cls 419 (mN mJ0_checkBoundsOffCount_cabcc) ∈ lw_tb2 ∧ Cond.static (mN mJ0_checkBoundsOffCount_cabcc) ∈ lw_tb2 := by rw [h]; exact ⟨tbi 1060 (by decide +kernel), tbi 1061 (by decide +kernel)⟩
theorem lc_RJ7_47 {mt : MT} (h : (mN mt).cls = RJ7) : Cond.methodLink (mN mt).cls 47 (mN mJ4_init_da8c8) ∈ lw_tb2 ∧ Cond.instanceMethod (mN mJ4_init_da8c8) ∈ lw_tb2 := by rw [h]; exact ⟨tbi 1123 (by decide +kernel), tbi 952 (by decide +kernel)⟩
theorem lc_RJ7_50 {mt : MT} (h : (mN mt).cls = RJ7) : Cond.methodLink (mN mt).cls 50 (mN mJ4_append_15ec4) ∈ lw_tb2 ∧ Cond.instanceMethod (mN mJ4_append_15ec4) ∈ lw_tb2 ∧ Cond.selects (cR 8) (mN mJ4_append_15ec4) (mN mJ4_append_15ec4) ∈ lw_tb2 := by rw [h]; exact ⟨tbi 1150 (by decide +kernel), tbi 980 (by decide +kernel), tbi 981 (by decide +kernel)⟩
theorem lc_RJ7_54 {mt : MT} (h : (mN mt).cls = RJ7) : Cond.methodLink (mN mt).cls 54 (mN mJ4_append_bf812) ∈ lw_tb2 ∧ Cond.instanceMethod (mN mJ4_append_bf812) ∈ lw_tb2 ∧ Cond.selects (cR 8) (mN mJ4_append_bf812) (mN mJ4_append_bf812) ∈ lw_tb2 := by rw [h]; exact ⟨tbi 1124 (by decide +kernel), tbi 1125 (by decide +kernel), tbi 1126 (by decide +kernel)⟩
theorem lc_RJ7_61 {mt : MT} (h : (mN mt).cls = RJ7) : Cond.methodLink (mN mt).cls 61 (mN mJ4_toString_0e30d) ∈ lw_tb2 ∧ Cond.instanceMethod (mN mJ4_toString_0e30d) ∈ lw_tb2 ∧ Cond.selects (cR 8) (mN mJ4_toString_0e30d) (mN mJ4_toString_0e30d) ∈ lw_tb2 := by rw [h]; exact ⟨tbi 1151 (by decide +kernel), tbi 1086 (by decide +kernel), tbi 1087 (by decide +kernel)⟩
theorem lc_RJ7_304 {mt : MT} (h : (mN mt).cls = RJ7) : Cond.methodLink (mN mt).cls 304 (mN mJ9_min_7cf53) ∈ lw_tb2 ∧ Cond.static (mN mJ9_min_7cf53) ∈ lw_tb2 := by rw [h]; exact ⟨tbi 1015 (by decide +kernel), tbi 536 (by decide +kernel)⟩
theorem lc_RJ7_339 {mt : MT} (h : (mN mt).cls = RJ7) : Cond.methodLink (mN mt).cls 339 (mN mJ7_copyOfRangeByte_39247) ∈ lw_tb2 ∧ Cond.static (mN mJ7_copyOfRangeByte_39247) ∈ lw_tb2 := by rw [h]; exact ⟨tbi 1115 (by decide +kernel), tbi 1116 (by decide +kernel)⟩
theorem lc_RJ7_343 {mt : MT} (h : (mN mt).cls = RJ7) : Cond.methodLink (mN mt).cls 343 (mN mJ7_checkLength_df160) ∈ lw_tb2 ∧ Cond.static (mN mJ7_checkLength_df160) ∈ lw_tb2 := by rw [h]; exact ⟨tbi 1118 (by decide +kernel), tbi 1119 (by decide +kernel)⟩
theorem lc_RJ8_194 {mt : MT} (h : (mN mt).cls = RJ8) : Cond.methodLink (mN mt).cls 194 (mN mJ9_max_7cf53) ∈ lw_tb2 ∧ Cond.static (mN mJ9_max_7cf53) ∈ lw_tb2 := by rw [h]; exact ⟨tbi 1001 (by decide +kernel), tbi 417 (by decide +kernel)⟩
theorem lc_RJ8_201 {mt : MT} (h : (mN mt).cls = RJ8) : Cond.methodLink (mN mt).cls 201 (mN mJ8_hugeLength_7cf53) ∈ lw_tb2 ∧ Cond.static (mN mJ8_hugeLength_7cf53) ∈ lw_tb2 := by rw [h]; exact ⟨tbi 1003 (by decide +kernel), tbi 1004 (by decide +kernel)⟩
theorem lj_RX6_123 {mt : MT} (h : (mN mt).cls = RX6) : Cond.constantLong (mN mt).cls 123 (-1) ∈ lw_tb2 := by rw [h]; exact tbi 440 (by decide +kernel)
theorem lj_RJ13_314 {mt : MT} (h : (mN mt).cls = RJ13) : Cond.constantLong (mN mt).cls 314 (6148914691236517205) ∈ lw_tb2 := by rw [h]; exact tbi 721 (by decide +kernel)
theorem lj_RJ13_316 {mt : MT} (h : (mN mt).cls = RJ13) : Cond.constantLong (mN mt).cls 316 (3689348814741910323) ∈ lw_tb2 := by rw [h]; exact tbi 722 (by decide +kernel)
theorem lj_RJ13_318 {mt : MT} (h : (mN mt).cls = RJ13) : Cond.constantLong (mN mt).cls 318 (1085102592571150095) ∈ lw_tb2 := by rw [h]; exact tbi 723 (by decide +kernel)
theorem lj_RX1_108 {mt : MT} (h : (mN mt).cls = RX1) : Cond.constantLong (mN mt).cls 108 (-1) ∈ lw_tb2 := by rw [h]; exact tbi 767 (by decide +kernel)
theorem lj_RX0_37 {mt : MT} (h : (mN mt).cls = RX0) : Cond.constantLong (mN mt).cls 37 (-1) ∈ lw_tb2 := by rw [h]; exact tbi 776 (by decide +kernel)
theorem lj_RX4_246 {mt : MT} (h : (mN mt).cls = RX4) : Cond.constantLong (mN mt).cls 246 (-1) ∈ lw_tb2 := by rw [h]; exact tbi 922 (by decide +kernel)
theorem lj_RX4_248 {mt : MT} (h : (mN mt).cls = RX4) : Cond.constantLong (mN mt).cls 248 (31) ∈ lw_tb2 := by rw [h]; exact tbi 1209 (by decide +kernel)
theorem lj_RX6_139 {mt : MT} (h : (mN mt).cls = RX6) : Cond.constantLong (mN mt).cls 139 (31) ∈ lw_tb2 := by rw [h]; exact tbi 1235 (by decide +kernel)
theorem lj_RX6_147 {mt : MT} (h : (mN mt).cls = RX6) : Cond.constantLong (mN mt).cls 147 (97) ∈ lw_tb2 := by rw [h]; exact tbi 1245 (by decide +kernel)
theorem li_RX5_13 {mt : MT} (h : (mN mt).cls = RX5) : Cond.constant (mN mt).cls 13 (1103515245) ∈ lw_tb2 := by rw [h]; exact tbi 261 (by decide +kernel)
theorem li_RJ6_265 {mt : MT} (h : (mN mt).cls = RJ6) : Cond.constant (mN mt).cls 265 (1431655765) ∈ lw_tb2 := by rw [h]; exact tbi 413 (by decide +kernel)
theorem li_RJ6_266 {mt : MT} (h : (mN mt).cls = RJ6) : Cond.constant (mN mt).cls 266 (858993459) ∈ lw_tb2 := by rw [h]; exact tbi 414 (by decide +kernel)
theorem li_RJ6_267 {mt : MT} (h : (mN mt).cls = RJ6) : Cond.constant (mN mt).cls 267 (252645135) ∈ lw_tb2 := by rw [h]; exact tbi 415 (by decide +kernel)
theorem li_RL_42 {mt : MT} (h : (mN mt).cls = RL) : Cond.constant (mN mt).cls 42 (-2000000098) ∈ lw_tb2 := by rw [h]; exact tbi 611 (by decide +kernel)
theorem li_RL_52 {mt : MT} (h : (mN mt).cls = RL) : Cond.constant (mN mt).cls 52 (-2000000097) ∈ lw_tb2 := by rw [h]; exact tbi 701 (by decide +kernel)
theorem li_RL_65 {mt : MT} (h : (mN mt).cls = RL) : Cond.constant (mN mt).cls 65 (-2000000100) ∈ lw_tb2 := by rw [h]; exact tbi 829 (by decide +kernel)
theorem li_RL_80 {mt : MT} (h : (mN mt).cls = RL) : Cond.constant (mN mt).cls 80 (-2000000099) ∈ lw_tb2 := by rw [h]; exact tbi 887 (by decide +kernel)
theorem li_RJ2_20 {mt : MT} (h : (mN mt).cls = RJ2) : Cond.constant (mN mt).cls 20 (1073741823) ∈ lw_tb2 := by rw [h]; exact tbi 965 (by decide +kernel)
theorem li_RJ8_200 {mt : MT} (h : (mN mt).cls = RJ8) : Cond.constant (mN mt).cls 200 (2147483639) ∈ lw_tb2 := by rw [h]; exact tbi 1002 (by decide +kernel)
theorem li_RJ5_39 {mt : MT} (h : (mN mt).cls = RJ5) : Cond.constant (mN mt).cls 39 (2147483647) ∈ lw_tb2 := by rw [h]; exact tbi 1006 (by decide +kernel)
