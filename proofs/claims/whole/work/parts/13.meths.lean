/-! the methods, and the words that their calls and fields want (by program) -/
theorem tbi {w : Cond} (i : Nat) (h : tables_1[i]? = some w) : w ∈ lw_tbl := List.mem_append_right _ (List.mem_of_getElem? h)
theorem tbj {w : Cond} (i : Nat) (h : tables_1[i]? = some w) : w ∈ tables_1 := List.mem_of_getElem? h
theorem sli {w : Cond} (i : Nat) (h : (lw_privs[i]?).map (fun q => Cond.selects q.1.cls q.1 q.1) = some w) : w ∈ lw_tbl := List.mem_append_left _ (List.mem_of_getElem? (i := i) (by rw [k2_sels, List.getElem?_map]; exact h))
def mX0_init : MT := (yX0_init, cX0_init, 1, none, [])
theorem ceX0_init : CE mX0_init 0 := ⟨⟨tbi 136 (by decide +kernel), tbi 5 (by decide +kernel)⟩, ⟨by decide +kernel, by decide +kernel, by decide +kernel⟩, by decide⟩
def mX0_clear : MT := (yX0_clear, cX0_clear, 1, none, [])
theorem ceX0_clear : CE mX0_clear 0 := ⟨⟨tbi 245 (by decide +kernel), tbi 5 (by decide +kernel)⟩, ⟨by decide +kernel, by decide +kernel, by decide +kernel⟩, by decide⟩
def mX0_give : MT := (yX0_give, cX0_give, 3, some .boolean, [])
theorem ceX0_give : CE mX0_give 1 := ⟨⟨tbi 299 (by decide +kernel), tbi 5 (by decide +kernel)⟩, ⟨by decide +kernel, by decide +kernel, by decide +kernel⟩, by decide⟩
def mX0_findCell : MT := (yX0_findCell, cX0_findCell, 6, some .boolean, [])
theorem ceX0_findCell : CE mX0_findCell 2 := ⟨⟨tbi 303 (by decide +kernel), tbi 5 (by decide +kernel)⟩, ⟨by decide +kernel, by decide +kernel, by decide +kernel⟩, by decide⟩
def mX0_canMove : MT := (yX0_canMove, cX0_canMove, 3, some .boolean, [])
theorem ceX0_canMove : CE mX0_canMove 2 := ⟨⟨tbi 308 (by decide +kernel), tbi 5 (by decide +kernel)⟩, ⟨by decide +kernel, by decide +kernel, by decide +kernel⟩, by decide⟩
def mX1_init : MT := (yX1_init, cX1_init, 1, none, [])
theorem ceX1_init : CE mX1_init 0 := ⟨⟨tbi 156 (by decide +kernel), tbi 6 (by decide +kernel)⟩, ⟨by decide +kernel, by decide +kernel, by decide +kernel⟩, by decide⟩
def mX1_spotOfCut : MT := (yX1_spotOfCut, cX1_spotOfCut, 2, some .int, [])
theorem ceX1_spotOfCut : CE mX1_spotOfCut 1 := ⟨⟨tbi 378 (by decide +kernel), tbi 6 (by decide +kernel)⟩, ⟨by decide +kernel, by decide +kernel, by decide +kernel⟩, by decide⟩
def mX1_lengthOfCut : MT := (yX1_lengthOfCut, cX1_lengthOfCut, 2, some .int, [])
theorem ceX1_lengthOfCut : CE mX1_lengthOfCut 1 := ⟨⟨tbi 413 (by decide +kernel), tbi 6 (by decide +kernel)⟩, ⟨by decide +kernel, by decide +kernel, by decide +kernel⟩, by decide⟩
def mX1_prepare : MT := (yX1_prepare, cX1_prepare, 4, none, [])
theorem ceX1_prepare : CE mX1_prepare 1 := ⟨⟨tbi 320 (by decide +kernel), tbi 6 (by decide +kernel)⟩, ⟨by decide +kernel, by decide +kernel, by decide +kernel⟩, by decide⟩
def mX1_boundSaved : MT := (yX1_boundSaved, cX1_boundSaved, 5, some .int, [])
theorem ceX1_boundSaved : CE mX1_boundSaved 1 := ⟨⟨tbi 339 (by decide +kernel), tbi 6 (by decide +kernel)⟩, ⟨by decide +kernel, by decide +kernel, by decide +kernel⟩, by decide⟩
def mX1_choose : MT := (yX1_choose, cX1_choose, 7, some .int, [])
theorem ceX1_choose : CE mX1_choose 1 := ⟨⟨tbi 343 (by decide +kernel), tbi 6 (by decide +kernel)⟩, ⟨by decide +kernel, by decide +kernel, by decide +kernel⟩, by decide⟩
def mX1_chooseCut : MT := (yX1_chooseCut, cX1_chooseCut, 9, some .int, [])
theorem ceX1_chooseCut : CE mX1_chooseCut 3 := ⟨⟨tbi 366 (by decide +kernel), tbi 6 (by decide +kernel)⟩, ⟨by decide +kernel, by decide +kernel, by decide +kernel⟩, by decide⟩
def mX1_freeStrip : MT := (yX1_freeStrip, cX1_freeStrip, 9, some .long, [])
theorem ceX1_freeStrip : CE mX1_freeStrip 4 := ⟨⟨tbi 362 (by decide +kernel), tbi 6 (by decide +kernel)⟩, ⟨by decide +kernel, by decide +kernel, by decide +kernel⟩, by decide⟩
def mX1_canSave : MT := (yX1_canSave, cX1_canSave, 8, some .boolean, [])
theorem ceX1_canSave : CE mX1_canSave 4 := ⟨⟨tbi 354 (by decide +kernel), tbi 6 (by decide +kernel)⟩, ⟨by decide +kernel, by decide +kernel, by decide +kernel⟩, by decide⟩
def mX1_canSaveAt : MT := (yX1_canSaveAt, cX1_canSaveAt, 10, some .boolean, [])
theorem ceX1_canSaveAt : CE mX1_canSaveAt 4 := ⟨⟨tbi 358 (by decide +kernel), tbi 6 (by decide +kernel)⟩, ⟨by decide +kernel, by decide +kernel, by decide +kernel⟩, by decide⟩
def mX1_canSpell : MT := (yX1_canSpell, cX1_canSpell, 7, some .boolean, [])
theorem ceX1_canSpell : CE mX1_canSpell 3 := ⟨⟨tbi 347 (by decide +kernel), tbi 6 (by decide +kernel)⟩, ⟨by decide +kernel, by decide +kernel, by decide +kernel⟩, by decide⟩
def mX2_init : MT := (yX2_init, cX2_init, 1, none, [])
theorem ceX2_init : CE mX2_init 0 := ⟨⟨tbi 95 (by decide +kernel), tbi 4 (by decide +kernel)⟩, ⟨by decide +kernel, by decide +kernel, by decide +kernel⟩, by decide⟩
def mX2_read : MT := (yX2_read, cX2_read, 4, some .int, [])
theorem ceX2_read : CE mX2_read 2 := ⟨⟨tbi 536 (by decide +kernel), tbi 4 (by decide +kernel)⟩, ⟨by decide +kernel, by decide +kernel, by decide +kernel⟩, by decide⟩
def mX2_readPage : MT := (yX2_readPage, cX2_readPage, 4, none, [])
theorem ceX2_readPage : CE mX2_readPage 0 := ⟨⟨tbi 543 (by decide +kernel), tbi 4 (by decide +kernel)⟩, ⟨by decide +kernel, by decide +kernel, by decide +kernel⟩, by decide⟩
def mX2_readStatement : MT := (yX2_readStatement, cX2_readStatement, 2, none, [])
theorem ceX2_readStatement : CE mX2_readStatement 0 := ⟨⟨tbi 628 (by decide +kernel), tbi 4 (by decide +kernel)⟩, ⟨by decide +kernel, by decide +kernel, by decide +kernel⟩, by decide⟩
def mX2_readLines : MT := (yX2_readLines, cX2_readLines, 3, none, [])
theorem ceX2_readLines : CE mX2_readLines 1 := ⟨⟨tbi 633 (by decide +kernel), tbi 4 (by decide +kernel)⟩, ⟨by decide +kernel, by decide +kernel, by decide +kernel⟩, by decide⟩
def mX2_readLine : MT := (yX2_readLine, cX2_readLine, 4, none, [])
theorem ceX2_readLine : CE mX2_readLine 1 := ⟨⟨tbi 637 (by decide +kernel), tbi 4 (by decide +kernel)⟩, ⟨by decide +kernel, by decide +kernel, by decide +kernel⟩, by decide⟩
def mX2_readSizes : MT := (yX2_readSizes, cX2_readSizes, 3, none, [])
theorem ceX2_readSizes : CE mX2_readSizes 0 := ⟨⟨tbi 643 (by decide +kernel), tbi 4 (by decide +kernel)⟩, ⟨by decide +kernel, by decide +kernel, by decide +kernel⟩, by decide⟩
def mX2_readNumber : MT := (yX2_readNumber, cX2_readNumber, 4, some .int, [])
theorem ceX2_readNumber : CE mX2_readNumber 1 := ⟨⟨tbi 615 (by decide +kernel), tbi 4 (by decide +kernel)⟩, ⟨by decide +kernel, by decide +kernel, by decide +kernel⟩, by decide⟩
def mX2_readSemicolon : MT := (yX2_readSemicolon, cX2_readSemicolon, 1, none, [])
theorem ceX2_readSemicolon : CE mX2_readSemicolon 0 := ⟨⟨tbi 619 (by decide +kernel), tbi 4 (by decide +kernel)⟩, ⟨by decide +kernel, by decide +kernel, by decide +kernel⟩, by decide⟩
def mX2_skipSpaces : MT := (yX2_skipSpaces, cX2_skipSpaces, 1, none, [])
theorem ceX2_skipSpaces : CE mX2_skipSpaces 0 := ⟨⟨tbi 547 (by decide +kernel), tbi 4 (by decide +kernel)⟩, ⟨by decide +kernel, by decide +kernel, by decide +kernel⟩, by decide⟩
def mX2_hasMore : MT := (yX2_hasMore, cX2_hasMore, 1, some .boolean, [])
theorem ceX2_hasMore : CE mX2_hasMore 0 := ⟨⟨tbi 624 (by decide +kernel), tbi 4 (by decide +kernel)⟩, ⟨by decide +kernel, by decide +kernel, by decide +kernel⟩, by decide⟩
def mX2_skipWord : MT := (yX2_skipWord, cX2_skipWord, 1, none, [])
theorem ceX2_skipWord : CE mX2_skipWord 0 := ⟨⟨tbi 551 (by decide +kernel), tbi 4 (by decide +kernel)⟩, ⟨by decide +kernel, by decide +kernel, by decide +kernel⟩, by decide⟩
def mX2_isWord : MT := (yX2_isWord, cX2_isWord, 4, some .boolean, [])
theorem ceX2_isWord : CE mX2_isWord 2 := ⟨⟨tbi 559 (by decide +kernel), tbi 4 (by decide +kernel)⟩, ⟨by decide +kernel, by decide +kernel, by decide +kernel⟩, by decide⟩
def mX2_fail : MT := (yX2_fail, cX2_fail, 3, none, [])
theorem ceX2_fail : CE mX2_fail 2 := ⟨⟨tbi 611 (by decide +kernel), tbi 4 (by decide +kernel)⟩, ⟨by decide +kernel, by decide +kernel, by decide +kernel⟩, by decide⟩
def mX3_init : MT := (yX3_init, cX3_init, 1, none, [])
theorem ceX3_init : CE mX3_init 0 := ⟨⟨tbi 34 (by decide +kernel), tbi 2 (by decide +kernel)⟩, ⟨by decide +kernel, by decide +kernel, by decide +kernel⟩, by decide⟩
def mX3_startAnew : MT := (yX3_startAnew, cX3_startAnew, 3, none, [])
theorem ceX3_startAnew : CE mX3_startAnew 2 := ⟨⟨tbi 39 (by decide +kernel), tbi 2 (by decide +kernel)⟩, ⟨by decide +kernel, by decide +kernel, by decide +kernel⟩, by decide⟩
def mX3_copyFrom : MT := (yX3_copyFrom, cX3_copyFrom, 2, none, [])
theorem ceX3_copyFrom : CE mX3_copyFrom 1 := ⟨⟨tbi 421 (by decide +kernel), tbi 2 (by decide +kernel)⟩, ⟨by decide +kernel, by decide +kernel, by decide +kernel⟩, by decide⟩
def mX3_countCells : MT := (yX3_countCells, cX3_countCells, 1, some .int, [])
theorem ceX3_countCells : CE mX3_countCells 0 := ⟨⟨tbi 441 (by decide +kernel), tbi 2 (by decide +kernel)⟩, ⟨by decide +kernel, by decide +kernel, by decide +kernel⟩, by decide⟩
def mX3_hasPlace : MT := (yX3_hasPlace, cX3_hasPlace, 3, some .boolean, [])
theorem ceX3_hasPlace : CE mX3_hasPlace 2 := ⟨⟨tbi 669 (by decide +kernel), tbi 2 (by decide +kernel)⟩, ⟨by decide +kernel, by decide +kernel, by decide +kernel⟩, by decide⟩
def mX3_hasSpot : MT := (yX3_hasSpot, cX3_hasSpot, 2, some .boolean, [])
theorem ceX3_hasSpot : CE mX3_hasSpot 1 := ⟨⟨tbi 266 (by decide +kernel), tbi 2 (by decide +kernel)⟩, ⟨by decide +kernel, by decide +kernel, by decide +kernel⟩, by decide⟩
def mX3_spotOf : MT := (yX3_spotOf, cX3_spotOf, 4, some .int, [])
theorem ceX3_spotOf : CE mX3_spotOf 2 := ⟨⟨tbi 688 (by decide +kernel), tbi 2 (by decide +kernel)⟩, ⟨by decide +kernel, by decide +kernel, by decide +kernel⟩, by decide⟩
def mX3_placeOf : MT := (yX3_placeOf, cX3_placeOf, 2, some .int, [])
theorem ceX3_placeOf : CE mX3_placeOf 1 := ⟨⟨tbi 699 (by decide +kernel), tbi 2 (by decide +kernel)⟩, ⟨by decide +kernel, by decide +kernel, by decide +kernel⟩, by decide⟩
def mX3_spotBehind : MT := (yX3_spotBehind, cX3_spotBehind, 3, some .int, [])
theorem ceX3_spotBehind : CE mX3_spotBehind 1 := ⟨⟨tbi 287 (by decide +kernel), tbi 2 (by decide +kernel)⟩, ⟨by decide +kernel, by decide +kernel, by decide +kernel⟩, by decide⟩
def mX3_cellOf : MT := (yX3_cellOf, cX3_cellOf, 2, some .int, [])
theorem ceX3_cellOf : CE mX3_cellOf 1 := ⟨⟨tbi 280 (by decide +kernel), tbi 2 (by decide +kernel)⟩, ⟨by decide +kernel, by decide +kernel, by decide +kernel⟩, by decide⟩
def mX3_letterAt : MT := (yX3_letterAt, cX3_letterAt, 2, some .int, [])
theorem ceX3_letterAt : CE mX3_letterAt 1 := ⟨⟨tbi 262 (by decide +kernel), tbi 2 (by decide +kernel)⟩, ⟨by decide +kernel, by decide +kernel, by decide +kernel⟩, by decide⟩
def mX3_sizeAt : MT := (yX3_sizeAt, cX3_sizeAt, 2, some .int, [])
theorem ceX3_sizeAt : CE mX3_sizeAt 1 := ⟨⟨tbi 295 (by decide +kernel), tbi 2 (by decide +kernel)⟩, ⟨by decide +kernel, by decide +kernel, by decide +kernel⟩, by decide⟩
def mX3_isThere : MT := (yX3_isThere, cX3_isThere, 2, some .boolean, [])
theorem ceX3_isThere : CE mX3_isThere 1 := ⟨⟨tbi 291 (by decide +kernel), tbi 2 (by decide +kernel)⟩, ⟨by decide +kernel, by decide +kernel, by decide +kernel⟩, by decide⟩
def mX3_canUse : MT := (yX3_canUse, cX3_canUse, 2, some .boolean, [])
theorem ceX3_canUse : CE mX3_canUse 1 := ⟨⟨tbi 276 (by decide +kernel), tbi 2 (by decide +kernel)⟩, ⟨by decide +kernel, by decide +kernel, by decide +kernel⟩, by decide⟩
def mX3_countThere : MT := (yX3_countThere, cX3_countThere, 1, some .int, [])
theorem ceX3_countThere : CE mX3_countThere 0 := ⟨⟨tbi 437 (by decide +kernel), tbi 2 (by decide +kernel)⟩, ⟨by decide +kernel, by decide +kernel, by decide +kernel⟩, by decide⟩
def mX3_countUsable : MT := (yX3_countUsable, cX3_countUsable, 3, some .int, [])
theorem ceX3_countUsable : CE mX3_countUsable 0 := ⟨⟨tbi 451 (by decide +kernel), tbi 2 (by decide +kernel)⟩, ⟨by decide +kernel, by decide +kernel, by decide +kernel⟩, by decide⟩
def mX3_countUsableOf : MT := (yX3_countUsableOf, cX3_countUsableOf, 4, some .int, [])
theorem ceX3_countUsableOf : CE mX3_countUsableOf 1 := ⟨⟨tbi 710 (by decide +kernel), tbi 2 (by decide +kernel)⟩, ⟨by decide +kernel, by decide +kernel, by decide +kernel⟩, by decide⟩
def mX3_cellsWith : MT := (yX3_cellsWith, cX3_cellsWith, 5, some .long, [])
theorem ceX3_cellsWith : CE mX3_cellsWith 1 := ⟨⟨tbi 258 (by decide +kernel), tbi 2 (by decide +kernel)⟩, ⟨by decide +kernel, by decide +kernel, by decide +kernel⟩, by decide⟩
def mX3_hasMessageLetter : MT := (yX3_hasMessageLetter, cX3_hasMessageLetter, 2, some .boolean, [])
theorem ceX3_hasMessageLetter : CE mX3_hasMessageLetter 1 := ⟨⟨tbi 254 (by decide +kernel), tbi 2 (by decide +kernel)⟩, ⟨by decide +kernel, by decide +kernel, by decide +kernel⟩, by decide⟩
def mX3_messageAt : MT := (yX3_messageAt, cX3_messageAt, 2, some .int, [])
theorem ceX3_messageAt : CE mX3_messageAt 1 := ⟨⟨tbi 250 (by decide +kernel), tbi 2 (by decide +kernel)⟩, ⟨by decide +kernel, by decide +kernel, by decide +kernel⟩, by decide⟩
def mX3_countInMessage : MT := (yX3_countInMessage, cX3_countInMessage, 4, some .int, [])
theorem ceX3_countInMessage : CE mX3_countInMessage 1 := ⟨⟨tbi 400 (by decide +kernel), tbi 2 (by decide +kernel)⟩, ⟨by decide +kernel, by decide +kernel, by decide +kernel⟩, by decide⟩
def mX3_isStrip : MT := (yX3_isStrip, cX3_isStrip, 4, some .boolean, [])
theorem ceX3_isStrip : CE mX3_isStrip 2 := ⟨⟨tbi 802 (by decide +kernel), tbi 2 (by decide +kernel)⟩, ⟨by decide +kernel, by decide +kernel, by decide +kernel⟩, by decide⟩
def mX3_cellsOfStrip : MT := (yX3_cellsOfStrip, cX3_cellsOfStrip, 6, some .long, [])
theorem ceX3_cellsOfStrip : CE mX3_cellsOfStrip 2 := ⟨⟨tbi 806 (by decide +kernel), tbi 2 (by decide +kernel)⟩, ⟨by decide +kernel, by decide +kernel, by decide +kernel⟩, by decide⟩
def mX3_lettersFrom : MT := (yX3_lettersFrom, cX3_lettersFrom, 5, some .int, [])
theorem ceX3_lettersFrom : CE mX3_lettersFrom 2 := ⟨⟨tbi 334 (by decide +kernel), tbi 2 (by decide +kernel)⟩, ⟨by decide +kernel, by decide +kernel, by decide +kernel⟩, by decide⟩
def mX3_take : MT := (yX3_take, cX3_take, 4, none, [])
theorem ceX3_take : CE mX3_take 2 := ⟨⟨tbi 791 (by decide +kernel), tbi 2 (by decide +kernel)⟩, ⟨by decide +kernel, by decide +kernel, by decide +kernel⟩, by decide⟩
def mX4_init : MT := (yX4_init, cX4_init, 2, none, [])
theorem ceX4_init : CE mX4_init 0 := ⟨⟨tbi 26 (by decide +kernel), tbi 1 (by decide +kernel)⟩, ⟨by decide +kernel, by decide +kernel, by decide +kernel⟩, by decide⟩
def mX4_append : MT := (yX4_append, cX4_append, 6, some .int, [])
theorem ceX4_append : CE mX4_append 5 := ⟨⟨tbi 229 (by decide +kernel), tbi 1 (by decide +kernel)⟩, ⟨by decide +kernel, by decide +kernel, by decide +kernel⟩, by decide⟩
def mX4_load : MT := (yX4_load, cX4_load, 3, some .int, [])
theorem ceX4_load : CE mX4_load 1 := ⟨⟨tbi 532 (by decide +kernel), tbi 1 (by decide +kernel)⟩, ⟨by decide +kernel, by decide +kernel, by decide +kernel⟩, by decide⟩
def mX4_errorOffset : MT := (yX4_errorOffset, cX4_errorOffset, 1, some .int, [])
theorem ceX4_errorOffset : CE mX4_errorOffset 0 := ⟨⟨tbi 237 (by decide +kernel), tbi 1 (by decide +kernel)⟩, ⟨by decide +kernel, by decide +kernel, by decide +kernel⟩, by decide⟩
def mX4_state : MT := (yX4_state, cX4_state, 2, some .int, [])
theorem ceX4_state : CE mX4_state 1 := ⟨⟨tbi 433 (by decide +kernel), tbi 1 (by decide +kernel)⟩, ⟨by decide +kernel, by decide +kernel, by decide +kernel⟩, by decide⟩
def mX4_letter : MT := (yX4_letter, cX4_letter, 3, some .int, [])
theorem ceX4_letter : CE mX4_letter 2 := ⟨⟨tbi 665 (by decide +kernel), tbi 1 (by decide +kernel)⟩, ⟨by decide +kernel, by decide +kernel, by decide +kernel⟩, by decide⟩
def mX4_place : MT := (yX4_place, cX4_place, 5, some .int, [])
theorem ceX4_place : CE mX4_place 3 := ⟨⟨tbi 695 (by decide +kernel), tbi 1 (by decide +kernel)⟩, ⟨by decide +kernel, by decide +kernel, by decide +kernel⟩, by decide⟩
def mX4_stock : MT := (yX4_stock, cX4_stock, 3, some .int, [])
theorem ceX4_stock : CE mX4_stock 2 := ⟨⟨tbi 706 (by decide +kernel), tbi 1 (by decide +kernel)⟩, ⟨by decide +kernel, by decide +kernel, by decide +kernel⟩, by decide⟩
def mX4_message : MT := (yX4_message, cX4_message, 2, some .int, [])
theorem ceX4_message : CE mX4_message 1 := ⟨⟨tbi 719 (by decide +kernel), tbi 1 (by decide +kernel)⟩, ⟨by decide +kernel, by decide +kernel, by decide +kernel⟩, by decide⟩
def mX4_missing : MT := (yX4_missing, cX4_missing, 3, some .int, [])
theorem ceX4_missing : CE mX4_missing 0 := ⟨⟨tbi 241 (by decide +kernel), tbi 1 (by decide +kernel)⟩, ⟨by decide +kernel, by decide +kernel, by decide +kernel⟩, by decide⟩
def mX4_fewest : MT := (yX4_fewest, cX4_fewest, 1, some .int, [])
theorem ceX4_fewest : CE mX4_fewest 0 := ⟨⟨tbi 312 (by decide +kernel), tbi 1 (by decide +kernel)⟩, ⟨by decide +kernel, by decide +kernel, by decide +kernel⟩, by decide⟩
def mX4_cutOf : MT := (yX4_cutOf, cX4_cutOf, 3, some .int, [])
theorem ceX4_cutOf : CE mX4_cutOf 2 := ⟨⟨tbi 742 (by decide +kernel), tbi 1 (by decide +kernel)⟩, ⟨by decide +kernel, by decide +kernel, by decide +kernel⟩, by decide⟩
def mX4_unevenness : MT := (yX4_unevenness, cX4_unevenness, 4, some .int, [])
theorem ceX4_unevenness : CE mX4_unevenness 0 := ⟨⟨tbi 370 (by decide +kernel), tbi 1 (by decide +kernel)⟩, ⟨by decide +kernel, by decide +kernel, by decide +kernel⟩, by decide⟩
def mX4_copies : MT := (yX4_copies, cX4_copies, 4, some .int, [])
theorem ceX4_copies : CE mX4_copies 0 := ⟨⟨tbi 386 (by decide +kernel), tbi 1 (by decide +kernel)⟩, ⟨by decide +kernel, by decide +kernel, by decide +kernel⟩, by decide⟩
def mX4_longest : MT := (yX4_longest, cX4_longest, 4, some .int, [])
theorem ceX4_longest : CE mX4_longest 1 := ⟨⟨tbi 750 (by decide +kernel), tbi 1 (by decide +kernel)⟩, ⟨by decide +kernel, by decide +kernel, by decide +kernel⟩, by decide⟩
def mX4_clashes : MT := (yX4_clashes, cX4_clashes, 3, some .int, [])
theorem ceX4_clashes : CE mX4_clashes 0 := ⟨⟨tbi 390 (by decide +kernel), tbi 1 (by decide +kernel)⟩, ⟨by decide +kernel, by decide +kernel, by decide +kernel⟩, by decide⟩
def mX4_meanSize : MT := (yX4_meanSize, cX4_meanSize, 4, some .double, [])
theorem ceX4_meanSize : CE mX4_meanSize 0 := ⟨⟨tbi 405 (by decide +kernel), tbi 1 (by decide +kernel)⟩, ⟨by decide +kernel, by decide +kernel, by decide +kernel⟩, by decide⟩
def mX4_tell : MT := (yX4_tell, cX4_tell, 3, some .int, [])
theorem ceX4_tell : CE mX4_tell 1 := ⟨⟨tbi 759 (by decide +kernel), tbi 1 (by decide +kernel)⟩, ⟨by decide +kernel, by decide +kernel, by decide +kernel⟩, by decide⟩
def mX4_cut : MT := (yX4_cut, cX4_cut, 2, some .int, [])
theorem ceX4_cut : CE mX4_cut 0 := ⟨⟨tbi 772 (by decide +kernel), tbi 1 (by decide +kernel)⟩, ⟨by decide +kernel, by decide +kernel, by decide +kernel⟩, by decide⟩
def mX4_snip : MT := (yX4_snip, cX4_snip, 5, some .int, [])
theorem ceX4_snip : CE mX4_snip 3 := ⟨⟨tbi 798 (by decide +kernel), tbi 1 (by decide +kernel)⟩, ⟨by decide +kernel, by decide +kernel, by decide +kernel⟩, by decide⟩
def mX4_least : MT := (yX4_least, cX4_least, 3, some .int, [])
theorem ceX4_least : CE mX4_least 1 := ⟨⟨tbi 813 (by decide +kernel), tbi 1 (by decide +kernel)⟩, ⟨by decide +kernel, by decide +kernel, by decide +kernel⟩, by decide⟩
def mX4_mend : MT := (yX4_mend, cX4_mend, 3, some .int, [])
theorem ceX4_mend : CE mX4_mend 1 := ⟨⟨tbi 820 (by decide +kernel), tbi 1 (by decide +kernel)⟩, ⟨by decide +kernel, by decide +kernel, by decide +kernel⟩, by decide⟩
def mX4_undo : MT := (yX4_undo, cX4_undo, 2, some .int, [])
theorem ceX4_undo : CE mX4_undo 0 := ⟨⟨tbi 417 (by decide +kernel), tbi 1 (by decide +kernel)⟩, ⟨by decide +kernel, by decide +kernel, by decide +kernel⟩, by decide⟩
def mX4_checksum : MT := (yX4_checksum, cX4_checksum, 4, some .long, [])
theorem ceX4_checksum : CE mX4_checksum 0 := ⟨⟨tbi 428 (by decide +kernel), tbi 1 (by decide +kernel)⟩, ⟨by decide +kernel, by decide +kernel, by decide +kernel⟩, by decide⟩
def mX4_putWord : MT := (yX4_putWord, cX4_putWord, 3, none, [])
theorem ceX4_putWord : CE mX4_putWord 1 := ⟨⟨tbi 233 (by decide +kernel), tbi 1 (by decide +kernel)⟩, ⟨by decide +kernel, by decide +kernel, by decide +kernel⟩, by decide⟩
def mX4_startsWithLetters : MT := (yX4_startsWithLetters, cX4_startsWithLetters, 3, some .boolean, [])
theorem ceX4_startsWithLetters : CE mX4_startsWithLetters 1 := ⟨⟨tbi 763 (by decide +kernel), tbi 1 (by decide +kernel)⟩, ⟨by decide +kernel, by decide +kernel, by decide +kernel⟩, by decide⟩
def mX4_remember : MT := (yX4_remember, cX4_remember, 2, none, [])
theorem ceX4_remember : CE mX4_remember 0 := ⟨⟨tbi 648 (by decide +kernel), tbi 1 (by decide +kernel)⟩, ⟨by decide +kernel, by decide +kernel, by decide +kernel⟩, by decide⟩
def mX4_makeOldestFinal : MT := (yX4_makeOldestFinal, cX4_makeOldestFinal, 3, none, [])
theorem ceX4_makeOldestFinal : CE mX4_makeOldestFinal 0 := ⟨⟨tbi 652 (by decide +kernel), tbi 1 (by decide +kernel)⟩, ⟨by decide +kernel, by decide +kernel, by decide +kernel⟩, by decide⟩
def mX4_letterOrGone : MT := (yX4_letterOrGone, cX4_letterOrGone, 2, some .int, [])
theorem ceX4_letterOrGone : CE mX4_letterOrGone 1 := ⟨⟨tbi 520 (by decide +kernel), tbi 1 (by decide +kernel)⟩, ⟨by decide +kernel, by decide +kernel, by decide +kernel⟩, by decide⟩
def mX4_isUsedByMessage : MT := (yX4_isUsedByMessage, cX4_isUsedByMessage, 2, some .boolean, [])
theorem ceX4_isUsedByMessage : CE mX4_isUsedByMessage 1 := ⟨⟨tbi 394 (by decide +kernel), tbi 1 (by decide +kernel)⟩, ⟨by decide +kernel, by decide +kernel, by decide +kernel⟩, by decide⟩
def mX4_bestCuts : MT := (yX4_bestCuts, cX4_bestCuts, 1, some .int, [])
theorem ceX4_bestCuts : CE mX4_bestCuts 0 := ⟨⟨tbi 316 (by decide +kernel), tbi 1 (by decide +kernel)⟩, ⟨by decide +kernel, by decide +kernel, by decide +kernel⟩, by decide⟩
def mX4_sizeOfCut : MT := (yX4_sizeOfCut, cX4_sizeOfCut, 2, some .int, [])
theorem ceX4_sizeOfCut : CE mX4_sizeOfCut 1 := ⟨⟨tbi 374 (by decide +kernel), tbi 1 (by decide +kernel)⟩, ⟨by decide +kernel, by decide +kernel, by decide +kernel⟩, by decide⟩
def mX4_sizesOfCut : MT := (yX4_sizesOfCut, cX4_sizesOfCut, 2, some .int, [])
theorem ceX4_sizesOfCut : CE mX4_sizesOfCut 1 := ⟨⟨tbi 409 (by decide +kernel), tbi 1 (by decide +kernel)⟩, ⟨by decide +kernel, by decide +kernel, by decide +kernel⟩, by decide⟩
def mX4_isLetter : MT := (yX4_isLetter, cX4_isLetter, 1, some .boolean, [])
theorem ceX4_isLetter : CE mX4_isLetter 1 := ⟨⟨tbi 554 (by decide +kernel), tbi 1 (by decide +kernel)⟩, ⟨by decide +kernel, by decide +kernel, by decide +kernel⟩, by decide⟩
def mX4_sideOf : MT := (yX4_sideOf, cX4_sideOf, 1, some .int, [])
theorem ceX4_sideOf : CE mX4_sideOf 1 := ⟨⟨tbi 283 (by decide +kernel), tbi 1 (by decide +kernel)⟩, ⟨by decide +kernel, by decide +kernel, by decide +kernel⟩, by decide⟩
def mX4_rowOf : MT := (yX4_rowOf, cX4_rowOf, 1, some .int, [])
theorem ceX4_rowOf : CE mX4_rowOf 1 := ⟨⟨tbi 269 (by decide +kernel), tbi 1 (by decide +kernel)⟩, ⟨by decide +kernel, by decide +kernel, by decide +kernel⟩, by decide⟩
def mX4_columnOf : MT := (yX4_columnOf, cX4_columnOf, 1, some .int, [])
theorem ceX4_columnOf : CE mX4_columnOf 1 := ⟨⟨tbi 272 (by decide +kernel), tbi 1 (by decide +kernel)⟩, ⟨by decide +kernel, by decide +kernel, by decide +kernel⟩, by decide⟩
def mX5_init : MT := (yX5_init, cX5_init, 1, none, [])
theorem ceX5_init : CE mX5_init 0 := ⟨⟨tbi 826 (by decide +kernel), tbi 7 (by decide +kernel)⟩, ⟨by decide +kernel, by decide +kernel, by decide +kernel⟩, by decide⟩
def mX5_thrown : MT := (yX5_thrown, cX5_thrown, 1, some .int, [])
theorem ceX5_thrown : CE mX5_thrown 0 := ⟨⟨tbi 918 (by decide +kernel), tbi 7 (by decide +kernel)⟩, ⟨by decide +kernel, by decide +kernel, by decide +kernel⟩, by decide⟩
def mX5_fails : MT := (yX5_fails, cX5_fails, 3, some .boolean, [])
theorem ceX5_fails : CE mX5_fails 2 := ⟨⟨tbi 933 (by decide +kernel), tbi 7 (by decide +kernel)⟩, ⟨by decide +kernel, by decide +kernel, by decide +kernel⟩, by decide⟩
def mX5_in : MT := (yX5_in, cX5_in, 3, some .boolean, [])
theorem ceX5_in : CE mX5_in 3 := ⟨⟨tbi 929 (by decide +kernel), tbi 7 (by decide +kernel)⟩, ⟨by decide +kernel, by decide +kernel, by decide +kernel⟩, by decide⟩
def mX5_min : MT := (yX5_min, cX5_min, 2, some .int, [])
theorem ceX5_min : CE mX5_min 2 := ⟨⟨tbi 967 (by decide +kernel), tbi 7 (by decide +kernel)⟩, ⟨by decide +kernel, by decide +kernel, by decide +kernel⟩, by decide⟩
def mX5_copy : MT := (yX5_copy, cX5_copy, 3, none, [])
theorem ceX5_copy : CE mX5_copy 2 := ⟨⟨tbi 1001 (by decide +kernel), tbi 7 (by decide +kernel)⟩, ⟨by decide +kernel, by decide +kernel, by decide +kernel⟩, by decide⟩
def mX5_laySheet : MT := (yX5_laySheet, cX5_laySheet, 4, none, [])
theorem ceX5_laySheet : CE mX5_laySheet 3 := ⟨⟨tbi 831 (by decide +kernel), tbi 7 (by decide +kernel)⟩, ⟨by decide +kernel, by decide +kernel, by decide +kernel⟩, by decide⟩
def mX5_append : MT := (yX5_append, cX5_append, 8, some .int, [])
theorem ceX5_append : CE mX5_append 5 := ⟨⟨tbi 922 (by decide +kernel), tbi 7 (by decide +kernel)⟩, ⟨by decide +kernel, by decide +kernel, by decide +kernel⟩, by decide⟩
def mX5_byteAt : MT := (yX5_byteAt, cX5_byteAt, 2, some .int, [])
theorem ceX5_byteAt : CE mX5_byteAt 1 := ⟨⟨tbi 950 (by decide +kernel), tbi 7 (by decide +kernel)⟩, ⟨by decide +kernel, by decide +kernel, by decide +kernel⟩, by decide⟩
def mX5_ahead : MT := (yX5_ahead, cX5_ahead, 1, some .int, [])
theorem ceX5_ahead : CE mX5_ahead 0 := ⟨⟨tbi 946 (by decide +kernel), tbi 7 (by decide +kernel)⟩, ⟨by decide +kernel, by decide +kernel, by decide +kernel⟩, by decide⟩
def mX5_isGood : MT := (yX5_isGood, cX5_isGood, 1, some .boolean, [])
theorem ceX5_isGood : CE mX5_isGood 0 := ⟨⟨tbi 942 (by decide +kernel), tbi 7 (by decide +kernel)⟩, ⟨by decide +kernel, by decide +kernel, by decide +kernel⟩, by decide⟩
def mX5_report : MT := (yX5_report, cX5_report, 3, none, [])
theorem ceX5_report : CE mX5_report 2 := ⟨⟨tbi 956 (by decide +kernel), tbi 7 (by decide +kernel)⟩, ⟨by decide +kernel, by decide +kernel, by decide +kernel⟩, by decide⟩
def mX5_isDigit : MT := (yX5_isDigit, cX5_isDigit, 1, some .boolean, [])
theorem ceX5_isDigit : CE mX5_isDigit 1 := ⟨⟨tbi 963 (by decide +kernel), tbi 7 (by decide +kernel)⟩, ⟨by decide +kernel, by decide +kernel, by decide +kernel⟩, by decide⟩
def mX5_takeWord : MT := (yX5_takeWord, cX5_takeWord, 3, some .boolean, [])
theorem ceX5_takeWord : CE mX5_takeWord 1 := ⟨⟨tbi 938 (by decide +kernel), tbi 7 (by decide +kernel)⟩, ⟨by decide +kernel, by decide +kernel, by decide +kernel⟩, by decide⟩
def mX5_expect : MT := (yX5_expect, cX5_expect, 2, none, [])
theorem ceX5_expect : CE mX5_expect 1 := ⟨⟨tbi 971 (by decide +kernel), tbi 7 (by decide +kernel)⟩, ⟨by decide +kernel, by decide +kernel, by decide +kernel⟩, by decide⟩
def mX5_number : MT := (yX5_number, cX5_number, 4, some .int, [])
theorem ceX5_number : CE mX5_number 2 := ⟨⟨tbi 960 (by decide +kernel), tbi 7 (by decide +kernel)⟩, ⟨by decide +kernel, by decide +kernel, by decide +kernel⟩, by decide⟩
def mX5_once : MT := (yX5_once, cX5_once, 3, none, [])
theorem ceX5_once : CE mX5_once 2 := ⟨⟨tbi 984 (by decide +kernel), tbi 7 (by decide +kernel)⟩, ⟨by decide +kernel, by decide +kernel, by decide +kernel⟩, by decide⟩
def mX5_isLine : MT := (yX5_isLine, cX5_isLine, 1, some .boolean, [])
theorem ceX5_isLine : CE mX5_isLine 1 := ⟨⟨tbi 991 (by decide +kernel), tbi 7 (by decide +kernel)⟩, ⟨by decide +kernel, by decide +kernel, by decide +kernel⟩, by decide⟩
def mX5_readLine : MT := (yX5_readLine, cX5_readLine, 6, none, [])
theorem ceX5_readLine : CE mX5_readLine 2 := ⟨⟨tbi 988 (by decide +kernel), tbi 7 (by decide +kernel)⟩, ⟨by decide +kernel, by decide +kernel, by decide +kernel⟩, by decide⟩
def mX5_readSide : MT := (yX5_readSide, cX5_readSide, 4, none, [])
theorem ceX5_readSide : CE mX5_readSide 2 := ⟨⟨tbi 980 (by decide +kernel), tbi 7 (by decide +kernel)⟩, ⟨by decide +kernel, by decide +kernel, by decide +kernel⟩, by decide⟩
def mX5_statement : MT := (yX5_statement, cX5_statement, 4, none, [])
theorem ceX5_statement : CE mX5_statement 0 := ⟨⟨tbi 975 (by decide +kernel), tbi 7 (by decide +kernel)⟩, ⟨by decide +kernel, by decide +kernel, by decide +kernel⟩, by decide⟩
def mX5_load : MT := (yX5_load, cX5_load, 4, some .int, [])
theorem ceX5_load : CE mX5_load 1 := ⟨⟨tbi 926 (by decide +kernel), tbi 7 (by decide +kernel)⟩, ⟨by decide +kernel, by decide +kernel, by decide +kernel⟩, by decide⟩
def mX5_errorOffset : MT := (yX5_errorOffset, cX5_errorOffset, 1, some .int, [])
theorem ceX5_errorOffset : CE mX5_errorOffset 0 := ⟨⟨tbi 1009 (by decide +kernel), tbi 7 (by decide +kernel)⟩, ⟨by decide +kernel, by decide +kernel, by decide +kernel⟩, by decide⟩
def mX5_cells : MT := (yX5_cells, cX5_cells, 1, some .int, [])
theorem ceX5_cells : CE mX5_cells 0 := ⟨⟨tbi 1005 (by decide +kernel), tbi 7 (by decide +kernel)⟩, ⟨by decide +kernel, by decide +kernel, by decide +kernel⟩, by decide⟩
def mX5_behind : MT := (yX5_behind, cX5_behind, 4, some .int, [])
theorem ceX5_behind : CE mX5_behind 1 := ⟨⟨tbi 1045 (by decide +kernel), tbi 7 (by decide +kernel)⟩, ⟨by decide +kernel, by decide +kernel, by decide +kernel⟩, by decide⟩
def mX5_cellOf : MT := (yX5_cellOf, cX5_cellOf, 3, some .int, [])
theorem ceX5_cellOf : CE mX5_cellOf 2 := ⟨⟨tbi 1041 (by decide +kernel), tbi 7 (by decide +kernel)⟩, ⟨by decide +kernel, by decide +kernel, by decide +kernel⟩, by decide⟩
def mX5_letterAt : MT := (yX5_letterAt, cX5_letterAt, 3, some .int, [])
theorem ceX5_letterAt : CE mX5_letterAt 2 := ⟨⟨tbi 1033 (by decide +kernel), tbi 7 (by decide +kernel)⟩, ⟨by decide +kernel, by decide +kernel, by decide +kernel⟩, by decide⟩
def mX5_sizeAt : MT := (yX5_sizeAt, cX5_sizeAt, 3, some .int, [])
theorem ceX5_sizeAt : CE mX5_sizeAt 2 := ⟨⟨tbi 1049 (by decide +kernel), tbi 7 (by decide +kernel)⟩, ⟨by decide +kernel, by decide +kernel, by decide +kernel⟩, by decide⟩
def mX5_isGone : MT := (yX5_isGone, cX5_isGone, 3, some .boolean, [])
theorem ceX5_isGone : CE mX5_isGone 2 := ⟨⟨tbi 1037 (by decide +kernel), tbi 7 (by decide +kernel)⟩, ⟨by decide +kernel, by decide +kernel, by decide +kernel⟩, by decide⟩
def mX5_canUse : MT := (yX5_canUse, cX5_canUse, 3, some .boolean, [])
theorem ceX5_canUse : CE mX5_canUse 2 := ⟨⟨tbi 1029 (by decide +kernel), tbi 7 (by decide +kernel)⟩, ⟨by decide +kernel, by decide +kernel, by decide +kernel⟩, by decide⟩
def mX5_isLetter : MT := (yX5_isLetter, cX5_isLetter, 4, some .boolean, [])
theorem ceX5_isLetter : CE mX5_isLetter 3 := ⟨⟨tbi 1081 (by decide +kernel), tbi 7 (by decide +kernel)⟩, ⟨by decide +kernel, by decide +kernel, by decide +kernel⟩, by decide⟩
def mX5_inMessage : MT := (yX5_inMessage, cX5_inMessage, 4, some .int, [])
theorem ceX5_inMessage : CE mX5_inMessage 1 := ⟨⟨tbi 1073 (by decide +kernel), tbi 7 (by decide +kernel)⟩, ⟨by decide +kernel, by decide +kernel, by decide +kernel⟩, by decide⟩
def mX5_hasLetter : MT := (yX5_hasLetter, cX5_hasLetter, 3, some .boolean, [])
theorem ceX5_hasLetter : CE mX5_hasLetter 2 := ⟨⟨tbi 1105 (by decide +kernel), tbi 7 (by decide +kernel)⟩, ⟨by decide +kernel, by decide +kernel, by decide +kernel⟩, by decide⟩
def mX5_gives : MT := (yX5_gives, cX5_gives, 3, some .boolean, [])
theorem ceX5_gives : CE mX5_gives 1 := ⟨⟨tbi 1101 (by decide +kernel), tbi 7 (by decide +kernel)⟩, ⟨by decide +kernel, by decide +kernel, by decide +kernel⟩, by decide⟩
def mX5_missingNow : MT := (yX5_missingNow, cX5_missingNow, 1, some .int, [])
theorem ceX5_missingNow : CE mX5_missingNow 0 := ⟨⟨tbi 1093 (by decide +kernel), tbi 7 (by decide +kernel)⟩, ⟨by decide +kernel, by decide +kernel, by decide +kernel⟩, by decide⟩
def mX5_missingFrom : MT := (yX5_missingFrom, cX5_missingFrom, 5, some .int, [])
theorem ceX5_missingFrom : CE mX5_missingFrom 1 := ⟨⟨tbi 1097 (by decide +kernel), tbi 7 (by decide +kernel)⟩, ⟨by decide +kernel, by decide +kernel, by decide +kernel⟩, by decide⟩
def mX5_isStrip : MT := (yX5_isStrip, cX5_isStrip, 6, some .boolean, [])
theorem ceX5_isStrip : CE mX5_isStrip 4 := ⟨⟨tbi 1125 (by decide +kernel), tbi 7 (by decide +kernel)⟩, ⟨by decide +kernel, by decide +kernel, by decide +kernel⟩, by decide⟩
def mX5_longestFrom : MT := (yX5_longestFrom, cX5_longestFrom, 6, some .int, [])
theorem ceX5_longestFrom : CE mX5_longestFrom 1 := ⟨⟨tbi 1121 (by decide +kernel), tbi 7 (by decide +kernel)⟩, ⟨by decide +kernel, by decide +kernel, by decide +kernel⟩, by decide⟩
def mX5_layNeeded : MT := (yX5_layNeeded, cX5_layNeeded, 4, none, [])
theorem ceX5_layNeeded : CE mX5_layNeeded 0 := ⟨⟨tbi 1117 (by decide +kernel), tbi 7 (by decide +kernel)⟩, ⟨by decide +kernel, by decide +kernel, by decide +kernel⟩, by decide⟩
def mX5_cellsOf : MT := (yX5_cellsOf, cX5_cellsOf, 7, some .long, [])
theorem ceX5_cellsOf : CE mX5_cellsOf 3 := ⟨⟨tbi 1147 (by decide +kernel), tbi 7 (by decide +kernel)⟩, ⟨by decide +kernel, by decide +kernel, by decide +kernel⟩, by decide⟩
def mX5_keyOf : MT := (yX5_keyOf, cX5_keyOf, 3, some .long, [])
theorem ceX5_keyOf : CE mX5_keyOf 2 := ⟨⟨tbi 1137 (by decide +kernel), tbi 7 (by decide +kernel)⟩, ⟨by decide +kernel, by decide +kernel, by decide +kernel⟩, by decide⟩
def mX5_vainAt : MT := (yX5_vainAt, cX5_vainAt, 4, some .int, [])
theorem ceX5_vainAt : CE mX5_vainAt 1 := ⟨⟨tbi 1142 (by decide +kernel), tbi 7 (by decide +kernel)⟩, ⟨by decide +kernel, by decide +kernel, by decide +kernel⟩, by decide⟩
def mX5_plans : MT := (yX5_plans, cX5_plans, 11, some .boolean, [])
theorem ceX5_plans : CE mX5_plans 3 := ⟨⟨tbi 1133 (by decide +kernel), tbi 7 (by decide +kernel)⟩, ⟨by decide +kernel, by decide +kernel, by decide +kernel⟩, by decide⟩
def mX5_plansBy : MT := (yX5_plansBy, cX5_plansBy, 3, some .boolean, [])
theorem ceX5_plansBy : CE mX5_plansBy 1 := ⟨⟨tbi 1129 (by decide +kernel), tbi 7 (by decide +kernel)⟩, ⟨by decide +kernel, by decide +kernel, by decide +kernel⟩, by decide⟩
def mX5_layPlan : MT := (yX5_layPlan, cX5_layPlan, 1, some .int, [])
theorem ceX5_layPlan : CE mX5_layPlan 0 := ⟨⟨tbi 1113 (by decide +kernel), tbi 7 (by decide +kernel)⟩, ⟨by decide +kernel, by decide +kernel, by decide +kernel⟩, by decide⟩
def mX5_laySizes : MT := (yX5_laySizes, cX5_laySizes, 4, none, [])
theorem ceX5_laySizes : CE mX5_laySizes 0 := ⟨⟨tbi 1164 (by decide +kernel), tbi 7 (by decide +kernel)⟩, ⟨by decide +kernel, by decide +kernel, by decide +kernel⟩, by decide⟩
def mX5_goesOff : MT := (yX5_goesOff, cX5_goesOff, 5, none, [])
theorem ceX5_goesOff : CE mX5_goesOff 3 := ⟨⟨tbi 1177 (by decide +kernel), tbi 7 (by decide +kernel)⟩, ⟨by decide +kernel, by decide +kernel, by decide +kernel⟩, by decide⟩
def mX5_cutPlan : MT := (yX5_cutPlan, cX5_cutPlan, 2, none, [])
theorem ceX5_cutPlan : CE mX5_cutPlan 0 := ⟨⟨tbi 1173 (by decide +kernel), tbi 7 (by decide +kernel)⟩, ⟨by decide +kernel, by decide +kernel, by decide +kernel⟩, by decide⟩
def mX5_cellsThere : MT := (yX5_cellsThere, cX5_cellsThere, 3, some .int, [])
theorem ceX5_cellsThere : CE mX5_cellsThere 0 := ⟨⟨tbi 1021 (by decide +kernel), tbi 7 (by decide +kernel)⟩, ⟨by decide +kernel, by decide +kernel, by decide +kernel⟩, by decide⟩
def mX5_usable : MT := (yX5_usable, cX5_usable, 4, some .int, [])
theorem ceX5_usable : CE mX5_usable 0 := ⟨⟨tbi 1025 (by decide +kernel), tbi 7 (by decide +kernel)⟩, ⟨by decide +kernel, by decide +kernel, by decide +kernel⟩, by decide⟩
def mX5_told : MT := (yX5_told, cX5_told, 2, some .int, [])
theorem ceX5_told : CE mX5_told 1 := ⟨⟨tbi 1017 (by decide +kernel), tbi 7 (by decide +kernel)⟩, ⟨by decide +kernel, by decide +kernel, by decide +kernel⟩, by decide⟩
def mX5_state : MT := (yX5_state, cX5_state, 2, some .int, [])
theorem ceX5_state : CE mX5_state 1 := ⟨⟨tbi 1013 (by decide +kernel), tbi 7 (by decide +kernel)⟩, ⟨by decide +kernel, by decide +kernel, by decide +kernel⟩, by decide⟩
def mX5_noPlace : MT := (yX5_noPlace, cX5_noPlace, 3, some .boolean, [])
theorem ceX5_noPlace : CE mX5_noPlace 2 := ⟨⟨tbi 1057 (by decide +kernel), tbi 7 (by decide +kernel)⟩, ⟨by decide +kernel, by decide +kernel, by decide +kernel⟩, by decide⟩
def mX5_toldLetter : MT := (yX5_toldLetter, cX5_toldLetter, 3, some .int, [])
theorem ceX5_toldLetter : CE mX5_toldLetter 2 := ⟨⟨tbi 1061 (by decide +kernel), tbi 7 (by decide +kernel)⟩, ⟨by decide +kernel, by decide +kernel, by decide +kernel⟩, by decide⟩
def mX5_letter : MT := (yX5_letter, cX5_letter, 3, some .int, [])
theorem ceX5_letter : CE mX5_letter 2 := ⟨⟨tbi 1053 (by decide +kernel), tbi 7 (by decide +kernel)⟩, ⟨by decide +kernel, by decide +kernel, by decide +kernel⟩, by decide⟩
def mX5_toldPlace : MT := (yX5_toldPlace, cX5_toldPlace, 4, some .int, [])
theorem ceX5_toldPlace : CE mX5_toldPlace 3 := ⟨⟨tbi 1069 (by decide +kernel), tbi 7 (by decide +kernel)⟩, ⟨by decide +kernel, by decide +kernel, by decide +kernel⟩, by decide⟩
def mX5_place : MT := (yX5_place, cX5_place, 4, some .int, [])
theorem ceX5_place : CE mX5_place 3 := ⟨⟨tbi 1065 (by decide +kernel), tbi 7 (by decide +kernel)⟩, ⟨by decide +kernel, by decide +kernel, by decide +kernel⟩, by decide⟩
def mX5_stock : MT := (yX5_stock, cX5_stock, 6, some .int, [])
theorem ceX5_stock : CE mX5_stock 2 := ⟨⟨tbi 1077 (by decide +kernel), tbi 7 (by decide +kernel)⟩, ⟨by decide +kernel, by decide +kernel, by decide +kernel⟩, by decide⟩
def mX5_message : MT := (yX5_message, cX5_message, 2, some .int, [])
theorem ceX5_message : CE mX5_message 1 := ⟨⟨tbi 1085 (by decide +kernel), tbi 7 (by decide +kernel)⟩, ⟨by decide +kernel, by decide +kernel, by decide +kernel⟩, by decide⟩
def mX5_missing : MT := (yX5_missing, cX5_missing, 1, some .int, [])
theorem ceX5_missing : CE mX5_missing 0 := ⟨⟨tbi 1089 (by decide +kernel), tbi 7 (by decide +kernel)⟩, ⟨by decide +kernel, by decide +kernel, by decide +kernel⟩, by decide⟩
def mX5_fewest : MT := (yX5_fewest, cX5_fewest, 1, some .int, [])
theorem ceX5_fewest : CE mX5_fewest 0 := ⟨⟨tbi 1109 (by decide +kernel), tbi 7 (by decide +kernel)⟩, ⟨by decide +kernel, by decide +kernel, by decide +kernel⟩, by decide⟩
def mX5_toldCut : MT := (yX5_toldCut, cX5_toldCut, 3, some .int, [])
theorem ceX5_toldCut : CE mX5_toldCut 2 := ⟨⟨tbi 1156 (by decide +kernel), tbi 7 (by decide +kernel)⟩, ⟨by decide +kernel, by decide +kernel, by decide +kernel⟩, by decide⟩
def mX5_cutOf : MT := (yX5_cutOf, cX5_cutOf, 4, some .int, [])
theorem ceX5_cutOf : CE mX5_cutOf 2 := ⟨⟨tbi 1152 (by decide +kernel), tbi 7 (by decide +kernel)⟩, ⟨by decide +kernel, by decide +kernel, by decide +kernel⟩, by decide⟩
def mX5_unevenness : MT := (yX5_unevenness, cX5_unevenness, 3, some .int, [])
theorem ceX5_unevenness : CE mX5_unevenness 0 := ⟨⟨tbi 1160 (by decide +kernel), tbi 7 (by decide +kernel)⟩, ⟨by decide +kernel, by decide +kernel, by decide +kernel⟩, by decide⟩
def mX5_copies : MT := (yX5_copies, cX5_copies, 2, some .int, [])
theorem ceX5_copies : CE mX5_copies 0 := ⟨⟨tbi 1169 (by decide +kernel), tbi 7 (by decide +kernel)⟩, ⟨by decide +kernel, by decide +kernel, by decide +kernel⟩, by decide⟩
def mX5_longest : MT := (yX5_longest, cX5_longest, 2, some .int, [])
theorem ceX5_longest : CE mX5_longest 1 := ⟨⟨tbi 1181 (by decide +kernel), tbi 7 (by decide +kernel)⟩, ⟨by decide +kernel, by decide +kernel, by decide +kernel⟩, by decide⟩
def mX5_isWanted : MT := (yX5_isWanted, cX5_isWanted, 3, some .boolean, [])
theorem ceX5_isWanted : CE mX5_isWanted 2 := ⟨⟨tbi 1193 (by decide +kernel), tbi 7 (by decide +kernel)⟩, ⟨by decide +kernel, by decide +kernel, by decide +kernel⟩, by decide⟩
def mX5_clashesNow : MT := (yX5_clashesNow, cX5_clashesNow, 3, some .int, [])
theorem ceX5_clashesNow : CE mX5_clashesNow 0 := ⟨⟨tbi 1189 (by decide +kernel), tbi 7 (by decide +kernel)⟩, ⟨by decide +kernel, by decide +kernel, by decide +kernel⟩, by decide⟩
def mX5_clashes : MT := (yX5_clashes, cX5_clashes, 1, some .int, [])
theorem ceX5_clashes : CE mX5_clashes 0 := ⟨⟨tbi 1185 (by decide +kernel), tbi 7 (by decide +kernel)⟩, ⟨by decide +kernel, by decide +kernel, by decide +kernel⟩, by decide⟩
def mX5_meanSize : MT := (yX5_meanSize, cX5_meanSize, 3, some .double, [])
theorem ceX5_meanSize : CE mX5_meanSize 0 := ⟨⟨tbi 1197 (by decide +kernel), tbi 7 (by decide +kernel)⟩, ⟨by decide +kernel, by decide +kernel, by decide +kernel⟩, by decide⟩
def mX5_remember : MT := (yX5_remember, cX5_remember, 2, none, [])
theorem ceX5_remember : CE mX5_remember 0 := ⟨⟨tbi 998 (by decide +kernel), tbi 7 (by decide +kernel)⟩, ⟨by decide +kernel, by decide +kernel, by decide +kernel⟩, by decide⟩
def mX5_areLetters : MT := (yX5_areLetters, cX5_areLetters, 3, some .boolean, [])
theorem ceX5_areLetters : CE mX5_areLetters 1 := ⟨⟨tbi 1205 (by decide +kernel), tbi 7 (by decide +kernel)⟩, ⟨by decide +kernel, by decide +kernel, by decide +kernel⟩, by decide⟩
def mX5_tell : MT := (yX5_tell, cX5_tell, 3, some .int, [])
theorem ceX5_tell : CE mX5_tell 1 := ⟨⟨tbi 1201 (by decide +kernel), tbi 7 (by decide +kernel)⟩, ⟨by decide +kernel, by decide +kernel, by decide +kernel⟩, by decide⟩
def mX5_cut : MT := (yX5_cut, cX5_cut, 2, some .int, [])
theorem ceX5_cut : CE mX5_cut 0 := ⟨⟨tbi 1209 (by decide +kernel), tbi 7 (by decide +kernel)⟩, ⟨by decide +kernel, by decide +kernel, by decide +kernel⟩, by decide⟩
def mX5_isCut : MT := (yX5_isCut, cX5_isCut, 5, some .boolean, [])
theorem ceX5_isCut : CE mX5_isCut 3 := ⟨⟨tbi 1217 (by decide +kernel), tbi 7 (by decide +kernel)⟩, ⟨by decide +kernel, by decide +kernel, by decide +kernel⟩, by decide⟩
def mX5_snip : MT := (yX5_snip, cX5_snip, 4, some .int, [])
theorem ceX5_snip : CE mX5_snip 3 := ⟨⟨tbi 1213 (by decide +kernel), tbi 7 (by decide +kernel)⟩, ⟨by decide +kernel, by decide +kernel, by decide +kernel⟩, by decide⟩
def mX5_least : MT := (yX5_least, cX5_least, 3, some .int, [])
theorem ceX5_least : CE mX5_least 1 := ⟨⟨tbi 1221 (by decide +kernel), tbi 7 (by decide +kernel)⟩, ⟨by decide +kernel, by decide +kernel, by decide +kernel⟩, by decide⟩
def mX5_mend : MT := (yX5_mend, cX5_mend, 2, some .int, [])
theorem ceX5_mend : CE mX5_mend 1 := ⟨⟨tbi 1225 (by decide +kernel), tbi 7 (by decide +kernel)⟩, ⟨by decide +kernel, by decide +kernel, by decide +kernel⟩, by decide⟩
def mX5_undo : MT := (yX5_undo, cX5_undo, 1, some .int, [])
theorem ceX5_undo : CE mX5_undo 0 := ⟨⟨tbi 1229 (by decide +kernel), tbi 7 (by decide +kernel)⟩, ⟨by decide +kernel, by decide +kernel, by decide +kernel⟩, by decide⟩
def mX5_checksum : MT := (yX5_checksum, cX5_checksum, 5, some .long, [])
theorem ceX5_checksum : CE mX5_checksum 0 := ⟨⟨tbi 1233 (by decide +kernel), tbi 7 (by decide +kernel)⟩, ⟨by decide +kernel, by decide +kernel, by decide +kernel⟩, by decide⟩
def mJ13_bitCount_95d88 : MT := (yJ13_bitCount_95d88, cJ13_bitCount_95d88, 2, some .int, [])
theorem ceJ13_bitCount_95d88 : CE mJ13_bitCount_95d88 1 := ⟨⟨tbi 444 (by decide +kernel), tbi 18 (by decide +kernel)⟩, ⟨by decide +kernel, by decide +kernel, by decide +kernel⟩, by decide⟩
def mJ9_abs_0f7a4 : MT := (yJ9_abs_0f7a4, cJ9_abs_0f7a4, 1, some .int, [])
theorem ceJ9_abs_0f7a4 : CE mJ9_abs_0f7a4 1 := ⟨⟨tbi 382 (by decide +kernel), tbi 12 (by decide +kernel)⟩, ⟨by decide +kernel, by decide +kernel, by decide +kernel⟩, by decide⟩
def mJ9_max_7cf53 : MT := (yJ9_max_7cf53, cJ9_max_7cf53, 2, some .int, [])
theorem ceJ9_max_7cf53 : CE mJ9_max_7cf53 2 := ⟨⟨tbi 326 (by decide +kernel), tbi 12 (by decide +kernel)⟩, ⟨by decide +kernel, by decide +kernel, by decide +kernel⟩, by decide⟩
def mJ9_min_7cf53 : MT := (yJ9_min_7cf53, cJ9_min_7cf53, 2, some .int, [])
theorem ceJ9_min_7cf53 : CE mJ9_min_7cf53 2 := ⟨⟨tbi 323 (by decide +kernel), tbi 12 (by decide +kernel)⟩, ⟨by decide +kernel, by decide +kernel, by decide +kernel⟩, by decide⟩
def mJ0_length_8abf5 : MT := (yJ0_length_8abf5, cJ0_length_8abf5, 1, some .int, [])
theorem ceJ0_length_8abf5 : CE mJ0_length_8abf5 0 := ⟨⟨tbi 563 (by decide +kernel), tbi 14 (by decide +kernel)⟩, ⟨by decide +kernel, by decide +kernel, by decide +kernel⟩, by decide⟩
def mJ0_charAt_5068e : MT := (yJ0_charAt_5068e, cJ0_charAt_5068e, 2, some .char, [])
theorem ceJ0_charAt_5068e : CE mJ0_charAt_5068e 1 := ⟨⟨tbi 573 (by decide +kernel), tbi 14 (by decide +kernel)⟩, ⟨by decide +kernel, by decide +kernel, by decide +kernel⟩, by decide⟩
def mJ0_coder_7d493 : MT := (yJ0_coder_7d493, cJ0_coder_7d493, 1, some .byte, [])
theorem ceJ0_coder_7d493 : CE mJ0_coder_7d493 0 := ⟨⟨tbi 567 (by decide +kernel), tbi 14 (by decide +kernel)⟩, ⟨by decide +kernel, by decide +kernel, by decide +kernel⟩, by decide⟩
def mJ0_isLatin1_aae02 : MT := (yJ0_isLatin1_aae02, cJ0_isLatin1_aae02, 1, some .boolean, [])
theorem ceJ0_isLatin1_aae02 : CE mJ0_isLatin1_aae02 0 := ⟨⟨tbi 577 (by decide +kernel), tbi 14 (by decide +kernel)⟩, ⟨by decide +kernel, by decide +kernel, by decide +kernel⟩, by decide⟩
def mJ0_checkIndex_df160 : MT := (yJ0_checkIndex_df160, cJ0_checkIndex_df160, 2, none, [])
theorem ceJ0_checkIndex_df160 : CE mJ0_checkIndex_df160 2 := ⟨⟨tbi 583 (by decide +kernel), tbi 14 (by decide +kernel)⟩, ⟨by decide +kernel, by decide +kernel, by decide +kernel⟩, by decide⟩
def mJ1_charAt_3b067 : MT := (yJ1_charAt_3b067, cJ1_charAt_3b067, 2, some .char, [])
theorem ceJ1_charAt_3b067 : CE mJ1_charAt_3b067 2 := ⟨⟨tbi 580 (by decide +kernel), tbi 15 (by decide +kernel)⟩, ⟨by decide +kernel, by decide +kernel, by decide +kernel⟩, by decide⟩
def mJ2_getChar_3b067 : MT := (yJ2_getChar_3b067, cJ2_getChar_3b067, 2, some .char, [])
theorem ceJ2_getChar_3b067 : CE mJ2_getChar_3b067 2 := ⟨⟨tbi 601 (by decide +kernel), tbi 17 (by decide +kernel)⟩, ⟨by decide +kernel, by decide +kernel, by decide +kernel⟩, by decide⟩
def mJ2_length_9d52b : MT := (yJ2_length_9d52b, cJ2_length_9d52b, 1, some .int, [])
theorem ceJ2_length_9d52b : CE mJ2_length_9d52b 1 := ⟨⟨tbi 597 (by decide +kernel), tbi 17 (by decide +kernel)⟩, ⟨by decide +kernel, by decide +kernel, by decide +kernel⟩, by decide⟩
def mJ2_charAt_3b067 : MT := (yJ2_charAt_3b067, cJ2_charAt_3b067, 2, some .char, [])
theorem ceJ2_charAt_3b067 : CE mJ2_charAt_3b067 2 := ⟨⟨tbi 591 (by decide +kernel), tbi 17 (by decide +kernel)⟩, ⟨by decide +kernel, by decide +kernel, by decide +kernel⟩, by decide⟩
def mJ2_checkIndex_2214a : MT := (yJ2_checkIndex_2214a, cJ2_checkIndex_2214a, 2, none, [])
theorem ceJ2_checkIndex_2214a : CE mJ2_checkIndex_2214a 2 := ⟨⟨tbi 594 (by decide +kernel), tbi 17 (by decide +kernel)⟩, ⟨by decide +kernel, by decide +kernel, by decide +kernel⟩, by decide⟩
def mJ7_fill_53178 : MT := (yJ7_fill_53178, cJ7_fill_53178, 4, none, [])
theorem ceJ7_fill_53178 : CE mJ7_fill_53178 2 := ⟨⟨tbi 42 (by decide +kernel), tbi 3 (by decide +kernel)⟩, ⟨by decide +kernel, by decide +kernel, by decide +kernel⟩, by decide⟩
def mJ3_checkIndex_8e157 : MT := (yJ3_checkIndex_8e157, cJ3_checkIndex_8e157, 3, some .int, [])
theorem ceJ3_checkIndex_8e157 : CE mJ3_checkIndex_8e157 3 := ⟨⟨tbi 588 (by decide +kernel), tbi 16 (by decide +kernel)⟩, ⟨by decide +kernel, by decide +kernel, by decide +kernel⟩, by decide⟩
def mL_load : MT := (yL_load, cL_load, 4, some .int, [(0, 9, 12, 13)])
def mL_state : MT := (yL_state, cL_state, 4, some .int, [(0, 9, 12, 13)])
def mL_letter : MT := (yL_letter, cL_letter, 5, some .int, [(0, 10, 13, 22)])
def mL_place : MT := (yL_place, cL_place, 6, some .int, [(0, 12, 15, 22), (0, 12, 19, 13)])
def mL_stock : MT := (yL_stock, cL_stock, 5, some .int, [(0, 10, 13, 13)])
def mL_message : MT := (yL_message, cL_message, 4, some .int, [(0, 9, 12, 34)])
def mL_cutOf : MT := (yL_cutOf, cL_cutOf, 5, some .int, [(0, 10, 13, 34), (0, 10, 17, 13)])
def mL_longest : MT := (yL_longest, cL_longest, 4, some .int, [(0, 9, 12, 34)])
def mL_tell : MT := (yL_tell, cL_tell, 4, some .int, [(0, 9, 12, 13)])
def mL_cut : MT := (yL_cut, cL_cut, 3, some .int, [(0, 8, 11, 49)])
def mL_snip : MT := (yL_snip, cL_snip, 6, some .int, [(0, 12, 15, 22), (0, 12, 19, 13), (0, 12, 23, 49)])
def mL_least : MT := (yL_least, cL_least, 4, some .int, [(0, 9, 12, 13)])
def mL_mend : MT := (yL_mend, cL_mend, 4, some .int, [(0, 9, 12, 22), (0, 9, 15, 49)])
theorem lfm_RX4_9 {mt : MT} (h : (mN mt).cls = RX4) : Cond.fieldLink (mN mt).cls 9 (cT 4 0).1 (cT 4 0).2.1 (cT 4 0).2.2.1 ∈ lw_tbl := by rw [h]; exact tbi 195 (by decide +kernel)
theorem lf_RX4_9 {mt : MT} (h : (mN mt).cls = RX4) : FL mt 9 4 0 := Or.inl (lfm_RX4_9 h)
theorem lfm_RX4_13 {mt : MT} (h : (mN mt).cls = RX4) : Cond.fieldLink (mN mt).cls 13 (cT 4 1).1 (cT 4 1).2.1 (cT 4 1).2.2.1 ∈ lw_tbl := by rw [h]; exact tbi 196 (by decide +kernel)
theorem lf_RX4_13 {mt : MT} (h : (mN mt).cls = RX4) : FL mt 13 4 1 := Or.inl (lfm_RX4_13 h)
theorem lfm_RX4_17 {mt : MT} (h : (mN mt).cls = RX4) : Cond.fieldLink (mN mt).cls 17 (cT 4 2).1 (cT 4 2).2.1 (cT 4 2).2.2.1 ∈ lw_tbl := by rw [h]; exact tbi 197 (by decide +kernel)
theorem lf_RX4_17 {mt : MT} (h : (mN mt).cls = RX4) : FL mt 17 4 2 := Or.inl (lfm_RX4_17 h)
theorem lc_RX4_22 {mt : MT} (h : (mN mt).cls = RX4) : Cond.methodLinkNest (mN mt).cls 22 (mN mX3_init) "LetterCuts" ∈ tables_1 ∧ Cond.instanceMethod (mN mX3_init) ∈ lw_tbl := by rw [h]; exact ⟨tbj 32 (by decide +kernel), tbi 33 (by decide +kernel)⟩
theorem lfm_RX4_23 {mt : MT} (h : (mN mt).cls = RX4) : Cond.fieldLink (mN mt).cls 23 (cT 4 3).1 (cT 4 3).2.1 (cT 4 3).2.2.1 ∈ lw_tbl := by rw [h]; exact tbi 198 (by decide +kernel)
theorem lf_RX4_23 {mt : MT} (h : (mN mt).cls = RX4) : FL mt 23 4 3 := Or.inl (lfm_RX4_23 h)
theorem lfm_RX4_27 {mt : MT} (h : (mN mt).cls = RX4) : Cond.fieldLink (mN mt).cls 27 (cT 4 4).1 (cT 4 4).2.1 (cT 4 4).2.2.1 ∈ lw_tbl := by rw [h]; exact tbi 199 (by decide +kernel)
theorem lf_RX4_27 {mt : MT} (h : (mN mt).cls = RX4) : FL mt 27 4 4 := Or.inl (lfm_RX4_27 h)
theorem lfm_RX4_31 {mt : MT} (h : (mN mt).cls = RX4) : Cond.fieldLink (mN mt).cls 31 (cT 4 5).1 (cT 4 5).2.1 (cT 4 5).2.2.1 ∈ lw_tbl := by rw [h]; exact tbi 200 (by decide +kernel)
theorem lf_RX4_31 {mt : MT} (h : (mN mt).cls = RX4) : FL mt 31 4 5 := Or.inl (lfm_RX4_31 h)
theorem lc_RX4_36 {mt : MT} (h : (mN mt).cls = RX4) : Cond.methodLinkNest (mN mt).cls 36 (mN mX2_init) "LetterCuts" ∈ tables_1 ∧ Cond.instanceMethod (mN mX2_init) ∈ lw_tbl := by rw [h]; exact ⟨tbj 93 (by decide +kernel), tbi 94 (by decide +kernel)⟩
theorem lfm_RX4_37 {mt : MT} (h : (mN mt).cls = RX4) : Cond.fieldLink (mN mt).cls 37 (cT 4 6).1 (cT 4 6).2.1 (cT 4 6).2.2.1 ∈ lw_tbl := by rw [h]; exact tbi 201 (by decide +kernel)
theorem lf_RX4_37 {mt : MT} (h : (mN mt).cls = RX4) : FL mt 37 4 6 := Or.inl (lfm_RX4_37 h)
theorem lc_RX4_43 {mt : MT} (h : (mN mt).cls = RX4) : Cond.methodLinkNest (mN mt).cls 43 (mN mX0_init) "LetterCuts" ∈ tables_1 ∧ Cond.instanceMethod (mN mX0_init) ∈ lw_tbl := by rw [h]; exact ⟨tbj 134 (by decide +kernel), tbi 135 (by decide +kernel)⟩
theorem lfm_RX4_44 {mt : MT} (h : (mN mt).cls = RX4) : Cond.fieldLink (mN mt).cls 44 (cT 4 7).1 (cT 4 7).2.1 (cT 4 7).2.2.1 ∈ lw_tbl := by rw [h]; exact tbi 202 (by decide +kernel)
theorem lf_RX4_44 {mt : MT} (h : (mN mt).cls = RX4) : FL mt 44 4 7 := Or.inl (lfm_RX4_44 h)
theorem lc_RX4_50 {mt : MT} (h : (mN mt).cls = RX4) : Cond.methodLinkNest (mN mt).cls 50 (mN mX1_init) "LetterCuts" ∈ tables_1 ∧ Cond.instanceMethod (mN mX1_init) ∈ lw_tbl := by rw [h]; exact ⟨tbj 154 (by decide +kernel), tbi 155 (by decide +kernel)⟩
theorem lfm_RX4_51 {mt : MT} (h : (mN mt).cls = RX4) : Cond.fieldLink (mN mt).cls 51 (cT 4 8).1 (cT 4 8).2.1 (cT 4 8).2.2.1 ∈ lw_tbl := by rw [h]; exact tbi 203 (by decide +kernel)
theorem lf_RX4_51 {mt : MT} (h : (mN mt).cls = RX4) : FL mt 51 4 8 := Or.inl (lfm_RX4_51 h)
theorem lfm_RX4_55 {mt : MT} (h : (mN mt).cls = RX4) : Cond.fieldLink (mN mt).cls 55 (cT 4 9).1 (cT 4 9).2.1 (cT 4 9).2.2.1 ∈ lw_tbl := by rw [h]; exact tbi 204 (by decide +kernel)
theorem lf_RX4_55 {mt : MT} (h : (mN mt).cls = RX4) : FL mt 55 4 9 := Or.inl (lfm_RX4_55 h)
theorem lc_RX4_59 {mt : MT} (h : (mN mt).cls = RX4) : Cond.methodLink (mN mt).cls 59 (mN mX4_putWord) ∈ lw_tbl ∧ Cond.instanceMethod (mN mX4_putWord) ∈ lw_tbl ∧ Cond.selects (cR 4) (mN mX4_putWord) (mN mX4_putWord) ∈ lw_tbl := by rw [h]; exact ⟨tbi 230 (by decide +kernel), tbi 232 (by decide +kernel), sli 1 (by decide +kernel)⟩
theorem lc_RX4_66 {mt : MT} (h : (mN mt).cls = RX4) : Cond.methodLinkNest (mN mt).cls 66 (mN mX2_read) "LetterCuts" ∈ tables_1 ∧ Cond.instanceMethod (mN mX2_read) ∈ lw_tbl ∧ Cond.selects (cR 2) (mN mX2_read) (mN mX2_read) ∈ lw_tbl := by rw [h]; exact ⟨tbj 533 (by decide +kernel), tbi 535 (by decide +kernel), sli 38 (by decide +kernel)⟩
theorem lf_RX4_70 {mt : MT} (h : (mN mt).cls = RX4) : FL mt 70 2 5 := Or.inr ⟨"LetterCuts", by rw [h]; exact tbj 106 (by decide +kernel)⟩
theorem lc_RX4_73 {mt : MT} (h : (mN mt).cls = RX4) : Cond.methodLink (mN mt).cls 73 (mN mX4_remember) ∈ lw_tbl ∧ Cond.instanceMethod (mN mX4_remember) ∈ lw_tbl ∧ Cond.selects (cR 4) (mN mX4_remember) (mN mX4_remember) ∈ lw_tbl := by rw [h]; exact ⟨tbi 645 (by decide +kernel), tbi 647 (by decide +kernel), sli 51 (by decide +kernel)⟩
theorem lf_RX4_76 {mt : MT} (h : (mN mt).cls = RX4) : FL mt 76 2 0 := Or.inr ⟨"LetterCuts", by rw [h]; exact tbj 100 (by decide +kernel)⟩
theorem lc_RX4_79 {mt : MT} (h : (mN mt).cls = RX4) : Cond.methodLinkNest (mN mt).cls 79 (mN mX3_copyFrom) "LetterCuts" ∈ tables_1 ∧ Cond.instanceMethod (mN mX3_copyFrom) ∈ lw_tbl ∧ Cond.selects (cR 3) (mN mX3_copyFrom) (mN mX3_copyFrom) ∈ lw_tbl := by rw [h]; exact ⟨tbj 418 (by decide +kernel), tbi 420 (by decide +kernel), sli 32 (by decide +kernel)⟩
theorem lc_RX4_83 {mt : MT} (h : (mN mt).cls = RX4) : Cond.methodLinkNest (mN mt).cls 83 (mN mX3_countCells) "LetterCuts" ∈ tables_1 ∧ Cond.instanceMethod (mN mX3_countCells) ∈ lw_tbl ∧ Cond.selects (cR 3) (mN mX3_countCells) (mN mX3_countCells) ∈ lw_tbl := by rw [h]; exact ⟨tbj 653 (by decide +kernel), tbi 440 (by decide +kernel), sli 34 (by decide +kernel)⟩
theorem lf_RX4_87 {mt : MT} (h : (mN mt).cls = RX4) : FL mt 87 3 0 := Or.inr ⟨"LetterCuts", by rw [h]; exact tbj 44 (by decide +kernel)⟩
theorem lf_RX4_90 {mt : MT} (h : (mN mt).cls = RX4) : FL mt 90 3 1 := Or.inr ⟨"LetterCuts", by rw [h]; exact tbj 48 (by decide +kernel)⟩
theorem lf_RX4_93 {mt : MT} (h : (mN mt).cls = RX4) : FL mt 93 3 2 := Or.inr ⟨"LetterCuts", by rw [h]; exact tbj 51 (by decide +kernel)⟩
theorem lc_RX4_96 {mt : MT} (h : (mN mt).cls = RX4) : Cond.methodLinkNest (mN mt).cls 96 (mN mX3_countThere) "LetterCuts" ∈ tables_1 ∧ Cond.instanceMethod (mN mX3_countThere) ∈ lw_tbl ∧ Cond.selects (cR 3) (mN mX3_countThere) (mN mX3_countThere) ∈ lw_tbl := by rw [h]; exact ⟨tbj 434 (by decide +kernel), tbi 436 (by decide +kernel), sli 33 (by decide +kernel)⟩
theorem lf_RX4_99 {mt : MT} (h : (mN mt).cls = RX4) : FL mt 99 3 7 := Or.inr ⟨"LetterCuts", by rw [h]; exact tbj 62 (by decide +kernel)⟩
theorem lf_RX4_102 {mt : MT} (h : (mN mt).cls = RX4) : FL mt 102 3 8 := Or.inr ⟨"LetterCuts", by rw [h]; exact tbj 64 (by decide +kernel)⟩
theorem lf_RX4_105 {mt : MT} (h : (mN mt).cls = RX4) : FL mt 105 3 9 := Or.inr ⟨"LetterCuts", by rw [h]; exact tbj 66 (by decide +kernel)⟩
theorem lc_RX4_108 {mt : MT} (h : (mN mt).cls = RX4) : Cond.methodLinkNest (mN mt).cls 108 (mN mX3_countUsable) "LetterCuts" ∈ tables_1 ∧ Cond.instanceMethod (mN mX3_countUsable) ∈ lw_tbl ∧ Cond.selects (cR 3) (mN mX3_countUsable) (mN mX3_countUsable) ∈ lw_tbl := by rw [h]; exact ⟨tbj 448 (by decide +kernel), tbi 450 (by decide +kernel), sli 35 (by decide +kernel)⟩
theorem lc_RX4_111 {mt : MT} (h : (mN mt).cls = RX4) : Cond.methodLinkNest (mN mt).cls 111 (mN mX3_hasPlace) "LetterCuts" ∈ tables_1 ∧ Cond.instanceMethod (mN mX3_hasPlace) ∈ lw_tbl ∧ Cond.selects (cR 3) (mN mX3_hasPlace) (mN mX3_hasPlace) ∈ lw_tbl := by rw [h]; exact ⟨tbj 666 (by decide +kernel), tbi 668 (by decide +kernel), sli 53 (by decide +kernel)⟩
theorem lc_RX4_118 {mt : MT} (h : (mN mt).cls = RX4) : Cond.methodLinkNest (mN mt).cls 118 (mN mX3_spotOf) "LetterCuts" ∈ tables_1 ∧ Cond.instanceMethod (mN mX3_spotOf) ∈ lw_tbl ∧ Cond.selects (cR 3) (mN mX3_spotOf) (mN mX3_spotOf) ∈ lw_tbl := by rw [h]; exact ⟨tbj 685 (by decide +kernel), tbi 687 (by decide +kernel), sli 54 (by decide +kernel)⟩
theorem lc_RX4_122 {mt : MT} (h : (mN mt).cls = RX4) : Cond.methodLink (mN mt).cls 122 (mN mX4_letterOrGone) ∈ lw_tbl ∧ Cond.instanceMethod (mN mX4_letterOrGone) ∈ lw_tbl ∧ Cond.selects (cR 4) (mN mX4_letterOrGone) (mN mX4_letterOrGone) ∈ lw_tbl := by rw [h]; exact ⟨tbi 517 (by decide +kernel), tbi 519 (by decide +kernel), sli 37 (by decide +kernel)⟩
theorem lc_RX4_126 {mt : MT} (h : (mN mt).cls = RX4) : Cond.methodLinkNest (mN mt).cls 126 (mN mX3_cellOf) "LetterCuts" ∈ tables_1 ∧ Cond.instanceMethod (mN mX3_cellOf) ∈ lw_tbl ∧ Cond.selects (cR 3) (mN mX3_cellOf) (mN mX3_cellOf) ∈ lw_tbl := by rw [h]; exact ⟨tbj 521 (by decide +kernel), tbi 279 (by decide +kernel), sli 9 (by decide +kernel)⟩
theorem lc_RX4_129 {mt : MT} (h : (mN mt).cls = RX4) : Cond.methodLinkNest (mN mt).cls 129 (mN mX3_placeOf) "LetterCuts" ∈ tables_1 ∧ Cond.instanceMethod (mN mX3_placeOf) ∈ lw_tbl ∧ Cond.selects (cR 3) (mN mX3_placeOf) (mN mX3_placeOf) ∈ lw_tbl := by rw [h]; exact ⟨tbj 696 (by decide +kernel), tbi 698 (by decide +kernel), sli 55 (by decide +kernel)⟩
theorem lc_RX4_132 {mt : MT} (h : (mN mt).cls = RX4) : Cond.methodLinkNest (mN mt).cls 132 (mN mX3_sizeAt) "LetterCuts" ∈ tables_1 ∧ Cond.instanceMethod (mN mX3_sizeAt) ∈ lw_tbl ∧ Cond.selects (cR 3) (mN mX3_sizeAt) (mN mX3_sizeAt) ∈ lw_tbl := by rw [h]; exact ⟨tbj 379 (by decide +kernel), tbi 294 (by decide +kernel), sli 12 (by decide +kernel)⟩
theorem lc_RX4_135 {mt : MT} (h : (mN mt).cls = RX4) : Cond.methodLinkNest (mN mt).cls 135 (mN mX3_spotBehind) "LetterCuts" ∈ tables_1 ∧ Cond.instanceMethod (mN mX3_spotBehind) ∈ lw_tbl ∧ Cond.selects (cR 3) (mN mX3_spotBehind) (mN mX3_spotBehind) ∈ lw_tbl := by rw [h]; exact ⟨tbj 401 (by decide +kernel), tbi 286 (by decide +kernel), sli 10 (by decide +kernel)⟩
theorem lc_RX4_138 {mt : MT} (h : (mN mt).cls = RX4) : Cond.methodLinkNest (mN mt).cls 138 (mN mX3_canUse) "LetterCuts" ∈ tables_1 ∧ Cond.instanceMethod (mN mX3_canUse) ∈ lw_tbl ∧ Cond.selects (cR 3) (mN mX3_canUse) (mN mX3_canUse) ∈ lw_tbl := by rw [h]; exact ⟨tbj 395 (by decide +kernel), tbi 275 (by decide +kernel), sli 8 (by decide +kernel)⟩
theorem lc_RX4_142 {mt : MT} (h : (mN mt).cls = RX4) : Cond.methodLinkNest (mN mt).cls 142 (mN mX3_letterAt) "LetterCuts" ∈ tables_1 ∧ Cond.instanceMethod (mN mX3_letterAt) ∈ lw_tbl ∧ Cond.selects (cR 3) (mN mX3_letterAt) (mN mX3_letterAt) ∈ lw_tbl := by rw [h]; exact ⟨tbj 396 (by decide +kernel), tbi 261 (by decide +kernel), sli 6 (by decide +kernel)⟩
theorem lc_RX4_145 {mt : MT} (h : (mN mt).cls = RX4) : Cond.methodLinkNest (mN mt).cls 145 (mN mX3_countInMessage) "LetterCuts" ∈ tables_1 ∧ Cond.instanceMethod (mN mX3_countInMessage) ∈ lw_tbl ∧ Cond.selects (cR 3) (mN mX3_countInMessage) (mN mX3_countInMessage) ∈ lw_tbl := by rw [h]; exact ⟨tbj 397 (by decide +kernel), tbi 399 (by decide +kernel), sli 29 (by decide +kernel)⟩
theorem lc_RX4_148 {mt : MT} (h : (mN mt).cls = RX4) : Cond.methodLinkNest (mN mt).cls 148 (mN mX3_countUsableOf) "LetterCuts" ∈ tables_1 ∧ Cond.instanceMethod (mN mX3_countUsableOf) ∈ lw_tbl ∧ Cond.selects (cR 3) (mN mX3_countUsableOf) (mN mX3_countUsableOf) ∈ lw_tbl := by rw [h]; exact ⟨tbj 707 (by decide +kernel), tbi 709 (by decide +kernel), sli 56 (by decide +kernel)⟩
theorem lc_RX4_151 {mt : MT} (h : (mN mt).cls = RX4) : Cond.methodLinkNest (mN mt).cls 151 (mN mX3_cellsWith) "LetterCuts" ∈ tables_1 ∧ Cond.instanceMethod (mN mX3_cellsWith) ∈ lw_tbl ∧ Cond.selects (cR 3) (mN mX3_cellsWith) (mN mX3_cellsWith) ∈ lw_tbl := by rw [h]; exact ⟨tbj 255 (by decide +kernel), tbi 257 (by decide +kernel), sli 5 (by decide +kernel)⟩
theorem lc_RX4_155 {mt : MT} (h : (mN mt).cls = RX4) : Cond.methodLink (mN mt).cls 155 (mN mJ13_bitCount_95d88) ∈ lw_tbl ∧ Cond.static (mN mJ13_bitCount_95d88) ∈ lw_tbl := by rw [h]; exact ⟨tbi 711 (by decide +kernel), tbi 443 (by decide +kernel)⟩
theorem lc_RX4_161 {mt : MT} (h : (mN mt).cls = RX4) : Cond.methodLinkNest (mN mt).cls 161 (mN mX3_hasMessageLetter) "LetterCuts" ∈ tables_1 ∧ Cond.instanceMethod (mN mX3_hasMessageLetter) ∈ lw_tbl ∧ Cond.selects (cR 3) (mN mX3_hasMessageLetter) (mN mX3_hasMessageLetter) ∈ lw_tbl := by rw [h]; exact ⟨tbj 720 (by decide +kernel), tbi 253 (by decide +kernel), sli 4 (by decide +kernel)⟩
theorem lc_RX4_167 {mt : MT} (h : (mN mt).cls = RX4) : Cond.methodLinkNest (mN mt).cls 167 (mN mX3_messageAt) "LetterCuts" ∈ tables_1 ∧ Cond.instanceMethod (mN mX3_messageAt) ∈ lw_tbl ∧ Cond.selects (cR 3) (mN mX3_messageAt) (mN mX3_messageAt) ∈ lw_tbl := by rw [h]; exact ⟨tbj 247 (by decide +kernel), tbi 249 (by decide +kernel), sli 3 (by decide +kernel)⟩
theorem lc_RX4_170 {mt : MT} (h : (mN mt).cls = RX4) : Cond.methodLinkNest (mN mt).cls 170 (mN mX0_clear) "LetterCuts" ∈ tables_1 ∧ Cond.instanceMethod (mN mX0_clear) ∈ lw_tbl ∧ Cond.selects (cR 0) (mN mX0_clear) (mN mX0_clear) ∈ lw_tbl := by rw [h]; exact ⟨tbj 242 (by decide +kernel), tbi 244 (by decide +kernel), sli 2 (by decide +kernel)⟩
theorem lc_RX4_173 {mt : MT} (h : (mN mt).cls = RX4) : Cond.methodLinkNest (mN mt).cls 173 (mN mX0_give) "LetterCuts" ∈ tables_1 ∧ Cond.instanceMethod (mN mX0_give) ∈ lw_tbl ∧ Cond.selects (cR 0) (mN mX0_give) (mN mX0_give) ∈ lw_tbl := by rw [h]; exact ⟨tbj 296 (by decide +kernel), tbi 298 (by decide +kernel), sli 13 (by decide +kernel)⟩
theorem lc_RX4_177 {mt : MT} (h : (mN mt).cls = RX4) : Cond.methodLink (mN mt).cls 177 (mN mX4_bestCuts) ∈ lw_tbl ∧ Cond.instanceMethod (mN mX4_bestCuts) ∈ lw_tbl ∧ Cond.selects (cR 4) (mN mX4_bestCuts) (mN mX4_bestCuts) ∈ lw_tbl := by rw [h]; exact ⟨tbi 313 (by decide +kernel), tbi 315 (by decide +kernel), sli 16 (by decide +kernel)⟩
theorem lc_RX4_180 {mt : MT} (h : (mN mt).cls = RX4) : Cond.methodLinkNest (mN mt).cls 180 (mN mX1_lengthOfCut) "LetterCuts" ∈ tables_1 ∧ Cond.instanceMethod (mN mX1_lengthOfCut) ∈ lw_tbl ∧ Cond.selects (cR 1) (mN mX1_lengthOfCut) (mN mX1_lengthOfCut) ∈ lw_tbl := by rw [h]; exact ⟨tbj 410 (by decide +kernel), tbi 412 (by decide +kernel), sli 31 (by decide +kernel)⟩
theorem lc_RX4_183 {mt : MT} (h : (mN mt).cls = RX4) : Cond.methodLinkNest (mN mt).cls 183 (mN mX1_spotOfCut) "LetterCuts" ∈ tables_1 ∧ Cond.instanceMethod (mN mX1_spotOfCut) ∈ lw_tbl ∧ Cond.selects (cR 1) (mN mX1_spotOfCut) (mN mX1_spotOfCut) ∈ lw_tbl := by rw [h]; exact ⟨tbj 375 (by decide +kernel), tbi 377 (by decide +kernel), sli 27 (by decide +kernel)⟩
theorem lc_RX4_186 {mt : MT} (h : (mN mt).cls = RX4) : Cond.methodLink (mN mt).cls 186 (mN mX4_sideOf) ∈ lw_tbl ∧ Cond.static (mN mX4_sideOf) ∈ lw_tbl := by rw [h]; exact ⟨tbi 743 (by decide +kernel), tbi 282 (by decide +kernel)⟩
theorem lc_RX4_189 {mt : MT} (h : (mN mt).cls = RX4) : Cond.methodLink (mN mt).cls 189 (mN mX4_sizesOfCut) ∈ lw_tbl ∧ Cond.instanceMethod (mN mX4_sizesOfCut) ∈ lw_tbl ∧ Cond.selects (cR 4) (mN mX4_sizesOfCut) (mN mX4_sizesOfCut) ∈ lw_tbl := by rw [h]; exact ⟨tbi 406 (by decide +kernel), tbi 408 (by decide +kernel), sli 30 (by decide +kernel)⟩
theorem lc_RX4_192 {mt : MT} (h : (mN mt).cls = RX4) : Cond.methodLink (mN mt).cls 192 (mN mX4_sizeOfCut) ∈ lw_tbl ∧ Cond.instanceMethod (mN mX4_sizeOfCut) ∈ lw_tbl ∧ Cond.selects (cR 4) (mN mX4_sizeOfCut) (mN mX4_sizeOfCut) ∈ lw_tbl := by rw [h]; exact ⟨tbi 371 (by decide +kernel), tbi 373 (by decide +kernel), sli 26 (by decide +kernel)⟩
theorem lc_RX4_195 {mt : MT} (h : (mN mt).cls = RX4) : Cond.methodLink (mN mt).cls 195 (mN mJ9_abs_0f7a4) ∈ lw_tbl ∧ Cond.static (mN mJ9_abs_0f7a4) ∈ lw_tbl := by rw [h]; exact ⟨tbi 380 (by decide +kernel), tbi 381 (by decide +kernel)⟩
theorem lc_RX4_200 {mt : MT} (h : (mN mt).cls = RX4) : Cond.methodLinkNest (mN mt).cls 200 (mN mX1_choose) "LetterCuts" ∈ tables_1 ∧ Cond.instanceMethod (mN mX1_choose) ∈ lw_tbl ∧ Cond.selects (cR 1) (mN mX1_choose) (mN mX1_choose) ∈ lw_tbl := by rw [h]; exact ⟨tbj 340 (by decide +kernel), tbi 342 (by decide +kernel), sli 20 (by decide +kernel)⟩
theorem lf_RX4_203 {mt : MT} (h : (mN mt).cls = RX4) : FL mt 203 1 9 := Or.inr ⟨"LetterCuts", by rw [h]; exact tbj 173 (by decide +kernel)⟩
theorem lc_RX4_207 {mt : MT} (h : (mN mt).cls = RX4) : Cond.methodLinkNest (mN mt).cls 207 (mN mX3_lettersFrom) "LetterCuts" ∈ tables_1 ∧ Cond.instanceMethod (mN mX3_lettersFrom) ∈ lw_tbl ∧ Cond.selects (cR 3) (mN mX3_lettersFrom) (mN mX3_lettersFrom) ∈ lw_tbl := by rw [h]; exact ⟨tbj 751 (by decide +kernel), tbi 333 (by decide +kernel), sli 18 (by decide +kernel)⟩
theorem lc_RX4_210 {mt : MT} (h : (mN mt).cls = RX4) : Cond.methodLink (mN mt).cls 210 (mN mJ9_max_7cf53) ∈ lw_tbl ∧ Cond.static (mN mJ9_max_7cf53) ∈ lw_tbl := by rw [h]; exact ⟨tbi 752 (by decide +kernel), tbi 325 (by decide +kernel)⟩
theorem lc_RX4_213 {mt : MT} (h : (mN mt).cls = RX4) : Cond.methodLink (mN mt).cls 213 (mN mX4_isUsedByMessage) ∈ lw_tbl ∧ Cond.instanceMethod (mN mX4_isUsedByMessage) ∈ lw_tbl ∧ Cond.selects (cR 4) (mN mX4_isUsedByMessage) (mN mX4_isUsedByMessage) ∈ lw_tbl := by rw [h]; exact ⟨tbi 391 (by decide +kernel), tbi 393 (by decide +kernel), sli 28 (by decide +kernel)⟩
theorem lc_RX4_216 {mt : MT} (h : (mN mt).cls = RX4) : Cond.methodLink (mN mt).cls 216 (mN mX4_startsWithLetters) ∈ lw_tbl ∧ Cond.instanceMethod (mN mX4_startsWithLetters) ∈ lw_tbl ∧ Cond.selects (cR 4) (mN mX4_startsWithLetters) (mN mX4_startsWithLetters) ∈ lw_tbl := by rw [h]; exact ⟨tbi 760 (by decide +kernel), tbi 762 (by decide +kernel), sli 57 (by decide +kernel)⟩
theorem lf_RX4_219 {mt : MT} (h : (mN mt).cls = RX4) : FL mt 219 3 6 := Or.inr ⟨"LetterCuts", by rw [h]; exact tbj 59 (by decide +kernel)⟩
theorem lc_RX4_223 {mt : MT} (h : (mN mt).cls = RX4) : Cond.methodLink (mN mt).cls 223 (mN mX4_missing) ∈ lw_tbl ∧ Cond.instanceMethod (mN mX4_missing) ∈ lw_tbl ∧ Cond.selects (cR 4) (mN mX4_missing) (mN mX4_missing) ∈ lw_tbl := by rw [h]; exact ⟨tbi 523 (by decide +kernel), tbi 239 (by decide +kernel), tbi 240 (by decide +kernel)⟩
theorem lc_RX4_229 {mt : MT} (h : (mN mt).cls = RX4) : Cond.methodLinkNest (mN mt).cls 229 (mN mX3_take) "LetterCuts" ∈ tables_1 ∧ Cond.instanceMethod (mN mX3_take) ∈ lw_tbl ∧ Cond.selects (cR 3) (mN mX3_take) (mN mX3_take) ∈ lw_tbl := by rw [h]; exact ⟨tbj 788 (by decide +kernel), tbi 790 (by decide +kernel), sli 58 (by decide +kernel)⟩
theorem lc_RX4_233 {mt : MT} (h : (mN mt).cls = RX4) : Cond.methodLinkNest (mN mt).cls 233 (mN mX3_isStrip) "LetterCuts" ∈ tables_1 ∧ Cond.instanceMethod (mN mX3_isStrip) ∈ lw_tbl ∧ Cond.selects (cR 3) (mN mX3_isStrip) (mN mX3_isStrip) ∈ lw_tbl := by rw [h]; exact ⟨tbj 799 (by decide +kernel), tbi 801 (by decide +kernel), sli 59 (by decide +kernel)⟩
theorem lc_RX4_236 {mt : MT} (h : (mN mt).cls = RX4) : Cond.methodLinkNest (mN mt).cls 236 (mN mX3_cellsOfStrip) "LetterCuts" ∈ tables_1 ∧ Cond.instanceMethod (mN mX3_cellsOfStrip) ∈ lw_tbl ∧ Cond.selects (cR 3) (mN mX3_cellsOfStrip) (mN mX3_cellsOfStrip) ∈ lw_tbl := by rw [h]; exact ⟨tbj 803 (by decide +kernel), tbi 805 (by decide +kernel), sli 60 (by decide +kernel)⟩
theorem lc_RX4_240 {mt : MT} (h : (mN mt).cls = RX4) : Cond.methodLinkNest (mN mt).cls 240 (mN mX3_isThere) "LetterCuts" ∈ tables_1 ∧ Cond.instanceMethod (mN mX3_isThere) ∈ lw_tbl ∧ Cond.selects (cR 3) (mN mX3_isThere) (mN mX3_isThere) ∈ lw_tbl := by rw [h]; exact ⟨tbj 522 (by decide +kernel), tbi 290 (by decide +kernel), sli 11 (by decide +kernel)⟩
theorem lf_RX4_243 {mt : MT} (h : (mN mt).cls = RX4) : FL mt 243 3 5 := Or.inr ⟨"LetterCuts", by rw [h]; exact tbj 57 (by decide +kernel)⟩
theorem lc_RX4_250 {mt : MT} (h : (mN mt).cls = RX4) : Cond.methodLink (mN mt).cls 250 (mN mX4_state) ∈ lw_tbl ∧ Cond.instanceMethod (mN mX4_state) ∈ lw_tbl ∧ Cond.selects (cR 4) (mN mX4_state) (mN mX4_state) ∈ lw_tbl := by rw [h]; exact ⟨tbi 430 (by decide +kernel), tbi 431 (by decide +kernel), tbi 432 (by decide +kernel)⟩
theorem lc_RX4_253 {mt : MT} (h : (mN mt).cls = RX4) : Cond.methodLinkNest (mN mt).cls 253 (mN mX3_hasSpot) "LetterCuts" ∈ tables_1 ∧ Cond.instanceMethod (mN mX3_hasSpot) ∈ lw_tbl ∧ Cond.selects (cR 3) (mN mX3_hasSpot) (mN mX3_hasSpot) ∈ lw_tbl := by rw [h]; exact ⟨tbj 516 (by decide +kernel), tbi 265 (by decide +kernel), sli 7 (by decide +kernel)⟩
theorem lc_RX4_256 {mt : MT} (h : (mN mt).cls = RX4) : Cond.methodLink (mN mt).cls 256 (mN mX4_clashes) ∈ lw_tbl ∧ Cond.instanceMethod (mN mX4_clashes) ∈ lw_tbl ∧ Cond.selects (cR 4) (mN mX4_clashes) (mN mX4_clashes) ∈ lw_tbl := by rw [h]; exact ⟨tbi 524 (by decide +kernel), tbi 388 (by decide +kernel), tbi 389 (by decide +kernel)⟩
theorem lc_RX4_259 {mt : MT} (h : (mN mt).cls = RX4) : Cond.methodLink (mN mt).cls 259 (mN mX4_isLetter) ∈ lw_tbl ∧ Cond.static (mN mX4_isLetter) ∈ lw_tbl := by rw [h]; exact ⟨tbi 764 (by decide +kernel), tbi 553 (by decide +kernel)⟩
theorem lc_RX4_262 {mt : MT} (h : (mN mt).cls = RX4) : Cond.methodLink (mN mt).cls 262 (mN mX4_makeOldestFinal) ∈ lw_tbl ∧ Cond.instanceMethod (mN mX4_makeOldestFinal) ∈ lw_tbl ∧ Cond.selects (cR 4) (mN mX4_makeOldestFinal) (mN mX4_makeOldestFinal) ∈ lw_tbl := by rw [h]; exact ⟨tbi 649 (by decide +kernel), tbi 651 (by decide +kernel), sli 52 (by decide +kernel)⟩
theorem lc_RX4_265 {mt : MT} (h : (mN mt).cls = RX4) : Cond.methodLinkNest (mN mt).cls 265 (mN mX1_prepare) "LetterCuts" ∈ tables_1 ∧ Cond.instanceMethod (mN mX1_prepare) ∈ lw_tbl ∧ Cond.selects (cR 1) (mN mX1_prepare) (mN mX1_prepare) ∈ lw_tbl := by rw [h]; exact ⟨tbj 317 (by decide +kernel), tbi 319 (by decide +kernel), sli 17 (by decide +kernel)⟩
theorem lf_RX4_268 {mt : MT} (h : (mN mt).cls = RX4) : FL mt 268 1 8 := Or.inr ⟨"LetterCuts", by rw [h]; exact tbj 171 (by decide +kernel)⟩
theorem lfm_RX0_9 {mt : MT} (h : (mN mt).cls = RX0) : Cond.fieldLink (mN mt).cls 9 (cT 0 0).1 (cT 0 0).2.1 (cT 0 0).2.2.1 ∈ lw_tbl := by rw [h]; exact tbi 138 (by decide +kernel)
theorem lf_RX0_9 {mt : MT} (h : (mN mt).cls = RX0) : FL mt 9 0 0 := Or.inl (lfm_RX0_9 h)
theorem lfm_RX0_15 {mt : MT} (h : (mN mt).cls = RX0) : Cond.fieldLink (mN mt).cls 15 (cT 0 1).1 (cT 0 1).2.1 (cT 0 1).2.2.1 ∈ lw_tbl := by rw [h]; exact tbi 139 (by decide +kernel)
theorem lf_RX0_15 {mt : MT} (h : (mN mt).cls = RX0) : FL mt 15 0 1 := Or.inl (lfm_RX0_15 h)
theorem lfm_RX0_19 {mt : MT} (h : (mN mt).cls = RX0) : Cond.fieldLink (mN mt).cls 19 (cT 0 2).1 (cT 0 2).2.1 (cT 0 2).2.2.1 ∈ lw_tbl := by rw [h]; exact tbi 140 (by decide +kernel)
theorem lf_RX0_19 {mt : MT} (h : (mN mt).cls = RX0) : FL mt 19 0 2 := Or.inl (lfm_RX0_19 h)
theorem lc_RX0_23 {mt : MT} (h : (mN mt).cls = RX0) : Cond.methodLink (mN mt).cls 23 (mN mJ7_fill_53178) ∈ lw_tbl ∧ Cond.static (mN mJ7_fill_53178) ∈ lw_tbl := by rw [h]; exact ⟨tbi 246 (by decide +kernel), tbi 41 (by decide +kernel)⟩
theorem lfm_RX0_29 {mt : MT} (h : (mN mt).cls = RX0) : Cond.fieldLink (mN mt).cls 29 (cT 0 3).1 (cT 0 3).2.1 (cT 0 3).2.2.1 ∈ lw_tbl := by rw [h]; exact tbi 141 (by decide +kernel)
theorem lf_RX0_29 {mt : MT} (h : (mN mt).cls = RX0) : FL mt 29 0 3 := Or.inl (lfm_RX0_29 h)
theorem lc_RX0_33 {mt : MT} (h : (mN mt).cls = RX0) : Cond.methodLink (mN mt).cls 33 (mN mX0_findCell) ∈ lw_tbl ∧ Cond.instanceMethod (mN mX0_findCell) ∈ lw_tbl ∧ Cond.selects (cR 0) (mN mX0_findCell) (mN mX0_findCell) ∈ lw_tbl := by rw [h]; exact ⟨tbi 300 (by decide +kernel), tbi 302 (by decide +kernel), sli 14 (by decide +kernel)⟩
theorem lc_RX0_39 {mt : MT} (h : (mN mt).cls = RX0) : Cond.methodLink (mN mt).cls 39 (mN mX0_canMove) ∈ lw_tbl ∧ Cond.instanceMethod (mN mX0_canMove) ∈ lw_tbl ∧ Cond.selects (cR 0) (mN mX0_canMove) (mN mX0_canMove) ∈ lw_tbl := by rw [h]; exact ⟨tbi 305 (by decide +kernel), tbi 307 (by decide +kernel), sli 15 (by decide +kernel)⟩
theorem lc_RX1_11 {mt : MT} (h : (mN mt).cls = RX1) : Cond.methodLinkNest (mN mt).cls 11 (mN mX0_init) "LetterCuts" ∈ tables_1 ∧ Cond.instanceMethod (mN mX0_init) ∈ lw_tbl := by rw [h]; exact ⟨tbj 159 (by decide +kernel), tbi 135 (by decide +kernel)⟩
theorem lfm_RX1_12 {mt : MT} (h : (mN mt).cls = RX1) : Cond.fieldLink (mN mt).cls 12 (cT 1 0).1 (cT 1 0).2.1 (cT 1 0).2.2.1 ∈ lw_tbl := by rw [h]; exact tbi 162 (by decide +kernel)
theorem lf_RX1_12 {mt : MT} (h : (mN mt).cls = RX1) : FL mt 12 1 0 := Or.inl (lfm_RX1_12 h)
theorem lfm_RX1_18 {mt : MT} (h : (mN mt).cls = RX1) : Cond.fieldLink (mN mt).cls 18 (cT 1 1).1 (cT 1 1).2.1 (cT 1 1).2.2.1 ∈ lw_tbl := by rw [h]; exact tbi 163 (by decide +kernel)
theorem lf_RX1_18 {mt : MT} (h : (mN mt).cls = RX1) : FL mt 18 1 1 := Or.inl (lfm_RX1_18 h)
theorem lfm_RX1_22 {mt : MT} (h : (mN mt).cls = RX1) : Cond.fieldLink (mN mt).cls 22 (cT 1 2).1 (cT 1 2).2.1 (cT 1 2).2.2.1 ∈ lw_tbl := by rw [h]; exact tbi 164 (by decide +kernel)
theorem lf_RX1_22 {mt : MT} (h : (mN mt).cls = RX1) : FL mt 22 1 2 := Or.inl (lfm_RX1_22 h)
theorem lfm_RX1_27 {mt : MT} (h : (mN mt).cls = RX1) : Cond.fieldLink (mN mt).cls 27 (cT 1 3).1 (cT 1 3).2.1 (cT 1 3).2.2.1 ∈ lw_tbl := by rw [h]; exact tbi 165 (by decide +kernel)
theorem lf_RX1_27 {mt : MT} (h : (mN mt).cls = RX1) : FL mt 27 1 3 := Or.inl (lfm_RX1_27 h)
theorem lfm_RX1_30 {mt : MT} (h : (mN mt).cls = RX1) : Cond.fieldLink (mN mt).cls 30 (cT 1 4).1 (cT 1 4).2.1 (cT 1 4).2.2.1 ∈ lw_tbl := by rw [h]; exact tbi 166 (by decide +kernel)
theorem lf_RX1_30 {mt : MT} (h : (mN mt).cls = RX1) : FL mt 30 1 4 := Or.inl (lfm_RX1_30 h)
theorem lfm_RX1_34 {mt : MT} (h : (mN mt).cls = RX1) : Cond.fieldLink (mN mt).cls 34 (cT 1 6).1 (cT 1 6).2.1 (cT 1 6).2.2.1 ∈ lw_tbl := by rw [h]; exact tbi 168 (by decide +kernel)
theorem lf_RX1_34 {mt : MT} (h : (mN mt).cls = RX1) : FL mt 34 1 6 := Or.inl (lfm_RX1_34 h)
theorem lfm_RX1_37 {mt : MT} (h : (mN mt).cls = RX1) : Cond.fieldLink (mN mt).cls 37 (cT 1 7).1 (cT 1 7).2.1 (cT 1 7).2.2.1 ∈ lw_tbl := by rw [h]; exact tbi 169 (by decide +kernel)
theorem lf_RX1_37 {mt : MT} (h : (mN mt).cls = RX1) : FL mt 37 1 7 := Or.inl (lfm_RX1_37 h)
theorem lfm_RX1_40 {mt : MT} (h : (mN mt).cls = RX1) : Cond.fieldLink (mN mt).cls 40 (cT 1 8).1 (cT 1 8).2.1 (cT 1 8).2.2.1 ∈ lw_tbl := by rw [h]; exact tbi 170 (by decide +kernel)
theorem lf_RX1_40 {mt : MT} (h : (mN mt).cls = RX1) : FL mt 40 1 8 := Or.inl (lfm_RX1_40 h)
theorem lf_RX1_44 {mt : MT} (h : (mN mt).cls = RX1) : FL mt 44 3 7 := Or.inr ⟨"LetterCuts", by rw [h]; exact tbj 61 (by decide +kernel)⟩
theorem lc_RX1_49 {mt : MT} (h : (mN mt).cls = RX1) : Cond.methodLink (mN mt).cls 49 (mN mJ9_min_7cf53) ∈ lw_tbl ∧ Cond.static (mN mJ9_min_7cf53) ∈ lw_tbl := by rw [h]; exact ⟨tbi 321 (by decide +kernel), tbi 322 (by decide +kernel)⟩
theorem lc_RX1_55 {mt : MT} (h : (mN mt).cls = RX1) : Cond.methodLink (mN mt).cls 55 (mN mJ9_max_7cf53) ∈ lw_tbl ∧ Cond.static (mN mJ9_max_7cf53) ∈ lw_tbl := by rw [h]; exact ⟨tbi 324 (by decide +kernel), tbi 325 (by decide +kernel)⟩
theorem lfm_RX1_58 {mt : MT} (h : (mN mt).cls = RX1) : Cond.fieldLink (mN mt).cls 58 (cT 1 5).1 (cT 1 5).2.1 (cT 1 5).2.2.1 ∈ lw_tbl := by rw [h]; exact tbi 167 (by decide +kernel)
theorem lf_RX1_58 {mt : MT} (h : (mN mt).cls = RX1) : FL mt 58 1 5 := Or.inl (lfm_RX1_58 h)
theorem lc_RX1_61 {mt : MT} (h : (mN mt).cls = RX1) : Cond.methodLinkNest (mN mt).cls 61 (mN mX3_hasSpot) "LetterCuts" ∈ tables_1 ∧ Cond.instanceMethod (mN mX3_hasSpot) ∈ lw_tbl ∧ Cond.selects (cR 3) (mN mX3_hasSpot) (mN mX3_hasSpot) ∈ lw_tbl := by rw [h]; exact ⟨tbj 327 (by decide +kernel), tbi 265 (by decide +kernel), sli 7 (by decide +kernel)⟩
theorem lc_RX1_65 {mt : MT} (h : (mN mt).cls = RX1) : Cond.methodLinkNest (mN mt).cls 65 (mN mX3_cellOf) "LetterCuts" ∈ tables_1 ∧ Cond.instanceMethod (mN mX3_cellOf) ∈ lw_tbl ∧ Cond.selects (cR 3) (mN mX3_cellOf) (mN mX3_cellOf) ∈ lw_tbl := by rw [h]; exact ⟨tbj 328 (by decide +kernel), tbi 279 (by decide +kernel), sli 9 (by decide +kernel)⟩
theorem lc_RX1_69 {mt : MT} (h : (mN mt).cls = RX1) : Cond.methodLinkNest (mN mt).cls 69 (mN mX3_messageAt) "LetterCuts" ∈ tables_1 ∧ Cond.instanceMethod (mN mX3_messageAt) ∈ lw_tbl ∧ Cond.selects (cR 3) (mN mX3_messageAt) (mN mX3_messageAt) ∈ lw_tbl := by rw [h]; exact ⟨tbj 329 (by decide +kernel), tbi 249 (by decide +kernel), sli 3 (by decide +kernel)⟩
theorem lc_RX1_72 {mt : MT} (h : (mN mt).cls = RX1) : Cond.methodLinkNest (mN mt).cls 72 (mN mX3_cellsWith) "LetterCuts" ∈ tables_1 ∧ Cond.instanceMethod (mN mX3_cellsWith) ∈ lw_tbl ∧ Cond.selects (cR 3) (mN mX3_cellsWith) (mN mX3_cellsWith) ∈ lw_tbl := by rw [h]; exact ⟨tbj 330 (by decide +kernel), tbi 257 (by decide +kernel), sli 5 (by decide +kernel)⟩
theorem lc_RX1_76 {mt : MT} (h : (mN mt).cls = RX1) : Cond.methodLinkNest (mN mt).cls 76 (mN mX3_lettersFrom) "LetterCuts" ∈ tables_1 ∧ Cond.instanceMethod (mN mX3_lettersFrom) ∈ lw_tbl ∧ Cond.selects (cR 3) (mN mX3_lettersFrom) (mN mX3_lettersFrom) ∈ lw_tbl := by rw [h]; exact ⟨tbj 331 (by decide +kernel), tbi 333 (by decide +kernel), sli 18 (by decide +kernel)⟩
theorem lc_RX1_79 {mt : MT} (h : (mN mt).cls = RX1) : Cond.methodLink (mN mt).cls 79 (mN mX1_boundSaved) ∈ lw_tbl ∧ Cond.instanceMethod (mN mX1_boundSaved) ∈ lw_tbl ∧ Cond.selects (cR 1) (mN mX1_boundSaved) (mN mX1_boundSaved) ∈ lw_tbl := by rw [h]; exact ⟨tbi 336 (by decide +kernel), tbi 338 (by decide +kernel), sli 19 (by decide +kernel)⟩
theorem lfm_RX1_82 {mt : MT} (h : (mN mt).cls = RX1) : Cond.fieldLink (mN mt).cls 82 (cT 1 9).1 (cT 1 9).2.1 (cT 1 9).2.2.1 ∈ lw_tbl := by rw [h]; exact tbi 172 (by decide +kernel)
theorem lf_RX1_82 {mt : MT} (h : (mN mt).cls = RX1) : FL mt 82 1 9 := Or.inl (lfm_RX1_82 h)
theorem lc_RX1_86 {mt : MT} (h : (mN mt).cls = RX1) : Cond.methodLink (mN mt).cls 86 (mN mX1_canSpell) ∈ lw_tbl ∧ Cond.instanceMethod (mN mX1_canSpell) ∈ lw_tbl ∧ Cond.selects (cR 1) (mN mX1_canSpell) (mN mX1_canSpell) ∈ lw_tbl := by rw [h]; exact ⟨tbi 344 (by decide +kernel), tbi 346 (by decide +kernel), sli 21 (by decide +kernel)⟩
theorem lc_RX1_90 {mt : MT} (h : (mN mt).cls = RX1) : Cond.methodLink (mN mt).cls 90 (mN mX1_canSave) ∈ lw_tbl ∧ Cond.instanceMethod (mN mX1_canSave) ∈ lw_tbl ∧ Cond.selects (cR 1) (mN mX1_canSave) (mN mX1_canSave) ∈ lw_tbl := by rw [h]; exact ⟨tbi 351 (by decide +kernel), tbi 353 (by decide +kernel), sli 22 (by decide +kernel)⟩
theorem lc_RX1_94 {mt : MT} (h : (mN mt).cls = RX1) : Cond.methodLink (mN mt).cls 94 (mN mX1_chooseCut) ∈ lw_tbl ∧ Cond.instanceMethod (mN mX1_chooseCut) ∈ lw_tbl ∧ Cond.selects (cR 1) (mN mX1_chooseCut) (mN mX1_chooseCut) ∈ lw_tbl := by rw [h]; exact ⟨tbi 363 (by decide +kernel), tbi 365 (by decide +kernel), sli 25 (by decide +kernel)⟩
theorem lc_RX1_98 {mt : MT} (h : (mN mt).cls = RX1) : Cond.methodLink (mN mt).cls 98 (mN mX1_freeStrip) ∈ lw_tbl ∧ Cond.instanceMethod (mN mX1_freeStrip) ∈ lw_tbl ∧ Cond.selects (cR 1) (mN mX1_freeStrip) (mN mX1_freeStrip) ∈ lw_tbl := by rw [h]; exact ⟨tbi 359 (by decide +kernel), tbi 361 (by decide +kernel), sli 24 (by decide +kernel)⟩
theorem lc_RX1_102 {mt : MT} (h : (mN mt).cls = RX1) : Cond.methodLink (mN mt).cls 102 (mN mX1_canSaveAt) ∈ lw_tbl ∧ Cond.instanceMethod (mN mX1_canSaveAt) ∈ lw_tbl ∧ Cond.selects (cR 1) (mN mX1_canSaveAt) (mN mX1_canSaveAt) ∈ lw_tbl := by rw [h]; exact ⟨tbi 355 (by decide +kernel), tbi 357 (by decide +kernel), sli 23 (by decide +kernel)⟩
theorem lc_RX1_105 {mt : MT} (h : (mN mt).cls = RX1) : Cond.methodLinkNest (mN mt).cls 105 (mN mX0_clear) "LetterCuts" ∈ tables_1 ∧ Cond.instanceMethod (mN mX0_clear) ∈ lw_tbl ∧ Cond.selects (cR 0) (mN mX0_clear) (mN mX0_clear) ∈ lw_tbl := by rw [h]; exact ⟨tbj 348 (by decide +kernel), tbi 244 (by decide +kernel), sli 2 (by decide +kernel)⟩
theorem lc_RX1_110 {mt : MT} (h : (mN mt).cls = RX1) : Cond.methodLinkNest (mN mt).cls 110 (mN mX0_give) "LetterCuts" ∈ tables_1 ∧ Cond.instanceMethod (mN mX0_give) ∈ lw_tbl ∧ Cond.selects (cR 0) (mN mX0_give) (mN mX0_give) ∈ lw_tbl := by rw [h]; exact ⟨tbj 350 (by decide +kernel), tbi 298 (by decide +kernel), sli 13 (by decide +kernel)⟩
theorem lc_RX2_11 {mt : MT} (h : (mN mt).cls = RX2) : Cond.methodLinkNest (mN mt).cls 11 (mN mX3_init) "LetterCuts" ∈ tables_1 ∧ Cond.instanceMethod (mN mX3_init) ∈ lw_tbl := by rw [h]; exact ⟨tbj 98 (by decide +kernel), tbi 33 (by decide +kernel)⟩
theorem lfm_RX2_12 {mt : MT} (h : (mN mt).cls = RX2) : Cond.fieldLink (mN mt).cls 12 (cT 2 0).1 (cT 2 0).2.1 (cT 2 0).2.2.1 ∈ lw_tbl := by rw [h]; exact tbi 99 (by decide +kernel)
theorem lf_RX2_12 {mt : MT} (h : (mN mt).cls = RX2) : FL mt 12 2 0 := Or.inl (lfm_RX2_12 h)
theorem lfm_RX2_18 {mt : MT} (h : (mN mt).cls = RX2) : Cond.fieldLink (mN mt).cls 18 (cT 2 1).1 (cT 2 1).2.1 (cT 2 1).2.2.1 ∈ lw_tbl := by rw [h]; exact tbi 101 (by decide +kernel)
theorem lf_RX2_18 {mt : MT} (h : (mN mt).cls = RX2) : FL mt 18 2 1 := Or.inl (lfm_RX2_18 h)
theorem lfm_RX2_22 {mt : MT} (h : (mN mt).cls = RX2) : Cond.fieldLink (mN mt).cls 22 (cT 2 5).1 (cT 2 5).2.1 (cT 2 5).2.2.1 ∈ lw_tbl := by rw [h]; exact tbi 105 (by decide +kernel)
theorem lf_RX2_22 {mt : MT} (h : (mN mt).cls = RX2) : FL mt 22 2 5 := Or.inl (lfm_RX2_22 h)
theorem lc_RX2_26 {mt : MT} (h : (mN mt).cls = RX2) : Cond.methodLink (mN mt).cls 26 (mN mJ9_min_7cf53) ∈ lw_tbl ∧ Cond.static (mN mJ9_min_7cf53) ∈ lw_tbl := by rw [h]; exact ⟨tbi 537 (by decide +kernel), tbi 322 (by decide +kernel)⟩
theorem lc_RX2_32 {mt : MT} (h : (mN mt).cls = RX2) : Cond.methodLink (mN mt).cls 32 (mN mJ9_max_7cf53) ∈ lw_tbl ∧ Cond.static (mN mJ9_max_7cf53) ∈ lw_tbl := by rw [h]; exact ⟨tbi 538 (by decide +kernel), tbi 325 (by decide +kernel)⟩
theorem lfm_RX2_35 {mt : MT} (h : (mN mt).cls = RX2) : Cond.fieldLink (mN mt).cls 35 (cT 2 2).1 (cT 2 2).2.1 (cT 2 2).2.2.1 ∈ lw_tbl := by rw [h]; exact tbi 102 (by decide +kernel)
theorem lf_RX2_35 {mt : MT} (h : (mN mt).cls = RX2) : FL mt 35 2 2 := Or.inl (lfm_RX2_35 h)
theorem lfm_RX2_44 {mt : MT} (h : (mN mt).cls = RX2) : Cond.fieldLink (mN mt).cls 44 (cT 2 3).1 (cT 2 3).2.1 (cT 2 3).2.2.1 ∈ lw_tbl := by rw [h]; exact tbi 103 (by decide +kernel)
theorem lf_RX2_44 {mt : MT} (h : (mN mt).cls = RX2) : FL mt 44 2 3 := Or.inl (lfm_RX2_44 h)
theorem lfm_RX2_47 {mt : MT} (h : (mN mt).cls = RX2) : Cond.fieldLink (mN mt).cls 47 (cT 2 4).1 (cT 2 4).2.1 (cT 2 4).2.2.1 ∈ lw_tbl := by rw [h]; exact tbi 104 (by decide +kernel)
theorem lf_RX2_47 {mt : MT} (h : (mN mt).cls = RX2) : FL mt 47 2 4 := Or.inl (lfm_RX2_47 h)
theorem lfm_RX2_50 {mt : MT} (h : (mN mt).cls = RX2) : Cond.fieldLink (mN mt).cls 50 (cT 2 6).1 (cT 2 6).2.1 (cT 2 6).2.2.1 ∈ lw_tbl := by rw [h]; exact tbi 107 (by decide +kernel)
theorem lf_RX2_50 {mt : MT} (h : (mN mt).cls = RX2) : FL mt 50 2 6 := Or.inl (lfm_RX2_50 h)
theorem lfm_RX2_54 {mt : MT} (h : (mN mt).cls = RX2) : Cond.fieldLink (mN mt).cls 54 (cT 2 7).1 (cT 2 7).2.1 (cT 2 7).2.2.1 ∈ lw_tbl := by rw [h]; exact tbi 108 (by decide +kernel)
theorem lf_RX2_54 {mt : MT} (h : (mN mt).cls = RX2) : FL mt 54 2 7 := Or.inl (lfm_RX2_54 h)
theorem lfm_RX2_57 {mt : MT} (h : (mN mt).cls = RX2) : Cond.fieldLink (mN mt).cls 57 (cT 2 8).1 (cT 2 8).2.1 (cT 2 8).2.2.1 ∈ lw_tbl := by rw [h]; exact tbi 109 (by decide +kernel)
theorem lf_RX2_57 {mt : MT} (h : (mN mt).cls = RX2) : FL mt 57 2 8 := Or.inl (lfm_RX2_57 h)
theorem lfm_RX2_60 {mt : MT} (h : (mN mt).cls = RX2) : Cond.fieldLink (mN mt).cls 60 (cT 2 9).1 (cT 2 9).2.1 (cT 2 9).2.2.1 ∈ lw_tbl := by rw [h]; exact tbi 110 (by decide +kernel)
theorem lf_RX2_60 {mt : MT} (h : (mN mt).cls = RX2) : FL mt 60 2 9 := Or.inl (lfm_RX2_60 h)
theorem lc_RX2_63 {mt : MT} (h : (mN mt).cls = RX2) : Cond.methodLink (mN mt).cls 63 (mN mX2_readPage) ∈ lw_tbl ∧ Cond.instanceMethod (mN mX2_readPage) ∈ lw_tbl ∧ Cond.selects (cR 2) (mN mX2_readPage) (mN mX2_readPage) ∈ lw_tbl := by rw [h]; exact ⟨tbi 540 (by decide +kernel), tbi 542 (by decide +kernel), sli 39 (by decide +kernel)⟩
theorem lc_RX2_66 {mt : MT} (h : (mN mt).cls = RX2) : Cond.methodLink (mN mt).cls 66 (mN mX2_hasMore) ∈ lw_tbl ∧ Cond.instanceMethod (mN mX2_hasMore) ∈ lw_tbl ∧ Cond.selects (cR 2) (mN mX2_hasMore) (mN mX2_hasMore) ∈ lw_tbl := by rw [h]; exact ⟨tbi 621 (by decide +kernel), tbi 623 (by decide +kernel), sli 46 (by decide +kernel)⟩
theorem lc_RX2_70 {mt : MT} (h : (mN mt).cls = RX2) : Cond.methodLink (mN mt).cls 70 (mN mX2_readStatement) ∈ lw_tbl ∧ Cond.instanceMethod (mN mX2_readStatement) ∈ lw_tbl ∧ Cond.selects (cR 2) (mN mX2_readStatement) (mN mX2_readStatement) ∈ lw_tbl := by rw [h]; exact ⟨tbi 625 (by decide +kernel), tbi 627 (by decide +kernel), sli 47 (by decide +kernel)⟩
theorem lc_RX2_73 {mt : MT} (h : (mN mt).cls = RX2) : Cond.methodLink (mN mt).cls 73 (mN mX2_skipSpaces) ∈ lw_tbl ∧ Cond.instanceMethod (mN mX2_skipSpaces) ∈ lw_tbl ∧ Cond.selects (cR 2) (mN mX2_skipSpaces) (mN mX2_skipSpaces) ∈ lw_tbl := by rw [h]; exact ⟨tbi 544 (by decide +kernel), tbi 546 (by decide +kernel), sli 40 (by decide +kernel)⟩
theorem lc_RX2_76 {mt : MT} (h : (mN mt).cls = RX2) : Cond.methodLink (mN mt).cls 76 (mN mX2_skipWord) ∈ lw_tbl ∧ Cond.instanceMethod (mN mX2_skipWord) ∈ lw_tbl ∧ Cond.selects (cR 2) (mN mX2_skipWord) (mN mX2_skipWord) ∈ lw_tbl := by rw [h]; exact ⟨tbi 548 (by decide +kernel), tbi 550 (by decide +kernel), sli 41 (by decide +kernel)⟩
theorem lc_RX2_81 {mt : MT} (h : (mN mt).cls = RX2) : Cond.methodLink (mN mt).cls 81 (mN mX2_isWord) ∈ lw_tbl ∧ Cond.instanceMethod (mN mX2_isWord) ∈ lw_tbl ∧ Cond.selects (cR 2) (mN mX2_isWord) (mN mX2_isWord) ∈ lw_tbl := by rw [h]; exact ⟨tbi 556 (by decide +kernel), tbi 558 (by decide +kernel), sli 42 (by decide +kernel)⟩
theorem lc_RX2_85 {mt : MT} (h : (mN mt).cls = RX2) : Cond.methodLink (mN mt).cls 85 (mN mX2_fail) ∈ lw_tbl ∧ Cond.instanceMethod (mN mX2_fail) ∈ lw_tbl ∧ Cond.selects (cR 2) (mN mX2_fail) (mN mX2_fail) ∈ lw_tbl := by rw [h]; exact ⟨tbi 608 (by decide +kernel), tbi 610 (by decide +kernel), sli 43 (by decide +kernel)⟩
theorem lc_RX2_89 {mt : MT} (h : (mN mt).cls = RX2) : Cond.methodLink (mN mt).cls 89 (mN mX2_readNumber) ∈ lw_tbl ∧ Cond.instanceMethod (mN mX2_readNumber) ∈ lw_tbl ∧ Cond.selects (cR 2) (mN mX2_readNumber) (mN mX2_readNumber) ∈ lw_tbl := by rw [h]; exact ⟨tbi 612 (by decide +kernel), tbi 614 (by decide +kernel), sli 44 (by decide +kernel)⟩
theorem lc_RX2_93 {mt : MT} (h : (mN mt).cls = RX2) : Cond.methodLink (mN mt).cls 93 (mN mX2_readSemicolon) ∈ lw_tbl ∧ Cond.instanceMethod (mN mX2_readSemicolon) ∈ lw_tbl ∧ Cond.selects (cR 2) (mN mX2_readSemicolon) (mN mX2_readSemicolon) ∈ lw_tbl := by rw [h]; exact ⟨tbi 616 (by decide +kernel), tbi 618 (by decide +kernel), sli 45 (by decide +kernel)⟩
theorem lc_RX2_96 {mt : MT} (h : (mN mt).cls = RX2) : Cond.methodLinkNest (mN mt).cls 96 (mN mX3_startAnew) "LetterCuts" ∈ tables_1 ∧ Cond.instanceMethod (mN mX3_startAnew) ∈ lw_tbl ∧ Cond.selects (cR 3) (mN mX3_startAnew) (mN mX3_startAnew) ∈ lw_tbl := by rw [h]; exact ⟨tbj 620 (by decide +kernel), tbi 38 (by decide +kernel), sli 0 (by decide +kernel)⟩
theorem lc_RX2_101 {mt : MT} (h : (mN mt).cls = RX2) : Cond.methodLink (mN mt).cls 101 (mN mX2_readLines) ∈ lw_tbl ∧ Cond.instanceMethod (mN mX2_readLines) ∈ lw_tbl ∧ Cond.selects (cR 2) (mN mX2_readLines) (mN mX2_readLines) ∈ lw_tbl := by rw [h]; exact ⟨tbi 630 (by decide +kernel), tbi 632 (by decide +kernel), sli 48 (by decide +kernel)⟩
theorem lc_RX2_109 {mt : MT} (h : (mN mt).cls = RX2) : Cond.methodLink (mN mt).cls 109 (mN mX2_readSizes) ∈ lw_tbl ∧ Cond.instanceMethod (mN mX2_readSizes) ∈ lw_tbl ∧ Cond.selects (cR 2) (mN mX2_readSizes) (mN mX2_readSizes) ∈ lw_tbl := by rw [h]; exact ⟨tbi 640 (by decide +kernel), tbi 642 (by decide +kernel), sli 50 (by decide +kernel)⟩
theorem lf_RX2_114 {mt : MT} (h : (mN mt).cls = RX2) : FL mt 114 3 2 := Or.inr ⟨"LetterCuts", by rw [h]; exact tbj 50 (by decide +kernel)⟩
theorem lf_RX2_117 {mt : MT} (h : (mN mt).cls = RX2) : FL mt 117 3 1 := Or.inr ⟨"LetterCuts", by rw [h]; exact tbj 47 (by decide +kernel)⟩
theorem lc_RX2_120 {mt : MT} (h : (mN mt).cls = RX2) : Cond.methodLink (mN mt).cls 120 (mN mX2_readLine) ∈ lw_tbl ∧ Cond.instanceMethod (mN mX2_readLine) ∈ lw_tbl ∧ Cond.selects (cR 2) (mN mX2_readLine) (mN mX2_readLine) ∈ lw_tbl := by rw [h]; exact ⟨tbi 634 (by decide +kernel), tbi 636 (by decide +kernel), sli 49 (by decide +kernel)⟩
theorem lc_RX2_123 {mt : MT} (h : (mN mt).cls = RX2) : Cond.methodLinkNest (mN mt).cls 123 (mN mX4_isLetter) "LetterCuts" ∈ tables_1 ∧ Cond.static (mN mX4_isLetter) ∈ lw_tbl := by rw [h]; exact ⟨tbj 552 (by decide +kernel), tbi 553 (by decide +kernel)⟩
theorem lf_RX2_127 {mt : MT} (h : (mN mt).cls = RX2) : FL mt 127 3 0 := Or.inr ⟨"LetterCuts", by rw [h]; exact tbj 45 (by decide +kernel)⟩
theorem lf_RX2_130 {mt : MT} (h : (mN mt).cls = RX2) : FL mt 130 3 3 := Or.inr ⟨"LetterCuts", by rw [h]; exact tbj 53 (by decide +kernel)⟩
theorem lf_RX2_134 {mt : MT} (h : (mN mt).cls = RX2) : FL mt 134 3 4 := Or.inr ⟨"LetterCuts", by rw [h]; exact tbj 55 (by decide +kernel)⟩
theorem lc_RX2_136 {mt : MT} (h : (mN mt).cls = RX2) : Cond.methodLink (mN mt).cls 136 (mN mJ0_length_8abf5) ∈ lw_tbl ∧ Cond.instanceMethod (mN mJ0_length_8abf5) ∈ lw_tbl ∧ Cond.selects ("java/lang/String") (mN mJ0_length_8abf5) (mN mJ0_length_8abf5) ∈ lw_tbl := by rw [h]; exact ⟨tbi 560 (by decide +kernel), tbi 561 (by decide +kernel), tbi 562 (by decide +kernel)⟩
theorem lc_RX2_141 {mt : MT} (h : (mN mt).cls = RX2) : Cond.methodLink (mN mt).cls 141 (mN mJ0_charAt_5068e) ∈ lw_tbl ∧ Cond.instanceMethod (mN mJ0_charAt_5068e) ∈ lw_tbl ∧ Cond.selects ("java/lang/String") (mN mJ0_charAt_5068e) (mN mJ0_charAt_5068e) ∈ lw_tbl := by rw [h]; exact ⟨tbi 570 (by decide +kernel), tbi 571 (by decide +kernel), tbi 572 (by decide +kernel)⟩
theorem lfm_RX3_9 {mt : MT} (h : (mN mt).cls = RX3) : Cond.fieldLink (mN mt).cls 9 (cT 3 3).1 (cT 3 3).2.1 (cT 3 3).2.2.1 ∈ lw_tbl := by rw [h]; exact tbi 52 (by decide +kernel)
theorem lf_RX3_9 {mt : MT} (h : (mN mt).cls = RX3) : FL mt 9 3 3 := Or.inl (lfm_RX3_9 h)
theorem lfm_RX3_15 {mt : MT} (h : (mN mt).cls = RX3) : Cond.fieldLink (mN mt).cls 15 (cT 3 4).1 (cT 3 4).2.1 (cT 3 4).2.2.1 ∈ lw_tbl := by rw [h]; exact tbi 54 (by decide +kernel)
theorem lf_RX3_15 {mt : MT} (h : (mN mt).cls = RX3) : FL mt 15 3 4 := Or.inl (lfm_RX3_15 h)
theorem lfm_RX3_18 {mt : MT} (h : (mN mt).cls = RX3) : Cond.fieldLink (mN mt).cls 18 (cT 3 6).1 (cT 3 6).2.1 (cT 3 6).2.2.1 ∈ lw_tbl := by rw [h]; exact tbi 58 (by decide +kernel)
theorem lf_RX3_18 {mt : MT} (h : (mN mt).cls = RX3) : FL mt 18 3 6 := Or.inl (lfm_RX3_18 h)
theorem lc_RX3_21 {mt : MT} (h : (mN mt).cls = RX3) : Cond.methodLink (mN mt).cls 21 (mN mX3_startAnew) ∈ lw_tbl ∧ Cond.instanceMethod (mN mX3_startAnew) ∈ lw_tbl ∧ Cond.selects (cR 3) (mN mX3_startAnew) (mN mX3_startAnew) ∈ lw_tbl := by rw [h]; exact ⟨tbi 36 (by decide +kernel), tbi 38 (by decide +kernel), sli 0 (by decide +kernel)⟩
theorem lfm_RX3_25 {mt : MT} (h : (mN mt).cls = RX3) : Cond.fieldLink (mN mt).cls 25 (cT 3 0).1 (cT 3 0).2.1 (cT 3 0).2.2.1 ∈ lw_tbl := by rw [h]; exact tbi 43 (by decide +kernel)
theorem lf_RX3_25 {mt : MT} (h : (mN mt).cls = RX3) : FL mt 25 3 0 := Or.inl (lfm_RX3_25 h)
theorem lfm_RX3_29 {mt : MT} (h : (mN mt).cls = RX3) : Cond.fieldLink (mN mt).cls 29 (cT 3 1).1 (cT 3 1).2.1 (cT 3 1).2.2.1 ∈ lw_tbl := by rw [h]; exact tbi 46 (by decide +kernel)
theorem lf_RX3_29 {mt : MT} (h : (mN mt).cls = RX3) : FL mt 29 3 1 := Or.inl (lfm_RX3_29 h)
theorem lfm_RX3_32 {mt : MT} (h : (mN mt).cls = RX3) : Cond.fieldLink (mN mt).cls 32 (cT 3 2).1 (cT 3 2).2.1 (cT 3 2).2.2.1 ∈ lw_tbl := by rw [h]; exact tbi 49 (by decide +kernel)
theorem lf_RX3_32 {mt : MT} (h : (mN mt).cls = RX3) : FL mt 32 3 2 := Or.inl (lfm_RX3_32 h)
theorem lc_RX3_35 {mt : MT} (h : (mN mt).cls = RX3) : Cond.methodLink (mN mt).cls 35 (mN mJ7_fill_53178) ∈ lw_tbl ∧ Cond.static (mN mJ7_fill_53178) ∈ lw_tbl := by rw [h]; exact ⟨tbi 40 (by decide +kernel), tbi 41 (by decide +kernel)⟩
theorem lfm_RX3_41 {mt : MT} (h : (mN mt).cls = RX3) : Cond.fieldLink (mN mt).cls 41 (cT 3 5).1 (cT 3 5).2.1 (cT 3 5).2.2.1 ∈ lw_tbl := by rw [h]; exact tbi 56 (by decide +kernel)
theorem lf_RX3_41 {mt : MT} (h : (mN mt).cls = RX3) : FL mt 41 3 5 := Or.inl (lfm_RX3_41 h)
theorem lfm_RX3_45 {mt : MT} (h : (mN mt).cls = RX3) : Cond.fieldLink (mN mt).cls 45 (cT 3 7).1 (cT 3 7).2.1 (cT 3 7).2.2.1 ∈ lw_tbl := by rw [h]; exact tbi 60 (by decide +kernel)
theorem lf_RX3_45 {mt : MT} (h : (mN mt).cls = RX3) : FL mt 45 3 7 := Or.inl (lfm_RX3_45 h)
theorem lfm_RX3_48 {mt : MT} (h : (mN mt).cls = RX3) : Cond.fieldLink (mN mt).cls 48 (cT 3 8).1 (cT 3 8).2.1 (cT 3 8).2.2.1 ∈ lw_tbl := by rw [h]; exact tbi 63 (by decide +kernel)
theorem lf_RX3_48 {mt : MT} (h : (mN mt).cls = RX3) : FL mt 48 3 8 := Or.inl (lfm_RX3_48 h)
theorem lfm_RX3_51 {mt : MT} (h : (mN mt).cls = RX3) : Cond.fieldLink (mN mt).cls 51 (cT 3 9).1 (cT 3 9).2.1 (cT 3 9).2.2.1 ∈ lw_tbl := by rw [h]; exact tbi 65 (by decide +kernel)
theorem lf_RX3_51 {mt : MT} (h : (mN mt).cls = RX3) : FL mt 51 3 9 := Or.inl (lfm_RX3_51 h)
theorem lc_RX3_60 {mt : MT} (h : (mN mt).cls = RX3) : Cond.methodLink (mN mt).cls 60 (mN mX3_countCells) ∈ lw_tbl ∧ Cond.instanceMethod (mN mX3_countCells) ∈ lw_tbl ∧ Cond.selects (cR 3) (mN mX3_countCells) (mN mX3_countCells) ∈ lw_tbl := by rw [h]; exact ⟨tbi 438 (by decide +kernel), tbi 440 (by decide +kernel), sli 34 (by decide +kernel)⟩
theorem lc_RX3_64 {mt : MT} (h : (mN mt).cls = RX3) : Cond.methodLinkNest (mN mt).cls 64 (mN mX4_rowOf) "LetterCuts" ∈ tables_1 ∧ Cond.static (mN mX4_rowOf) ∈ lw_tbl := by rw [h]; exact ⟨tbj 267 (by decide +kernel), tbi 268 (by decide +kernel)⟩
theorem lc_RX3_68 {mt : MT} (h : (mN mt).cls = RX3) : Cond.methodLinkNest (mN mt).cls 68 (mN mX4_columnOf) "LetterCuts" ∈ tables_1 ∧ Cond.static (mN mX4_columnOf) ∈ lw_tbl := by rw [h]; exact ⟨tbj 270 (by decide +kernel), tbi 271 (by decide +kernel)⟩
theorem lc_RX3_71 {mt : MT} (h : (mN mt).cls = RX3) : Cond.methodLinkNest (mN mt).cls 71 (mN mX4_sideOf) "LetterCuts" ∈ tables_1 ∧ Cond.static (mN mX4_sideOf) ∈ lw_tbl := by rw [h]; exact ⟨tbj 281 (by decide +kernel), tbi 282 (by decide +kernel)⟩
theorem lc_RX3_74 {mt : MT} (h : (mN mt).cls = RX3) : Cond.methodLink (mN mt).cls 74 (mN mX3_spotBehind) ∈ lw_tbl ∧ Cond.instanceMethod (mN mX3_spotBehind) ∈ lw_tbl ∧ Cond.selects (cR 3) (mN mX3_spotBehind) (mN mX3_spotBehind) ∈ lw_tbl := by rw [h]; exact ⟨tbi 284 (by decide +kernel), tbi 286 (by decide +kernel), sli 10 (by decide +kernel)⟩
theorem lc_RX3_77 {mt : MT} (h : (mN mt).cls = RX3) : Cond.methodLink (mN mt).cls 77 (mN mX3_hasSpot) ∈ lw_tbl ∧ Cond.instanceMethod (mN mX3_hasSpot) ∈ lw_tbl ∧ Cond.selects (cR 3) (mN mX3_hasSpot) (mN mX3_hasSpot) ∈ lw_tbl := by rw [h]; exact ⟨tbi 263 (by decide +kernel), tbi 265 (by decide +kernel), sli 7 (by decide +kernel)⟩
theorem lc_RX3_81 {mt : MT} (h : (mN mt).cls = RX3) : Cond.methodLink (mN mt).cls 81 (mN mX3_letterAt) ∈ lw_tbl ∧ Cond.instanceMethod (mN mX3_letterAt) ∈ lw_tbl ∧ Cond.selects (cR 3) (mN mX3_letterAt) (mN mX3_letterAt) ∈ lw_tbl := by rw [h]; exact ⟨tbi 259 (by decide +kernel), tbi 261 (by decide +kernel), sli 6 (by decide +kernel)⟩
theorem lc_RX3_84 {mt : MT} (h : (mN mt).cls = RX3) : Cond.methodLink (mN mt).cls 84 (mN mX3_cellOf) ∈ lw_tbl ∧ Cond.instanceMethod (mN mX3_cellOf) ∈ lw_tbl ∧ Cond.selects (cR 3) (mN mX3_cellOf) (mN mX3_cellOf) ∈ lw_tbl := by rw [h]; exact ⟨tbi 277 (by decide +kernel), tbi 279 (by decide +kernel), sli 9 (by decide +kernel)⟩
theorem lc_RX3_87 {mt : MT} (h : (mN mt).cls = RX3) : Cond.methodLink (mN mt).cls 87 (mN mX3_isThere) ∈ lw_tbl ∧ Cond.instanceMethod (mN mX3_isThere) ∈ lw_tbl ∧ Cond.selects (cR 3) (mN mX3_isThere) (mN mX3_isThere) ∈ lw_tbl := by rw [h]; exact ⟨tbi 288 (by decide +kernel), tbi 290 (by decide +kernel), sli 11 (by decide +kernel)⟩
theorem lc_RX3_90 {mt : MT} (h : (mN mt).cls = RX3) : Cond.methodLink (mN mt).cls 90 (mN mX3_sizeAt) ∈ lw_tbl ∧ Cond.instanceMethod (mN mX3_sizeAt) ∈ lw_tbl ∧ Cond.selects (cR 3) (mN mX3_sizeAt) (mN mX3_sizeAt) ∈ lw_tbl := by rw [h]; exact ⟨tbi 292 (by decide +kernel), tbi 294 (by decide +kernel), sli 12 (by decide +kernel)⟩
theorem lc_RX3_93 {mt : MT} (h : (mN mt).cls = RX3) : Cond.methodLink (mN mt).cls 93 (mN mJ13_bitCount_95d88) ∈ lw_tbl ∧ Cond.static (mN mJ13_bitCount_95d88) ∈ lw_tbl := by rw [h]; exact ⟨tbi 442 (by decide +kernel), tbi 443 (by decide +kernel)⟩
theorem lc_RX3_99 {mt : MT} (h : (mN mt).cls = RX3) : Cond.methodLink (mN mt).cls 99 (mN mX3_canUse) ∈ lw_tbl ∧ Cond.instanceMethod (mN mX3_canUse) ∈ lw_tbl ∧ Cond.selects (cR 3) (mN mX3_canUse) (mN mX3_canUse) ∈ lw_tbl := by rw [h]; exact ⟨tbi 273 (by decide +kernel), tbi 275 (by decide +kernel), sli 8 (by decide +kernel)⟩
theorem lc_RX3_102 {mt : MT} (h : (mN mt).cls = RX3) : Cond.methodLink (mN mt).cls 102 (mN mX3_hasMessageLetter) ∈ lw_tbl ∧ Cond.instanceMethod (mN mX3_hasMessageLetter) ∈ lw_tbl ∧ Cond.selects (cR 3) (mN mX3_hasMessageLetter) (mN mX3_hasMessageLetter) ∈ lw_tbl := by rw [h]; exact ⟨tbi 251 (by decide +kernel), tbi 253 (by decide +kernel), sli 4 (by decide +kernel)⟩
theorem lc_RX3_105 {mt : MT} (h : (mN mt).cls = RX3) : Cond.methodLink (mN mt).cls 105 (mN mX3_messageAt) ∈ lw_tbl ∧ Cond.instanceMethod (mN mX3_messageAt) ∈ lw_tbl ∧ Cond.selects (cR 3) (mN mX3_messageAt) (mN mX3_messageAt) ∈ lw_tbl := by rw [h]; exact ⟨tbi 335 (by decide +kernel), tbi 249 (by decide +kernel), sli 3 (by decide +kernel)⟩
theorem lc_RL_7 {mt : MT} (h : (mN mt).cls = RL) : Cond.methodLink (mN mt).cls 7 (mN mX4_load) ∈ lw_tbl ∧ Cond.instanceMethod (mN mX4_load) ∈ lw_tbl ∧ Cond.selects (cR 4) (mN mX4_load) (mN mX4_load) ∈ lw_tbl := by rw [h]; exact ⟨tbi 529 (by decide +kernel), tbi 530 (by decide +kernel), tbi 531 (by decide +kernel)⟩
theorem lc_RL_15 {mt : MT} (h : (mN mt).cls = RL) : Cond.methodLink (mN mt).cls 15 (mN mX4_state) ∈ lw_tbl ∧ Cond.instanceMethod (mN mX4_state) ∈ lw_tbl ∧ Cond.selects (cR 4) (mN mX4_state) (mN mX4_state) ∈ lw_tbl := by rw [h]; exact ⟨tbi 657 (by decide +kernel), tbi 431 (by decide +kernel), tbi 432 (by decide +kernel)⟩
theorem lc_RL_18 {mt : MT} (h : (mN mt).cls = RL) : Cond.methodLink (mN mt).cls 18 (mN mX4_letter) ∈ lw_tbl ∧ Cond.instanceMethod (mN mX4_letter) ∈ lw_tbl ∧ Cond.selects (cR 4) (mN mX4_letter) (mN mX4_letter) ∈ lw_tbl := by rw [h]; exact ⟨tbi 662 (by decide +kernel), tbi 663 (by decide +kernel), tbi 664 (by decide +kernel)⟩
theorem lc_RL_24 {mt : MT} (h : (mN mt).cls = RL) : Cond.methodLink (mN mt).cls 24 (mN mX4_place) ∈ lw_tbl ∧ Cond.instanceMethod (mN mX4_place) ∈ lw_tbl ∧ Cond.selects (cR 4) (mN mX4_place) (mN mX4_place) ∈ lw_tbl := by rw [h]; exact ⟨tbi 692 (by decide +kernel), tbi 693 (by decide +kernel), tbi 694 (by decide +kernel)⟩
theorem lc_RL_28 {mt : MT} (h : (mN mt).cls = RL) : Cond.methodLink (mN mt).cls 28 (mN mX4_stock) ∈ lw_tbl ∧ Cond.instanceMethod (mN mX4_stock) ∈ lw_tbl ∧ Cond.selects (cR 4) (mN mX4_stock) (mN mX4_stock) ∈ lw_tbl := by rw [h]; exact ⟨tbi 703 (by decide +kernel), tbi 704 (by decide +kernel), tbi 705 (by decide +kernel)⟩
theorem lc_RL_31 {mt : MT} (h : (mN mt).cls = RL) : Cond.methodLink (mN mt).cls 31 (mN mX4_message) ∈ lw_tbl ∧ Cond.instanceMethod (mN mX4_message) ∈ lw_tbl ∧ Cond.selects (cR 4) (mN mX4_message) (mN mX4_message) ∈ lw_tbl := by rw [h]; exact ⟨tbi 716 (by decide +kernel), tbi 717 (by decide +kernel), tbi 718 (by decide +kernel)⟩
theorem lc_RL_36 {mt : MT} (h : (mN mt).cls = RL) : Cond.methodLink (mN mt).cls 36 (mN mX4_cutOf) ∈ lw_tbl ∧ Cond.instanceMethod (mN mX4_cutOf) ∈ lw_tbl ∧ Cond.selects (cR 4) (mN mX4_cutOf) (mN mX4_cutOf) ∈ lw_tbl := by rw [h]; exact ⟨tbi 739 (by decide +kernel), tbi 740 (by decide +kernel), tbi 741 (by decide +kernel)⟩
theorem lc_RL_39 {mt : MT} (h : (mN mt).cls = RL) : Cond.methodLink (mN mt).cls 39 (mN mX4_longest) ∈ lw_tbl ∧ Cond.instanceMethod (mN mX4_longest) ∈ lw_tbl ∧ Cond.selects (cR 4) (mN mX4_longest) (mN mX4_longest) ∈ lw_tbl := by rw [h]; exact ⟨tbi 747 (by decide +kernel), tbi 748 (by decide +kernel), tbi 749 (by decide +kernel)⟩
theorem lc_RL_42 {mt : MT} (h : (mN mt).cls = RL) : Cond.methodLink (mN mt).cls 42 (mN mX4_tell) ∈ lw_tbl ∧ Cond.instanceMethod (mN mX4_tell) ∈ lw_tbl ∧ Cond.selects (cR 4) (mN mX4_tell) (mN mX4_tell) ∈ lw_tbl := by rw [h]; exact ⟨tbi 756 (by decide +kernel), tbi 757 (by decide +kernel), tbi 758 (by decide +kernel)⟩
theorem lc_RL_45 {mt : MT} (h : (mN mt).cls = RL) : Cond.methodLink (mN mt).cls 45 (mN mX4_cut) ∈ lw_tbl ∧ Cond.instanceMethod (mN mX4_cut) ∈ lw_tbl ∧ Cond.selects (cR 4) (mN mX4_cut) (mN mX4_cut) ∈ lw_tbl := by rw [h]; exact ⟨tbi 769 (by decide +kernel), tbi 770 (by decide +kernel), tbi 771 (by decide +kernel)⟩
theorem lc_RL_51 {mt : MT} (h : (mN mt).cls = RL) : Cond.methodLink (mN mt).cls 51 (mN mX4_snip) ∈ lw_tbl ∧ Cond.instanceMethod (mN mX4_snip) ∈ lw_tbl ∧ Cond.selects (cR 4) (mN mX4_snip) (mN mX4_snip) ∈ lw_tbl := by rw [h]; exact ⟨tbi 795 (by decide +kernel), tbi 796 (by decide +kernel), tbi 797 (by decide +kernel)⟩
theorem lc_RL_54 {mt : MT} (h : (mN mt).cls = RL) : Cond.methodLink (mN mt).cls 54 (mN mX4_least) ∈ lw_tbl ∧ Cond.instanceMethod (mN mX4_least) ∈ lw_tbl ∧ Cond.selects (cR 4) (mN mX4_least) (mN mX4_least) ∈ lw_tbl := by rw [h]; exact ⟨tbi 810 (by decide +kernel), tbi 811 (by decide +kernel), tbi 812 (by decide +kernel)⟩
theorem lc_RL_57 {mt : MT} (h : (mN mt).cls = RL) : Cond.methodLink (mN mt).cls 57 (mN mX4_mend) ∈ lw_tbl ∧ Cond.instanceMethod (mN mX4_mend) ∈ lw_tbl ∧ Cond.selects (cR 4) (mN mX4_mend) (mN mX4_mend) ∈ lw_tbl := by rw [h]; exact ⟨tbi 817 (by decide +kernel), tbi 818 (by decide +kernel), tbi 819 (by decide +kernel)⟩
theorem lc_RL_60 {mt : MT} (h : (mN mt).cls = RL) : Cond.methodLink (mN mt).cls 60 (mN mX4_init) ∈ lw_tbl ∧ Cond.instanceMethod (mN mX4_init) ∈ lw_tbl := by rw [h]; exact ⟨tbi 24 (by decide +kernel), tbi 25 (by decide +kernel)⟩
theorem lc_RL_63 {mt : MT} (h : (mN mt).cls = RL) : Cond.methodLink (mN mt).cls 63 (mN mX5_init) ∈ lw_tbl ∧ Cond.instanceMethod (mN mX5_init) ∈ lw_tbl := by rw [h]; exact ⟨tbi 824 (by decide +kernel), tbi 825 (by decide +kernel)⟩
theorem lc_RL_64 {mt : MT} (h : (mN mt).cls = RL) : Cond.methodLink (mN mt).cls 64 (mN mX4_append) ∈ lw_tbl ∧ Cond.instanceMethod (mN mX4_append) ∈ lw_tbl ∧ Cond.selects (cR 4) (mN mX4_append) (mN mX4_append) ∈ lw_tbl := by rw [h]; exact ⟨tbi 226 (by decide +kernel), tbi 227 (by decide +kernel), tbi 228 (by decide +kernel)⟩
theorem lc_RL_68 {mt : MT} (h : (mN mt).cls = RL) : Cond.methodLink (mN mt).cls 68 (mN mX5_append) ∈ lw_tbl ∧ Cond.instanceMethod (mN mX5_append) ∈ lw_tbl ∧ Cond.selects (cR 5) (mN mX5_append) (mN mX5_append) ∈ lw_tbl := by rw [h]; exact ⟨tbi 919 (by decide +kernel), tbi 920 (by decide +kernel), tbi 921 (by decide +kernel)⟩
theorem lc_RL_69 {mt : MT} (h : (mN mt).cls = RL) : Cond.methodLink (mN mt).cls 69 (mN mL_load) ∈ lw_tbl ∧ Cond.static (mN mL_load) ∈ lw_tbl := by rw [h]; exact ⟨tbi 525 (by decide +kernel), tbi 526 (by decide +kernel)⟩
theorem lc_RL_74 {mt : MT} (h : (mN mt).cls = RL) : Cond.methodLink (mN mt).cls 74 (mN mX5_load) ∈ lw_tbl ∧ Cond.instanceMethod (mN mX5_load) ∈ lw_tbl ∧ Cond.selects (cR 5) (mN mX5_load) (mN mX5_load) ∈ lw_tbl := by rw [h]; exact ⟨tbi 923 (by decide +kernel), tbi 924 (by decide +kernel), tbi 925 (by decide +kernel)⟩
theorem lc_RL_75 {mt : MT} (h : (mN mt).cls = RL) : Cond.methodLink (mN mt).cls 75 (mN mX5_thrown) ∈ lw_tbl ∧ Cond.instanceMethod (mN mX5_thrown) ∈ lw_tbl ∧ Cond.selects (cR 5) (mN mX5_thrown) (mN mX5_thrown) ∈ lw_tbl := by rw [h]; exact ⟨tbi 915 (by decide +kernel), tbi 916 (by decide +kernel), tbi 917 (by decide +kernel)⟩
theorem lc_RL_78 {mt : MT} (h : (mN mt).cls = RL) : Cond.methodLink (mN mt).cls 78 (mN mX4_errorOffset) ∈ lw_tbl ∧ Cond.instanceMethod (mN mX4_errorOffset) ∈ lw_tbl ∧ Cond.selects (cR 4) (mN mX4_errorOffset) (mN mX4_errorOffset) ∈ lw_tbl := by rw [h]; exact ⟨tbi 234 (by decide +kernel), tbi 235 (by decide +kernel), tbi 236 (by decide +kernel)⟩
theorem lc_RL_81 {mt : MT} (h : (mN mt).cls = RL) : Cond.methodLink (mN mt).cls 81 (mN mX5_errorOffset) ∈ lw_tbl ∧ Cond.instanceMethod (mN mX5_errorOffset) ∈ lw_tbl ∧ Cond.selects (cR 5) (mN mX5_errorOffset) (mN mX5_errorOffset) ∈ lw_tbl := by rw [h]; exact ⟨tbi 1006 (by decide +kernel), tbi 1007 (by decide +kernel), tbi 1008 (by decide +kernel)⟩
theorem lc_RL_82 {mt : MT} (h : (mN mt).cls = RL) : Cond.methodLink (mN mt).cls 82 (mN mL_state) ∈ lw_tbl ∧ Cond.static (mN mL_state) ∈ lw_tbl := by rw [h]; exact ⟨tbi 654 (by decide +kernel), tbi 655 (by decide +kernel)⟩
theorem lc_RL_84 {mt : MT} (h : (mN mt).cls = RL) : Cond.methodLink (mN mt).cls 84 (mN mX5_state) ∈ lw_tbl ∧ Cond.instanceMethod (mN mX5_state) ∈ lw_tbl ∧ Cond.selects (cR 5) (mN mX5_state) (mN mX5_state) ∈ lw_tbl := by rw [h]; exact ⟨tbi 1010 (by decide +kernel), tbi 1011 (by decide +kernel), tbi 1012 (by decide +kernel)⟩
theorem lc_RL_85 {mt : MT} (h : (mN mt).cls = RL) : Cond.methodLink (mN mt).cls 85 (mN mL_letter) ∈ lw_tbl ∧ Cond.static (mN mL_letter) ∈ lw_tbl := by rw [h]; exact ⟨tbi 658 (by decide +kernel), tbi 659 (by decide +kernel)⟩
theorem lc_RL_88 {mt : MT} (h : (mN mt).cls = RL) : Cond.methodLink (mN mt).cls 88 (mN mX5_letter) ∈ lw_tbl ∧ Cond.instanceMethod (mN mX5_letter) ∈ lw_tbl ∧ Cond.selects (cR 5) (mN mX5_letter) (mN mX5_letter) ∈ lw_tbl := by rw [h]; exact ⟨tbi 1050 (by decide +kernel), tbi 1051 (by decide +kernel), tbi 1052 (by decide +kernel)⟩
theorem lc_RL_89 {mt : MT} (h : (mN mt).cls = RL) : Cond.methodLink (mN mt).cls 89 (mN mL_place) ∈ lw_tbl ∧ Cond.static (mN mL_place) ∈ lw_tbl := by rw [h]; exact ⟨tbi 689 (by decide +kernel), tbi 690 (by decide +kernel)⟩
theorem lc_RL_92 {mt : MT} (h : (mN mt).cls = RL) : Cond.methodLink (mN mt).cls 92 (mN mX5_place) ∈ lw_tbl ∧ Cond.instanceMethod (mN mX5_place) ∈ lw_tbl ∧ Cond.selects (cR 5) (mN mX5_place) (mN mX5_place) ∈ lw_tbl := by rw [h]; exact ⟨tbi 1062 (by decide +kernel), tbi 1063 (by decide +kernel), tbi 1064 (by decide +kernel)⟩
theorem lc_RL_93 {mt : MT} (h : (mN mt).cls = RL) : Cond.methodLink (mN mt).cls 93 (mN mL_stock) ∈ lw_tbl ∧ Cond.static (mN mL_stock) ∈ lw_tbl := by rw [h]; exact ⟨tbi 700 (by decide +kernel), tbi 701 (by decide +kernel)⟩
theorem lc_RL_95 {mt : MT} (h : (mN mt).cls = RL) : Cond.methodLink (mN mt).cls 95 (mN mX5_stock) ∈ lw_tbl ∧ Cond.instanceMethod (mN mX5_stock) ∈ lw_tbl ∧ Cond.selects (cR 5) (mN mX5_stock) (mN mX5_stock) ∈ lw_tbl := by rw [h]; exact ⟨tbi 1074 (by decide +kernel), tbi 1075 (by decide +kernel), tbi 1076 (by decide +kernel)⟩
theorem lc_RL_96 {mt : MT} (h : (mN mt).cls = RL) : Cond.methodLink (mN mt).cls 96 (mN mL_message) ∈ lw_tbl ∧ Cond.static (mN mL_message) ∈ lw_tbl := by rw [h]; exact ⟨tbi 712 (by decide +kernel), tbi 713 (by decide +kernel)⟩
theorem lc_RL_98 {mt : MT} (h : (mN mt).cls = RL) : Cond.methodLink (mN mt).cls 98 (mN mX5_message) ∈ lw_tbl ∧ Cond.instanceMethod (mN mX5_message) ∈ lw_tbl ∧ Cond.selects (cR 5) (mN mX5_message) (mN mX5_message) ∈ lw_tbl := by rw [h]; exact ⟨tbi 1082 (by decide +kernel), tbi 1083 (by decide +kernel), tbi 1084 (by decide +kernel)⟩
theorem lc_RL_99 {mt : MT} (h : (mN mt).cls = RL) : Cond.methodLink (mN mt).cls 99 (mN mX4_missing) ∈ lw_tbl ∧ Cond.instanceMethod (mN mX4_missing) ∈ lw_tbl ∧ Cond.selects (cR 4) (mN mX4_missing) (mN mX4_missing) ∈ lw_tbl := by rw [h]; exact ⟨tbi 238 (by decide +kernel), tbi 239 (by decide +kernel), tbi 240 (by decide +kernel)⟩
theorem lc_RL_102 {mt : MT} (h : (mN mt).cls = RL) : Cond.methodLink (mN mt).cls 102 (mN mX5_missing) ∈ lw_tbl ∧ Cond.instanceMethod (mN mX5_missing) ∈ lw_tbl ∧ Cond.selects (cR 5) (mN mX5_missing) (mN mX5_missing) ∈ lw_tbl := by rw [h]; exact ⟨tbi 1086 (by decide +kernel), tbi 1087 (by decide +kernel), tbi 1088 (by decide +kernel)⟩
theorem lc_RL_103 {mt : MT} (h : (mN mt).cls = RL) : Cond.methodLink (mN mt).cls 103 (mN mX4_fewest) ∈ lw_tbl ∧ Cond.instanceMethod (mN mX4_fewest) ∈ lw_tbl ∧ Cond.selects (cR 4) (mN mX4_fewest) (mN mX4_fewest) ∈ lw_tbl := by rw [h]; exact ⟨tbi 309 (by decide +kernel), tbi 310 (by decide +kernel), tbi 311 (by decide +kernel)⟩
theorem lc_RL_106 {mt : MT} (h : (mN mt).cls = RL) : Cond.methodLink (mN mt).cls 106 (mN mX5_fewest) ∈ lw_tbl ∧ Cond.instanceMethod (mN mX5_fewest) ∈ lw_tbl ∧ Cond.selects (cR 5) (mN mX5_fewest) (mN mX5_fewest) ∈ lw_tbl := by rw [h]; exact ⟨tbi 1106 (by decide +kernel), tbi 1107 (by decide +kernel), tbi 1108 (by decide +kernel)⟩
theorem lc_RL_107 {mt : MT} (h : (mN mt).cls = RL) : Cond.methodLink (mN mt).cls 107 (mN mL_cutOf) ∈ lw_tbl ∧ Cond.static (mN mL_cutOf) ∈ lw_tbl := by rw [h]; exact ⟨tbi 736 (by decide +kernel), tbi 737 (by decide +kernel)⟩
theorem lc_RL_109 {mt : MT} (h : (mN mt).cls = RL) : Cond.methodLink (mN mt).cls 109 (mN mX5_cutOf) ∈ lw_tbl ∧ Cond.instanceMethod (mN mX5_cutOf) ∈ lw_tbl ∧ Cond.selects (cR 5) (mN mX5_cutOf) (mN mX5_cutOf) ∈ lw_tbl := by rw [h]; exact ⟨tbi 1149 (by decide +kernel), tbi 1150 (by decide +kernel), tbi 1151 (by decide +kernel)⟩
theorem lc_RL_110 {mt : MT} (h : (mN mt).cls = RL) : Cond.methodLink (mN mt).cls 110 (mN mX4_unevenness) ∈ lw_tbl ∧ Cond.instanceMethod (mN mX4_unevenness) ∈ lw_tbl ∧ Cond.selects (cR 4) (mN mX4_unevenness) (mN mX4_unevenness) ∈ lw_tbl := by rw [h]; exact ⟨tbi 367 (by decide +kernel), tbi 368 (by decide +kernel), tbi 369 (by decide +kernel)⟩
theorem lc_RL_113 {mt : MT} (h : (mN mt).cls = RL) : Cond.methodLink (mN mt).cls 113 (mN mX5_unevenness) ∈ lw_tbl ∧ Cond.instanceMethod (mN mX5_unevenness) ∈ lw_tbl ∧ Cond.selects (cR 5) (mN mX5_unevenness) (mN mX5_unevenness) ∈ lw_tbl := by rw [h]; exact ⟨tbi 1157 (by decide +kernel), tbi 1158 (by decide +kernel), tbi 1159 (by decide +kernel)⟩
theorem lc_RL_114 {mt : MT} (h : (mN mt).cls = RL) : Cond.methodLink (mN mt).cls 114 (mN mX4_copies) ∈ lw_tbl ∧ Cond.instanceMethod (mN mX4_copies) ∈ lw_tbl ∧ Cond.selects (cR 4) (mN mX4_copies) (mN mX4_copies) ∈ lw_tbl := by rw [h]; exact ⟨tbi 383 (by decide +kernel), tbi 384 (by decide +kernel), tbi 385 (by decide +kernel)⟩
theorem lc_RL_117 {mt : MT} (h : (mN mt).cls = RL) : Cond.methodLink (mN mt).cls 117 (mN mX5_copies) ∈ lw_tbl ∧ Cond.instanceMethod (mN mX5_copies) ∈ lw_tbl ∧ Cond.selects (cR 5) (mN mX5_copies) (mN mX5_copies) ∈ lw_tbl := by rw [h]; exact ⟨tbi 1166 (by decide +kernel), tbi 1167 (by decide +kernel), tbi 1168 (by decide +kernel)⟩
theorem lc_RL_118 {mt : MT} (h : (mN mt).cls = RL) : Cond.methodLink (mN mt).cls 118 (mN mL_longest) ∈ lw_tbl ∧ Cond.static (mN mL_longest) ∈ lw_tbl := by rw [h]; exact ⟨tbi 744 (by decide +kernel), tbi 745 (by decide +kernel)⟩
theorem lc_RL_120 {mt : MT} (h : (mN mt).cls = RL) : Cond.methodLink (mN mt).cls 120 (mN mX5_longest) ∈ lw_tbl ∧ Cond.instanceMethod (mN mX5_longest) ∈ lw_tbl ∧ Cond.selects (cR 5) (mN mX5_longest) (mN mX5_longest) ∈ lw_tbl := by rw [h]; exact ⟨tbi 1178 (by decide +kernel), tbi 1179 (by decide +kernel), tbi 1180 (by decide +kernel)⟩
theorem lc_RL_121 {mt : MT} (h : (mN mt).cls = RL) : Cond.methodLink (mN mt).cls 121 (mN mX4_clashes) ∈ lw_tbl ∧ Cond.instanceMethod (mN mX4_clashes) ∈ lw_tbl ∧ Cond.selects (cR 4) (mN mX4_clashes) (mN mX4_clashes) ∈ lw_tbl := by rw [h]; exact ⟨tbi 387 (by decide +kernel), tbi 388 (by decide +kernel), tbi 389 (by decide +kernel)⟩
theorem lc_RL_124 {mt : MT} (h : (mN mt).cls = RL) : Cond.methodLink (mN mt).cls 124 (mN mX5_clashes) ∈ lw_tbl ∧ Cond.instanceMethod (mN mX5_clashes) ∈ lw_tbl ∧ Cond.selects (cR 5) (mN mX5_clashes) (mN mX5_clashes) ∈ lw_tbl := by rw [h]; exact ⟨tbi 1182 (by decide +kernel), tbi 1183 (by decide +kernel), tbi 1184 (by decide +kernel)⟩
theorem lc_RL_125 {mt : MT} (h : (mN mt).cls = RL) : Cond.methodLink (mN mt).cls 125 (mN mX4_meanSize) ∈ lw_tbl ∧ Cond.instanceMethod (mN mX4_meanSize) ∈ lw_tbl ∧ Cond.selects (cR 4) (mN mX4_meanSize) (mN mX4_meanSize) ∈ lw_tbl := by rw [h]; exact ⟨tbi 402 (by decide +kernel), tbi 403 (by decide +kernel), tbi 404 (by decide +kernel)⟩
theorem lc_RL_129 {mt : MT} (h : (mN mt).cls = RL) : Cond.methodLink (mN mt).cls 129 (mN mX5_meanSize) ∈ lw_tbl ∧ Cond.instanceMethod (mN mX5_meanSize) ∈ lw_tbl ∧ Cond.selects (cR 5) (mN mX5_meanSize) (mN mX5_meanSize) ∈ lw_tbl := by rw [h]; exact ⟨tbi 1194 (by decide +kernel), tbi 1195 (by decide +kernel), tbi 1196 (by decide +kernel)⟩
theorem lc_RL_130 {mt : MT} (h : (mN mt).cls = RL) : Cond.methodLink (mN mt).cls 130 (mN mL_tell) ∈ lw_tbl ∧ Cond.static (mN mL_tell) ∈ lw_tbl := by rw [h]; exact ⟨tbi 753 (by decide +kernel), tbi 754 (by decide +kernel)⟩
theorem lc_RL_132 {mt : MT} (h : (mN mt).cls = RL) : Cond.methodLink (mN mt).cls 132 (mN mX5_tell) ∈ lw_tbl ∧ Cond.instanceMethod (mN mX5_tell) ∈ lw_tbl ∧ Cond.selects (cR 5) (mN mX5_tell) (mN mX5_tell) ∈ lw_tbl := by rw [h]; exact ⟨tbi 1198 (by decide +kernel), tbi 1199 (by decide +kernel), tbi 1200 (by decide +kernel)⟩
theorem lc_RL_133 {mt : MT} (h : (mN mt).cls = RL) : Cond.methodLink (mN mt).cls 133 (mN mL_cut) ∈ lw_tbl ∧ Cond.static (mN mL_cut) ∈ lw_tbl := by rw [h]; exact ⟨tbi 765 (by decide +kernel), tbi 766 (by decide +kernel)⟩
theorem lc_RL_136 {mt : MT} (h : (mN mt).cls = RL) : Cond.methodLink (mN mt).cls 136 (mN mX5_cut) ∈ lw_tbl ∧ Cond.instanceMethod (mN mX5_cut) ∈ lw_tbl ∧ Cond.selects (cR 5) (mN mX5_cut) (mN mX5_cut) ∈ lw_tbl := by rw [h]; exact ⟨tbi 1206 (by decide +kernel), tbi 1207 (by decide +kernel), tbi 1208 (by decide +kernel)⟩
theorem lc_RL_137 {mt : MT} (h : (mN mt).cls = RL) : Cond.methodLink (mN mt).cls 137 (mN mL_snip) ∈ lw_tbl ∧ Cond.static (mN mL_snip) ∈ lw_tbl := by rw [h]; exact ⟨tbi 792 (by decide +kernel), tbi 793 (by decide +kernel)⟩
theorem lc_RL_139 {mt : MT} (h : (mN mt).cls = RL) : Cond.methodLink (mN mt).cls 139 (mN mX5_snip) ∈ lw_tbl ∧ Cond.instanceMethod (mN mX5_snip) ∈ lw_tbl ∧ Cond.selects (cR 5) (mN mX5_snip) (mN mX5_snip) ∈ lw_tbl := by rw [h]; exact ⟨tbi 1210 (by decide +kernel), tbi 1211 (by decide +kernel), tbi 1212 (by decide +kernel)⟩
theorem lc_RL_140 {mt : MT} (h : (mN mt).cls = RL) : Cond.methodLink (mN mt).cls 140 (mN mL_least) ∈ lw_tbl ∧ Cond.static (mN mL_least) ∈ lw_tbl := by rw [h]; exact ⟨tbi 807 (by decide +kernel), tbi 808 (by decide +kernel)⟩
theorem lc_RL_142 {mt : MT} (h : (mN mt).cls = RL) : Cond.methodLink (mN mt).cls 142 (mN mX5_least) ∈ lw_tbl ∧ Cond.instanceMethod (mN mX5_least) ∈ lw_tbl ∧ Cond.selects (cR 5) (mN mX5_least) (mN mX5_least) ∈ lw_tbl := by rw [h]; exact ⟨tbi 1218 (by decide +kernel), tbi 1219 (by decide +kernel), tbi 1220 (by decide +kernel)⟩
theorem lc_RL_143 {mt : MT} (h : (mN mt).cls = RL) : Cond.methodLink (mN mt).cls 143 (mN mL_mend) ∈ lw_tbl ∧ Cond.static (mN mL_mend) ∈ lw_tbl := by rw [h]; exact ⟨tbi 814 (by decide +kernel), tbi 815 (by decide +kernel)⟩
theorem lc_RL_145 {mt : MT} (h : (mN mt).cls = RL) : Cond.methodLink (mN mt).cls 145 (mN mX5_mend) ∈ lw_tbl ∧ Cond.instanceMethod (mN mX5_mend) ∈ lw_tbl ∧ Cond.selects (cR 5) (mN mX5_mend) (mN mX5_mend) ∈ lw_tbl := by rw [h]; exact ⟨tbi 1222 (by decide +kernel), tbi 1223 (by decide +kernel), tbi 1224 (by decide +kernel)⟩
theorem lc_RL_146 {mt : MT} (h : (mN mt).cls = RL) : Cond.methodLink (mN mt).cls 146 (mN mX4_undo) ∈ lw_tbl ∧ Cond.instanceMethod (mN mX4_undo) ∈ lw_tbl ∧ Cond.selects (cR 4) (mN mX4_undo) (mN mX4_undo) ∈ lw_tbl := by rw [h]; exact ⟨tbi 414 (by decide +kernel), tbi 415 (by decide +kernel), tbi 416 (by decide +kernel)⟩
theorem lc_RL_149 {mt : MT} (h : (mN mt).cls = RL) : Cond.methodLink (mN mt).cls 149 (mN mX5_undo) ∈ lw_tbl ∧ Cond.instanceMethod (mN mX5_undo) ∈ lw_tbl ∧ Cond.selects (cR 5) (mN mX5_undo) (mN mX5_undo) ∈ lw_tbl := by rw [h]; exact ⟨tbi 1226 (by decide +kernel), tbi 1227 (by decide +kernel), tbi 1228 (by decide +kernel)⟩
theorem lc_RL_150 {mt : MT} (h : (mN mt).cls = RL) : Cond.methodLink (mN mt).cls 150 (mN mX4_checksum) ∈ lw_tbl ∧ Cond.instanceMethod (mN mX4_checksum) ∈ lw_tbl ∧ Cond.selects (cR 4) (mN mX4_checksum) (mN mX4_checksum) ∈ lw_tbl := by rw [h]; exact ⟨tbi 425 (by decide +kernel), tbi 426 (by decide +kernel), tbi 427 (by decide +kernel)⟩
theorem lc_RL_154 {mt : MT} (h : (mN mt).cls = RL) : Cond.methodLink (mN mt).cls 154 (mN mX5_checksum) ∈ lw_tbl ∧ Cond.instanceMethod (mN mX5_checksum) ∈ lw_tbl ∧ Cond.selects (cR 5) (mN mX5_checksum) (mN mX5_checksum) ∈ lw_tbl := by rw [h]; exact ⟨tbi 1230 (by decide +kernel), tbi 1231 (by decide +kernel), tbi 1232 (by decide +kernel)⟩
theorem lfm_RX5_9 {mt : MT} (h : (mN mt).cls = RX5) : Cond.fieldLink (mN mt).cls 9 (cT 5 1).1 (cT 5 1).2.1 (cT 5 1).2.2.1 ∈ lw_tbl := by rw [h]; exact tbi 833 (by decide +kernel)
theorem lf_RX5_9 {mt : MT} (h : (mN mt).cls = RX5) : FL mt 9 5 1 := Or.inl (lfm_RX5_9 h)
theorem lfm_RX5_13 {mt : MT} (h : (mN mt).cls = RX5) : Cond.fieldLink (mN mt).cls 13 (cT 5 7).1 (cT 5 7).2.1 (cT 5 7).2.2.1 ∈ lw_tbl := by rw [h]; exact tbi 839 (by decide +kernel)
theorem lf_RX5_13 {mt : MT} (h : (mN mt).cls = RX5) : FL mt 13 5 7 := Or.inl (lfm_RX5_13 h)
theorem lfm_RX5_17 {mt : MT} (h : (mN mt).cls = RX5) : Cond.fieldLink (mN mt).cls 17 (cT 5 8).1 (cT 5 8).2.1 (cT 5 8).2.2.1 ∈ lw_tbl := by rw [h]; exact tbi 840 (by decide +kernel)
theorem lf_RX5_17 {mt : MT} (h : (mN mt).cls = RX5) : FL mt 17 5 8 := Or.inl (lfm_RX5_17 h)
theorem lfm_RX5_20 {mt : MT} (h : (mN mt).cls = RX5) : Cond.fieldLink (mN mt).cls 20 (cT 5 9).1 (cT 5 9).2.1 (cT 5 9).2.2.1 ∈ lw_tbl := by rw [h]; exact tbi 841 (by decide +kernel)
theorem lf_RX5_20 {mt : MT} (h : (mN mt).cls = RX5) : FL mt 20 5 9 := Or.inl (lfm_RX5_20 h)
theorem lfm_RX5_23 {mt : MT} (h : (mN mt).cls = RX5) : Cond.fieldLink (mN mt).cls 23 (cT 5 10).1 (cT 5 10).2.1 (cT 5 10).2.2.1 ∈ lw_tbl := by rw [h]; exact tbi 842 (by decide +kernel)
theorem lf_RX5_23 {mt : MT} (h : (mN mt).cls = RX5) : FL mt 23 5 10 := Or.inl (lfm_RX5_23 h)
theorem lfm_RX5_28 {mt : MT} (h : (mN mt).cls = RX5) : Cond.fieldLink (mN mt).cls 28 (cT 5 11).1 (cT 5 11).2.1 (cT 5 11).2.2.1 ∈ lw_tbl := by rw [h]; exact tbi 843 (by decide +kernel)
theorem lf_RX5_28 {mt : MT} (h : (mN mt).cls = RX5) : FL mt 28 5 11 := Or.inl (lfm_RX5_28 h)
theorem lfm_RX5_31 {mt : MT} (h : (mN mt).cls = RX5) : Cond.fieldLink (mN mt).cls 31 (cT 5 15).1 (cT 5 15).2.1 (cT 5 15).2.2.1 ∈ lw_tbl := by rw [h]; exact tbi 847 (by decide +kernel)
theorem lf_RX5_31 {mt : MT} (h : (mN mt).cls = RX5) : FL mt 31 5 15 := Or.inl (lfm_RX5_31 h)
theorem lfm_RX5_34 {mt : MT} (h : (mN mt).cls = RX5) : Cond.fieldLink (mN mt).cls 34 (cT 5 16).1 (cT 5 16).2.1 (cT 5 16).2.2.1 ∈ lw_tbl := by rw [h]; exact tbi 848 (by decide +kernel)
theorem lf_RX5_34 {mt : MT} (h : (mN mt).cls = RX5) : FL mt 34 5 16 := Or.inl (lfm_RX5_34 h)
theorem lfm_RX5_38 {mt : MT} (h : (mN mt).cls = RX5) : Cond.fieldLink (mN mt).cls 38 (cT 5 18).1 (cT 5 18).2.1 (cT 5 18).2.2.1 ∈ lw_tbl := by rw [h]; exact tbi 850 (by decide +kernel)
theorem lf_RX5_38 {mt : MT} (h : (mN mt).cls = RX5) : FL mt 38 5 18 := Or.inl (lfm_RX5_38 h)
theorem lfm_RX5_41 {mt : MT} (h : (mN mt).cls = RX5) : Cond.fieldLink (mN mt).cls 41 (cT 5 19).1 (cT 5 19).2.1 (cT 5 19).2.2.1 ∈ lw_tbl := by rw [h]; exact tbi 851 (by decide +kernel)
theorem lf_RX5_41 {mt : MT} (h : (mN mt).cls = RX5) : FL mt 41 5 19 := Or.inl (lfm_RX5_41 h)
theorem lfm_RX5_44 {mt : MT} (h : (mN mt).cls = RX5) : Cond.fieldLink (mN mt).cls 44 (cT 5 20).1 (cT 5 20).2.1 (cT 5 20).2.2.1 ∈ lw_tbl := by rw [h]; exact tbi 852 (by decide +kernel)
theorem lf_RX5_44 {mt : MT} (h : (mN mt).cls = RX5) : FL mt 44 5 20 := Or.inl (lfm_RX5_44 h)
theorem lfm_RX5_47 {mt : MT} (h : (mN mt).cls = RX5) : Cond.fieldLink (mN mt).cls 47 (cT 5 21).1 (cT 5 21).2.1 (cT 5 21).2.2.1 ∈ lw_tbl := by rw [h]; exact tbi 853 (by decide +kernel)
theorem lf_RX5_47 {mt : MT} (h : (mN mt).cls = RX5) : FL mt 47 5 21 := Or.inl (lfm_RX5_47 h)
theorem lfm_RX5_50 {mt : MT} (h : (mN mt).cls = RX5) : Cond.fieldLink (mN mt).cls 50 (cT 5 22).1 (cT 5 22).2.1 (cT 5 22).2.2.1 ∈ lw_tbl := by rw [h]; exact tbi 854 (by decide +kernel)
theorem lf_RX5_50 {mt : MT} (h : (mN mt).cls = RX5) : FL mt 50 5 22 := Or.inl (lfm_RX5_50 h)
theorem lfm_RX5_54 {mt : MT} (h : (mN mt).cls = RX5) : Cond.fieldLink (mN mt).cls 54 (cT 5 23).1 (cT 5 23).2.1 (cT 5 23).2.2.1 ∈ lw_tbl := by rw [h]; exact tbi 855 (by decide +kernel)
theorem lf_RX5_54 {mt : MT} (h : (mN mt).cls = RX5) : FL mt 54 5 23 := Or.inl (lfm_RX5_54 h)
theorem lfm_RX5_57 {mt : MT} (h : (mN mt).cls = RX5) : Cond.fieldLink (mN mt).cls 57 (cT 5 26).1 (cT 5 26).2.1 (cT 5 26).2.2.1 ∈ lw_tbl := by rw [h]; exact tbi 858 (by decide +kernel)
theorem lf_RX5_57 {mt : MT} (h : (mN mt).cls = RX5) : FL mt 57 5 26 := Or.inl (lfm_RX5_57 h)
theorem lc_RX5_60 {mt : MT} (h : (mN mt).cls = RX5) : Cond.methodLink (mN mt).cls 60 (mN mX5_laySheet) ∈ lw_tbl ∧ Cond.static (mN mX5_laySheet) ∈ lw_tbl := by rw [h]; exact ⟨tbi 829 (by decide +kernel), tbi 830 (by decide +kernel)⟩
theorem lfm_RX5_64 {mt : MT} (h : (mN mt).cls = RX5) : Cond.fieldLink (mN mt).cls 64 (cT 5 0).1 (cT 5 0).2.1 (cT 5 0).2.2.1 ∈ lw_tbl := by rw [h]; exact tbi 832 (by decide +kernel)
theorem lf_RX5_64 {mt : MT} (h : (mN mt).cls = RX5) : FL mt 64 5 0 := Or.inl (lfm_RX5_64 h)
theorem lfm_RX5_67 {mt : MT} (h : (mN mt).cls = RX5) : Cond.fieldLink (mN mt).cls 67 (cT 5 2).1 (cT 5 2).2.1 (cT 5 2).2.2.1 ∈ lw_tbl := by rw [h]; exact tbi 834 (by decide +kernel)
theorem lf_RX5_67 {mt : MT} (h : (mN mt).cls = RX5) : FL mt 67 5 2 := Or.inl (lfm_RX5_67 h)
theorem lfm_RX5_70 {mt : MT} (h : (mN mt).cls = RX5) : Cond.fieldLink (mN mt).cls 70 (cT 5 3).1 (cT 5 3).2.1 (cT 5 3).2.2.1 ∈ lw_tbl := by rw [h]; exact tbi 835 (by decide +kernel)
theorem lf_RX5_70 {mt : MT} (h : (mN mt).cls = RX5) : FL mt 70 5 3 := Or.inl (lfm_RX5_70 h)
theorem lfm_RX5_73 {mt : MT} (h : (mN mt).cls = RX5) : Cond.fieldLink (mN mt).cls 73 (cT 5 4).1 (cT 5 4).2.1 (cT 5 4).2.2.1 ∈ lw_tbl := by rw [h]; exact tbi 836 (by decide +kernel)
theorem lf_RX5_73 {mt : MT} (h : (mN mt).cls = RX5) : FL mt 73 5 4 := Or.inl (lfm_RX5_73 h)
theorem lc_RX5_76 {mt : MT} (h : (mN mt).cls = RX5) : Cond.methodLink (mN mt).cls 76 (mN mX5_byteAt) ∈ lw_tbl ∧ Cond.instanceMethod (mN mX5_byteAt) ∈ lw_tbl ∧ Cond.selects (cR 5) (mN mX5_byteAt) (mN mX5_byteAt) ∈ lw_tbl := by rw [h]; exact ⟨tbi 947 (by decide +kernel), tbi 949 (by decide +kernel), sli 65 (by decide +kernel)⟩
theorem lfm_RX5_80 {mt : MT} (h : (mN mt).cls = RX5) : Cond.fieldLink (mN mt).cls 80 (cT 5 5).1 (cT 5 5).2.1 (cT 5 5).2.2.1 ∈ lw_tbl := by rw [h]; exact tbi 837 (by decide +kernel)
theorem lf_RX5_80 {mt : MT} (h : (mN mt).cls = RX5) : FL mt 80 5 5 := Or.inl (lfm_RX5_80 h)
theorem lfm_RX5_83 {mt : MT} (h : (mN mt).cls = RX5) : Cond.fieldLink (mN mt).cls 83 (cT 5 6).1 (cT 5 6).2.1 (cT 5 6).2.2.1 ∈ lw_tbl := by rw [h]; exact tbi 838 (by decide +kernel)
theorem lf_RX5_83 {mt : MT} (h : (mN mt).cls = RX5) : FL mt 83 5 6 := Or.inl (lfm_RX5_83 h)
theorem lc_RX5_86 {mt : MT} (h : (mN mt).cls = RX5) : Cond.methodLink (mN mt).cls 86 (mN mX5_in) ∈ lw_tbl ∧ Cond.static (mN mX5_in) ∈ lw_tbl := by rw [h]; exact ⟨tbi 927 (by decide +kernel), tbi 928 (by decide +kernel)⟩
theorem lc_RX5_90 {mt : MT} (h : (mN mt).cls = RX5) : Cond.methodLink (mN mt).cls 90 (mN mX5_isGood) ∈ lw_tbl ∧ Cond.instanceMethod (mN mX5_isGood) ∈ lw_tbl ∧ Cond.selects (cR 5) (mN mX5_isGood) (mN mX5_isGood) ∈ lw_tbl := by rw [h]; exact ⟨tbi 939 (by decide +kernel), tbi 941 (by decide +kernel), sli 63 (by decide +kernel)⟩
theorem lc_RX5_94 {mt : MT} (h : (mN mt).cls = RX5) : Cond.methodLink (mN mt).cls 94 (mN mX5_ahead) ∈ lw_tbl ∧ Cond.instanceMethod (mN mX5_ahead) ∈ lw_tbl ∧ Cond.selects (cR 5) (mN mX5_ahead) (mN mX5_ahead) ∈ lw_tbl := by rw [h]; exact ⟨tbi 943 (by decide +kernel), tbi 945 (by decide +kernel), sli 64 (by decide +kernel)⟩
theorem lc_RX5_98 {mt : MT} (h : (mN mt).cls = RX5) : Cond.methodLink (mN mt).cls 98 (mN mJ0_length_8abf5) ∈ lw_tbl ∧ Cond.instanceMethod (mN mJ0_length_8abf5) ∈ lw_tbl ∧ Cond.selects ("java/lang/String") (mN mJ0_length_8abf5) (mN mJ0_length_8abf5) ∈ lw_tbl := by rw [h]; exact ⟨tbi 951 (by decide +kernel), tbi 561 (by decide +kernel), tbi 562 (by decide +kernel)⟩
theorem lc_RX5_103 {mt : MT} (h : (mN mt).cls = RX5) : Cond.methodLink (mN mt).cls 103 (mN mJ0_charAt_5068e) ∈ lw_tbl ∧ Cond.instanceMethod (mN mJ0_charAt_5068e) ∈ lw_tbl ∧ Cond.selects ("java/lang/String") (mN mJ0_charAt_5068e) (mN mJ0_charAt_5068e) ∈ lw_tbl := by rw [h]; exact ⟨tbi 952 (by decide +kernel), tbi 571 (by decide +kernel), tbi 572 (by decide +kernel)⟩
theorem lc_RX5_107 {mt : MT} (h : (mN mt).cls = RX5) : Cond.methodLink (mN mt).cls 107 (mN mX5_report) ∈ lw_tbl ∧ Cond.instanceMethod (mN mX5_report) ∈ lw_tbl ∧ Cond.selects (cR 5) (mN mX5_report) (mN mX5_report) ∈ lw_tbl := by rw [h]; exact ⟨tbi 953 (by decide +kernel), tbi 955 (by decide +kernel), sli 66 (by decide +kernel)⟩
theorem lc_RX5_111 {mt : MT} (h : (mN mt).cls = RX5) : Cond.methodLink (mN mt).cls 111 (mN mX5_isDigit) ∈ lw_tbl ∧ Cond.static (mN mX5_isDigit) ∈ lw_tbl := by rw [h]; exact ⟨tbi 961 (by decide +kernel), tbi 962 (by decide +kernel)⟩
theorem lfm_RX5_115 {mt : MT} (h : (mN mt).cls = RX5) : Cond.fieldLink (mN mt).cls 115 (cT 5 13).1 (cT 5 13).2.1 (cT 5 13).2.2.1 ∈ lw_tbl := by rw [h]; exact tbi 845 (by decide +kernel)
theorem lf_RX5_115 {mt : MT} (h : (mN mt).cls = RX5) : FL mt 115 5 13 := Or.inl (lfm_RX5_115 h)
theorem lc_RX5_119 {mt : MT} (h : (mN mt).cls = RX5) : Cond.methodLink (mN mt).cls 119 (mN mX5_min) ∈ lw_tbl ∧ Cond.static (mN mX5_min) ∈ lw_tbl := by rw [h]; exact ⟨tbi 965 (by decide +kernel), tbi 966 (by decide +kernel)⟩
theorem lfm_RX5_123 {mt : MT} (h : (mN mt).cls = RX5) : Cond.fieldLink (mN mt).cls 123 (cT 5 14).1 (cT 5 14).2.1 (cT 5 14).2.2.1 ∈ lw_tbl := by rw [h]; exact tbi 846 (by decide +kernel)
theorem lf_RX5_123 {mt : MT} (h : (mN mt).cls = RX5) : FL mt 123 5 14 := Or.inl (lfm_RX5_123 h)
theorem lc_RX5_126 {mt : MT} (h : (mN mt).cls = RX5) : Cond.methodLink (mN mt).cls 126 (mN mX5_isLine) ∈ lw_tbl ∧ Cond.static (mN mX5_isLine) ∈ lw_tbl := by rw [h]; exact ⟨tbi 989 (by decide +kernel), tbi 990 (by decide +kernel)⟩
theorem lc_RX5_129 {mt : MT} (h : (mN mt).cls = RX5) : Cond.methodLink (mN mt).cls 129 (mN mX5_once) ∈ lw_tbl ∧ Cond.instanceMethod (mN mX5_once) ∈ lw_tbl ∧ Cond.selects (cR 5) (mN mX5_once) (mN mX5_once) ∈ lw_tbl := by rw [h]; exact ⟨tbi 981 (by decide +kernel), tbi 983 (by decide +kernel), sli 71 (by decide +kernel)⟩
theorem lc_RX5_132 {mt : MT} (h : (mN mt).cls = RX5) : Cond.methodLink (mN mt).cls 132 (mN mX5_readLine) ∈ lw_tbl ∧ Cond.instanceMethod (mN mX5_readLine) ∈ lw_tbl ∧ Cond.selects (cR 5) (mN mX5_readLine) (mN mX5_readLine) ∈ lw_tbl := by rw [h]; exact ⟨tbi 985 (by decide +kernel), tbi 987 (by decide +kernel), sli 72 (by decide +kernel)⟩
theorem lc_RX5_137 {mt : MT} (h : (mN mt).cls = RX5) : Cond.methodLink (mN mt).cls 137 (mN mX5_takeWord) ∈ lw_tbl ∧ Cond.instanceMethod (mN mX5_takeWord) ∈ lw_tbl ∧ Cond.selects (cR 5) (mN mX5_takeWord) (mN mX5_takeWord) ∈ lw_tbl := by rw [h]; exact ⟨tbi 935 (by decide +kernel), tbi 937 (by decide +kernel), sli 62 (by decide +kernel)⟩
theorem lc_RX5_141 {mt : MT} (h : (mN mt).cls = RX5) : Cond.methodLink (mN mt).cls 141 (mN mX5_readSide) ∈ lw_tbl ∧ Cond.instanceMethod (mN mX5_readSide) ∈ lw_tbl ∧ Cond.selects (cR 5) (mN mX5_readSide) (mN mX5_readSide) ∈ lw_tbl := by rw [h]; exact ⟨tbi 977 (by decide +kernel), tbi 979 (by decide +kernel), sli 70 (by decide +kernel)⟩
theorem lc_RX5_147 {mt : MT} (h : (mN mt).cls = RX5) : Cond.methodLink (mN mt).cls 147 (mN mX5_number) ∈ lw_tbl ∧ Cond.instanceMethod (mN mX5_number) ∈ lw_tbl ∧ Cond.selects (cR 5) (mN mX5_number) (mN mX5_number) ∈ lw_tbl := by rw [h]; exact ⟨tbi 957 (by decide +kernel), tbi 959 (by decide +kernel), sli 67 (by decide +kernel)⟩
theorem lc_RX5_152 {mt : MT} (h : (mN mt).cls = RX5) : Cond.methodLink (mN mt).cls 152 (mN mX5_expect) ∈ lw_tbl ∧ Cond.instanceMethod (mN mX5_expect) ∈ lw_tbl ∧ Cond.selects (cR 5) (mN mX5_expect) (mN mX5_expect) ∈ lw_tbl := by rw [h]; exact ⟨tbi 968 (by decide +kernel), tbi 970 (by decide +kernel), sli 68 (by decide +kernel)⟩
theorem lc_RX5_156 {mt : MT} (h : (mN mt).cls = RX5) : Cond.methodLink (mN mt).cls 156 (mN mX5_fails) ∈ lw_tbl ∧ Cond.instanceMethod (mN mX5_fails) ∈ lw_tbl ∧ Cond.selects (cR 5) (mN mX5_fails) (mN mX5_fails) ∈ lw_tbl := by rw [h]; exact ⟨tbi 930 (by decide +kernel), tbi 932 (by decide +kernel), sli 61 (by decide +kernel)⟩
theorem lc_RX5_162 {mt : MT} (h : (mN mt).cls = RX5) : Cond.methodLink (mN mt).cls 162 (mN mX5_statement) ∈ lw_tbl ∧ Cond.instanceMethod (mN mX5_statement) ∈ lw_tbl ∧ Cond.selects (cR 5) (mN mX5_statement) (mN mX5_statement) ∈ lw_tbl := by rw [h]; exact ⟨tbi 972 (by decide +kernel), tbi 974 (by decide +kernel), sli 69 (by decide +kernel)⟩
theorem lc_RX5_165 {mt : MT} (h : (mN mt).cls = RX5) : Cond.methodLink (mN mt).cls 165 (mN mX5_remember) ∈ lw_tbl ∧ Cond.instanceMethod (mN mX5_remember) ∈ lw_tbl ∧ Cond.selects (cR 5) (mN mX5_remember) (mN mX5_remember) ∈ lw_tbl := by rw [h]; exact ⟨tbi 995 (by decide +kernel), tbi 997 (by decide +kernel), sli 73 (by decide +kernel)⟩
theorem lc_RX5_168 {mt : MT} (h : (mN mt).cls = RX5) : Cond.methodLink (mN mt).cls 168 (mN mX5_copy) ∈ lw_tbl ∧ Cond.static (mN mX5_copy) ∈ lw_tbl := by rw [h]; exact ⟨tbi 999 (by decide +kernel), tbi 1000 (by decide +kernel)⟩
theorem lc_RX5_172 {mt : MT} (h : (mN mt).cls = RX5) : Cond.methodLink (mN mt).cls 172 (mN mX5_cells) ∈ lw_tbl ∧ Cond.instanceMethod (mN mX5_cells) ∈ lw_tbl ∧ Cond.selects (cR 5) (mN mX5_cells) (mN mX5_cells) ∈ lw_tbl := by rw [h]; exact ⟨tbi 1002 (by decide +kernel), tbi 1004 (by decide +kernel), sli 74 (by decide +kernel)⟩
theorem lc_RX5_175 {mt : MT} (h : (mN mt).cls = RX5) : Cond.methodLink (mN mt).cls 175 (mN mX5_behind) ∈ lw_tbl ∧ Cond.instanceMethod (mN mX5_behind) ∈ lw_tbl ∧ Cond.selects (cR 5) (mN mX5_behind) (mN mX5_behind) ∈ lw_tbl := by rw [h]; exact ⟨tbi 1042 (by decide +kernel), tbi 1044 (by decide +kernel), sli 82 (by decide +kernel)⟩
theorem lc_RX5_178 {mt : MT} (h : (mN mt).cls = RX5) : Cond.methodLink (mN mt).cls 178 (mN mX5_cellOf) ∈ lw_tbl ∧ Cond.instanceMethod (mN mX5_cellOf) ∈ lw_tbl ∧ Cond.selects (cR 5) (mN mX5_cellOf) (mN mX5_cellOf) ∈ lw_tbl := by rw [h]; exact ⟨tbi 1038 (by decide +kernel), tbi 1040 (by decide +kernel), sli 81 (by decide +kernel)⟩
theorem lc_RX5_181 {mt : MT} (h : (mN mt).cls = RX5) : Cond.methodLink (mN mt).cls 181 (mN mX5_letterAt) ∈ lw_tbl ∧ Cond.instanceMethod (mN mX5_letterAt) ∈ lw_tbl ∧ Cond.selects (cR 5) (mN mX5_letterAt) (mN mX5_letterAt) ∈ lw_tbl := by rw [h]; exact ⟨tbi 1030 (by decide +kernel), tbi 1032 (by decide +kernel), sli 79 (by decide +kernel)⟩
theorem lc_RX5_184 {mt : MT} (h : (mN mt).cls = RX5) : Cond.methodLink (mN mt).cls 184 (mN mX5_isGone) ∈ lw_tbl ∧ Cond.instanceMethod (mN mX5_isGone) ∈ lw_tbl ∧ Cond.selects (cR 5) (mN mX5_isGone) (mN mX5_isGone) ∈ lw_tbl := by rw [h]; exact ⟨tbi 1034 (by decide +kernel), tbi 1036 (by decide +kernel), sli 80 (by decide +kernel)⟩
theorem lc_RX5_188 {mt : MT} (h : (mN mt).cls = RX5) : Cond.methodLink (mN mt).cls 188 (mN mX5_sizeAt) ∈ lw_tbl ∧ Cond.instanceMethod (mN mX5_sizeAt) ∈ lw_tbl ∧ Cond.selects (cR 5) (mN mX5_sizeAt) (mN mX5_sizeAt) ∈ lw_tbl := by rw [h]; exact ⟨tbi 1046 (by decide +kernel), tbi 1048 (by decide +kernel), sli 83 (by decide +kernel)⟩
theorem lc_RX5_191 {mt : MT} (h : (mN mt).cls = RX5) : Cond.methodLink (mN mt).cls 191 (mN mX5_canUse) ∈ lw_tbl ∧ Cond.instanceMethod (mN mX5_canUse) ∈ lw_tbl ∧ Cond.selects (cR 5) (mN mX5_canUse) (mN mX5_canUse) ∈ lw_tbl := by rw [h]; exact ⟨tbi 1026 (by decide +kernel), tbi 1028 (by decide +kernel), sli 78 (by decide +kernel)⟩
theorem lc_RX5_194 {mt : MT} (h : (mN mt).cls = RX5) : Cond.methodLink (mN mt).cls 194 (mN mX5_isLetter) ∈ lw_tbl ∧ Cond.instanceMethod (mN mX5_isLetter) ∈ lw_tbl ∧ Cond.selects (cR 5) (mN mX5_isLetter) (mN mX5_isLetter) ∈ lw_tbl := by rw [h]; exact ⟨tbi 1078 (by decide +kernel), tbi 1080 (by decide +kernel), sli 88 (by decide +kernel)⟩
theorem lfm_RX5_197 {mt : MT} (h : (mN mt).cls = RX5) : Cond.fieldLink (mN mt).cls 197 (cT 5 17).1 (cT 5 17).2.1 (cT 5 17).2.2.1 ∈ lw_tbl := by rw [h]; exact tbi 849 (by decide +kernel)
theorem lf_RX5_197 {mt : MT} (h : (mN mt).cls = RX5) : FL mt 197 5 17 := Or.inl (lfm_RX5_197 h)
theorem lc_RX5_201 {mt : MT} (h : (mN mt).cls = RX5) : Cond.methodLink (mN mt).cls 201 (mN mX5_hasLetter) ∈ lw_tbl ∧ Cond.instanceMethod (mN mX5_hasLetter) ∈ lw_tbl ∧ Cond.selects (cR 5) (mN mX5_hasLetter) (mN mX5_hasLetter) ∈ lw_tbl := by rw [h]; exact ⟨tbi 1102 (by decide +kernel), tbi 1104 (by decide +kernel), sli 92 (by decide +kernel)⟩
theorem lc_RX5_204 {mt : MT} (h : (mN mt).cls = RX5) : Cond.methodLink (mN mt).cls 204 (mN mX5_gives) ∈ lw_tbl ∧ Cond.instanceMethod (mN mX5_gives) ∈ lw_tbl ∧ Cond.selects (cR 5) (mN mX5_gives) (mN mX5_gives) ∈ lw_tbl := by rw [h]; exact ⟨tbi 1098 (by decide +kernel), tbi 1100 (by decide +kernel), sli 91 (by decide +kernel)⟩
theorem lc_RX5_207 {mt : MT} (h : (mN mt).cls = RX5) : Cond.methodLink (mN mt).cls 207 (mN mX5_missingFrom) ∈ lw_tbl ∧ Cond.instanceMethod (mN mX5_missingFrom) ∈ lw_tbl ∧ Cond.selects (cR 5) (mN mX5_missingFrom) (mN mX5_missingFrom) ∈ lw_tbl := by rw [h]; exact ⟨tbi 1094 (by decide +kernel), tbi 1096 (by decide +kernel), sli 90 (by decide +kernel)⟩
theorem lc_RX5_210 {mt : MT} (h : (mN mt).cls = RX5) : Cond.methodLink (mN mt).cls 210 (mN mX5_isStrip) ∈ lw_tbl ∧ Cond.instanceMethod (mN mX5_isStrip) ∈ lw_tbl ∧ Cond.selects (cR 5) (mN mX5_isStrip) (mN mX5_isStrip) ∈ lw_tbl := by rw [h]; exact ⟨tbi 1122 (by decide +kernel), tbi 1124 (by decide +kernel), sli 96 (by decide +kernel)⟩
theorem lc_RX5_214 {mt : MT} (h : (mN mt).cls = RX5) : Cond.methodLink (mN mt).cls 214 (mN mX5_longestFrom) ∈ lw_tbl ∧ Cond.instanceMethod (mN mX5_longestFrom) ∈ lw_tbl ∧ Cond.selects (cR 5) (mN mX5_longestFrom) (mN mX5_longestFrom) ∈ lw_tbl := by rw [h]; exact ⟨tbi 1118 (by decide +kernel), tbi 1120 (by decide +kernel), sli 95 (by decide +kernel)⟩
theorem lc_RX5_221 {mt : MT} (h : (mN mt).cls = RX5) : Cond.methodLink (mN mt).cls 221 (mN mX5_keyOf) ∈ lw_tbl ∧ Cond.instanceMethod (mN mX5_keyOf) ∈ lw_tbl ∧ Cond.selects (cR 5) (mN mX5_keyOf) (mN mX5_keyOf) ∈ lw_tbl := by rw [h]; exact ⟨tbi 1134 (by decide +kernel), tbi 1136 (by decide +kernel), sli 99 (by decide +kernel)⟩
theorem lc_RX5_225 {mt : MT} (h : (mN mt).cls = RX5) : Cond.methodLink (mN mt).cls 225 (mN mX5_vainAt) ∈ lw_tbl ∧ Cond.instanceMethod (mN mX5_vainAt) ∈ lw_tbl ∧ Cond.selects (cR 5) (mN mX5_vainAt) (mN mX5_vainAt) ∈ lw_tbl := by rw [h]; exact ⟨tbi 1139 (by decide +kernel), tbi 1141 (by decide +kernel), sli 100 (by decide +kernel)⟩
theorem lc_RX5_229 {mt : MT} (h : (mN mt).cls = RX5) : Cond.methodLink (mN mt).cls 229 (mN mX5_cellsOf) ∈ lw_tbl ∧ Cond.instanceMethod (mN mX5_cellsOf) ∈ lw_tbl ∧ Cond.selects (cR 5) (mN mX5_cellsOf) (mN mX5_cellsOf) ∈ lw_tbl := by rw [h]; exact ⟨tbi 1144 (by decide +kernel), tbi 1146 (by decide +kernel), sli 101 (by decide +kernel)⟩
theorem lc_RX5_233 {mt : MT} (h : (mN mt).cls = RX5) : Cond.methodLink (mN mt).cls 233 (mN mX5_plans) ∈ lw_tbl ∧ Cond.instanceMethod (mN mX5_plans) ∈ lw_tbl ∧ Cond.selects (cR 5) (mN mX5_plans) (mN mX5_plans) ∈ lw_tbl := by rw [h]; exact ⟨tbi 1130 (by decide +kernel), tbi 1132 (by decide +kernel), sli 98 (by decide +kernel)⟩
theorem lfm_RX5_238 {mt : MT} (h : (mN mt).cls = RX5) : Cond.fieldLink (mN mt).cls 238 (cT 5 25).1 (cT 5 25).2.1 (cT 5 25).2.2.1 ∈ lw_tbl := by rw [h]; exact tbi 857 (by decide +kernel)
theorem lf_RX5_238 {mt : MT} (h : (mN mt).cls = RX5) : FL mt 238 5 25 := Or.inl (lfm_RX5_238 h)
theorem lc_RX5_241 {mt : MT} (h : (mN mt).cls = RX5) : Cond.methodLink (mN mt).cls 241 (mN mX5_missingNow) ∈ lw_tbl ∧ Cond.instanceMethod (mN mX5_missingNow) ∈ lw_tbl ∧ Cond.selects (cR 5) (mN mX5_missingNow) (mN mX5_missingNow) ∈ lw_tbl := by rw [h]; exact ⟨tbi 1090 (by decide +kernel), tbi 1092 (by decide +kernel), sli 89 (by decide +kernel)⟩
theorem lfm_RX5_244 {mt : MT} (h : (mN mt).cls = RX5) : Cond.fieldLink (mN mt).cls 244 (cT 5 24).1 (cT 5 24).2.1 (cT 5 24).2.2.1 ∈ lw_tbl := by rw [h]; exact tbi 856 (by decide +kernel)
theorem lf_RX5_244 {mt : MT} (h : (mN mt).cls = RX5) : FL mt 244 5 24 := Or.inl (lfm_RX5_244 h)
theorem lc_RX5_247 {mt : MT} (h : (mN mt).cls = RX5) : Cond.methodLink (mN mt).cls 247 (mN mX5_layNeeded) ∈ lw_tbl ∧ Cond.instanceMethod (mN mX5_layNeeded) ∈ lw_tbl ∧ Cond.selects (cR 5) (mN mX5_layNeeded) (mN mX5_layNeeded) ∈ lw_tbl := by rw [h]; exact ⟨tbi 1114 (by decide +kernel), tbi 1116 (by decide +kernel), sli 94 (by decide +kernel)⟩
theorem lc_RX5_250 {mt : MT} (h : (mN mt).cls = RX5) : Cond.methodLink (mN mt).cls 250 (mN mX5_plansBy) ∈ lw_tbl ∧ Cond.instanceMethod (mN mX5_plansBy) ∈ lw_tbl ∧ Cond.selects (cR 5) (mN mX5_plansBy) (mN mX5_plansBy) ∈ lw_tbl := by rw [h]; exact ⟨tbi 1126 (by decide +kernel), tbi 1128 (by decide +kernel), sli 97 (by decide +kernel)⟩
theorem lc_RX5_253 {mt : MT} (h : (mN mt).cls = RX5) : Cond.methodLink (mN mt).cls 253 (mN mX5_goesOff) ∈ lw_tbl ∧ Cond.instanceMethod (mN mX5_goesOff) ∈ lw_tbl ∧ Cond.selects (cR 5) (mN mX5_goesOff) (mN mX5_goesOff) ∈ lw_tbl := by rw [h]; exact ⟨tbi 1174 (by decide +kernel), tbi 1176 (by decide +kernel), sli 105 (by decide +kernel)⟩
theorem lc_RX5_257 {mt : MT} (h : (mN mt).cls = RX5) : Cond.methodLink (mN mt).cls 257 (mN mX5_cellsThere) ∈ lw_tbl ∧ Cond.instanceMethod (mN mX5_cellsThere) ∈ lw_tbl ∧ Cond.selects (cR 5) (mN mX5_cellsThere) (mN mX5_cellsThere) ∈ lw_tbl := by rw [h]; exact ⟨tbi 1018 (by decide +kernel), tbi 1020 (by decide +kernel), sli 76 (by decide +kernel)⟩
theorem lc_RX5_260 {mt : MT} (h : (mN mt).cls = RX5) : Cond.methodLink (mN mt).cls 260 (mN mX5_usable) ∈ lw_tbl ∧ Cond.instanceMethod (mN mX5_usable) ∈ lw_tbl ∧ Cond.selects (cR 5) (mN mX5_usable) (mN mX5_usable) ∈ lw_tbl := by rw [h]; exact ⟨tbi 1022 (by decide +kernel), tbi 1024 (by decide +kernel), sli 77 (by decide +kernel)⟩
theorem lc_RX5_263 {mt : MT} (h : (mN mt).cls = RX5) : Cond.methodLink (mN mt).cls 263 (mN mX5_told) ∈ lw_tbl ∧ Cond.instanceMethod (mN mX5_told) ∈ lw_tbl ∧ Cond.selects (cR 5) (mN mX5_told) (mN mX5_told) ∈ lw_tbl := by rw [h]; exact ⟨tbi 1014 (by decide +kernel), tbi 1016 (by decide +kernel), sli 75 (by decide +kernel)⟩
theorem lc_RX5_266 {mt : MT} (h : (mN mt).cls = RX5) : Cond.methodLink (mN mt).cls 266 (mN mX5_noPlace) ∈ lw_tbl ∧ Cond.instanceMethod (mN mX5_noPlace) ∈ lw_tbl ∧ Cond.selects (cR 5) (mN mX5_noPlace) (mN mX5_noPlace) ∈ lw_tbl := by rw [h]; exact ⟨tbi 1054 (by decide +kernel), tbi 1056 (by decide +kernel), sli 84 (by decide +kernel)⟩
theorem lc_RX5_269 {mt : MT} (h : (mN mt).cls = RX5) : Cond.methodLink (mN mt).cls 269 (mN mX5_toldLetter) ∈ lw_tbl ∧ Cond.instanceMethod (mN mX5_toldLetter) ∈ lw_tbl ∧ Cond.selects (cR 5) (mN mX5_toldLetter) (mN mX5_toldLetter) ∈ lw_tbl := by rw [h]; exact ⟨tbi 1058 (by decide +kernel), tbi 1060 (by decide +kernel), sli 85 (by decide +kernel)⟩
theorem lc_RX5_272 {mt : MT} (h : (mN mt).cls = RX5) : Cond.methodLink (mN mt).cls 272 (mN mX5_inMessage) ∈ lw_tbl ∧ Cond.instanceMethod (mN mX5_inMessage) ∈ lw_tbl ∧ Cond.selects (cR 5) (mN mX5_inMessage) (mN mX5_inMessage) ∈ lw_tbl := by rw [h]; exact ⟨tbi 1070 (by decide +kernel), tbi 1072 (by decide +kernel), sli 87 (by decide +kernel)⟩
theorem lc_RX5_275 {mt : MT} (h : (mN mt).cls = RX5) : Cond.methodLink (mN mt).cls 275 (mN mX5_toldPlace) ∈ lw_tbl ∧ Cond.instanceMethod (mN mX5_toldPlace) ∈ lw_tbl ∧ Cond.selects (cR 5) (mN mX5_toldPlace) (mN mX5_toldPlace) ∈ lw_tbl := by rw [h]; exact ⟨tbi 1066 (by decide +kernel), tbi 1068 (by decide +kernel), sli 86 (by decide +kernel)⟩
theorem lc_RX5_279 {mt : MT} (h : (mN mt).cls = RX5) : Cond.methodLink (mN mt).cls 279 (mN mX5_layPlan) ∈ lw_tbl ∧ Cond.instanceMethod (mN mX5_layPlan) ∈ lw_tbl ∧ Cond.selects (cR 5) (mN mX5_layPlan) (mN mX5_layPlan) ∈ lw_tbl := by rw [h]; exact ⟨tbi 1110 (by decide +kernel), tbi 1112 (by decide +kernel), sli 93 (by decide +kernel)⟩
theorem lc_RX5_282 {mt : MT} (h : (mN mt).cls = RX5) : Cond.methodLink (mN mt).cls 282 (mN mX5_toldCut) ∈ lw_tbl ∧ Cond.instanceMethod (mN mX5_toldCut) ∈ lw_tbl ∧ Cond.selects (cR 5) (mN mX5_toldCut) (mN mX5_toldCut) ∈ lw_tbl := by rw [h]; exact ⟨tbi 1153 (by decide +kernel), tbi 1155 (by decide +kernel), sli 102 (by decide +kernel)⟩
theorem lc_RX5_285 {mt : MT} (h : (mN mt).cls = RX5) : Cond.methodLink (mN mt).cls 285 (mN mX5_laySizes) ∈ lw_tbl ∧ Cond.instanceMethod (mN mX5_laySizes) ∈ lw_tbl ∧ Cond.selects (cR 5) (mN mX5_laySizes) (mN mX5_laySizes) ∈ lw_tbl := by rw [h]; exact ⟨tbi 1161 (by decide +kernel), tbi 1163 (by decide +kernel), sli 103 (by decide +kernel)⟩
theorem lc_RX5_288 {mt : MT} (h : (mN mt).cls = RX5) : Cond.methodLink (mN mt).cls 288 (mN mJ9_abs_0f7a4) ∈ lw_tbl ∧ Cond.static (mN mJ9_abs_0f7a4) ∈ lw_tbl := by rw [h]; exact ⟨tbi 1165 (by decide +kernel), tbi 381 (by decide +kernel)⟩
theorem lc_RX5_293 {mt : MT} (h : (mN mt).cls = RX5) : Cond.methodLink (mN mt).cls 293 (mN mX5_cutPlan) ∈ lw_tbl ∧ Cond.instanceMethod (mN mX5_cutPlan) ∈ lw_tbl ∧ Cond.selects (cR 5) (mN mX5_cutPlan) (mN mX5_cutPlan) ∈ lw_tbl := by rw [h]; exact ⟨tbi 1170 (by decide +kernel), tbi 1172 (by decide +kernel), sli 104 (by decide +kernel)⟩
theorem lc_RX5_296 {mt : MT} (h : (mN mt).cls = RX5) : Cond.methodLink (mN mt).cls 296 (mN mX5_isWanted) ∈ lw_tbl ∧ Cond.instanceMethod (mN mX5_isWanted) ∈ lw_tbl ∧ Cond.selects (cR 5) (mN mX5_isWanted) (mN mX5_isWanted) ∈ lw_tbl := by rw [h]; exact ⟨tbi 1190 (by decide +kernel), tbi 1192 (by decide +kernel), sli 107 (by decide +kernel)⟩
theorem lc_RX5_299 {mt : MT} (h : (mN mt).cls = RX5) : Cond.methodLink (mN mt).cls 299 (mN mX5_clashesNow) ∈ lw_tbl ∧ Cond.instanceMethod (mN mX5_clashesNow) ∈ lw_tbl ∧ Cond.selects (cR 5) (mN mX5_clashesNow) (mN mX5_clashesNow) ∈ lw_tbl := by rw [h]; exact ⟨tbi 1186 (by decide +kernel), tbi 1188 (by decide +kernel), sli 106 (by decide +kernel)⟩
theorem lfm_RX5_302 {mt : MT} (h : (mN mt).cls = RX5) : Cond.fieldLink (mN mt).cls 302 (cT 5 12).1 (cT 5 12).2.1 (cT 5 12).2.2.1 ∈ lw_tbl := by rw [h]; exact tbi 844 (by decide +kernel)
theorem lf_RX5_302 {mt : MT} (h : (mN mt).cls = RX5) : FL mt 302 5 12 := Or.inl (lfm_RX5_302 h)
theorem lc_RX5_305 {mt : MT} (h : (mN mt).cls = RX5) : Cond.methodLink (mN mt).cls 305 (mN mX5_areLetters) ∈ lw_tbl ∧ Cond.instanceMethod (mN mX5_areLetters) ∈ lw_tbl ∧ Cond.selects (cR 5) (mN mX5_areLetters) (mN mX5_areLetters) ∈ lw_tbl := by rw [h]; exact ⟨tbi 1202 (by decide +kernel), tbi 1204 (by decide +kernel), sli 108 (by decide +kernel)⟩
theorem lc_RX5_308 {mt : MT} (h : (mN mt).cls = RX5) : Cond.methodLink (mN mt).cls 308 (mN mX5_isCut) ∈ lw_tbl ∧ Cond.instanceMethod (mN mX5_isCut) ∈ lw_tbl ∧ Cond.selects (cR 5) (mN mX5_isCut) (mN mX5_isCut) ∈ lw_tbl := by rw [h]; exact ⟨tbi 1214 (by decide +kernel), tbi 1216 (by decide +kernel), sli 109 (by decide +kernel)⟩
theorem lc_RJ0_335 {mt : MT} (h : (mN mt).cls = RJ0) : Cond.methodLink (mN mt).cls 335 (mN mJ0_coder_7d493) ∈ lw_tbl ∧ Cond.instanceMethod (mN mJ0_coder_7d493) ∈ lw_tbl ∧ Cond.selects ("java/lang/String") (mN mJ0_coder_7d493) (mN mJ0_coder_7d493) ∈ lw_tbl := by rw [h]; exact ⟨tbi 564 (by decide +kernel), tbi 565 (by decide +kernel), tbi 566 (by decide +kernel)⟩
theorem lc_RJ0_492 {mt : MT} (h : (mN mt).cls = RJ0) : Cond.methodLink (mN mt).cls 492 (mN mJ0_isLatin1_aae02) ∈ lw_tbl ∧ Cond.instanceMethod (mN mJ0_isLatin1_aae02) ∈ lw_tbl ∧ Cond.selects ("java/lang/String") (mN mJ0_isLatin1_aae02) (mN mJ0_isLatin1_aae02) ∈ lw_tbl := by rw [h]; exact ⟨tbi 574 (by decide +kernel), tbi 575 (by decide +kernel), tbi 576 (by decide +kernel)⟩
theorem lc_RJ0_495 {mt : MT} (h : (mN mt).cls = RJ0) : Cond.methodLink (mN mt).cls 495 (mN mJ1_charAt_3b067) ∈ lw_tbl ∧ Cond.static (mN mJ1_charAt_3b067) ∈ lw_tbl := by rw [h]; exact ⟨tbi 578 (by decide +kernel), tbi 579 (by decide +kernel)⟩
theorem lc_RJ0_498 {mt : MT} (h : (mN mt).cls = RJ0) : Cond.methodLink (mN mt).cls 498 (mN mJ2_charAt_3b067) ∈ lw_tbl ∧ Cond.static (mN mJ2_charAt_3b067) ∈ lw_tbl := by rw [h]; exact ⟨tbi 589 (by decide +kernel), tbi 590 (by decide +kernel)⟩
theorem lc_RJ0_1059 {mt : MT} (h : (mN mt).cls = RJ0) : Cond.methodLink (mN mt).cls 1059 (mN mJ3_checkIndex_8e157) ∈ lw_tbl ∧ Cond.static (mN mJ3_checkIndex_8e157) ∈ lw_tbl := by rw [h]; exact ⟨tbi 586 (by decide +kernel), tbi 587 (by decide +kernel)⟩
theorem lc_RJ1_9 {mt : MT} (h : (mN mt).cls = RJ1) : Cond.methodLink (mN mt).cls 9 (mN mJ0_checkIndex_df160) ∈ lw_tbl ∧ Cond.static (mN mJ0_checkIndex_df160) ∈ lw_tbl := by rw [h]; exact ⟨tbi 581 (by decide +kernel), tbi 582 (by decide +kernel)⟩
theorem lc_RJ2_48 {mt : MT} (h : (mN mt).cls = RJ2) : Cond.methodLink (mN mt).cls 48 (mN mJ2_length_9d52b) ∈ lw_tbl ∧ Cond.static (mN mJ2_length_9d52b) ∈ lw_tbl := by rw [h]; exact ⟨tbi 595 (by decide +kernel), tbi 596 (by decide +kernel)⟩
theorem lc_RJ2_67 {mt : MT} (h : (mN mt).cls = RJ2) : Cond.methodLink (mN mt).cls 67 (mN mJ2_checkIndex_2214a) ∈ lw_tbl ∧ Cond.static (mN mJ2_checkIndex_2214a) ∈ lw_tbl := by rw [h]; exact ⟨tbi 592 (by decide +kernel), tbi 593 (by decide +kernel)⟩
theorem lc_RJ2_71 {mt : MT} (h : (mN mt).cls = RJ2) : Cond.methodLink (mN mt).cls 71 (mN mJ2_getChar_3b067) ∈ lw_tbl ∧ Cond.static (mN mJ2_getChar_3b067) ∈ lw_tbl := by rw [h]; exact ⟨tbi 599 (by decide +kernel), tbi 600 (by decide +kernel)⟩
theorem lc_RJ2_414 {mt : MT} (h : (mN mt).cls = RJ2) : Cond.methodLink (mN mt).cls 414 (mN mJ0_checkIndex_df160) ∈ lw_tbl ∧ Cond.static (mN mJ0_checkIndex_df160) ∈ lw_tbl := by rw [h]; exact ⟨tbi 598 (by decide +kernel), tbi 582 (by decide +kernel)⟩
theorem lj_RX0_37 {mt : MT} (h : (mN mt).cls = RX0) : Cond.constantLong (mN mt).cls 37 (-1) ∈ lw_tbl := by rw [h]; exact tbi 304 (by decide +kernel)
theorem lj_RX1_108 {mt : MT} (h : (mN mt).cls = RX1) : Cond.constantLong (mN mt).cls 108 (-1) ∈ lw_tbl := by rw [h]; exact tbi 349 (by decide +kernel)
theorem lj_RX4_248 {mt : MT} (h : (mN mt).cls = RX4) : Cond.constantLong (mN mt).cls 248 (31) ∈ lw_tbl := by rw [h]; exact tbi 429 (by decide +kernel)
theorem lj_RJ13_314 {mt : MT} (h : (mN mt).cls = RJ13) : Cond.constantLong (mN mt).cls 314 (6148914691236517205) ∈ lw_tbl := by rw [h]; exact tbi 445 (by decide +kernel)
theorem lj_RJ13_316 {mt : MT} (h : (mN mt).cls = RJ13) : Cond.constantLong (mN mt).cls 316 (3689348814741910323) ∈ lw_tbl := by rw [h]; exact tbi 446 (by decide +kernel)
theorem lj_RJ13_318 {mt : MT} (h : (mN mt).cls = RJ13) : Cond.constantLong (mN mt).cls 318 (1085102592571150095) ∈ lw_tbl := by rw [h]; exact tbi 447 (by decide +kernel)
theorem lj_RX4_246 {mt : MT} (h : (mN mt).cls = RX4) : Cond.constantLong (mN mt).cls 246 (-1) ∈ lw_tbl := by rw [h]; exact tbi 821 (by decide +kernel)
theorem lj_RX5_217 {mt : MT} (h : (mN mt).cls = RX5) : Cond.constantLong (mN mt).cls 217 (9) ∈ lw_tbl := by rw [h]; exact tbi 1138 (by decide +kernel)
theorem lj_RX5_219 {mt : MT} (h : (mN mt).cls = RX5) : Cond.constantLong (mN mt).cls 219 (4095) ∈ lw_tbl := by rw [h]; exact tbi 1143 (by decide +kernel)
theorem lj_RX5_236 {mt : MT} (h : (mN mt).cls = RX5) : Cond.constantLong (mN mt).cls 236 (-1) ∈ lw_tbl := by rw [h]; exact tbi 1148 (by decide +kernel)
theorem lj_RX5_311 {mt : MT} (h : (mN mt).cls = RX5) : Cond.constantLong (mN mt).cls 311 (31) ∈ lw_tbl := by rw [h]; exact tbi 1234 (by decide +kernel)
theorem li_RX5_118 {mt : MT} (h : (mN mt).cls = RX5) : Cond.constant (mN mt).cls 118 (100000000) ∈ lw_tbl := by rw [h]; exact tbi 964 (by decide +kernel)
