abbrev mX0_init : Mt := (yX0_init, cX0_init, 1, none)
theorem mwX0_init : MW mX0_init 0 := ⟨List.mem_of_getElem? (i := 133) (by decide +kernel), List.mem_of_getElem? (i := 81) (by decide +kernel), by decide +kernel, by decide +kernel, by decide⟩
theorem imX0_init : Cond.instanceMethod yX0_init ∈ lw_tbl := List.mem_of_getElem? (i := 132) (by decide +kernel)
abbrev mX0_isKind : Mt := (yX0_isKind, cX0_isKind, 2, (some .boolean))
theorem mwX0_isKind : MW mX0_isKind 1 := ⟨List.mem_of_getElem? (i := 571) (by decide +kernel), List.mem_of_getElem? (i := 81) (by decide +kernel), by decide +kernel, by decide +kernel, by decide⟩
theorem imX0_isKind : Cond.instanceMethod yX0_isKind ∈ lw_tbl := List.mem_of_getElem? (i := 570) (by decide +kernel)
abbrev mX0_reach : Mt := (yX0_reach, cX0_reach, 2, (some .int))
theorem mwX0_reach : MW mX0_reach 1 := ⟨List.mem_of_getElem? (i := 453) (by decide +kernel), List.mem_of_getElem? (i := 81) (by decide +kernel), by decide +kernel, by decide +kernel, by decide⟩
theorem imX0_reach : Cond.instanceMethod yX0_reach ∈ lw_tbl := List.mem_of_getElem? (i := 452) (by decide +kernel)
abbrev mX0_minutes : Mt := (yX0_minutes, cX0_minutes, 2, (some .int))
theorem mwX0_minutes : MW mX0_minutes 1 := ⟨List.mem_of_getElem? (i := 485) (by decide +kernel), List.mem_of_getElem? (i := 81) (by decide +kernel), by decide +kernel, by decide +kernel, by decide⟩
theorem imX0_minutes : Cond.instanceMethod yX0_minutes ∈ lw_tbl := List.mem_of_getElem? (i := 484) (by decide +kernel)
abbrev mX0_worth : Mt := (yX0_worth, cX0_worth, 2, (some .int))
theorem mwX0_worth : MW mX0_worth 1 := ⟨List.mem_of_getElem? (i := 539) (by decide +kernel), List.mem_of_getElem? (i := 81) (by decide +kernel), by decide +kernel, by decide +kernel, by decide⟩
theorem imX0_worth : Cond.instanceMethod yX0_worth ∈ lw_tbl := List.mem_of_getElem? (i := 538) (by decide +kernel)
abbrev mX1_init : Mt := (yX1_init, cX1_init, 1, none)
theorem mwX1_init : MW mX1_init 0 := ⟨List.mem_of_getElem? (i := 147) (by decide +kernel), List.mem_of_getElem? (i := 83) (by decide +kernel), by decide +kernel, by decide +kernel, by decide⟩
theorem imX1_init : Cond.instanceMethod yX1_init ∈ lw_tbl := List.mem_of_getElem? (i := 146) (by decide +kernel)
abbrev mX1_isKind : Mt := (yX1_isKind, cX1_isKind, 2, (some .boolean))
theorem mwX1_isKind : MW mX1_isKind 1 := ⟨List.mem_of_getElem? (i := 578) (by decide +kernel), List.mem_of_getElem? (i := 83) (by decide +kernel), by decide +kernel, by decide +kernel, by decide⟩
theorem imX1_isKind : Cond.instanceMethod yX1_isKind ∈ lw_tbl := List.mem_of_getElem? (i := 577) (by decide +kernel)
abbrev mX1_reach : Mt := (yX1_reach, cX1_reach, 2, (some .int))
theorem mwX1_reach : MW mX1_reach 1 := ⟨List.mem_of_getElem? (i := 460) (by decide +kernel), List.mem_of_getElem? (i := 83) (by decide +kernel), by decide +kernel, by decide +kernel, by decide⟩
theorem imX1_reach : Cond.instanceMethod yX1_reach ∈ lw_tbl := List.mem_of_getElem? (i := 459) (by decide +kernel)
abbrev mX1_worth : Mt := (yX1_worth, cX1_worth, 2, (some .int))
theorem mwX1_worth : MW mX1_worth 1 := ⟨List.mem_of_getElem? (i := 546) (by decide +kernel), List.mem_of_getElem? (i := 83) (by decide +kernel), by decide +kernel, by decide +kernel, by decide⟩
theorem imX1_worth : Cond.instanceMethod yX1_worth ∈ lw_tbl := List.mem_of_getElem? (i := 545) (by decide +kernel)
abbrev mX1_letsMove : Mt := (yX1_letsMove, cX1_letsMove, 3, (some .boolean))
theorem mwX1_letsMove : MW mX1_letsMove 2 := ⟨List.mem_of_getElem? (i := 647) (by decide +kernel), List.mem_of_getElem? (i := 83) (by decide +kernel), by decide +kernel, by decide +kernel, by decide⟩
theorem imX1_letsMove : Cond.instanceMethod yX1_letsMove ∈ lw_tbl := List.mem_of_getElem? (i := 646) (by decide +kernel)
abbrev mX2_init : Mt := (yX2_init, cX2_init, 1, none)
theorem mwX2_init : MW mX2_init 0 := ⟨List.mem_of_getElem? (i := 126) (by decide +kernel), List.mem_of_getElem? (i := 80) (by decide +kernel), by decide +kernel, by decide +kernel, by decide⟩
theorem imX2_init : Cond.instanceMethod yX2_init ∈ lw_tbl := List.mem_of_getElem? (i := 125) (by decide +kernel)
abbrev mX2_isKind : Mt := (yX2_isKind, cX2_isKind, 2, (some .boolean))
theorem mwX2_isKind : MW mX2_isKind 1 := ⟨List.mem_of_getElem? (i := 582) (by decide +kernel), List.mem_of_getElem? (i := 80) (by decide +kernel), by decide +kernel, by decide +kernel, by decide⟩
theorem imX2_isKind : Cond.instanceMethod yX2_isKind ∈ lw_tbl := List.mem_of_getElem? (i := 581) (by decide +kernel)
abbrev mX2_minutes : Mt := (yX2_minutes, cX2_minutes, 2, (some .int))
theorem mwX2_minutes : MW mX2_minutes 1 := ⟨List.mem_of_getElem? (i := 493) (by decide +kernel), List.mem_of_getElem? (i := 80) (by decide +kernel), by decide +kernel, by decide +kernel, by decide⟩
theorem imX2_minutes : Cond.instanceMethod yX2_minutes ∈ lw_tbl := List.mem_of_getElem? (i := 492) (by decide +kernel)
abbrev mX2_worth : Mt := (yX2_worth, cX2_worth, 2, (some .int))
theorem mwX2_worth : MW mX2_worth 1 := ⟨List.mem_of_getElem? (i := 549) (by decide +kernel), List.mem_of_getElem? (i := 80) (by decide +kernel), by decide +kernel, by decide +kernel, by decide⟩
theorem imX2_worth : Cond.instanceMethod yX2_worth ∈ lw_tbl := List.mem_of_getElem? (i := 548) (by decide +kernel)
abbrev mX2_letsMove : Mt := (yX2_letsMove, cX2_letsMove, 3, (some .boolean))
theorem mwX2_letsMove : MW mX2_letsMove 2 := ⟨List.mem_of_getElem? (i := 650) (by decide +kernel), List.mem_of_getElem? (i := 80) (by decide +kernel), by decide +kernel, by decide +kernel, by decide⟩
theorem imX2_letsMove : Cond.instanceMethod yX2_letsMove ∈ lw_tbl := List.mem_of_getElem? (i := 649) (by decide +kernel)
abbrev mX3_init : Mt := (yX3_init, cX3_init, 1, none)
theorem mwX3_init : MW mX3_init 0 := ⟨List.mem_of_getElem? (i := 140) (by decide +kernel), List.mem_of_getElem? (i := 82) (by decide +kernel), by decide +kernel, by decide +kernel, by decide⟩
theorem imX3_init : Cond.instanceMethod yX3_init ∈ lw_tbl := List.mem_of_getElem? (i := 139) (by decide +kernel)
abbrev mX3_isKind : Mt := (yX3_isKind, cX3_isKind, 2, (some .boolean))
theorem mwX3_isKind : MW mX3_isKind 1 := ⟨List.mem_of_getElem? (i := 586) (by decide +kernel), List.mem_of_getElem? (i := 82) (by decide +kernel), by decide +kernel, by decide +kernel, by decide⟩
theorem imX3_isKind : Cond.instanceMethod yX3_isKind ∈ lw_tbl := List.mem_of_getElem? (i := 585) (by decide +kernel)
abbrev mX3_reach : Mt := (yX3_reach, cX3_reach, 2, (some .int))
theorem mwX3_reach : MW mX3_reach 1 := ⟨List.mem_of_getElem? (i := 465) (by decide +kernel), List.mem_of_getElem? (i := 82) (by decide +kernel), by decide +kernel, by decide +kernel, by decide⟩
theorem imX3_reach : Cond.instanceMethod yX3_reach ∈ lw_tbl := List.mem_of_getElem? (i := 464) (by decide +kernel)
abbrev mX3_worth : Mt := (yX3_worth, cX3_worth, 2, (some .int))
theorem mwX3_worth : MW mX3_worth 1 := ⟨List.mem_of_getElem? (i := 553) (by decide +kernel), List.mem_of_getElem? (i := 82) (by decide +kernel), by decide +kernel, by decide +kernel, by decide⟩
theorem imX3_worth : Cond.instanceMethod yX3_worth ∈ lw_tbl := List.mem_of_getElem? (i := 552) (by decide +kernel)
abbrev mX4_init : Mt := (yX4_init, cX4_init, 1, none)
theorem mwX4_init : MW mX4_init 0 := ⟨List.mem_of_getElem? (i := 112) (by decide +kernel), List.mem_of_getElem? (i := 78) (by decide +kernel), by decide +kernel, by decide +kernel, by decide⟩
theorem imX4_init : Cond.instanceMethod yX4_init ∈ lw_tbl := List.mem_of_getElem? (i := 111) (by decide +kernel)
abbrev mX4_isKind : Mt := (yX4_isKind, cX4_isKind, 2, (some .boolean))
theorem mwX4_isKind : MW mX4_isKind 1 := ⟨List.mem_of_getElem? (i := 589) (by decide +kernel), List.mem_of_getElem? (i := 78) (by decide +kernel), by decide +kernel, by decide +kernel, by decide⟩
theorem imX4_isKind : Cond.instanceMethod yX4_isKind ∈ lw_tbl := List.mem_of_getElem? (i := 566) (by decide +kernel)
abbrev mX4_reach : Mt := (yX4_reach, cX4_reach, 2, (some .int))
theorem mwX4_reach : MW mX4_reach 1 := ⟨List.mem_of_getElem? (i := 473) (by decide +kernel), List.mem_of_getElem? (i := 78) (by decide +kernel), by decide +kernel, by decide +kernel, by decide⟩
theorem imX4_reach : Cond.instanceMethod yX4_reach ∈ lw_tbl := List.mem_of_getElem? (i := 448) (by decide +kernel)
abbrev mX4_minutes : Mt := (yX4_minutes, cX4_minutes, 2, (some .int))
theorem mwX4_minutes : MW mX4_minutes 1 := ⟨List.mem_of_getElem? (i := 497) (by decide +kernel), List.mem_of_getElem? (i := 78) (by decide +kernel), by decide +kernel, by decide +kernel, by decide⟩
theorem imX4_minutes : Cond.instanceMethod yX4_minutes ∈ lw_tbl := List.mem_of_getElem? (i := 480) (by decide +kernel)
abbrev mX4_worth : Mt := (yX4_worth, cX4_worth, 2, (some .int))
theorem mwX4_worth : MW mX4_worth 1 := ⟨List.mem_of_getElem? (i := 556) (by decide +kernel), List.mem_of_getElem? (i := 78) (by decide +kernel), by decide +kernel, by decide +kernel, by decide⟩
theorem imX4_worth : Cond.instanceMethod yX4_worth ∈ lw_tbl := List.mem_of_getElem? (i := 534) (by decide +kernel)
abbrev mX4_letsMove : Mt := (yX4_letsMove, cX4_letsMove, 3, (some .boolean))
theorem mwX4_letsMove : MW mX4_letsMove 2 := ⟨List.mem_of_getElem? (i := 654) (by decide +kernel), List.mem_of_getElem? (i := 78) (by decide +kernel), by decide +kernel, by decide +kernel, by decide⟩
theorem imX4_letsMove : Cond.instanceMethod yX4_letsMove ∈ lw_tbl := List.mem_of_getElem? (i := 639) (by decide +kernel)
abbrev mX5_init : Mt := (yX5_init, cX5_init, 1, none)
theorem mwX5_init : MW mX5_init 0 := ⟨List.mem_of_getElem? (i := 268) (by decide +kernel), List.mem_of_getElem? (i := 86) (by decide +kernel), by decide +kernel, by decide +kernel, by decide⟩
theorem imX5_init : Cond.instanceMethod yX5_init ∈ lw_tbl := List.mem_of_getElem? (i := 267) (by decide +kernel)
abbrev mX5_take : Mt := (yX5_take, cX5_take, 3, none)
theorem mwX5_take : MW mX5_take 1 := ⟨List.mem_of_getElem? (i := 817) (by decide +kernel), List.mem_of_getElem? (i := 86) (by decide +kernel), by decide +kernel, by decide +kernel, by decide⟩
theorem imX5_take : Cond.instanceMethod yX5_take ∈ lw_tbl := List.mem_of_getElem? (i := 815) (by decide +kernel)
abbrev mX5_readText : Mt := (yX5_readText, cX5_readText, 1, (some (.object "LadderTown$Text")))
theorem mwX5_readText : MW mX5_readText 0 := ⟨List.mem_of_getElem? (i := 829) (by decide +kernel), List.mem_of_getElem? (i := 86) (by decide +kernel), by decide +kernel, by decide +kernel, by decide⟩
theorem imX5_readText : Cond.instanceMethod yX5_readText ∈ lw_tbl := List.mem_of_getElem? (i := 827) (by decide +kernel)
abbrev mX5_skipBlanks : Mt := (yX5_skipBlanks, cX5_skipBlanks, 1, none)
theorem mwX5_skipBlanks : MW mX5_skipBlanks 0 := ⟨List.mem_of_getElem? (i := 837) (by decide +kernel), List.mem_of_getElem? (i := 86) (by decide +kernel), by decide +kernel, by decide +kernel, by decide⟩
theorem imX5_skipBlanks : Cond.instanceMethod yX5_skipBlanks ∈ lw_tbl := List.mem_of_getElem? (i := 836) (by decide +kernel)
abbrev mX5_isLetter : Mt := (yX5_isLetter, cX5_isLetter, 1, (some .boolean))
theorem mwX5_isLetter : MW mX5_isLetter 1 := ⟨List.mem_of_getElem? (i := 844) (by decide +kernel), List.mem_of_getElem? (i := 86) (by decide +kernel), by decide +kernel, by decide +kernel, by decide⟩
theorem stX5_isLetter : Cond.static yX5_isLetter ∈ lw_tbl := List.mem_of_getElem? (i := 843) (by decide +kernel)
abbrev mX5_isDigit : Mt := (yX5_isDigit, cX5_isDigit, 1, (some .boolean))
theorem mwX5_isDigit : MW mX5_isDigit 1 := ⟨List.mem_of_getElem? (i := 847) (by decide +kernel), List.mem_of_getElem? (i := 86) (by decide +kernel), by decide +kernel, by decide +kernel, by decide⟩
theorem stX5_isDigit : Cond.static yX5_isDigit ∈ lw_tbl := List.mem_of_getElem? (i := 846) (by decide +kernel)
abbrev mX5_wordEnd : Mt := (yX5_wordEnd, cX5_wordEnd, 2, (some .int))
theorem mwX5_wordEnd : MW mX5_wordEnd 0 := ⟨List.mem_of_getElem? (i := 841) (by decide +kernel), List.mem_of_getElem? (i := 86) (by decide +kernel), by decide +kernel, by decide +kernel, by decide⟩
theorem imX5_wordEnd : Cond.instanceMethod yX5_wordEnd ∈ lw_tbl := List.mem_of_getElem? (i := 840) (by decide +kernel)
abbrev mX5_keyWord : Mt := (yX5_keyWord, cX5_keyWord, 1, (some (.object "java/lang/String")))
theorem mwX5_keyWord : MW mX5_keyWord 1 := ⟨List.mem_of_getElem? (i := 850) (by decide +kernel), List.mem_of_getElem? (i := 86) (by decide +kernel), by decide +kernel, by decide +kernel, by decide⟩
theorem stX5_keyWord : Cond.static yX5_keyWord ∈ lw_tbl := List.mem_of_getElem? (i := 849) (by decide +kernel)
abbrev mX5_namesOf : Mt := (yX5_namesOf, cX5_namesOf, 1, (some (.object "java/lang/String")))
theorem mwX5_namesOf : MW mX5_namesOf 1 := ⟨List.mem_of_getElem? (i := 940) (by decide +kernel), List.mem_of_getElem? (i := 86) (by decide +kernel), by decide +kernel, by decide +kernel, by decide⟩
theorem stX5_namesOf : Cond.static yX5_namesOf ∈ lw_tbl := List.mem_of_getElem? (i := 939) (by decide +kernel)
abbrev mX5_isWord : Mt := (yX5_isWord, cX5_isWord, 4, (some .boolean))
theorem mwX5_isWord : MW mX5_isWord 2 := ⟨List.mem_of_getElem? (i := 857) (by decide +kernel), List.mem_of_getElem? (i := 86) (by decide +kernel), by decide +kernel, by decide +kernel, by decide⟩
theorem imX5_isWord : Cond.instanceMethod yX5_isWord ∈ lw_tbl := List.mem_of_getElem? (i := 856) (by decide +kernel)
abbrev mX5_readKey : Mt := (yX5_readKey, cX5_readKey, 2, (some .boolean))
theorem mwX5_readKey : MW mX5_readKey 0 := ⟨List.mem_of_getElem? (i := 833) (by decide +kernel), List.mem_of_getElem? (i := 86) (by decide +kernel), by decide +kernel, by decide +kernel, by decide⟩
theorem imX5_readKey : Cond.instanceMethod yX5_readKey ∈ lw_tbl := List.mem_of_getElem? (i := 832) (by decide +kernel)
abbrev mX5_readLaw : Mt := (yX5_readLaw, cX5_readLaw, 2, (some .boolean))
theorem mwX5_readLaw : MW mX5_readLaw 0 := ⟨List.mem_of_getElem? (i := 909) (by decide +kernel), List.mem_of_getElem? (i := 86) (by decide +kernel), by decide +kernel, by decide +kernel, by decide⟩
theorem imX5_readLaw : Cond.instanceMethod yX5_readLaw ∈ lw_tbl := List.mem_of_getElem? (i := 908) (by decide +kernel)
abbrev mX5_readTowardsOperand : Mt := (yX5_readTowardsOperand, cX5_readTowardsOperand, 2, (some .boolean))
theorem mwX5_readTowardsOperand : MW mX5_readTowardsOperand 0 := ⟨List.mem_of_getElem? (i := 913) (by decide +kernel), List.mem_of_getElem? (i := 86) (by decide +kernel), by decide +kernel, by decide +kernel, by decide⟩
theorem imX5_readTowardsOperand : Cond.instanceMethod yX5_readTowardsOperand ∈ lw_tbl := List.mem_of_getElem? (i := 912) (by decide +kernel)
abbrev mX5_readNumber : Mt := (yX5_readNumber, cX5_readNumber, 4, (some .boolean))
theorem mwX5_readNumber : MW mX5_readNumber 0 := ⟨List.mem_of_getElem? (i := 917) (by decide +kernel), List.mem_of_getElem? (i := 86) (by decide +kernel), by decide +kernel, by decide +kernel, by decide⟩
theorem imX5_readNumber : Cond.instanceMethod yX5_readNumber ∈ lw_tbl := List.mem_of_getElem? (i := 916) (by decide +kernel)
abbrev mX5_readName : Mt := (yX5_readName, cX5_readName, 2, (some .boolean))
theorem mwX5_readName : MW mX5_readName 0 := ⟨List.mem_of_getElem? (i := 937) (by decide +kernel), List.mem_of_getElem? (i := 86) (by decide +kernel), by decide +kernel, by decide +kernel, by decide⟩
theorem imX5_readName : Cond.instanceMethod yX5_readName ∈ lw_tbl := List.mem_of_getElem? (i := 936) (by decide +kernel)
abbrev mX5_putOperand : Mt := (yX5_putOperand, cX5_putOperand, 2, none)
theorem mwX5_putOperand : MW mX5_putOperand 1 := ⟨List.mem_of_getElem? (i := 921) (by decide +kernel), List.mem_of_getElem? (i := 86) (by decide +kernel), by decide +kernel, by decide +kernel, by decide⟩
theorem imX5_putOperand : Cond.instanceMethod yX5_putOperand ∈ lw_tbl := List.mem_of_getElem? (i := 920) (by decide +kernel)
abbrev mX5_putOut : Mt := (yX5_putOut, cX5_putOut, 2, none)
theorem mwX5_putOut : MW mX5_putOut 1 := ⟨List.mem_of_getElem? (i := 925) (by decide +kernel), List.mem_of_getElem? (i := 86) (by decide +kernel), by decide +kernel, by decide +kernel, by decide⟩
theorem imX5_putOut : Cond.instanceMethod yX5_putOut ∈ lw_tbl := List.mem_of_getElem? (i := 924) (by decide +kernel)
abbrev mX5_pushSign : Mt := (yX5_pushSign, cX5_pushSign, 2, none)
theorem mwX5_pushSign : MW mX5_pushSign 1 := ⟨List.mem_of_getElem? (i := 1002) (by decide +kernel), List.mem_of_getElem? (i := 86) (by decide +kernel), by decide +kernel, by decide +kernel, by decide⟩
theorem imX5_pushSign : Cond.instanceMethod yX5_pushSign ∈ lw_tbl := List.mem_of_getElem? (i := 1001) (by decide +kernel)
abbrev mX5_topSign : Mt := (yX5_topSign, cX5_topSign, 1, (some .int))
theorem mwX5_topSign : MW mX5_topSign 0 := ⟨List.mem_of_getElem? (i := 933) (by decide +kernel), List.mem_of_getElem? (i := 86) (by decide +kernel), by decide +kernel, by decide +kernel, by decide⟩
theorem imX5_topSign : Cond.instanceMethod yX5_topSign ∈ lw_tbl := List.mem_of_getElem? (i := 932) (by decide +kernel)
abbrev mX5_closePiece : Mt := (yX5_closePiece, cX5_closePiece, 1, none)
theorem mwX5_closePiece : MW mX5_closePiece 0 := ⟨List.mem_of_getElem? (i := 929) (by decide +kernel), List.mem_of_getElem? (i := 86) (by decide +kernel), by decide +kernel, by decide +kernel, by decide⟩
theorem imX5_closePiece : Cond.instanceMethod yX5_closePiece ∈ lw_tbl := List.mem_of_getElem? (i := 928) (by decide +kernel)
abbrev mX5_readBehindOperand : Mt := (yX5_readBehindOperand, cX5_readBehindOperand, 3, (some .boolean))
theorem mwX5_readBehindOperand : MW mX5_readBehindOperand 0 := ⟨List.mem_of_getElem? (i := 1006) (by decide +kernel), List.mem_of_getElem? (i := 86) (by decide +kernel), by decide +kernel, by decide +kernel, by decide⟩
theorem imX5_readBehindOperand : Cond.instanceMethod yX5_readBehindOperand ∈ lw_tbl := List.mem_of_getElem? (i := 1005) (by decide +kernel)
abbrev mX5_readClosing : Mt := (yX5_readClosing, cX5_readClosing, 1, (some .boolean))
theorem mwX5_readClosing : MW mX5_readClosing 0 := ⟨List.mem_of_getElem? (i := 1010) (by decide +kernel), List.mem_of_getElem? (i := 86) (by decide +kernel), by decide +kernel, by decide +kernel, by decide⟩
theorem imX5_readClosing : Cond.instanceMethod yX5_readClosing ∈ lw_tbl := List.mem_of_getElem? (i := 1009) (by decide +kernel)
abbrev mX5_putOutSigns : Mt := (yX5_putOutSigns, cX5_putOutSigns, 2, none)
theorem mwX5_putOutSigns : MW mX5_putOutSigns 1 := ⟨List.mem_of_getElem? (i := 1014) (by decide +kernel), List.mem_of_getElem? (i := 86) (by decide +kernel), by decide +kernel, by decide +kernel, by decide⟩
theorem imX5_putOutSigns : Cond.instanceMethod yX5_putOutSigns ∈ lw_tbl := List.mem_of_getElem? (i := 1013) (by decide +kernel)
abbrev mX5_rankOf : Mt := (yX5_rankOf, cX5_rankOf, 1, (some .int))
theorem mwX5_rankOf : MW mX5_rankOf 1 := ⟨List.mem_of_getElem? (i := 1017) (by decide +kernel), List.mem_of_getElem? (i := 86) (by decide +kernel), by decide +kernel, by decide +kernel, by decide⟩
theorem stX5_rankOf : Cond.static yX5_rankOf ∈ lw_tbl := List.mem_of_getElem? (i := 1016) (by decide +kernel)
abbrev mX6_init : Mt := (yX6_init, cX6_init, 1, none)
theorem mwX6_init : MW mX6_init 0 := ⟨List.mem_of_getElem? (i := 119) (by decide +kernel), List.mem_of_getElem? (i := 79) (by decide +kernel), by decide +kernel, by decide +kernel, by decide⟩
theorem imX6_init : Cond.instanceMethod yX6_init ∈ lw_tbl := List.mem_of_getElem? (i := 118) (by decide +kernel)
abbrev mX6_isKind : Mt := (yX6_isKind, cX6_isKind, 2, (some .boolean))
theorem mwX6_isKind : MW mX6_isKind 1 := ⟨List.mem_of_getElem? (i := 574) (by decide +kernel), List.mem_of_getElem? (i := 79) (by decide +kernel), by decide +kernel, by decide +kernel, by decide⟩
theorem imX6_isKind : Cond.instanceMethod yX6_isKind ∈ lw_tbl := List.mem_of_getElem? (i := 573) (by decide +kernel)
abbrev mX6_reach : Mt := (yX6_reach, cX6_reach, 2, (some .int))
theorem mwX6_reach : MW mX6_reach 1 := ⟨List.mem_of_getElem? (i := 456) (by decide +kernel), List.mem_of_getElem? (i := 79) (by decide +kernel), by decide +kernel, by decide +kernel, by decide⟩
theorem imX6_reach : Cond.instanceMethod yX6_reach ∈ lw_tbl := List.mem_of_getElem? (i := 455) (by decide +kernel)
abbrev mX6_minutes : Mt := (yX6_minutes, cX6_minutes, 2, (some .int))
theorem mwX6_minutes : MW mX6_minutes 1 := ⟨List.mem_of_getElem? (i := 488) (by decide +kernel), List.mem_of_getElem? (i := 79) (by decide +kernel), by decide +kernel, by decide +kernel, by decide⟩
theorem imX6_minutes : Cond.instanceMethod yX6_minutes ∈ lw_tbl := List.mem_of_getElem? (i := 487) (by decide +kernel)
abbrev mX6_worth : Mt := (yX6_worth, cX6_worth, 2, (some .int))
theorem mwX6_worth : MW mX6_worth 1 := ⟨List.mem_of_getElem? (i := 542) (by decide +kernel), List.mem_of_getElem? (i := 79) (by decide +kernel), by decide +kernel, by decide +kernel, by decide⟩
theorem imX6_worth : Cond.instanceMethod yX6_worth ∈ lw_tbl := List.mem_of_getElem? (i := 541) (by decide +kernel)
abbrev mX6_letsMove : Mt := (yX6_letsMove, cX6_letsMove, 3, (some .boolean))
theorem mwX6_letsMove : MW mX6_letsMove 2 := ⟨List.mem_of_getElem? (i := 644) (by decide +kernel), List.mem_of_getElem? (i := 79) (by decide +kernel), by decide +kernel, by decide +kernel, by decide⟩
theorem imX6_letsMove : Cond.instanceMethod yX6_letsMove ∈ lw_tbl := List.mem_of_getElem? (i := 643) (by decide +kernel)
abbrev mX7_init : Mt := (yX7_init, cX7_init, 1, none)
theorem mwX7_init : MW mX7_init 0 := ⟨List.mem_of_getElem? (i := 320) (by decide +kernel), List.mem_of_getElem? (i := 87) (by decide +kernel), by decide +kernel, by decide +kernel, by decide⟩
theorem imX7_init : Cond.instanceMethod yX7_init ∈ lw_tbl := List.mem_of_getElem? (i := 319) (by decide +kernel)
abbrev mX7_become : Mt := (yX7_become, cX7_become, 3, none)
theorem mwX7_become : MW mX7_become 2 := ⟨List.mem_of_getElem? (i := 1072) (by decide +kernel), List.mem_of_getElem? (i := 87) (by decide +kernel), by decide +kernel, by decide +kernel, by decide⟩
theorem imX7_become : Cond.instanceMethod yX7_become ∈ lw_tbl := List.mem_of_getElem? (i := 1070) (by decide +kernel)
abbrev mX7_becomeAs : Mt := (yX7_becomeAs, cX7_becomeAs, 2, none)
theorem mwX7_becomeAs : MW mX7_becomeAs 1 := ⟨List.mem_of_getElem? (i := 1112) (by decide +kernel), List.mem_of_getElem? (i := 87) (by decide +kernel), by decide +kernel, by decide +kernel, by decide⟩
theorem imX7_becomeAs : Cond.instanceMethod yX7_becomeAs ∈ lw_tbl := List.mem_of_getElem? (i := 1110) (by decide +kernel)
abbrev mX7_hasPlaces : Mt := (yX7_hasPlaces, cX7_hasPlaces, 3, (some .boolean))
theorem mwX7_hasPlaces : MW mX7_hasPlaces 2 := ⟨List.mem_of_getElem? (i := 1103) (by decide +kernel), List.mem_of_getElem? (i := 87) (by decide +kernel), by decide +kernel, by decide +kernel, by decide⟩
theorem imX7_hasPlaces : Cond.instanceMethod yX7_hasPlaces ∈ lw_tbl := List.mem_of_getElem? (i := 1101) (by decide +kernel)
abbrev mX8_init : Mt := (yX8_init, cX8_init, 4, none)
theorem mwX8_init : MW mX8_init 3 := ⟨List.mem_of_getElem? (i := 1036) (by decide +kernel), List.mem_of_getElem? (i := 90) (by decide +kernel), by decide +kernel, by decide +kernel, by decide⟩
theorem imX8_init : Cond.instanceMethod yX8_init ∈ lw_tbl := List.mem_of_getElem? (i := 1035) (by decide +kernel)
abbrev mX8_gives : Mt := (yX8_gives, cX8_gives, 7, (some .int))
theorem mwX8_gives : MW mX8_gives 4 := ⟨List.mem_of_getElem? (i := 521) (by decide +kernel), List.mem_of_getElem? (i := 90) (by decide +kernel), by decide +kernel, by decide +kernel, by decide⟩
theorem imX8_gives : Cond.instanceMethod yX8_gives ∈ lw_tbl := List.mem_of_getElem? (i := 519) (by decide +kernel)
abbrev mX8_named : Mt := (yX8_named, cX8_named, 4, (some .int))
theorem mwX8_named : MW mX8_named 4 := ⟨List.mem_of_getElem? (i := 524) (by decide +kernel), List.mem_of_getElem? (i := 90) (by decide +kernel), by decide +kernel, by decide +kernel, by decide⟩
theorem stX8_named : Cond.static yX8_named ∈ lw_tbl := List.mem_of_getElem? (i := 523) (by decide +kernel)
abbrev mX8_joined : Mt := (yX8_joined, cX8_joined, 3, (some .int))
theorem mwX8_joined : MW mX8_joined 3 := ⟨List.mem_of_getElem? (i := 527) (by decide +kernel), List.mem_of_getElem? (i := 90) (by decide +kernel), by decide +kernel, by decide +kernel, by decide⟩
theorem stX8_joined : Cond.static yX8_joined ∈ lw_tbl := List.mem_of_getElem? (i := 526) (by decide +kernel)
abbrev mX9_init : Mt := (yX9_init, cX9_init, 2, none)
theorem mwX9_init : MW mX9_init 1 := ⟨List.mem_of_getElem? (i := 154) (by decide +kernel), List.mem_of_getElem? (i := 84) (by decide +kernel), by decide +kernel, by decide +kernel, by decide⟩
theorem imX9_init : Cond.instanceMethod yX9_init ∈ lw_tbl := List.mem_of_getElem? (i := 153) (by decide +kernel)
abbrev mX9_becomeAs : Mt := (yX9_becomeAs, cX9_becomeAs, 3, none)
theorem mwX9_becomeAs : MW mX9_becomeAs 1 := ⟨List.mem_of_getElem? (i := 1141) (by decide +kernel), List.mem_of_getElem? (i := 84) (by decide +kernel), by decide +kernel, by decide +kernel, by decide⟩
theorem imX9_becomeAs : Cond.instanceMethod yX9_becomeAs ∈ lw_tbl := List.mem_of_getElem? (i := 1139) (by decide +kernel)
abbrev mX9_copyRow : Mt := (yX9_copyRow, cX9_copyRow, 2, none)
theorem mwX9_copyRow : MW mX9_copyRow 2 := ⟨List.mem_of_getElem? (i := 1144) (by decide +kernel), List.mem_of_getElem? (i := 84) (by decide +kernel), by decide +kernel, by decide +kernel, by decide⟩
theorem stX9_copyRow : Cond.static yX9_copyRow ∈ lw_tbl := List.mem_of_getElem? (i := 1143) (by decide +kernel)
abbrev mX9_addLedge : Mt := (yX9_addLedge, cX9_addLedge, 3, (some .int))
theorem mwX9_addLedge : MW mX9_addLedge 2 := ⟨List.mem_of_getElem? (i := 392) (by decide +kernel), List.mem_of_getElem? (i := 84) (by decide +kernel), by decide +kernel, by decide +kernel, by decide⟩
theorem imX9_addLedge : Cond.instanceMethod yX9_addLedge ∈ lw_tbl := List.mem_of_getElem? (i := 390) (by decide +kernel)
abbrev mX9_addLadder : Mt := (yX9_addLadder, cX9_addLadder, 5, (some .int))
theorem mwX9_addLadder : MW mX9_addLadder 4 := ⟨List.mem_of_getElem? (i := 438) (by decide +kernel), List.mem_of_getElem? (i := 84) (by decide +kernel), by decide +kernel, by decide +kernel, by decide⟩
theorem imX9_addLadder : Cond.instanceMethod yX9_addLadder ∈ lw_tbl := List.mem_of_getElem? (i := 436) (by decide +kernel)
abbrev mX9_addPerson : Mt := (yX9_addPerson, cX9_addPerson, 3, (some .int))
theorem mwX9_addPerson : MW mX9_addPerson 2 := ⟨List.mem_of_getElem? (i := 611) (by decide +kernel), List.mem_of_getElem? (i := 84) (by decide +kernel), by decide +kernel, by decide +kernel, by decide⟩
theorem imX9_addPerson : Cond.instanceMethod yX9_addPerson ∈ lw_tbl := List.mem_of_getElem? (i := 609) (by decide +kernel)
abbrev mX9_addText : Mt := (yX9_addText, cX9_addText, 2, (some .int))
theorem mwX9_addText : MW mX9_addText 1 := ⟨List.mem_of_getElem? (i := 1055) (by decide +kernel), List.mem_of_getElem? (i := 84) (by decide +kernel), by decide +kernel, by decide +kernel, by decide⟩
theorem imX9_addText : Cond.instanceMethod yX9_addText ∈ lw_tbl := List.mem_of_getElem? (i := 1053) (by decide +kernel)
abbrev mX9_draw : Mt := (yX9_draw, cX9_draw, 1, (some .int))
theorem mwX9_draw : MW mX9_draw 0 := ⟨List.mem_of_getElem? (i := 422) (by decide +kernel), List.mem_of_getElem? (i := 84) (by decide +kernel), by decide +kernel, by decide +kernel, by decide⟩
theorem imX9_draw : Cond.instanceMethod yX9_draw ∈ lw_tbl := List.mem_of_getElem? (i := 420) (by decide +kernel)
abbrev mX9_given : Mt := (yX9_given, cX9_given, 8, (some .int))
theorem mwX9_given : MW mX9_given 5 := ⟨List.mem_of_getElem? (i := 516) (by decide +kernel), List.mem_of_getElem? (i := 84) (by decide +kernel), by decide +kernel, by decide +kernel, by decide⟩
theorem imX9_given : Cond.instanceMethod yX9_given ∈ lw_tbl := List.mem_of_getElem? (i := 515) (by decide +kernel)
abbrev mX9_tollOf : Mt := (yX9_tollOf, cX9_tollOf, 3, (some .int))
theorem mwX9_tollOf : MW mX9_tollOf 2 := ⟨List.mem_of_getElem? (i := 730) (by decide +kernel), List.mem_of_getElem? (i := 84) (by decide +kernel), by decide +kernel, by decide +kernel, by decide⟩
theorem imX9_tollOf : Cond.instanceMethod yX9_tollOf ∈ lw_tbl := List.mem_of_getElem? (i := 728) (by decide +kernel)
abbrev mX9_lengthBetween : Mt := (yX9_lengthBetween, cX9_lengthBetween, 6, (some .int))
theorem mwX9_lengthBetween : MW mX9_lengthBetween 2 := ⟨List.mem_of_getElem? (i := 509) (by decide +kernel), List.mem_of_getElem? (i := 84) (by decide +kernel), by decide +kernel, by decide +kernel, by decide⟩
theorem imX9_lengthBetween : Cond.instanceMethod yX9_lengthBetween ∈ lw_tbl := List.mem_of_getElem? (i := 507) (by decide +kernel)
abbrev mX9_reachOf : Mt := (yX9_reachOf, cX9_reachOf, 2, (some .int))
theorem mwX9_reachOf : MW mX9_reachOf 1 := ⟨List.mem_of_getElem? (i := 446) (by decide +kernel), List.mem_of_getElem? (i := 84) (by decide +kernel), by decide +kernel, by decide +kernel, by decide⟩
theorem imX9_reachOf : Cond.instanceMethod yX9_reachOf ∈ lw_tbl := List.mem_of_getElem? (i := 444) (by decide +kernel)
abbrev mX9_minutesOf : Mt := (yX9_minutesOf, cX9_minutesOf, 3, (some .int))
theorem mwX9_minutesOf : MW mX9_minutesOf 1 := ⟨List.mem_of_getElem? (i := 477) (by decide +kernel), List.mem_of_getElem? (i := 84) (by decide +kernel), by decide +kernel, by decide +kernel, by decide⟩
theorem imX9_minutesOf : Cond.instanceMethod yX9_minutesOf ∈ lw_tbl := List.mem_of_getElem? (i := 475) (by decide +kernel)
abbrev mX9_inReach : Mt := (yX9_inReach, cX9_inReach, 4, (some .boolean))
theorem mwX9_inReach : MW mX9_inReach 2 := ⟨List.mem_of_getElem? (i := 505) (by decide +kernel), List.mem_of_getElem? (i := 84) (by decide +kernel), by decide +kernel, by decide +kernel, by decide⟩
theorem imX9_inReach : Cond.instanceMethod yX9_inReach ∈ lw_tbl := List.mem_of_getElem? (i := 503) (by decide +kernel)
abbrev mX9_standsNow : Mt := (yX9_standsNow, cX9_standsNow, 2, (some .boolean))
theorem mwX9_standsNow : MW mX9_standsNow 1 := ⟨List.mem_of_getElem? (i := 501) (by decide +kernel), List.mem_of_getElem? (i := 84) (by decide +kernel), by decide +kernel, by decide +kernel, by decide⟩
theorem imX9_standsNow : Cond.instanceMethod yX9_standsNow ∈ lw_tbl := List.mem_of_getElem? (i := 499) (by decide +kernel)
abbrev mX9_ledgesInReach : Mt := (yX9_ledgesInReach, cX9_ledgesInReach, 4, (some .int))
theorem mwX9_ledgesInReach : MW mX9_ledgesInReach 1 := ⟨List.mem_of_getElem? (i := 560) (by decide +kernel), List.mem_of_getElem? (i := 84) (by decide +kernel), by decide +kernel, by decide +kernel, by decide⟩
theorem imX9_ledgesInReach : Cond.instanceMethod yX9_ledgesInReach ∈ lw_tbl := List.mem_of_getElem? (i := 558) (by decide +kernel)
abbrev mX9_standingCount : Mt := (yX9_standingCount, cX9_standingCount, 3, (some .int))
theorem mwX9_standingCount : MW mX9_standingCount 0 := ⟨List.mem_of_getElem? (i := 1168) (by decide +kernel), List.mem_of_getElem? (i := 84) (by decide +kernel), by decide +kernel, by decide +kernel, by decide⟩
theorem imX9_standingCount : Cond.instanceMethod yX9_standingCount ∈ lw_tbl := List.mem_of_getElem? (i := 1166) (by decide +kernel)
abbrev mX9_laddersFrom : Mt := (yX9_laddersFrom, cX9_laddersFrom, 4, (some .int))
theorem mwX9_laddersFrom : MW mX9_laddersFrom 1 := ⟨List.mem_of_getElem? (i := 404) (by decide +kernel), List.mem_of_getElem? (i := 84) (by decide +kernel), by decide +kernel, by decide +kernel, by decide⟩
theorem imX9_laddersFrom : Cond.instanceMethod yX9_laddersFrom ∈ lw_tbl := List.mem_of_getElem? (i := 402) (by decide +kernel)
abbrev mX9_peopleOn : Mt := (yX9_peopleOn, cX9_peopleOn, 4, (some .int))
theorem mwX9_peopleOn : MW mX9_peopleOn 1 := ⟨List.mem_of_getElem? (i := 400) (by decide +kernel), List.mem_of_getElem? (i := 84) (by decide +kernel), by decide +kernel, by decide +kernel, by decide⟩
theorem imX9_peopleOn : Cond.instanceMethod yX9_peopleOn ∈ lw_tbl := List.mem_of_getElem? (i := 398) (by decide +kernel)
abbrev mX9_othersOn : Mt := (yX9_othersOn, cX9_othersOn, 3, (some .boolean))
theorem mwX9_othersOn : MW mX9_othersOn 2 := ⟨List.mem_of_getElem? (i := 636) (by decide +kernel), List.mem_of_getElem? (i := 84) (by decide +kernel), by decide +kernel, by decide +kernel, by decide⟩
theorem imX9_othersOn : Cond.instanceMethod yX9_othersOn ∈ lw_tbl := List.mem_of_getElem? (i := 635) (by decide +kernel)
abbrev mX9_canMove : Mt := (yX9_canMove, cX9_canMove, 3, (some .boolean))
theorem mwX9_canMove : MW mX9_canMove 2 := ⟨List.mem_of_getElem? (i := 627) (by decide +kernel), List.mem_of_getElem? (i := 84) (by decide +kernel), by decide +kernel, by decide +kernel, by decide⟩
theorem imX9_canMove : Cond.instanceMethod yX9_canMove ∈ lw_tbl := List.mem_of_getElem? (i := 625) (by decide +kernel)
abbrev mX9_canMoveFromFoot : Mt := (yX9_canMoveFromFoot, cX9_canMoveFromFoot, 5, (some .boolean))
theorem mwX9_canMoveFromFoot : MW mX9_canMoveFromFoot 2 := ⟨List.mem_of_getElem? (i := 631) (by decide +kernel), List.mem_of_getElem? (i := 84) (by decide +kernel), by decide +kernel, by decide +kernel, by decide⟩
theorem imX9_canMoveFromFoot : Cond.instanceMethod yX9_canMoveFromFoot ∈ lw_tbl := List.mem_of_getElem? (i := 630) (by decide +kernel)
abbrev mX9_movableFromFoot : Mt := (yX9_movableFromFoot, cX9_movableFromFoot, 4, (some .int))
theorem mwX9_movableFromFoot : MW mX9_movableFromFoot 1 := ⟨List.mem_of_getElem? (i := 772) (by decide +kernel), List.mem_of_getElem? (i := 84) (by decide +kernel), by decide +kernel, by decide +kernel, by decide⟩
theorem imX9_movableFromFoot : Cond.instanceMethod yX9_movableFromFoot ∈ lw_tbl := List.mem_of_getElem? (i := 770) (by decide +kernel)
abbrev mX9_night : Mt := (yX9_night, cX9_night, 5, (some .int))
theorem mwX9_night : MW mX9_night 1 := ⟨List.mem_of_getElem? (i := 685) (by decide +kernel), List.mem_of_getElem? (i := 84) (by decide +kernel), by decide +kernel, by decide +kernel, by decide⟩
theorem imX9_night : Cond.instanceMethod yX9_night ∈ lw_tbl := List.mem_of_getElem? (i := 683) (by decide +kernel)
abbrev mX9_nextTop : Mt := (yX9_nextTop, cX9_nextTop, 4, (some .int))
theorem mwX9_nextTop : MW mX9_nextTop 2 := ⟨List.mem_of_getElem? (i := 690) (by decide +kernel), List.mem_of_getElem? (i := 84) (by decide +kernel), by decide +kernel, by decide +kernel, by decide⟩
theorem imX9_nextTop : Cond.instanceMethod yX9_nextTop ∈ lw_tbl := List.mem_of_getElem? (i := 689) (by decide +kernel)
abbrev mX10_init : Mt := (yX10_init, cX10_init, 2, none)
theorem mwX10_init : MW mX10_init 1 := ⟨List.mem_of_getElem? (i := 248) (by decide +kernel), List.mem_of_getElem? (i := 85) (by decide +kernel), by decide +kernel, by decide +kernel, by decide⟩
theorem imX10_init : Cond.instanceMethod yX10_init ∈ lw_tbl := List.mem_of_getElem? (i := 247) (by decide +kernel)
abbrev mX10_look : Mt := (yX10_look, cX10_look, 3, none)
theorem mwX10_look : MW mX10_look 1 := ⟨List.mem_of_getElem? (i := 676) (by decide +kernel), List.mem_of_getElem? (i := 85) (by decide +kernel), by decide +kernel, by decide +kernel, by decide⟩
theorem imX10_look : Cond.instanceMethod yX10_look ∈ lw_tbl := List.mem_of_getElem? (i := 674) (by decide +kernel)
abbrev mX10_leanAsNow : Mt := (yX10_leanAsNow, cX10_leanAsNow, 2, none)
theorem mwX10_leanAsNow : MW mX10_leanAsNow 0 := ⟨List.mem_of_getElem? (i := 681) (by decide +kernel), List.mem_of_getElem? (i := 85) (by decide +kernel), by decide +kernel, by decide +kernel, by decide⟩
theorem imX10_leanAsNow : Cond.instanceMethod yX10_leanAsNow ∈ lw_tbl := List.mem_of_getElem? (i := 679) (by decide +kernel)
abbrev mX10_standing : Mt := (yX10_standing, cX10_standing, 3, (some .int))
theorem mwX10_standing : MW mX10_standing 0 := ⟨List.mem_of_getElem? (i := 706) (by decide +kernel), List.mem_of_getElem? (i := 85) (by decide +kernel), by decide +kernel, by decide +kernel, by decide⟩
theorem imX10_standing : Cond.instanceMethod yX10_standing ∈ lw_tbl := List.mem_of_getElem? (i := 704) (by decide +kernel)
abbrev mX10_reachedFrom : Mt := (yX10_reachedFrom, cX10_reachedFrom, 2, (some .int))
theorem mwX10_reachedFrom : MW mX10_reachedFrom 1 := ⟨List.mem_of_getElem? (i := 738) (by decide +kernel), List.mem_of_getElem? (i := 85) (by decide +kernel), by decide +kernel, by decide +kernel, by decide⟩
theorem imX10_reachedFrom : Cond.instanceMethod yX10_reachedFrom ∈ lw_tbl := List.mem_of_getElem? (i := 736) (by decide +kernel)
abbrev mX10_reachedWithout : Mt := (yX10_reachedWithout, cX10_reachedWithout, 3, (some .int))
theorem mwX10_reachedWithout : MW mX10_reachedWithout 2 := ⟨List.mem_of_getElem? (i := 750) (by decide +kernel), List.mem_of_getElem? (i := 85) (by decide +kernel), by decide +kernel, by decide +kernel, by decide⟩
theorem imX10_reachedWithout : Cond.instanceMethod yX10_reachedWithout ∈ lw_tbl := List.mem_of_getElem? (i := 748) (by decide +kernel)
abbrev mX10_reachedBy : Mt := (yX10_reachedBy, cX10_reachedBy, 9, (some .int))
theorem mwX10_reachedBy : MW mX10_reachedBy 2 := ⟨List.mem_of_getElem? (i := 742) (by decide +kernel), List.mem_of_getElem? (i := 85) (by decide +kernel), by decide +kernel, by decide +kernel, by decide⟩
theorem imX10_reachedBy : Cond.instanceMethod yX10_reachedBy ∈ lw_tbl := List.mem_of_getElem? (i := 741) (by decide +kernel)
abbrev mX10_groundCount : Mt := (yX10_groundCount, cX10_groundCount, 1, (some .int))
theorem mwX10_groundCount : MW mX10_groundCount 0 := ⟨List.mem_of_getElem? (i := 808) (by decide +kernel), List.mem_of_getElem? (i := 85) (by decide +kernel), by decide +kernel, by decide +kernel, by decide⟩
theorem imX10_groundCount : Cond.instanceMethod yX10_groundCount ∈ lw_tbl := List.mem_of_getElem? (i := 806) (by decide +kernel)
abbrev mX10_reachedIfMoved : Mt := (yX10_reachedIfMoved, cX10_reachedIfMoved, 5, (some .int))
theorem mwX10_reachedIfMoved : MW mX10_reachedIfMoved 2 := ⟨List.mem_of_getElem? (i := 804) (by decide +kernel), List.mem_of_getElem? (i := 85) (by decide +kernel), by decide +kernel, by decide +kernel, by decide⟩
theorem imX10_reachedIfMoved : Cond.instanceMethod yX10_reachedIfMoved ∈ lw_tbl := List.mem_of_getElem? (i := 802) (by decide +kernel)
abbrev mX10_measureFrom : Mt := (yX10_measureFrom, cX10_measureFrom, 6, none)
theorem mwX10_measureFrom : MW mX10_measureFrom 1 := ⟨List.mem_of_getElem? (i := 698) (by decide +kernel), List.mem_of_getElem? (i := 85) (by decide +kernel), by decide +kernel, by decide +kernel, by decide⟩
theorem imX10_measureFrom : Cond.instanceMethod yX10_measureFrom ∈ lw_tbl := List.mem_of_getElem? (i := 696) (by decide +kernel)
abbrev mX10_shorten : Mt := (yX10_shorten, cX10_shorten, 4, (some .boolean))
theorem mwX10_shorten : MW mX10_shorten 3 := ⟨List.mem_of_getElem? (i := 712) (by decide +kernel), List.mem_of_getElem? (i := 85) (by decide +kernel), by decide +kernel, by decide +kernel, by decide⟩
theorem imX10_shorten : Cond.instanceMethod yX10_shorten ∈ lw_tbl := List.mem_of_getElem? (i := 711) (by decide +kernel)
abbrev mX10_measured : Mt := (yX10_measured, cX10_measured, 2, (some .boolean))
theorem mwX10_measured : MW mX10_measured 1 := ⟨List.mem_of_getElem? (i := 716) (by decide +kernel), List.mem_of_getElem? (i := 85) (by decide +kernel), by decide +kernel, by decide +kernel, by decide⟩
theorem imX10_measured : Cond.instanceMethod yX10_measured ∈ lw_tbl := List.mem_of_getElem? (i := 714) (by decide +kernel)
abbrev mX10_minutesTo : Mt := (yX10_minutesTo, cX10_minutesTo, 2, (some .int))
theorem mwX10_minutesTo : MW mX10_minutesTo 1 := ⟨List.mem_of_getElem? (i := 721) (by decide +kernel), List.mem_of_getElem? (i := 85) (by decide +kernel), by decide +kernel, by decide +kernel, by decide⟩
theorem imX10_minutesTo : Cond.instanceMethod yX10_minutesTo ∈ lw_tbl := List.mem_of_getElem? (i := 719) (by decide +kernel)
abbrev mX10_laddersTo : Mt := (yX10_laddersTo, cX10_laddersTo, 2, (some .int))
theorem mwX10_laddersTo : MW mX10_laddersTo 1 := ⟨List.mem_of_getElem? (i := 726) (by decide +kernel), List.mem_of_getElem? (i := 85) (by decide +kernel), by decide +kernel, by decide +kernel, by decide⟩
theorem imX10_laddersTo : Cond.instanceMethod yX10_laddersTo ∈ lw_tbl := List.mem_of_getElem? (i := 724) (by decide +kernel)
abbrev mX10_minutesOfAllTo : Mt := (yX10_minutesOfAllTo, cX10_minutesOfAllTo, 4, (some .int))
theorem mwX10_minutesOfAllTo : MW mX10_minutesOfAllTo 1 := ⟨List.mem_of_getElem? (i := 758) (by decide +kernel), List.mem_of_getElem? (i := 85) (by decide +kernel), by decide +kernel, by decide +kernel, by decide⟩
theorem imX10_minutesOfAllTo : Cond.instanceMethod yX10_minutesOfAllTo ∈ lw_tbl := List.mem_of_getElem? (i := 756) (by decide +kernel)
abbrev mX10_differenceFrom : Mt := (yX10_differenceFrom, cX10_differenceFrom, 6, (some .int))
theorem mwX10_differenceFrom : MW mX10_differenceFrom 2 := ⟨List.mem_of_getElem? (i := 1094) (by decide +kernel), List.mem_of_getElem? (i := 85) (by decide +kernel), by decide +kernel, by decide +kernel, by decide⟩
theorem imX10_differenceFrom : Cond.instanceMethod yX10_differenceFrom ∈ lw_tbl := List.mem_of_getElem? (i := 1092) (by decide +kernel)
abbrev mX10_fewestMoves : Mt := (yX10_fewestMoves, cX10_fewestMoves, 5, (some .int))
theorem mwX10_fewestMoves : MW mX10_fewestMoves 3 := ⟨List.mem_of_getElem? (i := 776) (by decide +kernel), List.mem_of_getElem? (i := 85) (by decide +kernel), by decide +kernel, by decide +kernel, by decide⟩
theorem imX10_fewestMoves : Cond.instanceMethod yX10_fewestMoves ∈ lw_tbl := List.mem_of_getElem? (i := 774) (by decide +kernel)
abbrev mX10_arrives : Mt := (yX10_arrives, cX10_arrives, 7, (some .boolean))
theorem mwX10_arrives : MW mX10_arrives 4 := ⟨List.mem_of_getElem? (i := 780) (by decide +kernel), List.mem_of_getElem? (i := 85) (by decide +kernel), by decide +kernel, by decide +kernel, by decide⟩
theorem imX10_arrives : Cond.instanceMethod yX10_arrives ∈ lw_tbl := List.mem_of_getElem? (i := 779) (by decide +kernel)
abbrev mX10_lastMoveArrives : Mt := (yX10_lastMoveArrives, cX10_lastMoveArrives, 4, (some .boolean))
theorem mwX10_lastMoveArrives : MW mX10_lastMoveArrives 2 := ⟨List.mem_of_getElem? (i := 785) (by decide +kernel), List.mem_of_getElem? (i := 85) (by decide +kernel), by decide +kernel, by decide +kernel, by decide⟩
theorem imX10_lastMoveArrives : Cond.instanceMethod yX10_lastMoveArrives ∈ lw_tbl := List.mem_of_getElem? (i := 784) (by decide +kernel)
abbrev mX10_moveArrives : Mt := (yX10_moveArrives, cX10_moveArrives, 8, (some .boolean))
theorem mwX10_moveArrives : MW mX10_moveArrives 4 := ⟨List.mem_of_getElem? (i := 789) (by decide +kernel), List.mem_of_getElem? (i := 85) (by decide +kernel), by decide +kernel, by decide +kernel, by decide⟩
theorem imX10_moveArrives : Cond.instanceMethod yX10_moveArrives ∈ lw_tbl := List.mem_of_getElem? (i := 788) (by decide +kernel)
abbrev mX11_init : Mt := (yX11_init, cX11_init, 1, none)
theorem mwX11_init : MW mX11_init 0 := ⟨List.mem_of_getElem? (i := 103) (by decide +kernel), List.mem_of_getElem? (i := 77) (by decide +kernel), by decide +kernel, by decide +kernel, by decide⟩
theorem imX11_init : Cond.instanceMethod yX11_init ∈ lw_tbl := List.mem_of_getElem? (i := 102) (by decide +kernel)
abbrev mX11_ledge : Mt := (yX11_ledge, cX11_ledge, 3, (some .int))
theorem mwX11_ledge : MW mX11_ledge 2 := ⟨List.mem_of_getElem? (i := 383) (by decide +kernel), List.mem_of_getElem? (i := 77) (by decide +kernel), by decide +kernel, by decide +kernel, by decide⟩
theorem imX11_ledge : Cond.instanceMethod yX11_ledge ∈ lw_tbl := List.mem_of_getElem? (i := 381) (by decide +kernel)
abbrev mX11_ledgeTold : Mt := (yX11_ledgeTold, cX11_ledgeTold, 3, (some .int))
theorem mwX11_ledgeTold : MW mX11_ledgeTold 2 := ⟨List.mem_of_getElem? (i := 396) (by decide +kernel), List.mem_of_getElem? (i := 77) (by decide +kernel), by decide +kernel, by decide +kernel, by decide⟩
theorem imX11_ledgeTold : Cond.instanceMethod yX11_ledgeTold ∈ lw_tbl := List.mem_of_getElem? (i := 394) (by decide +kernel)
abbrev mX11_change : Mt := (yX11_change, cX11_change, 4, (some .int))
theorem mwX11_change : MW mX11_change 3 := ⟨List.mem_of_getElem? (i := 408) (by decide +kernel), List.mem_of_getElem? (i := 77) (by decide +kernel), by decide +kernel, by decide +kernel, by decide⟩
theorem imX11_change : Cond.instanceMethod yX11_change ∈ lw_tbl := List.mem_of_getElem? (i := 406) (by decide +kernel)
abbrev mX11_deal : Mt := (yX11_deal, cX11_deal, 6, (some .int))
theorem mwX11_deal : MW mX11_deal 1 := ⟨List.mem_of_getElem? (i := 415) (by decide +kernel), List.mem_of_getElem? (i := 77) (by decide +kernel), by decide +kernel, by decide +kernel, by decide⟩
theorem imX11_deal : Cond.instanceMethod yX11_deal ∈ lw_tbl := List.mem_of_getElem? (i := 413) (by decide +kernel)
abbrev mX11_seed : Mt := (yX11_seed, cX11_seed, 3, (some .int))
theorem mwX11_seed : MW mX11_seed 1 := ⟨List.mem_of_getElem? (i := 427) (by decide +kernel), List.mem_of_getElem? (i := 77) (by decide +kernel), by decide +kernel, by decide +kernel, by decide⟩
theorem imX11_seed : Cond.instanceMethod yX11_seed ∈ lw_tbl := List.mem_of_getElem? (i := 425) (by decide +kernel)
abbrev mX11_ladder : Mt := (yX11_ladder, cX11_ladder, 5, (some .int))
theorem mwX11_ladder : MW mX11_ladder 4 := ⟨List.mem_of_getElem? (i := 431) (by decide +kernel), List.mem_of_getElem? (i := 77) (by decide +kernel), by decide +kernel, by decide +kernel, by decide⟩
theorem imX11_ladder : Cond.instanceMethod yX11_ladder ∈ lw_tbl := List.mem_of_getElem? (i := 429) (by decide +kernel)
abbrev mX11_told : Mt := (yX11_told, cX11_told, 3, (some .int))
theorem mwX11_told : MW mX11_told 2 := ⟨List.mem_of_getElem? (i := 442) (by decide +kernel), List.mem_of_getElem? (i := 77) (by decide +kernel), by decide +kernel, by decide +kernel, by decide⟩
theorem imX11_told : Cond.instanceMethod yX11_told ∈ lw_tbl := List.mem_of_getElem? (i := 440) (by decide +kernel)
abbrev mX11_as : Mt := (yX11_as, cX11_as, 3, (some .int))
theorem mwX11_as : MW mX11_as 2 := ⟨List.mem_of_getElem? (i := 564) (by decide +kernel), List.mem_of_getElem? (i := 77) (by decide +kernel), by decide +kernel, by decide +kernel, by decide⟩
theorem imX11_as : Cond.instanceMethod yX11_as ∈ lw_tbl := List.mem_of_getElem? (i := 562) (by decide +kernel)
abbrev mX11_turns : Mt := (yX11_turns, cX11_turns, 3, (some .int))
theorem mwX11_turns : MW mX11_turns 2 := ⟨List.mem_of_getElem? (i := 594) (by decide +kernel), List.mem_of_getElem? (i := 77) (by decide +kernel), by decide +kernel, by decide +kernel, by decide⟩
theorem imX11_turns : Cond.instanceMethod yX11_turns ∈ lw_tbl := List.mem_of_getElem? (i := 592) (by decide +kernel)
abbrev mX11_cut : Mt := (yX11_cut, cX11_cut, 3, (some .int))
theorem mwX11_cut : MW mX11_cut 2 := ⟨List.mem_of_getElem? (i := 598) (by decide +kernel), List.mem_of_getElem? (i := 77) (by decide +kernel), by decide +kernel, by decide +kernel, by decide⟩
theorem imX11_cut : Cond.instanceMethod yX11_cut ∈ lw_tbl := List.mem_of_getElem? (i := 596) (by decide +kernel)
abbrev mX11_needs : Mt := (yX11_needs, cX11_needs, 3, (some .int))
theorem mwX11_needs : MW mX11_needs 2 := ⟨List.mem_of_getElem? (i := 602) (by decide +kernel), List.mem_of_getElem? (i := 77) (by decide +kernel), by decide +kernel, by decide +kernel, by decide⟩
theorem imX11_needs : Cond.instanceMethod yX11_needs ∈ lw_tbl := List.mem_of_getElem? (i := 600) (by decide +kernel)
abbrev mX11_person : Mt := (yX11_person, cX11_person, 3, (some .int))
theorem mwX11_person : MW mX11_person 2 := ⟨List.mem_of_getElem? (i := 607) (by decide +kernel), List.mem_of_getElem? (i := 77) (by decide +kernel), by decide +kernel, by decide +kernel, by decide⟩
theorem imX11_person : Cond.instanceMethod yX11_person ∈ lw_tbl := List.mem_of_getElem? (i := 605) (by decide +kernel)
abbrev mX11_personTold : Mt := (yX11_personTold, cX11_personTold, 3, (some .int))
theorem mwX11_personTold : MW mX11_personTold 2 := ⟨List.mem_of_getElem? (i := 615) (by decide +kernel), List.mem_of_getElem? (i := 77) (by decide +kernel), by decide +kernel, by decide +kernel, by decide⟩
theorem imX11_personTold : Cond.instanceMethod yX11_personTold ∈ lw_tbl := List.mem_of_getElem? (i := 613) (by decide +kernel)
abbrev mX11_set : Mt := (yX11_set, cX11_set, 4, (some .int))
theorem mwX11_set : MW mX11_set 3 := ⟨List.mem_of_getElem? (i := 619) (by decide +kernel), List.mem_of_getElem? (i := 77) (by decide +kernel), by decide +kernel, by decide +kernel, by decide⟩
theorem imX11_set : Cond.instanceMethod yX11_set ∈ lw_tbl := List.mem_of_getElem? (i := 617) (by decide +kernel)
abbrev mX11_may : Mt := (yX11_may, cX11_may, 3, (some .int))
theorem mwX11_may : MW mX11_may 2 := ⟨List.mem_of_getElem? (i := 623) (by decide +kernel), List.mem_of_getElem? (i := 77) (by decide +kernel), by decide +kernel, by decide +kernel, by decide⟩
theorem imX11_may : Cond.instanceMethod yX11_may ∈ lw_tbl := List.mem_of_getElem? (i := 621) (by decide +kernel)
abbrev mX11_move : Mt := (yX11_move, cX11_move, 4, (some .int))
theorem mwX11_move : MW mX11_move 3 := ⟨List.mem_of_getElem? (i := 658) (by decide +kernel), List.mem_of_getElem? (i := 77) (by decide +kernel), by decide +kernel, by decide +kernel, by decide⟩
theorem imX11_move : Cond.instanceMethod yX11_move ∈ lw_tbl := List.mem_of_getElem? (i := 656) (by decide +kernel)
abbrev mX11_climb : Mt := (yX11_climb, cX11_climb, 3, (some .int))
theorem mwX11_climb : MW mX11_climb 2 := ⟨List.mem_of_getElem? (i := 664) (by decide +kernel), List.mem_of_getElem? (i := 77) (by decide +kernel), by decide +kernel, by decide +kernel, by decide⟩
theorem imX11_climb : Cond.instanceMethod yX11_climb ∈ lw_tbl := List.mem_of_getElem? (i := 662) (by decide +kernel)
abbrev mX11_thieves : Mt := (yX11_thieves, cX11_thieves, 3, (some .int))
theorem mwX11_thieves : MW mX11_thieves 1 := ⟨List.mem_of_getElem? (i := 668) (by decide +kernel), List.mem_of_getElem? (i := 77) (by decide +kernel), by decide +kernel, by decide +kernel, by decide⟩
theorem imX11_thieves : Cond.instanceMethod yX11_thieves ∈ lw_tbl := List.mem_of_getElem? (i := 666) (by decide +kernel)
abbrev mX11_nights : Mt := (yX11_nights, cX11_nights, 4, (some .int))
theorem mwX11_nights : MW mX11_nights 1 := ⟨List.mem_of_getElem? (i := 672) (by decide +kernel), List.mem_of_getElem? (i := 77) (by decide +kernel), by decide +kernel, by decide +kernel, by decide⟩
theorem imX11_nights : Cond.instanceMethod yX11_nights ∈ lw_tbl := List.mem_of_getElem? (i := 670) (by decide +kernel)
abbrev mX11_way : Mt := (yX11_way, cX11_way, 4, (some .int))
theorem mwX11_way : MW mX11_way 3 := ⟨List.mem_of_getElem? (i := 694) (by decide +kernel), List.mem_of_getElem? (i := 77) (by decide +kernel), by decide +kernel, by decide +kernel, by decide⟩
theorem imX11_way : Cond.instanceMethod yX11_way ∈ lw_tbl := List.mem_of_getElem? (i := 692) (by decide +kernel)
abbrev mX11_reached : Mt := (yX11_reached, cX11_reached, 2, (some .int))
theorem mwX11_reached : MW mX11_reached 1 := ⟨List.mem_of_getElem? (i := 734) (by decide +kernel), List.mem_of_getElem? (i := 77) (by decide +kernel), by decide +kernel, by decide +kernel, by decide⟩
theorem imX11_reached : Cond.instanceMethod yX11_reached ∈ lw_tbl := List.mem_of_getElem? (i := 732) (by decide +kernel)
abbrev mX11_needed : Mt := (yX11_needed, cX11_needed, 5, (some .int))
theorem mwX11_needed : MW mX11_needed 2 := ⟨List.mem_of_getElem? (i := 746) (by decide +kernel), List.mem_of_getElem? (i := 77) (by decide +kernel), by decide +kernel, by decide +kernel, by decide⟩
theorem imX11_needed : Cond.instanceMethod yX11_needed ∈ lw_tbl := List.mem_of_getElem? (i := 744) (by decide +kernel)
abbrev mX11_meeting : Mt := (yX11_meeting, cX11_meeting, 5, (some .int))
theorem mwX11_meeting : MW mX11_meeting 0 := ⟨List.mem_of_getElem? (i := 754) (by decide +kernel), List.mem_of_getElem? (i := 77) (by decide +kernel), by decide +kernel, by decide +kernel, by decide⟩
theorem imX11_meeting : Cond.instanceMethod yX11_meeting ∈ lw_tbl := List.mem_of_getElem? (i := 752) (by decide +kernel)
abbrev mX11_above : Mt := (yX11_above, cX11_above, 4, (some .int))
theorem mwX11_above : MW mX11_above 0 := ⟨List.mem_of_getElem? (i := 764) (by decide +kernel), List.mem_of_getElem? (i := 77) (by decide +kernel), by decide +kernel, by decide +kernel, by decide⟩
theorem imX11_above : Cond.instanceMethod yX11_above ∈ lw_tbl := List.mem_of_getElem? (i := 762) (by decide +kernel)
abbrev mX11_fewest : Mt := (yX11_fewest, cX11_fewest, 3, (some .int))
theorem mwX11_fewest : MW mX11_fewest 2 := ⟨List.mem_of_getElem? (i := 768) (by decide +kernel), List.mem_of_getElem? (i := 77) (by decide +kernel), by decide +kernel, by decide +kernel, by decide⟩
theorem imX11_fewest : Cond.instanceMethod yX11_fewest ∈ lw_tbl := List.mem_of_getElem? (i := 766) (by decide +kernel)
abbrev mX11_help : Mt := (yX11_help, cX11_help, 8, (some .int))
theorem mwX11_help : MW mX11_help 1 := ⟨List.mem_of_getElem? (i := 794) (by decide +kernel), List.mem_of_getElem? (i := 77) (by decide +kernel), by decide +kernel, by decide +kernel, by decide⟩
theorem imX11_help : Cond.instanceMethod yX11_help ∈ lw_tbl := List.mem_of_getElem? (i := 792) (by decide +kernel)
abbrev mX11_feed : Mt := (yX11_feed, cX11_feed, 4, (some .int))
theorem mwX11_feed : MW mX11_feed 3 := ⟨List.mem_of_getElem? (i := 813) (by decide +kernel), List.mem_of_getElem? (i := 77) (by decide +kernel), by decide +kernel, by decide +kernel, by decide⟩
theorem imX11_feed : Cond.instanceMethod yX11_feed ∈ lw_tbl := List.mem_of_getElem? (i := 811) (by decide +kernel)
abbrev mX11_trim : Mt := (yX11_trim, cX11_trim, 2, (some .int))
theorem mwX11_trim : MW mX11_trim 1 := ⟨List.mem_of_getElem? (i := 821) (by decide +kernel), List.mem_of_getElem? (i := 77) (by decide +kernel), by decide +kernel, by decide +kernel, by decide⟩
theorem imX11_trim : Cond.instanceMethod yX11_trim ∈ lw_tbl := List.mem_of_getElem? (i := 819) (by decide +kernel)
abbrev mX11_text : Mt := (yX11_text, cX11_text, 2, (some .int))
theorem mwX11_text : MW mX11_text 0 := ⟨List.mem_of_getElem? (i := 825) (by decide +kernel), List.mem_of_getElem? (i := 77) (by decide +kernel), by decide +kernel, by decide +kernel, by decide⟩
theorem imX11_text : Cond.instanceMethod yX11_text ∈ lw_tbl := List.mem_of_getElem? (i := 823) (by decide +kernel)
abbrev mX11_textTold : Mt := (yX11_textTold, cX11_textTold, 4, (some .int))
theorem mwX11_textTold : MW mX11_textTold 2 := ⟨List.mem_of_getElem? (i := 1059) (by decide +kernel), List.mem_of_getElem? (i := 77) (by decide +kernel), by decide +kernel, by decide +kernel, by decide⟩
theorem imX11_textTold : Cond.instanceMethod yX11_textTold ∈ lw_tbl := List.mem_of_getElem? (i := 1057) (by decide +kernel)
abbrev mX11_why : Mt := (yX11_why, cX11_why, 2, (some .int))
theorem mwX11_why : MW mX11_why 1 := ⟨List.mem_of_getElem? (i := 1063) (by decide +kernel), List.mem_of_getElem? (i := 77) (by decide +kernel), by decide +kernel, by decide +kernel, by decide⟩
theorem imX11_why : Cond.instanceMethod yX11_why ∈ lw_tbl := List.mem_of_getElem? (i := 1061) (by decide +kernel)
abbrev mX11_sheet : Mt := (yX11_sheet, cX11_sheet, 5, (some .int))
theorem mwX11_sheet : MW mX11_sheet 3 := ⟨List.mem_of_getElem? (i := 1067) (by decide +kernel), List.mem_of_getElem? (i := 77) (by decide +kernel), by decide +kernel, by decide +kernel, by decide⟩
theorem imX11_sheet : Cond.instanceMethod yX11_sheet ∈ lw_tbl := List.mem_of_getElem? (i := 1065) (by decide +kernel)
abbrev mX11_mark : Mt := (yX11_mark, cX11_mark, 5, (some .int))
theorem mwX11_mark : MW mX11_mark 3 := ⟨List.mem_of_getElem? (i := 1077) (by decide +kernel), List.mem_of_getElem? (i := 77) (by decide +kernel), by decide +kernel, by decide +kernel, by decide⟩
theorem imX11_mark : Cond.instanceMethod yX11_mark ∈ lw_tbl := List.mem_of_getElem? (i := 1075) (by decide +kernel)
abbrev mX11_pour : Mt := (yX11_pour, cX11_pour, 6, (some .int))
theorem mwX11_pour : MW mX11_pour 1 := ⟨List.mem_of_getElem? (i := 1085) (by decide +kernel), List.mem_of_getElem? (i := 77) (by decide +kernel), by decide +kernel, by decide +kernel, by decide⟩
theorem imX11_pour : Cond.instanceMethod yX11_pour ∈ lw_tbl := List.mem_of_getElem? (i := 1083) (by decide +kernel)
abbrev mX11_nearest : Mt := (yX11_nearest, cX11_nearest, 7, (some .int))
theorem mwX11_nearest : MW mX11_nearest 2 := ⟨List.mem_of_getElem? (i := 1090) (by decide +kernel), List.mem_of_getElem? (i := 77) (by decide +kernel), by decide +kernel, by decide +kernel, by decide⟩
theorem imX11_nearest : Cond.instanceMethod yX11_nearest ∈ lw_tbl := List.mem_of_getElem? (i := 1088) (by decide +kernel)
abbrev mX11_copy : Mt := (yX11_copy, cX11_copy, 8, (some .int))
theorem mwX11_copy : MW mX11_copy 5 := ⟨List.mem_of_getElem? (i := 1099) (by decide +kernel), List.mem_of_getElem? (i := 77) (by decide +kernel), by decide +kernel, by decide +kernel, by decide⟩
theorem imX11_copy : Cond.instanceMethod yX11_copy ∈ lw_tbl := List.mem_of_getElem? (i := 1097) (by decide +kernel)
abbrev mX11_lay : Mt := (yX11_lay, cX11_lay, 4, (some .int))
theorem mwX11_lay : MW mX11_lay 3 := ⟨List.mem_of_getElem? (i := 1108) (by decide +kernel), List.mem_of_getElem? (i := 77) (by decide +kernel), by decide +kernel, by decide +kernel, by decide⟩
theorem imX11_lay : Cond.instanceMethod yX11_lay ∈ lw_tbl := List.mem_of_getElem? (i := 1106) (by decide +kernel)
abbrev mX11_ask : Mt := (yX11_ask, cX11_ask, 5, (some .int))
theorem mwX11_ask : MW mX11_ask 2 := ⟨List.mem_of_getElem? (i := 1117) (by decide +kernel), List.mem_of_getElem? (i := 77) (by decide +kernel), by decide +kernel, by decide +kernel, by decide⟩
theorem imX11_ask : Cond.instanceMethod yX11_ask ∈ lw_tbl := List.mem_of_getElem? (i := 1115) (by decide +kernel)
abbrev mX11_item : Mt := (yX11_item, cX11_item, 5, (some .int))
theorem mwX11_item : MW mX11_item 2 := ⟨List.mem_of_getElem? (i := 1125) (by decide +kernel), List.mem_of_getElem? (i := 77) (by decide +kernel), by decide +kernel, by decide +kernel, by decide⟩
theorem imX11_item : Cond.instanceMethod yX11_item ∈ lw_tbl := List.mem_of_getElem? (i := 1123) (by decide +kernel)
abbrev mX11_rest : Mt := (yX11_rest, cX11_rest, 4, (some .int))
theorem mwX11_rest : MW mX11_rest 2 := ⟨List.mem_of_getElem? (i := 1129) (by decide +kernel), List.mem_of_getElem? (i := 77) (by decide +kernel), by decide +kernel, by decide +kernel, by decide⟩
theorem imX11_rest : Cond.instanceMethod yX11_rest ∈ lw_tbl := List.mem_of_getElem? (i := 1127) (by decide +kernel)
abbrev mX11_tell : Mt := (yX11_tell, cX11_tell, 2, (some .int))
theorem mwX11_tell : MW mX11_tell 1 := ⟨List.mem_of_getElem? (i := 1133) (by decide +kernel), List.mem_of_getElem? (i := 77) (by decide +kernel), by decide +kernel, by decide +kernel, by decide⟩
theorem imX11_tell : Cond.instanceMethod yX11_tell ∈ lw_tbl := List.mem_of_getElem? (i := 1131) (by decide +kernel)
abbrev mX11_check : Mt := (yX11_check, cX11_check, 5, (some .int))
theorem mwX11_check : MW mX11_check 1 := ⟨List.mem_of_getElem? (i := 1137) (by decide +kernel), List.mem_of_getElem? (i := 77) (by decide +kernel), by decide +kernel, by decide +kernel, by decide⟩
theorem imX11_check : Cond.instanceMethod yX11_check ∈ lw_tbl := List.mem_of_getElem? (i := 1135) (by decide +kernel)
abbrev mX11_keep : Mt := (yX11_keep, cX11_keep, 1, (some .int))
theorem mwX11_keep : MW mX11_keep 0 := ⟨List.mem_of_getElem? (i := 1156) (by decide +kernel), List.mem_of_getElem? (i := 77) (by decide +kernel), by decide +kernel, by decide +kernel, by decide⟩
theorem imX11_keep : Cond.instanceMethod yX11_keep ∈ lw_tbl := List.mem_of_getElem? (i := 1154) (by decide +kernel)
abbrev mX11_back : Mt := (yX11_back, cX11_back, 1, (some .int))
theorem mwX11_back : MW mX11_back 0 := ⟨List.mem_of_getElem? (i := 1160) (by decide +kernel), List.mem_of_getElem? (i := 77) (by decide +kernel), by decide +kernel, by decide +kernel, by decide⟩
theorem imX11_back : Cond.instanceMethod yX11_back ∈ lw_tbl := List.mem_of_getElem? (i := 1158) (by decide +kernel)
abbrev mX11_count : Mt := (yX11_count, cX11_count, 2, (some .int))
theorem mwX11_count : MW mX11_count 1 := ⟨List.mem_of_getElem? (i := 1164) (by decide +kernel), List.mem_of_getElem? (i := 77) (by decide +kernel), by decide +kernel, by decide +kernel, by decide⟩
theorem imX11_count : Cond.instanceMethod yX11_count ∈ lw_tbl := List.mem_of_getElem? (i := 1162) (by decide +kernel)
abbrev mX11_within : Mt := (yX11_within, cX11_within, 2, (some .boolean))
theorem mwX11_within : MW mX11_within 2 := ⟨List.mem_of_getElem? (i := 386) (by decide +kernel), List.mem_of_getElem? (i := 77) (by decide +kernel), by decide +kernel, by decide +kernel, by decide⟩
theorem stX11_within : Cond.static yX11_within ∈ lw_tbl := List.mem_of_getElem? (i := 385) (by decide +kernel)
abbrev mX11_isLength : Mt := (yX11_isLength, cX11_isLength, 1, (some .boolean))
theorem mwX11_isLength : MW mX11_isLength 1 := ⟨List.mem_of_getElem? (i := 434) (by decide +kernel), List.mem_of_getElem? (i := 77) (by decide +kernel), by decide +kernel, by decide +kernel, by decide⟩
theorem stX11_isLength : Cond.static yX11_isLength ∈ lw_tbl := List.mem_of_getElem? (i := 433) (by decide +kernel)
abbrev mX11_has : Mt := (yX11_has, cX11_has, 2, (some .boolean))
theorem mwX11_has : MW mX11_has 2 := ⟨List.mem_of_getElem? (i := 532) (by decide +kernel), List.mem_of_getElem? (i := 77) (by decide +kernel), by decide +kernel, by decide +kernel, by decide⟩
theorem stX11_has : Cond.static yX11_has ∈ lw_tbl := List.mem_of_getElem? (i := 531) (by decide +kernel)
abbrev mX11_exchange : Mt := (yX11_exchange, cX11_exchange, 4, (some .int))
theorem mwX11_exchange : MW mX11_exchange 3 := ⟨List.mem_of_getElem? (i := 411) (by decide +kernel), List.mem_of_getElem? (i := 77) (by decide +kernel), by decide +kernel, by decide +kernel, by decide⟩
theorem stX11_exchange : Cond.static yX11_exchange ∈ lw_tbl := List.mem_of_getElem? (i := 410) (by decide +kernel)
abbrev mX11_findingOf : Mt := (yX11_findingOf, cX11_findingOf, 3, (some .int))
theorem mwX11_findingOf : MW mX11_findingOf 2 := ⟨List.mem_of_getElem? (i := 1121) (by decide +kernel), List.mem_of_getElem? (i := 77) (by decide +kernel), by decide +kernel, by decide +kernel, by decide⟩
theorem imX11_findingOf : Cond.instanceMethod yX11_findingOf ∈ lw_tbl := List.mem_of_getElem? (i := 1120) (by decide +kernel)
abbrev mX11_isTold : Mt := (yX11_isTold, cX11_isTold, 4, (some .boolean))
theorem mwX11_isTold : MW mX11_isTold 3 := ⟨List.mem_of_getElem? (i := 1151) (by decide +kernel), List.mem_of_getElem? (i := 77) (by decide +kernel), by decide +kernel, by decide +kernel, by decide⟩
theorem imX11_isTold : Cond.instanceMethod yX11_isTold ∈ lw_tbl := List.mem_of_getElem? (i := 1150) (by decide +kernel)
abbrev mX12_init : Mt := (yX12_init, cX12_init, 2, none)
theorem mwX12_init : MW mX12_init 0 := ⟨List.mem_of_getElem? (i := 1174) (by decide +kernel), List.mem_of_getElem? (i := 88) (by decide +kernel), by decide +kernel, by decide +kernel, by decide⟩
theorem imX12_init : Cond.instanceMethod yX12_init ∈ lw_tbl := List.mem_of_getElem? (i := 1173) (by decide +kernel)
abbrev mX12_isIn : Mt := (yX12_isIn, cX12_isIn, 6, (some .boolean))
theorem mwX12_isIn : MW mX12_isIn 3 := ⟨List.mem_of_getElem? (i := 1286) (by decide +kernel), List.mem_of_getElem? (i := 88) (by decide +kernel), by decide +kernel, by decide +kernel, by decide⟩
theorem stX12_isIn : Cond.static yX12_isIn ∈ lw_tbl := List.mem_of_getElem? (i := 1285) (by decide +kernel)
abbrev mX12_orNone : Mt := (yX12_orNone, cX12_orNone, 1, (some .int))
theorem mwX12_orNone : MW mX12_orNone 1 := ⟨List.mem_of_getElem? (i := 1515) (by decide +kernel), List.mem_of_getElem? (i := 88) (by decide +kernel), by decide +kernel, by decide +kernel, by decide⟩
theorem stX12_orNone : Cond.static yX12_orNone ∈ lw_tbl := List.mem_of_getElem? (i := 1514) (by decide +kernel)
abbrev mX12_within : Mt := (yX12_within, cX12_within, 2, (some .int))
theorem mwX12_within : MW mX12_within 2 := ⟨List.mem_of_getElem? (i := 1398) (by decide +kernel), List.mem_of_getElem? (i := 88) (by decide +kernel), by decide +kernel, by decide +kernel, by decide⟩
theorem stX12_within : Cond.static yX12_within ∈ lw_tbl := List.mem_of_getElem? (i := 1397) (by decide +kernel)
abbrev mX12_becomes : Mt := (yX12_becomes, cX12_becomes, 4, (some .int))
theorem mwX12_becomes : MW mX12_becomes 2 := ⟨List.mem_of_getElem? (i := 1322) (by decide +kernel), List.mem_of_getElem? (i := 88) (by decide +kernel), by decide +kernel, by decide +kernel, by decide⟩
theorem imX12_becomes : Cond.instanceMethod yX12_becomes ∈ lw_tbl := List.mem_of_getElem? (i := 1321) (by decide +kernel)
abbrev mX12_textAt : Mt := (yX12_textAt, cX12_textAt, 2, (some .int))
theorem mwX12_textAt : MW mX12_textAt 1 := ⟨List.mem_of_getElem? (i := 1388) (by decide +kernel), List.mem_of_getElem? (i := 88) (by decide +kernel), by decide +kernel, by decide +kernel, by decide⟩
theorem imX12_textAt : Cond.instanceMethod yX12_textAt ∈ lw_tbl := List.mem_of_getElem? (i := 1387) (by decide +kernel)
abbrev mX12_of : Mt := (yX12_of, cX12_of, 3, (some .int))
theorem mwX12_of : MW mX12_of 2 := ⟨List.mem_of_getElem? (i := 1306) (by decide +kernel), List.mem_of_getElem? (i := 88) (by decide +kernel), by decide +kernel, by decide +kernel, by decide⟩
theorem imX12_of : Cond.instanceMethod yX12_of ∈ lw_tbl := List.mem_of_getElem? (i := 1305) (by decide +kernel)
abbrev mX12_sets : Mt := (yX12_sets, cX12_sets, 4, none)
theorem mwX12_sets : MW mX12_sets 3 := ⟨List.mem_of_getElem? (i := 1345) (by decide +kernel), List.mem_of_getElem? (i := 88) (by decide +kernel), by decide +kernel, by decide +kernel, by decide⟩
theorem imX12_sets : Cond.instanceMethod yX12_sets ∈ lw_tbl := List.mem_of_getElem? (i := 1344) (by decide +kernel)
abbrev mX12_height : Mt := (yX12_height, cX12_height, 2, (some .int))
theorem mwX12_height : MW mX12_height 1 := ⟨List.mem_of_getElem? (i := 1365) (by decide +kernel), List.mem_of_getElem? (i := 88) (by decide +kernel), by decide +kernel, by decide +kernel, by decide⟩
theorem imX12_height : Cond.instanceMethod yX12_height ∈ lw_tbl := List.mem_of_getElem? (i := 1364) (by decide +kernel)
abbrev mX12_where : Mt := (yX12_where, cX12_where, 2, (some .int))
theorem mwX12_where : MW mX12_where 1 := ⟨List.mem_of_getElem? (i := 1314) (by decide +kernel), List.mem_of_getElem? (i := 88) (by decide +kernel), by decide +kernel, by decide +kernel, by decide⟩
theorem imX12_where : Cond.instanceMethod yX12_where ∈ lw_tbl := List.mem_of_getElem? (i := 1313) (by decide +kernel)
abbrev mX12_isLedge : Mt := (yX12_isLedge, cX12_isLedge, 2, (some .boolean))
theorem mwX12_isLedge : MW mX12_isLedge 1 := ⟨List.mem_of_getElem? (i := 1301) (by decide +kernel), List.mem_of_getElem? (i := 88) (by decide +kernel), by decide +kernel, by decide +kernel, by decide⟩
theorem imX12_isLedge : Cond.instanceMethod yX12_isLedge ∈ lw_tbl := List.mem_of_getElem? (i := 1300) (by decide +kernel)
abbrev mX12_isLadder : Mt := (yX12_isLadder, cX12_isLadder, 2, (some .boolean))
theorem mwX12_isLadder : MW mX12_isLadder 1 := ⟨List.mem_of_getElem? (i := 1353) (by decide +kernel), List.mem_of_getElem? (i := 88) (by decide +kernel), by decide +kernel, by decide +kernel, by decide⟩
theorem imX12_isLadder : Cond.instanceMethod yX12_isLadder ∈ lw_tbl := List.mem_of_getElem? (i := 1352) (by decide +kernel)
abbrev mX12_isPerson : Mt := (yX12_isPerson, cX12_isPerson, 2, (some .boolean))
theorem mwX12_isPerson : MW mX12_isPerson 1 := ⟨List.mem_of_getElem? (i := 1438) (by decide +kernel), List.mem_of_getElem? (i := 88) (by decide +kernel), by decide +kernel, by decide +kernel, by decide⟩
theorem imX12_isPerson : Cond.instanceMethod yX12_isPerson ∈ lw_tbl := List.mem_of_getElem? (i := 1437) (by decide +kernel)
abbrev mX12_isText : Mt := (yX12_isText, cX12_isText, 2, (some .boolean))
theorem mwX12_isText : MW mX12_isText 1 := ⟨List.mem_of_getElem? (i := 1625) (by decide +kernel), List.mem_of_getElem? (i := 88) (by decide +kernel), by decide +kernel, by decide +kernel, by decide⟩
theorem imX12_isText : Cond.instanceMethod yX12_isText ∈ lw_tbl := List.mem_of_getElem? (i := 1624) (by decide +kernel)
abbrev mX12_drawn : Mt := (yX12_drawn, cX12_drawn, 1, (some .int))
theorem mwX12_drawn : MW mX12_drawn 0 := ⟨List.mem_of_getElem? (i := 1331) (by decide +kernel), List.mem_of_getElem? (i := 88) (by decide +kernel), by decide +kernel, by decide +kernel, by decide⟩
theorem imX12_drawn : Cond.instanceMethod yX12_drawn ∈ lw_tbl := List.mem_of_getElem? (i := 1330) (by decide +kernel)
abbrev mX12_ones : Mt := (yX12_ones, cX12_ones, 3, (some .int))
theorem mwX12_ones : MW mX12_ones 1 := ⟨List.mem_of_getElem? (i := 1542) (by decide +kernel), List.mem_of_getElem? (i := 88) (by decide +kernel), by decide +kernel, by decide +kernel, by decide⟩
theorem stX12_ones : Cond.static yX12_ones ∈ lw_tbl := List.mem_of_getElem? (i := 1541) (by decide +kernel)
abbrev mX12_peopleOn : Mt := (yX12_peopleOn, cX12_peopleOn, 4, (some .int))
theorem mwX12_peopleOn : MW mX12_peopleOn 1 := ⟨List.mem_of_getElem? (i := 1310) (by decide +kernel), List.mem_of_getElem? (i := 88) (by decide +kernel), by decide +kernel, by decide +kernel, by decide⟩
theorem imX12_peopleOn : Cond.instanceMethod yX12_peopleOn ∈ lw_tbl := List.mem_of_getElem? (i := 1309) (by decide +kernel)
abbrev mX12_comes : Mt := (yX12_comes, cX12_comes, 3, none)
theorem mwX12_comes : MW mX12_comes 2 := ⟨List.mem_of_getElem? (i := 1293) (by decide +kernel), List.mem_of_getElem? (i := 88) (by decide +kernel), by decide +kernel, by decide +kernel, by decide⟩
theorem imX12_comes : Cond.instanceMethod yX12_comes ∈ lw_tbl := List.mem_of_getElem? (i := 1292) (by decide +kernel)
abbrev mX12_ledge : Mt := (yX12_ledge, cX12_ledge, 3, (some .int))
theorem mwX12_ledge : MW mX12_ledge 2 := ⟨List.mem_of_getElem? (i := 1282) (by decide +kernel), List.mem_of_getElem? (i := 88) (by decide +kernel), by decide +kernel, by decide +kernel, by decide⟩
theorem imX12_ledge : Cond.instanceMethod yX12_ledge ∈ lw_tbl := List.mem_of_getElem? (i := 1280) (by decide +kernel)
abbrev mX12_ledgeTold : Mt := (yX12_ledgeTold, cX12_ledgeTold, 5, (some .int))
theorem mwX12_ledgeTold : MW mX12_ledgeTold 2 := ⟨List.mem_of_getElem? (i := 1297) (by decide +kernel), List.mem_of_getElem? (i := 88) (by decide +kernel), by decide +kernel, by decide +kernel, by decide⟩
theorem imX12_ledgeTold : Cond.instanceMethod yX12_ledgeTold ∈ lw_tbl := List.mem_of_getElem? (i := 1295) (by decide +kernel)
abbrev mX12_change : Mt := (yX12_change, cX12_change, 4, (some .int))
theorem mwX12_change : MW mX12_change 3 := ⟨List.mem_of_getElem? (i := 1318) (by decide +kernel), List.mem_of_getElem? (i := 88) (by decide +kernel), by decide +kernel, by decide +kernel, by decide⟩
theorem imX12_change : Cond.instanceMethod yX12_change ∈ lw_tbl := List.mem_of_getElem? (i := 1316) (by decide +kernel)
abbrev mX12_deal : Mt := (yX12_deal, cX12_deal, 4, (some .int))
theorem mwX12_deal : MW mX12_deal 1 := ⟨List.mem_of_getElem? (i := 1326) (by decide +kernel), List.mem_of_getElem? (i := 88) (by decide +kernel), by decide +kernel, by decide +kernel, by decide⟩
theorem imX12_deal : Cond.instanceMethod yX12_deal ∈ lw_tbl := List.mem_of_getElem? (i := 1324) (by decide +kernel)
abbrev mX12_seed : Mt := (yX12_seed, cX12_seed, 2, (some .int))
theorem mwX12_seed : MW mX12_seed 1 := ⟨List.mem_of_getElem? (i := 1336) (by decide +kernel), List.mem_of_getElem? (i := 88) (by decide +kernel), by decide +kernel, by decide +kernel, by decide⟩
theorem imX12_seed : Cond.instanceMethod yX12_seed ∈ lw_tbl := List.mem_of_getElem? (i := 1334) (by decide +kernel)
abbrev mX12_ladder : Mt := (yX12_ladder, cX12_ladder, 6, (some .int))
theorem mwX12_ladder : MW mX12_ladder 4 := ⟨List.mem_of_getElem? (i := 1340) (by decide +kernel), List.mem_of_getElem? (i := 88) (by decide +kernel), by decide +kernel, by decide +kernel, by decide⟩
theorem imX12_ladder : Cond.instanceMethod yX12_ladder ∈ lw_tbl := List.mem_of_getElem? (i := 1338) (by decide +kernel)
abbrev mX12_apart : Mt := (yX12_apart, cX12_apart, 2, (some .int))
theorem mwX12_apart : MW mX12_apart 2 := ⟨List.mem_of_getElem? (i := 1380) (by decide +kernel), List.mem_of_getElem? (i := 88) (by decide +kernel), by decide +kernel, by decide +kernel, by decide⟩
theorem stX12_apart : Cond.static yX12_apart ∈ lw_tbl := List.mem_of_getElem? (i := 1379) (by decide +kernel)
abbrev mX12_needsOf : Mt := (yX12_needsOf, cX12_needsOf, 6, (some .int))
theorem mwX12_needsOf : MW mX12_needsOf 2 := ⟨List.mem_of_getElem? (i := 1377) (by decide +kernel), List.mem_of_getElem? (i := 88) (by decide +kernel), by decide +kernel, by decide +kernel, by decide⟩
theorem imX12_needsOf : Cond.instanceMethod yX12_needsOf ∈ lw_tbl := List.mem_of_getElem? (i := 1376) (by decide +kernel)
abbrev mX12_reach : Mt := (yX12_reach, cX12_reach, 3, (some .int))
theorem mwX12_reach : MW mX12_reach 1 := ⟨List.mem_of_getElem? (i := 1357) (by decide +kernel), List.mem_of_getElem? (i := 88) (by decide +kernel), by decide +kernel, by decide +kernel, by decide⟩
theorem imX12_reach : Cond.instanceMethod yX12_reach ∈ lw_tbl := List.mem_of_getElem? (i := 1356) (by decide +kernel)
abbrev mX12_reaches : Mt := (yX12_reaches, cX12_reaches, 4, (some .boolean))
theorem mwX12_reaches : MW mX12_reaches 2 := ⟨List.mem_of_getElem? (i := 1373) (by decide +kernel), List.mem_of_getElem? (i := 88) (by decide +kernel), by decide +kernel, by decide +kernel, by decide⟩
theorem imX12_reaches : Cond.instanceMethod yX12_reaches ∈ lw_tbl := List.mem_of_getElem? (i := 1372) (by decide +kernel)
abbrev mX12_stands : Mt := (yX12_stands, cX12_stands, 2, (some .boolean))
theorem mwX12_stands : MW mX12_stands 1 := ⟨List.mem_of_getElem? (i := 1369) (by decide +kernel), List.mem_of_getElem? (i := 88) (by decide +kernel), by decide +kernel, by decide +kernel, by decide⟩
theorem imX12_stands : Cond.instanceMethod yX12_stands ∈ lw_tbl := List.mem_of_getElem? (i := 1368) (by decide +kernel)
abbrev mX12_allReached : Mt := (yX12_allReached, cX12_allReached, 4, (some .int))
theorem mwX12_allReached : MW mX12_allReached 1 := ⟨List.mem_of_getElem? (i := 1406) (by decide +kernel), List.mem_of_getElem? (i := 88) (by decide +kernel), by decide +kernel, by decide +kernel, by decide⟩
theorem imX12_allReached : Cond.instanceMethod yX12_allReached ∈ lw_tbl := List.mem_of_getElem? (i := 1405) (by decide +kernel)
abbrev mX12_minutes : Mt := (yX12_minutes, cX12_minutes, 4, (some .int))
theorem mwX12_minutes : MW mX12_minutes 1 := ⟨List.mem_of_getElem? (i := 1361) (by decide +kernel), List.mem_of_getElem? (i := 88) (by decide +kernel), by decide +kernel, by decide +kernel, by decide⟩
theorem imX12_minutes : Cond.instanceMethod yX12_minutes ∈ lw_tbl := List.mem_of_getElem? (i := 1360) (by decide +kernel)
abbrev mX12_worth : Mt := (yX12_worth, cX12_worth, 3, (some .int))
theorem mwX12_worth : MW mX12_worth 1 := ⟨List.mem_of_getElem? (i := 1402) (by decide +kernel), List.mem_of_getElem? (i := 88) (by decide +kernel), by decide +kernel, by decide +kernel, by decide⟩
theorem imX12_worth : Cond.instanceMethod yX12_worth ∈ lw_tbl := List.mem_of_getElem? (i := 1401) (by decide +kernel)
abbrev mX12_told : Mt := (yX12_told, cX12_told, 3, (some .int))
theorem mwX12_told : MW mX12_told 2 := ⟨List.mem_of_getElem? (i := 1349) (by decide +kernel), List.mem_of_getElem? (i := 88) (by decide +kernel), by decide +kernel, by decide +kernel, by decide⟩
theorem imX12_told : Cond.instanceMethod yX12_told ∈ lw_tbl := List.mem_of_getElem? (i := 1347) (by decide +kernel)
abbrev mX12_isOf : Mt := (yX12_isOf, cX12_isOf, 2, (some .boolean))
theorem mwX12_isOf : MW mX12_isOf 2 := ⟨List.mem_of_getElem? (i := 1413) (by decide +kernel), List.mem_of_getElem? (i := 88) (by decide +kernel), by decide +kernel, by decide +kernel, by decide⟩
theorem stX12_isOf : Cond.static yX12_isOf ∈ lw_tbl := List.mem_of_getElem? (i := 1412) (by decide +kernel)
abbrev mX12_as : Mt := (yX12_as, cX12_as, 3, (some .int))
theorem mwX12_as : MW mX12_as 2 := ⟨List.mem_of_getElem? (i := 1410) (by decide +kernel), List.mem_of_getElem? (i := 88) (by decide +kernel), by decide +kernel, by decide +kernel, by decide⟩
theorem imX12_as : Cond.instanceMethod yX12_as ∈ lw_tbl := List.mem_of_getElem? (i := 1408) (by decide +kernel)
abbrev mX12_turns : Mt := (yX12_turns, cX12_turns, 3, (some .int))
theorem mwX12_turns : MW mX12_turns 2 := ⟨List.mem_of_getElem? (i := 1418) (by decide +kernel), List.mem_of_getElem? (i := 88) (by decide +kernel), by decide +kernel, by decide +kernel, by decide⟩
theorem imX12_turns : Cond.instanceMethod yX12_turns ∈ lw_tbl := List.mem_of_getElem? (i := 1416) (by decide +kernel)
abbrev mX12_cut : Mt := (yX12_cut, cX12_cut, 3, (some .int))
theorem mwX12_cut : MW mX12_cut 2 := ⟨List.mem_of_getElem? (i := 1422) (by decide +kernel), List.mem_of_getElem? (i := 88) (by decide +kernel), by decide +kernel, by decide +kernel, by decide⟩
theorem imX12_cut : Cond.instanceMethod yX12_cut ∈ lw_tbl := List.mem_of_getElem? (i := 1420) (by decide +kernel)
abbrev mX12_needs : Mt := (yX12_needs, cX12_needs, 3, (some .int))
theorem mwX12_needs : MW mX12_needs 2 := ⟨List.mem_of_getElem? (i := 1426) (by decide +kernel), List.mem_of_getElem? (i := 88) (by decide +kernel), by decide +kernel, by decide +kernel, by decide⟩
theorem imX12_needs : Cond.instanceMethod yX12_needs ∈ lw_tbl := List.mem_of_getElem? (i := 1424) (by decide +kernel)
abbrev mX12_person : Mt := (yX12_person, cX12_person, 4, (some .int))
theorem mwX12_person : MW mX12_person 2 := ⟨List.mem_of_getElem? (i := 1430) (by decide +kernel), List.mem_of_getElem? (i := 88) (by decide +kernel), by decide +kernel, by decide +kernel, by decide⟩
theorem imX12_person : Cond.instanceMethod yX12_person ∈ lw_tbl := List.mem_of_getElem? (i := 1428) (by decide +kernel)
abbrev mX12_personTold : Mt := (yX12_personTold, cX12_personTold, 3, (some .int))
theorem mwX12_personTold : MW mX12_personTold 2 := ⟨List.mem_of_getElem? (i := 1434) (by decide +kernel), List.mem_of_getElem? (i := 88) (by decide +kernel), by decide +kernel, by decide +kernel, by decide⟩
theorem imX12_personTold : Cond.instanceMethod yX12_personTold ∈ lw_tbl := List.mem_of_getElem? (i := 1432) (by decide +kernel)
abbrev mX12_set : Mt := (yX12_set, cX12_set, 5, (some .int))
theorem mwX12_set : MW mX12_set 3 := ⟨List.mem_of_getElem? (i := 1442) (by decide +kernel), List.mem_of_getElem? (i := 88) (by decide +kernel), by decide +kernel, by decide +kernel, by decide⟩
theorem imX12_set : Cond.instanceMethod yX12_set ∈ lw_tbl := List.mem_of_getElem? (i := 1440) (by decide +kernel)
abbrev mX12_isStrong : Mt := (yX12_isStrong, cX12_isStrong, 5, (some .boolean))
theorem mwX12_isStrong : MW mX12_isStrong 2 := ⟨List.mem_of_getElem? (i := 1458) (by decide +kernel), List.mem_of_getElem? (i := 88) (by decide +kernel), by decide +kernel, by decide +kernel, by decide⟩
theorem imX12_isStrong : Cond.instanceMethod yX12_isStrong ∈ lw_tbl := List.mem_of_getElem? (i := 1457) (by decide +kernel)
abbrev mX12_mayThere : Mt := (yX12_mayThere, cX12_mayThere, 3, (some .boolean))
theorem mwX12_mayThere : MW mX12_mayThere 2 := ⟨List.mem_of_getElem? (i := 1454) (by decide +kernel), List.mem_of_getElem? (i := 88) (by decide +kernel), by decide +kernel, by decide +kernel, by decide⟩
theorem imX12_mayThere : Cond.instanceMethod yX12_mayThere ∈ lw_tbl := List.mem_of_getElem? (i := 1453) (by decide +kernel)
abbrev mX12_mayMove : Mt := (yX12_mayMove, cX12_mayMove, 3, (some .boolean))
theorem mwX12_mayMove : MW mX12_mayMove 2 := ⟨List.mem_of_getElem? (i := 1450) (by decide +kernel), List.mem_of_getElem? (i := 88) (by decide +kernel), by decide +kernel, by decide +kernel, by decide⟩
theorem imX12_mayMove : Cond.instanceMethod yX12_mayMove ∈ lw_tbl := List.mem_of_getElem? (i := 1449) (by decide +kernel)
abbrev mX12_may : Mt := (yX12_may, cX12_may, 3, (some .int))
theorem mwX12_may : MW mX12_may 2 := ⟨List.mem_of_getElem? (i := 1446) (by decide +kernel), List.mem_of_getElem? (i := 88) (by decide +kernel), by decide +kernel, by decide +kernel, by decide⟩
theorem imX12_may : Cond.instanceMethod yX12_may ∈ lw_tbl := List.mem_of_getElem? (i := 1444) (by decide +kernel)
abbrev mX12_move : Mt := (yX12_move, cX12_move, 4, (some .int))
theorem mwX12_move : MW mX12_move 3 := ⟨List.mem_of_getElem? (i := 1462) (by decide +kernel), List.mem_of_getElem? (i := 88) (by decide +kernel), by decide +kernel, by decide +kernel, by decide⟩
theorem imX12_move : Cond.instanceMethod yX12_move ∈ lw_tbl := List.mem_of_getElem? (i := 1460) (by decide +kernel)
abbrev mX12_climb : Mt := (yX12_climb, cX12_climb, 6, (some .int))
theorem mwX12_climb : MW mX12_climb 2 := ⟨List.mem_of_getElem? (i := 1467) (by decide +kernel), List.mem_of_getElem? (i := 88) (by decide +kernel), by decide +kernel, by decide +kernel, by decide⟩
theorem imX12_climb : Cond.instanceMethod yX12_climb ∈ lw_tbl := List.mem_of_getElem? (i := 1465) (by decide +kernel)
abbrev mX12_thieves : Mt := (yX12_thieves, cX12_thieves, 2, (some .int))
theorem mwX12_thieves : MW mX12_thieves 1 := ⟨List.mem_of_getElem? (i := 1471) (by decide +kernel), List.mem_of_getElem? (i := 88) (by decide +kernel), by decide +kernel, by decide +kernel, by decide⟩
theorem imX12_thieves : Cond.instanceMethod yX12_thieves ∈ lw_tbl := List.mem_of_getElem? (i := 1469) (by decide +kernel)
abbrev mX12_night : Mt := (yX12_night, cX12_night, 5, (some .int))
theorem mwX12_night : MW mX12_night 0 := ⟨List.mem_of_getElem? (i := 1481) (by decide +kernel), List.mem_of_getElem? (i := 88) (by decide +kernel), by decide +kernel, by decide +kernel, by decide⟩
theorem imX12_night : Cond.instanceMethod yX12_night ∈ lw_tbl := List.mem_of_getElem? (i := 1480) (by decide +kernel)
abbrev mX12_nights : Mt := (yX12_nights, cX12_nights, 4, (some .int))
theorem mwX12_nights : MW mX12_nights 1 := ⟨List.mem_of_getElem? (i := 1476) (by decide +kernel), List.mem_of_getElem? (i := 88) (by decide +kernel), by decide +kernel, by decide +kernel, by decide⟩
theorem imX12_nights : Cond.instanceMethod yX12_nights ∈ lw_tbl := List.mem_of_getElem? (i := 1474) (by decide +kernel)
abbrev mX12_findFar : Mt := (yX12_findFar, cX12_findFar, 7, none)
theorem mwX12_findFar : MW mX12_findFar 1 := ⟨List.mem_of_getElem? (i := 1490) (by decide +kernel), List.mem_of_getElem? (i := 88) (by decide +kernel), by decide +kernel, by decide +kernel, by decide⟩
theorem imX12_findFar : Cond.instanceMethod yX12_findFar ∈ lw_tbl := List.mem_of_getElem? (i := 1489) (by decide +kernel)
abbrev mX12_reachedBut : Mt := (yX12_reachedBut, cX12_reachedBut, 7, (some .int))
theorem mwX12_reachedBut : MW mX12_reachedBut 2 := ⟨List.mem_of_getElem? (i := 1504) (by decide +kernel), List.mem_of_getElem? (i := 88) (by decide +kernel), by decide +kernel, by decide +kernel, by decide⟩
theorem imX12_reachedBut : Cond.instanceMethod yX12_reachedBut ∈ lw_tbl := List.mem_of_getElem? (i := 1503) (by decide +kernel)
abbrev mX12_toll : Mt := (yX12_toll, cX12_toll, 4, (some .int))
theorem mwX12_toll : MW mX12_toll 2 := ⟨List.mem_of_getElem? (i := 1496) (by decide +kernel), List.mem_of_getElem? (i := 88) (by decide +kernel), by decide +kernel, by decide +kernel, by decide⟩
theorem imX12_toll : Cond.instanceMethod yX12_toll ∈ lw_tbl := List.mem_of_getElem? (i := 1495) (by decide +kernel)
abbrev mX12_way : Mt := (yX12_way, cX12_way, 5, (some .int))
theorem mwX12_way : MW mX12_way 3 := ⟨List.mem_of_getElem? (i := 1485) (by decide +kernel), List.mem_of_getElem? (i := 88) (by decide +kernel), by decide +kernel, by decide +kernel, by decide⟩
theorem imX12_way : Cond.instanceMethod yX12_way ∈ lw_tbl := List.mem_of_getElem? (i := 1483) (by decide +kernel)
abbrev mX12_reached : Mt := (yX12_reached, cX12_reached, 2, (some .int))
theorem mwX12_reached : MW mX12_reached 1 := ⟨List.mem_of_getElem? (i := 1500) (by decide +kernel), List.mem_of_getElem? (i := 88) (by decide +kernel), by decide +kernel, by decide +kernel, by decide⟩
theorem imX12_reached : Cond.instanceMethod yX12_reached ∈ lw_tbl := List.mem_of_getElem? (i := 1498) (by decide +kernel)
abbrev mX12_needed : Mt := (yX12_needed, cX12_needed, 5, (some .int))
theorem mwX12_needed : MW mX12_needed 2 := ⟨List.mem_of_getElem? (i := 1508) (by decide +kernel), List.mem_of_getElem? (i := 88) (by decide +kernel), by decide +kernel, by decide +kernel, by decide⟩
theorem imX12_needed : Cond.instanceMethod yX12_needed ∈ lw_tbl := List.mem_of_getElem? (i := 1506) (by decide +kernel)
abbrev mX12_meeting : Mt := (yX12_meeting, cX12_meeting, 7, (some .int))
theorem mwX12_meeting : MW mX12_meeting 0 := ⟨List.mem_of_getElem? (i := 1512) (by decide +kernel), List.mem_of_getElem? (i := 88) (by decide +kernel), by decide +kernel, by decide +kernel, by decide⟩
theorem imX12_meeting : Cond.instanceMethod yX12_meeting ∈ lw_tbl := List.mem_of_getElem? (i := 1510) (by decide +kernel)
abbrev mX12_above : Mt := (yX12_above, cX12_above, 3, (some .int))
theorem mwX12_above : MW mX12_above 0 := ⟨List.mem_of_getElem? (i := 1519) (by decide +kernel), List.mem_of_getElem? (i := 88) (by decide +kernel), by decide +kernel, by decide +kernel, by decide⟩
theorem imX12_above : Cond.instanceMethod yX12_above ∈ lw_tbl := List.mem_of_getElem? (i := 1517) (by decide +kernel)
abbrev mX12_getsByOne : Mt := (yX12_getsByOne, cX12_getsByOne, 10, (some .boolean))
theorem mwX12_getsByOne : MW mX12_getsByOne 3 := ⟨List.mem_of_getElem? (i := 1527) (by decide +kernel), List.mem_of_getElem? (i := 88) (by decide +kernel), by decide +kernel, by decide +kernel, by decide⟩
theorem imX12_getsByOne : Cond.instanceMethod yX12_getsByOne ∈ lw_tbl := List.mem_of_getElem? (i := 1526) (by decide +kernel)
abbrev mX12_getsByTwo : Mt := (yX12_getsByTwo, cX12_getsByTwo, 10, (some .boolean))
theorem mwX12_getsByTwo : MW mX12_getsByTwo 3 := ⟨List.mem_of_getElem? (i := 1531) (by decide +kernel), List.mem_of_getElem? (i := 88) (by decide +kernel), by decide +kernel, by decide +kernel, by decide⟩
theorem imX12_getsByTwo : Cond.instanceMethod yX12_getsByTwo ∈ lw_tbl := List.mem_of_getElem? (i := 1530) (by decide +kernel)
abbrev mX12_fewest : Mt := (yX12_fewest, cX12_fewest, 4, (some .int))
theorem mwX12_fewest : MW mX12_fewest 2 := ⟨List.mem_of_getElem? (i := 1523) (by decide +kernel), List.mem_of_getElem? (i := 88) (by decide +kernel), by decide +kernel, by decide +kernel, by decide⟩
theorem imX12_fewest : Cond.instanceMethod yX12_fewest ∈ lw_tbl := List.mem_of_getElem? (i := 1521) (by decide +kernel)
abbrev mX12_findHelp : Mt := (yX12_findHelp, cX12_findHelp, 6, none)
theorem mwX12_findHelp : MW mX12_findHelp 0 := ⟨List.mem_of_getElem? (i := 1539) (by decide +kernel), List.mem_of_getElem? (i := 88) (by decide +kernel), by decide +kernel, by decide +kernel, by decide⟩
theorem imX12_findHelp : Cond.instanceMethod yX12_findHelp ∈ lw_tbl := List.mem_of_getElem? (i := 1538) (by decide +kernel)
abbrev mX12_help : Mt := (yX12_help, cX12_help, 2, (some .int))
theorem mwX12_help : MW mX12_help 1 := ⟨List.mem_of_getElem? (i := 1535) (by decide +kernel), List.mem_of_getElem? (i := 88) (by decide +kernel), by decide +kernel, by decide +kernel, by decide⟩
theorem imX12_help : Cond.instanceMethod yX12_help ∈ lw_tbl := List.mem_of_getElem? (i := 1533) (by decide +kernel)
abbrev mX12_feed : Mt := (yX12_feed, cX12_feed, 6, (some .int))
theorem mwX12_feed : MW mX12_feed 3 := ⟨List.mem_of_getElem? (i := 1546) (by decide +kernel), List.mem_of_getElem? (i := 88) (by decide +kernel), by decide +kernel, by decide +kernel, by decide⟩
theorem imX12_feed : Cond.instanceMethod yX12_feed ∈ lw_tbl := List.mem_of_getElem? (i := 1544) (by decide +kernel)
abbrev mX12_trim : Mt := (yX12_trim, cX12_trim, 2, (some .int))
theorem mwX12_trim : MW mX12_trim 1 := ⟨List.mem_of_getElem? (i := 1550) (by decide +kernel), List.mem_of_getElem? (i := 88) (by decide +kernel), by decide +kernel, by decide +kernel, by decide⟩
theorem imX12_trim : Cond.instanceMethod yX12_trim ∈ lw_tbl := List.mem_of_getElem? (i := 1548) (by decide +kernel)
abbrev mX12_isLetter : Mt := (yX12_isLetter, cX12_isLetter, 2, (some .boolean))
theorem mwX12_isLetter : MW mX12_isLetter 1 := ⟨List.mem_of_getElem? (i := 1566) (by decide +kernel), List.mem_of_getElem? (i := 88) (by decide +kernel), by decide +kernel, by decide +kernel, by decide⟩
theorem imX12_isLetter : Cond.instanceMethod yX12_isLetter ∈ lw_tbl := List.mem_of_getElem? (i := 1565) (by decide +kernel)
abbrev mX12_isDigit : Mt := (yX12_isDigit, cX12_isDigit, 2, (some .boolean))
theorem mwX12_isDigit : MW mX12_isDigit 1 := ⟨List.mem_of_getElem? (i := 1572) (by decide +kernel), List.mem_of_getElem? (i := 88) (by decide +kernel), by decide +kernel, by decide +kernel, by decide⟩
theorem imX12_isDigit : Cond.instanceMethod yX12_isDigit ∈ lw_tbl := List.mem_of_getElem? (i := 1571) (by decide +kernel)
abbrev mX12_nextToken : Mt := (yX12_nextToken, cX12_nextToken, 3, none)
theorem mwX12_nextToken : MW mX12_nextToken 0 := ⟨List.mem_of_getElem? (i := 1562) (by decide +kernel), List.mem_of_getElem? (i := 88) (by decide +kernel), by decide +kernel, by decide +kernel, by decide⟩
theorem imX12_nextToken : Cond.instanceMethod yX12_nextToken ∈ lw_tbl := List.mem_of_getElem? (i := 1561) (by decide +kernel)
abbrev mX12_isSign : Mt := (yX12_isSign, cX12_isSign, 2, (some .boolean))
theorem mwX12_isSign : MW mX12_isSign 1 := ⟨List.mem_of_getElem? (i := 1617) (by decide +kernel), List.mem_of_getElem? (i := 88) (by decide +kernel), by decide +kernel, by decide +kernel, by decide⟩
theorem imX12_isSign : Cond.instanceMethod yX12_isSign ∈ lw_tbl := List.mem_of_getElem? (i := 1616) (by decide +kernel)
abbrev mX12_isWordAt : Mt := (yX12_isWordAt, cX12_isWordAt, 6, (some .boolean))
theorem mwX12_isWordAt : MW mX12_isWordAt 4 := ⟨List.mem_of_getElem? (i := 1582) (by decide +kernel), List.mem_of_getElem? (i := 88) (by decide +kernel), by decide +kernel, by decide +kernel, by decide⟩
theorem imX12_isWordAt : Cond.instanceMethod yX12_isWordAt ∈ lw_tbl := List.mem_of_getElem? (i := 1581) (by decide +kernel)
abbrev mX12_key : Mt := (yX12_key, cX12_key, 1, (some .int))
theorem mwX12_key : MW mX12_key 0 := ⟨List.mem_of_getElem? (i := 1578) (by decide +kernel), List.mem_of_getElem? (i := 88) (by decide +kernel), by decide +kernel, by decide +kernel, by decide⟩
theorem imX12_key : Cond.instanceMethod yX12_key ∈ lw_tbl := List.mem_of_getElem? (i := 1577) (by decide +kernel)
abbrev mX12_isName : Mt := (yX12_isName, cX12_isName, 2, (some .boolean))
theorem mwX12_isName : MW mX12_isName 2 := ⟨List.mem_of_getElem? (i := 1613) (by decide +kernel), List.mem_of_getElem? (i := 88) (by decide +kernel), by decide +kernel, by decide +kernel, by decide⟩
theorem stX12_isName : Cond.static yX12_isName ∈ lw_tbl := List.mem_of_getElem? (i := 1612) (by decide +kernel)
abbrev mX12_step : Mt := (yX12_step, cX12_step, 3, none)
theorem mwX12_step : MW mX12_step 2 := ⟨List.mem_of_getElem? (i := 1610) (by decide +kernel), List.mem_of_getElem? (i := 88) (by decide +kernel), by decide +kernel, by decide +kernel, by decide⟩
theorem imX12_step : Cond.instanceMethod yX12_step ∈ lw_tbl := List.mem_of_getElem? (i := 1609) (by decide +kernel)
abbrev mX12_either : Mt := (yX12_either, cX12_either, 2, (some .boolean))
theorem mwX12_either : MW mX12_either 1 := ⟨List.mem_of_getElem? (i := 1586) (by decide +kernel), List.mem_of_getElem? (i := 88) (by decide +kernel), by decide +kernel, by decide +kernel, by decide⟩
theorem imX12_either : Cond.instanceMethod yX12_either ∈ lw_tbl := List.mem_of_getElem? (i := 1585) (by decide +kernel)
abbrev mX12_both : Mt := (yX12_both, cX12_both, 2, (some .boolean))
theorem mwX12_both : MW mX12_both 1 := ⟨List.mem_of_getElem? (i := 1590) (by decide +kernel), List.mem_of_getElem? (i := 88) (by decide +kernel), by decide +kernel, by decide +kernel, by decide⟩
theorem imX12_both : Cond.instanceMethod yX12_both ∈ lw_tbl := List.mem_of_getElem? (i := 1589) (by decide +kernel)
abbrev mX12_test : Mt := (yX12_test, cX12_test, 3, (some .boolean))
theorem mwX12_test : MW mX12_test 1 := ⟨List.mem_of_getElem? (i := 1594) (by decide +kernel), List.mem_of_getElem? (i := 88) (by decide +kernel), by decide +kernel, by decide +kernel, by decide⟩
theorem imX12_test : Cond.instanceMethod yX12_test ∈ lw_tbl := List.mem_of_getElem? (i := 1593) (by decide +kernel)
abbrev mX12_sum : Mt := (yX12_sum, cX12_sum, 3, (some .boolean))
theorem mwX12_sum : MW mX12_sum 1 := ⟨List.mem_of_getElem? (i := 1598) (by decide +kernel), List.mem_of_getElem? (i := 88) (by decide +kernel), by decide +kernel, by decide +kernel, by decide⟩
theorem imX12_sum : Cond.instanceMethod yX12_sum ∈ lw_tbl := List.mem_of_getElem? (i := 1597) (by decide +kernel)
abbrev mX12_term : Mt := (yX12_term, cX12_term, 3, (some .boolean))
theorem mwX12_term : MW mX12_term 1 := ⟨List.mem_of_getElem? (i := 1602) (by decide +kernel), List.mem_of_getElem? (i := 88) (by decide +kernel), by decide +kernel, by decide +kernel, by decide⟩
theorem imX12_term : Cond.instanceMethod yX12_term ∈ lw_tbl := List.mem_of_getElem? (i := 1601) (by decide +kernel)
abbrev mX12_part0 : Mt := (yX12_part0, cX12_part0, 2, (some .boolean))
theorem mwX12_part0 : MW mX12_part0 1 := ⟨List.mem_of_getElem? (i := 1606) (by decide +kernel), List.mem_of_getElem? (i := 88) (by decide +kernel), by decide +kernel, by decide +kernel, by decide⟩
theorem imX12_part0 : Cond.instanceMethod yX12_part0 ∈ lw_tbl := List.mem_of_getElem? (i := 1605) (by decide +kernel)
abbrev mX12_parse : Mt := (yX12_parse, cX12_parse, 3, (some .int))
theorem mwX12_parse : MW mX12_parse 0 := ⟨List.mem_of_getElem? (i := 1558) (by decide +kernel), List.mem_of_getElem? (i := 88) (by decide +kernel), by decide +kernel, by decide +kernel, by decide⟩
theorem imX12_parse : Cond.instanceMethod yX12_parse ∈ lw_tbl := List.mem_of_getElem? (i := 1557) (by decide +kernel)
abbrev mX12_text : Mt := (yX12_text, cX12_text, 3, (some .int))
theorem mwX12_text : MW mX12_text 0 := ⟨List.mem_of_getElem? (i := 1554) (by decide +kernel), List.mem_of_getElem? (i := 88) (by decide +kernel), by decide +kernel, by decide +kernel, by decide⟩
theorem imX12_text : Cond.instanceMethod yX12_text ∈ lw_tbl := List.mem_of_getElem? (i := 1552) (by decide +kernel)
abbrev mX12_textTold : Mt := (yX12_textTold, cX12_textTold, 3, (some .int))
theorem mwX12_textTold : MW mX12_textTold 2 := ⟨List.mem_of_getElem? (i := 1621) (by decide +kernel), List.mem_of_getElem? (i := 88) (by decide +kernel), by decide +kernel, by decide +kernel, by decide⟩
theorem imX12_textTold : Cond.instanceMethod yX12_textTold ∈ lw_tbl := List.mem_of_getElem? (i := 1619) (by decide +kernel)
abbrev mX12_counts : Mt := (yX12_counts, cX12_counts, 4, (some .int))
theorem mwX12_counts : MW mX12_counts 1 := ⟨List.mem_of_getElem? (i := 1384) (by decide +kernel), List.mem_of_getElem? (i := 88) (by decide +kernel), by decide +kernel, by decide +kernel, by decide⟩
theorem imX12_counts : Cond.instanceMethod yX12_counts ∈ lw_tbl := List.mem_of_getElem? (i := 1383) (by decide +kernel)
abbrev mX12_why : Mt := (yX12_why, cX12_why, 2, (some .int))
theorem mwX12_why : MW mX12_why 1 := ⟨List.mem_of_getElem? (i := 1629) (by decide +kernel), List.mem_of_getElem? (i := 88) (by decide +kernel), by decide +kernel, by decide +kernel, by decide⟩
theorem imX12_why : Cond.instanceMethod yX12_why ∈ lw_tbl := List.mem_of_getElem? (i := 1627) (by decide +kernel)
abbrev mX12_joined : Mt := (yX12_joined, cX12_joined, 3, (some .int))
theorem mwX12_joined : MW mX12_joined 3 := ⟨List.mem_of_getElem? (i := 1395) (by decide +kernel), List.mem_of_getElem? (i := 88) (by decide +kernel), by decide +kernel, by decide +kernel, by decide⟩
theorem stX12_joined : Cond.static yX12_joined ∈ lw_tbl := List.mem_of_getElem? (i := 1394) (by decide +kernel)
abbrev mX12_worked : Mt := (yX12_worked, cX12_worked, 6, (some .int))
theorem mwX12_worked : MW mX12_worked 1 := ⟨List.mem_of_getElem? (i := 1392) (by decide +kernel), List.mem_of_getElem? (i := 88) (by decide +kernel), by decide +kernel, by decide +kernel, by decide⟩
theorem imX12_worked : Cond.instanceMethod yX12_worked ∈ lw_tbl := List.mem_of_getElem? (i := 1391) (by decide +kernel)
abbrev mX12_isSheet : Mt := (yX12_isSheet, cX12_isSheet, 1, (some .boolean))
theorem mwX12_isSheet : MW mX12_isSheet 1 := ⟨List.mem_of_getElem? (i := 1636) (by decide +kernel), List.mem_of_getElem? (i := 88) (by decide +kernel), by decide +kernel, by decide +kernel, by decide⟩
theorem stX12_isSheet : Cond.static yX12_isSheet ∈ lw_tbl := List.mem_of_getElem? (i := 1635) (by decide +kernel)
abbrev mX12_sheet : Mt := (yX12_sheet, cX12_sheet, 5, (some .int))
theorem mwX12_sheet : MW mX12_sheet 3 := ⟨List.mem_of_getElem? (i := 1633) (by decide +kernel), List.mem_of_getElem? (i := 88) (by decide +kernel), by decide +kernel, by decide +kernel, by decide⟩
theorem imX12_sheet : Cond.instanceMethod yX12_sheet ∈ lw_tbl := List.mem_of_getElem? (i := 1631) (by decide +kernel)
abbrev mX12_mark : Mt := (yX12_mark, cX12_mark, 4, (some .int))
theorem mwX12_mark : MW mX12_mark 3 := ⟨List.mem_of_getElem? (i := 1642) (by decide +kernel), List.mem_of_getElem? (i := 88) (by decide +kernel), by decide +kernel, by decide +kernel, by decide⟩
theorem imX12_mark : Cond.instanceMethod yX12_mark ∈ lw_tbl := List.mem_of_getElem? (i := 1640) (by decide +kernel)
abbrev mX12_pour : Mt := (yX12_pour, cX12_pour, 6, (some .int))
theorem mwX12_pour : MW mX12_pour 1 := ⟨List.mem_of_getElem? (i := 1650) (by decide +kernel), List.mem_of_getElem? (i := 88) (by decide +kernel), by decide +kernel, by decide +kernel, by decide⟩
theorem imX12_pour : Cond.instanceMethod yX12_pour ∈ lw_tbl := List.mem_of_getElem? (i := 1648) (by decide +kernel)
abbrev mX12_nearest : Mt := (yX12_nearest, cX12_nearest, 10, (some .int))
theorem mwX12_nearest : MW mX12_nearest 2 := ⟨List.mem_of_getElem? (i := 1654) (by decide +kernel), List.mem_of_getElem? (i := 88) (by decide +kernel), by decide +kernel, by decide +kernel, by decide⟩
theorem imX12_nearest : Cond.instanceMethod yX12_nearest ∈ lw_tbl := List.mem_of_getElem? (i := 1652) (by decide +kernel)
abbrev mX12_copy : Mt := (yX12_copy, cX12_copy, 7, (some .int))
theorem mwX12_copy : MW mX12_copy 5 := ⟨List.mem_of_getElem? (i := 1658) (by decide +kernel), List.mem_of_getElem? (i := 88) (by decide +kernel), by decide +kernel, by decide +kernel, by decide⟩
theorem imX12_copy : Cond.instanceMethod yX12_copy ∈ lw_tbl := List.mem_of_getElem? (i := 1656) (by decide +kernel)
abbrev mX12_isSlot : Mt := (yX12_isSlot, cX12_isSlot, 1, (some .boolean))
theorem mwX12_isSlot : MW mX12_isSlot 1 := ⟨List.mem_of_getElem? (i := 1665) (by decide +kernel), List.mem_of_getElem? (i := 88) (by decide +kernel), by decide +kernel, by decide +kernel, by decide⟩
theorem stX12_isSlot : Cond.static yX12_isSlot ∈ lw_tbl := List.mem_of_getElem? (i := 1664) (by decide +kernel)
abbrev mX12_lay : Mt := (yX12_lay, cX12_lay, 7, (some .int))
theorem mwX12_lay : MW mX12_lay 3 := ⟨List.mem_of_getElem? (i := 1662) (by decide +kernel), List.mem_of_getElem? (i := 88) (by decide +kernel), by decide +kernel, by decide +kernel, by decide⟩
theorem imX12_lay : Cond.instanceMethod yX12_lay ∈ lw_tbl := List.mem_of_getElem? (i := 1660) (by decide +kernel)
abbrev mX12_ask : Mt := (yX12_ask, cX12_ask, 3, (some .int))
theorem mwX12_ask : MW mX12_ask 2 := ⟨List.mem_of_getElem? (i := 1670) (by decide +kernel), List.mem_of_getElem? (i := 88) (by decide +kernel), by decide +kernel, by decide +kernel, by decide⟩
theorem imX12_ask : Cond.instanceMethod yX12_ask ∈ lw_tbl := List.mem_of_getElem? (i := 1668) (by decide +kernel)
abbrev mX12_item : Mt := (yX12_item, cX12_item, 4, (some .int))
theorem mwX12_item : MW mX12_item 2 := ⟨List.mem_of_getElem? (i := 1674) (by decide +kernel), List.mem_of_getElem? (i := 88) (by decide +kernel), by decide +kernel, by decide +kernel, by decide⟩
theorem imX12_item : Cond.instanceMethod yX12_item ∈ lw_tbl := List.mem_of_getElem? (i := 1672) (by decide +kernel)
abbrev mX12_rest : Mt := (yX12_rest, cX12_rest, 3, (some .int))
theorem mwX12_rest : MW mX12_rest 2 := ⟨List.mem_of_getElem? (i := 1678) (by decide +kernel), List.mem_of_getElem? (i := 88) (by decide +kernel), by decide +kernel, by decide +kernel, by decide⟩
theorem imX12_rest : Cond.instanceMethod yX12_rest ∈ lw_tbl := List.mem_of_getElem? (i := 1676) (by decide +kernel)
abbrev mX12_tell : Mt := (yX12_tell, cX12_tell, 2, (some .int))
theorem mwX12_tell : MW mX12_tell 1 := ⟨List.mem_of_getElem? (i := 1682) (by decide +kernel), List.mem_of_getElem? (i := 88) (by decide +kernel), by decide +kernel, by decide +kernel, by decide⟩
theorem imX12_tell : Cond.instanceMethod yX12_tell ∈ lw_tbl := List.mem_of_getElem? (i := 1680) (by decide +kernel)
abbrev mX12_setAside : Mt := (yX12_setAside, cX12_setAside, 4, none)
theorem mwX12_setAside : MW mX12_setAside 2 := ⟨List.mem_of_getElem? (i := 1690) (by decide +kernel), List.mem_of_getElem? (i := 88) (by decide +kernel), by decide +kernel, by decide +kernel, by decide⟩
theorem imX12_setAside : Cond.instanceMethod yX12_setAside ∈ lw_tbl := List.mem_of_getElem? (i := 1689) (by decide +kernel)
abbrev mX12_standing : Mt := (yX12_standing, cX12_standing, 3, (some .int))
theorem mwX12_standing : MW mX12_standing 0 := ⟨List.mem_of_getElem? (i := 1694) (by decide +kernel), List.mem_of_getElem? (i := 88) (by decide +kernel), by decide +kernel, by decide +kernel, by decide⟩
theorem imX12_standing : Cond.instanceMethod yX12_standing ∈ lw_tbl := List.mem_of_getElem? (i := 1693) (by decide +kernel)
abbrev mX12_check : Mt := (yX12_check, cX12_check, 6, (some .int))
theorem mwX12_check : MW mX12_check 1 := ⟨List.mem_of_getElem? (i := 1686) (by decide +kernel), List.mem_of_getElem? (i := 88) (by decide +kernel), by decide +kernel, by decide +kernel, by decide⟩
theorem imX12_check : Cond.instanceMethod yX12_check ∈ lw_tbl := List.mem_of_getElem? (i := 1684) (by decide +kernel)
abbrev mX12_keep : Mt := (yX12_keep, cX12_keep, 1, (some .int))
theorem mwX12_keep : MW mX12_keep 0 := ⟨List.mem_of_getElem? (i := 1698) (by decide +kernel), List.mem_of_getElem? (i := 88) (by decide +kernel), by decide +kernel, by decide +kernel, by decide⟩
theorem imX12_keep : Cond.instanceMethod yX12_keep ∈ lw_tbl := List.mem_of_getElem? (i := 1696) (by decide +kernel)
abbrev mX12_back : Mt := (yX12_back, cX12_back, 1, (some .int))
theorem mwX12_back : MW mX12_back 0 := ⟨List.mem_of_getElem? (i := 1702) (by decide +kernel), List.mem_of_getElem? (i := 88) (by decide +kernel), by decide +kernel, by decide +kernel, by decide⟩
theorem imX12_back : Cond.instanceMethod yX12_back ∈ lw_tbl := List.mem_of_getElem? (i := 1700) (by decide +kernel)
abbrev mX12_count : Mt := (yX12_count, cX12_count, 2, (some .int))
theorem mwX12_count : MW mX12_count 1 := ⟨List.mem_of_getElem? (i := 1706) (by decide +kernel), List.mem_of_getElem? (i := 88) (by decide +kernel), by decide +kernel, by decide +kernel, by decide⟩
theorem imX12_count : Cond.instanceMethod yX12_count ∈ lw_tbl := List.mem_of_getElem? (i := 1704) (by decide +kernel)
abbrev mX12_movedMany : Mt := (yX12_movedMany, cX12_movedMany, 3, (some .int))
theorem mwX12_movedMany : MW mX12_movedMany 0 := ⟨List.mem_of_getElem? (i := 1710) (by decide +kernel), List.mem_of_getElem? (i := 88) (by decide +kernel), by decide +kernel, by decide +kernel, by decide⟩
theorem imX12_movedMany : Cond.instanceMethod yX12_movedMany ∈ lw_tbl := List.mem_of_getElem? (i := 1709) (by decide +kernel)
abbrev mJ6_bitCount_0f7a4 : Mt := (yJ6_bitCount_0f7a4, cJ6_bitCount_0f7a4, 1, (some .int))
theorem mwJ6_bitCount_0f7a4 : MW mJ6_bitCount_0f7a4 1 := ⟨List.mem_of_getElem? (i := 797) (by decide +kernel), List.mem_of_getElem? (i := 92) (by decide +kernel), by decide +kernel, by decide +kernel, by decide⟩
theorem stJ6_bitCount_0f7a4 : Cond.static yJ6_bitCount_0f7a4 ∈ lw_tbl := List.mem_of_getElem? (i := 796) (by decide +kernel)
abbrev mJ9_abs_0f7a4 : Mt := (yJ9_abs_0f7a4, cJ9_abs_0f7a4, 1, (some .int))
theorem mwJ9_abs_0f7a4 : MW mJ9_abs_0f7a4 1 := ⟨List.mem_of_getElem? (i := 512) (by decide +kernel), List.mem_of_getElem? (i := 89) (by decide +kernel), by decide +kernel, by decide +kernel, by decide⟩
theorem stJ9_abs_0f7a4 : Cond.static yJ9_abs_0f7a4 ∈ lw_tbl := List.mem_of_getElem? (i := 511) (by decide +kernel)
abbrev mJ9_max_7cf53 : Mt := (yJ9_max_7cf53, cJ9_max_7cf53, 2, (some .int))
theorem mwJ9_max_7cf53 : MW mJ9_max_7cf53 2 := ⟨List.mem_of_getElem? (i := 471) (by decide +kernel), List.mem_of_getElem? (i := 89) (by decide +kernel), by decide +kernel, by decide +kernel, by decide⟩
theorem stJ9_max_7cf53 : Cond.static yJ9_max_7cf53 ∈ lw_tbl := List.mem_of_getElem? (i := 470) (by decide +kernel)
abbrev mJ9_min_7cf53 : Mt := (yJ9_min_7cf53, cJ9_min_7cf53, 2, (some .int))
theorem mwJ9_min_7cf53 : MW mJ9_min_7cf53 2 := ⟨List.mem_of_getElem? (i := 418) (by decide +kernel), List.mem_of_getElem? (i := 89) (by decide +kernel), by decide +kernel, by decide +kernel, by decide⟩
theorem stJ9_min_7cf53 : Cond.static yJ9_min_7cf53 ∈ lw_tbl := List.mem_of_getElem? (i := 417) (by decide +kernel)
abbrev mJ0_length_8abf5 : Mt := (yJ0_length_8abf5, cJ0_length_8abf5, 1, (some .int))
theorem mwJ0_length_8abf5 : MW mJ0_length_8abf5 0 := ⟨List.mem_of_getElem? (i := 861) (by decide +kernel), List.mem_of_getElem? (i := 93) (by decide +kernel), by decide +kernel, by decide +kernel, by decide⟩
theorem imJ0_length_8abf5 : Cond.instanceMethod yJ0_length_8abf5 ∈ lw_tbl := List.mem_of_getElem? (i := 859) (by decide +kernel)
abbrev mJ0_charAt_5068e : Mt := (yJ0_charAt_5068e, cJ0_charAt_5068e, 2, (some .char))
theorem mwJ0_charAt_5068e : MW mJ0_charAt_5068e 1 := ⟨List.mem_of_getElem? (i := 871) (by decide +kernel), List.mem_of_getElem? (i := 93) (by decide +kernel), by decide +kernel, by decide +kernel, by decide⟩
theorem imJ0_charAt_5068e : Cond.instanceMethod yJ0_charAt_5068e ∈ lw_tbl := List.mem_of_getElem? (i := 869) (by decide +kernel)
abbrev mJ0_indexOf_0f7a4 : Mt := (yJ0_indexOf_0f7a4, cJ0_indexOf_0f7a4, 2, (some .int))
theorem mwJ0_indexOf_0f7a4 : MW mJ0_indexOf_0f7a4 1 := ⟨List.mem_of_getElem? (i := 947) (by decide +kernel), List.mem_of_getElem? (i := 93) (by decide +kernel), by decide +kernel, by decide +kernel, by decide⟩
theorem imJ0_indexOf_0f7a4 : Cond.instanceMethod yJ0_indexOf_0f7a4 ∈ lw_tbl := List.mem_of_getElem? (i := 945) (by decide +kernel)
abbrev mJ0_indexOf_7cf53 : Mt := (yJ0_indexOf_7cf53, cJ0_indexOf_7cf53, 3, (some .int))
theorem mwJ0_indexOf_7cf53 : MW mJ0_indexOf_7cf53 2 := ⟨List.mem_of_getElem? (i := 951) (by decide +kernel), List.mem_of_getElem? (i := 93) (by decide +kernel), by decide +kernel, by decide +kernel, by decide⟩
theorem imJ0_indexOf_7cf53 : Cond.instanceMethod yJ0_indexOf_7cf53 ∈ lw_tbl := List.mem_of_getElem? (i := 949) (by decide +kernel)
abbrev mJ0_coder_7d493 : Mt := (yJ0_coder_7d493, cJ0_coder_7d493, 1, (some .byte))
theorem mwJ0_coder_7d493 : MW mJ0_coder_7d493 0 := ⟨List.mem_of_getElem? (i := 865) (by decide +kernel), List.mem_of_getElem? (i := 93) (by decide +kernel), by decide +kernel, by decide +kernel, by decide⟩
theorem imJ0_coder_7d493 : Cond.instanceMethod yJ0_coder_7d493 ∈ lw_tbl := List.mem_of_getElem? (i := 863) (by decide +kernel)
abbrev mJ0_isLatin1_aae02 : Mt := (yJ0_isLatin1_aae02, cJ0_isLatin1_aae02, 1, (some .boolean))
theorem mwJ0_isLatin1_aae02 : MW mJ0_isLatin1_aae02 0 := ⟨List.mem_of_getElem? (i := 875) (by decide +kernel), List.mem_of_getElem? (i := 93) (by decide +kernel), by decide +kernel, by decide +kernel, by decide⟩
theorem imJ0_isLatin1_aae02 : Cond.instanceMethod yJ0_isLatin1_aae02 ∈ lw_tbl := List.mem_of_getElem? (i := 873) (by decide +kernel)
abbrev mJ0_checkIndex_df160 : Mt := (yJ0_checkIndex_df160, cJ0_checkIndex_df160, 2, none)
theorem mwJ0_checkIndex_df160 : MW mJ0_checkIndex_df160 2 := ⟨List.mem_of_getElem? (i := 881) (by decide +kernel), List.mem_of_getElem? (i := 93) (by decide +kernel), by decide +kernel, by decide +kernel, by decide⟩
theorem stJ0_checkIndex_df160 : Cond.static yJ0_checkIndex_df160 ∈ lw_tbl := List.mem_of_getElem? (i := 880) (by decide +kernel)
abbrev mJ0_checkBoundsBeginEnd_23922 : Mt := (yJ0_checkBoundsBeginEnd_23922, cJ0_checkBoundsBeginEnd_23922, 3, none)
theorem mwJ0_checkBoundsBeginEnd_23922 : MW mJ0_checkBoundsBeginEnd_23922 3 := ⟨List.mem_of_getElem? (i := 978) (by decide +kernel), List.mem_of_getElem? (i := 93) (by decide +kernel), by decide +kernel, by decide +kernel, by decide⟩
theorem stJ0_checkBoundsBeginEnd_23922 : Cond.static yJ0_checkBoundsBeginEnd_23922 ∈ lw_tbl := List.mem_of_getElem? (i := 977) (by decide +kernel)
abbrev mJ1_charAt_3b067 : Mt := (yJ1_charAt_3b067, cJ1_charAt_3b067, 2, (some .char))
theorem mwJ1_charAt_3b067 : MW mJ1_charAt_3b067 2 := ⟨List.mem_of_getElem? (i := 878) (by decide +kernel), List.mem_of_getElem? (i := 94) (by decide +kernel), by decide +kernel, by decide +kernel, by decide⟩
theorem stJ1_charAt_3b067 : Cond.static yJ1_charAt_3b067 ∈ lw_tbl := List.mem_of_getElem? (i := 877) (by decide +kernel)
abbrev mJ1_canEncode_9a6ad : Mt := (yJ1_canEncode_9a6ad, cJ1_canEncode_9a6ad, 1, (some .boolean))
theorem mwJ1_canEncode_9a6ad : MW mJ1_canEncode_9a6ad 1 := ⟨List.mem_of_getElem? (i := 958) (by decide +kernel), List.mem_of_getElem? (i := 94) (by decide +kernel), by decide +kernel, by decide +kernel, by decide⟩
theorem stJ1_canEncode_9a6ad : Cond.static yJ1_canEncode_9a6ad ∈ lw_tbl := List.mem_of_getElem? (i := 957) (by decide +kernel)
abbrev mJ1_indexOf_4cfef : Mt := (yJ1_indexOf_4cfef, cJ1_indexOf_4cfef, 4, (some .int))
theorem mwJ1_indexOf_4cfef : MW mJ1_indexOf_4cfef 4 := ⟨List.mem_of_getElem? (i := 955) (by decide +kernel), List.mem_of_getElem? (i := 94) (by decide +kernel), by decide +kernel, by decide +kernel, by decide⟩
theorem stJ1_indexOf_4cfef : Cond.static yJ1_indexOf_4cfef ∈ lw_tbl := List.mem_of_getElem? (i := 954) (by decide +kernel)
abbrev mJ1_indexOfChar_4cfef : Mt := (yJ1_indexOfChar_4cfef, cJ1_indexOfChar_4cfef, 6, (some .int))
theorem mwJ1_indexOfChar_4cfef : MW mJ1_indexOfChar_4cfef 4 := ⟨List.mem_of_getElem? (i := 963) (by decide +kernel), List.mem_of_getElem? (i := 94) (by decide +kernel), by decide +kernel, by decide +kernel, by decide⟩
theorem stJ1_indexOfChar_4cfef : Cond.static yJ1_indexOfChar_4cfef ∈ lw_tbl := List.mem_of_getElem? (i := 962) (by decide +kernel)
abbrev mJ7_fill_53178 : Mt := (yJ7_fill_53178, cJ7_fill_53178, 4, none)
theorem mwJ7_fill_53178 : MW mJ7_fill_53178 2 := ⟨List.mem_of_getElem? (i := 702) (by decide +kernel), List.mem_of_getElem? (i := 91) (by decide +kernel), by decide +kernel, by decide +kernel, by decide⟩
theorem stJ7_fill_53178 : Cond.static yJ7_fill_53178 ∈ lw_tbl := List.mem_of_getElem? (i := 701) (by decide +kernel)
abbrev mJ7_copyOf_59c91 : Mt := (yJ7_copyOf_59c91, cJ7_copyOf_59c91, 3, (some (.array .int)))
theorem mwJ7_copyOf_59c91 : MW mJ7_copyOf_59c91 2 := ⟨List.mem_of_getElem? (i := 1022) (by decide +kernel), List.mem_of_getElem? (i := 91) (by decide +kernel), by decide +kernel, by decide +kernel, by decide⟩
theorem stJ7_copyOf_59c91 : Cond.static yJ7_copyOf_59c91 ∈ lw_tbl := List.mem_of_getElem? (i := 1021) (by decide +kernel)
abbrev mJ3_checkIndex_8e157 : Mt := (yJ3_checkIndex_8e157, cJ3_checkIndex_8e157, 3, (some .int))
theorem mwJ3_checkIndex_8e157 : MW mJ3_checkIndex_8e157 3 := ⟨List.mem_of_getElem? (i := 886) (by decide +kernel), List.mem_of_getElem? (i := 95) (by decide +kernel), by decide +kernel, by decide +kernel, by decide⟩
theorem stJ3_checkIndex_8e157 : Cond.static yJ3_checkIndex_8e157 ∈ lw_tbl := List.mem_of_getElem? (i := 885) (by decide +kernel)
abbrev mJ3_checkFromToIndex_8c36e : Mt := (yJ3_checkFromToIndex_8c36e, cJ3_checkFromToIndex_8c36e, 4, (some .int))
theorem mwJ3_checkFromToIndex_8c36e : MW mJ3_checkFromToIndex_8c36e 4 := ⟨List.mem_of_getElem? (i := 981) (by decide +kernel), List.mem_of_getElem? (i := 95) (by decide +kernel), by decide +kernel, by decide +kernel, by decide⟩
theorem stJ3_checkFromToIndex_8c36e : Cond.static yJ3_checkFromToIndex_8c36e ∈ lw_tbl := List.mem_of_getElem? (i := 980) (by decide +kernel)
theorem seX9_X9_given_X9_given : Cond.selects RX9 yX9_given yX9_given ∈ lw_tbl := List.mem_of_getElem? (i := 0) (by decide +kernel)
theorem seX9_X9_canMoveFromFoot_X9_canMoveFromFoot : Cond.selects RX9 yX9_canMoveFromFoot yX9_canMoveFromFoot ∈ lw_tbl := List.mem_of_getElem? (i := 1) (by decide +kernel)
theorem seX9_X9_othersOn_X9_othersOn : Cond.selects RX9 yX9_othersOn yX9_othersOn ∈ lw_tbl := List.mem_of_getElem? (i := 2) (by decide +kernel)
theorem seX9_X9_nextTop_X9_nextTop : Cond.selects RX9 yX9_nextTop yX9_nextTop ∈ lw_tbl := List.mem_of_getElem? (i := 3) (by decide +kernel)
theorem seX10_X10_shorten_X10_shorten : Cond.selects RX10 yX10_shorten yX10_shorten ∈ lw_tbl := List.mem_of_getElem? (i := 4) (by decide +kernel)
theorem seX10_X10_reachedBy_X10_reachedBy : Cond.selects RX10 yX10_reachedBy yX10_reachedBy ∈ lw_tbl := List.mem_of_getElem? (i := 5) (by decide +kernel)
theorem seX10_X10_arrives_X10_arrives : Cond.selects RX10 yX10_arrives yX10_arrives ∈ lw_tbl := List.mem_of_getElem? (i := 6) (by decide +kernel)
theorem seX10_X10_lastMoveArrives_X10_lastMoveArrives : Cond.selects RX10 yX10_lastMoveArrives yX10_lastMoveArrives ∈ lw_tbl := List.mem_of_getElem? (i := 7) (by decide +kernel)
theorem seX10_X10_moveArrives_X10_moveArrives : Cond.selects RX10 yX10_moveArrives yX10_moveArrives ∈ lw_tbl := List.mem_of_getElem? (i := 8) (by decide +kernel)
theorem seX5_X5_readKey_X5_readKey : Cond.selects RX5 yX5_readKey yX5_readKey ∈ lw_tbl := List.mem_of_getElem? (i := 9) (by decide +kernel)
theorem seX5_X5_skipBlanks_X5_skipBlanks : Cond.selects RX5 yX5_skipBlanks yX5_skipBlanks ∈ lw_tbl := List.mem_of_getElem? (i := 10) (by decide +kernel)
theorem seX5_X5_wordEnd_X5_wordEnd : Cond.selects RX5 yX5_wordEnd yX5_wordEnd ∈ lw_tbl := List.mem_of_getElem? (i := 11) (by decide +kernel)
theorem seX5_X5_isWord_X5_isWord : Cond.selects RX5 yX5_isWord yX5_isWord ∈ lw_tbl := List.mem_of_getElem? (i := 12) (by decide +kernel)
theorem seX5_X5_readLaw_X5_readLaw : Cond.selects RX5 yX5_readLaw yX5_readLaw ∈ lw_tbl := List.mem_of_getElem? (i := 13) (by decide +kernel)
theorem seX5_X5_readTowardsOperand_X5_readTowardsOperand : Cond.selects RX5 yX5_readTowardsOperand yX5_readTowardsOperand ∈ lw_tbl := List.mem_of_getElem? (i := 14) (by decide +kernel)
theorem seX5_X5_readNumber_X5_readNumber : Cond.selects RX5 yX5_readNumber yX5_readNumber ∈ lw_tbl := List.mem_of_getElem? (i := 15) (by decide +kernel)
theorem seX5_X5_putOperand_X5_putOperand : Cond.selects RX5 yX5_putOperand yX5_putOperand ∈ lw_tbl := List.mem_of_getElem? (i := 16) (by decide +kernel)
theorem seX5_X5_putOut_X5_putOut : Cond.selects RX5 yX5_putOut yX5_putOut ∈ lw_tbl := List.mem_of_getElem? (i := 17) (by decide +kernel)
theorem seX5_X5_closePiece_X5_closePiece : Cond.selects RX5 yX5_closePiece yX5_closePiece ∈ lw_tbl := List.mem_of_getElem? (i := 18) (by decide +kernel)
theorem seX5_X5_topSign_X5_topSign : Cond.selects RX5 yX5_topSign yX5_topSign ∈ lw_tbl := List.mem_of_getElem? (i := 19) (by decide +kernel)
theorem seX5_X5_readName_X5_readName : Cond.selects RX5 yX5_readName yX5_readName ∈ lw_tbl := List.mem_of_getElem? (i := 20) (by decide +kernel)
theorem seX5_X5_pushSign_X5_pushSign : Cond.selects RX5 yX5_pushSign yX5_pushSign ∈ lw_tbl := List.mem_of_getElem? (i := 21) (by decide +kernel)
theorem seX5_X5_readBehindOperand_X5_readBehindOperand : Cond.selects RX5 yX5_readBehindOperand yX5_readBehindOperand ∈ lw_tbl := List.mem_of_getElem? (i := 22) (by decide +kernel)
theorem seX5_X5_readClosing_X5_readClosing : Cond.selects RX5 yX5_readClosing yX5_readClosing ∈ lw_tbl := List.mem_of_getElem? (i := 23) (by decide +kernel)
theorem seX5_X5_putOutSigns_X5_putOutSigns : Cond.selects RX5 yX5_putOutSigns yX5_putOutSigns ∈ lw_tbl := List.mem_of_getElem? (i := 24) (by decide +kernel)
theorem seX11_X11_findingOf_X11_findingOf : Cond.selects RX11 yX11_findingOf yX11_findingOf ∈ lw_tbl := List.mem_of_getElem? (i := 25) (by decide +kernel)
theorem seX11_X11_isTold_X11_isTold : Cond.selects RX11 yX11_isTold yX11_isTold ∈ lw_tbl := List.mem_of_getElem? (i := 26) (by decide +kernel)
theorem seX12_X12_comes_X12_comes : Cond.selects RX12 yX12_comes yX12_comes ∈ lw_tbl := List.mem_of_getElem? (i := 27) (by decide +kernel)
theorem seX12_X12_isLedge_X12_isLedge : Cond.selects RX12 yX12_isLedge yX12_isLedge ∈ lw_tbl := List.mem_of_getElem? (i := 28) (by decide +kernel)
theorem seX12_X12_of_X12_of : Cond.selects RX12 yX12_of yX12_of ∈ lw_tbl := List.mem_of_getElem? (i := 29) (by decide +kernel)
theorem seX12_X12_peopleOn_X12_peopleOn : Cond.selects RX12 yX12_peopleOn yX12_peopleOn ∈ lw_tbl := List.mem_of_getElem? (i := 30) (by decide +kernel)
theorem seX12_X12_where_X12_where : Cond.selects RX12 yX12_where yX12_where ∈ lw_tbl := List.mem_of_getElem? (i := 31) (by decide +kernel)
theorem seX12_X12_becomes_X12_becomes : Cond.selects RX12 yX12_becomes yX12_becomes ∈ lw_tbl := List.mem_of_getElem? (i := 32) (by decide +kernel)
theorem seX12_X12_drawn_X12_drawn : Cond.selects RX12 yX12_drawn yX12_drawn ∈ lw_tbl := List.mem_of_getElem? (i := 33) (by decide +kernel)
theorem seX12_X12_sets_X12_sets : Cond.selects RX12 yX12_sets yX12_sets ∈ lw_tbl := List.mem_of_getElem? (i := 34) (by decide +kernel)
theorem seX12_X12_isLadder_X12_isLadder : Cond.selects RX12 yX12_isLadder yX12_isLadder ∈ lw_tbl := List.mem_of_getElem? (i := 35) (by decide +kernel)
theorem seX12_X12_reach_X12_reach : Cond.selects RX12 yX12_reach yX12_reach ∈ lw_tbl := List.mem_of_getElem? (i := 36) (by decide +kernel)
theorem seX12_X12_minutes_X12_minutes : Cond.selects RX12 yX12_minutes yX12_minutes ∈ lw_tbl := List.mem_of_getElem? (i := 37) (by decide +kernel)
theorem seX12_X12_height_X12_height : Cond.selects RX12 yX12_height yX12_height ∈ lw_tbl := List.mem_of_getElem? (i := 38) (by decide +kernel)
theorem seX12_X12_stands_X12_stands : Cond.selects RX12 yX12_stands yX12_stands ∈ lw_tbl := List.mem_of_getElem? (i := 39) (by decide +kernel)
theorem seX12_X12_reaches_X12_reaches : Cond.selects RX12 yX12_reaches yX12_reaches ∈ lw_tbl := List.mem_of_getElem? (i := 40) (by decide +kernel)
theorem seX12_X12_needsOf_X12_needsOf : Cond.selects RX12 yX12_needsOf yX12_needsOf ∈ lw_tbl := List.mem_of_getElem? (i := 41) (by decide +kernel)
theorem seX12_X12_counts_X12_counts : Cond.selects RX12 yX12_counts yX12_counts ∈ lw_tbl := List.mem_of_getElem? (i := 42) (by decide +kernel)
theorem seX12_X12_textAt_X12_textAt : Cond.selects RX12 yX12_textAt yX12_textAt ∈ lw_tbl := List.mem_of_getElem? (i := 43) (by decide +kernel)
theorem seX12_X12_worked_X12_worked : Cond.selects RX12 yX12_worked yX12_worked ∈ lw_tbl := List.mem_of_getElem? (i := 44) (by decide +kernel)
theorem seX12_X12_worth_X12_worth : Cond.selects RX12 yX12_worth yX12_worth ∈ lw_tbl := List.mem_of_getElem? (i := 45) (by decide +kernel)
theorem seX12_X12_allReached_X12_allReached : Cond.selects RX12 yX12_allReached yX12_allReached ∈ lw_tbl := List.mem_of_getElem? (i := 46) (by decide +kernel)
theorem seX12_X12_isPerson_X12_isPerson : Cond.selects RX12 yX12_isPerson yX12_isPerson ∈ lw_tbl := List.mem_of_getElem? (i := 47) (by decide +kernel)
theorem seX12_X12_mayMove_X12_mayMove : Cond.selects RX12 yX12_mayMove yX12_mayMove ∈ lw_tbl := List.mem_of_getElem? (i := 48) (by decide +kernel)
theorem seX12_X12_mayThere_X12_mayThere : Cond.selects RX12 yX12_mayThere yX12_mayThere ∈ lw_tbl := List.mem_of_getElem? (i := 49) (by decide +kernel)
theorem seX12_X12_isStrong_X12_isStrong : Cond.selects RX12 yX12_isStrong yX12_isStrong ∈ lw_tbl := List.mem_of_getElem? (i := 50) (by decide +kernel)
theorem seX12_X12_night_X12_night : Cond.selects RX12 yX12_night yX12_night ∈ lw_tbl := List.mem_of_getElem? (i := 51) (by decide +kernel)
theorem seX12_X12_findFar_X12_findFar : Cond.selects RX12 yX12_findFar yX12_findFar ∈ lw_tbl := List.mem_of_getElem? (i := 52) (by decide +kernel)
theorem seX12_X12_toll_X12_toll : Cond.selects RX12 yX12_toll yX12_toll ∈ lw_tbl := List.mem_of_getElem? (i := 53) (by decide +kernel)
theorem seX12_X12_reachedBut_X12_reachedBut : Cond.selects RX12 yX12_reachedBut yX12_reachedBut ∈ lw_tbl := List.mem_of_getElem? (i := 54) (by decide +kernel)
theorem seX12_X12_getsByOne_X12_getsByOne : Cond.selects RX12 yX12_getsByOne yX12_getsByOne ∈ lw_tbl := List.mem_of_getElem? (i := 55) (by decide +kernel)
theorem seX12_X12_getsByTwo_X12_getsByTwo : Cond.selects RX12 yX12_getsByTwo yX12_getsByTwo ∈ lw_tbl := List.mem_of_getElem? (i := 56) (by decide +kernel)
theorem seX12_X12_findHelp_X12_findHelp : Cond.selects RX12 yX12_findHelp yX12_findHelp ∈ lw_tbl := List.mem_of_getElem? (i := 57) (by decide +kernel)
theorem seX12_X12_parse_X12_parse : Cond.selects RX12 yX12_parse yX12_parse ∈ lw_tbl := List.mem_of_getElem? (i := 58) (by decide +kernel)
theorem seX12_X12_nextToken_X12_nextToken : Cond.selects RX12 yX12_nextToken yX12_nextToken ∈ lw_tbl := List.mem_of_getElem? (i := 59) (by decide +kernel)
theorem seX12_X12_isLetter_X12_isLetter : Cond.selects RX12 yX12_isLetter yX12_isLetter ∈ lw_tbl := List.mem_of_getElem? (i := 60) (by decide +kernel)
theorem seX12_X12_isDigit_X12_isDigit : Cond.selects RX12 yX12_isDigit yX12_isDigit ∈ lw_tbl := List.mem_of_getElem? (i := 61) (by decide +kernel)
theorem seX12_X12_key_X12_key : Cond.selects RX12 yX12_key yX12_key ∈ lw_tbl := List.mem_of_getElem? (i := 62) (by decide +kernel)
theorem seX12_X12_isWordAt_X12_isWordAt : Cond.selects RX12 yX12_isWordAt yX12_isWordAt ∈ lw_tbl := List.mem_of_getElem? (i := 63) (by decide +kernel)
theorem seX12_X12_either_X12_either : Cond.selects RX12 yX12_either yX12_either ∈ lw_tbl := List.mem_of_getElem? (i := 64) (by decide +kernel)
theorem seX12_X12_both_X12_both : Cond.selects RX12 yX12_both yX12_both ∈ lw_tbl := List.mem_of_getElem? (i := 65) (by decide +kernel)
theorem seX12_X12_test_X12_test : Cond.selects RX12 yX12_test yX12_test ∈ lw_tbl := List.mem_of_getElem? (i := 66) (by decide +kernel)
theorem seX12_X12_sum_X12_sum : Cond.selects RX12 yX12_sum yX12_sum ∈ lw_tbl := List.mem_of_getElem? (i := 67) (by decide +kernel)
theorem seX12_X12_term_X12_term : Cond.selects RX12 yX12_term yX12_term ∈ lw_tbl := List.mem_of_getElem? (i := 68) (by decide +kernel)
theorem seX12_X12_part0_X12_part0 : Cond.selects RX12 yX12_part0 yX12_part0 ∈ lw_tbl := List.mem_of_getElem? (i := 69) (by decide +kernel)
theorem seX12_X12_step_X12_step : Cond.selects RX12 yX12_step yX12_step ∈ lw_tbl := List.mem_of_getElem? (i := 70) (by decide +kernel)
theorem seX12_X12_isSign_X12_isSign : Cond.selects RX12 yX12_isSign yX12_isSign ∈ lw_tbl := List.mem_of_getElem? (i := 71) (by decide +kernel)
theorem seX12_X12_isText_X12_isText : Cond.selects RX12 yX12_isText yX12_isText ∈ lw_tbl := List.mem_of_getElem? (i := 72) (by decide +kernel)
theorem seX12_X12_setAside_X12_setAside : Cond.selects RX12 yX12_setAside yX12_setAside ∈ lw_tbl := List.mem_of_getElem? (i := 73) (by decide +kernel)
theorem seX12_X12_standing_X12_standing : Cond.selects RX12 yX12_standing yX12_standing ∈ lw_tbl := List.mem_of_getElem? (i := 74) (by decide +kernel)
theorem seX12_X12_movedMany_X12_movedMany : Cond.selects RX12 yX12_movedMany yX12_movedMany ∈ lw_tbl := List.mem_of_getElem? (i := 75) (by decide +kernel)
theorem inL : Cond.initialized RL ∈ lw_tbl := List.mem_of_getElem? (i := 76) (by decide +kernel)
theorem inX11 : Cond.initialized RX11 ∈ lw_tbl := List.mem_of_getElem? (i := 77) (by decide +kernel)
theorem inX4 : Cond.initialized RX4 ∈ lw_tbl := List.mem_of_getElem? (i := 78) (by decide +kernel)
theorem inX6 : Cond.initialized RX6 ∈ lw_tbl := List.mem_of_getElem? (i := 79) (by decide +kernel)
theorem inX2 : Cond.initialized RX2 ∈ lw_tbl := List.mem_of_getElem? (i := 80) (by decide +kernel)
theorem inX0 : Cond.initialized RX0 ∈ lw_tbl := List.mem_of_getElem? (i := 81) (by decide +kernel)
theorem inX3 : Cond.initialized RX3 ∈ lw_tbl := List.mem_of_getElem? (i := 82) (by decide +kernel)
theorem inX1 : Cond.initialized RX1 ∈ lw_tbl := List.mem_of_getElem? (i := 83) (by decide +kernel)
theorem inX9 : Cond.initialized RX9 ∈ lw_tbl := List.mem_of_getElem? (i := 84) (by decide +kernel)
theorem inX10 : Cond.initialized RX10 ∈ lw_tbl := List.mem_of_getElem? (i := 85) (by decide +kernel)
theorem inX5 : Cond.initialized RX5 ∈ lw_tbl := List.mem_of_getElem? (i := 86) (by decide +kernel)
theorem inX7 : Cond.initialized RX7 ∈ lw_tbl := List.mem_of_getElem? (i := 87) (by decide +kernel)
theorem inX12 : Cond.initialized RX12 ∈ lw_tbl := List.mem_of_getElem? (i := 88) (by decide +kernel)
theorem inJ9 : Cond.initialized RJ9 ∈ lw_tbl := List.mem_of_getElem? (i := 89) (by decide +kernel)
theorem inX8 : Cond.initialized RX8 ∈ lw_tbl := List.mem_of_getElem? (i := 90) (by decide +kernel)
theorem inJ7 : Cond.initialized RJ7 ∈ lw_tbl := List.mem_of_getElem? (i := 91) (by decide +kernel)
theorem inJ6 : Cond.initialized RJ6 ∈ lw_tbl := List.mem_of_getElem? (i := 92) (by decide +kernel)
theorem inJ0 : Cond.initialized RJ0 ∈ lw_tbl := List.mem_of_getElem? (i := 93) (by decide +kernel)
theorem inJ1 : Cond.initialized RJ1 ∈ lw_tbl := List.mem_of_getElem? (i := 94) (by decide +kernel)
theorem inJ3 : Cond.initialized RJ3 ∈ lw_tbl := List.mem_of_getElem? (i := 95) (by decide +kernel)
theorem inJ10 : Cond.initialized RJ10 ∈ lw_tbl := List.mem_of_getElem? (i := 98) (by decide +kernel)
theorem klL_7 : Cond.classLink RL 7 RX11 ∈ lw_tbl := List.mem_of_getElem? (i := 99) (by decide +kernel)
theorem iaX11 : Cond.instantiable RX11 14 ∈ lw_tbl := List.mem_of_getElem? (i := 100) (by decide +kernel)
theorem lkL_9 : Cond.methodLink RL 9 yX11_init ∈ lw_tbl := List.mem_of_getElem? (i := 101) (by decide +kernel)
theorem lkX11_1 : Cond.methodLink RX11 1 objectInit ∈ lw_tbl := List.mem_of_getElem? (i := 104) (by decide +kernel)
theorem im_obj : Cond.instanceMethod objectInit ∈ lw_tbl := List.mem_of_getElem? (i := 105) (by decide +kernel)
theorem cd_obj : Cond.code objectInit ⟨#[0xb1]⟩ 1 none ∈ lw_tbl := List.mem_of_getElem? (i := 106) (by decide +kernel)
theorem klX11_7 : Cond.classLink RX11 7 RX4 ∈ lw_tbl := List.mem_of_getElem? (i := 107) (by decide +kernel)
theorem iaX4 : Cond.instantiable RX4 0 ∈ lw_tbl := List.mem_of_getElem? (i := 109) (by decide +kernel)
theorem lkX11_9 : Cond.methodLinkNest RX11 9 yX4_init "LadderTown" ∈ lw_tbl := List.mem_of_getElem? (i := 110) (by decide +kernel)
theorem lkX4_1 : Cond.methodLink RX4 1 objectInit ∈ lw_tbl := List.mem_of_getElem? (i := 113) (by decide +kernel)
theorem klX11_10 : Cond.classLink RX11 10 RX6 ∈ lw_tbl := List.mem_of_getElem? (i := 115) (by decide +kernel)
theorem iaX6 : Cond.instantiable RX6 0 ∈ lw_tbl := List.mem_of_getElem? (i := 116) (by decide +kernel)
theorem lkX11_12 : Cond.methodLinkNest RX11 12 yX6_init "LadderTown" ∈ lw_tbl := List.mem_of_getElem? (i := 117) (by decide +kernel)
theorem lkX6_1 : Cond.methodLinkNest RX6 1 yX4_init "LadderTown" ∈ lw_tbl := List.mem_of_getElem? (i := 120) (by decide +kernel)
theorem suX6_X4 : Cond.superclass RX6 RX4 ∈ lw_tbl := List.mem_of_getElem? (i := 121) (by decide +kernel)
theorem klX11_13 : Cond.classLink RX11 13 RX2 ∈ lw_tbl := List.mem_of_getElem? (i := 122) (by decide +kernel)
theorem iaX2 : Cond.instantiable RX2 0 ∈ lw_tbl := List.mem_of_getElem? (i := 123) (by decide +kernel)
theorem lkX11_15 : Cond.methodLinkNest RX11 15 yX2_init "LadderTown" ∈ lw_tbl := List.mem_of_getElem? (i := 124) (by decide +kernel)
theorem lkX2_1 : Cond.methodLinkNest RX2 1 yX4_init "LadderTown" ∈ lw_tbl := List.mem_of_getElem? (i := 127) (by decide +kernel)
theorem suX2_X4 : Cond.superclass RX2 RX4 ∈ lw_tbl := List.mem_of_getElem? (i := 128) (by decide +kernel)
theorem klX11_16 : Cond.classLink RX11 16 RX0 ∈ lw_tbl := List.mem_of_getElem? (i := 129) (by decide +kernel)
theorem iaX0 : Cond.instantiable RX0 0 ∈ lw_tbl := List.mem_of_getElem? (i := 130) (by decide +kernel)
theorem lkX11_18 : Cond.methodLinkNest RX11 18 yX0_init "LadderTown" ∈ lw_tbl := List.mem_of_getElem? (i := 131) (by decide +kernel)
theorem lkX0_1 : Cond.methodLinkNest RX0 1 yX6_init "LadderTown" ∈ lw_tbl := List.mem_of_getElem? (i := 134) (by decide +kernel)
theorem suX0_X6 : Cond.superclass RX0 RX6 ∈ lw_tbl := List.mem_of_getElem? (i := 135) (by decide +kernel)
theorem klX11_19 : Cond.classLink RX11 19 RX3 ∈ lw_tbl := List.mem_of_getElem? (i := 136) (by decide +kernel)
theorem iaX3 : Cond.instantiable RX3 0 ∈ lw_tbl := List.mem_of_getElem? (i := 137) (by decide +kernel)
theorem lkX11_21 : Cond.methodLinkNest RX11 21 yX3_init "LadderTown" ∈ lw_tbl := List.mem_of_getElem? (i := 138) (by decide +kernel)
theorem lkX3_1 : Cond.methodLinkNest RX3 1 yX2_init "LadderTown" ∈ lw_tbl := List.mem_of_getElem? (i := 141) (by decide +kernel)
theorem suX3_X2 : Cond.superclass RX3 RX2 ∈ lw_tbl := List.mem_of_getElem? (i := 142) (by decide +kernel)
theorem klX11_22 : Cond.classLink RX11 22 RX1 ∈ lw_tbl := List.mem_of_getElem? (i := 143) (by decide +kernel)
theorem iaX1 : Cond.instantiable RX1 0 ∈ lw_tbl := List.mem_of_getElem? (i := 144) (by decide +kernel)
theorem lkX11_24 : Cond.methodLinkNest RX11 24 yX1_init "LadderTown" ∈ lw_tbl := List.mem_of_getElem? (i := 145) (by decide +kernel)
theorem lkX1_1 : Cond.methodLinkNest RX1 1 yX4_init "LadderTown" ∈ lw_tbl := List.mem_of_getElem? (i := 148) (by decide +kernel)
theorem suX1_X4 : Cond.superclass RX1 RX4 ∈ lw_tbl := List.mem_of_getElem? (i := 149) (by decide +kernel)
theorem klX11_31 : Cond.classLink RX11 31 RX9 ∈ lw_tbl := List.mem_of_getElem? (i := 150) (by decide +kernel)
theorem iaX9 : Cond.instantiable RX9 20 ∈ lw_tbl := List.mem_of_getElem? (i := 151) (by decide +kernel)
theorem lkX11_33 : Cond.methodLink RX11 33 yX9_init ∈ lw_tbl := List.mem_of_getElem? (i := 152) (by decide +kernel)
theorem lkX9_3 : Cond.methodLink RX9 3 objectInit ∈ lw_tbl := List.mem_of_getElem? (i := 155) (by decide +kernel)
theorem klX9_61 : Cond.classLink RX9 61 RX8 ∈ lw_tbl := List.mem_of_getElem? (i := 156) (by decide +kernel)
theorem fpX9_73 : FP RX9 73 9 0 := ⟨_, rfl, by decide, List.mem_of_getElem? (i := 158) (by decide +kernel)⟩
theorem fwX9_73 : FW RX9 "<init>" 73 9 0 := ⟨_, rfl, by decide, List.mem_of_getElem? (i := 158) (by decide +kernel), Or.inr ⟨rfl, rfl, rfl⟩⟩
theorem fpX9_9 : FP RX9 9 9 1 := ⟨_, rfl, by decide, List.mem_of_getElem? (i := 159) (by decide +kernel)⟩
theorem fwX9_9 {nm : String} : FW RX9 nm 9 9 1 := ⟨_, rfl, by decide, List.mem_of_getElem? (i := 159) (by decide +kernel), Or.inl rfl⟩
theorem fpX11_98 : FP RX11 98 9 1 := ⟨_, rfl, by decide, List.mem_of_getElem? (i := 160) (by decide +kernel)⟩
theorem fwX11_98 {nm : String} : FW RX11 nm 98 9 1 := ⟨_, rfl, by decide, List.mem_of_getElem? (i := 160) (by decide +kernel), Or.inl rfl⟩
theorem fpX10_56 : FP RX10 56 9 1 := ⟨_, rfl, by decide, List.mem_of_getElem? (i := 161) (by decide +kernel)⟩
theorem fwX10_56 {nm : String} : FW RX10 nm 56 9 1 := ⟨_, rfl, by decide, List.mem_of_getElem? (i := 161) (by decide +kernel), Or.inl rfl⟩
theorem fpX9_15 : FP RX9 15 9 2 := ⟨_, rfl, by decide, List.mem_of_getElem? (i := 162) (by decide +kernel)⟩
theorem fwX9_15 : FW RX9 "<init>" 15 9 2 := ⟨_, rfl, by decide, List.mem_of_getElem? (i := 162) (by decide +kernel), Or.inr ⟨rfl, rfl, rfl⟩⟩
theorem fpX11_106 : FP RX11 106 9 2 := ⟨_, rfl, by decide, List.mem_of_getElem? (i := 163) (by decide +kernel)⟩
theorem fpX9_19 : FP RX9 19 9 3 := ⟨_, rfl, by decide, List.mem_of_getElem? (i := 164) (by decide +kernel)⟩
theorem fwX9_19 : FW RX9 "<init>" 19 9 3 := ⟨_, rfl, by decide, List.mem_of_getElem? (i := 164) (by decide +kernel), Or.inr ⟨rfl, rfl, rfl⟩⟩
theorem fpX11_109 : FP RX11 109 9 3 := ⟨_, rfl, by decide, List.mem_of_getElem? (i := 165) (by decide +kernel)⟩
theorem fpX9_22 : FP RX9 22 9 4 := ⟨_, rfl, by decide, List.mem_of_getElem? (i := 166) (by decide +kernel)⟩
theorem fwX9_22 {nm : String} : FW RX9 nm 22 9 4 := ⟨_, rfl, by decide, List.mem_of_getElem? (i := 166) (by decide +kernel), Or.inl rfl⟩
theorem fpX10_25 : FP RX10 25 9 4 := ⟨_, rfl, by decide, List.mem_of_getElem? (i := 167) (by decide +kernel)⟩
theorem fwX10_25 {nm : String} : FW RX10 nm 25 9 4 := ⟨_, rfl, by decide, List.mem_of_getElem? (i := 167) (by decide +kernel), Or.inl rfl⟩
theorem fpX11_139 : FP RX11 139 9 4 := ⟨_, rfl, by decide, List.mem_of_getElem? (i := 168) (by decide +kernel)⟩
theorem fwX11_139 {nm : String} : FW RX11 nm 139 9 4 := ⟨_, rfl, by decide, List.mem_of_getElem? (i := 168) (by decide +kernel), Or.inl rfl⟩
theorem fpX9_25 : FP RX9 25 9 5 := ⟨_, rfl, by decide, List.mem_of_getElem? (i := 169) (by decide +kernel)⟩
theorem fwX9_25 : FW RX9 "<init>" 25 9 5 := ⟨_, rfl, by decide, List.mem_of_getElem? (i := 169) (by decide +kernel), Or.inr ⟨rfl, rfl, rfl⟩⟩
theorem fpX11_146 : FP RX11 146 9 5 := ⟨_, rfl, by decide, List.mem_of_getElem? (i := 170) (by decide +kernel)⟩
theorem fpX9_28 : FP RX9 28 9 6 := ⟨_, rfl, by decide, List.mem_of_getElem? (i := 171) (by decide +kernel)⟩
theorem fwX9_28 : FW RX9 "<init>" 28 9 6 := ⟨_, rfl, by decide, List.mem_of_getElem? (i := 171) (by decide +kernel), Or.inr ⟨rfl, rfl, rfl⟩⟩
theorem fpX11_149 : FP RX11 149 9 6 := ⟨_, rfl, by decide, List.mem_of_getElem? (i := 172) (by decide +kernel)⟩
theorem fpX9_31 : FP RX9 31 9 7 := ⟨_, rfl, by decide, List.mem_of_getElem? (i := 173) (by decide +kernel)⟩
theorem fwX9_31 : FW RX9 "<init>" 31 9 7 := ⟨_, rfl, by decide, List.mem_of_getElem? (i := 173) (by decide +kernel), Or.inr ⟨rfl, rfl, rfl⟩⟩
theorem fpX10_53 : FP RX10 53 9 7 := ⟨_, rfl, by decide, List.mem_of_getElem? (i := 174) (by decide +kernel)⟩
theorem fpX11_152 : FP RX11 152 9 7 := ⟨_, rfl, by decide, List.mem_of_getElem? (i := 175) (by decide +kernel)⟩
theorem fpX9_34 : FP RX9 34 9 8 := ⟨_, rfl, by decide, List.mem_of_getElem? (i := 176) (by decide +kernel)⟩
theorem fwX9_34 : FW RX9 "<init>" 34 9 8 := ⟨_, rfl, by decide, List.mem_of_getElem? (i := 176) (by decide +kernel), Or.inr ⟨rfl, rfl, rfl⟩⟩
theorem fpX10_38 : FP RX10 38 9 8 := ⟨_, rfl, by decide, List.mem_of_getElem? (i := 177) (by decide +kernel)⟩
theorem fpX11_155 : FP RX11 155 9 8 := ⟨_, rfl, by decide, List.mem_of_getElem? (i := 178) (by decide +kernel)⟩
theorem fpX9_37 : FP RX9 37 9 9 := ⟨_, rfl, by decide, List.mem_of_getElem? (i := 179) (by decide +kernel)⟩
theorem fwX9_37 {nm : String} : FW RX9 nm 37 9 9 := ⟨_, rfl, by decide, List.mem_of_getElem? (i := 179) (by decide +kernel), Or.inl rfl⟩
theorem fpX11_167 : FP RX11 167 9 9 := ⟨_, rfl, by decide, List.mem_of_getElem? (i := 180) (by decide +kernel)⟩
theorem fwX11_167 {nm : String} : FW RX11 nm 167 9 9 := ⟨_, rfl, by decide, List.mem_of_getElem? (i := 180) (by decide +kernel), Or.inl rfl⟩
theorem fpX9_40 : FP RX9 40 9 10 := ⟨_, rfl, by decide, List.mem_of_getElem? (i := 181) (by decide +kernel)⟩
theorem fwX9_40 {nm : String} : FW RX9 nm 40 9 10 := ⟨_, rfl, by decide, List.mem_of_getElem? (i := 181) (by decide +kernel), Or.inl rfl⟩
theorem fpX11_186 : FP RX11 186 9 10 := ⟨_, rfl, by decide, List.mem_of_getElem? (i := 182) (by decide +kernel)⟩
theorem fwX11_186 {nm : String} : FW RX11 nm 186 9 10 := ⟨_, rfl, by decide, List.mem_of_getElem? (i := 182) (by decide +kernel), Or.inl rfl⟩
theorem fpX10_92 : FP RX10 92 9 10 := ⟨_, rfl, by decide, List.mem_of_getElem? (i := 183) (by decide +kernel)⟩
theorem fwX10_92 {nm : String} : FW RX10 nm 92 9 10 := ⟨_, rfl, by decide, List.mem_of_getElem? (i := 183) (by decide +kernel), Or.inl rfl⟩
theorem fpX9_43 : FP RX9 43 9 11 := ⟨_, rfl, by decide, List.mem_of_getElem? (i := 184) (by decide +kernel)⟩
theorem fwX9_43 : FW RX9 "<init>" 43 9 11 := ⟨_, rfl, by decide, List.mem_of_getElem? (i := 184) (by decide +kernel), Or.inr ⟨rfl, rfl, rfl⟩⟩
theorem fpX11_192 : FP RX11 192 9 11 := ⟨_, rfl, by decide, List.mem_of_getElem? (i := 185) (by decide +kernel)⟩
theorem fpX10_95 : FP RX10 95 9 11 := ⟨_, rfl, by decide, List.mem_of_getElem? (i := 186) (by decide +kernel)⟩
theorem fpX9_46 : FP RX9 46 9 12 := ⟨_, rfl, by decide, List.mem_of_getElem? (i := 187) (by decide +kernel)⟩
theorem fwX9_46 : FW RX9 "<init>" 46 9 12 := ⟨_, rfl, by decide, List.mem_of_getElem? (i := 187) (by decide +kernel), Or.inr ⟨rfl, rfl, rfl⟩⟩
theorem fpX11_195 : FP RX11 195 9 12 := ⟨_, rfl, by decide, List.mem_of_getElem? (i := 188) (by decide +kernel)⟩
theorem fpX9_49 : FP RX9 49 9 13 := ⟨_, rfl, by decide, List.mem_of_getElem? (i := 189) (by decide +kernel)⟩
theorem fwX9_49 {nm : String} : FW RX9 nm 49 9 13 := ⟨_, rfl, by decide, List.mem_of_getElem? (i := 189) (by decide +kernel), Or.inl rfl⟩
theorem fpX11_350 : FP RX11 350 9 13 := ⟨_, rfl, by decide, List.mem_of_getElem? (i := 190) (by decide +kernel)⟩
theorem fwX11_350 {nm : String} : FW RX11 nm 350 9 13 := ⟨_, rfl, by decide, List.mem_of_getElem? (i := 190) (by decide +kernel), Or.inl rfl⟩
theorem fpX9_52 : FP RX9 52 9 14 := ⟨_, rfl, by decide, List.mem_of_getElem? (i := 191) (by decide +kernel)⟩
theorem fwX9_52 {nm : String} : FW RX9 nm 52 9 14 := ⟨_, rfl, by decide, List.mem_of_getElem? (i := 191) (by decide +kernel), Or.inl rfl⟩
theorem fpX11_205 : FP RX11 205 9 14 := ⟨_, rfl, by decide, List.mem_of_getElem? (i := 192) (by decide +kernel)⟩
theorem fwX11_205 {nm : String} : FW RX11 nm 205 9 14 := ⟨_, rfl, by decide, List.mem_of_getElem? (i := 192) (by decide +kernel), Or.inl rfl⟩
theorem fpX9_55 : FP RX9 55 9 15 := ⟨_, rfl, by decide, List.mem_of_getElem? (i := 193) (by decide +kernel)⟩
theorem fwX9_55 {nm : String} : FW RX9 nm 55 9 15 := ⟨_, rfl, by decide, List.mem_of_getElem? (i := 193) (by decide +kernel), Or.inl rfl⟩
theorem fpX11_132 : FP RX11 132 9 15 := ⟨_, rfl, by decide, List.mem_of_getElem? (i := 194) (by decide +kernel)⟩
theorem fwX11_132 {nm : String} : FW RX11 nm 132 9 15 := ⟨_, rfl, by decide, List.mem_of_getElem? (i := 194) (by decide +kernel), Or.inl rfl⟩
theorem fpX9_58 : FP RX9 58 9 16 := ⟨_, rfl, by decide, List.mem_of_getElem? (i := 195) (by decide +kernel)⟩
theorem fwX9_58 {nm : String} : FW RX9 nm 58 9 16 := ⟨_, rfl, by decide, List.mem_of_getElem? (i := 195) (by decide +kernel), Or.inl rfl⟩
theorem fpX11_272 : FP RX11 272 9 16 := ⟨_, rfl, by decide, List.mem_of_getElem? (i := 196) (by decide +kernel)⟩
theorem fwX11_272 {nm : String} : FW RX11 nm 272 9 16 := ⟨_, rfl, by decide, List.mem_of_getElem? (i := 196) (by decide +kernel), Or.inl rfl⟩
theorem fpX9_63 : FP RX9 63 9 17 := ⟨_, rfl, by decide, List.mem_of_getElem? (i := 197) (by decide +kernel)⟩
theorem fwX9_63 : FW RX9 "<init>" 63 9 17 := ⟨_, rfl, by decide, List.mem_of_getElem? (i := 197) (by decide +kernel), Or.inr ⟨rfl, rfl, rfl⟩⟩
theorem fpX11_279 : FP RX11 279 9 17 := ⟨_, rfl, by decide, List.mem_of_getElem? (i := 198) (by decide +kernel)⟩
theorem fpX9_67 : FP RX9 67 9 18 := ⟨_, rfl, by decide, List.mem_of_getElem? (i := 199) (by decide +kernel)⟩
theorem fwX9_67 : FW RX9 "<init>" 67 9 18 := ⟨_, rfl, by decide, List.mem_of_getElem? (i := 199) (by decide +kernel), Or.inr ⟨rfl, rfl, rfl⟩⟩
theorem fpX11_291 : FP RX11 291 9 18 := ⟨_, rfl, by decide, List.mem_of_getElem? (i := 200) (by decide +kernel)⟩
theorem fpX9_70 : FP RX9 70 9 19 := ⟨_, rfl, by decide, List.mem_of_getElem? (i := 201) (by decide +kernel)⟩
theorem fwX9_70 : FW RX9 "<init>" 70 9 19 := ⟨_, rfl, by decide, List.mem_of_getElem? (i := 201) (by decide +kernel), Or.inr ⟨rfl, rfl, rfl⟩⟩
theorem ac_int : Cond.arrayClass .int ∈ lw_tbl := List.mem_of_getElem? (i := 243) (by decide +kernel)
theorem klX11_50 : Cond.classLink RX11 50 RX10 ∈ lw_tbl := List.mem_of_getElem? (i := 244) (by decide +kernel)
theorem iaX10 : Cond.instantiable RX10 4 ∈ lw_tbl := List.mem_of_getElem? (i := 245) (by decide +kernel)
theorem lkX11_52 : Cond.methodLink RX11 52 yX10_init ∈ lw_tbl := List.mem_of_getElem? (i := 246) (by decide +kernel)
theorem lkX10_3 : Cond.methodLink RX10 3 objectInit ∈ lw_tbl := List.mem_of_getElem? (i := 249) (by decide +kernel)
theorem fpX10_21 : FP RX10 21 10 0 := ⟨_, rfl, by decide, List.mem_of_getElem? (i := 250) (by decide +kernel)⟩
theorem fwX10_21 {nm : String} : FW RX10 nm 21 10 0 := ⟨_, rfl, by decide, List.mem_of_getElem? (i := 250) (by decide +kernel), Or.inl rfl⟩
theorem fpX10_9 : FP RX10 9 10 1 := ⟨_, rfl, by decide, List.mem_of_getElem? (i := 251) (by decide +kernel)⟩
theorem fwX10_9 : FW RX10 "<init>" 9 10 1 := ⟨_, rfl, by decide, List.mem_of_getElem? (i := 251) (by decide +kernel), Or.inr ⟨rfl, rfl, rfl⟩⟩
theorem fpX11_211 : FP RX11 211 10 1 := ⟨_, rfl, by decide, List.mem_of_getElem? (i := 252) (by decide +kernel)⟩
theorem fpX10_15 : FP RX10 15 10 2 := ⟨_, rfl, by decide, List.mem_of_getElem? (i := 253) (by decide +kernel)⟩
theorem fwX10_15 : FW RX10 "<init>" 15 10 2 := ⟨_, rfl, by decide, List.mem_of_getElem? (i := 253) (by decide +kernel), Or.inr ⟨rfl, rfl, rfl⟩⟩
theorem fpX10_18 : FP RX10 18 10 3 := ⟨_, rfl, by decide, List.mem_of_getElem? (i := 254) (by decide +kernel)⟩
theorem fwX10_18 : FW RX10 "<init>" 18 10 3 := ⟨_, rfl, by decide, List.mem_of_getElem? (i := 254) (by decide +kernel), Or.inr ⟨rfl, rfl, rfl⟩⟩
theorem klX11_59 : Cond.classLink RX11 59 RX5 ∈ lw_tbl := List.mem_of_getElem? (i := 264) (by decide +kernel)
theorem iaX5 : Cond.instantiable RX5 14 ∈ lw_tbl := List.mem_of_getElem? (i := 265) (by decide +kernel)
theorem lkX11_61 : Cond.methodLinkNest RX11 61 yX5_init "LadderTown" ∈ lw_tbl := List.mem_of_getElem? (i := 266) (by decide +kernel)
theorem lkX5_3 : Cond.methodLink RX5 3 objectInit ∈ lw_tbl := List.mem_of_getElem? (i := 269) (by decide +kernel)
theorem fpX5_9 : FP RX5 9 5 0 := ⟨_, rfl, by decide, List.mem_of_getElem? (i := 270) (by decide +kernel)⟩
theorem fwX5_9 : FW RX5 "<init>" 9 5 0 := ⟨_, rfl, by decide, List.mem_of_getElem? (i := 270) (by decide +kernel), Or.inr ⟨rfl, rfl, rfl⟩⟩
theorem fpX5_15 : FP RX5 15 5 1 := ⟨_, rfl, by decide, List.mem_of_getElem? (i := 271) (by decide +kernel)⟩
theorem fwX5_15 {nm : String} : FW RX5 nm 15 5 1 := ⟨_, rfl, by decide, List.mem_of_getElem? (i := 271) (by decide +kernel), Or.inl rfl⟩
theorem fpX11_259 : FP RX11 259 5 1 := ⟨_, rfl, by decide, List.mem_of_getElem? (i := 272) (by decide +kernel)⟩
theorem fwX11_259 {nm : String} : FW RX11 nm 259 5 1 := ⟨_, rfl, by decide, List.mem_of_getElem? (i := 272) (by decide +kernel), Or.inl rfl⟩
theorem fpX5_19 : FP RX5 19 5 2 := ⟨_, rfl, by decide, List.mem_of_getElem? (i := 273) (by decide +kernel)⟩
theorem fwX5_19 {nm : String} : FW RX5 nm 19 5 2 := ⟨_, rfl, by decide, List.mem_of_getElem? (i := 273) (by decide +kernel), Or.inl rfl⟩
theorem fpX11_269 : FP RX11 269 5 2 := ⟨_, rfl, by decide, List.mem_of_getElem? (i := 274) (by decide +kernel)⟩
theorem fwX11_269 {nm : String} : FW RX11 nm 269 5 2 := ⟨_, rfl, by decide, List.mem_of_getElem? (i := 274) (by decide +kernel), Or.inl rfl⟩
theorem fpX5_22 : FP RX5 22 5 3 := ⟨_, rfl, by decide, List.mem_of_getElem? (i := 275) (by decide +kernel)⟩
theorem fwX5_22 {nm : String} : FW RX5 nm 22 5 3 := ⟨_, rfl, by decide, List.mem_of_getElem? (i := 275) (by decide +kernel), Or.inl rfl⟩
theorem fpX5_25 : FP RX5 25 5 4 := ⟨_, rfl, by decide, List.mem_of_getElem? (i := 276) (by decide +kernel)⟩
theorem fwX5_25 {nm : String} : FW RX5 nm 25 5 4 := ⟨_, rfl, by decide, List.mem_of_getElem? (i := 276) (by decide +kernel), Or.inl rfl⟩
theorem fpX5_28 : FP RX5 28 5 5 := ⟨_, rfl, by decide, List.mem_of_getElem? (i := 277) (by decide +kernel)⟩
theorem fwX5_28 {nm : String} : FW RX5 nm 28 5 5 := ⟨_, rfl, by decide, List.mem_of_getElem? (i := 277) (by decide +kernel), Or.inl rfl⟩
theorem fpX5_31 : FP RX5 31 5 6 := ⟨_, rfl, by decide, List.mem_of_getElem? (i := 278) (by decide +kernel)⟩
theorem fwX5_31 {nm : String} : FW RX5 nm 31 5 6 := ⟨_, rfl, by decide, List.mem_of_getElem? (i := 278) (by decide +kernel), Or.inl rfl⟩
theorem fpX5_35 : FP RX5 35 5 7 := ⟨_, rfl, by decide, List.mem_of_getElem? (i := 279) (by decide +kernel)⟩
theorem fwX5_35 : FW RX5 "<init>" 35 5 7 := ⟨_, rfl, by decide, List.mem_of_getElem? (i := 279) (by decide +kernel), Or.inr ⟨rfl, rfl, rfl⟩⟩
theorem fpX5_38 : FP RX5 38 5 8 := ⟨_, rfl, by decide, List.mem_of_getElem? (i := 280) (by decide +kernel)⟩
theorem fwX5_38 {nm : String} : FW RX5 nm 38 5 8 := ⟨_, rfl, by decide, List.mem_of_getElem? (i := 280) (by decide +kernel), Or.inl rfl⟩
theorem fpX5_41 : FP RX5 41 5 9 := ⟨_, rfl, by decide, List.mem_of_getElem? (i := 281) (by decide +kernel)⟩
theorem fwX5_41 {nm : String} : FW RX5 nm 41 5 9 := ⟨_, rfl, by decide, List.mem_of_getElem? (i := 281) (by decide +kernel), Or.inl rfl⟩
theorem fpX5_44 : FP RX5 44 5 10 := ⟨_, rfl, by decide, List.mem_of_getElem? (i := 282) (by decide +kernel)⟩
theorem fwX5_44 : FW RX5 "<init>" 44 5 10 := ⟨_, rfl, by decide, List.mem_of_getElem? (i := 282) (by decide +kernel), Or.inr ⟨rfl, rfl, rfl⟩⟩
theorem fpX5_47 : FP RX5 47 5 11 := ⟨_, rfl, by decide, List.mem_of_getElem? (i := 283) (by decide +kernel)⟩
theorem fwX5_47 {nm : String} : FW RX5 nm 47 5 11 := ⟨_, rfl, by decide, List.mem_of_getElem? (i := 283) (by decide +kernel), Or.inl rfl⟩
theorem fpX5_50 : FP RX5 50 5 12 := ⟨_, rfl, by decide, List.mem_of_getElem? (i := 284) (by decide +kernel)⟩
theorem fwX5_50 {nm : String} : FW RX5 nm 50 5 12 := ⟨_, rfl, by decide, List.mem_of_getElem? (i := 284) (by decide +kernel), Or.inl rfl⟩
theorem fpX5_53 : FP RX5 53 5 13 := ⟨_, rfl, by decide, List.mem_of_getElem? (i := 285) (by decide +kernel)⟩
theorem fwX5_53 {nm : String} : FW RX5 nm 53 5 13 := ⟨_, rfl, by decide, List.mem_of_getElem? (i := 285) (by decide +kernel), Or.inl rfl⟩
theorem klX11_66 : Cond.classLink RX11 66 RX7 ∈ lw_tbl := List.mem_of_getElem? (i := 315) (by decide +kernel)
theorem iaX7 : Cond.instantiable RX7 3 ∈ lw_tbl := List.mem_of_getElem? (i := 317) (by decide +kernel)
theorem lkX11_68 : Cond.methodLinkNest RX11 68 yX7_init "LadderTown" ∈ lw_tbl := List.mem_of_getElem? (i := 318) (by decide +kernel)
theorem lkX7_3 : Cond.methodLink RX7 3 objectInit ∈ lw_tbl := List.mem_of_getElem? (i := 321) (by decide +kernel)
theorem fpX7_9 : FP RX7 9 7 0 := ⟨_, rfl, by decide, List.mem_of_getElem? (i := 322) (by decide +kernel)⟩
theorem fwX7_9 {nm : String} : FW RX7 nm 9 7 0 := ⟨_, rfl, by decide, List.mem_of_getElem? (i := 322) (by decide +kernel), Or.inl rfl⟩
theorem fpX11_299 : FP RX11 299 7 0 := ⟨_, rfl, by decide, List.mem_of_getElem? (i := 323) (by decide +kernel)⟩
theorem fwX11_299 {nm : String} : FW RX11 nm 299 7 0 := ⟨_, rfl, by decide, List.mem_of_getElem? (i := 323) (by decide +kernel), Or.inl rfl⟩
theorem fpX7_15 : FP RX7 15 7 1 := ⟨_, rfl, by decide, List.mem_of_getElem? (i := 324) (by decide +kernel)⟩
theorem fwX7_15 {nm : String} : FW RX7 nm 15 7 1 := ⟨_, rfl, by decide, List.mem_of_getElem? (i := 324) (by decide +kernel), Or.inl rfl⟩
theorem fpX10_101 : FP RX10 101 7 1 := ⟨_, rfl, by decide, List.mem_of_getElem? (i := 325) (by decide +kernel)⟩
theorem fwX10_101 {nm : String} : FW RX10 nm 101 7 1 := ⟨_, rfl, by decide, List.mem_of_getElem? (i := 325) (by decide +kernel), Or.inl rfl⟩
theorem fpX11_303 : FP RX11 303 7 1 := ⟨_, rfl, by decide, List.mem_of_getElem? (i := 326) (by decide +kernel)⟩
theorem fwX11_303 {nm : String} : FW RX11 nm 303 7 1 := ⟨_, rfl, by decide, List.mem_of_getElem? (i := 326) (by decide +kernel), Or.inl rfl⟩
theorem fpX7_18 : FP RX7 18 7 2 := ⟨_, rfl, by decide, List.mem_of_getElem? (i := 327) (by decide +kernel)⟩
theorem fwX7_18 : FW RX7 "<init>" 18 7 2 := ⟨_, rfl, by decide, List.mem_of_getElem? (i := 327) (by decide +kernel), Or.inr ⟨rfl, rfl, rfl⟩⟩
theorem fpX10_106 : FP RX10 106 7 2 := ⟨_, rfl, by decide, List.mem_of_getElem? (i := 328) (by decide +kernel)⟩
theorem fpX11_307 : FP RX11 307 7 2 := ⟨_, rfl, by decide, List.mem_of_getElem? (i := 329) (by decide +kernel)⟩
theorem fpX11_25 : FP RX11 25 11 0 := ⟨_, rfl, by decide, List.mem_of_getElem? (i := 337) (by decide +kernel)⟩
theorem fwX11_25 : FW RX11 "<init>" 25 11 0 := ⟨_, rfl, by decide, List.mem_of_getElem? (i := 337) (by decide +kernel), Or.inr ⟨rfl, rfl, rfl⟩⟩
theorem fpX11_36 : FP RX11 36 11 1 := ⟨_, rfl, by decide, List.mem_of_getElem? (i := 338) (by decide +kernel)⟩
theorem fwX11_36 : FW RX11 "<init>" 36 11 1 := ⟨_, rfl, by decide, List.mem_of_getElem? (i := 338) (by decide +kernel), Or.inr ⟨rfl, rfl, rfl⟩⟩
theorem fpX11_40 : FP RX11 40 11 2 := ⟨_, rfl, by decide, List.mem_of_getElem? (i := 339) (by decide +kernel)⟩
theorem fwX11_40 : FW RX11 "<init>" 40 11 2 := ⟨_, rfl, by decide, List.mem_of_getElem? (i := 339) (by decide +kernel), Or.inr ⟨rfl, rfl, rfl⟩⟩
theorem fpX11_43 : FP RX11 43 11 3 := ⟨_, rfl, by decide, List.mem_of_getElem? (i := 340) (by decide +kernel)⟩
theorem fwX11_43 : FW RX11 "<init>" 43 11 3 := ⟨_, rfl, by decide, List.mem_of_getElem? (i := 340) (by decide +kernel), Or.inr ⟨rfl, rfl, rfl⟩⟩
theorem fpX11_46 : FP RX11 46 11 4 := ⟨_, rfl, by decide, List.mem_of_getElem? (i := 341) (by decide +kernel)⟩
theorem fwX11_46 {nm : String} : FW RX11 nm 46 11 4 := ⟨_, rfl, by decide, List.mem_of_getElem? (i := 341) (by decide +kernel), Or.inl rfl⟩
theorem fpX11_55 : FP RX11 55 11 5 := ⟨_, rfl, by decide, List.mem_of_getElem? (i := 342) (by decide +kernel)⟩
theorem fwX11_55 : FW RX11 "<init>" 55 11 5 := ⟨_, rfl, by decide, List.mem_of_getElem? (i := 342) (by decide +kernel), Or.inr ⟨rfl, rfl, rfl⟩⟩
theorem fpX11_62 : FP RX11 62 11 6 := ⟨_, rfl, by decide, List.mem_of_getElem? (i := 343) (by decide +kernel)⟩
theorem fwX11_62 : FW RX11 "<init>" 62 11 6 := ⟨_, rfl, by decide, List.mem_of_getElem? (i := 343) (by decide +kernel), Or.inr ⟨rfl, rfl, rfl⟩⟩
theorem fpX11_69 : FP RX11 69 11 7 := ⟨_, rfl, by decide, List.mem_of_getElem? (i := 344) (by decide +kernel)⟩
theorem fwX11_69 : FW RX11 "<init>" 69 11 7 := ⟨_, rfl, by decide, List.mem_of_getElem? (i := 344) (by decide +kernel), Or.inr ⟨rfl, rfl, rfl⟩⟩
theorem fpX11_73 : FP RX11 73 11 8 := ⟨_, rfl, by decide, List.mem_of_getElem? (i := 345) (by decide +kernel)⟩
theorem fwX11_73 : FW RX11 "<init>" 73 11 8 := ⟨_, rfl, by decide, List.mem_of_getElem? (i := 345) (by decide +kernel), Or.inr ⟨rfl, rfl, rfl⟩⟩
theorem fpX11_77 : FP RX11 77 11 9 := ⟨_, rfl, by decide, List.mem_of_getElem? (i := 346) (by decide +kernel)⟩
theorem fwX11_77 : FW RX11 "<init>" 77 11 9 := ⟨_, rfl, by decide, List.mem_of_getElem? (i := 346) (by decide +kernel), Or.inr ⟨rfl, rfl, rfl⟩⟩
theorem fpX11_80 : FP RX11 80 11 10 := ⟨_, rfl, by decide, List.mem_of_getElem? (i := 347) (by decide +kernel)⟩
theorem fwX11_80 : FW RX11 "<init>" 80 11 10 := ⟨_, rfl, by decide, List.mem_of_getElem? (i := 347) (by decide +kernel), Or.inr ⟨rfl, rfl, rfl⟩⟩
theorem fpX11_83 : FP RX11 83 11 11 := ⟨_, rfl, by decide, List.mem_of_getElem? (i := 348) (by decide +kernel)⟩
theorem fwX11_83 : FW RX11 "<init>" 83 11 11 := ⟨_, rfl, by decide, List.mem_of_getElem? (i := 348) (by decide +kernel), Or.inr ⟨rfl, rfl, rfl⟩⟩
theorem fpX11_86 : FP RX11 86 11 12 := ⟨_, rfl, by decide, List.mem_of_getElem? (i := 349) (by decide +kernel)⟩
theorem fwX11_86 : FW RX11 "<init>" 86 11 12 := ⟨_, rfl, by decide, List.mem_of_getElem? (i := 349) (by decide +kernel), Or.inr ⟨rfl, rfl, rfl⟩⟩
theorem fpX11_89 : FP RX11 89 11 13 := ⟨_, rfl, by decide, List.mem_of_getElem? (i := 350) (by decide +kernel)⟩
theorem fwX11_89 {nm : String} : FW RX11 nm 89 11 13 := ⟨_, rfl, by decide, List.mem_of_getElem? (i := 350) (by decide +kernel), Or.inl rfl⟩
theorem lkL_13 : Cond.methodLink RL 13 yX11_ledge ∈ lw_tbl := List.mem_of_getElem? (i := 380) (by decide +kernel)
theorem seX11_X11_ledge_X11_ledge : Cond.selects RX11 yX11_ledge yX11_ledge ∈ lw_tbl := List.mem_of_getElem? (i := 382) (by decide +kernel)
theorem lkX11_93 : Cond.methodLink RX11 93 yX11_within ∈ lw_tbl := List.mem_of_getElem? (i := 384) (by decide +kernel)
theorem ctX11_97 : Cond.constant RX11 97 (-1000000001) ∈ lw_tbl := List.mem_of_getElem? (i := 387) (by decide +kernel)
theorem ctX11_101 : Cond.constant RX11 101 (-1000000003) ∈ lw_tbl := List.mem_of_getElem? (i := 388) (by decide +kernel)
theorem lkX11_102 : Cond.methodLink RX11 102 yX9_addLedge ∈ lw_tbl := List.mem_of_getElem? (i := 389) (by decide +kernel)
theorem seX9_X9_addLedge_X9_addLedge : Cond.selects RX9 yX9_addLedge yX9_addLedge ∈ lw_tbl := List.mem_of_getElem? (i := 391) (by decide +kernel)
theorem lkL_18 : Cond.methodLink RL 18 yX11_ledgeTold ∈ lw_tbl := List.mem_of_getElem? (i := 393) (by decide +kernel)
theorem seX11_X11_ledgeTold_X11_ledgeTold : Cond.selects RX11 yX11_ledgeTold yX11_ledgeTold ∈ lw_tbl := List.mem_of_getElem? (i := 395) (by decide +kernel)
theorem lkX11_112 : Cond.methodLink RX11 112 yX9_peopleOn ∈ lw_tbl := List.mem_of_getElem? (i := 397) (by decide +kernel)
theorem seX9_X9_peopleOn_X9_peopleOn : Cond.selects RX9 yX9_peopleOn yX9_peopleOn ∈ lw_tbl := List.mem_of_getElem? (i := 399) (by decide +kernel)
theorem lkX11_116 : Cond.methodLink RX11 116 yX9_laddersFrom ∈ lw_tbl := List.mem_of_getElem? (i := 401) (by decide +kernel)
theorem seX9_X9_laddersFrom_X9_laddersFrom : Cond.selects RX9 yX9_laddersFrom yX9_laddersFrom ∈ lw_tbl := List.mem_of_getElem? (i := 403) (by decide +kernel)
theorem lkL_22 : Cond.methodLink RL 22 yX11_change ∈ lw_tbl := List.mem_of_getElem? (i := 405) (by decide +kernel)
theorem seX11_X11_change_X11_change : Cond.selects RX11 yX11_change yX11_change ∈ lw_tbl := List.mem_of_getElem? (i := 407) (by decide +kernel)
theorem lkX11_119 : Cond.methodLink RX11 119 yX11_exchange ∈ lw_tbl := List.mem_of_getElem? (i := 409) (by decide +kernel)
theorem lkL_27 : Cond.methodLink RL 27 yX11_deal ∈ lw_tbl := List.mem_of_getElem? (i := 412) (by decide +kernel)
theorem seX11_X11_deal_X11_deal : Cond.selects RX11 yX11_deal yX11_deal ∈ lw_tbl := List.mem_of_getElem? (i := 414) (by decide +kernel)
theorem lkX11_123 : Cond.methodLink RX11 123 yJ9_min_7cf53 ∈ lw_tbl := List.mem_of_getElem? (i := 416) (by decide +kernel)
theorem lkX11_128 : Cond.methodLink RX11 128 yX9_draw ∈ lw_tbl := List.mem_of_getElem? (i := 419) (by decide +kernel)
theorem seX9_X9_draw_X9_draw : Cond.selects RX9 yX9_draw yX9_draw ∈ lw_tbl := List.mem_of_getElem? (i := 421) (by decide +kernel)
theorem ctX9_96 : Cond.constant RX9 96 (1103515245) ∈ lw_tbl := List.mem_of_getElem? (i := 423) (by decide +kernel)
theorem lkL_32 : Cond.methodLink RL 32 yX11_seed ∈ lw_tbl := List.mem_of_getElem? (i := 424) (by decide +kernel)
theorem seX11_X11_seed_X11_seed : Cond.selects RX11 yX11_seed yX11_seed ∈ lw_tbl := List.mem_of_getElem? (i := 426) (by decide +kernel)
theorem lkL_36 : Cond.methodLink RL 36 yX11_ladder ∈ lw_tbl := List.mem_of_getElem? (i := 428) (by decide +kernel)
theorem seX11_X11_ladder_X11_ladder : Cond.selects RX11 yX11_ladder yX11_ladder ∈ lw_tbl := List.mem_of_getElem? (i := 430) (by decide +kernel)
theorem lkX11_135 : Cond.methodLink RX11 135 yX11_isLength ∈ lw_tbl := List.mem_of_getElem? (i := 432) (by decide +kernel)
theorem lkX11_142 : Cond.methodLink RX11 142 yX9_addLadder ∈ lw_tbl := List.mem_of_getElem? (i := 435) (by decide +kernel)
theorem seX9_X9_addLadder_X9_addLadder : Cond.selects RX9 yX9_addLadder yX9_addLadder ∈ lw_tbl := List.mem_of_getElem? (i := 437) (by decide +kernel)
theorem lkL_41 : Cond.methodLink RL 41 yX11_told ∈ lw_tbl := List.mem_of_getElem? (i := 439) (by decide +kernel)
theorem seX11_X11_told_X11_told : Cond.selects RX11 yX11_told yX11_told ∈ lw_tbl := List.mem_of_getElem? (i := 441) (by decide +kernel)
theorem lkX11_158 : Cond.methodLink RX11 158 yX9_reachOf ∈ lw_tbl := List.mem_of_getElem? (i := 443) (by decide +kernel)
theorem seX9_X9_reachOf_X9_reachOf : Cond.selects RX9 yX9_reachOf yX9_reachOf ∈ lw_tbl := List.mem_of_getElem? (i := 445) (by decide +kernel)
theorem lkX9_116 : Cond.methodLink RX9 116 yX4_reach ∈ lw_tbl := List.mem_of_getElem? (i := 447) (by decide +kernel)
theorem seX4_X4_reach_X4_reach : Cond.selects RX4 yX4_reach yX4_reach ∈ lw_tbl := List.mem_of_getElem? (i := 449) (by decide +kernel)
theorem smX4_X4_reach : Cond.sameMethod RX4 RX4 "reach" "(I)I" ∈ lw_tbl := List.mem_of_getElem? (i := 450) (by decide +kernel)
theorem seX0_X4_reach_X0_reach : Cond.selects RX0 yX4_reach yX0_reach ∈ lw_tbl := List.mem_of_getElem? (i := 451) (by decide +kernel)
theorem lkX0_11 : Cond.methodLink RX0 11 yX6_reach ∈ lw_tbl := List.mem_of_getElem? (i := 454) (by decide +kernel)
theorem lkX6_11 : Cond.methodLink RX6 11 yX4_reach ∈ lw_tbl := List.mem_of_getElem? (i := 457) (by decide +kernel)
theorem seX1_X4_reach_X1_reach : Cond.selects RX1 yX4_reach yX1_reach ∈ lw_tbl := List.mem_of_getElem? (i := 458) (by decide +kernel)
theorem lkX1_11 : Cond.methodLink RX1 11 yX4_reach ∈ lw_tbl := List.mem_of_getElem? (i := 461) (by decide +kernel)
theorem seX2_X4_reach_X4_reach : Cond.selects RX2 yX4_reach yX4_reach ∈ lw_tbl := List.mem_of_getElem? (i := 462) (by decide +kernel)
theorem seX3_X4_reach_X3_reach : Cond.selects RX3 yX4_reach yX3_reach ∈ lw_tbl := List.mem_of_getElem? (i := 463) (by decide +kernel)
theorem lkX3_11 : Cond.methodLink RX3 11 ⟨"LadderTown$HeavyKind", "reach", "(I)I"⟩ ∈ lw_tbl := List.mem_of_getElem? (i := 466) (by decide +kernel)
theorem smX2_X4_reach : Cond.sameMethod RX2 RX4 "reach" "(I)I" ∈ lw_tbl := List.mem_of_getElem? (i := 467) (by decide +kernel)
theorem lkX3_15 : Cond.methodLink RX3 15 yJ9_max_7cf53 ∈ lw_tbl := List.mem_of_getElem? (i := 469) (by decide +kernel)
theorem seX6_X4_reach_X6_reach : Cond.selects RX6 yX4_reach yX6_reach ∈ lw_tbl := List.mem_of_getElem? (i := 472) (by decide +kernel)
theorem lkX11_161 : Cond.methodLink RX11 161 yX9_minutesOf ∈ lw_tbl := List.mem_of_getElem? (i := 474) (by decide +kernel)
theorem seX9_X9_minutesOf_X9_minutesOf : Cond.selects RX9 yX9_minutesOf yX9_minutesOf ∈ lw_tbl := List.mem_of_getElem? (i := 476) (by decide +kernel)
theorem lkX9_113 : Cond.methodLink RX9 113 yJ9_max_7cf53 ∈ lw_tbl := List.mem_of_getElem? (i := 478) (by decide +kernel)
theorem lkX9_121 : Cond.methodLink RX9 121 yX4_minutes ∈ lw_tbl := List.mem_of_getElem? (i := 479) (by decide +kernel)
theorem seX4_X4_minutes_X4_minutes : Cond.selects RX4 yX4_minutes yX4_minutes ∈ lw_tbl := List.mem_of_getElem? (i := 481) (by decide +kernel)
theorem smX4_X4_minutes : Cond.sameMethod RX4 RX4 "minutes" "(I)I" ∈ lw_tbl := List.mem_of_getElem? (i := 482) (by decide +kernel)
theorem seX0_X4_minutes_X0_minutes : Cond.selects RX0 yX4_minutes yX0_minutes ∈ lw_tbl := List.mem_of_getElem? (i := 483) (by decide +kernel)
theorem lkX0_15 : Cond.methodLink RX0 15 yX6_minutes ∈ lw_tbl := List.mem_of_getElem? (i := 486) (by decide +kernel)
theorem lkX6_15 : Cond.methodLink RX6 15 yX4_minutes ∈ lw_tbl := List.mem_of_getElem? (i := 489) (by decide +kernel)
theorem seX1_X4_minutes_X4_minutes : Cond.selects RX1 yX4_minutes yX4_minutes ∈ lw_tbl := List.mem_of_getElem? (i := 490) (by decide +kernel)
theorem seX2_X4_minutes_X2_minutes : Cond.selects RX2 yX4_minutes yX2_minutes ∈ lw_tbl := List.mem_of_getElem? (i := 491) (by decide +kernel)
theorem lkX2_11 : Cond.methodLink RX2 11 yX4_minutes ∈ lw_tbl := List.mem_of_getElem? (i := 494) (by decide +kernel)
theorem seX3_X4_minutes_X2_minutes : Cond.selects RX3 yX4_minutes yX2_minutes ∈ lw_tbl := List.mem_of_getElem? (i := 495) (by decide +kernel)
theorem seX6_X4_minutes_X6_minutes : Cond.selects RX6 yX4_minutes yX6_minutes ∈ lw_tbl := List.mem_of_getElem? (i := 496) (by decide +kernel)
theorem lkX11_164 : Cond.methodLink RX11 164 yX9_standsNow ∈ lw_tbl := List.mem_of_getElem? (i := 498) (by decide +kernel)
theorem seX9_X9_standsNow_X9_standsNow : Cond.selects RX9 yX9_standsNow yX9_standsNow ∈ lw_tbl := List.mem_of_getElem? (i := 500) (by decide +kernel)
theorem lkX9_130 : Cond.methodLink RX9 130 yX9_inReach ∈ lw_tbl := List.mem_of_getElem? (i := 502) (by decide +kernel)
theorem seX9_X9_inReach_X9_inReach : Cond.selects RX9 yX9_inReach yX9_inReach ∈ lw_tbl := List.mem_of_getElem? (i := 504) (by decide +kernel)
theorem lkX9_124 : Cond.methodLink RX9 124 yX9_lengthBetween ∈ lw_tbl := List.mem_of_getElem? (i := 506) (by decide +kernel)
theorem seX9_X9_lengthBetween_X9_lengthBetween : Cond.selects RX9 yX9_lengthBetween yX9_lengthBetween ∈ lw_tbl := List.mem_of_getElem? (i := 508) (by decide +kernel)
theorem lkX9_109 : Cond.methodLink RX9 109 yJ9_abs_0f7a4 ∈ lw_tbl := List.mem_of_getElem? (i := 510) (by decide +kernel)
theorem lkX9_105 : Cond.methodLink RX9 105 yX9_given ∈ lw_tbl := List.mem_of_getElem? (i := 513) (by decide +kernel)
theorem lkX9_97 : Cond.methodLinkNest RX9 97 yX11_within "LadderTown" ∈ lw_tbl := List.mem_of_getElem? (i := 517) (by decide +kernel)
theorem lkX9_101 : Cond.methodLink RX9 101 yX8_gives ∈ lw_tbl := List.mem_of_getElem? (i := 518) (by decide +kernel)
theorem seX8_X8_gives_X8_gives : Cond.selects RX8 yX8_gives yX8_gives ∈ lw_tbl := List.mem_of_getElem? (i := 520) (by decide +kernel)
theorem lkX8_20 : Cond.methodLink RX8 20 yX8_named ∈ lw_tbl := List.mem_of_getElem? (i := 522) (by decide +kernel)
theorem lkX8_24 : Cond.methodLink RX8 24 yX8_joined ∈ lw_tbl := List.mem_of_getElem? (i := 525) (by decide +kernel)
theorem lkX9_81 : Cond.methodLink RX9 81 yJ9_min_7cf53 ∈ lw_tbl := List.mem_of_getElem? (i := 528) (by decide +kernel)
theorem lkX9_127 : Cond.methodLink RX9 127 yX9_reachOf ∈ lw_tbl := List.mem_of_getElem? (i := 529) (by decide +kernel)
theorem lkX11_170 : Cond.methodLink RX11 170 yX11_has ∈ lw_tbl := List.mem_of_getElem? (i := 530) (by decide +kernel)
theorem lkX11_173 : Cond.methodLink RX11 173 yX4_worth ∈ lw_tbl := List.mem_of_getElem? (i := 533) (by decide +kernel)
theorem seX4_X4_worth_X4_worth : Cond.selects RX4 yX4_worth yX4_worth ∈ lw_tbl := List.mem_of_getElem? (i := 535) (by decide +kernel)
theorem smX4_X4_worth : Cond.sameMethod RX4 RX4 "worth" "(I)I" ∈ lw_tbl := List.mem_of_getElem? (i := 536) (by decide +kernel)
theorem seX0_X4_worth_X0_worth : Cond.selects RX0 yX4_worth yX0_worth ∈ lw_tbl := List.mem_of_getElem? (i := 537) (by decide +kernel)
theorem lkX0_18 : Cond.methodLink RX0 18 yX6_worth ∈ lw_tbl := List.mem_of_getElem? (i := 540) (by decide +kernel)
theorem lkX6_18 : Cond.methodLink RX6 18 yX4_worth ∈ lw_tbl := List.mem_of_getElem? (i := 543) (by decide +kernel)
theorem seX1_X4_worth_X1_worth : Cond.selects RX1 yX4_worth yX1_worth ∈ lw_tbl := List.mem_of_getElem? (i := 544) (by decide +kernel)
theorem seX2_X4_worth_X2_worth : Cond.selects RX2 yX4_worth yX2_worth ∈ lw_tbl := List.mem_of_getElem? (i := 547) (by decide +kernel)
theorem lkX2_15 : Cond.methodLink RX2 15 yX4_worth ∈ lw_tbl := List.mem_of_getElem? (i := 550) (by decide +kernel)
theorem seX3_X4_worth_X3_worth : Cond.selects RX3 yX4_worth yX3_worth ∈ lw_tbl := List.mem_of_getElem? (i := 551) (by decide +kernel)
theorem lkX3_21 : Cond.methodLink RX3 21 yX2_worth ∈ lw_tbl := List.mem_of_getElem? (i := 554) (by decide +kernel)
theorem seX6_X4_worth_X6_worth : Cond.selects RX6 yX4_worth yX6_worth ∈ lw_tbl := List.mem_of_getElem? (i := 555) (by decide +kernel)
theorem lkX11_176 : Cond.methodLink RX11 176 yX9_ledgesInReach ∈ lw_tbl := List.mem_of_getElem? (i := 557) (by decide +kernel)
theorem seX9_X9_ledgesInReach_X9_ledgesInReach : Cond.selects RX9 yX9_ledgesInReach yX9_ledgesInReach ∈ lw_tbl := List.mem_of_getElem? (i := 559) (by decide +kernel)
theorem lkL_45 : Cond.methodLink RL 45 yX11_as ∈ lw_tbl := List.mem_of_getElem? (i := 561) (by decide +kernel)
theorem seX11_X11_as_X11_as : Cond.selects RX11 yX11_as yX11_as ∈ lw_tbl := List.mem_of_getElem? (i := 563) (by decide +kernel)
theorem lkX11_179 : Cond.methodLink RX11 179 yX4_isKind ∈ lw_tbl := List.mem_of_getElem? (i := 565) (by decide +kernel)
theorem seX4_X4_isKind_X4_isKind : Cond.selects RX4 yX4_isKind yX4_isKind ∈ lw_tbl := List.mem_of_getElem? (i := 567) (by decide +kernel)
theorem smX4_X4_isKind : Cond.sameMethod RX4 RX4 "isKind" "(I)Z" ∈ lw_tbl := List.mem_of_getElem? (i := 568) (by decide +kernel)
theorem seX0_X4_isKind_X0_isKind : Cond.selects RX0 yX4_isKind yX0_isKind ∈ lw_tbl := List.mem_of_getElem? (i := 569) (by decide +kernel)
theorem lkX0_7 : Cond.methodLink RX0 7 yX6_isKind ∈ lw_tbl := List.mem_of_getElem? (i := 572) (by decide +kernel)
theorem lkX6_7 : Cond.methodLink RX6 7 yX4_isKind ∈ lw_tbl := List.mem_of_getElem? (i := 575) (by decide +kernel)
theorem seX1_X4_isKind_X1_isKind : Cond.selects RX1 yX4_isKind yX1_isKind ∈ lw_tbl := List.mem_of_getElem? (i := 576) (by decide +kernel)
theorem lkX1_7 : Cond.methodLink RX1 7 yX4_isKind ∈ lw_tbl := List.mem_of_getElem? (i := 579) (by decide +kernel)
theorem seX2_X4_isKind_X2_isKind : Cond.selects RX2 yX4_isKind yX2_isKind ∈ lw_tbl := List.mem_of_getElem? (i := 580) (by decide +kernel)
theorem lkX2_7 : Cond.methodLink RX2 7 yX4_isKind ∈ lw_tbl := List.mem_of_getElem? (i := 583) (by decide +kernel)
theorem seX3_X4_isKind_X3_isKind : Cond.selects RX3 yX4_isKind yX3_isKind ∈ lw_tbl := List.mem_of_getElem? (i := 584) (by decide +kernel)
theorem lkX3_7 : Cond.methodLink RX3 7 yX2_isKind ∈ lw_tbl := List.mem_of_getElem? (i := 587) (by decide +kernel)
theorem seX6_X4_isKind_X6_isKind : Cond.selects RX6 yX4_isKind yX6_isKind ∈ lw_tbl := List.mem_of_getElem? (i := 588) (by decide +kernel)
theorem ctX11_182 : Cond.constant RX11 182 (-1000000012) ∈ lw_tbl := List.mem_of_getElem? (i := 590) (by decide +kernel)
theorem lkL_49 : Cond.methodLink RL 49 yX11_turns ∈ lw_tbl := List.mem_of_getElem? (i := 591) (by decide +kernel)
theorem seX11_X11_turns_X11_turns : Cond.selects RX11 yX11_turns yX11_turns ∈ lw_tbl := List.mem_of_getElem? (i := 593) (by decide +kernel)
theorem lkL_53 : Cond.methodLink RL 53 yX11_cut ∈ lw_tbl := List.mem_of_getElem? (i := 595) (by decide +kernel)
theorem seX11_X11_cut_X11_cut : Cond.selects RX11 yX11_cut yX11_cut ∈ lw_tbl := List.mem_of_getElem? (i := 597) (by decide +kernel)
theorem lkL_57 : Cond.methodLink RL 57 yX11_needs ∈ lw_tbl := List.mem_of_getElem? (i := 599) (by decide +kernel)
theorem seX11_X11_needs_X11_needs : Cond.selects RX11 yX11_needs yX11_needs ∈ lw_tbl := List.mem_of_getElem? (i := 601) (by decide +kernel)
theorem lkX11_183 : Cond.methodLink RX11 183 yX9_lengthBetween ∈ lw_tbl := List.mem_of_getElem? (i := 603) (by decide +kernel)
theorem lkL_61 : Cond.methodLink RL 61 yX11_person ∈ lw_tbl := List.mem_of_getElem? (i := 604) (by decide +kernel)
theorem seX11_X11_person_X11_person : Cond.selects RX11 yX11_person yX11_person ∈ lw_tbl := List.mem_of_getElem? (i := 606) (by decide +kernel)
theorem lkX11_189 : Cond.methodLink RX11 189 yX9_addPerson ∈ lw_tbl := List.mem_of_getElem? (i := 608) (by decide +kernel)
theorem seX9_X9_addPerson_X9_addPerson : Cond.selects RX9 yX9_addPerson yX9_addPerson ∈ lw_tbl := List.mem_of_getElem? (i := 610) (by decide +kernel)
theorem lkL_65 : Cond.methodLink RL 65 yX11_personTold ∈ lw_tbl := List.mem_of_getElem? (i := 612) (by decide +kernel)
theorem seX11_X11_personTold_X11_personTold : Cond.selects RX11 yX11_personTold yX11_personTold ∈ lw_tbl := List.mem_of_getElem? (i := 614) (by decide +kernel)
theorem lkL_69 : Cond.methodLink RL 69 yX11_set ∈ lw_tbl := List.mem_of_getElem? (i := 616) (by decide +kernel)
theorem seX11_X11_set_X11_set : Cond.selects RX11 yX11_set yX11_set ∈ lw_tbl := List.mem_of_getElem? (i := 618) (by decide +kernel)
theorem lkL_73 : Cond.methodLink RL 73 yX11_may ∈ lw_tbl := List.mem_of_getElem? (i := 620) (by decide +kernel)
theorem seX11_X11_may_X11_may : Cond.selects RX11 yX11_may yX11_may ∈ lw_tbl := List.mem_of_getElem? (i := 622) (by decide +kernel)
theorem lkX11_198 : Cond.methodLink RX11 198 yX9_canMove ∈ lw_tbl := List.mem_of_getElem? (i := 624) (by decide +kernel)
theorem seX9_X9_canMove_X9_canMove : Cond.selects RX9 yX9_canMove yX9_canMove ∈ lw_tbl := List.mem_of_getElem? (i := 626) (by decide +kernel)
theorem lkX9_140 : Cond.methodLink RX9 140 yX9_canMoveFromFoot ∈ lw_tbl := List.mem_of_getElem? (i := 628) (by decide +kernel)
theorem lkX9_143 : Cond.methodLinkNest RX9 143 yX11_has "LadderTown" ∈ lw_tbl := List.mem_of_getElem? (i := 632) (by decide +kernel)
theorem lkX9_146 : Cond.methodLink RX9 146 yX9_othersOn ∈ lw_tbl := List.mem_of_getElem? (i := 633) (by decide +kernel)
theorem lkX9_137 : Cond.methodLink RX9 137 yX9_peopleOn ∈ lw_tbl := List.mem_of_getElem? (i := 637) (by decide +kernel)
theorem lkX9_149 : Cond.methodLink RX9 149 yX4_letsMove ∈ lw_tbl := List.mem_of_getElem? (i := 638) (by decide +kernel)
theorem seX4_X4_letsMove_X4_letsMove : Cond.selects RX4 yX4_letsMove yX4_letsMove ∈ lw_tbl := List.mem_of_getElem? (i := 640) (by decide +kernel)
theorem smX4_X4_letsMove : Cond.sameMethod RX4 RX4 "letsMove" "(ZZ)Z" ∈ lw_tbl := List.mem_of_getElem? (i := 641) (by decide +kernel)
theorem seX0_X4_letsMove_X6_letsMove : Cond.selects RX0 yX4_letsMove yX6_letsMove ∈ lw_tbl := List.mem_of_getElem? (i := 642) (by decide +kernel)
theorem seX1_X4_letsMove_X1_letsMove : Cond.selects RX1 yX4_letsMove yX1_letsMove ∈ lw_tbl := List.mem_of_getElem? (i := 645) (by decide +kernel)
theorem seX2_X4_letsMove_X2_letsMove : Cond.selects RX2 yX4_letsMove yX2_letsMove ∈ lw_tbl := List.mem_of_getElem? (i := 648) (by decide +kernel)
theorem lkX2_18 : Cond.methodLink RX2 18 yX4_letsMove ∈ lw_tbl := List.mem_of_getElem? (i := 651) (by decide +kernel)
theorem seX3_X4_letsMove_X2_letsMove : Cond.selects RX3 yX4_letsMove yX2_letsMove ∈ lw_tbl := List.mem_of_getElem? (i := 652) (by decide +kernel)
theorem seX6_X4_letsMove_X6_letsMove : Cond.selects RX6 yX4_letsMove yX6_letsMove ∈ lw_tbl := List.mem_of_getElem? (i := 653) (by decide +kernel)
theorem lkL_77 : Cond.methodLink RL 77 yX11_move ∈ lw_tbl := List.mem_of_getElem? (i := 655) (by decide +kernel)
theorem seX11_X11_move_X11_move : Cond.selects RX11 yX11_move yX11_move ∈ lw_tbl := List.mem_of_getElem? (i := 657) (by decide +kernel)
theorem lkX11_201 : Cond.methodLink RX11 201 yX9_inReach ∈ lw_tbl := List.mem_of_getElem? (i := 659) (by decide +kernel)
theorem ctX11_204 : Cond.constant RX11 204 (-1000000002) ∈ lw_tbl := List.mem_of_getElem? (i := 660) (by decide +kernel)
theorem lkL_81 : Cond.methodLink RL 81 yX11_climb ∈ lw_tbl := List.mem_of_getElem? (i := 661) (by decide +kernel)
theorem seX11_X11_climb_X11_climb : Cond.selects RX11 yX11_climb yX11_climb ∈ lw_tbl := List.mem_of_getElem? (i := 663) (by decide +kernel)
theorem lkL_85 : Cond.methodLink RL 85 yX11_thieves ∈ lw_tbl := List.mem_of_getElem? (i := 665) (by decide +kernel)
theorem seX11_X11_thieves_X11_thieves : Cond.selects RX11 yX11_thieves yX11_thieves ∈ lw_tbl := List.mem_of_getElem? (i := 667) (by decide +kernel)
theorem lkL_89 : Cond.methodLink RL 89 yX11_nights ∈ lw_tbl := List.mem_of_getElem? (i := 669) (by decide +kernel)
theorem seX11_X11_nights_X11_nights : Cond.selects RX11 yX11_nights yX11_nights ∈ lw_tbl := List.mem_of_getElem? (i := 671) (by decide +kernel)
theorem lkX11_208 : Cond.methodLink RX11 208 yX10_look ∈ lw_tbl := List.mem_of_getElem? (i := 673) (by decide +kernel)
theorem seX10_X10_look_X10_look : Cond.selects RX10 yX10_look yX10_look ∈ lw_tbl := List.mem_of_getElem? (i := 675) (by decide +kernel)
theorem lkX10_31 : Cond.methodLink RX10 31 yX9_ledgesInReach ∈ lw_tbl := List.mem_of_getElem? (i := 677) (by decide +kernel)
theorem lkX10_35 : Cond.methodLink RX10 35 yX10_leanAsNow ∈ lw_tbl := List.mem_of_getElem? (i := 678) (by decide +kernel)
theorem seX10_X10_leanAsNow_X10_leanAsNow : Cond.selects RX10 yX10_leanAsNow yX10_leanAsNow ∈ lw_tbl := List.mem_of_getElem? (i := 680) (by decide +kernel)
theorem lkX11_214 : Cond.methodLink RX11 214 yX9_night ∈ lw_tbl := List.mem_of_getElem? (i := 682) (by decide +kernel)
theorem seX9_X9_night_X9_night : Cond.selects RX9 yX9_night yX9_night ∈ lw_tbl := List.mem_of_getElem? (i := 684) (by decide +kernel)
theorem lkX9_153 : Cond.methodLink RX9 153 yX9_draw ∈ lw_tbl := List.mem_of_getElem? (i := 686) (by decide +kernel)
theorem lkX9_157 : Cond.methodLink RX9 157 yX9_nextTop ∈ lw_tbl := List.mem_of_getElem? (i := 687) (by decide +kernel)
theorem lkL_93 : Cond.methodLink RL 93 yX11_way ∈ lw_tbl := List.mem_of_getElem? (i := 691) (by decide +kernel)
theorem seX11_X11_way_X11_way : Cond.selects RX11 yX11_way yX11_way ∈ lw_tbl := List.mem_of_getElem? (i := 693) (by decide +kernel)
theorem lkX11_218 : Cond.methodLink RX11 218 yX10_measureFrom ∈ lw_tbl := List.mem_of_getElem? (i := 695) (by decide +kernel)
theorem seX10_X10_measureFrom_X10_measureFrom : Cond.selects RX10 yX10_measureFrom yX10_measureFrom ∈ lw_tbl := List.mem_of_getElem? (i := 697) (by decide +kernel)
theorem ctX10_70 : Cond.constant RX10 70 (1000000) ∈ lw_tbl := List.mem_of_getElem? (i := 699) (by decide +kernel)
theorem lkX10_71 : Cond.methodLink RX10 71 yJ7_fill_53178 ∈ lw_tbl := List.mem_of_getElem? (i := 700) (by decide +kernel)
theorem lkX10_49 : Cond.methodLink RX10 49 yX10_standing ∈ lw_tbl := List.mem_of_getElem? (i := 703) (by decide +kernel)
theorem seX10_X10_standing_X10_standing : Cond.selects RX10 yX10_standing yX10_standing ∈ lw_tbl := List.mem_of_getElem? (i := 705) (by decide +kernel)
theorem lkX10_41 : Cond.methodLinkNest RX10 41 yX11_has "LadderTown" ∈ lw_tbl := List.mem_of_getElem? (i := 707) (by decide +kernel)
theorem lkX10_77 : Cond.methodLink RX10 77 yX9_minutesOf ∈ lw_tbl := List.mem_of_getElem? (i := 708) (by decide +kernel)
theorem lkX10_80 : Cond.methodLink RX10 80 yX10_shorten ∈ lw_tbl := List.mem_of_getElem? (i := 709) (by decide +kernel)
theorem lkX11_222 : Cond.methodLink RX11 222 yX10_measured ∈ lw_tbl := List.mem_of_getElem? (i := 713) (by decide +kernel)
theorem seX10_X10_measured_X10_measured : Cond.selects RX10 yX10_measured yX10_measured ∈ lw_tbl := List.mem_of_getElem? (i := 715) (by decide +kernel)
theorem ctX11_225 : Cond.constant RX11 225 (-1000000005) ∈ lw_tbl := List.mem_of_getElem? (i := 717) (by decide +kernel)
theorem lkX11_226 : Cond.methodLink RX11 226 yX10_minutesTo ∈ lw_tbl := List.mem_of_getElem? (i := 718) (by decide +kernel)
theorem seX10_X10_minutesTo_X10_minutesTo : Cond.selects RX10 yX10_minutesTo yX10_minutesTo ∈ lw_tbl := List.mem_of_getElem? (i := 720) (by decide +kernel)
theorem lkX10_84 : Cond.methodLink RX10 84 yX10_measured ∈ lw_tbl := List.mem_of_getElem? (i := 722) (by decide +kernel)
theorem lkX11_229 : Cond.methodLink RX11 229 yX10_laddersTo ∈ lw_tbl := List.mem_of_getElem? (i := 723) (by decide +kernel)
theorem seX10_X10_laddersTo_X10_laddersTo : Cond.selects RX10 yX10_laddersTo yX10_laddersTo ∈ lw_tbl := List.mem_of_getElem? (i := 725) (by decide +kernel)
theorem lkX11_232 : Cond.methodLink RX11 232 yX9_tollOf ∈ lw_tbl := List.mem_of_getElem? (i := 727) (by decide +kernel)
theorem seX9_X9_tollOf_X9_tollOf : Cond.selects RX9 yX9_tollOf yX9_tollOf ∈ lw_tbl := List.mem_of_getElem? (i := 729) (by decide +kernel)
theorem lkL_97 : Cond.methodLink RL 97 yX11_reached ∈ lw_tbl := List.mem_of_getElem? (i := 731) (by decide +kernel)
theorem seX11_X11_reached_X11_reached : Cond.selects RX11 yX11_reached yX11_reached ∈ lw_tbl := List.mem_of_getElem? (i := 733) (by decide +kernel)
theorem lkX11_235 : Cond.methodLink RX11 235 yX10_reachedFrom ∈ lw_tbl := List.mem_of_getElem? (i := 735) (by decide +kernel)
theorem seX10_X10_reachedFrom_X10_reachedFrom : Cond.selects RX10 yX10_reachedFrom yX10_reachedFrom ∈ lw_tbl := List.mem_of_getElem? (i := 737) (by decide +kernel)
theorem lkX10_45 : Cond.methodLink RX10 45 yX10_reachedBy ∈ lw_tbl := List.mem_of_getElem? (i := 739) (by decide +kernel)
theorem lkL_101 : Cond.methodLink RL 101 yX11_needed ∈ lw_tbl := List.mem_of_getElem? (i := 743) (by decide +kernel)
theorem seX11_X11_needed_X11_needed : Cond.selects RX11 yX11_needed yX11_needed ∈ lw_tbl := List.mem_of_getElem? (i := 745) (by decide +kernel)
theorem lkX11_238 : Cond.methodLink RX11 238 yX10_reachedWithout ∈ lw_tbl := List.mem_of_getElem? (i := 747) (by decide +kernel)
theorem seX10_X10_reachedWithout_X10_reachedWithout : Cond.selects RX10 yX10_reachedWithout yX10_reachedWithout ∈ lw_tbl := List.mem_of_getElem? (i := 749) (by decide +kernel)
theorem lkL_105 : Cond.methodLink RL 105 yX11_meeting ∈ lw_tbl := List.mem_of_getElem? (i := 751) (by decide +kernel)
theorem seX11_X11_meeting_X11_meeting : Cond.selects RX11 yX11_meeting yX11_meeting ∈ lw_tbl := List.mem_of_getElem? (i := 753) (by decide +kernel)
theorem lkX11_241 : Cond.methodLink RX11 241 yX10_minutesOfAllTo ∈ lw_tbl := List.mem_of_getElem? (i := 755) (by decide +kernel)
theorem seX10_X10_minutesOfAllTo_X10_minutesOfAllTo : Cond.selects RX10 yX10_minutesOfAllTo yX10_minutesOfAllTo ∈ lw_tbl := List.mem_of_getElem? (i := 757) (by decide +kernel)
theorem lkX10_88 : Cond.methodLink RX10 88 yX10_measureFrom ∈ lw_tbl := List.mem_of_getElem? (i := 759) (by decide +kernel)
theorem lkX10_98 : Cond.methodLink RX10 98 yX10_minutesTo ∈ lw_tbl := List.mem_of_getElem? (i := 760) (by decide +kernel)
theorem lkL_110 : Cond.methodLink RL 110 yX11_above ∈ lw_tbl := List.mem_of_getElem? (i := 761) (by decide +kernel)
theorem seX11_X11_above_X11_above : Cond.selects RX11 yX11_above yX11_above ∈ lw_tbl := List.mem_of_getElem? (i := 763) (by decide +kernel)
theorem lkL_114 : Cond.methodLink RL 114 yX11_fewest ∈ lw_tbl := List.mem_of_getElem? (i := 765) (by decide +kernel)
theorem seX11_X11_fewest_X11_fewest : Cond.selects RX11 yX11_fewest yX11_fewest ∈ lw_tbl := List.mem_of_getElem? (i := 767) (by decide +kernel)
theorem lkX11_244 : Cond.methodLink RX11 244 yX9_movableFromFoot ∈ lw_tbl := List.mem_of_getElem? (i := 769) (by decide +kernel)
theorem seX9_X9_movableFromFoot_X9_movableFromFoot : Cond.selects RX9 yX9_movableFromFoot yX9_movableFromFoot ∈ lw_tbl := List.mem_of_getElem? (i := 771) (by decide +kernel)
theorem lkX11_247 : Cond.methodLink RX11 247 yX10_fewestMoves ∈ lw_tbl := List.mem_of_getElem? (i := 773) (by decide +kernel)
theorem seX10_X10_fewestMoves_X10_fewestMoves : Cond.selects RX10 yX10_fewestMoves yX10_fewestMoves ∈ lw_tbl := List.mem_of_getElem? (i := 775) (by decide +kernel)
theorem lkX10_115 : Cond.methodLink RX10 115 yX10_arrives ∈ lw_tbl := List.mem_of_getElem? (i := 777) (by decide +kernel)
theorem lkX10_59 : Cond.methodLink RX10 59 yX10_reachedFrom ∈ lw_tbl := List.mem_of_getElem? (i := 781) (by decide +kernel)
theorem lkX10_119 : Cond.methodLink RX10 119 yX10_lastMoveArrives ∈ lw_tbl := List.mem_of_getElem? (i := 782) (by decide +kernel)
theorem lkX10_122 : Cond.methodLink RX10 122 yX10_moveArrives ∈ lw_tbl := List.mem_of_getElem? (i := 786) (by decide +kernel)
theorem ctX10_109 : Cond.constant RX10 109 (-1000000005) ∈ lw_tbl := List.mem_of_getElem? (i := 790) (by decide +kernel)
theorem lkL_118 : Cond.methodLink RL 118 yX11_help ∈ lw_tbl := List.mem_of_getElem? (i := 791) (by decide +kernel)
theorem seX11_X11_help_X11_help : Cond.selects RX11 yX11_help yX11_help ∈ lw_tbl := List.mem_of_getElem? (i := 793) (by decide +kernel)
theorem lkX11_251 : Cond.methodLink RX11 251 yJ6_bitCount_0f7a4 ∈ lw_tbl := List.mem_of_getElem? (i := 795) (by decide +kernel)
theorem ctJ6_265 : Cond.constant RJ6 265 (1431655765) ∈ lw_tbl := List.mem_of_getElem? (i := 798) (by decide +kernel)
theorem ctJ6_266 : Cond.constant RJ6 266 (858993459) ∈ lw_tbl := List.mem_of_getElem? (i := 799) (by decide +kernel)
theorem ctJ6_267 : Cond.constant RJ6 267 (252645135) ∈ lw_tbl := List.mem_of_getElem? (i := 800) (by decide +kernel)
theorem lkX11_256 : Cond.methodLink RX11 256 yX10_reachedIfMoved ∈ lw_tbl := List.mem_of_getElem? (i := 801) (by decide +kernel)
theorem seX10_X10_reachedIfMoved_X10_reachedIfMoved : Cond.selects RX10 yX10_reachedIfMoved yX10_reachedIfMoved ∈ lw_tbl := List.mem_of_getElem? (i := 803) (by decide +kernel)
theorem lkX10_67 : Cond.methodLink RX10 67 yX10_groundCount ∈ lw_tbl := List.mem_of_getElem? (i := 805) (by decide +kernel)
theorem seX10_X10_groundCount_X10_groundCount : Cond.selects RX10 yX10_groundCount yX10_groundCount ∈ lw_tbl := List.mem_of_getElem? (i := 807) (by decide +kernel)
theorem lkX10_62 : Cond.methodLink RX10 62 yJ6_bitCount_0f7a4 ∈ lw_tbl := List.mem_of_getElem? (i := 809) (by decide +kernel)
theorem lkL_122 : Cond.methodLink RL 122 yX11_feed ∈ lw_tbl := List.mem_of_getElem? (i := 810) (by decide +kernel)
theorem seX11_X11_feed_X11_feed : Cond.selects RX11 yX11_feed yX11_feed ∈ lw_tbl := List.mem_of_getElem? (i := 812) (by decide +kernel)
theorem lkX11_262 : Cond.methodLink RX11 262 yX5_take ∈ lw_tbl := List.mem_of_getElem? (i := 814) (by decide +kernel)
theorem seX5_X5_take_X5_take : Cond.selects RX5 yX5_take yX5_take ∈ lw_tbl := List.mem_of_getElem? (i := 816) (by decide +kernel)
theorem lkL_126 : Cond.methodLink RL 126 yX11_trim ∈ lw_tbl := List.mem_of_getElem? (i := 818) (by decide +kernel)
theorem seX11_X11_trim_X11_trim : Cond.selects RX11 yX11_trim yX11_trim ∈ lw_tbl := List.mem_of_getElem? (i := 820) (by decide +kernel)
theorem lkL_130 : Cond.methodLink RL 130 yX11_text ∈ lw_tbl := List.mem_of_getElem? (i := 822) (by decide +kernel)
theorem seX11_X11_text_X11_text : Cond.selects RX11 yX11_text yX11_text ∈ lw_tbl := List.mem_of_getElem? (i := 824) (by decide +kernel)
theorem lkX11_265 : Cond.methodLink RX11 265 yX5_readText ∈ lw_tbl := List.mem_of_getElem? (i := 826) (by decide +kernel)
theorem seX5_X5_readText_X5_readText : Cond.selects RX5 yX5_readText yX5_readText ∈ lw_tbl := List.mem_of_getElem? (i := 828) (by decide +kernel)
theorem lkX5_56 : Cond.methodLink RX5 56 yX5_readKey ∈ lw_tbl := List.mem_of_getElem? (i := 830) (by decide +kernel)
theorem lkX5_103 : Cond.methodLink RX5 103 yX5_skipBlanks ∈ lw_tbl := List.mem_of_getElem? (i := 834) (by decide +kernel)
theorem lkX5_106 : Cond.methodLink RX5 106 yX5_wordEnd ∈ lw_tbl := List.mem_of_getElem? (i := 838) (by decide +kernel)
theorem lkX5_74 : Cond.methodLink RX5 74 yX5_isLetter ∈ lw_tbl := List.mem_of_getElem? (i := 842) (by decide +kernel)
theorem lkX5_78 : Cond.methodLink RX5 78 yX5_isDigit ∈ lw_tbl := List.mem_of_getElem? (i := 845) (by decide +kernel)
theorem lkX5_109 : Cond.methodLink RX5 109 yX5_keyWord ∈ lw_tbl := List.mem_of_getElem? (i := 848) (by decide +kernel)
theorem lkX5_113 : Cond.methodLink RX5 113 yX5_isWord ∈ lw_tbl := List.mem_of_getElem? (i := 854) (by decide +kernel)
theorem lkX5_93 : Cond.methodLink RX5 93 yJ0_length_8abf5 ∈ lw_tbl := List.mem_of_getElem? (i := 858) (by decide +kernel)
theorem seJ0_J0_length_8abf5_J0_length_8abf5 : Cond.selects RJ0 yJ0_length_8abf5 yJ0_length_8abf5 ∈ lw_tbl := List.mem_of_getElem? (i := 860) (by decide +kernel)
theorem lkJ0_335 : Cond.methodLink RJ0 335 yJ0_coder_7d493 ∈ lw_tbl := List.mem_of_getElem? (i := 862) (by decide +kernel)
theorem seJ0_J0_coder_7d493_J0_coder_7d493 : Cond.selects RJ0 yJ0_coder_7d493 yJ0_coder_7d493 ∈ lw_tbl := List.mem_of_getElem? (i := 864) (by decide +kernel)
theorem jfJ0_38 : Cond.fieldLink RJ0 38 "java/lang/String" "COMPACT_STRINGS" "Z" ∈ lw_tbl := List.mem_of_getElem? (i := 866) (by decide +kernel)
theorem lkX5_99 : Cond.methodLink RX5 99 yJ0_charAt_5068e ∈ lw_tbl := List.mem_of_getElem? (i := 868) (by decide +kernel)
theorem seJ0_J0_charAt_5068e_J0_charAt_5068e : Cond.selects RJ0 yJ0_charAt_5068e yJ0_charAt_5068e ∈ lw_tbl := List.mem_of_getElem? (i := 870) (by decide +kernel)
theorem lkJ0_492 : Cond.methodLink RJ0 492 yJ0_isLatin1_aae02 ∈ lw_tbl := List.mem_of_getElem? (i := 872) (by decide +kernel)
theorem seJ0_J0_isLatin1_aae02_J0_isLatin1_aae02 : Cond.selects RJ0 yJ0_isLatin1_aae02 yJ0_isLatin1_aae02 ∈ lw_tbl := List.mem_of_getElem? (i := 874) (by decide +kernel)
theorem lkJ0_495 : Cond.methodLink RJ0 495 yJ1_charAt_3b067 ∈ lw_tbl := List.mem_of_getElem? (i := 876) (by decide +kernel)
theorem lkJ1_9 : Cond.methodLink RJ1 9 yJ0_checkIndex_df160 ∈ lw_tbl := List.mem_of_getElem? (i := 879) (by decide +kernel)
theorem jfJ0_1053 : Cond.fieldLink RJ0 1053 "jdk/internal/util/Preconditions" "SIOOBE_FORMATTER" "Ljava/util/function/BiFunction;" ∈ lw_tbl := List.mem_of_getElem? (i := 882) (by decide +kernel)
theorem lkJ0_1059 : Cond.methodLink RJ0 1059 yJ3_checkIndex_8e157 ∈ lw_tbl := List.mem_of_getElem? (i := 884) (by decide +kernel)
theorem lkJ0_498 : Cond.methodLink RJ0 498 ⟨"java/lang/StringUTF16", "charAt", "([BI)C"⟩ ∈ lw_tbl := List.mem_of_getElem? (i := 887) (by decide +kernel)
theorem lkX5_60 : Cond.methodLink RX5 60 yX5_readLaw ∈ lw_tbl := List.mem_of_getElem? (i := 906) (by decide +kernel)
theorem lkX5_117 : Cond.methodLink RX5 117 yX5_readTowardsOperand ∈ lw_tbl := List.mem_of_getElem? (i := 910) (by decide +kernel)
theorem lkX5_127 : Cond.methodLink RX5 127 yX5_readNumber ∈ lw_tbl := List.mem_of_getElem? (i := 914) (by decide +kernel)
theorem lkX5_136 : Cond.methodLink RX5 136 yX5_putOperand ∈ lw_tbl := List.mem_of_getElem? (i := 918) (by decide +kernel)
theorem lkX5_146 : Cond.methodLink RX5 146 yX5_putOut ∈ lw_tbl := List.mem_of_getElem? (i := 922) (by decide +kernel)
theorem lkX5_149 : Cond.methodLink RX5 149 yX5_closePiece ∈ lw_tbl := List.mem_of_getElem? (i := 926) (by decide +kernel)
theorem lkX5_152 : Cond.methodLink RX5 152 yX5_topSign ∈ lw_tbl := List.mem_of_getElem? (i := 930) (by decide +kernel)
theorem lkX5_130 : Cond.methodLink RX5 130 yX5_readName ∈ lw_tbl := List.mem_of_getElem? (i := 934) (by decide +kernel)
theorem lkX5_139 : Cond.methodLink RX5 139 yX5_namesOf ∈ lw_tbl := List.mem_of_getElem? (i := 938) (by decide +kernel)
theorem lkX5_142 : Cond.methodLink RX5 142 yJ0_indexOf_0f7a4 ∈ lw_tbl := List.mem_of_getElem? (i := 944) (by decide +kernel)
theorem seJ0_J0_indexOf_0f7a4_J0_indexOf_0f7a4 : Cond.selects RJ0 yJ0_indexOf_0f7a4 yJ0_indexOf_0f7a4 ∈ lw_tbl := List.mem_of_getElem? (i := 946) (by decide +kernel)
theorem lkJ0_633 : Cond.methodLink RJ0 633 yJ0_indexOf_7cf53 ∈ lw_tbl := List.mem_of_getElem? (i := 948) (by decide +kernel)
theorem seJ0_J0_indexOf_7cf53_J0_indexOf_7cf53 : Cond.selects RJ0 yJ0_indexOf_7cf53 yJ0_indexOf_7cf53 ∈ lw_tbl := List.mem_of_getElem? (i := 950) (by decide +kernel)
theorem lkJ0_505 : Cond.methodLink RJ0 505 yJ0_length_8abf5 ∈ lw_tbl := List.mem_of_getElem? (i := 952) (by decide +kernel)
theorem lkJ0_637 : Cond.methodLink RJ0 637 yJ1_indexOf_4cfef ∈ lw_tbl := List.mem_of_getElem? (i := 953) (by decide +kernel)
theorem lkJ1_88 : Cond.methodLink RJ1 88 yJ1_canEncode_9a6ad ∈ lw_tbl := List.mem_of_getElem? (i := 956) (by decide +kernel)
theorem lkJ1_92 : Cond.methodLink RJ1 92 yJ9_max_7cf53 ∈ lw_tbl := List.mem_of_getElem? (i := 959) (by decide +kernel)
theorem lkJ1_38 : Cond.methodLink RJ1 38 yJ9_min_7cf53 ∈ lw_tbl := List.mem_of_getElem? (i := 960) (by decide +kernel)
theorem lkJ1_95 : Cond.methodLink RJ1 95 yJ1_indexOfChar_4cfef ∈ lw_tbl := List.mem_of_getElem? (i := 961) (by decide +kernel)
theorem lkJ0_640 : Cond.methodLink RJ0 640 ⟨"java/lang/StringUTF16", "indexOf", "([BIII)I"⟩ ∈ lw_tbl := List.mem_of_getElem? (i := 964) (by decide +kernel)
theorem lkJ0_1062 : Cond.methodLink RJ0 1062 yJ3_checkFromToIndex_8c36e ∈ lw_tbl := List.mem_of_getElem? (i := 979) (by decide +kernel)
theorem lkX5_133 : Cond.methodLink RX5 133 yX5_pushSign ∈ lw_tbl := List.mem_of_getElem? (i := 999) (by decide +kernel)
theorem lkX5_120 : Cond.methodLink RX5 120 yX5_readBehindOperand ∈ lw_tbl := List.mem_of_getElem? (i := 1003) (by decide +kernel)
theorem lkX5_155 : Cond.methodLink RX5 155 yX5_readClosing ∈ lw_tbl := List.mem_of_getElem? (i := 1007) (by decide +kernel)
theorem lkX5_123 : Cond.methodLink RX5 123 yX5_putOutSigns ∈ lw_tbl := List.mem_of_getElem? (i := 1011) (by decide +kernel)
theorem lkX5_158 : Cond.methodLink RX5 158 yX5_rankOf ∈ lw_tbl := List.mem_of_getElem? (i := 1015) (by decide +kernel)
theorem klX5_63 : Cond.classLink RX5 63 RX8 ∈ lw_tbl := List.mem_of_getElem? (i := 1018) (by decide +kernel)
theorem iaX8 : Cond.instantiable RX8 3 ∈ lw_tbl := List.mem_of_getElem? (i := 1019) (by decide +kernel)
theorem lkX5_65 : Cond.methodLink RX5 65 yJ7_copyOf_59c91 ∈ lw_tbl := List.mem_of_getElem? (i := 1020) (by decide +kernel)
theorem lkJ7_316 : Cond.methodLink RJ7 316 ⟨"[I", "clone", "()Ljava/lang/Object;"⟩ ∈ lw_tbl := List.mem_of_getElem? (i := 1023) (by decide +kernel)
theorem lkJ7_304 : Cond.methodLink RJ7 304 yJ9_min_7cf53 ∈ lw_tbl := List.mem_of_getElem? (i := 1030) (by decide +kernel)
theorem lkJ7_150 : Cond.methodLink RJ7 150 arraycopyName ∈ lw_tbl := List.mem_of_getElem? (i := 1031) (by decide +kernel)
theorem st_copy : Cond.static arraycopyName ∈ lw_tbl := List.mem_of_getElem? (i := 1032) (by decide +kernel)
theorem nt_copy : Cond.native arraycopyName ∈ lw_tbl := List.mem_of_getElem? (i := 1033) (by decide +kernel)
theorem lkX5_71 : Cond.methodLink RX5 71 yX8_init ∈ lw_tbl := List.mem_of_getElem? (i := 1034) (by decide +kernel)
theorem lkX8_1 : Cond.methodLink RX8 1 objectInit ∈ lw_tbl := List.mem_of_getElem? (i := 1037) (by decide +kernel)
theorem fpX8_7 : FP RX8 7 8 0 := ⟨_, rfl, by decide, List.mem_of_getElem? (i := 1038) (by decide +kernel)⟩
theorem fwX8_7 : FW RX8 "<init>" 7 8 0 := ⟨_, rfl, by decide, List.mem_of_getElem? (i := 1038) (by decide +kernel), Or.inr ⟨rfl, rfl, rfl⟩⟩
theorem fpX9_93 : FP RX9 93 8 0 := ⟨_, rfl, by decide, List.mem_of_getElem? (i := 1039) (by decide +kernel)⟩
theorem fpX11_283 : FP RX11 283 8 0 := ⟨_, rfl, by decide, List.mem_of_getElem? (i := 1040) (by decide +kernel)⟩
theorem fpX8_13 : FP RX8 13 8 1 := ⟨_, rfl, by decide, List.mem_of_getElem? (i := 1041) (by decide +kernel)⟩
theorem fwX8_13 : FW RX8 "<init>" 13 8 1 := ⟨_, rfl, by decide, List.mem_of_getElem? (i := 1041) (by decide +kernel), Or.inr ⟨rfl, rfl, rfl⟩⟩
theorem fpX11_288 : FP RX11 288 8 1 := ⟨_, rfl, by decide, List.mem_of_getElem? (i := 1042) (by decide +kernel)⟩
theorem fpX8_16 : FP RX8 16 8 2 := ⟨_, rfl, by decide, List.mem_of_getElem? (i := 1043) (by decide +kernel)⟩
theorem fwX8_16 : FW RX8 "<init>" 16 8 2 := ⟨_, rfl, by decide, List.mem_of_getElem? (i := 1043) (by decide +kernel), Or.inr ⟨rfl, rfl, rfl⟩⟩
theorem lkX11_275 : Cond.methodLink RX11 275 yX9_addText ∈ lw_tbl := List.mem_of_getElem? (i := 1052) (by decide +kernel)
theorem seX9_X9_addText_X9_addText : Cond.selects RX9 yX9_addText yX9_addText ∈ lw_tbl := List.mem_of_getElem? (i := 1054) (by decide +kernel)
theorem lkL_134 : Cond.methodLink RL 134 yX11_textTold ∈ lw_tbl := List.mem_of_getElem? (i := 1056) (by decide +kernel)
theorem seX11_X11_textTold_X11_textTold : Cond.selects RX11 yX11_textTold yX11_textTold ∈ lw_tbl := List.mem_of_getElem? (i := 1058) (by decide +kernel)
theorem lkL_138 : Cond.methodLink RL 138 yX11_why ∈ lw_tbl := List.mem_of_getElem? (i := 1060) (by decide +kernel)
theorem seX11_X11_why_X11_why : Cond.selects RX11 yX11_why yX11_why ∈ lw_tbl := List.mem_of_getElem? (i := 1062) (by decide +kernel)
theorem lkL_142 : Cond.methodLink RL 142 yX11_sheet ∈ lw_tbl := List.mem_of_getElem? (i := 1064) (by decide +kernel)
theorem seX11_X11_sheet_X11_sheet : Cond.selects RX11 yX11_sheet yX11_sheet ∈ lw_tbl := List.mem_of_getElem? (i := 1066) (by decide +kernel)
theorem ctX11_294 : Cond.constant RX11 294 (-1000000014) ∈ lw_tbl := List.mem_of_getElem? (i := 1068) (by decide +kernel)
theorem lkX11_295 : Cond.methodLink RX11 295 yX7_become ∈ lw_tbl := List.mem_of_getElem? (i := 1069) (by decide +kernel)
theorem seX7_X7_become_X7_become : Cond.selects RX7 yX7_become yX7_become ∈ lw_tbl := List.mem_of_getElem? (i := 1071) (by decide +kernel)
theorem lkX7_22 : Cond.methodLink RX7 22 yJ7_fill_53178 ∈ lw_tbl := List.mem_of_getElem? (i := 1073) (by decide +kernel)
theorem lkL_146 : Cond.methodLink RL 146 yX11_mark ∈ lw_tbl := List.mem_of_getElem? (i := 1074) (by decide +kernel)
theorem seX11_X11_mark_X11_mark : Cond.selects RX11 yX11_mark yX11_mark ∈ lw_tbl := List.mem_of_getElem? (i := 1076) (by decide +kernel)
theorem ctX11_302 : Cond.constant RX11 302 (-1000000011) ∈ lw_tbl := List.mem_of_getElem? (i := 1078) (by decide +kernel)
theorem ctX11_306 : Cond.constant RX11 306 (-1000000013) ∈ lw_tbl := List.mem_of_getElem? (i := 1079) (by decide +kernel)
theorem ctX11_310 : Cond.constant RX11 310 (-99999) ∈ lw_tbl := List.mem_of_getElem? (i := 1080) (by decide +kernel)
theorem ctX11_311 : Cond.constant RX11 311 (99999) ∈ lw_tbl := List.mem_of_getElem? (i := 1081) (by decide +kernel)
theorem lkL_150 : Cond.methodLink RL 150 yX11_pour ∈ lw_tbl := List.mem_of_getElem? (i := 1082) (by decide +kernel)
theorem seX11_X11_pour_X11_pour : Cond.selects RX11 yX11_pour yX11_pour ∈ lw_tbl := List.mem_of_getElem? (i := 1084) (by decide +kernel)
theorem lkX11_312 : Cond.methodLink RX11 312 yJ9_max_7cf53 ∈ lw_tbl := List.mem_of_getElem? (i := 1086) (by decide +kernel)
theorem lkL_154 : Cond.methodLink RL 154 yX11_nearest ∈ lw_tbl := List.mem_of_getElem? (i := 1087) (by decide +kernel)
theorem seX11_X11_nearest_X11_nearest : Cond.selects RX11 yX11_nearest yX11_nearest ∈ lw_tbl := List.mem_of_getElem? (i := 1089) (by decide +kernel)
theorem lkX11_315 : Cond.methodLink RX11 315 yX10_differenceFrom ∈ lw_tbl := List.mem_of_getElem? (i := 1091) (by decide +kernel)
theorem seX10_X10_differenceFrom_X10_differenceFrom : Cond.selects RX10 yX10_differenceFrom yX10_differenceFrom ∈ lw_tbl := List.mem_of_getElem? (i := 1093) (by decide +kernel)
theorem lkX10_110 : Cond.methodLink RX10 110 yJ9_abs_0f7a4 ∈ lw_tbl := List.mem_of_getElem? (i := 1095) (by decide +kernel)
theorem lkL_158 : Cond.methodLink RL 158 yX11_copy ∈ lw_tbl := List.mem_of_getElem? (i := 1096) (by decide +kernel)
theorem seX11_X11_copy_X11_copy : Cond.selects RX11 yX11_copy yX11_copy ∈ lw_tbl := List.mem_of_getElem? (i := 1098) (by decide +kernel)
theorem lkX11_319 : Cond.methodLink RX11 319 yX7_hasPlaces ∈ lw_tbl := List.mem_of_getElem? (i := 1100) (by decide +kernel)
theorem seX7_X7_hasPlaces_X7_hasPlaces : Cond.selects RX7 yX7_hasPlaces yX7_hasPlaces ∈ lw_tbl := List.mem_of_getElem? (i := 1102) (by decide +kernel)
theorem lkX11_322 : Cond.methodLink RX11 322 arraycopyName ∈ lw_tbl := List.mem_of_getElem? (i := 1104) (by decide +kernel)
theorem lkL_163 : Cond.methodLink RL 163 yX11_lay ∈ lw_tbl := List.mem_of_getElem? (i := 1105) (by decide +kernel)
theorem seX11_X11_lay_X11_lay : Cond.selects RX11 yX11_lay yX11_lay ∈ lw_tbl := List.mem_of_getElem? (i := 1107) (by decide +kernel)
theorem lkX11_328 : Cond.methodLink RX11 328 yX7_becomeAs ∈ lw_tbl := List.mem_of_getElem? (i := 1109) (by decide +kernel)
theorem seX7_X7_becomeAs_X7_becomeAs : Cond.selects RX7 yX7_becomeAs yX7_becomeAs ∈ lw_tbl := List.mem_of_getElem? (i := 1111) (by decide +kernel)
theorem lkX7_28 : Cond.methodLink RX7 28 arraycopyName ∈ lw_tbl := List.mem_of_getElem? (i := 1113) (by decide +kernel)
theorem lkL_167 : Cond.methodLink RL 167 yX11_ask ∈ lw_tbl := List.mem_of_getElem? (i := 1114) (by decide +kernel)
theorem seX11_X11_ask_X11_ask : Cond.selects RX11 yX11_ask yX11_ask ∈ lw_tbl := List.mem_of_getElem? (i := 1116) (by decide +kernel)
theorem lkX11_332 : Cond.methodLink RX11 332 yX11_findingOf ∈ lw_tbl := List.mem_of_getElem? (i := 1118) (by decide +kernel)
theorem lkL_171 : Cond.methodLink RL 171 yX11_item ∈ lw_tbl := List.mem_of_getElem? (i := 1122) (by decide +kernel)
theorem seX11_X11_item_X11_item : Cond.selects RX11 yX11_item yX11_item ∈ lw_tbl := List.mem_of_getElem? (i := 1124) (by decide +kernel)
theorem lkL_175 : Cond.methodLink RL 175 yX11_rest ∈ lw_tbl := List.mem_of_getElem? (i := 1126) (by decide +kernel)
theorem seX11_X11_rest_X11_rest : Cond.selects RX11 yX11_rest yX11_rest ∈ lw_tbl := List.mem_of_getElem? (i := 1128) (by decide +kernel)
theorem lkL_179 : Cond.methodLink RL 179 yX11_tell ∈ lw_tbl := List.mem_of_getElem? (i := 1130) (by decide +kernel)
theorem seX11_X11_tell_X11_tell : Cond.selects RX11 yX11_tell yX11_tell ∈ lw_tbl := List.mem_of_getElem? (i := 1132) (by decide +kernel)
theorem lkL_183 : Cond.methodLink RL 183 yX11_check ∈ lw_tbl := List.mem_of_getElem? (i := 1134) (by decide +kernel)
theorem seX11_X11_check_X11_check : Cond.selects RX11 yX11_check yX11_check ∈ lw_tbl := List.mem_of_getElem? (i := 1136) (by decide +kernel)
theorem lkX11_335 : Cond.methodLink RX11 335 yX9_becomeAs ∈ lw_tbl := List.mem_of_getElem? (i := 1138) (by decide +kernel)
theorem seX9_X9_becomeAs_X9_becomeAs : Cond.selects RX9 yX9_becomeAs yX9_becomeAs ∈ lw_tbl := List.mem_of_getElem? (i := 1140) (by decide +kernel)
theorem lkX9_77 : Cond.methodLink RX9 77 yX9_copyRow ∈ lw_tbl := List.mem_of_getElem? (i := 1142) (by decide +kernel)
theorem lkX9_87 : Cond.methodLink RX9 87 arraycopyName ∈ lw_tbl := List.mem_of_getElem? (i := 1145) (by decide +kernel)
theorem lkX11_337 : Cond.methodLink RX11 337 yX10_leanAsNow ∈ lw_tbl := List.mem_of_getElem? (i := 1146) (by decide +kernel)
theorem lkX11_340 : Cond.methodLink RX11 340 yX10_standing ∈ lw_tbl := List.mem_of_getElem? (i := 1147) (by decide +kernel)
theorem lkX11_343 : Cond.methodLink RX11 343 yX11_isTold ∈ lw_tbl := List.mem_of_getElem? (i := 1148) (by decide +kernel)
theorem lkX11_347 : Cond.methodLink RX11 347 yX10_groundCount ∈ lw_tbl := List.mem_of_getElem? (i := 1152) (by decide +kernel)
theorem lkL_187 : Cond.methodLink RL 187 yX11_keep ∈ lw_tbl := List.mem_of_getElem? (i := 1153) (by decide +kernel)
theorem seX11_X11_keep_X11_keep : Cond.selects RX11 yX11_keep yX11_keep ∈ lw_tbl := List.mem_of_getElem? (i := 1155) (by decide +kernel)
theorem lkL_191 : Cond.methodLink RL 191 yX11_back ∈ lw_tbl := List.mem_of_getElem? (i := 1157) (by decide +kernel)
theorem seX11_X11_back_X11_back : Cond.selects RX11 yX11_back yX11_back ∈ lw_tbl := List.mem_of_getElem? (i := 1159) (by decide +kernel)
theorem lkL_195 : Cond.methodLink RL 195 yX11_count ∈ lw_tbl := List.mem_of_getElem? (i := 1161) (by decide +kernel)
theorem seX11_X11_count_X11_count : Cond.selects RX11 yX11_count yX11_count ∈ lw_tbl := List.mem_of_getElem? (i := 1163) (by decide +kernel)
theorem lkX11_353 : Cond.methodLink RX11 353 yX9_standingCount ∈ lw_tbl := List.mem_of_getElem? (i := 1165) (by decide +kernel)
theorem seX9_X9_standingCount_X9_standingCount : Cond.selects RX9 yX9_standingCount yX9_standingCount ∈ lw_tbl := List.mem_of_getElem? (i := 1167) (by decide +kernel)
theorem lkX9_133 : Cond.methodLink RX9 133 yX9_standsNow ∈ lw_tbl := List.mem_of_getElem? (i := 1169) (by decide +kernel)
theorem klL_10 : Cond.classLink RL 10 RX12 ∈ lw_tbl := List.mem_of_getElem? (i := 1170) (by decide +kernel)
theorem iaX12 : Cond.instantiable RX12 34 ∈ lw_tbl := List.mem_of_getElem? (i := 1171) (by decide +kernel)
theorem lkL_12 : Cond.methodLink RL 12 yX12_init ∈ lw_tbl := List.mem_of_getElem? (i := 1172) (by decide +kernel)
theorem lkX12_1 : Cond.methodLink RX12 1 objectInit ∈ lw_tbl := List.mem_of_getElem? (i := 1175) (by decide +kernel)
theorem fpX12_7 : FP RX12 7 12 0 := ⟨_, rfl, by decide, List.mem_of_getElem? (i := 1176) (by decide +kernel)⟩
theorem fwX12_7 : FW RX12 "<init>" 7 12 0 := ⟨_, rfl, by decide, List.mem_of_getElem? (i := 1176) (by decide +kernel), Or.inr ⟨rfl, rfl, rfl⟩⟩
theorem fpX12_13 : FP RX12 13 12 1 := ⟨_, rfl, by decide, List.mem_of_getElem? (i := 1177) (by decide +kernel)⟩
theorem fwX12_13 : FW RX12 "<init>" 13 12 1 := ⟨_, rfl, by decide, List.mem_of_getElem? (i := 1177) (by decide +kernel), Or.inr ⟨rfl, rfl, rfl⟩⟩
theorem fpX12_16 : FP RX12 16 12 2 := ⟨_, rfl, by decide, List.mem_of_getElem? (i := 1178) (by decide +kernel)⟩
theorem fwX12_16 : FW RX12 "<init>" 16 12 2 := ⟨_, rfl, by decide, List.mem_of_getElem? (i := 1178) (by decide +kernel), Or.inr ⟨rfl, rfl, rfl⟩⟩
theorem fpX12_332 : FP RX12 332 12 3 := ⟨_, rfl, by decide, List.mem_of_getElem? (i := 1179) (by decide +kernel)⟩
theorem fwX12_332 {nm : String} : FW RX12 nm 332 12 3 := ⟨_, rfl, by decide, List.mem_of_getElem? (i := 1179) (by decide +kernel), Or.inl rfl⟩
theorem fpX12_19 : FP RX12 19 12 4 := ⟨_, rfl, by decide, List.mem_of_getElem? (i := 1180) (by decide +kernel)⟩
theorem fwX12_19 : FW RX12 "<init>" 19 12 4 := ⟨_, rfl, by decide, List.mem_of_getElem? (i := 1180) (by decide +kernel), Or.inr ⟨rfl, rfl, rfl⟩⟩
theorem fpX12_22 : FP RX12 22 12 5 := ⟨_, rfl, by decide, List.mem_of_getElem? (i := 1181) (by decide +kernel)⟩
theorem fwX12_22 : FW RX12 "<init>" 22 12 5 := ⟨_, rfl, by decide, List.mem_of_getElem? (i := 1181) (by decide +kernel), Or.inr ⟨rfl, rfl, rfl⟩⟩
theorem fpX12_25 : FP RX12 25 12 6 := ⟨_, rfl, by decide, List.mem_of_getElem? (i := 1182) (by decide +kernel)⟩
theorem fwX12_25 : FW RX12 "<init>" 25 12 6 := ⟨_, rfl, by decide, List.mem_of_getElem? (i := 1182) (by decide +kernel), Or.inr ⟨rfl, rfl, rfl⟩⟩
theorem fpX12_28 : FP RX12 28 12 7 := ⟨_, rfl, by decide, List.mem_of_getElem? (i := 1183) (by decide +kernel)⟩
theorem fwX12_28 : FW RX12 "<init>" 28 12 7 := ⟨_, rfl, by decide, List.mem_of_getElem? (i := 1183) (by decide +kernel), Or.inr ⟨rfl, rfl, rfl⟩⟩
theorem fpX12_31 : FP RX12 31 12 8 := ⟨_, rfl, by decide, List.mem_of_getElem? (i := 1184) (by decide +kernel)⟩
theorem fwX12_31 : FW RX12 "<init>" 31 12 8 := ⟨_, rfl, by decide, List.mem_of_getElem? (i := 1184) (by decide +kernel), Or.inr ⟨rfl, rfl, rfl⟩⟩
theorem fpX12_34 : FP RX12 34 12 9 := ⟨_, rfl, by decide, List.mem_of_getElem? (i := 1185) (by decide +kernel)⟩
theorem fwX12_34 : FW RX12 "<init>" 34 12 9 := ⟨_, rfl, by decide, List.mem_of_getElem? (i := 1185) (by decide +kernel), Or.inr ⟨rfl, rfl, rfl⟩⟩
theorem fpX12_37 : FP RX12 37 12 10 := ⟨_, rfl, by decide, List.mem_of_getElem? (i := 1186) (by decide +kernel)⟩
theorem fwX12_37 : FW RX12 "<init>" 37 12 10 := ⟨_, rfl, by decide, List.mem_of_getElem? (i := 1186) (by decide +kernel), Or.inr ⟨rfl, rfl, rfl⟩⟩
theorem fpX12_40 : FP RX12 40 12 11 := ⟨_, rfl, by decide, List.mem_of_getElem? (i := 1187) (by decide +kernel)⟩
theorem fwX12_40 : FW RX12 "<init>" 40 12 11 := ⟨_, rfl, by decide, List.mem_of_getElem? (i := 1187) (by decide +kernel), Or.inr ⟨rfl, rfl, rfl⟩⟩
theorem fpX12_43 : FP RX12 43 12 12 := ⟨_, rfl, by decide, List.mem_of_getElem? (i := 1188) (by decide +kernel)⟩
theorem fwX12_43 : FW RX12 "<init>" 43 12 12 := ⟨_, rfl, by decide, List.mem_of_getElem? (i := 1188) (by decide +kernel), Or.inr ⟨rfl, rfl, rfl⟩⟩
theorem fpX12_199 : FP RX12 199 12 13 := ⟨_, rfl, by decide, List.mem_of_getElem? (i := 1189) (by decide +kernel)⟩
theorem fwX12_199 {nm : String} : FW RX12 nm 199 12 13 := ⟨_, rfl, by decide, List.mem_of_getElem? (i := 1189) (by decide +kernel), Or.inl rfl⟩
theorem fpX12_209 : FP RX12 209 12 14 := ⟨_, rfl, by decide, List.mem_of_getElem? (i := 1190) (by decide +kernel)⟩
theorem fwX12_209 {nm : String} : FW RX12 nm 209 12 14 := ⟨_, rfl, by decide, List.mem_of_getElem? (i := 1190) (by decide +kernel), Or.inl rfl⟩
theorem fpX12_206 : FP RX12 206 12 15 := ⟨_, rfl, by decide, List.mem_of_getElem? (i := 1191) (by decide +kernel)⟩
theorem fwX12_206 {nm : String} : FW RX12 nm 206 12 15 := ⟨_, rfl, by decide, List.mem_of_getElem? (i := 1191) (by decide +kernel), Or.inl rfl⟩
theorem fpX12_46 : FP RX12 46 12 16 := ⟨_, rfl, by decide, List.mem_of_getElem? (i := 1192) (by decide +kernel)⟩
theorem fwX12_46 : FW RX12 "<init>" 46 12 16 := ⟨_, rfl, by decide, List.mem_of_getElem? (i := 1192) (by decide +kernel), Or.inr ⟨rfl, rfl, rfl⟩⟩
theorem fpX12_215 : FP RX12 215 12 17 := ⟨_, rfl, by decide, List.mem_of_getElem? (i := 1193) (by decide +kernel)⟩
theorem fwX12_215 {nm : String} : FW RX12 nm 215 12 17 := ⟨_, rfl, by decide, List.mem_of_getElem? (i := 1193) (by decide +kernel), Or.inl rfl⟩
theorem fpX12_232 : FP RX12 232 12 18 := ⟨_, rfl, by decide, List.mem_of_getElem? (i := 1194) (by decide +kernel)⟩
theorem fwX12_232 {nm : String} : FW RX12 nm 232 12 18 := ⟨_, rfl, by decide, List.mem_of_getElem? (i := 1194) (by decide +kernel), Or.inl rfl⟩
theorem fpX12_226 : FP RX12 226 12 19 := ⟨_, rfl, by decide, List.mem_of_getElem? (i := 1195) (by decide +kernel)⟩
theorem fwX12_226 {nm : String} : FW RX12 nm 226 12 19 := ⟨_, rfl, by decide, List.mem_of_getElem? (i := 1195) (by decide +kernel), Or.inl rfl⟩
theorem fpX12_229 : FP RX12 229 12 20 := ⟨_, rfl, by decide, List.mem_of_getElem? (i := 1196) (by decide +kernel)⟩
theorem fwX12_229 {nm : String} : FW RX12 nm 229 12 20 := ⟨_, rfl, by decide, List.mem_of_getElem? (i := 1196) (by decide +kernel), Or.inl rfl⟩
theorem fpX12_244 : FP RX12 244 12 21 := ⟨_, rfl, by decide, List.mem_of_getElem? (i := 1197) (by decide +kernel)⟩
theorem fwX12_244 {nm : String} : FW RX12 nm 244 12 21 := ⟨_, rfl, by decide, List.mem_of_getElem? (i := 1197) (by decide +kernel), Or.inl rfl⟩
theorem fpX12_238 : FP RX12 238 12 22 := ⟨_, rfl, by decide, List.mem_of_getElem? (i := 1198) (by decide +kernel)⟩
theorem fwX12_238 {nm : String} : FW RX12 nm 238 12 22 := ⟨_, rfl, by decide, List.mem_of_getElem? (i := 1198) (by decide +kernel), Or.inl rfl⟩
theorem fpX12_290 : FP RX12 290 12 23 := ⟨_, rfl, by decide, List.mem_of_getElem? (i := 1199) (by decide +kernel)⟩
theorem fwX12_290 {nm : String} : FW RX12 nm 290 12 23 := ⟨_, rfl, by decide, List.mem_of_getElem? (i := 1199) (by decide +kernel), Or.inl rfl⟩
theorem fpX12_287 : FP RX12 287 12 24 := ⟨_, rfl, by decide, List.mem_of_getElem? (i := 1200) (by decide +kernel)⟩
theorem fwX12_287 {nm : String} : FW RX12 nm 287 12 24 := ⟨_, rfl, by decide, List.mem_of_getElem? (i := 1200) (by decide +kernel), Or.inl rfl⟩
theorem fpX12_254 : FP RX12 254 12 25 := ⟨_, rfl, by decide, List.mem_of_getElem? (i := 1201) (by decide +kernel)⟩
theorem fwX12_254 {nm : String} : FW RX12 nm 254 12 25 := ⟨_, rfl, by decide, List.mem_of_getElem? (i := 1201) (by decide +kernel), Or.inl rfl⟩
theorem fpX12_251 : FP RX12 251 12 26 := ⟨_, rfl, by decide, List.mem_of_getElem? (i := 1202) (by decide +kernel)⟩
theorem fwX12_251 {nm : String} : FW RX12 nm 251 12 26 := ⟨_, rfl, by decide, List.mem_of_getElem? (i := 1202) (by decide +kernel), Or.inl rfl⟩
theorem fpX12_281 : FP RX12 281 12 27 := ⟨_, rfl, by decide, List.mem_of_getElem? (i := 1203) (by decide +kernel)⟩
theorem fwX12_281 {nm : String} : FW RX12 nm 281 12 27 := ⟨_, rfl, by decide, List.mem_of_getElem? (i := 1203) (by decide +kernel), Or.inl rfl⟩
theorem fpX12_49 : FP RX12 49 12 28 := ⟨_, rfl, by decide, List.mem_of_getElem? (i := 1204) (by decide +kernel)⟩
theorem fwX12_49 : FW RX12 "<init>" 49 12 28 := ⟨_, rfl, by decide, List.mem_of_getElem? (i := 1204) (by decide +kernel), Or.inr ⟨rfl, rfl, rfl⟩⟩
theorem fpX12_52 : FP RX12 52 12 29 := ⟨_, rfl, by decide, List.mem_of_getElem? (i := 1205) (by decide +kernel)⟩
theorem fwX12_52 : FW RX12 "<init>" 52 12 29 := ⟨_, rfl, by decide, List.mem_of_getElem? (i := 1205) (by decide +kernel), Or.inr ⟨rfl, rfl, rfl⟩⟩
theorem fpX12_55 : FP RX12 55 12 30 := ⟨_, rfl, by decide, List.mem_of_getElem? (i := 1206) (by decide +kernel)⟩
theorem fwX12_55 : FW RX12 "<init>" 55 12 30 := ⟨_, rfl, by decide, List.mem_of_getElem? (i := 1206) (by decide +kernel), Or.inr ⟨rfl, rfl, rfl⟩⟩
theorem fpX12_58 : FP RX12 58 12 31 := ⟨_, rfl, by decide, List.mem_of_getElem? (i := 1207) (by decide +kernel)⟩
theorem fwX12_58 : FW RX12 "<init>" 58 12 31 := ⟨_, rfl, by decide, List.mem_of_getElem? (i := 1207) (by decide +kernel), Or.inr ⟨rfl, rfl, rfl⟩⟩
theorem fpX12_329 : FP RX12 329 12 32 := ⟨_, rfl, by decide, List.mem_of_getElem? (i := 1208) (by decide +kernel)⟩
theorem fwX12_329 {nm : String} : FW RX12 nm 329 12 32 := ⟨_, rfl, by decide, List.mem_of_getElem? (i := 1208) (by decide +kernel), Or.inl rfl⟩
theorem fpX12_61 : FP RX12 61 12 33 := ⟨_, rfl, by decide, List.mem_of_getElem? (i := 1209) (by decide +kernel)⟩
theorem fwX12_61 : FW RX12 "<init>" 61 12 33 := ⟨_, rfl, by decide, List.mem_of_getElem? (i := 1209) (by decide +kernel), Or.inr ⟨rfl, rfl, rfl⟩⟩
theorem lkL_17 : Cond.methodLink RL 17 yX12_ledge ∈ lw_tbl := List.mem_of_getElem? (i := 1279) (by decide +kernel)
theorem seX12_X12_ledge_X12_ledge : Cond.selects RX12 yX12_ledge yX12_ledge ∈ lw_tbl := List.mem_of_getElem? (i := 1281) (by decide +kernel)
theorem clX12_74 : Cond.constantLong RX12 74 (99) ∈ lw_tbl := List.mem_of_getElem? (i := 1283) (by decide +kernel)
theorem lkX12_65 : Cond.methodLink RX12 65 yX12_isIn ∈ lw_tbl := List.mem_of_getElem? (i := 1284) (by decide +kernel)
theorem clX12_76 : Cond.constantLong RX12 76 (29) ∈ lw_tbl := List.mem_of_getElem? (i := 1287) (by decide +kernel)
theorem ctX12_78 : Cond.constant RX12 78 (-1000000001) ∈ lw_tbl := List.mem_of_getElem? (i := 1288) (by decide +kernel)
theorem ctX12_79 : Cond.constant RX12 79 (-1000000003) ∈ lw_tbl := List.mem_of_getElem? (i := 1289) (by decide +kernel)
theorem lkX12_80 : Cond.methodLink RX12 80 yX12_comes ∈ lw_tbl := List.mem_of_getElem? (i := 1290) (by decide +kernel)
theorem lkL_21 : Cond.methodLink RL 21 yX12_ledgeTold ∈ lw_tbl := List.mem_of_getElem? (i := 1294) (by decide +kernel)
theorem seX12_X12_ledgeTold_X12_ledgeTold : Cond.selects RX12 yX12_ledgeTold yX12_ledgeTold ∈ lw_tbl := List.mem_of_getElem? (i := 1296) (by decide +kernel)
theorem lkX12_84 : Cond.methodLink RX12 84 yX12_isLedge ∈ lw_tbl := List.mem_of_getElem? (i := 1298) (by decide +kernel)
theorem clX12_88 : Cond.constantLong RX12 88 (3) ∈ lw_tbl := List.mem_of_getElem? (i := 1302) (by decide +kernel)
theorem lkX12_90 : Cond.methodLink RX12 90 yX12_of ∈ lw_tbl := List.mem_of_getElem? (i := 1303) (by decide +kernel)
theorem lkX12_94 : Cond.methodLink RX12 94 yX12_peopleOn ∈ lw_tbl := List.mem_of_getElem? (i := 1307) (by decide +kernel)
theorem lkX12_70 : Cond.methodLink RX12 70 yX12_where ∈ lw_tbl := List.mem_of_getElem? (i := 1311) (by decide +kernel)
theorem lkL_26 : Cond.methodLink RL 26 yX12_change ∈ lw_tbl := List.mem_of_getElem? (i := 1315) (by decide +kernel)
theorem seX12_X12_change_X12_change : Cond.selects RX12 yX12_change yX12_change ∈ lw_tbl := List.mem_of_getElem? (i := 1317) (by decide +kernel)
theorem lkX12_97 : Cond.methodLink RX12 97 yX12_becomes ∈ lw_tbl := List.mem_of_getElem? (i := 1319) (by decide +kernel)
theorem lkL_31 : Cond.methodLink RL 31 yX12_deal ∈ lw_tbl := List.mem_of_getElem? (i := 1323) (by decide +kernel)
theorem seX12_X12_deal_X12_deal : Cond.selects RX12 yX12_deal yX12_deal ∈ lw_tbl := List.mem_of_getElem? (i := 1325) (by decide +kernel)
theorem clX12_100 : Cond.constantLong RX12 100 (10) ∈ lw_tbl := List.mem_of_getElem? (i := 1327) (by decide +kernel)
theorem lkX12_102 : Cond.methodLink RX12 102 yX12_drawn ∈ lw_tbl := List.mem_of_getElem? (i := 1328) (by decide +kernel)
theorem ctX12_69 : Cond.constant RX12 69 (1103515245) ∈ lw_tbl := List.mem_of_getElem? (i := 1332) (by decide +kernel)
theorem lkL_35 : Cond.methodLink RL 35 yX12_seed ∈ lw_tbl := List.mem_of_getElem? (i := 1333) (by decide +kernel)
theorem seX12_X12_seed_X12_seed : Cond.selects RX12 yX12_seed yX12_seed ∈ lw_tbl := List.mem_of_getElem? (i := 1335) (by decide +kernel)
theorem lkL_40 : Cond.methodLink RL 40 yX12_ladder ∈ lw_tbl := List.mem_of_getElem? (i := 1337) (by decide +kernel)
theorem seX12_X12_ladder_X12_ladder : Cond.selects RX12 yX12_ladder yX12_ladder ∈ lw_tbl := List.mem_of_getElem? (i := 1339) (by decide +kernel)
theorem clX12_106 : Cond.constantLong RX12 106 (5) ∈ lw_tbl := List.mem_of_getElem? (i := 1341) (by decide +kernel)
theorem lkX12_108 : Cond.methodLink RX12 108 yX12_sets ∈ lw_tbl := List.mem_of_getElem? (i := 1342) (by decide +kernel)
theorem lkL_44 : Cond.methodLink RL 44 yX12_told ∈ lw_tbl := List.mem_of_getElem? (i := 1346) (by decide +kernel)
theorem seX12_X12_told_X12_told : Cond.selects RX12 yX12_told yX12_told ∈ lw_tbl := List.mem_of_getElem? (i := 1348) (by decide +kernel)
theorem lkX12_137 : Cond.methodLink RX12 137 yX12_isLadder ∈ lw_tbl := List.mem_of_getElem? (i := 1350) (by decide +kernel)
theorem lkX12_130 : Cond.methodLink RX12 130 yX12_reach ∈ lw_tbl := List.mem_of_getElem? (i := 1354) (by decide +kernel)
theorem lkX12_140 : Cond.methodLink RX12 140 yX12_minutes ∈ lw_tbl := List.mem_of_getElem? (i := 1358) (by decide +kernel)
theorem lkX12_112 : Cond.methodLink RX12 112 yX12_height ∈ lw_tbl := List.mem_of_getElem? (i := 1362) (by decide +kernel)
theorem lkX12_143 : Cond.methodLink RX12 143 yX12_stands ∈ lw_tbl := List.mem_of_getElem? (i := 1366) (by decide +kernel)
theorem lkX12_133 : Cond.methodLink RX12 133 yX12_reaches ∈ lw_tbl := List.mem_of_getElem? (i := 1370) (by decide +kernel)
theorem lkX12_127 : Cond.methodLink RX12 127 yX12_needsOf ∈ lw_tbl := List.mem_of_getElem? (i := 1374) (by decide +kernel)
theorem lkX12_115 : Cond.methodLink RX12 115 yX12_apart ∈ lw_tbl := List.mem_of_getElem? (i := 1378) (by decide +kernel)
theorem lkX12_118 : Cond.methodLink RX12 118 yX12_counts ∈ lw_tbl := List.mem_of_getElem? (i := 1381) (by decide +kernel)
theorem lkX12_296 : Cond.methodLink RX12 296 yX12_textAt ∈ lw_tbl := List.mem_of_getElem? (i := 1385) (by decide +kernel)
theorem lkX12_121 : Cond.methodLink RX12 121 yX12_worked ∈ lw_tbl := List.mem_of_getElem? (i := 1389) (by decide +kernel)
theorem lkX12_308 : Cond.methodLink RX12 308 yX12_joined ∈ lw_tbl := List.mem_of_getElem? (i := 1393) (by decide +kernel)
theorem lkX12_124 : Cond.methodLink RX12 124 yX12_within ∈ lw_tbl := List.mem_of_getElem? (i := 1396) (by decide +kernel)
theorem lkX12_146 : Cond.methodLink RX12 146 yX12_worth ∈ lw_tbl := List.mem_of_getElem? (i := 1399) (by decide +kernel)
theorem lkX12_149 : Cond.methodLink RX12 149 yX12_allReached ∈ lw_tbl := List.mem_of_getElem? (i := 1403) (by decide +kernel)
theorem lkL_48 : Cond.methodLink RL 48 yX12_as ∈ lw_tbl := List.mem_of_getElem? (i := 1407) (by decide +kernel)
theorem seX12_X12_as_X12_as : Cond.selects RX12 yX12_as yX12_as ∈ lw_tbl := List.mem_of_getElem? (i := 1409) (by decide +kernel)
theorem lkX12_152 : Cond.methodLink RX12 152 yX12_isOf ∈ lw_tbl := List.mem_of_getElem? (i := 1411) (by decide +kernel)
theorem ctX12_155 : Cond.constant RX12 155 (-1000000012) ∈ lw_tbl := List.mem_of_getElem? (i := 1414) (by decide +kernel)
theorem lkL_52 : Cond.methodLink RL 52 yX12_turns ∈ lw_tbl := List.mem_of_getElem? (i := 1415) (by decide +kernel)
theorem seX12_X12_turns_X12_turns : Cond.selects RX12 yX12_turns yX12_turns ∈ lw_tbl := List.mem_of_getElem? (i := 1417) (by decide +kernel)
theorem lkL_56 : Cond.methodLink RL 56 yX12_cut ∈ lw_tbl := List.mem_of_getElem? (i := 1419) (by decide +kernel)
theorem seX12_X12_cut_X12_cut : Cond.selects RX12 yX12_cut yX12_cut ∈ lw_tbl := List.mem_of_getElem? (i := 1421) (by decide +kernel)
theorem lkL_60 : Cond.methodLink RL 60 yX12_needs ∈ lw_tbl := List.mem_of_getElem? (i := 1423) (by decide +kernel)
theorem seX12_X12_needs_X12_needs : Cond.selects RX12 yX12_needs yX12_needs ∈ lw_tbl := List.mem_of_getElem? (i := 1425) (by decide +kernel)
theorem lkL_64 : Cond.methodLink RL 64 yX12_person ∈ lw_tbl := List.mem_of_getElem? (i := 1427) (by decide +kernel)
theorem seX12_X12_person_X12_person : Cond.selects RX12 yX12_person yX12_person ∈ lw_tbl := List.mem_of_getElem? (i := 1429) (by decide +kernel)
theorem lkL_68 : Cond.methodLink RL 68 yX12_personTold ∈ lw_tbl := List.mem_of_getElem? (i := 1431) (by decide +kernel)
theorem seX12_X12_personTold_X12_personTold : Cond.selects RX12 yX12_personTold yX12_personTold ∈ lw_tbl := List.mem_of_getElem? (i := 1433) (by decide +kernel)
theorem lkX12_156 : Cond.methodLink RX12 156 yX12_isPerson ∈ lw_tbl := List.mem_of_getElem? (i := 1435) (by decide +kernel)
theorem lkL_72 : Cond.methodLink RL 72 yX12_set ∈ lw_tbl := List.mem_of_getElem? (i := 1439) (by decide +kernel)
theorem seX12_X12_set_X12_set : Cond.selects RX12 yX12_set yX12_set ∈ lw_tbl := List.mem_of_getElem? (i := 1441) (by decide +kernel)
theorem lkL_76 : Cond.methodLink RL 76 yX12_may ∈ lw_tbl := List.mem_of_getElem? (i := 1443) (by decide +kernel)
theorem seX12_X12_may_X12_may : Cond.selects RX12 yX12_may yX12_may ∈ lw_tbl := List.mem_of_getElem? (i := 1445) (by decide +kernel)
theorem lkX12_165 : Cond.methodLink RX12 165 yX12_mayMove ∈ lw_tbl := List.mem_of_getElem? (i := 1447) (by decide +kernel)
theorem lkX12_162 : Cond.methodLink RX12 162 yX12_mayThere ∈ lw_tbl := List.mem_of_getElem? (i := 1451) (by decide +kernel)
theorem lkX12_159 : Cond.methodLink RX12 159 yX12_isStrong ∈ lw_tbl := List.mem_of_getElem? (i := 1455) (by decide +kernel)
theorem lkL_80 : Cond.methodLink RL 80 yX12_move ∈ lw_tbl := List.mem_of_getElem? (i := 1459) (by decide +kernel)
theorem seX12_X12_move_X12_move : Cond.selects RX12 yX12_move yX12_move ∈ lw_tbl := List.mem_of_getElem? (i := 1461) (by decide +kernel)
theorem ctX12_168 : Cond.constant RX12 168 (-1000000002) ∈ lw_tbl := List.mem_of_getElem? (i := 1463) (by decide +kernel)
theorem lkL_84 : Cond.methodLink RL 84 yX12_climb ∈ lw_tbl := List.mem_of_getElem? (i := 1464) (by decide +kernel)
theorem seX12_X12_climb_X12_climb : Cond.selects RX12 yX12_climb yX12_climb ∈ lw_tbl := List.mem_of_getElem? (i := 1466) (by decide +kernel)
theorem lkL_88 : Cond.methodLink RL 88 yX12_thieves ∈ lw_tbl := List.mem_of_getElem? (i := 1468) (by decide +kernel)
theorem seX12_X12_thieves_X12_thieves : Cond.selects RX12 yX12_thieves yX12_thieves ∈ lw_tbl := List.mem_of_getElem? (i := 1470) (by decide +kernel)
theorem clX12_169 : Cond.constantLong RX12 169 (100) ∈ lw_tbl := List.mem_of_getElem? (i := 1472) (by decide +kernel)
theorem lkL_92 : Cond.methodLink RL 92 yX12_nights ∈ lw_tbl := List.mem_of_getElem? (i := 1473) (by decide +kernel)
theorem seX12_X12_nights_X12_nights : Cond.selects RX12 yX12_nights yX12_nights ∈ lw_tbl := List.mem_of_getElem? (i := 1475) (by decide +kernel)
theorem clX12_171 : Cond.constantLong RX12 171 (30) ∈ lw_tbl := List.mem_of_getElem? (i := 1477) (by decide +kernel)
theorem lkX12_173 : Cond.methodLink RX12 173 yX12_night ∈ lw_tbl := List.mem_of_getElem? (i := 1478) (by decide +kernel)
theorem lkL_96 : Cond.methodLink RL 96 yX12_way ∈ lw_tbl := List.mem_of_getElem? (i := 1482) (by decide +kernel)
theorem seX12_X12_way_X12_way : Cond.selects RX12 yX12_way yX12_way ∈ lw_tbl := List.mem_of_getElem? (i := 1484) (by decide +kernel)
theorem clX12_177 : Cond.constantLong RX12 177 (2) ∈ lw_tbl := List.mem_of_getElem? (i := 1486) (by decide +kernel)
theorem lkX12_179 : Cond.methodLink RX12 179 yX12_findFar ∈ lw_tbl := List.mem_of_getElem? (i := 1487) (by decide +kernel)
theorem ctX12_176 : Cond.constant RX12 176 (1000000) ∈ lw_tbl := List.mem_of_getElem? (i := 1491) (by decide +kernel)
theorem ctX12_64 : Cond.constant RX12 64 (-1000000005) ∈ lw_tbl := List.mem_of_getElem? (i := 1492) (by decide +kernel)
theorem lkX12_183 : Cond.methodLink RX12 183 yX12_toll ∈ lw_tbl := List.mem_of_getElem? (i := 1493) (by decide +kernel)
theorem lkL_100 : Cond.methodLink RL 100 yX12_reached ∈ lw_tbl := List.mem_of_getElem? (i := 1497) (by decide +kernel)
theorem seX12_X12_reached_X12_reached : Cond.selects RX12 yX12_reached yX12_reached ∈ lw_tbl := List.mem_of_getElem? (i := 1499) (by decide +kernel)
theorem lkX12_186 : Cond.methodLink RX12 186 yX12_reachedBut ∈ lw_tbl := List.mem_of_getElem? (i := 1501) (by decide +kernel)
theorem lkL_104 : Cond.methodLink RL 104 yX12_needed ∈ lw_tbl := List.mem_of_getElem? (i := 1505) (by decide +kernel)
theorem seX12_X12_needed_X12_needed : Cond.selects RX12 yX12_needed yX12_needed ∈ lw_tbl := List.mem_of_getElem? (i := 1507) (by decide +kernel)
theorem lkL_109 : Cond.methodLink RL 109 yX12_meeting ∈ lw_tbl := List.mem_of_getElem? (i := 1509) (by decide +kernel)
theorem seX12_X12_meeting_X12_meeting : Cond.selects RX12 yX12_meeting yX12_meeting ∈ lw_tbl := List.mem_of_getElem? (i := 1511) (by decide +kernel)
theorem lkX12_189 : Cond.methodLink RX12 189 yX12_orNone ∈ lw_tbl := List.mem_of_getElem? (i := 1513) (by decide +kernel)
theorem lkL_113 : Cond.methodLink RL 113 yX12_above ∈ lw_tbl := List.mem_of_getElem? (i := 1516) (by decide +kernel)
theorem seX12_X12_above_X12_above : Cond.selects RX12 yX12_above yX12_above ∈ lw_tbl := List.mem_of_getElem? (i := 1518) (by decide +kernel)
theorem lkL_117 : Cond.methodLink RL 117 yX12_fewest ∈ lw_tbl := List.mem_of_getElem? (i := 1520) (by decide +kernel)
theorem seX12_X12_fewest_X12_fewest : Cond.selects RX12 yX12_fewest yX12_fewest ∈ lw_tbl := List.mem_of_getElem? (i := 1522) (by decide +kernel)
theorem lkX12_192 : Cond.methodLink RX12 192 yX12_getsByOne ∈ lw_tbl := List.mem_of_getElem? (i := 1524) (by decide +kernel)
theorem lkX12_196 : Cond.methodLink RX12 196 yX12_getsByTwo ∈ lw_tbl := List.mem_of_getElem? (i := 1528) (by decide +kernel)
theorem lkL_121 : Cond.methodLink RL 121 yX12_help ∈ lw_tbl := List.mem_of_getElem? (i := 1532) (by decide +kernel)
theorem seX12_X12_help_X12_help : Cond.selects RX12 yX12_help yX12_help ∈ lw_tbl := List.mem_of_getElem? (i := 1534) (by decide +kernel)
theorem lkX12_212 : Cond.methodLink RX12 212 yX12_findHelp ∈ lw_tbl := List.mem_of_getElem? (i := 1536) (by decide +kernel)
theorem lkX12_203 : Cond.methodLink RX12 203 yX12_ones ∈ lw_tbl := List.mem_of_getElem? (i := 1540) (by decide +kernel)
theorem lkL_125 : Cond.methodLink RL 125 yX12_feed ∈ lw_tbl := List.mem_of_getElem? (i := 1543) (by decide +kernel)
theorem seX12_X12_feed_X12_feed : Cond.selects RX12 yX12_feed yX12_feed ∈ lw_tbl := List.mem_of_getElem? (i := 1545) (by decide +kernel)
theorem lkL_129 : Cond.methodLink RL 129 yX12_trim ∈ lw_tbl := List.mem_of_getElem? (i := 1547) (by decide +kernel)
theorem seX12_X12_trim_X12_trim : Cond.selects RX12 yX12_trim yX12_trim ∈ lw_tbl := List.mem_of_getElem? (i := 1549) (by decide +kernel)
theorem lkL_133 : Cond.methodLink RL 133 yX12_text ∈ lw_tbl := List.mem_of_getElem? (i := 1551) (by decide +kernel)
theorem seX12_X12_text_X12_text : Cond.selects RX12 yX12_text yX12_text ∈ lw_tbl := List.mem_of_getElem? (i := 1553) (by decide +kernel)
theorem lkX12_302 : Cond.methodLink RX12 302 yX12_parse ∈ lw_tbl := List.mem_of_getElem? (i := 1555) (by decide +kernel)
theorem lkX12_263 : Cond.methodLink RX12 263 yX12_nextToken ∈ lw_tbl := List.mem_of_getElem? (i := 1559) (by decide +kernel)
theorem lkX12_235 : Cond.methodLink RX12 235 yX12_isLetter ∈ lw_tbl := List.mem_of_getElem? (i := 1563) (by decide +kernel)
theorem clX12_218 : Cond.constantLong RX12 218 (97) ∈ lw_tbl := List.mem_of_getElem? (i := 1567) (by decide +kernel)
theorem clX12_220 : Cond.constantLong RX12 220 (122) ∈ lw_tbl := List.mem_of_getElem? (i := 1568) (by decide +kernel)
theorem lkX12_241 : Cond.methodLink RX12 241 yX12_isDigit ∈ lw_tbl := List.mem_of_getElem? (i := 1569) (by decide +kernel)
theorem clX12_222 : Cond.constantLong RX12 222 (48) ∈ lw_tbl := List.mem_of_getElem? (i := 1573) (by decide +kernel)
theorem clX12_224 : Cond.constantLong RX12 224 (57) ∈ lw_tbl := List.mem_of_getElem? (i := 1574) (by decide +kernel)
theorem lkX12_299 : Cond.methodLink RX12 299 yX12_key ∈ lw_tbl := List.mem_of_getElem? (i := 1575) (by decide +kernel)
theorem lkX12_247 : Cond.methodLink RX12 247 yX12_isWordAt ∈ lw_tbl := List.mem_of_getElem? (i := 1579) (by decide +kernel)
theorem lkX12_293 : Cond.methodLink RX12 293 yX12_either ∈ lw_tbl := List.mem_of_getElem? (i := 1583) (by decide +kernel)
theorem lkX12_257 : Cond.methodLink RX12 257 yX12_both ∈ lw_tbl := List.mem_of_getElem? (i := 1587) (by decide +kernel)
theorem lkX12_269 : Cond.methodLink RX12 269 yX12_test ∈ lw_tbl := List.mem_of_getElem? (i := 1591) (by decide +kernel)
theorem lkX12_272 : Cond.methodLink RX12 272 yX12_sum ∈ lw_tbl := List.mem_of_getElem? (i := 1595) (by decide +kernel)
theorem lkX12_275 : Cond.methodLink RX12 275 yX12_term ∈ lw_tbl := List.mem_of_getElem? (i := 1599) (by decide +kernel)
theorem lkX12_278 : Cond.methodLink RX12 278 yX12_part0 ∈ lw_tbl := List.mem_of_getElem? (i := 1603) (by decide +kernel)
theorem lkX12_266 : Cond.methodLink RX12 266 yX12_step ∈ lw_tbl := List.mem_of_getElem? (i := 1607) (by decide +kernel)
theorem lkX12_284 : Cond.methodLink RX12 284 yX12_isName ∈ lw_tbl := List.mem_of_getElem? (i := 1611) (by decide +kernel)
theorem lkX12_260 : Cond.methodLink RX12 260 yX12_isSign ∈ lw_tbl := List.mem_of_getElem? (i := 1614) (by decide +kernel)
theorem lkL_137 : Cond.methodLink RL 137 yX12_textTold ∈ lw_tbl := List.mem_of_getElem? (i := 1618) (by decide +kernel)
theorem seX12_X12_textTold_X12_textTold : Cond.selects RX12 yX12_textTold yX12_textTold ∈ lw_tbl := List.mem_of_getElem? (i := 1620) (by decide +kernel)
theorem lkX12_305 : Cond.methodLink RX12 305 yX12_isText ∈ lw_tbl := List.mem_of_getElem? (i := 1622) (by decide +kernel)
theorem lkL_141 : Cond.methodLink RL 141 yX12_why ∈ lw_tbl := List.mem_of_getElem? (i := 1626) (by decide +kernel)
theorem seX12_X12_why_X12_why : Cond.selects RX12 yX12_why yX12_why ∈ lw_tbl := List.mem_of_getElem? (i := 1628) (by decide +kernel)
theorem lkL_145 : Cond.methodLink RL 145 yX12_sheet ∈ lw_tbl := List.mem_of_getElem? (i := 1630) (by decide +kernel)
theorem seX12_X12_sheet_X12_sheet : Cond.selects RX12 yX12_sheet yX12_sheet ∈ lw_tbl := List.mem_of_getElem? (i := 1632) (by decide +kernel)
theorem lkX12_312 : Cond.methodLink RX12 312 yX12_isSheet ∈ lw_tbl := List.mem_of_getElem? (i := 1634) (by decide +kernel)
theorem clX12_315 : Cond.constantLong RX12 315 (-1) ∈ lw_tbl := List.mem_of_getElem? (i := 1637) (by decide +kernel)
theorem ctX12_317 : Cond.constant RX12 317 (-1000000014) ∈ lw_tbl := List.mem_of_getElem? (i := 1638) (by decide +kernel)
theorem lkL_149 : Cond.methodLink RL 149 yX12_mark ∈ lw_tbl := List.mem_of_getElem? (i := 1639) (by decide +kernel)
theorem seX12_X12_mark_X12_mark : Cond.selects RX12 yX12_mark yX12_mark ∈ lw_tbl := List.mem_of_getElem? (i := 1641) (by decide +kernel)
theorem ctX12_318 : Cond.constant RX12 318 (-1000000011) ∈ lw_tbl := List.mem_of_getElem? (i := 1643) (by decide +kernel)
theorem ctX12_319 : Cond.constant RX12 319 (-1000000013) ∈ lw_tbl := List.mem_of_getElem? (i := 1644) (by decide +kernel)
theorem clX12_320 : Cond.constantLong RX12 320 (-99999) ∈ lw_tbl := List.mem_of_getElem? (i := 1645) (by decide +kernel)
theorem clX12_322 : Cond.constantLong RX12 322 (99999) ∈ lw_tbl := List.mem_of_getElem? (i := 1646) (by decide +kernel)
theorem lkL_153 : Cond.methodLink RL 153 yX12_pour ∈ lw_tbl := List.mem_of_getElem? (i := 1647) (by decide +kernel)
theorem seX12_X12_pour_X12_pour : Cond.selects RX12 yX12_pour yX12_pour ∈ lw_tbl := List.mem_of_getElem? (i := 1649) (by decide +kernel)
theorem lkL_157 : Cond.methodLink RL 157 yX12_nearest ∈ lw_tbl := List.mem_of_getElem? (i := 1651) (by decide +kernel)
theorem seX12_X12_nearest_X12_nearest : Cond.selects RX12 yX12_nearest yX12_nearest ∈ lw_tbl := List.mem_of_getElem? (i := 1653) (by decide +kernel)
theorem lkL_162 : Cond.methodLink RL 162 yX12_copy ∈ lw_tbl := List.mem_of_getElem? (i := 1655) (by decide +kernel)
theorem seX12_X12_copy_X12_copy : Cond.selects RX12 yX12_copy yX12_copy ∈ lw_tbl := List.mem_of_getElem? (i := 1657) (by decide +kernel)
theorem lkL_166 : Cond.methodLink RL 166 yX12_lay ∈ lw_tbl := List.mem_of_getElem? (i := 1659) (by decide +kernel)
theorem seX12_X12_lay_X12_lay : Cond.selects RX12 yX12_lay yX12_lay ∈ lw_tbl := List.mem_of_getElem? (i := 1661) (by decide +kernel)
theorem lkX12_326 : Cond.methodLink RX12 326 yX12_isSlot ∈ lw_tbl := List.mem_of_getElem? (i := 1663) (by decide +kernel)
theorem clX12_324 : Cond.constantLong RX12 324 (4) ∈ lw_tbl := List.mem_of_getElem? (i := 1666) (by decide +kernel)
theorem lkL_170 : Cond.methodLink RL 170 yX12_ask ∈ lw_tbl := List.mem_of_getElem? (i := 1667) (by decide +kernel)
theorem seX12_X12_ask_X12_ask : Cond.selects RX12 yX12_ask yX12_ask ∈ lw_tbl := List.mem_of_getElem? (i := 1669) (by decide +kernel)
theorem lkL_174 : Cond.methodLink RL 174 yX12_item ∈ lw_tbl := List.mem_of_getElem? (i := 1671) (by decide +kernel)
theorem seX12_X12_item_X12_item : Cond.selects RX12 yX12_item yX12_item ∈ lw_tbl := List.mem_of_getElem? (i := 1673) (by decide +kernel)
theorem lkL_178 : Cond.methodLink RL 178 yX12_rest ∈ lw_tbl := List.mem_of_getElem? (i := 1675) (by decide +kernel)
theorem seX12_X12_rest_X12_rest : Cond.selects RX12 yX12_rest yX12_rest ∈ lw_tbl := List.mem_of_getElem? (i := 1677) (by decide +kernel)
theorem lkL_182 : Cond.methodLink RL 182 yX12_tell ∈ lw_tbl := List.mem_of_getElem? (i := 1679) (by decide +kernel)
theorem seX12_X12_tell_X12_tell : Cond.selects RX12 yX12_tell yX12_tell ∈ lw_tbl := List.mem_of_getElem? (i := 1681) (by decide +kernel)
theorem lkL_186 : Cond.methodLink RL 186 yX12_check ∈ lw_tbl := List.mem_of_getElem? (i := 1683) (by decide +kernel)
theorem seX12_X12_check_X12_check : Cond.selects RX12 yX12_check yX12_check ∈ lw_tbl := List.mem_of_getElem? (i := 1685) (by decide +kernel)
theorem lkX12_336 : Cond.methodLink RX12 336 yX12_setAside ∈ lw_tbl := List.mem_of_getElem? (i := 1687) (by decide +kernel)
theorem lkX12_340 : Cond.methodLink RX12 340 yX12_standing ∈ lw_tbl := List.mem_of_getElem? (i := 1691) (by decide +kernel)
theorem lkL_190 : Cond.methodLink RL 190 yX12_keep ∈ lw_tbl := List.mem_of_getElem? (i := 1695) (by decide +kernel)
theorem seX12_X12_keep_X12_keep : Cond.selects RX12 yX12_keep yX12_keep ∈ lw_tbl := List.mem_of_getElem? (i := 1697) (by decide +kernel)
theorem lkL_194 : Cond.methodLink RL 194 yX12_back ∈ lw_tbl := List.mem_of_getElem? (i := 1699) (by decide +kernel)
theorem seX12_X12_back_X12_back : Cond.selects RX12 yX12_back yX12_back ∈ lw_tbl := List.mem_of_getElem? (i := 1701) (by decide +kernel)
theorem lkL_198 : Cond.methodLink RL 198 yX12_count ∈ lw_tbl := List.mem_of_getElem? (i := 1703) (by decide +kernel)
theorem seX12_X12_count_X12_count : Cond.selects RX12 yX12_count yX12_count ∈ lw_tbl := List.mem_of_getElem? (i := 1705) (by decide +kernel)
theorem lkX12_343 : Cond.methodLink RX12 343 yX12_movedMany ∈ lw_tbl := List.mem_of_getElem? (i := 1707) (by decide +kernel)
theorem smX6_X6_reach : Cond.sameMethod RX6 RX6 "reach" "(I)I" ∈ lw_tbl := List.mem_of_getElem? (i := 1711) (by decide +kernel)
theorem smX6_X6_minutes : Cond.sameMethod RX6 RX6 "minutes" "(I)I" ∈ lw_tbl := List.mem_of_getElem? (i := 1712) (by decide +kernel)
theorem smX6_X6_worth : Cond.sameMethod RX6 RX6 "worth" "(I)I" ∈ lw_tbl := List.mem_of_getElem? (i := 1713) (by decide +kernel)
theorem smX2_X2_worth : Cond.sameMethod RX2 RX2 "worth" "(I)I" ∈ lw_tbl := List.mem_of_getElem? (i := 1714) (by decide +kernel)
theorem smX6_X6_isKind : Cond.sameMethod RX6 RX6 "isKind" "(I)Z" ∈ lw_tbl := List.mem_of_getElem? (i := 1715) (by decide +kernel)
theorem smX2_X2_isKind : Cond.sameMethod RX2 RX2 "isKind" "(I)Z" ∈ lw_tbl := List.mem_of_getElem? (i := 1716) (by decide +kernel)
theorem caX6_X4 : Cond.castable RX6 RX4 ∈ lw_tbl := List.mem_of_getElem? (i := 1717) (by decide +kernel)
theorem caX2_X4 : Cond.castable RX2 RX4 ∈ lw_tbl := List.mem_of_getElem? (i := 1718) (by decide +kernel)
theorem caX0_X4 : Cond.castable RX0 RX4 ∈ lw_tbl := List.mem_of_getElem? (i := 1719) (by decide +kernel)
theorem caX3_X4 : Cond.castable RX3 RX4 ∈ lw_tbl := List.mem_of_getElem? (i := 1720) (by decide +kernel)
theorem caX1_X4 : Cond.castable RX1 RX4 ∈ lw_tbl := List.mem_of_getElem? (i := 1721) (by decide +kernel)
theorem jfJ0_9 : Cond.fieldLink RJ0 9 "java/lang/String" "value" "[B" ∈ lw_tbl := List.mem_of_getElem? (i := 1722) (by decide +kernel)
theorem jfJ0_15 : Cond.fieldLink RJ0 15 "java/lang/String" "coder" "B" ∈ lw_tbl := List.mem_of_getElem? (i := 1723) (by decide +kernel)
