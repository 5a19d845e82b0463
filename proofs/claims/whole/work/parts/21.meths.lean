abbrev mX0_init : zMe := (yX0_init, cX0_init, 1, none, 1, 24)
theorem okX0_init : zMOk mX0_init 0 := ⟨lw_in (i := 415) (by decide +kernel) (by decide +kernel), lw_in (i := 82) (by decide +kernel) (by decide +kernel), by decide +kernel, by decide +kernel, by decide +kernel⟩
theorem imX0_init : Cond.instanceMethod yX0_init ∈ lw_all := lw_in (i := 414) (by decide +kernel) (by decide +kernel)
abbrev mX0_rateOf : zMe := (yX0_rateOf, cX0_rateOf, 2, some .int, 0, 0)
theorem okX0_rateOf : zMOk mX0_rateOf 1 := ⟨lw_in (i := 1151) (by decide +kernel) (by decide +kernel), lw_in (i := 82) (by decide +kernel) (by decide +kernel), by decide +kernel, by decide +kernel, by decide +kernel⟩
theorem imX0_rateOf : Cond.instanceMethod yX0_rateOf ∈ lw_all := lw_in (i := 1149) (by decide +kernel) (by decide +kernel)
theorem seX0_rateOf : Cond.selects yX0_rateOf.cls yX0_rateOf yX0_rateOf ∈ lw_all := lw_in (i := 1150) (by decide +kernel) (by decide +kernel)
abbrev mX0_neckOf : zMe := (yX0_neckOf, cX0_neckOf, 2, some .int, 0, 0)
theorem okX0_neckOf : zMOk mX0_neckOf 1 := ⟨lw_in (i := 1159) (by decide +kernel) (by decide +kernel), lw_in (i := 82) (by decide +kernel) (by decide +kernel), by decide +kernel, by decide +kernel, by decide +kernel⟩
theorem imX0_neckOf : Cond.instanceMethod yX0_neckOf ∈ lw_all := lw_in (i := 1157) (by decide +kernel) (by decide +kernel)
theorem seX0_neckOf : Cond.selects yX0_neckOf.cls yX0_neckOf yX0_neckOf ∈ lw_all := lw_in (i := 1158) (by decide +kernel) (by decide +kernel)
abbrev mX0_workOut : zMe := (yX0_workOut, cX0_workOut, 4, none, 5, 118)
theorem okX0_workOut : zMOk mX0_workOut 1 := ⟨lw_in (i := 1132) (by decide +kernel) (by decide +kernel), lw_in (i := 82) (by decide +kernel) (by decide +kernel), by decide +kernel, by decide +kernel, by decide +kernel⟩
theorem imX0_workOut : Cond.instanceMethod yX0_workOut ∈ lw_all := lw_in (i := 1130) (by decide +kernel) (by decide +kernel)
theorem seX0_workOut : Cond.selects yX0_workOut.cls yX0_workOut yX0_workOut ∈ lw_all := lw_in (i := 1131) (by decide +kernel) (by decide +kernel)
abbrev mX0_stopAtTightest : zMe := (yX0_stopAtTightest, cX0_stopAtTightest, 6, none, 4, 93)
theorem okX0_stopAtTightest : zMOk mX0_stopAtTightest 1 := ⟨lw_in (i := 1137) (by decide +kernel) (by decide +kernel), lw_in (i := 82) (by decide +kernel) (by decide +kernel), by decide +kernel, by decide +kernel, by decide +kernel⟩
theorem imX0_stopAtTightest : Cond.instanceMethod yX0_stopAtTightest ∈ lw_all := lw_in (i := 1135) (by decide +kernel) (by decide +kernel)
theorem seX0_stopAtTightest : Cond.selects yX0_stopAtTightest.cls yX0_stopAtTightest yX0_stopAtTightest ∈ lw_all := lw_in (i := 1136) (by decide +kernel) (by decide +kernel)
abbrev mX0_roomForEach : zMe := (yX0_roomForEach, cX0_roomForEach, 7, some .int, 3, 67)
theorem okX0_roomForEach : zMOk mX0_roomForEach 2 := ⟨lw_in (i := 1141) (by decide +kernel) (by decide +kernel), lw_in (i := 82) (by decide +kernel) (by decide +kernel), by decide +kernel, by decide +kernel, by decide +kernel⟩
theorem imX0_roomForEach : Cond.instanceMethod yX0_roomForEach ∈ lw_all := lw_in (i := 1139) (by decide +kernel) (by decide +kernel)
theorem seX0_roomForEach : Cond.selects yX0_roomForEach.cls yX0_roomForEach yX0_roomForEach ∈ lw_all := lw_in (i := 1140) (by decide +kernel) (by decide +kernel)
abbrev mX0_crosses : zMe := (yX0_crosses, cX0_crosses, 5, some .boolean, 2, 43)
theorem okX0_crosses : zMOk mX0_crosses 3 := ⟨lw_in (i := 1146) (by decide +kernel) (by decide +kernel), lw_in (i := 82) (by decide +kernel) (by decide +kernel), by decide +kernel, by decide +kernel, by decide +kernel⟩
theorem imX0_crosses : Cond.instanceMethod yX0_crosses ∈ lw_all := lw_in (i := 1144) (by decide +kernel) (by decide +kernel)
theorem seX0_crosses : Cond.selects yX0_crosses.cls yX0_crosses yX0_crosses ∈ lw_all := lw_in (i := 1145) (by decide +kernel) (by decide +kernel)
abbrev mX1_init : zMe := (yX1_init, cX1_init, 1, none, 1, 24)
theorem okX1_init : zMOk mX1_init 0 := ⟨lw_in (i := 135) (by decide +kernel) (by decide +kernel), lw_in (i := 77) (by decide +kernel) (by decide +kernel), by decide +kernel, by decide +kernel, by decide +kernel⟩
theorem imX1_init : Cond.instanceMethod yX1_init ∈ lw_all := lw_in (i := 134) (by decide +kernel) (by decide +kernel)
abbrev mX1_clear : zMe := (yX1_clear, cX1_clear, 1, none, 0, 0)
theorem okX1_clear : zMOk mX1_clear 0 := ⟨lw_in (i := 512) (by decide +kernel) (by decide +kernel), lw_in (i := 77) (by decide +kernel) (by decide +kernel), by decide +kernel, by decide +kernel, by decide +kernel⟩
theorem imX1_clear : Cond.instanceMethod yX1_clear ∈ lw_all := lw_in (i := 510) (by decide +kernel) (by decide +kernel)
theorem seX1_clear : Cond.selects yX1_clear.cls yX1_clear yX1_clear ∈ lw_all := lw_in (i := 511) (by decide +kernel) (by decide +kernel)
abbrev mX1_copyFrom : zMe := (yX1_copyFrom, cX1_copyFrom, 2, none, 1, 60)
theorem okX1_copyFrom : zMOk mX1_copyFrom 1 := ⟨lw_in (i := 1118) (by decide +kernel) (by decide +kernel), lw_in (i := 77) (by decide +kernel) (by decide +kernel), by decide +kernel, by decide +kernel, by decide +kernel⟩
theorem imX1_copyFrom : Cond.instanceMethod yX1_copyFrom ∈ lw_all := lw_in (i := 1116) (by decide +kernel) (by decide +kernel)
theorem seX1_copyFrom : Cond.selects yX1_copyFrom.cls yX1_copyFrom yX1_copyFrom ∈ lw_all := lw_in (i := 1117) (by decide +kernel) (by decide +kernel)
abbrev mX1_add : zMe := (yX1_add, cX1_add, 5, none, 1, 21)
theorem okX1_add : zMOk mX1_add 4 := ⟨lw_in (i := 931) (by decide +kernel) (by decide +kernel), lw_in (i := 77) (by decide +kernel) (by decide +kernel), by decide +kernel, by decide +kernel, by decide +kernel⟩
theorem imX1_add : Cond.instanceMethod yX1_add ∈ lw_all := lw_in (i := 929) (by decide +kernel) (by decide +kernel)
theorem seX1_add : Cond.selects yX1_add.cls yX1_add yX1_add ∈ lw_all := lw_in (i := 930) (by decide +kernel) (by decide +kernel)
abbrev mX1_tell : zMe := (yX1_tell, cX1_tell, 4, some .int, 1, 22)
theorem okX1_tell : zMOk mX1_tell 2 := ⟨lw_in (i := 786) (by decide +kernel) (by decide +kernel), lw_in (i := 77) (by decide +kernel) (by decide +kernel), by decide +kernel, by decide +kernel, by decide +kernel⟩
theorem imX1_tell : Cond.instanceMethod yX1_tell ∈ lw_all := lw_in (i := 784) (by decide +kernel) (by decide +kernel)
theorem seX1_tell : Cond.selects yX1_tell.cls yX1_tell yX1_tell ∈ lw_all := lw_in (i := 785) (by decide +kernel) (by decide +kernel)
abbrev mX2_init : zMe := (yX2_init, cX2_init, 1, none, 1, 24)
theorem okX2_init : zMOk mX2_init 0 := ⟨lw_in (i := 264) (by decide +kernel) (by decide +kernel), lw_in (i := 80) (by decide +kernel) (by decide +kernel), by decide +kernel, by decide +kernel, by decide +kernel⟩
theorem imX2_init : Cond.instanceMethod yX2_init ∈ lw_all := lw_in (i := 263) (by decide +kernel) (by decide +kernel)
abbrev mX2_begin : zMe := (yX2_begin, cX2_begin, 1, none, 0, 0)
theorem okX2_begin : zMOk mX2_begin 0 := ⟨lw_in (i := 630) (by decide +kernel) (by decide +kernel), lw_in (i := 80) (by decide +kernel) (by decide +kernel), by decide +kernel, by decide +kernel, by decide +kernel⟩
theorem imX2_begin : Cond.instanceMethod yX2_begin ∈ lw_all := lw_in (i := 628) (by decide +kernel) (by decide +kernel)
theorem seX2_begin : Cond.selects yX2_begin.cls yX2_begin yX2_begin ∈ lw_all := lw_in (i := 629) (by decide +kernel) (by decide +kernel)
abbrev mX2_copyFrom : zMe := (yX2_copyFrom, cX2_copyFrom, 2, none, 1, 60)
theorem okX2_copyFrom : zMOk mX2_copyFrom 1 := ⟨lw_in (i := 1113) (by decide +kernel) (by decide +kernel), lw_in (i := 80) (by decide +kernel) (by decide +kernel), by decide +kernel, by decide +kernel, by decide +kernel⟩
theorem imX2_copyFrom : Cond.instanceMethod yX2_copyFrom ∈ lw_all := lw_in (i := 1111) (by decide +kernel) (by decide +kernel)
theorem seX2_copyFrom : Cond.selects yX2_copyFrom.cls yX2_copyFrom yX2_copyFrom ∈ lw_all := lw_in (i := 1112) (by decide +kernel) (by decide +kernel)
abbrev mX2_pathAt : zMe := (yX2_pathAt, cX2_pathAt, 2, some .int, 0, 0)
theorem okX2_pathAt : zMOk mX2_pathAt 1 := ⟨lw_in (i := 642) (by decide +kernel) (by decide +kernel), lw_in (i := 80) (by decide +kernel) (by decide +kernel), by decide +kernel, by decide +kernel, by decide +kernel⟩
theorem imX2_pathAt : Cond.instanceMethod yX2_pathAt ∈ lw_all := lw_in (i := 640) (by decide +kernel) (by decide +kernel)
theorem seX2_pathAt : Cond.selects yX2_pathAt.cls yX2_pathAt yX2_pathAt ∈ lw_all := lw_in (i := 641) (by decide +kernel) (by decide +kernel)
abbrev mX2_putPath : zMe := (yX2_putPath, cX2_putPath, 3, none, 0, 0)
theorem okX2_putPath : zMOk mX2_putPath 2 := ⟨lw_in (i := 650) (by decide +kernel) (by decide +kernel), lw_in (i := 80) (by decide +kernel) (by decide +kernel), by decide +kernel, by decide +kernel, by decide +kernel⟩
theorem imX2_putPath : Cond.instanceMethod yX2_putPath ∈ lw_all := lw_in (i := 648) (by decide +kernel) (by decide +kernel)
theorem seX2_putPath : Cond.selects yX2_putPath.cls yX2_putPath yX2_putPath ∈ lw_all := lw_in (i := 649) (by decide +kernel) (by decide +kernel)
abbrev mX2_addToPath : zMe := (yX2_addToPath, cX2_addToPath, 2, none, 1, 22)
theorem okX2_addToPath : zMOk mX2_addToPath 1 := ⟨lw_in (i := 646) (by decide +kernel) (by decide +kernel), lw_in (i := 80) (by decide +kernel) (by decide +kernel), by decide +kernel, by decide +kernel, by decide +kernel⟩
theorem imX2_addToPath : Cond.instanceMethod yX2_addToPath ∈ lw_all := lw_in (i := 644) (by decide +kernel) (by decide +kernel)
theorem seX2_addToPath : Cond.selects yX2_addToPath.cls yX2_addToPath yX2_addToPath ∈ lw_all := lw_in (i := 645) (by decide +kernel) (by decide +kernel)
abbrev mX2_goesOver : zMe := (yX2_goesOver, cX2_goesOver, 3, some .boolean, 1, 21)
theorem okX2_goesOver : zMOk mX2_goesOver 1 := ⟨lw_in (i := 638) (by decide +kernel) (by decide +kernel), lw_in (i := 80) (by decide +kernel) (by decide +kernel), by decide +kernel, by decide +kernel, by decide +kernel⟩
theorem imX2_goesOver : Cond.instanceMethod yX2_goesOver ∈ lw_all := lw_in (i := 636) (by decide +kernel) (by decide +kernel)
theorem seX2_goesOver : Cond.selects yX2_goesOver.cls yX2_goesOver yX2_goesOver ∈ lw_all := lw_in (i := 637) (by decide +kernel) (by decide +kernel)
abbrev mX2_hasPathOf : zMe := (yX2_hasPathOf, cX2_hasPathOf, 3, some .boolean, 1, 21)
theorem okX2_hasPathOf : zMOk mX2_hasPathOf 1 := ⟨lw_in (i := 858) (by decide +kernel) (by decide +kernel), lw_in (i := 80) (by decide +kernel) (by decide +kernel), by decide +kernel, by decide +kernel, by decide +kernel⟩
theorem imX2_hasPathOf : Cond.instanceMethod yX2_hasPathOf ∈ lw_all := lw_in (i := 856) (by decide +kernel) (by decide +kernel)
theorem seX2_hasPathOf : Cond.selects yX2_hasPathOf.cls yX2_hasPathOf yX2_hasPathOf ∈ lw_all := lw_in (i := 857) (by decide +kernel) (by decide +kernel)
abbrev mX2_hasPathBackwards : zMe := (yX2_hasPathBackwards, cX2_hasPathBackwards, 3, some .boolean, 1, 21)
theorem okX2_hasPathBackwards : zMOk mX2_hasPathBackwards 1 := ⟨lw_in (i := 862) (by decide +kernel) (by decide +kernel), lw_in (i := 80) (by decide +kernel) (by decide +kernel), by decide +kernel, by decide +kernel, by decide +kernel⟩
theorem imX2_hasPathBackwards : Cond.instanceMethod yX2_hasPathBackwards ∈ lw_all := lw_in (i := 860) (by decide +kernel) (by decide +kernel)
theorem seX2_hasPathBackwards : Cond.selects yX2_hasPathBackwards.cls yX2_hasPathBackwards yX2_hasPathBackwards ∈ lw_all := lw_in (i := 861) (by decide +kernel) (by decide +kernel)
abbrev mX2_maySend : zMe := (yX2_maySend, cX2_maySend, 2, some .boolean, 0, 0)
theorem okX2_maySend : zMOk mX2_maySend 0 := ⟨lw_in (i := 963) (by decide +kernel) (by decide +kernel), lw_in (i := 80) (by decide +kernel) (by decide +kernel), by decide +kernel, by decide +kernel, by decide +kernel⟩
theorem imX2_maySend : Cond.instanceMethod yX2_maySend ∈ lw_all := lw_in (i := 961) (by decide +kernel) (by decide +kernel)
theorem seX2_maySend : Cond.selects yX2_maySend.cls yX2_maySend yX2_maySend ∈ lw_all := lw_in (i := 962) (by decide +kernel) (by decide +kernel)
abbrev mX2_noteSent : zMe := (yX2_noteSent, cX2_noteSent, 1, none, 0, 0)
theorem okX2_noteSent : zMOk mX2_noteSent 0 := ⟨lw_in (i := 1035) (by decide +kernel) (by decide +kernel), lw_in (i := 80) (by decide +kernel) (by decide +kernel), by decide +kernel, by decide +kernel, by decide +kernel⟩
theorem imX2_noteSent : Cond.instanceMethod yX2_noteSent ∈ lw_all := lw_in (i := 1033) (by decide +kernel) (by decide +kernel)
theorem seX2_noteSent : Cond.selects yX2_noteSent.cls yX2_noteSent yX2_noteSent ∈ lw_all := lw_in (i := 1034) (by decide +kernel) (by decide +kernel)
abbrev mX2_noteReturn : zMe := (yX2_noteReturn, cX2_noteReturn, 4, none, 2, 43)
theorem okX2_noteReturn : zMOk mX2_noteReturn 3 := ⟨lw_in (i := 917) (by decide +kernel) (by decide +kernel), lw_in (i := 80) (by decide +kernel) (by decide +kernel), by decide +kernel, by decide +kernel, by decide +kernel⟩
theorem imX2_noteReturn : Cond.instanceMethod yX2_noteReturn ∈ lw_all := lw_in (i := 915) (by decide +kernel) (by decide +kernel)
theorem seX2_noteReturn : Cond.selects yX2_noteReturn.cls yX2_noteReturn yX2_noteReturn ∈ lw_all := lw_in (i := 916) (by decide +kernel) (by decide +kernel)
abbrev mX2_gain : zMe := (yX2_gain, cX2_gain, 3, some .int, 1, 21)
theorem okX2_gain : zMOk mX2_gain 2 := ⟨lw_in (i := 922) (by decide +kernel) (by decide +kernel), lw_in (i := 80) (by decide +kernel) (by decide +kernel), by decide +kernel, by decide +kernel, by decide +kernel⟩
theorem imX2_gain : Cond.instanceMethod yX2_gain ∈ lw_all := lw_in (i := 920) (by decide +kernel) (by decide +kernel)
theorem seX2_gain : Cond.selects yX2_gain.cls yX2_gain yX2_gain ∈ lw_all := lw_in (i := 921) (by decide +kernel) (by decide +kernel)
abbrev mX2_isThrough : zMe := (yX2_isThrough, cX2_isThrough, 1, some .boolean, 0, 0)
theorem okX2_isThrough : zMOk mX2_isThrough 0 := ⟨lw_in (i := 927) (by decide +kernel) (by decide +kernel), lw_in (i := 80) (by decide +kernel) (by decide +kernel), by decide +kernel, by decide +kernel, by decide +kernel⟩
theorem imX2_isThrough : Cond.instanceMethod yX2_isThrough ∈ lw_all := lw_in (i := 925) (by decide +kernel) (by decide +kernel)
theorem seX2_isThrough : Cond.selects yX2_isThrough.cls yX2_isThrough yX2_isThrough ∈ lw_all := lw_in (i := 926) (by decide +kernel) (by decide +kernel)
abbrev mX2_tell : zMe := (yX2_tell, cX2_tell, 2, some .int, 0, 0)
theorem okX2_tell : zMOk mX2_tell 1 := ⟨lw_in (i := 738) (by decide +kernel) (by decide +kernel), lw_in (i := 80) (by decide +kernel) (by decide +kernel), by decide +kernel, by decide +kernel, by decide +kernel⟩
theorem imX2_tell : Cond.instanceMethod yX2_tell ∈ lw_all := lw_in (i := 736) (by decide +kernel) (by decide +kernel)
theorem seX2_tell : Cond.selects yX2_tell.cls yX2_tell yX2_tell ∈ lw_all := lw_in (i := 737) (by decide +kernel) (by decide +kernel)
abbrev mX3_init : zMe := (yX3_init, cX3_init, 1, none, 1, 24)
theorem okX3_init : zMOk mX3_init 0 := ⟨lw_in (i := 114) (by decide +kernel) (by decide +kernel), lw_in (i := 76) (by decide +kernel) (by decide +kernel), by decide +kernel, by decide +kernel, by decide +kernel⟩
theorem imX3_init : Cond.instanceMethod yX3_init ∈ lw_all := lw_in (i := 113) (by decide +kernel) (by decide +kernel)
abbrev mX3_append : zMe := (yX3_append, cX3_append, 2, none, 0, 0)
theorem okX3_append : zMOk mX3_append 1 := ⟨lw_in (i := 508) (by decide +kernel) (by decide +kernel), lw_in (i := 76) (by decide +kernel) (by decide +kernel), by decide +kernel, by decide +kernel, by decide +kernel⟩
theorem imX3_append : Cond.instanceMethod yX3_append ∈ lw_all := lw_in (i := 506) (by decide +kernel) (by decide +kernel)
theorem seX3_append : Cond.selects yX3_append.cls yX3_append yX3_append ∈ lw_all := lw_in (i := 507) (by decide +kernel) (by decide +kernel)
abbrev mX3_takeFirst : zMe := (yX3_takeFirst, cX3_takeFirst, 2, some (.object "SharedSurplus$Packet"), 0, 0)
theorem okX3_takeFirst : zMOk mX3_takeFirst 0 := ⟨lw_in (i := 504) (by decide +kernel) (by decide +kernel), lw_in (i := 76) (by decide +kernel) (by decide +kernel), by decide +kernel, by decide +kernel, by decide +kernel⟩
theorem imX3_takeFirst : Cond.instanceMethod yX3_takeFirst ∈ lw_all := lw_in (i := 502) (by decide +kernel) (by decide +kernel)
theorem seX3_takeFirst : Cond.selects yX3_takeFirst.cls yX3_takeFirst yX3_takeFirst ∈ lw_all := lw_in (i := 503) (by decide +kernel) (by decide +kernel)
abbrev mX3_moveAllTo : zMe := (yX3_moveAllTo, cX3_moveAllTo, 4, none, 1, 21)
theorem okX3_moveAllTo : zMOk mX3_moveAllTo 1 := ⟨lw_in (i := 500) (by decide +kernel) (by decide +kernel), lw_in (i := 76) (by decide +kernel) (by decide +kernel), by decide +kernel, by decide +kernel, by decide +kernel⟩
theorem imX3_moveAllTo : Cond.instanceMethod yX3_moveAllTo ∈ lw_all := lw_in (i := 498) (by decide +kernel) (by decide +kernel)
theorem seX3_moveAllTo : Cond.selects yX3_moveAllTo.cls yX3_moveAllTo yX3_moveAllTo ∈ lw_all := lw_in (i := 499) (by decide +kernel) (by decide +kernel)
abbrev mX3_packetAt : zMe := (yX3_packetAt, cX3_packetAt, 4, some (.object "SharedSurplus$Packet"), 0, 0)
theorem okX3_packetAt : zMOk mX3_packetAt 1 := ⟨lw_in (i := 751) (by decide +kernel) (by decide +kernel), lw_in (i := 76) (by decide +kernel) (by decide +kernel), by decide +kernel, by decide +kernel, by decide +kernel⟩
theorem imX3_packetAt : Cond.instanceMethod yX3_packetAt ∈ lw_all := lw_in (i := 749) (by decide +kernel) (by decide +kernel)
theorem seX3_packetAt : Cond.selects yX3_packetAt.cls yX3_packetAt yX3_packetAt ∈ lw_all := lw_in (i := 750) (by decide +kernel) (by decide +kernel)
abbrev mX3_countOf : zMe := (yX3_countOf, cX3_countOf, 4, some .int, 0, 0)
theorem okX3_countOf : zMOk mX3_countOf 1 := ⟨lw_in (i := 807) (by decide +kernel) (by decide +kernel), lw_in (i := 76) (by decide +kernel) (by decide +kernel), by decide +kernel, by decide +kernel, by decide +kernel⟩
theorem imX3_countOf : Cond.instanceMethod yX3_countOf ∈ lw_all := lw_in (i := 805) (by decide +kernel) (by decide +kernel)
theorem seX3_countOf : Cond.selects yX3_countOf.cls yX3_countOf yX3_countOf ∈ lw_all := lw_in (i := 806) (by decide +kernel) (by decide +kernel)
abbrev mX3_lostOf : zMe := (yX3_lostOf, cX3_lostOf, 4, some .int, 0, 0)
theorem okX3_lostOf : zMOk mX3_lostOf 1 := ⟨lw_in (i := 816) (by decide +kernel) (by decide +kernel), lw_in (i := 76) (by decide +kernel) (by decide +kernel), by decide +kernel, by decide +kernel, by decide +kernel⟩
theorem imX3_lostOf : Cond.instanceMethod yX3_lostOf ∈ lw_all := lw_in (i := 814) (by decide +kernel) (by decide +kernel)
theorem seX3_lostOf : Cond.selects yX3_lostOf.cls yX3_lostOf yX3_lostOf ∈ lw_all := lw_in (i := 815) (by decide +kernel) (by decide +kernel)
abbrev mX3_earlierSentOf : zMe := (yX3_earlierSentOf, cX3_earlierSentOf, 5, some .int, 0, 0)
theorem okX3_earlierSentOf : zMOk mX3_earlierSentOf 2 := ⟨lw_in (i := 828) (by decide +kernel) (by decide +kernel), lw_in (i := 76) (by decide +kernel) (by decide +kernel), by decide +kernel, by decide +kernel, by decide +kernel⟩
theorem imX3_earlierSentOf : Cond.instanceMethod yX3_earlierSentOf ∈ lw_all := lw_in (i := 826) (by decide +kernel) (by decide +kernel)
theorem seX3_earlierSentOf : Cond.selects yX3_earlierSentOf.cls yX3_earlierSentOf yX3_earlierSentOf ∈ lw_all := lw_in (i := 827) (by decide +kernel) (by decide +kernel)
abbrev mX4_init : zMe := (yX4_init, cX4_init, 1, none, 2, 44)
theorem okX4_init : zMOk mX4_init 0 := ⟨lw_in (i := 161) (by decide +kernel) (by decide +kernel), lw_in (i := 78) (by decide +kernel) (by decide +kernel), by decide +kernel, by decide +kernel, by decide +kernel⟩
theorem imX4_init : Cond.instanceMethod yX4_init ∈ lw_all := lw_in (i := 160) (by decide +kernel) (by decide +kernel)
abbrev mX4_allows : zMe := (yX4_allows, cX4_allows, 2, some .boolean, 0, 0)
theorem okX4_allows : zMOk mX4_allows 2 := ⟨lw_in (i := 869) (by decide +kernel) (by decide +kernel), lw_in (i := 78) (by decide +kernel) (by decide +kernel), by decide +kernel, by decide +kernel, by decide +kernel⟩
theorem stX4_allows : Cond.static yX4_allows ∈ lw_all := lw_in (i := 868) (by decide +kernel) (by decide +kernel)
abbrev mX4_setting : zMe := (yX4_setting, cX4_setting, 2, some .int, 0, 0)
theorem okX4_setting : zMOk mX4_setting 1 := ⟨lw_in (i := 873) (by decide +kernel) (by decide +kernel), lw_in (i := 78) (by decide +kernel) (by decide +kernel), by decide +kernel, by decide +kernel, by decide +kernel⟩
theorem imX4_setting : Cond.instanceMethod yX4_setting ∈ lw_all := lw_in (i := 871) (by decide +kernel) (by decide +kernel)
theorem seX4_setting : Cond.selects yX4_setting.cls yX4_setting yX4_setting ∈ lw_all := lw_in (i := 872) (by decide +kernel) (by decide +kernel)
abbrev mX4_change : zMe := (yX4_change, cX4_change, 3, none, 0, 0)
theorem okX4_change : zMOk mX4_change 2 := ⟨lw_in (i := 877) (by decide +kernel) (by decide +kernel), lw_in (i := 78) (by decide +kernel) (by decide +kernel), by decide +kernel, by decide +kernel, by decide +kernel⟩
theorem imX4_change : Cond.instanceMethod yX4_change ∈ lw_all := lw_in (i := 875) (by decide +kernel) (by decide +kernel)
theorem seX4_change : Cond.selects yX4_change.cls yX4_change yX4_change ∈ lw_all := lw_in (i := 876) (by decide +kernel) (by decide +kernel)
abbrev mX4_begin : zMe := (yX4_begin, cX4_begin, 1, none, 2, 43)
theorem okX4_begin : zMOk mX4_begin 0 := ⟨lw_in (i := 602) (by decide +kernel) (by decide +kernel), lw_in (i := 78) (by decide +kernel) (by decide +kernel), by decide +kernel, by decide +kernel, by decide +kernel⟩
theorem imX4_begin : Cond.instanceMethod yX4_begin ∈ lw_all := lw_in (i := 600) (by decide +kernel) (by decide +kernel)
theorem seX4_begin : Cond.selects yX4_begin.cls yX4_begin yX4_begin ∈ lw_all := lw_in (i := 601) (by decide +kernel) (by decide +kernel)
abbrev mX4_copyFrom : zMe := (yX4_copyFrom, cX4_copyFrom, 2, none, 1, 60)
theorem okX4_copyFrom : zMOk mX4_copyFrom 1 := ⟨lw_in (i := 1094) (by decide +kernel) (by decide +kernel), lw_in (i := 78) (by decide +kernel) (by decide +kernel), by decide +kernel, by decide +kernel, by decide +kernel⟩
theorem imX4_copyFrom : Cond.instanceMethod yX4_copyFrom ∈ lw_all := lw_in (i := 1092) (by decide +kernel) (by decide +kernel)
theorem seX4_copyFrom : Cond.selects yX4_copyFrom.cls yX4_copyFrom yX4_copyFrom ∈ lw_all := lw_in (i := 1093) (by decide +kernel) (by decide +kernel)
abbrev mX4_hasCaught : zMe := (yX4_hasCaught, cX4_hasCaught, 2, some .boolean, 0, 0)
theorem okX4_hasCaught : zMOk mX4_hasCaught 1 := ⟨lw_in (i := 734) (by decide +kernel) (by decide +kernel), lw_in (i := 78) (by decide +kernel) (by decide +kernel), by decide +kernel, by decide +kernel, by decide +kernel⟩
theorem imX4_hasCaught : Cond.instanceMethod yX4_hasCaught ∈ lw_all := lw_in (i := 732) (by decide +kernel) (by decide +kernel)
theorem seX4_hasCaught : Cond.selects yX4_hasCaught.cls yX4_hasCaught yX4_hasCaught ∈ lw_all := lw_in (i := 733) (by decide +kernel) (by decide +kernel)
abbrev mX4_letsIn : zMe := (yX4_letsIn, cX4_letsIn, 2, some .boolean, 1, 21)
theorem okX4_letsIn : zMOk mX4_letsIn 1 := ⟨lw_in (i := 949) (by decide +kernel) (by decide +kernel), lw_in (i := 78) (by decide +kernel) (by decide +kernel), by decide +kernel, by decide +kernel, by decide +kernel⟩
theorem imX4_letsIn : Cond.instanceMethod yX4_letsIn ∈ lw_all := lw_in (i := 947) (by decide +kernel) (by decide +kernel)
theorem seX4_letsIn : Cond.selects yX4_letsIn.cls yX4_letsIn yX4_letsIn ∈ lw_all := lw_in (i := 948) (by decide +kernel) (by decide +kernel)
abbrev mX4_takeIn : zMe := (yX4_takeIn, cX4_takeIn, 3, none, 1, 21)
theorem okX4_takeIn : zMOk mX4_takeIn 1 := ⟨lw_in (i := 954) (by decide +kernel) (by decide +kernel), lw_in (i := 78) (by decide +kernel) (by decide +kernel), by decide +kernel, by decide +kernel, by decide +kernel⟩
theorem imX4_takeIn : Cond.instanceMethod yX4_takeIn ∈ lw_all := lw_in (i := 952) (by decide +kernel) (by decide +kernel)
theorem seX4_takeIn : Cond.selects yX4_takeIn.cls yX4_takeIn yX4_takeIn ∈ lw_all := lw_in (i := 953) (by decide +kernel) (by decide +kernel)
abbrev mX4_serveRow : zMe := (yX4_serveRow, cX4_serveRow, 4, none, 4, 94)
theorem okX4_serveRow : zMOk mX4_serveRow 1 := ⟨lw_in (i := 1039) (by decide +kernel) (by decide +kernel), lw_in (i := 78) (by decide +kernel) (by decide +kernel), by decide +kernel, by decide +kernel, by decide +kernel⟩
theorem imX4_serveRow : Cond.instanceMethod yX4_serveRow ∈ lw_all := lw_in (i := 1037) (by decide +kernel) (by decide +kernel)
theorem seX4_serveRow : Cond.selects yX4_serveRow.cls yX4_serveRow yX4_serveRow ∈ lw_all := lw_in (i := 1038) (by decide +kernel) (by decide +kernel)
abbrev mX4_endsSpanAt : zMe := (yX4_endsSpanAt, cX4_endsSpanAt, 2, some .boolean, 0, 0)
theorem okX4_endsSpanAt : zMOk mX4_endsSpanAt 1 := ⟨lw_in (i := 1054) (by decide +kernel) (by decide +kernel), lw_in (i := 78) (by decide +kernel) (by decide +kernel), by decide +kernel, by decide +kernel, by decide +kernel⟩
theorem imX4_endsSpanAt : Cond.instanceMethod yX4_endsSpanAt ∈ lw_all := lw_in (i := 1052) (by decide +kernel) (by decide +kernel)
theorem seX4_endsSpanAt : Cond.selects yX4_endsSpanAt.cls yX4_endsSpanAt yX4_endsSpanAt ∈ lw_all := lw_in (i := 1053) (by decide +kernel) (by decide +kernel)
abbrev mX4_endSpan : zMe := (yX4_endSpan, cX4_endSpan, 3, none, 2, 55)
theorem okX4_endSpan : zMOk mX4_endSpan 0 := ⟨lw_in (i := 1058) (by decide +kernel) (by decide +kernel), lw_in (i := 78) (by decide +kernel) (by decide +kernel), by decide +kernel, by decide +kernel, by decide +kernel⟩
theorem imX4_endSpan : Cond.instanceMethod yX4_endSpan ∈ lw_all := lw_in (i := 1056) (by decide +kernel) (by decide +kernel)
theorem seX4_endSpan : Cond.selects yX4_endSpan.cls yX4_endSpan yX4_endSpan ∈ lw_all := lw_in (i := 1057) (by decide +kernel) (by decide +kernel)
abbrev mX4_mostAllowed : zMe := (yX4_mostAllowed, cX4_mostAllowed, 3, some .int, 0, 0)
theorem okX4_mostAllowed : zMOk mX4_mostAllowed 1 := ⟨lw_in (i := 1073) (by decide +kernel) (by decide +kernel), lw_in (i := 78) (by decide +kernel) (by decide +kernel), by decide +kernel, by decide +kernel, by decide +kernel⟩
theorem imX4_mostAllowed : Cond.instanceMethod yX4_mostAllowed ∈ lw_all := lw_in (i := 1071) (by decide +kernel) (by decide +kernel)
theorem seX4_mostAllowed : Cond.selects yX4_mostAllowed.cls yX4_mostAllowed yX4_mostAllowed ∈ lw_all := lw_in (i := 1072) (by decide +kernel) (by decide +kernel)
abbrev mX4_beginSpan : zMe := (yX4_beginSpan, cX4_beginSpan, 1, none, 1, 23)
theorem okX4_beginSpan : zMOk mX4_beginSpan 0 := ⟨lw_in (i := 610) (by decide +kernel) (by decide +kernel), lw_in (i := 78) (by decide +kernel) (by decide +kernel), by decide +kernel, by decide +kernel, by decide +kernel⟩
theorem imX4_beginSpan : Cond.instanceMethod yX4_beginSpan ∈ lw_all := lw_in (i := 608) (by decide +kernel) (by decide +kernel)
theorem seX4_beginSpan : Cond.selects yX4_beginSpan.cls yX4_beginSpan yX4_beginSpan ∈ lw_all := lw_in (i := 609) (by decide +kernel) (by decide +kernel)
abbrev mX4_tell : zMe := (yX4_tell, cX4_tell, 2, some .int, 1, 21)
theorem okX4_tell : zMOk mX4_tell 1 := ⟨lw_in (i := 714) (by decide +kernel) (by decide +kernel), lw_in (i := 78) (by decide +kernel) (by decide +kernel), by decide +kernel, by decide +kernel, by decide +kernel⟩
theorem imX4_tell : Cond.instanceMethod yX4_tell ∈ lw_all := lw_in (i := 712) (by decide +kernel) (by decide +kernel)
theorem seX4_tell : Cond.selects yX4_tell.cls yX4_tell yX4_tell ∈ lw_all := lw_in (i := 713) (by decide +kernel) (by decide +kernel)
abbrev mX4_tellSurplus : zMe := (yX4_tellSurplus, cX4_tellSurplus, 2, some .int, 0, 0)
theorem okX4_tellSurplus : zMOk mX4_tellSurplus 1 := ⟨lw_in (i := 718) (by decide +kernel) (by decide +kernel), lw_in (i := 78) (by decide +kernel) (by decide +kernel), by decide +kernel, by decide +kernel, by decide +kernel⟩
theorem imX4_tellSurplus : Cond.instanceMethod yX4_tellSurplus ∈ lw_all := lw_in (i := 716) (by decide +kernel) (by decide +kernel)
theorem seX4_tellSurplus : Cond.selects yX4_tellSurplus.cls yX4_tellSurplus yX4_tellSurplus ∈ lw_all := lw_in (i := 717) (by decide +kernel) (by decide +kernel)
abbrev mX5_init : zMe := (yX5_init, cX5_init, 2, none, 3, 64)
theorem okX5_init : zMOk mX5_init 0 := ⟨lw_in (i := 104) (by decide +kernel) (by decide +kernel), lw_in (i := 75) (by decide +kernel) (by decide +kernel), by decide +kernel, by decide +kernel, by decide +kernel⟩
theorem imX5_init : Cond.instanceMethod yX5_init ∈ lw_all := lw_in (i := 103) (by decide +kernel) (by decide +kernel)
abbrev mX5_clear : zMe := (yX5_clear, cX5_clear, 1, none, 3, 65)
theorem okX5_clear : zMOk mX5_clear 0 := ⟨lw_in (i := 492) (by decide +kernel) (by decide +kernel), lw_in (i := 75) (by decide +kernel) (by decide +kernel), by decide +kernel, by decide +kernel, by decide +kernel⟩
theorem imX5_clear : Cond.instanceMethod yX5_clear ∈ lw_all := lw_in (i := 490) (by decide +kernel) (by decide +kernel)
theorem seX5_clear : Cond.selects yX5_clear.cls yX5_clear yX5_clear ∈ lw_all := lw_in (i := 491) (by decide +kernel) (by decide +kernel)
abbrev mX5_copyFrom : zMe := (yX5_copyFrom, cX5_copyFrom, 3, none, 4, 89)
theorem okX5_copyFrom : zMOk mX5_copyFrom 1 := ⟨lw_in (i := 1090) (by decide +kernel) (by decide +kernel), lw_in (i := 75) (by decide +kernel) (by decide +kernel), by decide +kernel, by decide +kernel, by decide +kernel⟩
theorem imX5_copyFrom : Cond.instanceMethod yX5_copyFrom ∈ lw_all := lw_in (i := 1088) (by decide +kernel) (by decide +kernel)
theorem seX5_copyFrom : Cond.selects yX5_copyFrom.cls yX5_copyFrom yX5_copyFrom ∈ lw_all := lw_in (i := 1089) (by decide +kernel) (by decide +kernel)
abbrev mX5_spareAllPackets : zMe := (yX5_spareAllPackets, cX5_spareAllPackets, 2, none, 2, 44)
theorem okX5_spareAllPackets : zMOk mX5_spareAllPackets 0 := ⟨lw_in (i := 496) (by decide +kernel) (by decide +kernel), lw_in (i := 75) (by decide +kernel) (by decide +kernel), by decide +kernel, by decide +kernel, by decide +kernel⟩
theorem imX5_spareAllPackets : Cond.instanceMethod yX5_spareAllPackets ∈ lw_all := lw_in (i := 494) (by decide +kernel) (by decide +kernel)
theorem seX5_spareAllPackets : Cond.selects yX5_spareAllPackets.cls yX5_spareAllPackets yX5_spareAllPackets ∈ lw_all := lw_in (i := 495) (by decide +kernel) (by decide +kernel)
abbrev mX5_copyLine : zMe := (yX5_copyLine, cX5_copyLine, 5, none, 3, 65)
theorem okX5_copyLine : zMOk mX5_copyLine 2 := ⟨lw_in (i := 1105) (by decide +kernel) (by decide +kernel), lw_in (i := 75) (by decide +kernel) (by decide +kernel), by decide +kernel, by decide +kernel, by decide +kernel⟩
theorem imX5_copyLine : Cond.instanceMethod yX5_copyLine ∈ lw_all := lw_in (i := 1103) (by decide +kernel) (by decide +kernel)
theorem seX5_copyLine : Cond.selects yX5_copyLine.cls yX5_copyLine yX5_copyLine ∈ lw_all := lw_in (i := 1104) (by decide +kernel) (by decide +kernel)
abbrev mX5_freshPacket : zMe := (yX5_freshPacket, cX5_freshPacket, 2, some (.object "SharedSurplus$Packet"), 2, 44)
theorem okX5_freshPacket : zMOk mX5_freshPacket 0 := ⟨lw_in (i := 967) (by decide +kernel) (by decide +kernel), lw_in (i := 75) (by decide +kernel) (by decide +kernel), by decide +kernel, by decide +kernel, by decide +kernel⟩
theorem imX5_freshPacket : Cond.instanceMethod yX5_freshPacket ∈ lw_all := lw_in (i := 965) (by decide +kernel) (by decide +kernel)
theorem seX5_freshPacket : Cond.selects yX5_freshPacket.cls yX5_freshPacket yX5_freshPacket ∈ lw_all := lw_in (i := 966) (by decide +kernel) (by decide +kernel)
abbrev mX5_linkAt : zMe := (yX5_linkAt, cX5_linkAt, 2, some (.object "SharedSurplus$Link"), 0, 0)
theorem okX5_linkAt : zMOk mX5_linkAt 1 := ⟨lw_in (i := 672) (by decide +kernel) (by decide +kernel), lw_in (i := 75) (by decide +kernel) (by decide +kernel), by decide +kernel, by decide +kernel, by decide +kernel⟩
theorem imX5_linkAt : Cond.instanceMethod yX5_linkAt ∈ lw_all := lw_in (i := 670) (by decide +kernel) (by decide +kernel)
theorem seX5_linkAt : Cond.selects yX5_linkAt.cls yX5_linkAt yX5_linkAt ∈ lw_all := lw_in (i := 671) (by decide +kernel) (by decide +kernel)
abbrev mX5_flowAt : zMe := (yX5_flowAt, cX5_flowAt, 2, some (.object "SharedSurplus$Flow"), 0, 0)
theorem okX5_flowAt : zMOk mX5_flowAt 1 := ⟨lw_in (i := 726) (by decide +kernel) (by decide +kernel), lw_in (i := 75) (by decide +kernel) (by decide +kernel), by decide +kernel, by decide +kernel, by decide +kernel⟩
theorem imX5_flowAt : Cond.instanceMethod yX5_flowAt ∈ lw_all := lw_in (i := 724) (by decide +kernel) (by decide +kernel)
theorem seX5_flowAt : Cond.selects yX5_flowAt.cls yX5_flowAt yX5_flowAt ∈ lw_all := lw_in (i := 725) (by decide +kernel) (by decide +kernel)
abbrev mX5_addLink : zMe := (yX5_addLink, cX5_addLink, 1, some (.object "SharedSurplus$Link"), 0, 0)
theorem okX5_addLink : zMOk mX5_addLink 0 := ⟨lw_in (i := 589) (by decide +kernel) (by decide +kernel), lw_in (i := 75) (by decide +kernel) (by decide +kernel), by decide +kernel, by decide +kernel, by decide +kernel⟩
theorem imX5_addLink : Cond.instanceMethod yX5_addLink ∈ lw_all := lw_in (i := 587) (by decide +kernel) (by decide +kernel)
theorem seX5_addLink : Cond.selects yX5_addLink.cls yX5_addLink yX5_addLink ∈ lw_all := lw_in (i := 588) (by decide +kernel) (by decide +kernel)
abbrev mX5_addFlow : zMe := (yX5_addFlow, cX5_addFlow, 1, some (.object "SharedSurplus$Flow"), 0, 0)
theorem okX5_addFlow : zMOk mX5_addFlow 0 := ⟨lw_in (i := 626) (by decide +kernel) (by decide +kernel), lw_in (i := 75) (by decide +kernel) (by decide +kernel), by decide +kernel, by decide +kernel, by decide +kernel⟩
theorem imX5_addFlow : Cond.instanceMethod yX5_addFlow ∈ lw_all := lw_in (i := 624) (by decide +kernel) (by decide +kernel)
theorem seX5_addFlow : Cond.selects yX5_addFlow.cls yX5_addFlow yX5_addFlow ∈ lw_all := lw_in (i := 625) (by decide +kernel) (by decide +kernel)
abbrev mX5_measureBack : zMe := (yX5_measureBack, cX5_measureBack, 5, none, 1, 21)
theorem okX5_measureBack : zMOk mX5_measureBack 1 := ⟨lw_in (i := 667) (by decide +kernel) (by decide +kernel), lw_in (i := 75) (by decide +kernel) (by decide +kernel), by decide +kernel, by decide +kernel, by decide +kernel⟩
theorem imX5_measureBack : Cond.instanceMethod yX5_measureBack ∈ lw_all := lw_in (i := 665) (by decide +kernel) (by decide +kernel)
theorem seX5_measureBack : Cond.selects yX5_measureBack.cls yX5_measureBack yX5_measureBack ∈ lw_all := lw_in (i := 666) (by decide +kernel) (by decide +kernel)
abbrev mX5_passTicks : zMe := (yX5_passTicks, cX5_passTicks, 4, none, 5, 117)
theorem okX5_passTicks : zMOk mX5_passTicks 1 := ⟨lw_in (i := 904) (by decide +kernel) (by decide +kernel), lw_in (i := 75) (by decide +kernel) (by decide +kernel), by decide +kernel, by decide +kernel, by decide +kernel⟩
theorem imX5_passTicks : Cond.instanceMethod yX5_passTicks ∈ lw_all := lw_in (i := 902) (by decide +kernel) (by decide +kernel)
theorem seX5_passTicks : Cond.selects yX5_passTicks.cls yX5_passTicks yX5_passTicks ∈ lw_all := lw_in (i := 903) (by decide +kernel) (by decide +kernel)
abbrev mX5_takeReturns : zMe := (yX5_takeReturns, cX5_takeReturns, 3, none, 4, 88)
theorem okX5_takeReturns : zMOk mX5_takeReturns 0 := ⟨lw_in (i := 908) (by decide +kernel) (by decide +kernel), lw_in (i := 75) (by decide +kernel) (by decide +kernel), by decide +kernel, by decide +kernel, by decide +kernel⟩
theorem imX5_takeReturns : Cond.instanceMethod yX5_takeReturns ∈ lw_all := lw_in (i := 906) (by decide +kernel) (by decide +kernel)
theorem seX5_takeReturns : Cond.selects yX5_takeReturns.cls yX5_takeReturns yX5_takeReturns ∈ lw_all := lw_in (i := 907) (by decide +kernel) (by decide +kernel)
abbrev mX5_takeReturn : zMe := (yX5_takeReturn, cX5_takeReturn, 3, none, 3, 66)
theorem okX5_takeReturn : zMOk mX5_takeReturn 1 := ⟨lw_in (i := 913) (by decide +kernel) (by decide +kernel), lw_in (i := 75) (by decide +kernel) (by decide +kernel), by decide +kernel, by decide +kernel, by decide +kernel⟩
theorem imX5_takeReturn : Cond.instanceMethod yX5_takeReturn ∈ lw_all := lw_in (i := 911) (by decide +kernel) (by decide +kernel)
theorem seX5_takeReturn : Cond.selects yX5_takeReturn.cls yX5_takeReturn yX5_takeReturn ∈ lw_all := lw_in (i := 912) (by decide +kernel) (by decide +kernel)
abbrev mX5_emptyWire : zMe := (yX5_emptyWire, cX5_emptyWire, 4, none, 3, 69)
theorem okX5_emptyWire : zMOk mX5_emptyWire 1 := ⟨lw_in (i := 937) (by decide +kernel) (by decide +kernel), lw_in (i := 75) (by decide +kernel) (by decide +kernel), by decide +kernel, by decide +kernel, by decide +kernel⟩
theorem imX5_emptyWire : Cond.instanceMethod yX5_emptyWire ∈ lw_all := lw_in (i := 935) (by decide +kernel) (by decide +kernel)
theorem seX5_emptyWire : Cond.selects yX5_emptyWire.cls yX5_emptyWire yX5_emptyWire ∈ lw_all := lw_in (i := 936) (by decide +kernel) (by decide +kernel)
abbrev mX5_sendFrom : zMe := (yX5_sendFrom, cX5_sendFrom, 5, none, 3, 69)
theorem okX5_sendFrom : zMOk mX5_sendFrom 2 := ⟨lw_in (i := 959) (by decide +kernel) (by decide +kernel), lw_in (i := 75) (by decide +kernel) (by decide +kernel), by decide +kernel, by decide +kernel, by decide +kernel⟩
theorem imX5_sendFrom : Cond.instanceMethod yX5_sendFrom ∈ lw_all := lw_in (i := 957) (by decide +kernel) (by decide +kernel)
theorem seX5_sendFrom : Cond.selects yX5_sendFrom.cls yX5_sendFrom yX5_sendFrom ∈ lw_all := lw_in (i := 958) (by decide +kernel) (by decide +kernel)
abbrev mX5_goOn : zMe := (yX5_goOn, cX5_goOn, 5, none, 2, 45)
theorem okX5_goOn : zMOk mX5_goOn 2 := ⟨lw_in (i := 941) (by decide +kernel) (by decide +kernel), lw_in (i := 75) (by decide +kernel) (by decide +kernel), by decide +kernel, by decide +kernel, by decide +kernel⟩
theorem imX5_goOn : Cond.instanceMethod yX5_goOn ∈ lw_all := lw_in (i := 939) (by decide +kernel) (by decide +kernel)
theorem seX5_goOn : Cond.selects yX5_goOn.cls yX5_goOn yX5_goOn ∈ lw_all := lw_in (i := 940) (by decide +kernel) (by decide +kernel)
abbrev mX5_sendBack : zMe := (yX5_sendBack, cX5_sendBack, 3, none, 1, 21)
theorem okX5_sendBack : zMOk mX5_sendBack 2 := ⟨lw_in (i := 945) (by decide +kernel) (by decide +kernel), lw_in (i := 75) (by decide +kernel) (by decide +kernel), by decide +kernel, by decide +kernel, by decide +kernel⟩
theorem imX5_sendBack : Cond.instanceMethod yX5_sendBack ∈ lw_all := lw_in (i := 943) (by decide +kernel) (by decide +kernel)
theorem seX5_sendBack : Cond.selects yX5_sendBack.cls yX5_sendBack yX5_sendBack ∈ lw_all := lw_in (i := 944) (by decide +kernel) (by decide +kernel)
abbrev mX5_endSpanIfDue : zMe := (yX5_endSpanIfDue, cX5_endSpanIfDue, 4, none, 3, 77)
theorem okX5_endSpanIfDue : zMOk mX5_endSpanIfDue 2 := ⟨lw_in (i := 1050) (by decide +kernel) (by decide +kernel), lw_in (i := 75) (by decide +kernel) (by decide +kernel), by decide +kernel, by decide +kernel, by decide +kernel⟩
theorem imX5_endSpanIfDue : Cond.instanceMethod yX5_endSpanIfDue ∈ lw_all := lw_in (i := 1048) (by decide +kernel) (by decide +kernel)
theorem seX5_endSpanIfDue : Cond.selects yX5_endSpanIfDue.cls yX5_endSpanIfDue yX5_endSpanIfDue ∈ lw_all := lw_in (i := 1049) (by decide +kernel) (by decide +kernel)
abbrev mX5_tellCaught : zMe := (yX5_tellCaught, cX5_tellCaught, 7, none, 2, 45)
theorem okX5_tellCaught : zMOk mX5_tellCaught 3 := ⟨lw_in (i := 1078) (by decide +kernel) (by decide +kernel), lw_in (i := 75) (by decide +kernel) (by decide +kernel), by decide +kernel, by decide +kernel, by decide +kernel⟩
theorem imX5_tellCaught : Cond.instanceMethod yX5_tellCaught ∈ lw_all := lw_in (i := 1076) (by decide +kernel) (by decide +kernel)
theorem seX5_tellCaught : Cond.selects yX5_tellCaught.cls yX5_tellCaught yX5_tellCaught ∈ lw_all := lw_in (i := 1077) (by decide +kernel) (by decide +kernel)
abbrev mX5_keepWindows : zMe := (yX5_keepWindows, cX5_keepWindows, 3, none, 0, 0)
theorem okX5_keepWindows : zMOk mX5_keepWindows 0 := ⟨lw_in (i := 1082) (by decide +kernel) (by decide +kernel), lw_in (i := 75) (by decide +kernel) (by decide +kernel), by decide +kernel, by decide +kernel, by decide +kernel⟩
theorem imX5_keepWindows : Cond.instanceMethod yX5_keepWindows ∈ lw_all := lw_in (i := 1080) (by decide +kernel) (by decide +kernel)
theorem seX5_keepWindows : Cond.selects yX5_keepWindows.cls yX5_keepWindows yX5_keepWindows ∈ lw_all := lw_in (i := 1081) (by decide +kernel) (by decide +kernel)
abbrev mX5_pastWindow : zMe := (yX5_pastWindow, cX5_pastWindow, 4, some .int, 1, 22)
theorem okX5_pastWindow : zMOk mX5_pastWindow 2 := ⟨lw_in (i := 836) (by decide +kernel) (by decide +kernel), lw_in (i := 75) (by decide +kernel) (by decide +kernel), by decide +kernel, by decide +kernel, by decide +kernel⟩
theorem imX5_pastWindow : Cond.instanceMethod yX5_pastWindow ∈ lw_all := lw_in (i := 834) (by decide +kernel) (by decide +kernel)
theorem seX5_pastWindow : Cond.selects yX5_pastWindow.cls yX5_pastWindow yX5_pastWindow ∈ lw_all := lw_in (i := 835) (by decide +kernel) (by decide +kernel)
abbrev mX5_linksThatCaught : zMe := (yX5_linksThatCaught, cX5_linksThatCaught, 4, some .int, 1, 21)
theorem okX5_linksThatCaught : zMOk mX5_linksThatCaught 1 := ⟨lw_in (i := 730) (by decide +kernel) (by decide +kernel), lw_in (i := 75) (by decide +kernel) (by decide +kernel), by decide +kernel, by decide +kernel, by decide +kernel⟩
theorem imX5_linksThatCaught : Cond.instanceMethod yX5_linksThatCaught ∈ lw_all := lw_in (i := 728) (by decide +kernel) (by decide +kernel)
theorem seX5_linksThatCaught : Cond.selects yX5_linksThatCaught.cls yX5_linksThatCaught yX5_linksThatCaught ∈ lw_all := lw_in (i := 729) (by decide +kernel) (by decide +kernel)
abbrev mX5_isThrough : zMe := (yX5_isThrough, cX5_isThrough, 3, some .boolean, 1, 21)
theorem okX5_isThrough : zMOk mX5_isThrough 1 := ⟨lw_in (i := 1175) (by decide +kernel) (by decide +kernel), lw_in (i := 75) (by decide +kernel) (by decide +kernel), by decide +kernel, by decide +kernel, by decide +kernel⟩
theorem imX5_isThrough : Cond.instanceMethod yX5_isThrough ∈ lw_all := lw_in (i := 1173) (by decide +kernel) (by decide +kernel)
theorem seX5_isThrough : Cond.selects yX5_isThrough.cls yX5_isThrough yX5_isThrough ∈ lw_all := lw_in (i := 1174) (by decide +kernel) (by decide +kernel)
abbrev mX5_standing : zMe := (yX5_standing, cX5_standing, 3, some .int, 0, 0)
theorem okX5_standing : zMOk mX5_standing 0 := ⟨lw_in (i := 688) (by decide +kernel) (by decide +kernel), lw_in (i := 75) (by decide +kernel) (by decide +kernel), by decide +kernel, by decide +kernel, by decide +kernel⟩
theorem imX5_standing : Cond.instanceMethod yX5_standing ∈ lw_all := lw_in (i := 686) (by decide +kernel) (by decide +kernel)
theorem seX5_standing : Cond.selects yX5_standing.cls yX5_standing yX5_standing ∈ lw_all := lw_in (i := 687) (by decide +kernel) (by decide +kernel)
abbrev mX5_wired : zMe := (yX5_wired, cX5_wired, 3, some .int, 0, 0)
theorem okX5_wired : zMOk mX5_wired 0 := ⟨lw_in (i := 692) (by decide +kernel) (by decide +kernel), lw_in (i := 75) (by decide +kernel) (by decide +kernel), by decide +kernel, by decide +kernel, by decide +kernel⟩
theorem imX5_wired : Cond.instanceMethod yX5_wired ∈ lw_all := lw_in (i := 690) (by decide +kernel) (by decide +kernel)
theorem seX5_wired : Cond.selects yX5_wired.cls yX5_wired yX5_wired ∈ lw_all := lw_in (i := 691) (by decide +kernel) (by decide +kernel)
abbrev mX5_standingOf : zMe := (yX5_standingOf, cX5_standingOf, 4, some .int, 1, 23)
theorem okX5_standingOf : zMOk mX5_standingOf 1 := ⟨lw_in (i := 803) (by decide +kernel) (by decide +kernel), lw_in (i := 75) (by decide +kernel) (by decide +kernel), by decide +kernel, by decide +kernel, by decide +kernel⟩
theorem imX5_standingOf : Cond.instanceMethod yX5_standingOf ∈ lw_all := lw_in (i := 801) (by decide +kernel) (by decide +kernel)
theorem seX5_standingOf : Cond.selects yX5_standingOf.cls yX5_standingOf yX5_standingOf ∈ lw_all := lw_in (i := 802) (by decide +kernel) (by decide +kernel)
abbrev mX5_wiredOf : zMe := (yX5_wiredOf, cX5_wiredOf, 4, some .int, 1, 23)
theorem okX5_wiredOf : zMOk mX5_wiredOf 1 := ⟨lw_in (i := 811) (by decide +kernel) (by decide +kernel), lw_in (i := 75) (by decide +kernel) (by decide +kernel), by decide +kernel, by decide +kernel, by decide +kernel⟩
theorem imX5_wiredOf : Cond.instanceMethod yX5_wiredOf ∈ lw_all := lw_in (i := 809) (by decide +kernel) (by decide +kernel)
theorem seX5_wiredOf : Cond.selects yX5_wiredOf.cls yX5_wiredOf yX5_wiredOf ∈ lw_all := lw_in (i := 810) (by decide +kernel) (by decide +kernel)
abbrev mX5_firstSentOf : zMe := (yX5_firstSentOf, cX5_firstSentOf, 4, some .int, 1, 24)
theorem okX5_firstSentOf : zMOk mX5_firstSentOf 1 := ⟨lw_in (i := 824) (by decide +kernel) (by decide +kernel), lw_in (i := 75) (by decide +kernel) (by decide +kernel), by decide +kernel, by decide +kernel, by decide +kernel⟩
theorem imX5_firstSentOf : Cond.instanceMethod yX5_firstSentOf ∈ lw_all := lw_in (i := 822) (by decide +kernel) (by decide +kernel)
theorem seX5_firstSentOf : Cond.selects yX5_firstSentOf.cls yX5_firstSentOf yX5_firstSentOf ∈ lw_all := lw_in (i := 823) (by decide +kernel) (by decide +kernel)
abbrev mX5_longestRow : zMe := (yX5_longestRow, cX5_longestRow, 3, some .int, 1, 21)
theorem okX5_longestRow : zMOk mX5_longestRow 0 := ⟨lw_in (i := 1203) (by decide +kernel) (by decide +kernel), lw_in (i := 75) (by decide +kernel) (by decide +kernel), by decide +kernel, by decide +kernel, by decide +kernel⟩
theorem imX5_longestRow : Cond.instanceMethod yX5_longestRow ∈ lw_all := lw_in (i := 1201) (by decide +kernel) (by decide +kernel)
theorem seX5_longestRow : Cond.selects yX5_longestRow.cls yX5_longestRow yX5_longestRow ∈ lw_all := lw_in (i := 1202) (by decide +kernel) (by decide +kernel)
abbrev mX5_doneInAll : zMe := (yX5_doneInAll, cX5_doneInAll, 3, some .int, 0, 0)
theorem okX5_doneInAll : zMOk mX5_doneInAll 0 := ⟨lw_in (i := 1195) (by decide +kernel) (by decide +kernel), lw_in (i := 75) (by decide +kernel) (by decide +kernel), by decide +kernel, by decide +kernel, by decide +kernel⟩
theorem imX5_doneInAll : Cond.instanceMethod yX5_doneInAll ∈ lw_all := lw_in (i := 1193) (by decide +kernel) (by decide +kernel)
theorem seX5_doneInAll : Cond.selects yX5_doneInAll.cls yX5_doneInAll yX5_doneInAll ∈ lw_all := lw_in (i := 1194) (by decide +kernel) (by decide +kernel)
abbrev mX5_lostInAll : zMe := (yX5_lostInAll, cX5_lostInAll, 3, some .int, 0, 0)
theorem okX5_lostInAll : zMOk mX5_lostInAll 0 := ⟨lw_in (i := 1199) (by decide +kernel) (by decide +kernel), lw_in (i := 75) (by decide +kernel) (by decide +kernel), by decide +kernel, by decide +kernel, by decide +kernel⟩
theorem imX5_lostInAll : Cond.instanceMethod yX5_lostInAll ∈ lw_all := lw_in (i := 1197) (by decide +kernel) (by decide +kernel)
theorem seX5_lostInAll : Cond.selects yX5_lostInAll.cls yX5_lostInAll yX5_lostInAll ∈ lw_all := lw_in (i := 1198) (by decide +kernel) (by decide +kernel)
abbrev mX5_evenness : zMe := (yX5_evenness, cX5_evenness, 10, some .int, 0, 0)
theorem okX5_evenness : zMOk mX5_evenness 0 := ⟨lw_in (i := 696) (by decide +kernel) (by decide +kernel), lw_in (i := 75) (by decide +kernel) (by decide +kernel), by decide +kernel, by decide +kernel, by decide +kernel⟩
theorem imX5_evenness : Cond.instanceMethod yX5_evenness ∈ lw_all := lw_in (i := 694) (by decide +kernel) (by decide +kernel)
theorem seX5_evenness : Cond.selects yX5_evenness.cls yX5_evenness yX5_evenness ∈ lw_all := lw_in (i := 695) (by decide +kernel) (by decide +kernel)
abbrev mX5_windowGap : zMe := (yX5_windowGap, cX5_windowGap, 5, some .int, 1, 21)
theorem okX5_windowGap : zMOk mX5_windowGap 0 := ⟨lw_in (i := 701) (by decide +kernel) (by decide +kernel), lw_in (i := 75) (by decide +kernel) (by decide +kernel), by decide +kernel, by decide +kernel, by decide +kernel⟩
theorem imX5_windowGap : Cond.instanceMethod yX5_windowGap ∈ lw_all := lw_in (i := 699) (by decide +kernel) (by decide +kernel)
theorem seX5_windowGap : Cond.selects yX5_windowGap.cls yX5_windowGap yX5_windowGap ∈ lw_all := lw_in (i := 700) (by decide +kernel) (by decide +kernel)
abbrev mX5_topFlow : zMe := (yX5_topFlow, cX5_topFlow, 4, some .int, 2, 44)
theorem okX5_topFlow : zMOk mX5_topFlow 1 := ⟨lw_in (i := 845) (by decide +kernel) (by decide +kernel), lw_in (i := 75) (by decide +kernel) (by decide +kernel), by decide +kernel, by decide +kernel, by decide +kernel⟩
theorem imX5_topFlow : Cond.instanceMethod yX5_topFlow ∈ lw_all := lw_in (i := 843) (by decide +kernel) (by decide +kernel)
theorem seX5_topFlow : Cond.selects yX5_topFlow.cls yX5_topFlow yX5_topFlow ∈ lw_all := lw_in (i := 844) (by decide +kernel) (by decide +kernel)
abbrev mX5_rank : zMe := (yX5_rank, cX5_rank, 4, some .int, 1, 21)
theorem okX5_rank : zMOk mX5_rank 2 := ⟨lw_in (i := 849) (by decide +kernel) (by decide +kernel), lw_in (i := 75) (by decide +kernel) (by decide +kernel), by decide +kernel, by decide +kernel, by decide +kernel⟩
theorem imX5_rank : Cond.instanceMethod yX5_rank ∈ lw_all := lw_in (i := 847) (by decide +kernel) (by decide +kernel)
theorem seX5_rank : Cond.selects yX5_rank.cls yX5_rank yX5_rank ∈ lw_all := lw_in (i := 848) (by decide +kernel) (by decide +kernel)
abbrev mX6_init : zMe := (yX6_init, cX6_init, 1, none, 1, 24)
theorem okX6_init : zMOk mX6_init 0 := ⟨lw_in (i := 972) (by decide +kernel) (by decide +kernel), lw_in (i := 90) (by decide +kernel) (by decide +kernel), by decide +kernel, by decide +kernel, by decide +kernel⟩
theorem imX6_init : Cond.instanceMethod yX6_init ∈ lw_all := lw_in (i := 971) (by decide +kernel) (by decide +kernel)
abbrev mX6_begin : zMe := (yX6_begin, cX6_begin, 4, none, 1, 23)
theorem okX6_begin : zMOk mX6_begin 3 := ⟨lw_in (i := 1027) (by decide +kernel) (by decide +kernel), lw_in (i := 90) (by decide +kernel) (by decide +kernel), by decide +kernel, by decide +kernel, by decide +kernel⟩
theorem imX6_begin : Cond.instanceMethod yX6_begin ∈ lw_all := lw_in (i := 1025) (by decide +kernel) (by decide +kernel)
theorem seX6_begin : Cond.selects yX6_begin.cls yX6_begin yX6_begin ∈ lw_all := lw_in (i := 1026) (by decide +kernel) (by decide +kernel)
abbrev mX6_copyFrom : zMe := (yX6_copyFrom, cX6_copyFrom, 2, none, 0, 0)
theorem okX6_copyFrom : zMOk mX6_copyFrom 1 := ⟨lw_in (i := 1109) (by decide +kernel) (by decide +kernel), lw_in (i := 90) (by decide +kernel) (by decide +kernel), by decide +kernel, by decide +kernel, by decide +kernel⟩
theorem imX6_copyFrom : Cond.instanceMethod yX6_copyFrom ∈ lw_all := lw_in (i := 1107) (by decide +kernel) (by decide +kernel)
theorem seX6_copyFrom : Cond.selects yX6_copyFrom.cls yX6_copyFrom yX6_copyFrom ∈ lw_all := lw_in (i := 1108) (by decide +kernel) (by decide +kernel)
abbrev mX6_tell : zMe := (yX6_tell, cX6_tell, 2, some .int, 0, 0)
theorem okX6_tell : zMOk mX6_tell 1 := ⟨lw_in (i := 778) (by decide +kernel) (by decide +kernel), lw_in (i := 90) (by decide +kernel) (by decide +kernel), by decide +kernel, by decide +kernel, by decide +kernel⟩
theorem imX6_tell : Cond.instanceMethod yX6_tell ∈ lw_all := lw_in (i := 776) (by decide +kernel) (by decide +kernel)
theorem seX6_tell : Cond.selects yX6_tell.cls yX6_tell yX6_tell ∈ lw_all := lw_in (i := 777) (by decide +kernel) (by decide +kernel)
abbrev mX7_init : zMe := (yX7_init, cX7_init, 1, none, 1, 24)
theorem okX7_init : zMOk mX7_init 0 := ⟨lw_in (i := 169) (by decide +kernel) (by decide +kernel), lw_in (i := 79) (by decide +kernel) (by decide +kernel), by decide +kernel, by decide +kernel, by decide +kernel⟩
theorem imX7_init : Cond.instanceMethod yX7_init ∈ lw_all := lw_in (i := 168) (by decide +kernel) (by decide +kernel)
abbrev mX7_clear : zMe := (yX7_clear, cX7_clear, 1, none, 0, 0)
theorem okX7_clear : zMOk mX7_clear 0 := ⟨lw_in (i := 606) (by decide +kernel) (by decide +kernel), lw_in (i := 79) (by decide +kernel) (by decide +kernel), by decide +kernel, by decide +kernel, by decide +kernel⟩
theorem imX7_clear : Cond.instanceMethod yX7_clear ∈ lw_all := lw_in (i := 604) (by decide +kernel) (by decide +kernel)
theorem seX7_clear : Cond.selects yX7_clear.cls yX7_clear yX7_clear ∈ lw_all := lw_in (i := 605) (by decide +kernel) (by decide +kernel)
abbrev mX7_copyFrom : zMe := (yX7_copyFrom, cX7_copyFrom, 2, none, 0, 0)
theorem okX7_copyFrom : zMOk mX7_copyFrom 1 := ⟨lw_in (i := 1101) (by decide +kernel) (by decide +kernel), lw_in (i := 79) (by decide +kernel) (by decide +kernel), by decide +kernel, by decide +kernel, by decide +kernel⟩
theorem imX7_copyFrom : Cond.instanceMethod yX7_copyFrom ∈ lw_all := lw_in (i := 1099) (by decide +kernel) (by decide +kernel)
theorem seX7_copyFrom : Cond.selects yX7_copyFrom.cls yX7_copyFrom yX7_copyFrom ∈ lw_all := lw_in (i := 1100) (by decide +kernel) (by decide +kernel)
abbrev mX7_renew : zMe := (yX7_renew, cX7_renew, 13, none, 1, 23)
theorem okX7_renew : zMOk mX7_renew 4 := ⟨lw_in (i := 1062) (by decide +kernel) (by decide +kernel), lw_in (i := 79) (by decide +kernel) (by decide +kernel), by decide +kernel, by decide +kernel, by decide +kernel⟩
theorem imX7_renew : Cond.instanceMethod yX7_renew ∈ lw_all := lw_in (i := 1060) (by decide +kernel) (by decide +kernel)
theorem seX7_renew : Cond.selects yX7_renew.cls yX7_renew yX7_renew ∈ lw_all := lw_in (i := 1061) (by decide +kernel) (by decide +kernel)
abbrev mX7_plusFor : zMe := (yX7_plusFor, cX7_plusFor, 3, some .long, 0, 0)
theorem okX7_plusFor : zMOk mX7_plusFor 1 := ⟨lw_in (i := 766) (by decide +kernel) (by decide +kernel), lw_in (i := 79) (by decide +kernel) (by decide +kernel), by decide +kernel, by decide +kernel, by decide +kernel⟩
theorem imX7_plusFor : Cond.instanceMethod yX7_plusFor ∈ lw_all := lw_in (i := 764) (by decide +kernel) (by decide +kernel)
theorem seX7_plusFor : Cond.selects yX7_plusFor.cls yX7_plusFor yX7_plusFor ∈ lw_all := lw_in (i := 765) (by decide +kernel) (by decide +kernel)
abbrev mX7_minusFor : zMe := (yX7_minusFor, cX7_minusFor, 3, some .long, 0, 0)
theorem okX7_minusFor : zMOk mX7_minusFor 1 := ⟨lw_in (i := 774) (by decide +kernel) (by decide +kernel), lw_in (i := 79) (by decide +kernel) (by decide +kernel), by decide +kernel, by decide +kernel, by decide +kernel⟩
theorem imX7_minusFor : Cond.instanceMethod yX7_minusFor ∈ lw_all := lw_in (i := 772) (by decide +kernel) (by decide +kernel)
theorem seX7_minusFor : Cond.selects yX7_minusFor.cls yX7_minusFor yX7_minusFor ∈ lw_all := lw_in (i := 773) (by decide +kernel) (by decide +kernel)
abbrev mX7_gotWith : zMe := (yX7_gotWith, cX7_gotWith, 3, some .long, 1, 23)
theorem okX7_gotWith : zMOk mX7_gotWith 1 := ⟨lw_in (i := 759) (by decide +kernel) (by decide +kernel), lw_in (i := 79) (by decide +kernel) (by decide +kernel), by decide +kernel, by decide +kernel, by decide +kernel⟩
theorem imX7_gotWith : Cond.instanceMethod yX7_gotWith ∈ lw_all := lw_in (i := 757) (by decide +kernel) (by decide +kernel)
theorem seX7_gotWith : Cond.selects yX7_gotWith.cls yX7_gotWith yX7_gotWith ∈ lw_all := lw_in (i := 758) (by decide +kernel) (by decide +kernel)
abbrev mX7_tookWithOne : zMe := (yX7_tookWithOne, cX7_tookWithOne, 1, some .long, 1, 23)
theorem okX7_tookWithOne : zMOk mX7_tookWithOne 0 := ⟨lw_in (i := 770) (by decide +kernel) (by decide +kernel), lw_in (i := 79) (by decide +kernel) (by decide +kernel), by decide +kernel, by decide +kernel, by decide +kernel⟩
theorem imX7_tookWithOne : Cond.instanceMethod yX7_tookWithOne ∈ lw_all := lw_in (i := 768) (by decide +kernel) (by decide +kernel)
theorem seX7_tookWithOne : Cond.selects yX7_tookWithOne.cls yX7_tookWithOne yX7_tookWithOne ∈ lw_all := lw_in (i := 769) (by decide +kernel) (by decide +kernel)
abbrev mX7_shareOf : zMe := (yX7_shareOf, cX7_shareOf, 7, some .int, 2, 45)
theorem okX7_shareOf : zMOk mX7_shareOf 1 := ⟨lw_in (i := 755) (by decide +kernel) (by decide +kernel), lw_in (i := 79) (by decide +kernel) (by decide +kernel), by decide +kernel, by decide +kernel, by decide +kernel⟩
theorem imX7_shareOf : Cond.instanceMethod yX7_shareOf ∈ lw_all := lw_in (i := 753) (by decide +kernel) (by decide +kernel)
theorem seX7_shareOf : Cond.selects yX7_shareOf.cls yX7_shareOf yX7_shareOf ∈ lw_all := lw_in (i := 754) (by decide +kernel) (by decide +kernel)
abbrev mX7_giveShare : zMe := (yX7_giveShare, cX7_giveShare, 4, some .int, 3, 71)
theorem okX7_giveShare : zMOk mX7_giveShare 1 := ⟨lw_in (i := 1044) (by decide +kernel) (by decide +kernel), lw_in (i := 79) (by decide +kernel) (by decide +kernel), by decide +kernel, by decide +kernel, by decide +kernel⟩
theorem imX7_giveShare : Cond.instanceMethod yX7_giveShare ∈ lw_all := lw_in (i := 1042) (by decide +kernel) (by decide +kernel)
theorem seX7_giveShare : Cond.selects yX7_giveShare.cls yX7_giveShare yX7_giveShare ∈ lw_all := lw_in (i := 1043) (by decide +kernel) (by decide +kernel)
abbrev mX8_init : zMe := (yX8_init, cX8_init, 1, none, 1, 24)
theorem okX8_init : zMOk mX8_init 0 := ⟨lw_in (i := 376) (by decide +kernel) (by decide +kernel), lw_in (i := 81) (by decide +kernel) (by decide +kernel), by decide +kernel, by decide +kernel, by decide +kernel⟩
theorem imX8_init : Cond.instanceMethod yX8_init ∈ lw_all := lw_in (i := 375) (by decide +kernel) (by decide +kernel)
abbrev mX8_readNet : zMe := (yX8_readNet, cX8_readNet, 6, some .boolean, 9, 193)
theorem okX8_readNet : zMOk mX8_readNet 3 := ⟨lw_in (i := 485) (by decide +kernel) (by decide +kernel), lw_in (i := 81) (by decide +kernel) (by decide +kernel), by decide +kernel, by decide +kernel, by decide +kernel⟩
theorem imX8_readNet : Cond.instanceMethod yX8_readNet ∈ lw_all := lw_in (i := 483) (by decide +kernel) (by decide +kernel)
theorem seX8_readNet : Cond.selects yX8_readNet.cls yX8_readNet yX8_readNet ∈ lw_all := lw_in (i := 484) (by decide +kernel) (by decide +kernel)
abbrev mX8_readLink : zMe := (yX8_readLink, cX8_readLink, 2, some .boolean, 6, 128)
theorem okX8_readLink : zMOk mX8_readLink 0 := ⟨lw_in (i := 585) (by decide +kernel) (by decide +kernel), lw_in (i := 81) (by decide +kernel) (by decide +kernel), by decide +kernel, by decide +kernel, by decide +kernel⟩
theorem imX8_readLink : Cond.instanceMethod yX8_readLink ∈ lw_all := lw_in (i := 583) (by decide +kernel) (by decide +kernel)
theorem seX8_readLink : Cond.selects yX8_readLink.cls yX8_readLink yX8_readLink ∈ lw_all := lw_in (i := 584) (by decide +kernel) (by decide +kernel)
abbrev mX8_readFlow : zMe := (yX8_readFlow, cX8_readFlow, 4, some .boolean, 8, 170)
theorem okX8_readFlow : zMOk mX8_readFlow 0 := ⟨lw_in (i := 622) (by decide +kernel) (by decide +kernel), lw_in (i := 81) (by decide +kernel) (by decide +kernel), by decide +kernel, by decide +kernel, by decide +kernel⟩
theorem imX8_readFlow : Cond.instanceMethod yX8_readFlow ∈ lw_all := lw_in (i := 620) (by decide +kernel) (by decide +kernel)
theorem seX8_readFlow : Cond.selects yX8_readFlow.cls yX8_readFlow yX8_readFlow ∈ lw_all := lw_in (i := 621) (by decide +kernel) (by decide +kernel)
abbrev mX8_readPath : zMe := (yX8_readPath, cX8_readPath, 3, some .boolean, 3, 65)
theorem okX8_readPath : zMOk mX8_readPath 1 := ⟨lw_in (i := 634) (by decide +kernel) (by decide +kernel), lw_in (i := 81) (by decide +kernel) (by decide +kernel), by decide +kernel, by decide +kernel, by decide +kernel⟩
theorem imX8_readPath : Cond.instanceMethod yX8_readPath ∈ lw_all := lw_in (i := 632) (by decide +kernel) (by decide +kernel)
theorem seX8_readPath : Cond.selects yX8_readPath.cls yX8_readPath yX8_readPath ∈ lw_all := lw_in (i := 633) (by decide +kernel) (by decide +kernel)
abbrev mX8_readMark : zMe := (yX8_readMark, cX8_readMark, 3, some .boolean, 7, 148)
theorem okX8_readMark : zMOk mX8_readMark 1 := ⟨lw_in (i := 654) (by decide +kernel) (by decide +kernel), lw_in (i := 81) (by decide +kernel) (by decide +kernel), by decide +kernel, by decide +kernel, by decide +kernel⟩
theorem imX8_readMark : Cond.instanceMethod yX8_readMark ∈ lw_all := lw_in (i := 652) (by decide +kernel) (by decide +kernel)
theorem seX8_readMark : Cond.selects yX8_readMark.cls yX8_readMark yX8_readMark ∈ lw_all := lw_in (i := 653) (by decide +kernel) (by decide +kernel)
abbrev mX8_kindOfWord : zMe := (yX8_kindOfWord, cX8_kindOfWord, 1, some .int, 6, 128)
theorem okX8_kindOfWord : zMOk mX8_kindOfWord 0 := ⟨lw_in (i := 658) (by decide +kernel) (by decide +kernel), lw_in (i := 81) (by decide +kernel) (by decide +kernel), by decide +kernel, by decide +kernel, by decide +kernel⟩
theorem imX8_kindOfWord : Cond.instanceMethod yX8_kindOfWord ∈ lw_all := lw_in (i := 656) (by decide +kernel) (by decide +kernel)
theorem seX8_kindOfWord : Cond.selects yX8_kindOfWord.cls yX8_kindOfWord yX8_kindOfWord ∈ lw_all := lw_in (i := 657) (by decide +kernel) (by decide +kernel)
abbrev mX8_nextNumber : zMe := (yX8_nextNumber, cX8_nextNumber, 3, some .boolean, 3, 65)
theorem okX8_nextNumber : zMOk mX8_nextNumber 2 := ⟨lw_in (i := 597) (by decide +kernel) (by decide +kernel), lw_in (i := 81) (by decide +kernel) (by decide +kernel), by decide +kernel, by decide +kernel, by decide +kernel⟩
theorem imX8_nextNumber : Cond.instanceMethod yX8_nextNumber ∈ lw_all := lw_in (i := 595) (by decide +kernel) (by decide +kernel)
theorem seX8_nextNumber : Cond.selects yX8_nextNumber.cls yX8_nextNumber yX8_nextNumber ∈ lw_all := lw_in (i := 596) (by decide +kernel) (by decide +kernel)
abbrev mX8_readSign : zMe := (yX8_readSign, cX8_readSign, 1, some .boolean, 3, 65)
theorem okX8_readSign : zMOk mX8_readSign 0 := ⟨lw_in (i := 617) (by decide +kernel) (by decide +kernel), lw_in (i := 81) (by decide +kernel) (by decide +kernel), by decide +kernel, by decide +kernel, by decide +kernel⟩
theorem imX8_readSign : Cond.instanceMethod yX8_readSign ∈ lw_all := lw_in (i := 615) (by decide +kernel) (by decide +kernel)
theorem seX8_readSign : Cond.selects yX8_readSign.cls yX8_readSign yX8_readSign ∈ lw_all := lw_in (i := 616) (by decide +kernel) (by decide +kernel)
abbrev mX8_stopWith : zMe := (yX8_stopWith, cX8_stopWith, 2, some .boolean, 0, 0)
theorem okX8_stopWith : zMOk mX8_stopWith 1 := ⟨lw_in (i := 593) (by decide +kernel) (by decide +kernel), lw_in (i := 81) (by decide +kernel) (by decide +kernel), by decide +kernel, by decide +kernel, by decide +kernel⟩
theorem imX8_stopWith : Cond.instanceMethod yX8_stopWith ∈ lw_all := lw_in (i := 591) (by decide +kernel) (by decide +kernel)
theorem seX8_stopWith : Cond.selects yX8_stopWith.cls yX8_stopWith yX8_stopWith ∈ lw_all := lw_in (i := 592) (by decide +kernel) (by decide +kernel)
abbrev mX8_advance : zMe := (yX8_advance, cX8_advance, 2, none, 2, 44)
theorem okX8_advance : zMOk mX8_advance 0 := ⟨lw_in (i := 516) (by decide +kernel) (by decide +kernel), lw_in (i := 81) (by decide +kernel) (by decide +kernel), by decide +kernel, by decide +kernel, by decide +kernel⟩
theorem imX8_advance : Cond.instanceMethod yX8_advance ∈ lw_all := lw_in (i := 514) (by decide +kernel) (by decide +kernel)
theorem seX8_advance : Cond.selects yX8_advance.cls yX8_advance yX8_advance ∈ lw_all := lw_in (i := 515) (by decide +kernel) (by decide +kernel)
abbrev mX8_endOfRun : zMe := (yX8_endOfRun, cX8_endOfRun, 4, some .int, 1, 21)
theorem okX8_endOfRun : zMOk mX8_endOfRun 2 := ⟨lw_in (i := 524) (by decide +kernel) (by decide +kernel), lw_in (i := 81) (by decide +kernel) (by decide +kernel), by decide +kernel, by decide +kernel, by decide +kernel⟩
theorem imX8_endOfRun : Cond.instanceMethod yX8_endOfRun ∈ lw_all := lw_in (i := 522) (by decide +kernel) (by decide +kernel)
theorem seX8_endOfRun : Cond.selects yX8_endOfRun.cls yX8_endOfRun yX8_endOfRun ∈ lw_all := lw_in (i := 523) (by decide +kernel) (by decide +kernel)
abbrev mX8_valueOfDigits : zMe := (yX8_valueOfDigits, cX8_valueOfDigits, 3, some .int, 1, 21)
theorem okX8_valueOfDigits : zMOk mX8_valueOfDigits 0 := ⟨lw_in (i := 528) (by decide +kernel) (by decide +kernel), lw_in (i := 81) (by decide +kernel) (by decide +kernel), by decide +kernel, by decide +kernel, by decide +kernel⟩
theorem imX8_valueOfDigits : Cond.instanceMethod yX8_valueOfDigits ∈ lw_all := lw_in (i := 526) (by decide +kernel) (by decide +kernel)
theorem seX8_valueOfDigits : Cond.selects yX8_valueOfDigits.cls yX8_valueOfDigits yX8_valueOfDigits ∈ lw_all := lw_in (i := 527) (by decide +kernel) (by decide +kernel)
abbrev mX8_isWord : zMe := (yX8_isWord, cX8_isWord, 3, some .boolean, 5, 106)
theorem okX8_isWord : zMOk mX8_isWord 1 := ⟨lw_in (i := 533) (by decide +kernel) (by decide +kernel), lw_in (i := 81) (by decide +kernel) (by decide +kernel), by decide +kernel, by decide +kernel, by decide +kernel⟩
theorem imX8_isWord : Cond.instanceMethod yX8_isWord ∈ lw_all := lw_in (i := 531) (by decide +kernel) (by decide +kernel)
theorem seX8_isWord : Cond.selects yX8_isWord.cls yX8_isWord yX8_isWord ∈ lw_all := lw_in (i := 532) (by decide +kernel) (by decide +kernel)
abbrev mX8_byteAt : zMe := (yX8_byteAt, cX8_byteAt, 2, some .int, 0, 0)
theorem okX8_byteAt : zMOk mX8_byteAt 1 := ⟨lw_in (i := 520) (by decide +kernel) (by decide +kernel), lw_in (i := 81) (by decide +kernel) (by decide +kernel), by decide +kernel, by decide +kernel, by decide +kernel⟩
theorem imX8_byteAt : Cond.instanceMethod yX8_byteAt ∈ lw_all := lw_in (i := 518) (by decide +kernel) (by decide +kernel)
theorem seX8_byteAt : Cond.selects yX8_byteAt.cls yX8_byteAt yX8_byteAt ∈ lw_all := lw_in (i := 519) (by decide +kernel) (by decide +kernel)
abbrev mX9_init : zMe := (yX9_init, cX9_init, 2, none, 4, 85)
theorem okX9_init : zMOk mX9_init 0 := ⟨lw_in (i := 96) (by decide +kernel) (by decide +kernel), lw_in (i := 74) (by decide +kernel) (by decide +kernel), by decide +kernel, by decide +kernel, by decide +kernel⟩
theorem imX9_init : Cond.instanceMethod yX9_init ∈ lw_all := lw_in (i := 95) (by decide +kernel) (by decide +kernel)
abbrev mX9_status : zMe := (yX9_status, cX9_status, 1, some .int, 0, 0)
theorem okX9_status : zMOk mX9_status 0 := ⟨lw_in (i := 465) (by decide +kernel) (by decide +kernel), lw_in (i := 74) (by decide +kernel) (by decide +kernel), by decide +kernel, by decide +kernel, by decide +kernel⟩
theorem imX9_status : Cond.instanceMethod yX9_status ∈ lw_all := lw_in (i := 463) (by decide +kernel) (by decide +kernel)
theorem seX9_status : Cond.selects yX9_status.cls yX9_status yX9_status ∈ lw_all := lw_in (i := 464) (by decide +kernel) (by decide +kernel)
abbrev mX9_feed : zMe := (yX9_feed, cX9_feed, 6, some .int, 1, 22)
theorem okX9_feed : zMOk mX9_feed 5 := ⟨lw_in (i := 469) (by decide +kernel) (by decide +kernel), lw_in (i := 74) (by decide +kernel) (by decide +kernel), by decide +kernel, by decide +kernel, by decide +kernel⟩
theorem imX9_feed : Cond.instanceMethod yX9_feed ∈ lw_all := lw_in (i := 467) (by decide +kernel) (by decide +kernel)
theorem seX9_feed : Cond.selects yX9_feed.cls yX9_feed yX9_feed ∈ lw_all := lw_in (i := 468) (by decide +kernel) (by decide +kernel)
abbrev mX9_load : zMe := (yX9_load, cX9_load, 4, some .int, 10, 218)
theorem okX9_load : zMOk mX9_load 1 := ⟨lw_in (i := 477) (by decide +kernel) (by decide +kernel), lw_in (i := 74) (by decide +kernel) (by decide +kernel), by decide +kernel, by decide +kernel, by decide +kernel⟩
theorem imX9_load : Cond.instanceMethod yX9_load ∈ lw_all := lw_in (i := 475) (by decide +kernel) (by decide +kernel)
theorem seX9_load : Cond.selects yX9_load.cls yX9_load yX9_load ∈ lw_all := lw_in (i := 476) (by decide +kernel) (by decide +kernel)
abbrev mX9_fault : zMe := (yX9_fault, cX9_fault, 2, some .int, 0, 0)
theorem okX9_fault : zMOk mX9_fault 1 := ⟨lw_in (i := 680) (by decide +kernel) (by decide +kernel), lw_in (i := 74) (by decide +kernel) (by decide +kernel), by decide +kernel, by decide +kernel, by decide +kernel⟩
theorem imX9_fault : Cond.instanceMethod yX9_fault ∈ lw_all := lw_in (i := 678) (by decide +kernel) (by decide +kernel)
theorem seX9_fault : Cond.selects yX9_fault.cls yX9_fault yX9_fault ∈ lw_all := lw_in (i := 679) (by decide +kernel) (by decide +kernel)
abbrev mX9_many : zMe := (yX9_many, cX9_many, 2, some .int, 2, 45)
theorem okX9_many : zMOk mX9_many 1 := ⟨lw_in (i := 684) (by decide +kernel) (by decide +kernel), lw_in (i := 74) (by decide +kernel) (by decide +kernel), by decide +kernel, by decide +kernel, by decide +kernel⟩
theorem imX9_many : Cond.instanceMethod yX9_many ∈ lw_all := lw_in (i := 682) (by decide +kernel) (by decide +kernel)
theorem seX9_many : Cond.selects yX9_many.cls yX9_many yX9_many ∈ lw_all := lw_in (i := 683) (by decide +kernel) (by decide +kernel)
abbrev mX9_link : zMe := (yX9_link, cX9_link, 4, some .int, 2, 42)
theorem okX9_link : zMOk mX9_link 2 := ⟨lw_in (i := 709) (by decide +kernel) (by decide +kernel), lw_in (i := 74) (by decide +kernel) (by decide +kernel), by decide +kernel, by decide +kernel, by decide +kernel⟩
theorem imX9_link : Cond.instanceMethod yX9_link ∈ lw_all := lw_in (i := 707) (by decide +kernel) (by decide +kernel)
theorem seX9_link : Cond.selects yX9_link.cls yX9_link yX9_link ∈ lw_all := lw_in (i := 708) (by decide +kernel) (by decide +kernel)
abbrev mX9_flow : zMe := (yX9_flow, cX9_flow, 4, some .int, 2, 44)
theorem okX9_flow : zMOk mX9_flow 2 := ⟨lw_in (i := 722) (by decide +kernel) (by decide +kernel), lw_in (i := 74) (by decide +kernel) (by decide +kernel), by decide +kernel, by decide +kernel, by decide +kernel⟩
theorem imX9_flow : Cond.instanceMethod yX9_flow ∈ lw_all := lw_in (i := 720) (by decide +kernel) (by decide +kernel)
theorem seX9_flow : Cond.selects yX9_flow.cls yX9_flow yX9_flow ∈ lw_all := lw_in (i := 721) (by decide +kernel) (by decide +kernel)
abbrev mX9_path : zMe := (yX9_path, cX9_path, 4, some .int, 1, 21)
theorem okX9_path : zMOk mX9_path 2 := ⟨lw_in (i := 742) (by decide +kernel) (by decide +kernel), lw_in (i := 74) (by decide +kernel) (by decide +kernel), by decide +kernel, by decide +kernel, by decide +kernel⟩
theorem imX9_path : Cond.instanceMethod yX9_path ∈ lw_all := lw_in (i := 740) (by decide +kernel) (by decide +kernel)
theorem seX9_path : Cond.selects yX9_path.cls yX9_path yX9_path ∈ lw_all := lw_in (i := 741) (by decide +kernel) (by decide +kernel)
abbrev mX9_packet : zMe := (yX9_packet, cX9_packet, 6, some .int, 3, 71)
theorem okX9_packet : zMOk mX9_packet 3 := ⟨lw_in (i := 747) (by decide +kernel) (by decide +kernel), lw_in (i := 74) (by decide +kernel) (by decide +kernel), by decide +kernel, by decide +kernel, by decide +kernel⟩
theorem imX9_packet : Cond.instanceMethod yX9_packet ∈ lw_all := lw_in (i := 745) (by decide +kernel) (by decide +kernel)
theorem seX9_packet : Cond.selects yX9_packet.cls yX9_packet yX9_packet ∈ lw_all := lw_in (i := 746) (by decide +kernel) (by decide +kernel)
abbrev mX9_event : zMe := (yX9_event, cX9_event, 3, some .int, 2, 45)
theorem okX9_event : zMOk mX9_event 2 := ⟨lw_in (i := 782) (by decide +kernel) (by decide +kernel), lw_in (i := 74) (by decide +kernel) (by decide +kernel), by decide +kernel, by decide +kernel, by decide +kernel⟩
theorem imX9_event : Cond.instanceMethod yX9_event ∈ lw_all := lw_in (i := 780) (by decide +kernel) (by decide +kernel)
theorem seX9_event : Cond.selects yX9_event.cls yX9_event yX9_event ∈ lw_all := lw_in (i := 781) (by decide +kernel) (by decide +kernel)
abbrev mX9_given : zMe := (yX9_given, cX9_given, 5, some .int, 1, 22)
theorem okX9_given : zMOk mX9_given 2 := ⟨lw_in (i := 793) (by decide +kernel) (by decide +kernel), lw_in (i := 74) (by decide +kernel) (by decide +kernel), by decide +kernel, by decide +kernel, by decide +kernel⟩
theorem imX9_given : Cond.instanceMethod yX9_given ∈ lw_all := lw_in (i := 791) (by decide +kernel) (by decide +kernel)
theorem seX9_given : Cond.selects yX9_given.cls yX9_given yX9_given ∈ lw_all := lw_in (i := 792) (by decide +kernel) (by decide +kernel)
abbrev mX9_where : zMe := (yX9_where, cX9_where, 3, some .int, 2, 46)
theorem okX9_where : zMOk mX9_where 2 := ⟨lw_in (i := 799) (by decide +kernel) (by decide +kernel), lw_in (i := 74) (by decide +kernel) (by decide +kernel), by decide +kernel, by decide +kernel, by decide +kernel⟩
theorem imX9_where : Cond.instanceMethod yX9_where ∈ lw_all := lw_in (i := 797) (by decide +kernel) (by decide +kernel)
theorem seX9_where : Cond.selects yX9_where.cls yX9_where yX9_where ∈ lw_all := lw_in (i := 798) (by decide +kernel) (by decide +kernel)
abbrev mX9_eldest : zMe := (yX9_eldest, cX9_eldest, 3, some .int, 2, 47)
theorem okX9_eldest : zMOk mX9_eldest 1 := ⟨lw_in (i := 820) (by decide +kernel) (by decide +kernel), lw_in (i := 74) (by decide +kernel) (by decide +kernel), by decide +kernel, by decide +kernel, by decide +kernel⟩
theorem imX9_eldest : Cond.instanceMethod yX9_eldest ∈ lw_all := lw_in (i := 818) (by decide +kernel) (by decide +kernel)
theorem seX9_eldest : Cond.selects yX9_eldest.cls yX9_eldest yX9_eldest ∈ lw_all := lw_in (i := 819) (by decide +kernel) (by decide +kernel)
abbrev mX9_past : zMe := (yX9_past, cX9_past, 3, some .int, 2, 45)
theorem okX9_past : zMOk mX9_past 2 := ⟨lw_in (i := 832) (by decide +kernel) (by decide +kernel), lw_in (i := 74) (by decide +kernel) (by decide +kernel), by decide +kernel, by decide +kernel, by decide +kernel⟩
theorem imX9_past : Cond.instanceMethod yX9_past ∈ lw_all := lw_in (i := 830) (by decide +kernel) (by decide +kernel)
theorem seX9_past : Cond.selects yX9_past.cls yX9_past yX9_past ∈ lw_all := lw_in (i := 831) (by decide +kernel) (by decide +kernel)
abbrev mX9_top : zMe := (yX9_top, cX9_top, 2, some .int, 3, 67)
theorem okX9_top : zMOk mX9_top 1 := ⟨lw_in (i := 841) (by decide +kernel) (by decide +kernel), lw_in (i := 74) (by decide +kernel) (by decide +kernel), by decide +kernel, by decide +kernel, by decide +kernel⟩
theorem imX9_top : Cond.instanceMethod yX9_top ∈ lw_all := lw_in (i := 839) (by decide +kernel) (by decide +kernel)
theorem seX9_top : Cond.selects yX9_top.cls yX9_top yX9_top ∈ lw_all := lw_in (i := 840) (by decide +kernel) (by decide +kernel)
abbrev mX9_alike : zMe := (yX9_alike, cX9_alike, 5, some .int, 2, 43)
theorem okX9_alike : zMOk mX9_alike 2 := ⟨lw_in (i := 854) (by decide +kernel) (by decide +kernel), lw_in (i := 74) (by decide +kernel) (by decide +kernel), by decide +kernel, by decide +kernel, by decide +kernel⟩
theorem imX9_alike : Cond.instanceMethod yX9_alike ∈ lw_all := lw_in (i := 852) (by decide +kernel) (by decide +kernel)
theorem seX9_alike : Cond.selects yX9_alike.cls yX9_alike yX9_alike ∈ lw_all := lw_in (i := 853) (by decide +kernel) (by decide +kernel)
abbrev mX9_set : zMe := (yX9_set, cX9_set, 6, some .int, 1, 22)
theorem okX9_set : zMOk mX9_set 3 := ⟨lw_in (i := 866) (by decide +kernel) (by decide +kernel), lw_in (i := 74) (by decide +kernel) (by decide +kernel), by decide +kernel, by decide +kernel, by decide +kernel⟩
theorem imX9_set : Cond.instanceMethod yX9_set ∈ lw_all := lw_in (i := 864) (by decide +kernel) (by decide +kernel)
theorem seX9_set : Cond.selects yX9_set.cls yX9_set yX9_set ∈ lw_all := lw_in (i := 865) (by decide +kernel) (by decide +kernel)
abbrev mX9_turn : zMe := (yX9_turn, cX9_turn, 4, some .boolean, 1, 21)
theorem okX9_turn : zMOk mX9_turn 2 := ⟨lw_in (i := 881) (by decide +kernel) (by decide +kernel), lw_in (i := 74) (by decide +kernel) (by decide +kernel), by decide +kernel, by decide +kernel, by decide +kernel⟩
theorem imX9_turn : Cond.instanceMethod yX9_turn ∈ lw_all := lw_in (i := 879) (by decide +kernel) (by decide +kernel)
theorem seX9_turn : Cond.selects yX9_turn.cls yX9_turn yX9_turn ∈ lw_all := lw_in (i := 880) (by decide +kernel) (by decide +kernel)
abbrev mX9_more : zMe := (yX9_more, cX9_more, 4, some .int, 1, 21)
theorem okX9_more : zMOk mX9_more 2 := ⟨lw_in (i := 885) (by decide +kernel) (by decide +kernel), lw_in (i := 74) (by decide +kernel) (by decide +kernel), by decide +kernel, by decide +kernel, by decide +kernel⟩
theorem imX9_more : Cond.instanceMethod yX9_more ∈ lw_all := lw_in (i := 883) (by decide +kernel) (by decide +kernel)
theorem seX9_more : Cond.selects yX9_more.cls yX9_more yX9_more ∈ lw_all := lw_in (i := 884) (by decide +kernel) (by decide +kernel)
abbrev mX9_kind : zMe := (yX9_kind, cX9_kind, 5, some .int, 1, 21)
theorem okX9_kind : zMOk mX9_kind 2 := ⟨lw_in (i := 889) (by decide +kernel) (by decide +kernel), lw_in (i := 74) (by decide +kernel) (by decide +kernel), by decide +kernel, by decide +kernel, by decide +kernel⟩
theorem imX9_kind : Cond.instanceMethod yX9_kind ∈ lw_all := lw_in (i := 887) (by decide +kernel) (by decide +kernel)
theorem seX9_kind : Cond.selects yX9_kind.cls yX9_kind yX9_kind ∈ lw_all := lw_in (i := 888) (by decide +kernel) (by decide +kernel)
abbrev mX9_detour : zMe := (yX9_detour, cX9_detour, 6, some .int, 2, 45)
theorem okX9_detour : zMOk mX9_detour 3 := ⟨lw_in (i := 893) (by decide +kernel) (by decide +kernel), lw_in (i := 74) (by decide +kernel) (by decide +kernel), by decide +kernel, by decide +kernel, by decide +kernel⟩
theorem imX9_detour : Cond.instanceMethod yX9_detour ∈ lw_all := lw_in (i := 891) (by decide +kernel) (by decide +kernel)
theorem seX9_detour : Cond.selects yX9_detour.cls yX9_detour yX9_detour ∈ lw_all := lw_in (i := 892) (by decide +kernel) (by decide +kernel)
abbrev mX9_tick : zMe := (yX9_tick, cX9_tick, 2, some .int, 6, 140)
theorem okX9_tick : zMOk mX9_tick 1 := ⟨lw_in (i := 900) (by decide +kernel) (by decide +kernel), lw_in (i := 74) (by decide +kernel) (by decide +kernel), by decide +kernel, by decide +kernel, by decide +kernel⟩
theorem imX9_tick : Cond.instanceMethod yX9_tick ∈ lw_all := lw_in (i := 898) (by decide +kernel) (by decide +kernel)
theorem seX9_tick : Cond.selects yX9_tick.cls yX9_tick yX9_tick ∈ lw_all := lw_in (i := 899) (by decide +kernel) (by decide +kernel)
abbrev mX9_mark : zMe := (yX9_mark, cX9_mark, 1, some .int, 5, 111)
theorem okX9_mark : zMOk mX9_mark 0 := ⟨lw_in (i := 1086) (by decide +kernel) (by decide +kernel), lw_in (i := 74) (by decide +kernel) (by decide +kernel), by decide +kernel, by decide +kernel, by decide +kernel⟩
theorem imX9_mark : Cond.instanceMethod yX9_mark ∈ lw_all := lw_in (i := 1084) (by decide +kernel) (by decide +kernel)
theorem seX9_mark : Cond.selects yX9_mark.cls yX9_mark yX9_mark ∈ lw_all := lw_in (i := 1085) (by decide +kernel) (by decide +kernel)
abbrev mX9_back : zMe := (yX9_back, cX9_back, 2, some .int, 1, 21)
theorem okX9_back : zMOk mX9_back 0 := ⟨lw_in (i := 1124) (by decide +kernel) (by decide +kernel), lw_in (i := 74) (by decide +kernel) (by decide +kernel), by decide +kernel, by decide +kernel, by decide +kernel⟩
theorem imX9_back : Cond.instanceMethod yX9_back ∈ lw_all := lw_in (i := 1122) (by decide +kernel) (by decide +kernel)
theorem seX9_back : Cond.selects yX9_back.cls yX9_back yX9_back ∈ lw_all := lw_in (i := 1123) (by decide +kernel) (by decide +kernel)
abbrev mX9_best : zMe := (yX9_best, cX9_best, 2, some .int, 6, 141)
theorem okX9_best : zMOk mX9_best 1 := ⟨lw_in (i := 1128) (by decide +kernel) (by decide +kernel), lw_in (i := 74) (by decide +kernel) (by decide +kernel), by decide +kernel, by decide +kernel, by decide +kernel⟩
theorem imX9_best : Cond.instanceMethod yX9_best ∈ lw_all := lw_in (i := 1126) (by decide +kernel) (by decide +kernel)
theorem seX9_best : Cond.selects yX9_best.cls yX9_best yX9_best ∈ lw_all := lw_in (i := 1127) (by decide +kernel) (by decide +kernel)
abbrev mX9_neck : zMe := (yX9_neck, cX9_neck, 3, some .int, 6, 141)
theorem okX9_neck : zMOk mX9_neck 1 := ⟨lw_in (i := 1155) (by decide +kernel) (by decide +kernel), lw_in (i := 74) (by decide +kernel) (by decide +kernel), by decide +kernel, by decide +kernel, by decide +kernel⟩
theorem imX9_neck : Cond.instanceMethod yX9_neck ∈ lw_all := lw_in (i := 1153) (by decide +kernel) (by decide +kernel)
theorem seX9_neck : Cond.selects yX9_neck.cls yX9_neck yX9_neck ∈ lw_all := lw_in (i := 1154) (by decide +kernel) (by decide +kernel)
abbrev mX9_when : zMe := (yX9_when, cX9_when, 2, some .int, 7, 163)
theorem okX9_when : zMOk mX9_when 1 := ⟨lw_in (i := 1163) (by decide +kernel) (by decide +kernel), lw_in (i := 74) (by decide +kernel) (by decide +kernel), by decide +kernel, by decide +kernel, by decide +kernel⟩
theorem imX9_when : Cond.instanceMethod yX9_when ∈ lw_all := lw_in (i := 1161) (by decide +kernel) (by decide +kernel)
theorem seX9_when : Cond.selects yX9_when.cls yX9_when yX9_when ∈ lw_all := lw_in (i := 1162) (by decide +kernel) (by decide +kernel)
abbrev mX9_closes : zMe := (yX9_closes, cX9_closes, 2, some .int, 7, 163)
theorem okX9_closes : zMOk mX9_closes 1 := ⟨lw_in (i := 1179) (by decide +kernel) (by decide +kernel), lw_in (i := 74) (by decide +kernel) (by decide +kernel), by decide +kernel, by decide +kernel, by decide +kernel⟩
theorem imX9_closes : Cond.instanceMethod yX9_closes ∈ lw_all := lw_in (i := 1177) (by decide +kernel) (by decide +kernel)
theorem seX9_closes : Cond.selects yX9_closes.cls yX9_closes yX9_closes ∈ lw_all := lw_in (i := 1178) (by decide +kernel) (by decide +kernel)
abbrev mX9_caught : zMe := (yX9_caught, cX9_caught, 2, some .int, 7, 163)
theorem okX9_caught : zMOk mX9_caught 1 := ⟨lw_in (i := 1183) (by decide +kernel) (by decide +kernel), lw_in (i := 74) (by decide +kernel) (by decide +kernel), by decide +kernel, by decide +kernel, by decide +kernel⟩
theorem imX9_caught : Cond.instanceMethod yX9_caught ∈ lw_all := lw_in (i := 1181) (by decide +kernel) (by decide +kernel)
theorem seX9_caught : Cond.selects yX9_caught.cls yX9_caught yX9_caught ∈ lw_all := lw_in (i := 1182) (by decide +kernel) (by decide +kernel)
abbrev mX9_after : zMe := (yX9_after, cX9_after, 3, some .int, 7, 163)
theorem okX9_after : zMOk mX9_after 2 := ⟨lw_in (i := 1187) (by decide +kernel) (by decide +kernel), lw_in (i := 74) (by decide +kernel) (by decide +kernel), by decide +kernel, by decide +kernel, by decide +kernel⟩
theorem imX9_after : Cond.instanceMethod yX9_after ∈ lw_all := lw_in (i := 1185) (by decide +kernel) (by decide +kernel)
theorem seX9_after : Cond.selects yX9_after.cls yX9_after yX9_after ∈ lw_all := lw_in (i := 1186) (by decide +kernel) (by decide +kernel)
abbrev mX9_without : zMe := (yX9_without, cX9_without, 7, some .int, 6, 140)
theorem okX9_without : zMOk mX9_without 3 := ⟨lw_in (i := 1207) (by decide +kernel) (by decide +kernel), lw_in (i := 74) (by decide +kernel) (by decide +kernel), by decide +kernel, by decide +kernel, by decide +kernel⟩
theorem imX9_without : Cond.instanceMethod yX9_without ∈ lw_all := lw_in (i := 1205) (by decide +kernel) (by decide +kernel)
theorem seX9_without : Cond.selects yX9_without.cls yX9_without yX9_without ∈ lw_all := lw_in (i := 1206) (by decide +kernel) (by decide +kernel)
abbrev mX9_blind : zMe := (yX9_blind, cX9_blind, 3, some .int, 7, 163)
theorem okX9_blind : zMOk mX9_blind 2 := ⟨lw_in (i := 1211) (by decide +kernel) (by decide +kernel), lw_in (i := 74) (by decide +kernel) (by decide +kernel), by decide +kernel, by decide +kernel, by decide +kernel⟩
theorem imX9_blind : Cond.instanceMethod yX9_blind ∈ lw_all := lw_in (i := 1209) (by decide +kernel) (by decide +kernel)
theorem seX9_blind : Cond.selects yX9_blind.cls yX9_blind yX9_blind ∈ lw_all := lw_in (i := 1210) (by decide +kernel) (by decide +kernel)
abbrev mX9_least : zMe := (yX9_least, cX9_least, 7, some .int, 7, 165)
theorem okX9_least : zMOk mX9_least 3 := ⟨lw_in (i := 1215) (by decide +kernel) (by decide +kernel), lw_in (i := 74) (by decide +kernel) (by decide +kernel), by decide +kernel, by decide +kernel, by decide +kernel⟩
theorem imX9_least : Cond.instanceMethod yX9_least ∈ lw_all := lw_in (i := 1213) (by decide +kernel) (by decide +kernel)
theorem seX9_least : Cond.selects yX9_least.cls yX9_least yX9_least ∈ lw_all := lw_in (i := 1214) (by decide +kernel) (by decide +kernel)
abbrev mX9_refuse : zMe := (yX9_refuse, cX9_refuse, 2, some .int, 0, 0)
theorem okX9_refuse : zMOk mX9_refuse 1 := ⟨lw_in (i := 481) (by decide +kernel) (by decide +kernel), lw_in (i := 74) (by decide +kernel) (by decide +kernel), by decide +kernel, by decide +kernel, by decide +kernel⟩
theorem imX9_refuse : Cond.instanceMethod yX9_refuse ∈ lw_all := lw_in (i := 480) (by decide +kernel) (by decide +kernel)
theorem seX9_refuse : Cond.selects yX9_refuse.cls yX9_refuse yX9_refuse ∈ lw_all := lw_in (i := 1) (by decide +kernel) (by decide +kernel)
abbrev mX9_answer : zMe := (yX9_answer, cX9_answer, 2, some .int, 0, 0)
theorem okX9_answer : zMOk mX9_answer 1 := ⟨lw_in (i := 676) (by decide +kernel) (by decide +kernel), lw_in (i := 74) (by decide +kernel) (by decide +kernel), by decide +kernel, by decide +kernel, by decide +kernel⟩
theorem imX9_answer : Cond.instanceMethod yX9_answer ∈ lw_all := lw_in (i := 675) (by decide +kernel) (by decide +kernel)
theorem seX9_answer : Cond.selects yX9_answer.cls yX9_answer yX9_answer ∈ lw_all := lw_in (i := 2) (by decide +kernel) (by decide +kernel)
abbrev mX9_putBytes : zMe := (yX9_putBytes, cX9_putBytes, 3, none, 0, 0)
theorem okX9_putBytes : zMOk mX9_putBytes 1 := ⟨lw_in (i := 473) (by decide +kernel) (by decide +kernel), lw_in (i := 74) (by decide +kernel) (by decide +kernel), by decide +kernel, by decide +kernel, by decide +kernel⟩
theorem imX9_putBytes : Cond.instanceMethod yX9_putBytes ∈ lw_all := lw_in (i := 472) (by decide +kernel) (by decide +kernel)
theorem seX9_putBytes : Cond.selects yX9_putBytes.cls yX9_putBytes yX9_putBytes ∈ lw_all := lw_in (i := 0) (by decide +kernel) (by decide +kernel)
abbrev mX9_ticksUntil : zMe := (yX9_ticksUntil, cX9_ticksUntil, 4, some .int, 6, 140)
theorem okX9_ticksUntil : zMOk mX9_ticksUntil 2 := ⟨lw_in (i := 1167) (by decide +kernel) (by decide +kernel), lw_in (i := 74) (by decide +kernel) (by decide +kernel), by decide +kernel, by decide +kernel, by decide +kernel⟩
theorem imX9_ticksUntil : Cond.instanceMethod yX9_ticksUntil ∈ lw_all := lw_in (i := 1166) (by decide +kernel) (by decide +kernel)
theorem seX9_ticksUntil : Cond.selects yX9_ticksUntil.cls yX9_ticksUntil yX9_ticksUntil ∈ lw_all := lw_in (i := 3) (by decide +kernel) (by decide +kernel)
abbrev mX9_isReached : zMe := (yX9_isReached, cX9_isReached, 3, some .boolean, 2, 45)
theorem okX9_isReached : zMOk mX9_isReached 2 := ⟨lw_in (i := 1171) (by decide +kernel) (by decide +kernel), lw_in (i := 74) (by decide +kernel) (by decide +kernel), by decide +kernel, by decide +kernel, by decide +kernel⟩
theorem imX9_isReached : Cond.instanceMethod yX9_isReached ∈ lw_all := lw_in (i := 1170) (by decide +kernel) (by decide +kernel)
theorem seX9_isReached : Cond.selects yX9_isReached.cls yX9_isReached yX9_isReached ∈ lw_all := lw_in (i := 4) (by decide +kernel) (by decide +kernel)
abbrev mX9_foretell : zMe := (yX9_foretell, cX9_foretell, 4, some .int, 6, 140)
theorem okX9_foretell : zMOk mX9_foretell 3 := ⟨lw_in (i := 1191) (by decide +kernel) (by decide +kernel), lw_in (i := 74) (by decide +kernel) (by decide +kernel), by decide +kernel, by decide +kernel, by decide +kernel⟩
theorem imX9_foretell : Cond.instanceMethod yX9_foretell ∈ lw_all := lw_in (i := 1190) (by decide +kernel) (by decide +kernel)
theorem seX9_foretell : Cond.selects yX9_foretell.cls yX9_foretell yX9_foretell ∈ lw_all := lw_in (i := 5) (by decide +kernel) (by decide +kernel)
abbrev mX9_losesNone : zMe := (yX9_losesNone, cX9_losesNone, 6, some .boolean, 6, 140)
theorem okX9_losesNone : zMOk mX9_losesNone 4 := ⟨lw_in (i := 1219) (by decide +kernel) (by decide +kernel), lw_in (i := 74) (by decide +kernel) (by decide +kernel), by decide +kernel, by decide +kernel, by decide +kernel⟩
theorem imX9_losesNone : Cond.instanceMethod yX9_losesNone ∈ lw_all := lw_in (i := 1218) (by decide +kernel) (by decide +kernel)
theorem seX9_losesNone : Cond.selects yX9_losesNone.cls yX9_losesNone yX9_losesNone ∈ lw_all := lw_in (i := 6) (by decide +kernel) (by decide +kernel)
abbrev mX10_init : zMe := (yX10_init, cX10_init, 1, none, 2, 44)
theorem okX10_init : zMOk mX10_init 0 := ⟨lw_in (i := 1224) (by decide +kernel) (by decide +kernel), lw_in (i := 83) (by decide +kernel) (by decide +kernel), by decide +kernel, by decide +kernel, by decide +kernel⟩
theorem imX10_init : Cond.instanceMethod yX10_init ∈ lw_all := lw_in (i := 1223) (by decide +kernel) (by decide +kernel)
abbrev mX10_status : zMe := (yX10_status, cX10_status, 1, some .int, 0, 0)
theorem okX10_status : zMOk mX10_status 0 := ⟨lw_in (i := 1293) (by decide +kernel) (by decide +kernel), lw_in (i := 83) (by decide +kernel) (by decide +kernel), by decide +kernel, by decide +kernel, by decide +kernel⟩
theorem imX10_status : Cond.instanceMethod yX10_status ∈ lw_all := lw_in (i := 1291) (by decide +kernel) (by decide +kernel)
theorem seX10_status : Cond.selects yX10_status.cls yX10_status yX10_status ∈ lw_all := lw_in (i := 1292) (by decide +kernel) (by decide +kernel)
abbrev mX10_refuse : zMe := (yX10_refuse, cX10_refuse, 2, some .int, 0, 0)
theorem okX10_refuse : zMOk mX10_refuse 1 := ⟨lw_in (i := 1312) (by decide +kernel) (by decide +kernel), lw_in (i := 83) (by decide +kernel) (by decide +kernel), by decide +kernel, by decide +kernel, by decide +kernel⟩
theorem imX10_refuse : Cond.instanceMethod yX10_refuse ∈ lw_all := lw_in (i := 1311) (by decide +kernel) (by decide +kernel)
theorem seX10_refuse : Cond.selects yX10_refuse.cls yX10_refuse yX10_refuse ∈ lw_all := lw_in (i := 10) (by decide +kernel) (by decide +kernel)
abbrev mX10_isSo : zMe := (yX10_isSo, cX10_isSo, 2, some .boolean, 0, 0)
theorem okX10_isSo : zMOk mX10_isSo 1 := ⟨lw_in (i := 1571) (by decide +kernel) (by decide +kernel), lw_in (i := 83) (by decide +kernel) (by decide +kernel), by decide +kernel, by decide +kernel, by decide +kernel⟩
theorem imX10_isSo : Cond.instanceMethod yX10_isSo ∈ lw_all := lw_in (i := 1570) (by decide +kernel) (by decide +kernel)
theorem seX10_isSo : Cond.selects yX10_isSo.cls yX10_isSo yX10_isSo ∈ lw_all := lw_in (i := 49) (by decide +kernel) (by decide +kernel)
abbrev mX10_gives : zMe := (yX10_gives, cX10_gives, 3, some .int, 0, 0)
theorem okX10_gives : zMOk mX10_gives 1 := ⟨lw_in (i := 1420) (by decide +kernel) (by decide +kernel), lw_in (i := 83) (by decide +kernel) (by decide +kernel), by decide +kernel, by decide +kernel, by decide +kernel⟩
theorem imX10_gives : Cond.instanceMethod yX10_gives ∈ lw_all := lw_in (i := 1419) (by decide +kernel) (by decide +kernel)
theorem seX10_gives : Cond.selects yX10_gives.cls yX10_gives yX10_gives ∈ lw_all := lw_in (i := 31) (by decide +kernel) (by decide +kernel)
abbrev mX10_isFrom : zMe := (yX10_isFrom, cX10_isFrom, 6, some .boolean, 0, 0)
theorem okX10_isFrom : zMOk mX10_isFrom 3 := ⟨lw_in (i := 1308) (by decide +kernel) (by decide +kernel), lw_in (i := 83) (by decide +kernel) (by decide +kernel), by decide +kernel, by decide +kernel, by decide +kernel⟩
theorem stX10_isFrom : Cond.static yX10_isFrom ∈ lw_all := lw_in (i := 1307) (by decide +kernel) (by decide +kernel)
abbrev mX10_has : zMe := (yX10_has, cX10_has, 3, some .boolean, 0, 0)
theorem okX10_has : zMOk mX10_has 2 := ⟨lw_in (i := 1473) (by decide +kernel) (by decide +kernel), lw_in (i := 83) (by decide +kernel) (by decide +kernel), by decide +kernel, by decide +kernel, by decide +kernel⟩
theorem stX10_has : Cond.static yX10_has ∈ lw_all := lw_in (i := 1472) (by decide +kernel) (by decide +kernel)
abbrev mX10_of : zMe := (yX10_of, cX10_of, 2, some .long, 0, 0)
theorem okX10_of : zMOk mX10_of 1 := ⟨lw_in (i := 1351) (by decide +kernel) (by decide +kernel), lw_in (i := 83) (by decide +kernel) (by decide +kernel), by decide +kernel, by decide +kernel, by decide +kernel⟩
theorem imX10_of : Cond.instanceMethod yX10_of ∈ lw_all := lw_in (i := 1350) (by decide +kernel) (by decide +kernel)
theorem seX10_of : Cond.selects yX10_of.cls yX10_of yX10_of ∈ lw_all := lw_in (i := 17) (by decide +kernel) (by decide +kernel)
abbrev mX10_at : zMe := (yX10_at, cX10_at, 2, some .int, 0, 0)
theorem okX10_at : zMOk mX10_at 1 := ⟨lw_in (i := 1360) (by decide +kernel) (by decide +kernel), lw_in (i := 83) (by decide +kernel) (by decide +kernel), by decide +kernel, by decide +kernel, by decide +kernel⟩
theorem imX10_at : Cond.instanceMethod yX10_at ∈ lw_all := lw_in (i := 1359) (by decide +kernel) (by decide +kernel)
theorem seX10_at : Cond.selects yX10_at.cls yX10_at yX10_at ∈ lw_all := lw_in (i := 19) (by decide +kernel) (by decide +kernel)
abbrev mX10_puts : zMe := (yX10_puts, cX10_puts, 4, none, 0, 0)
theorem okX10_puts : zMOk mX10_puts 2 := ⟨lw_in (i := 1233) (by decide +kernel) (by decide +kernel), lw_in (i := 83) (by decide +kernel) (by decide +kernel), by decide +kernel, by decide +kernel, by decide +kernel⟩
theorem imX10_puts : Cond.instanceMethod yX10_puts ∈ lw_all := lw_in (i := 1232) (by decide +kernel) (by decide +kernel)
theorem seX10_puts : Cond.selects yX10_puts.cls yX10_puts yX10_puts ∈ lw_all := lw_in (i := 8) (by decide +kernel) (by decide +kernel)
abbrev mX10_adds : zMe := (yX10_adds, cX10_adds, 4, none, 0, 0)
theorem okX10_adds : zMOk mX10_adds 2 := ⟨lw_in (i := 1380) (by decide +kernel) (by decide +kernel), lw_in (i := 83) (by decide +kernel) (by decide +kernel), by decide +kernel, by decide +kernel, by decide +kernel⟩
theorem imX10_adds : Cond.instanceMethod yX10_adds ∈ lw_all := lw_in (i := 1379) (by decide +kernel) (by decide +kernel)
theorem seX10_adds : Cond.selects yX10_adds.cls yX10_adds yX10_adds ∈ lw_all := lw_in (i := 23) (by decide +kernel) (by decide +kernel)
abbrev mX10_copies : zMe := (yX10_copies, cX10_copies, 4, none, 0, 0)
theorem okX10_copies : zMOk mX10_copies 2 := ⟨lw_in (i := 1316) (by decide +kernel) (by decide +kernel), lw_in (i := 83) (by decide +kernel) (by decide +kernel), by decide +kernel, by decide +kernel, by decide +kernel⟩
theorem imX10_copies : Cond.instanceMethod yX10_copies ∈ lw_all := lw_in (i := 1315) (by decide +kernel) (by decide +kernel)
theorem seX10_copies : Cond.selects yX10_copies.cls yX10_copies yX10_copies ∈ lw_all := lw_in (i := 11) (by decide +kernel) (by decide +kernel)
abbrev mX10_begins : zMe := (yX10_begins, cX10_begins, 2, none, 1, 23)
theorem okX10_begins : zMOk mX10_begins 0 := ⟨lw_in (i := 1229) (by decide +kernel) (by decide +kernel), lw_in (i := 83) (by decide +kernel) (by decide +kernel), by decide +kernel, by decide +kernel, by decide +kernel⟩
theorem imX10_begins : Cond.instanceMethod yX10_begins ∈ lw_all := lw_in (i := 1228) (by decide +kernel) (by decide +kernel)
theorem seX10_begins : Cond.selects yX10_begins.cls yX10_begins yX10_begins ∈ lw_all := lw_in (i := 7) (by decide +kernel) (by decide +kernel)
abbrev mX10_link0 : zMe := (yX10_link0, cX10_link0, 2, some .int, 0, 0)
theorem okX10_link0 : zMOk mX10_link0 2 := ⟨lw_in (i := 1363) (by decide +kernel) (by decide +kernel), lw_in (i := 83) (by decide +kernel) (by decide +kernel), by decide +kernel, by decide +kernel, by decide +kernel⟩
theorem stX10_link0 : Cond.static yX10_link0 ∈ lw_all := lw_in (i := 1362) (by decide +kernel) (by decide +kernel)
abbrev mX10_flow0 : zMe := (yX10_flow0, cX10_flow0, 2, some .int, 0, 0)
theorem okX10_flow0 : zMOk mX10_flow0 2 := ⟨lw_in (i := 1399) (by decide +kernel) (by decide +kernel), lw_in (i := 83) (by decide +kernel) (by decide +kernel), by decide +kernel, by decide +kernel, by decide +kernel⟩
theorem stX10_flow0 : Cond.static yX10_flow0 ∈ lw_all := lw_in (i := 1398) (by decide +kernel) (by decide +kernel)
abbrev mX10_packet0 : zMe := (yX10_packet0, cX10_packet0, 2, some .int, 0, 0)
theorem okX10_packet0 : zMOk mX10_packet0 2 := ⟨lw_in (i := 1488) (by decide +kernel) (by decide +kernel), lw_in (i := 83) (by decide +kernel) (by decide +kernel), by decide +kernel, by decide +kernel, by decide +kernel⟩
theorem stX10_packet0 : Cond.static yX10_packet0 ∈ lw_all := lw_in (i := 1487) (by decide +kernel) (by decide +kernel)
abbrev mX10_ofLink : zMe := (yX10_ofLink, cX10_ofLink, 3, some .long, 1, 21)
theorem okX10_ofLink : zMOk mX10_ofLink 2 := ⟨lw_in (i := 1376) (by decide +kernel) (by decide +kernel), lw_in (i := 83) (by decide +kernel) (by decide +kernel), by decide +kernel, by decide +kernel, by decide +kernel⟩
theorem imX10_ofLink : Cond.instanceMethod yX10_ofLink ∈ lw_all := lw_in (i := 1375) (by decide +kernel) (by decide +kernel)
theorem seX10_ofLink : Cond.selects yX10_ofLink.cls yX10_ofLink yX10_ofLink ∈ lw_all := lw_in (i := 22) (by decide +kernel) (by decide +kernel)
abbrev mX10_ofFlow : zMe := (yX10_ofFlow, cX10_ofFlow, 3, some .long, 1, 21)
theorem okX10_ofFlow : zMOk mX10_ofFlow 2 := ⟨lw_in (i := 1396) (by decide +kernel) (by decide +kernel), lw_in (i := 83) (by decide +kernel) (by decide +kernel), by decide +kernel, by decide +kernel, by decide +kernel⟩
theorem imX10_ofFlow : Cond.instanceMethod yX10_ofFlow ∈ lw_all := lw_in (i := 1395) (by decide +kernel) (by decide +kernel)
theorem seX10_ofFlow : Cond.selects yX10_ofFlow.cls yX10_ofFlow yX10_ofFlow ∈ lw_all := lw_in (i := 27) (by decide +kernel) (by decide +kernel)
abbrev mX10_flowOf : zMe := (yX10_flowOf, cX10_flowOf, 2, some .int, 1, 21)
theorem okX10_flowOf : zMOk mX10_flowOf 1 := ⟨lw_in (i := 1485) (by decide +kernel) (by decide +kernel), lw_in (i := 83) (by decide +kernel) (by decide +kernel), by decide +kernel, by decide +kernel, by decide +kernel⟩
theorem imX10_flowOf : Cond.instanceMethod yX10_flowOf ∈ lw_all := lw_in (i := 1484) (by decide +kernel) (by decide +kernel)
theorem seX10_flowOf : Cond.selects yX10_flowOf.cls yX10_flowOf yX10_flowOf ∈ lw_all := lw_in (i := 39) (by decide +kernel) (by decide +kernel)
abbrev mX10_isLink : zMe := (yX10_isLink, cX10_isLink, 2, some .boolean, 1, 21)
theorem okX10_isLink : zMOk mX10_isLink 1 := ⟨lw_in (i := 1457) (by decide +kernel) (by decide +kernel), lw_in (i := 83) (by decide +kernel) (by decide +kernel), by decide +kernel, by decide +kernel, by decide +kernel⟩
theorem imX10_isLink : Cond.instanceMethod yX10_isLink ∈ lw_all := lw_in (i := 1456) (by decide +kernel) (by decide +kernel)
theorem seX10_isLink : Cond.selects yX10_isLink.cls yX10_isLink yX10_isLink ∈ lw_all := lw_in (i := 36) (by decide +kernel) (by decide +kernel)
abbrev mX10_isFlow : zMe := (yX10_isFlow, cX10_isFlow, 2, some .boolean, 1, 21)
theorem okX10_isFlow : zMOk mX10_isFlow 1 := ⟨lw_in (i := 1466) (by decide +kernel) (by decide +kernel), lw_in (i := 83) (by decide +kernel) (by decide +kernel), by decide +kernel, by decide +kernel, by decide +kernel⟩
theorem imX10_isFlow : Cond.instanceMethod yX10_isFlow ∈ lw_all := lw_in (i := 1465) (by decide +kernel) (by decide +kernel)
theorem seX10_isFlow : Cond.selects yX10_isFlow.cls yX10_isFlow yX10_isFlow ∈ lw_all := lw_in (i := 37) (by decide +kernel) (by decide +kernel)
abbrev mX10_hop : zMe := (yX10_hop, cX10_hop, 3, some .int, 1, 21)
theorem okX10_hop : zMOk mX10_hop 2 := ⟨lw_in (i := 1403) (by decide +kernel) (by decide +kernel), lw_in (i := 83) (by decide +kernel) (by decide +kernel), by decide +kernel, by decide +kernel, by decide +kernel⟩
theorem imX10_hop : Cond.instanceMethod yX10_hop ∈ lw_all := lw_in (i := 1402) (by decide +kernel) (by decide +kernel)
theorem seX10_hop : Cond.selects yX10_hop.cls yX10_hop yX10_hop ∈ lw_all := lw_in (i := 28) (by decide +kernel) (by decide +kernel)
abbrev mX10_backOf : zMe := (yX10_backOf, cX10_backOf, 4, some .int, 2, 43)
theorem okX10_backOf : zMOk mX10_backOf 1 := ⟨lw_in (i := 1411) (by decide +kernel) (by decide +kernel), lw_in (i := 83) (by decide +kernel) (by decide +kernel), by decide +kernel, by decide +kernel, by decide +kernel⟩
theorem imX10_backOf : Cond.instanceMethod yX10_backOf ∈ lw_all := lw_in (i := 1410) (by decide +kernel) (by decide +kernel)
theorem seX10_backOf : Cond.selects yX10_backOf.cls yX10_backOf yX10_backOf ∈ lw_all := lw_in (i := 29) (by decide +kernel) (by decide +kernel)
abbrev mX10_isOn : zMe := (yX10_isOn, cX10_isOn, 2, some .boolean, 2, 43)
theorem okX10_isOn : zMOk mX10_isOn 1 := ⟨lw_in (i := 1440) (by decide +kernel) (by decide +kernel), lw_in (i := 83) (by decide +kernel) (by decide +kernel), by decide +kernel, by decide +kernel, by decide +kernel⟩
theorem imX10_isOn : Cond.instanceMethod yX10_isOn ∈ lw_all := lw_in (i := 1439) (by decide +kernel) (by decide +kernel)
theorem seX10_isOn : Cond.selects yX10_isOn.cls yX10_isOn yX10_isOn ∈ lw_all := lw_in (i := 34) (by decide +kernel) (by decide +kernel)
abbrev mX10_happens : zMe := (yX10_happens, cX10_happens, 5, none, 1, 23)
theorem okX10_happens : zMOk mX10_happens 3 := ⟨lw_in (i := 1607) (by decide +kernel) (by decide +kernel), lw_in (i := 83) (by decide +kernel) (by decide +kernel), by decide +kernel, by decide +kernel, by decide +kernel⟩
theorem imX10_happens : Cond.instanceMethod yX10_happens ∈ lw_all := lw_in (i := 1606) (by decide +kernel) (by decide +kernel)
theorem seX10_happens : Cond.selects yX10_happens.cls yX10_happens yX10_happens ∈ lw_all := lw_in (i := 54) (by decide +kernel) (by decide +kernel)
abbrev mX10_comesBack : zMe := (yX10_comesBack, cX10_comesBack, 3, none, 3, 66)
theorem okX10_comesBack : zMOk mX10_comesBack 2 := ⟨lw_in (i := 1617) (by decide +kernel) (by decide +kernel), lw_in (i := 83) (by decide +kernel) (by decide +kernel), by decide +kernel, by decide +kernel, by decide +kernel⟩
theorem imX10_comesBack : Cond.instanceMethod yX10_comesBack ∈ lw_all := lw_in (i := 1616) (by decide +kernel) (by decide +kernel)
theorem seX10_comesBack : Cond.selects yX10_comesBack.cls yX10_comesBack yX10_comesBack ∈ lw_all := lw_in (i := 56) (by decide +kernel) (by decide +kernel)
abbrev mX10_partOf : zMe := (yX10_partOf, cX10_partOf, 2, some .long, 1, 23)
theorem okX10_partOf : zMOk mX10_partOf 1 := ⟨lw_in (i := 1500) (by decide +kernel) (by decide +kernel), lw_in (i := 83) (by decide +kernel) (by decide +kernel), by decide +kernel, by decide +kernel, by decide +kernel⟩
theorem imX10_partOf : Cond.instanceMethod yX10_partOf ∈ lw_all := lw_in (i := 1499) (by decide +kernel) (by decide +kernel)
theorem seX10_partOf : Cond.selects yX10_partOf.cls yX10_partOf yX10_partOf ∈ lw_all := lw_in (i := 42) (by decide +kernel) (by decide +kernel)
abbrev mX10_comes : zMe := (yX10_comes, cX10_comes, 5, none, 4, 88)
theorem okX10_comes : zMOk mX10_comes 2 := ⟨lw_in (i := 1621) (by decide +kernel) (by decide +kernel), lw_in (i := 83) (by decide +kernel) (by decide +kernel), by decide +kernel, by decide +kernel, by decide +kernel⟩
theorem imX10_comes : Cond.instanceMethod yX10_comes ∈ lw_all := lw_in (i := 1620) (by decide +kernel) (by decide +kernel)
theorem seX10_comes : Cond.selects yX10_comes.cls yX10_comes yX10_comes ∈ lw_all := lw_in (i := 57) (by decide +kernel) (by decide +kernel)
abbrev mX10_returns : zMe := (yX10_returns, cX10_returns, 7, none, 2, 47)
theorem okX10_returns : zMOk mX10_returns 1 := ⟨lw_in (i := 1603) (by decide +kernel) (by decide +kernel), lw_in (i := 83) (by decide +kernel) (by decide +kernel), by decide +kernel, by decide +kernel, by decide +kernel⟩
theorem imX10_returns : Cond.instanceMethod yX10_returns ∈ lw_all := lw_in (i := 1602) (by decide +kernel) (by decide +kernel)
theorem seX10_returns : Cond.selects yX10_returns.cls yX10_returns yX10_returns ∈ lw_all := lw_in (i := 53) (by decide +kernel) (by decide +kernel)
abbrev mX10_allReturn : zMe := (yX10_allReturn, cX10_allReturn, 5, none, 3, 73)
theorem okX10_allReturn : zMOk mX10_allReturn 0 := ⟨lw_in (i := 1599) (by decide +kernel) (by decide +kernel), lw_in (i := 83) (by decide +kernel) (by decide +kernel), by decide +kernel, by decide +kernel, by decide +kernel⟩
theorem imX10_allReturn : Cond.instanceMethod yX10_allReturn ∈ lw_all := lw_in (i := 1598) (by decide +kernel) (by decide +kernel)
theorem seX10_allReturn : Cond.selects yX10_allReturn.cls yX10_allReturn yX10_allReturn ∈ lw_all := lw_in (i := 52) (by decide +kernel) (by decide +kernel)
abbrev mX10_arrives : zMe := (yX10_arrives, cX10_arrives, 7, none, 5, 112)
theorem okX10_arrives : zMOk mX10_arrives 1 := ⟨lw_in (i := 1613) (by decide +kernel) (by decide +kernel), lw_in (i := 83) (by decide +kernel) (by decide +kernel), by decide +kernel, by decide +kernel, by decide +kernel⟩
theorem imX10_arrives : Cond.instanceMethod yX10_arrives ∈ lw_all := lw_in (i := 1612) (by decide +kernel) (by decide +kernel)
theorem seX10_arrives : Cond.selects yX10_arrives.cls yX10_arrives yX10_arrives ∈ lw_all := lw_in (i := 55) (by decide +kernel) (by decide +kernel)
abbrev mX10_maySend : zMe := (yX10_maySend, cX10_maySend, 2, some .boolean, 2, 43)
theorem okX10_maySend : zMOk mX10_maySend 1 := ⟨lw_in (i := 1629) (by decide +kernel) (by decide +kernel), lw_in (i := 83) (by decide +kernel) (by decide +kernel), by decide +kernel, by decide +kernel, by decide +kernel⟩
theorem imX10_maySend : Cond.instanceMethod yX10_maySend ∈ lw_all := lw_in (i := 1628) (by decide +kernel) (by decide +kernel)
theorem seX10_maySend : Cond.selects yX10_maySend.cls yX10_maySend yX10_maySend ∈ lw_all := lw_in (i := 59) (by decide +kernel) (by decide +kernel)
abbrev mX10_freePlace : zMe := (yX10_freePlace, cX10_freePlace, 2, some .int, 1, 21)
theorem okX10_freePlace : zMOk mX10_freePlace 0 := ⟨lw_in (i := 1633) (by decide +kernel) (by decide +kernel), lw_in (i := 83) (by decide +kernel) (by decide +kernel), by decide +kernel, by decide +kernel, by decide +kernel⟩
theorem imX10_freePlace : Cond.instanceMethod yX10_freePlace ∈ lw_all := lw_in (i := 1632) (by decide +kernel) (by decide +kernel)
theorem seX10_freePlace : Cond.selects yX10_freePlace.cls yX10_freePlace yX10_freePlace ∈ lw_all := lw_in (i := 60) (by decide +kernel) (by decide +kernel)
abbrev mX10_sends : zMe := (yX10_sends, cX10_sends, 4, none, 5, 112)
theorem okX10_sends : zMOk mX10_sends 1 := ⟨lw_in (i := 1625) (by decide +kernel) (by decide +kernel), lw_in (i := 83) (by decide +kernel) (by decide +kernel), by decide +kernel, by decide +kernel, by decide +kernel⟩
theorem imX10_sends : Cond.instanceMethod yX10_sends ∈ lw_all := lw_in (i := 1624) (by decide +kernel) (by decide +kernel)
theorem seX10_sends : Cond.selects yX10_sends.cls yX10_sends yX10_sends ∈ lw_all := lw_in (i := 58) (by decide +kernel) (by decide +kernel)
abbrev mX10_plusBy : zMe := (yX10_plusBy, cX10_plusBy, 4, some .long, 2, 43)
theorem okX10_plusBy : zMOk mX10_plusBy 2 := ⟨lw_in (i := 1505) (by decide +kernel) (by decide +kernel), lw_in (i := 83) (by decide +kernel) (by decide +kernel), by decide +kernel, by decide +kernel, by decide +kernel⟩
theorem imX10_plusBy : Cond.instanceMethod yX10_plusBy ∈ lw_all := lw_in (i := 1504) (by decide +kernel) (by decide +kernel)
theorem seX10_plusBy : Cond.selects yX10_plusBy.cls yX10_plusBy yX10_plusBy ∈ lw_all := lw_in (i := 43) (by decide +kernel) (by decide +kernel)
abbrev mX10_minusBy : zMe := (yX10_minusBy, cX10_minusBy, 4, some .long, 2, 43)
theorem okX10_minusBy : zMOk mX10_minusBy 2 := ⟨lw_in (i := 1513) (by decide +kernel) (by decide +kernel), lw_in (i := 83) (by decide +kernel) (by decide +kernel), by decide +kernel, by decide +kernel, by decide +kernel⟩
theorem imX10_minusBy : Cond.instanceMethod yX10_minusBy ∈ lw_all := lw_in (i := 1512) (by decide +kernel) (by decide +kernel)
theorem seX10_minusBy : Cond.selects yX10_minusBy.cls yX10_minusBy yX10_minusBy ∈ lw_all := lw_in (i := 45) (by decide +kernel) (by decide +kernel)
abbrev mX10_gotWith : zMe := (yX10_gotWith, cX10_gotWith, 3, some .long, 2, 44)
theorem okX10_gotWith : zMOk mX10_gotWith 2 := ⟨lw_in (i := 1496) (by decide +kernel) (by decide +kernel), lw_in (i := 83) (by decide +kernel) (by decide +kernel), by decide +kernel, by decide +kernel, by decide +kernel⟩
theorem imX10_gotWith : Cond.instanceMethod yX10_gotWith ∈ lw_all := lw_in (i := 1495) (by decide +kernel) (by decide +kernel)
theorem seX10_gotWith : Cond.selects yX10_gotWith.cls yX10_gotWith yX10_gotWith ∈ lw_all := lw_in (i := 41) (by decide +kernel) (by decide +kernel)
abbrev mX10_tookWith : zMe := (yX10_tookWith, cX10_tookWith, 2, some .long, 2, 43)
theorem okX10_tookWith : zMOk mX10_tookWith 1 := ⟨lw_in (i := 1509) (by decide +kernel) (by decide +kernel), lw_in (i := 83) (by decide +kernel) (by decide +kernel), by decide +kernel, by decide +kernel, by decide +kernel⟩
theorem imX10_tookWith : Cond.instanceMethod yX10_tookWith ∈ lw_all := lw_in (i := 1508) (by decide +kernel) (by decide +kernel)
theorem seX10_tookWith : Cond.selects yX10_tookWith.cls yX10_tookWith yX10_tookWith ∈ lw_all := lw_in (i := 44) (by decide +kernel) (by decide +kernel)
abbrev mX10_shareOf : zMe := (yX10_shareOf, cX10_shareOf, 3, some .long, 3, 66)
theorem okX10_shareOf : zMOk mX10_shareOf 2 := ⟨lw_in (i := 1492) (by decide +kernel) (by decide +kernel), lw_in (i := 83) (by decide +kernel) (by decide +kernel), by decide +kernel, by decide +kernel, by decide +kernel⟩
theorem imX10_shareOf : Cond.instanceMethod yX10_shareOf ∈ lw_all := lw_in (i := 1491) (by decide +kernel) (by decide +kernel)
theorem seX10_shareOf : Cond.selects yX10_shareOf.cls yX10_shareOf yX10_shareOf ∈ lw_all := lw_in (i := 40) (by decide +kernel) (by decide +kernel)
abbrev mX10_leaves : zMe := (yX10_leaves, cX10_leaves, 6, none, 4, 88)
theorem okX10_leaves : zMOk mX10_leaves 1 := ⟨lw_in (i := 1637) (by decide +kernel) (by decide +kernel), lw_in (i := 83) (by decide +kernel) (by decide +kernel), by decide +kernel, by decide +kernel, by decide +kernel⟩
theorem imX10_leaves : Cond.instanceMethod yX10_leaves ∈ lw_all := lw_in (i := 1636) (by decide +kernel) (by decide +kernel)
theorem seX10_leaves : Cond.selects yX10_leaves.cls yX10_leaves yX10_leaves ∈ lw_all := lw_in (i := 61) (by decide +kernel) (by decide +kernel)
abbrev mX10_catches : zMe := (yX10_catches, cX10_catches, 11, none, 2, 47)
theorem okX10_catches : zMOk mX10_catches 2 := ⟨lw_in (i := 1646) (by decide +kernel) (by decide +kernel), lw_in (i := 83) (by decide +kernel) (by decide +kernel), by decide +kernel, by decide +kernel, by decide +kernel⟩
theorem imX10_catches : Cond.instanceMethod yX10_catches ∈ lw_all := lw_in (i := 1645) (by decide +kernel) (by decide +kernel)
theorem seX10_catches : Cond.selects yX10_catches.cls yX10_catches yX10_catches ∈ lw_all := lw_in (i := 63) (by decide +kernel) (by decide +kernel)
abbrev mX10_spanEnds : zMe := (yX10_spanEnds, cX10_spanEnds, 12, none, 3, 77)
theorem okX10_spanEnds : zMOk mX10_spanEnds 1 := ⟨lw_in (i := 1641) (by decide +kernel) (by decide +kernel), lw_in (i := 83) (by decide +kernel) (by decide +kernel), by decide +kernel, by decide +kernel, by decide +kernel⟩
theorem imX10_spanEnds : Cond.instanceMethod yX10_spanEnds ∈ lw_all := lw_in (i := 1640) (by decide +kernel) (by decide +kernel)
theorem seX10_spanEnds : Cond.selects yX10_spanEnds.cls yX10_spanEnds yX10_spanEnds ∈ lw_all := lw_in (i := 62) (by decide +kernel) (by decide +kernel)
abbrev mX10_remembers : zMe := (yX10_remembers, cX10_remembers, 2, none, 2, 43)
theorem okX10_remembers : zMOk mX10_remembers 0 := ⟨lw_in (i := 1651) (by decide +kernel) (by decide +kernel), lw_in (i := 83) (by decide +kernel) (by decide +kernel), by decide +kernel, by decide +kernel, by decide +kernel⟩
theorem imX10_remembers : Cond.instanceMethod yX10_remembers ∈ lw_all := lw_in (i := 1650) (by decide +kernel) (by decide +kernel)
theorem seX10_remembers : Cond.selects yX10_remembers.cls yX10_remembers yX10_remembers ∈ lw_all := lw_in (i := 64) (by decide +kernel) (by decide +kernel)
abbrev mX10_ticks : zMe := (yX10_ticks, cX10_ticks, 2, none, 6, 138)
theorem okX10_ticks : zMOk mX10_ticks 0 := ⟨lw_in (i := 1595) (by decide +kernel) (by decide +kernel), lw_in (i := 83) (by decide +kernel) (by decide +kernel), by decide +kernel, by decide +kernel, by decide +kernel⟩
theorem imX10_ticks : Cond.instanceMethod yX10_ticks ∈ lw_all := lw_in (i := 1594) (by decide +kernel) (by decide +kernel)
theorem seX10_ticks : Cond.selects yX10_ticks.cls yX10_ticks yX10_ticks ∈ lw_all := lw_in (i := 51) (by decide +kernel) (by decide +kernel)
abbrev mX10_ticks_ : zMe := (yX10_ticks_, cX10_ticks_, 3, none, 7, 159)
theorem okX10_ticks_ : zMOk mX10_ticks_ 1 := ⟨lw_in (i := 1591) (by decide +kernel) (by decide +kernel), lw_in (i := 83) (by decide +kernel) (by decide +kernel), by decide +kernel, by decide +kernel, by decide +kernel⟩
theorem imX10_ticks_ : Cond.instanceMethod yX10_ticks_ ∈ lw_all := lw_in (i := 1590) (by decide +kernel) (by decide +kernel)
theorem seX10_ticks_ : Cond.selects yX10_ticks_.cls yX10_ticks_ yX10_ticks_ ∈ lw_all := lw_in (i := 50) (by decide +kernel) (by decide +kernel)
abbrev mX10_feed : zMe := (yX10_feed, cX10_feed, 6, some .int, 1, 22)
theorem okX10_feed : zMOk mX10_feed 5 := ⟨lw_in (i := 1297) (by decide +kernel) (by decide +kernel), lw_in (i := 83) (by decide +kernel) (by decide +kernel), by decide +kernel, by decide +kernel, by decide +kernel⟩
theorem imX10_feed : Cond.instanceMethod yX10_feed ∈ lw_all := lw_in (i := 1295) (by decide +kernel) (by decide +kernel)
theorem seX10_feed : Cond.selects yX10_feed.cls yX10_feed yX10_feed ∈ lw_all := lw_in (i := 1296) (by decide +kernel) (by decide +kernel)
abbrev mX10_four : zMe := (yX10_four, cX10_four, 3, none, 0, 0)
theorem okX10_four : zMOk mX10_four 1 := ⟨lw_in (i := 1301) (by decide +kernel) (by decide +kernel), lw_in (i := 83) (by decide +kernel) (by decide +kernel), by decide +kernel, by decide +kernel, by decide +kernel⟩
theorem imX10_four : Cond.instanceMethod yX10_four ∈ lw_all := lw_in (i := 1300) (by decide +kernel) (by decide +kernel)
theorem seX10_four : Cond.selects yX10_four.cls yX10_four yX10_four ∈ lw_all := lw_in (i := 9) (by decide +kernel) (by decide +kernel)
abbrev mX10_byteAt : zMe := (yX10_byteAt, cX10_byteAt, 2, some .int, 0, 0)
theorem okX10_byteAt : zMOk mX10_byteAt 1 := ⟨lw_in (i := 1324) (by decide +kernel) (by decide +kernel), lw_in (i := 83) (by decide +kernel) (by decide +kernel), by decide +kernel, by decide +kernel, by decide +kernel⟩
theorem imX10_byteAt : Cond.instanceMethod yX10_byteAt ∈ lw_all := lw_in (i := 1323) (by decide +kernel) (by decide +kernel)
theorem seX10_byteAt : Cond.selects yX10_byteAt.cls yX10_byteAt yX10_byteAt ∈ lw_all := lw_in (i := 13) (by decide +kernel) (by decide +kernel)
abbrev mX10_isSmall : zMe := (yX10_isSmall, cX10_isSmall, 1, some .boolean, 0, 0)
theorem okX10_isSmall : zMOk mX10_isSmall 1 := ⟨lw_in (i := 1327) (by decide +kernel) (by decide +kernel), lw_in (i := 83) (by decide +kernel) (by decide +kernel), by decide +kernel, by decide +kernel, by decide +kernel⟩
theorem stX10_isSmall : Cond.static yX10_isSmall ∈ lw_all := lw_in (i := 1326) (by decide +kernel) (by decide +kernel)
abbrev mX10_isDigit : zMe := (yX10_isDigit, cX10_isDigit, 1, some .boolean, 0, 0)
theorem okX10_isDigit : zMOk mX10_isDigit 1 := ⟨lw_in (i := 1330) (by decide +kernel) (by decide +kernel), lw_in (i := 83) (by decide +kernel) (by decide +kernel), by decide +kernel, by decide +kernel, by decide +kernel⟩
theorem stX10_isDigit : Cond.static yX10_isDigit ∈ lw_all := lw_in (i := 1329) (by decide +kernel) (by decide +kernel)
abbrev mX10_ahead : zMe := (yX10_ahead, cX10_ahead, 2, none, 1, 21)
theorem okX10_ahead : zMOk mX10_ahead 0 := ⟨lw_in (i := 1320) (by decide +kernel) (by decide +kernel), lw_in (i := 83) (by decide +kernel) (by decide +kernel), by decide +kernel, by decide +kernel, by decide +kernel⟩
theorem imX10_ahead : Cond.instanceMethod yX10_ahead ∈ lw_all := lw_in (i := 1319) (by decide +kernel) (by decide +kernel)
theorem seX10_ahead : Cond.selects yX10_ahead.cls yX10_ahead yX10_ahead ∈ lw_all := lw_in (i := 12) (by decide +kernel) (by decide +kernel)
abbrev mX10_key : zMe := (yX10_key, cX10_key, 6, some .int, 5, 106)
theorem okX10_key : zMOk mX10_key 0 := ⟨lw_in (i := 1340) (by decide +kernel) (by decide +kernel), lw_in (i := 83) (by decide +kernel) (by decide +kernel), by decide +kernel, by decide +kernel, by decide +kernel⟩
theorem imX10_key : Cond.instanceMethod yX10_key ∈ lw_all := lw_in (i := 1339) (by decide +kernel) (by decide +kernel)
theorem seX10_key : Cond.selects yX10_key.cls yX10_key yX10_key ∈ lw_all := lw_in (i := 15) (by decide +kernel) (by decide +kernel)
abbrev mX10_fails : zMe := (yX10_fails, cX10_fails, 2, some .boolean, 0, 0)
theorem okX10_fails : zMOk mX10_fails 1 := ⟨lw_in (i := 1356) (by decide +kernel) (by decide +kernel), lw_in (i := 83) (by decide +kernel) (by decide +kernel), by decide +kernel, by decide +kernel, by decide +kernel⟩
theorem imX10_fails : Cond.instanceMethod yX10_fails ∈ lw_all := lw_in (i := 1355) (by decide +kernel) (by decide +kernel)
theorem seX10_fails : Cond.selects yX10_fails.cls yX10_fails yX10_fails ∈ lw_all := lw_in (i := 18) (by decide +kernel) (by decide +kernel)
abbrev mX10_takes : zMe := (yX10_takes, cX10_takes, 1, some .boolean, 2, 42)
theorem okX10_takes : zMOk mX10_takes 0 := ⟨lw_in (i := 1371) (by decide +kernel) (by decide +kernel), lw_in (i := 83) (by decide +kernel) (by decide +kernel), by decide +kernel, by decide +kernel, by decide +kernel⟩
theorem imX10_takes : Cond.instanceMethod yX10_takes ∈ lw_all := lw_in (i := 1370) (by decide +kernel) (by decide +kernel)
theorem seX10_takes : Cond.selects yX10_takes.cls yX10_takes yX10_takes ∈ lw_all := lw_in (i := 21) (by decide +kernel) (by decide +kernel)
abbrev mX10_takesNumber : zMe := (yX10_takesNumber, cX10_takesNumber, 4, some .boolean, 3, 62)
theorem okX10_takesNumber : zMOk mX10_takesNumber 3 := ⟨lw_in (i := 1367) (by decide +kernel) (by decide +kernel), lw_in (i := 83) (by decide +kernel) (by decide +kernel), by decide +kernel, by decide +kernel, by decide +kernel⟩
theorem imX10_takesNumber : Cond.instanceMethod yX10_takesNumber ∈ lw_all := lw_in (i := 1366) (by decide +kernel) (by decide +kernel)
theorem seX10_takesNumber : Cond.selects yX10_takesNumber.cls yX10_takesNumber yX10_takesNumber ∈ lw_all := lw_in (i := 20) (by decide +kernel) (by decide +kernel)
abbrev mX10_aLink : zMe := (yX10_aLink, cX10_aLink, 2, some .boolean, 6, 131)
theorem okX10_aLink : zMOk mX10_aLink 0 := ⟨lw_in (i := 1347) (by decide +kernel) (by decide +kernel), lw_in (i := 83) (by decide +kernel) (by decide +kernel), by decide +kernel, by decide +kernel, by decide +kernel⟩
theorem imX10_aLink : Cond.instanceMethod yX10_aLink ∈ lw_all := lw_in (i := 1346) (by decide +kernel) (by decide +kernel)
theorem seX10_aLink : Cond.selects yX10_aLink.cls yX10_aLink yX10_aLink ∈ lw_all := lw_in (i := 16) (by decide +kernel) (by decide +kernel)
abbrev mX10_isInPath : zMe := (yX10_isInPath, cX10_isInPath, 4, some .boolean, 2, 43)
theorem okX10_isInPath : zMOk mX10_isInPath 2 := ⟨lw_in (i := 1392) (by decide +kernel) (by decide +kernel), lw_in (i := 83) (by decide +kernel) (by decide +kernel), by decide +kernel, by decide +kernel, by decide +kernel⟩
theorem imX10_isInPath : Cond.instanceMethod yX10_isInPath ∈ lw_all := lw_in (i := 1391) (by decide +kernel) (by decide +kernel)
theorem seX10_isInPath : Cond.selects yX10_isInPath.cls yX10_isInPath yX10_isInPath ∈ lw_all := lw_in (i := 26) (by decide +kernel) (by decide +kernel)
abbrev mX10_aHop : zMe := (yX10_aHop, cX10_aHop, 2, some .boolean, 3, 66)
theorem okX10_aHop : zMOk mX10_aHop 1 := ⟨lw_in (i := 1388) (by decide +kernel) (by decide +kernel), lw_in (i := 83) (by decide +kernel) (by decide +kernel), by decide +kernel, by decide +kernel, by decide +kernel⟩
theorem imX10_aHop : Cond.instanceMethod yX10_aHop ∈ lw_all := lw_in (i := 1387) (by decide +kernel) (by decide +kernel)
theorem seX10_aHop : Cond.selects yX10_aHop.cls yX10_aHop yX10_aHop ∈ lw_all := lw_in (i := 25) (by decide +kernel) (by decide +kernel)
abbrev mX10_marks : zMe := (yX10_marks, cX10_marks, 5, some .boolean, 6, 131)
theorem okX10_marks : zMOk mX10_marks 1 := ⟨lw_in (i := 1415) (by decide +kernel) (by decide +kernel), lw_in (i := 83) (by decide +kernel) (by decide +kernel), by decide +kernel, by decide +kernel, by decide +kernel⟩
theorem imX10_marks : Cond.instanceMethod yX10_marks ∈ lw_all := lw_in (i := 1414) (by decide +kernel) (by decide +kernel)
theorem seX10_marks : Cond.selects yX10_marks.cls yX10_marks yX10_marks ∈ lw_all := lw_in (i := 30) (by decide +kernel) (by decide +kernel)
abbrev mX10_aFlow : zMe := (yX10_aFlow, cX10_aFlow, 2, some .boolean, 7, 155)
theorem okX10_aFlow : zMOk mX10_aFlow 0 := ⟨lw_in (i := 1384) (by decide +kernel) (by decide +kernel), lw_in (i := 83) (by decide +kernel) (by decide +kernel), by decide +kernel, by decide +kernel, by decide +kernel⟩
theorem imX10_aFlow : Cond.instanceMethod yX10_aFlow ∈ lw_all := lw_in (i := 1383) (by decide +kernel) (by decide +kernel)
theorem seX10_aFlow : Cond.selects yX10_aFlow.cls yX10_aFlow yX10_aFlow ∈ lw_all := lw_in (i := 24) (by decide +kernel) (by decide +kernel)
abbrev mX10_aLine : zMe := (yX10_aLine, cX10_aLine, 3, some .boolean, 8, 176)
theorem okX10_aLine : zMOk mX10_aLine 0 := ⟨lw_in (i := 1336) (by decide +kernel) (by decide +kernel), lw_in (i := 83) (by decide +kernel) (by decide +kernel), by decide +kernel, by decide +kernel, by decide +kernel⟩
theorem imX10_aLine : Cond.instanceMethod yX10_aLine ∈ lw_all := lw_in (i := 1335) (by decide +kernel) (by decide +kernel)
theorem seX10_aLine : Cond.selects yX10_aLine.cls yX10_aLine yX10_aLine ∈ lw_all := lw_in (i := 14) (by decide +kernel) (by decide +kernel)
abbrev mX10_load : zMe := (yX10_load, cX10_load, 3, some .int, 9, 198)
theorem okX10_load : zMOk mX10_load 1 := ⟨lw_in (i := 1305) (by decide +kernel) (by decide +kernel), lw_in (i := 83) (by decide +kernel) (by decide +kernel), by decide +kernel, by decide +kernel, by decide +kernel⟩
theorem imX10_load : Cond.instanceMethod yX10_load ∈ lw_all := lw_in (i := 1303) (by decide +kernel) (by decide +kernel)
theorem seX10_load : Cond.selects yX10_load.cls yX10_load yX10_load ∈ lw_all := lw_in (i := 1304) (by decide +kernel) (by decide +kernel)
abbrev mX10_fault : zMe := (yX10_fault, cX10_fault, 2, some .int, 0, 0)
theorem okX10_fault : zMOk mX10_fault 1 := ⟨lw_in (i := 1424) (by decide +kernel) (by decide +kernel), lw_in (i := 83) (by decide +kernel) (by decide +kernel), by decide +kernel, by decide +kernel, by decide +kernel⟩
theorem imX10_fault : Cond.instanceMethod yX10_fault ∈ lw_all := lw_in (i := 1422) (by decide +kernel) (by decide +kernel)
theorem seX10_fault : Cond.selects yX10_fault.cls yX10_fault yX10_fault ∈ lw_all := lw_in (i := 1423) (by decide +kernel) (by decide +kernel)
abbrev mX10_linksSum : zMe := (yX10_linksSum, cX10_linksSum, 5, some .long, 2, 43)
theorem okX10_linksSum : zMOk mX10_linksSum 1 := ⟨lw_in (i := 1432) (by decide +kernel) (by decide +kernel), lw_in (i := 83) (by decide +kernel) (by decide +kernel), by decide +kernel, by decide +kernel, by decide +kernel⟩
theorem imX10_linksSum : Cond.instanceMethod yX10_linksSum ∈ lw_all := lw_in (i := 1431) (by decide +kernel) (by decide +kernel)
theorem seX10_linksSum : Cond.selects yX10_linksSum.cls yX10_linksSum yX10_linksSum ∈ lw_all := lw_in (i := 32) (by decide +kernel) (by decide +kernel)
abbrev mX10_flowsSum : zMe := (yX10_flowsSum, cX10_flowsSum, 5, some .long, 2, 43)
theorem okX10_flowsSum : zMOk mX10_flowsSum 1 := ⟨lw_in (i := 1713) (by decide +kernel) (by decide +kernel), lw_in (i := 83) (by decide +kernel) (by decide +kernel), by decide +kernel, by decide +kernel, by decide +kernel⟩
theorem imX10_flowsSum : Cond.instanceMethod yX10_flowsSum ∈ lw_all := lw_in (i := 1712) (by decide +kernel) (by decide +kernel)
theorem seX10_flowsSum : Cond.selects yX10_flowsSum.cls yX10_flowsSum yX10_flowsSum ∈ lw_all := lw_in (i := 71) (by decide +kernel) (by decide +kernel)
abbrev mX10_even : zMe := (yX10_even, cX10_even, 8, some .long, 3, 64)
theorem okX10_even : zMOk mX10_even 0 := ⟨lw_in (i := 1436) (by decide +kernel) (by decide +kernel), lw_in (i := 83) (by decide +kernel) (by decide +kernel), by decide +kernel, by decide +kernel, by decide +kernel⟩
theorem imX10_even : Cond.instanceMethod yX10_even ∈ lw_all := lw_in (i := 1435) (by decide +kernel) (by decide +kernel)
theorem seX10_even : Cond.selects yX10_even.cls yX10_even yX10_even ∈ lw_all := lw_in (i := 33) (by decide +kernel) (by decide +kernel)
abbrev mX10_gap : zMe := (yX10_gap, cX10_gap, 6, some .long, 3, 64)
theorem okX10_gap : zMOk mX10_gap 0 := ⟨lw_in (i := 1445) (by decide +kernel) (by decide +kernel), lw_in (i := 83) (by decide +kernel) (by decide +kernel), by decide +kernel, by decide +kernel, by decide +kernel⟩
theorem imX10_gap : Cond.instanceMethod yX10_gap ∈ lw_all := lw_in (i := 1444) (by decide +kernel) (by decide +kernel)
theorem seX10_gap : Cond.selects yX10_gap.cls yX10_gap yX10_gap ∈ lw_all := lw_in (i := 35) (by decide +kernel) (by decide +kernel)
abbrev mX10_many : zMe := (yX10_many, cX10_many, 2, some .int, 4, 91)
theorem okX10_many : zMOk mX10_many 1 := ⟨lw_in (i := 1428) (by decide +kernel) (by decide +kernel), lw_in (i := 83) (by decide +kernel) (by decide +kernel), by decide +kernel, by decide +kernel, by decide +kernel⟩
theorem imX10_many : Cond.instanceMethod yX10_many ∈ lw_all := lw_in (i := 1426) (by decide +kernel) (by decide +kernel)
theorem seX10_many : Cond.selects yX10_many.cls yX10_many yX10_many ∈ lw_all := lw_in (i := 1427) (by decide +kernel) (by decide +kernel)
abbrev mX10_link : zMe := (yX10_link, cX10_link, 3, some .int, 2, 43)
theorem okX10_link : zMOk mX10_link 2 := ⟨lw_in (i := 1452) (by decide +kernel) (by decide +kernel), lw_in (i := 83) (by decide +kernel) (by decide +kernel), by decide +kernel, by decide +kernel, by decide +kernel⟩
theorem imX10_link : Cond.instanceMethod yX10_link ∈ lw_all := lw_in (i := 1450) (by decide +kernel) (by decide +kernel)
theorem seX10_link : Cond.selects yX10_link.cls yX10_link yX10_link ∈ lw_all := lw_in (i := 1451) (by decide +kernel) (by decide +kernel)
abbrev mX10_caughtAt : zMe := (yX10_caughtAt, cX10_caughtAt, 4, some .int, 2, 43)
theorem okX10_caughtAt : zMOk mX10_caughtAt 1 := ⟨lw_in (i := 1470) (by decide +kernel) (by decide +kernel), lw_in (i := 83) (by decide +kernel) (by decide +kernel), by decide +kernel, by decide +kernel, by decide +kernel⟩
theorem imX10_caughtAt : Cond.instanceMethod yX10_caughtAt ∈ lw_all := lw_in (i := 1469) (by decide +kernel) (by decide +kernel)
theorem seX10_caughtAt : Cond.selects yX10_caughtAt.cls yX10_caughtAt yX10_caughtAt ∈ lw_all := lw_in (i := 38) (by decide +kernel) (by decide +kernel)
abbrev mX10_flow : zMe := (yX10_flow, cX10_flow, 3, some .int, 3, 66)
theorem okX10_flow : zMOk mX10_flow 2 := ⟨lw_in (i := 1461) (by decide +kernel) (by decide +kernel), lw_in (i := 83) (by decide +kernel) (by decide +kernel), by decide +kernel, by decide +kernel, by decide +kernel⟩
theorem imX10_flow : Cond.instanceMethod yX10_flow ∈ lw_all := lw_in (i := 1459) (by decide +kernel) (by decide +kernel)
theorem seX10_flow : Cond.selects yX10_flow.cls yX10_flow yX10_flow ∈ lw_all := lw_in (i := 1460) (by decide +kernel) (by decide +kernel)
abbrev mX10_path : zMe := (yX10_path, cX10_path, 3, some .int, 2, 43)
theorem okX10_path : zMOk mX10_path 2 := ⟨lw_in (i := 1477) (by decide +kernel) (by decide +kernel), lw_in (i := 83) (by decide +kernel) (by decide +kernel), by decide +kernel, by decide +kernel, by decide +kernel⟩
theorem imX10_path : Cond.instanceMethod yX10_path ∈ lw_all := lw_in (i := 1475) (by decide +kernel) (by decide +kernel)
theorem seX10_path : Cond.selects yX10_path.cls yX10_path yX10_path ∈ lw_all := lw_in (i := 1476) (by decide +kernel) (by decide +kernel)
abbrev mX10_packet : zMe := (yX10_packet, cX10_packet, 5, some .int, 4, 88)
theorem okX10_packet : zMOk mX10_packet 3 := ⟨lw_in (i := 1481) (by decide +kernel) (by decide +kernel), lw_in (i := 83) (by decide +kernel) (by decide +kernel), by decide +kernel, by decide +kernel, by decide +kernel⟩
theorem imX10_packet : Cond.instanceMethod yX10_packet ∈ lw_all := lw_in (i := 1479) (by decide +kernel) (by decide +kernel)
theorem seX10_packet : Cond.selects yX10_packet.cls yX10_packet yX10_packet ∈ lw_all := lw_in (i := 1480) (by decide +kernel) (by decide +kernel)
abbrev mX10_event : zMe := (yX10_event, cX10_event, 3, some .int, 1, 25)
theorem okX10_event : zMOk mX10_event 2 := ⟨lw_in (i := 1517) (by decide +kernel) (by decide +kernel), lw_in (i := 83) (by decide +kernel) (by decide +kernel), by decide +kernel, by decide +kernel, by decide +kernel⟩
theorem imX10_event : Cond.instanceMethod yX10_event ∈ lw_all := lw_in (i := 1515) (by decide +kernel) (by decide +kernel)
theorem seX10_event : Cond.selects yX10_event.cls yX10_event yX10_event ∈ lw_all := lw_in (i := 1516) (by decide +kernel) (by decide +kernel)
abbrev mX10_given : zMe := (yX10_given, cX10_given, 3, some .int, 3, 66)
theorem okX10_given : zMOk mX10_given 2 := ⟨lw_in (i := 1522) (by decide +kernel) (by decide +kernel), lw_in (i := 83) (by decide +kernel) (by decide +kernel), by decide +kernel, by decide +kernel, by decide +kernel⟩
theorem imX10_given : Cond.instanceMethod yX10_given ∈ lw_all := lw_in (i := 1520) (by decide +kernel) (by decide +kernel)
theorem seX10_given : Cond.selects yX10_given.cls yX10_given yX10_given ∈ lw_all := lw_in (i := 1521) (by decide +kernel) (by decide +kernel)
abbrev mX10_among : zMe := (yX10_among, cX10_among, 9, some .int, 2, 42)
theorem okX10_among : zMOk mX10_among 4 := ⟨lw_in (i := 1530) (by decide +kernel) (by decide +kernel), lw_in (i := 83) (by decide +kernel) (by decide +kernel), by decide +kernel, by decide +kernel, by decide +kernel⟩
theorem imX10_among : Cond.instanceMethod yX10_among ∈ lw_all := lw_in (i := 1529) (by decide +kernel) (by decide +kernel)
theorem seX10_among : Cond.selects yX10_among.cls yX10_among yX10_among ∈ lw_all := lw_in (i := 46) (by decide +kernel) (by decide +kernel)
abbrev mX10_where : zMe := (yX10_where, cX10_where, 5, some .int, 3, 70)
theorem okX10_where : zMOk mX10_where 2 := ⟨lw_in (i := 1526) (by decide +kernel) (by decide +kernel), lw_in (i := 83) (by decide +kernel) (by decide +kernel), by decide +kernel, by decide +kernel, by decide +kernel⟩
theorem imX10_where : Cond.instanceMethod yX10_where ∈ lw_all := lw_in (i := 1524) (by decide +kernel) (by decide +kernel)
theorem seX10_where : Cond.selects yX10_where.cls yX10_where yX10_where ∈ lw_all := lw_in (i := 1525) (by decide +kernel) (by decide +kernel)
abbrev mX10_eldest : zMe := (yX10_eldest, cX10_eldest, 5, some .int, 2, 42)
theorem okX10_eldest : zMOk mX10_eldest 1 := ⟨lw_in (i := 1534) (by decide +kernel) (by decide +kernel), lw_in (i := 83) (by decide +kernel) (by decide +kernel), by decide +kernel, by decide +kernel, by decide +kernel⟩
theorem imX10_eldest : Cond.instanceMethod yX10_eldest ∈ lw_all := lw_in (i := 1532) (by decide +kernel) (by decide +kernel)
theorem seX10_eldest : Cond.selects yX10_eldest.cls yX10_eldest yX10_eldest ∈ lw_all := lw_in (i := 1533) (by decide +kernel) (by decide +kernel)
abbrev mX10_past : zMe := (yX10_past, cX10_past, 3, some .int, 2, 42)
theorem okX10_past : zMOk mX10_past 2 := ⟨lw_in (i := 1539) (by decide +kernel) (by decide +kernel), lw_in (i := 83) (by decide +kernel) (by decide +kernel), by decide +kernel, by decide +kernel, by decide +kernel⟩
theorem imX10_past : Cond.instanceMethod yX10_past ∈ lw_all := lw_in (i := 1537) (by decide +kernel) (by decide +kernel)
theorem seX10_past : Cond.selects yX10_past.cls yX10_past yX10_past ∈ lw_all := lw_in (i := 1538) (by decide +kernel) (by decide +kernel)
abbrev mX10_top : zMe := (yX10_top, cX10_top, 5, some .int, 2, 43)
theorem okX10_top : zMOk mX10_top 1 := ⟨lw_in (i := 1544) (by decide +kernel) (by decide +kernel), lw_in (i := 83) (by decide +kernel) (by decide +kernel), by decide +kernel, by decide +kernel, by decide +kernel⟩
theorem imX10_top : Cond.instanceMethod yX10_top ∈ lw_all := lw_in (i := 1542) (by decide +kernel) (by decide +kernel)
theorem seX10_top : Cond.selects yX10_top.cls yX10_top yX10_top ∈ lw_all := lw_in (i := 1543) (by decide +kernel) (by decide +kernel)
abbrev mX10_isLike : zMe := (yX10_isLike, cX10_isLike, 7, some .boolean, 2, 43)
theorem okX10_isLike : zMOk mX10_isLike 3 := ⟨lw_in (i := 1552) (by decide +kernel) (by decide +kernel), lw_in (i := 83) (by decide +kernel) (by decide +kernel), by decide +kernel, by decide +kernel, by decide +kernel⟩
theorem imX10_isLike : Cond.instanceMethod yX10_isLike ∈ lw_all := lw_in (i := 1551) (by decide +kernel) (by decide +kernel)
theorem seX10_isLike : Cond.selects yX10_isLike.cls yX10_isLike yX10_isLike ∈ lw_all := lw_in (i := 47) (by decide +kernel) (by decide +kernel)
abbrev mX10_alike : zMe := (yX10_alike, cX10_alike, 3, some .int, 3, 69)
theorem okX10_alike : zMOk mX10_alike 2 := ⟨lw_in (i := 1548) (by decide +kernel) (by decide +kernel), lw_in (i := 83) (by decide +kernel) (by decide +kernel), by decide +kernel, by decide +kernel, by decide +kernel⟩
theorem imX10_alike : Cond.instanceMethod yX10_alike ∈ lw_all := lw_in (i := 1546) (by decide +kernel) (by decide +kernel)
theorem seX10_alike : Cond.selects yX10_alike.cls yX10_alike yX10_alike ∈ lw_all := lw_in (i := 1547) (by decide +kernel) (by decide +kernel)
abbrev mX10_turned : zMe := (yX10_turned, cX10_turned, 5, some .int, 1, 23)
theorem okX10_turned : zMOk mX10_turned 2 := ⟨lw_in (i := 1563) (by decide +kernel) (by decide +kernel), lw_in (i := 83) (by decide +kernel) (by decide +kernel), by decide +kernel, by decide +kernel, by decide +kernel⟩
theorem imX10_turned : Cond.instanceMethod yX10_turned ∈ lw_all := lw_in (i := 1562) (by decide +kernel) (by decide +kernel)
theorem seX10_turned : Cond.selects yX10_turned.cls yX10_turned yX10_turned ∈ lw_all := lw_in (i := 48) (by decide +kernel) (by decide +kernel)
abbrev mX10_set : zMe := (yX10_set, cX10_set, 5, some .int, 2, 47)
theorem okX10_set : zMOk mX10_set 3 := ⟨lw_in (i := 1556) (by decide +kernel) (by decide +kernel), lw_in (i := 83) (by decide +kernel) (by decide +kernel), by decide +kernel, by decide +kernel, by decide +kernel⟩
theorem imX10_set : Cond.instanceMethod yX10_set ∈ lw_all := lw_in (i := 1554) (by decide +kernel) (by decide +kernel)
theorem seX10_set : Cond.selects yX10_set.cls yX10_set yX10_set ∈ lw_all := lw_in (i := 1555) (by decide +kernel) (by decide +kernel)
abbrev mX10_turn : zMe := (yX10_turn, cX10_turn, 3, some .boolean, 3, 64)
theorem okX10_turn : zMOk mX10_turn 2 := ⟨lw_in (i := 1567) (by decide +kernel) (by decide +kernel), lw_in (i := 83) (by decide +kernel) (by decide +kernel), by decide +kernel, by decide +kernel, by decide +kernel⟩
theorem imX10_turn : Cond.instanceMethod yX10_turn ∈ lw_all := lw_in (i := 1565) (by decide +kernel) (by decide +kernel)
theorem seX10_turn : Cond.selects yX10_turn.cls yX10_turn yX10_turn ∈ lw_all := lw_in (i := 1566) (by decide +kernel) (by decide +kernel)
abbrev mX10_more : zMe := (yX10_more, cX10_more, 3, some .int, 2, 43)
theorem okX10_more : zMOk mX10_more 2 := ⟨lw_in (i := 1575) (by decide +kernel) (by decide +kernel), lw_in (i := 83) (by decide +kernel) (by decide +kernel), by decide +kernel, by decide +kernel, by decide +kernel⟩
theorem imX10_more : Cond.instanceMethod yX10_more ∈ lw_all := lw_in (i := 1573) (by decide +kernel) (by decide +kernel)
theorem seX10_more : Cond.selects yX10_more.cls yX10_more yX10_more ∈ lw_all := lw_in (i := 1574) (by decide +kernel) (by decide +kernel)
abbrev mX10_kind : zMe := (yX10_kind, cX10_kind, 3, some .int, 2, 47)
theorem okX10_kind : zMOk mX10_kind 2 := ⟨lw_in (i := 1579) (by decide +kernel) (by decide +kernel), lw_in (i := 83) (by decide +kernel) (by decide +kernel), by decide +kernel, by decide +kernel, by decide +kernel⟩
theorem imX10_kind : Cond.instanceMethod yX10_kind ∈ lw_all := lw_in (i := 1577) (by decide +kernel) (by decide +kernel)
theorem seX10_kind : Cond.selects yX10_kind.cls yX10_kind yX10_kind ∈ lw_all := lw_in (i := 1578) (by decide +kernel) (by decide +kernel)
abbrev mX10_detour : zMe := (yX10_detour, cX10_detour, 4, some .int, 3, 66)
theorem okX10_detour : zMOk mX10_detour 3 := ⟨lw_in (i := 1583) (by decide +kernel) (by decide +kernel), lw_in (i := 83) (by decide +kernel) (by decide +kernel), by decide +kernel, by decide +kernel, by decide +kernel⟩
theorem imX10_detour : Cond.instanceMethod yX10_detour ∈ lw_all := lw_in (i := 1581) (by decide +kernel) (by decide +kernel)
theorem seX10_detour : Cond.selects yX10_detour.cls yX10_detour yX10_detour ∈ lw_all := lw_in (i := 1582) (by decide +kernel) (by decide +kernel)
abbrev mX10_tick : zMe := (yX10_tick, cX10_tick, 2, some .int, 8, 181)
theorem okX10_tick : zMOk mX10_tick 1 := ⟨lw_in (i := 1587) (by decide +kernel) (by decide +kernel), lw_in (i := 83) (by decide +kernel) (by decide +kernel), by decide +kernel, by decide +kernel, by decide +kernel⟩
theorem imX10_tick : Cond.instanceMethod yX10_tick ∈ lw_all := lw_in (i := 1585) (by decide +kernel) (by decide +kernel)
theorem seX10_tick : Cond.selects yX10_tick.cls yX10_tick yX10_tick ∈ lw_all := lw_in (i := 1586) (by decide +kernel) (by decide +kernel)
abbrev mX10_mark : zMe := (yX10_mark, cX10_mark, 1, some .int, 1, 23)
theorem okX10_mark : zMOk mX10_mark 0 := ⟨lw_in (i := 1656) (by decide +kernel) (by decide +kernel), lw_in (i := 83) (by decide +kernel) (by decide +kernel), by decide +kernel, by decide +kernel, by decide +kernel⟩
theorem imX10_mark : Cond.instanceMethod yX10_mark ∈ lw_all := lw_in (i := 1654) (by decide +kernel) (by decide +kernel)
theorem seX10_mark : Cond.selects yX10_mark.cls yX10_mark yX10_mark ∈ lw_all := lw_in (i := 1655) (by decide +kernel) (by decide +kernel)
abbrev mX10_back : zMe := (yX10_back, cX10_back, 1, some .int, 1, 23)
theorem okX10_back : zMOk mX10_back 0 := ⟨lw_in (i := 1660) (by decide +kernel) (by decide +kernel), lw_in (i := 83) (by decide +kernel) (by decide +kernel), by decide +kernel, by decide +kernel, by decide +kernel⟩
theorem imX10_back : Cond.instanceMethod yX10_back ∈ lw_all := lw_in (i := 1658) (by decide +kernel) (by decide +kernel)
theorem seX10_back : Cond.selects yX10_back.cls yX10_back yX10_back ∈ lw_all := lw_in (i := 1659) (by decide +kernel) (by decide +kernel)
abbrev mX10_growing : zMe := (yX10_growing, cX10_growing, 4, some .int, 3, 66)
theorem okX10_growing : zMOk mX10_growing 1 := ⟨lw_in (i := 1672) (by decide +kernel) (by decide +kernel), lw_in (i := 83) (by decide +kernel) (by decide +kernel), by decide +kernel, by decide +kernel, by decide +kernel⟩
theorem imX10_growing : Cond.instanceMethod yX10_growing ∈ lw_all := lw_in (i := 1671) (by decide +kernel) (by decide +kernel)
theorem seX10_growing : Cond.selects yX10_growing.cls yX10_growing yX10_growing ∈ lw_all := lw_in (i := 66) (by decide +kernel) (by decide +kernel)
abbrev mX10_rest : zMe := (yX10_rest, cX10_rest, 5, some .long, 3, 66)
theorem okX10_rest : zMOk mX10_rest 1 := ⟨lw_in (i := 1676) (by decide +kernel) (by decide +kernel), lw_in (i := 83) (by decide +kernel) (by decide +kernel), by decide +kernel, by decide +kernel, by decide +kernel⟩
theorem imX10_rest : Cond.instanceMethod yX10_rest ∈ lw_all := lw_in (i := 1675) (by decide +kernel) (by decide +kernel)
theorem seX10_rest : Cond.selects yX10_rest.cls yX10_rest yX10_rest ∈ lw_all := lw_in (i := 67) (by decide +kernel) (by decide +kernel)
abbrev mX10_laysBest : zMe := (yX10_laysBest, cX10_laysBest, 5, none, 4, 90)
theorem okX10_laysBest : zMOk mX10_laysBest 0 := ⟨lw_in (i := 1668) (by decide +kernel) (by decide +kernel), lw_in (i := 83) (by decide +kernel) (by decide +kernel), by decide +kernel, by decide +kernel, by decide +kernel⟩
theorem imX10_laysBest : Cond.instanceMethod yX10_laysBest ∈ lw_all := lw_in (i := 1667) (by decide +kernel) (by decide +kernel)
theorem seX10_laysBest : Cond.selects yX10_laysBest.cls yX10_laysBest yX10_laysBest ∈ lw_all := lw_in (i := 65) (by decide +kernel) (by decide +kernel)
abbrev mX10_best : zMe := (yX10_best, cX10_best, 2, some .int, 5, 114)
theorem okX10_best : zMOk mX10_best 1 := ⟨lw_in (i := 1664) (by decide +kernel) (by decide +kernel), lw_in (i := 83) (by decide +kernel) (by decide +kernel), by decide +kernel, by decide +kernel, by decide +kernel⟩
theorem imX10_best : Cond.instanceMethod yX10_best ∈ lw_all := lw_in (i := 1662) (by decide +kernel) (by decide +kernel)
theorem seX10_best : Cond.selects yX10_best.cls yX10_best yX10_best ∈ lw_all := lw_in (i := 1663) (by decide +kernel) (by decide +kernel)
abbrev mX10_neck : zMe := (yX10_neck, cX10_neck, 2, some .int, 5, 114)
theorem okX10_neck : zMOk mX10_neck 1 := ⟨lw_in (i := 1680) (by decide +kernel) (by decide +kernel), lw_in (i := 83) (by decide +kernel) (by decide +kernel), by decide +kernel, by decide +kernel, by decide +kernel⟩
theorem imX10_neck : Cond.instanceMethod yX10_neck ∈ lw_all := lw_in (i := 1678) (by decide +kernel) (by decide +kernel)
theorem seX10_neck : Cond.selects yX10_neck.cls yX10_neck yX10_neck ∈ lw_all := lw_in (i := 1679) (by decide +kernel) (by decide +kernel)
abbrev mX10_isReached : zMe := (yX10_isReached, cX10_isReached, 3, some .boolean, 4, 89)
theorem okX10_isReached : zMOk mX10_isReached 2 := ⟨lw_in (i := 1692) (by decide +kernel) (by decide +kernel), lw_in (i := 83) (by decide +kernel) (by decide +kernel), by decide +kernel, by decide +kernel, by decide +kernel⟩
theorem imX10_isReached : Cond.instanceMethod yX10_isReached ∈ lw_all := lw_in (i := 1691) (by decide +kernel) (by decide +kernel)
theorem seX10_isReached : Cond.selects yX10_isReached.cls yX10_isReached yX10_isReached ∈ lw_all := lw_in (i := 69) (by decide +kernel) (by decide +kernel)
abbrev mX10_reaches : zMe := (yX10_reaches, cX10_reaches, 5, some .int, 7, 159)
theorem okX10_reaches : zMOk mX10_reaches 2 := ⟨lw_in (i := 1688) (by decide +kernel) (by decide +kernel), lw_in (i := 83) (by decide +kernel) (by decide +kernel), by decide +kernel, by decide +kernel, by decide +kernel⟩
theorem imX10_reaches : Cond.instanceMethod yX10_reaches ∈ lw_all := lw_in (i := 1687) (by decide +kernel) (by decide +kernel)
theorem seX10_reaches : Cond.selects yX10_reaches.cls yX10_reaches yX10_reaches ∈ lw_all := lw_in (i := 68) (by decide +kernel) (by decide +kernel)
abbrev mX10_when : zMe := (yX10_when, cX10_when, 2, some .int, 8, 183)
theorem okX10_when : zMOk mX10_when 1 := ⟨lw_in (i := 1684) (by decide +kernel) (by decide +kernel), lw_in (i := 83) (by decide +kernel) (by decide +kernel), by decide +kernel, by decide +kernel, by decide +kernel⟩
theorem imX10_when : Cond.instanceMethod yX10_when ∈ lw_all := lw_in (i := 1682) (by decide +kernel) (by decide +kernel)
theorem seX10_when : Cond.selects yX10_when.cls yX10_when yX10_when ∈ lw_all := lw_in (i := 1683) (by decide +kernel) (by decide +kernel)
abbrev mX10_closes : zMe := (yX10_closes, cX10_closes, 2, some .int, 8, 183)
theorem okX10_closes : zMOk mX10_closes 1 := ⟨lw_in (i := 1696) (by decide +kernel) (by decide +kernel), lw_in (i := 83) (by decide +kernel) (by decide +kernel), by decide +kernel, by decide +kernel, by decide +kernel⟩
theorem imX10_closes : Cond.instanceMethod yX10_closes ∈ lw_all := lw_in (i := 1694) (by decide +kernel) (by decide +kernel)
theorem seX10_closes : Cond.selects yX10_closes.cls yX10_closes yX10_closes ∈ lw_all := lw_in (i := 1695) (by decide +kernel) (by decide +kernel)
abbrev mX10_caught : zMe := (yX10_caught, cX10_caught, 2, some .int, 8, 183)
theorem okX10_caught : zMOk mX10_caught 1 := ⟨lw_in (i := 1700) (by decide +kernel) (by decide +kernel), lw_in (i := 83) (by decide +kernel) (by decide +kernel), by decide +kernel, by decide +kernel, by decide +kernel⟩
theorem imX10_caught : Cond.instanceMethod yX10_caught ∈ lw_all := lw_in (i := 1698) (by decide +kernel) (by decide +kernel)
theorem seX10_caught : Cond.selects yX10_caught.cls yX10_caught yX10_caught ∈ lw_all := lw_in (i := 1699) (by decide +kernel) (by decide +kernel)
abbrev mX10_longestRow : zMe := (yX10_longestRow, cX10_longestRow, 4, some .long, 2, 43)
theorem okX10_longestRow : zMOk mX10_longestRow 0 := ⟨lw_in (i := 1717) (by decide +kernel) (by decide +kernel), lw_in (i := 83) (by decide +kernel) (by decide +kernel), by decide +kernel, by decide +kernel, by decide +kernel⟩
theorem imX10_longestRow : Cond.instanceMethod yX10_longestRow ∈ lw_all := lw_in (i := 1716) (by decide +kernel) (by decide +kernel)
theorem seX10_longestRow : Cond.selects yX10_longestRow.cls yX10_longestRow yX10_longestRow ∈ lw_all := lw_in (i := 72) (by decide +kernel) (by decide +kernel)
abbrev mX10_afterBy : zMe := (yX10_afterBy, cX10_afterBy, 10, some .int, 8, 181)
theorem okX10_afterBy : zMOk mX10_afterBy 3 := ⟨lw_in (i := 1708) (by decide +kernel) (by decide +kernel), lw_in (i := 83) (by decide +kernel) (by decide +kernel), by decide +kernel, by decide +kernel, by decide +kernel⟩
theorem imX10_afterBy : Cond.instanceMethod yX10_afterBy ∈ lw_all := lw_in (i := 1707) (by decide +kernel) (by decide +kernel)
theorem seX10_afterBy : Cond.selects yX10_afterBy.cls yX10_afterBy yX10_afterBy ∈ lw_all := lw_in (i := 70) (by decide +kernel) (by decide +kernel)
abbrev mX10_after : zMe := (yX10_after, cX10_after, 3, some .int, 9, 210)
theorem okX10_after : zMOk mX10_after 2 := ⟨lw_in (i := 1704) (by decide +kernel) (by decide +kernel), lw_in (i := 83) (by decide +kernel) (by decide +kernel), by decide +kernel, by decide +kernel, by decide +kernel⟩
theorem imX10_after : Cond.instanceMethod yX10_after ∈ lw_all := lw_in (i := 1702) (by decide +kernel) (by decide +kernel)
theorem seX10_after : Cond.selects yX10_after.cls yX10_after yX10_after ∈ lw_all := lw_in (i := 1703) (by decide +kernel) (by decide +kernel)
abbrev mX10_blind : zMe := (yX10_blind, cX10_blind, 3, some .int, 9, 210)
theorem okX10_blind : zMOk mX10_blind 2 := ⟨lw_in (i := 1721) (by decide +kernel) (by decide +kernel), lw_in (i := 83) (by decide +kernel) (by decide +kernel), by decide +kernel, by decide +kernel, by decide +kernel⟩
theorem imX10_blind : Cond.instanceMethod yX10_blind ∈ lw_all := lw_in (i := 1719) (by decide +kernel) (by decide +kernel)
theorem seX10_blind : Cond.selects yX10_blind.cls yX10_blind yX10_blind ∈ lw_all := lw_in (i := 1720) (by decide +kernel) (by decide +kernel)
abbrev mX10_without : zMe := (yX10_without, cX10_without, 6, some .int, 8, 181)
theorem okX10_without : zMOk mX10_without 3 := ⟨lw_in (i := 1725) (by decide +kernel) (by decide +kernel), lw_in (i := 83) (by decide +kernel) (by decide +kernel), by decide +kernel, by decide +kernel, by decide +kernel⟩
theorem imX10_without : Cond.instanceMethod yX10_without ∈ lw_all := lw_in (i := 1723) (by decide +kernel) (by decide +kernel)
theorem seX10_without : Cond.selects yX10_without.cls yX10_without yX10_without ∈ lw_all := lw_in (i := 1724) (by decide +kernel) (by decide +kernel)
abbrev mX10_least : zMe := (yX10_least, cX10_least, 6, some .int, 8, 181)
theorem okX10_least : zMOk mX10_least 3 := ⟨lw_in (i := 1729) (by decide +kernel) (by decide +kernel), lw_in (i := 83) (by decide +kernel) (by decide +kernel), by decide +kernel, by decide +kernel, by decide +kernel⟩
theorem imX10_least : Cond.instanceMethod yX10_least ∈ lw_all := lw_in (i := 1727) (by decide +kernel) (by decide +kernel)
theorem seX10_least : Cond.selects yX10_least.cls yX10_least yX10_least ∈ lw_all := lw_in (i := 1728) (by decide +kernel) (by decide +kernel)
abbrev mJ9_floorMod_7cf53 : zMe := (yJ9_floorMod_7cf53, cJ9_floorMod_7cf53, 3, some .int, 0, 0)
theorem okJ9_floorMod_7cf53 : zMOk mJ9_floorMod_7cf53 2 := ⟨lw_in (i := 789) (by decide +kernel) (by decide +kernel), lw_in (i := 84) (by decide +kernel) (by decide +kernel), by decide +kernel, by decide +kernel, by decide +kernel⟩
theorem stJ9_floorMod_7cf53 : Cond.static yJ9_floorMod_7cf53 ∈ lw_all := lw_in (i := 788) (by decide +kernel) (by decide +kernel)
abbrev mJ9_abs_067f4 : zMe := (yJ9_abs_067f4, cJ9_abs_067f4, 2, some .long, 0, 0)
theorem okJ9_abs_067f4 : zMOk mJ9_abs_067f4 1 := ⟨lw_in (i := 1068) (by decide +kernel) (by decide +kernel), lw_in (i := 84) (by decide +kernel) (by decide +kernel), by decide +kernel, by decide +kernel, by decide +kernel⟩
theorem stJ9_abs_067f4 : Cond.static yJ9_abs_067f4 ∈ lw_all := lw_in (i := 1067) (by decide +kernel) (by decide +kernel)
abbrev mJ9_max_7cf53 : zMe := (yJ9_max_7cf53, cJ9_max_7cf53, 2, some .int, 0, 0)
theorem okJ9_max_7cf53 : zMOk mJ9_max_7cf53 2 := ⟨lw_in (i := 704) (by decide +kernel) (by decide +kernel), lw_in (i := 84) (by decide +kernel) (by decide +kernel), by decide +kernel, by decide +kernel, by decide +kernel⟩
theorem stJ9_max_7cf53 : Cond.static yJ9_max_7cf53 ∈ lw_all := lw_in (i := 703) (by decide +kernel) (by decide +kernel)
abbrev mJ9_max_f86c9 : zMe := (yJ9_max_f86c9, cJ9_max_f86c9, 4, some .long, 0, 0)
theorem okJ9_max_f86c9 : zMOk mJ9_max_f86c9 2 := ⟨lw_in (i := 1031) (by decide +kernel) (by decide +kernel), lw_in (i := 84) (by decide +kernel) (by decide +kernel), by decide +kernel, by decide +kernel, by decide +kernel⟩
theorem stJ9_max_f86c9 : Cond.static yJ9_max_f86c9 ∈ lw_all := lw_in (i := 1030) (by decide +kernel) (by decide +kernel)
abbrev mJ9_min_7cf53 : zMe := (yJ9_min_7cf53, cJ9_min_7cf53, 2, some .int, 0, 0)
theorem okJ9_min_7cf53 : zMOk mJ9_min_7cf53 2 := ⟨lw_in (i := 488) (by decide +kernel) (by decide +kernel), lw_in (i := 84) (by decide +kernel) (by decide +kernel), by decide +kernel, by decide +kernel, by decide +kernel⟩
theorem stJ9_min_7cf53 : Cond.static yJ9_min_7cf53 ∈ lw_all := lw_in (i := 487) (by decide +kernel) (by decide +kernel)
abbrev mJ9_min_f86c9 : zMe := (yJ9_min_f86c9, cJ9_min_f86c9, 4, some .long, 0, 0)
theorem okJ9_min_f86c9 : zMOk mJ9_min_f86c9 2 := ⟨lw_in (i := 762) (by decide +kernel) (by decide +kernel), lw_in (i := 84) (by decide +kernel) (by decide +kernel), by decide +kernel, by decide +kernel, by decide +kernel⟩
theorem stJ9_min_f86c9 : Cond.static yJ9_min_f86c9 ∈ lw_all := lw_in (i := 761) (by decide +kernel) (by decide +kernel)
abbrev mJ0_length_8abf5 : zMe := (yJ0_length_8abf5, cJ0_length_8abf5, 1, some .int, 1, 20)
theorem okJ0_length_8abf5 : zMOk mJ0_length_8abf5 0 := ⟨lw_in (i := 537) (by decide +kernel) (by decide +kernel), lw_in (i := 85) (by decide +kernel) (by decide +kernel), by decide +kernel, by decide +kernel, by decide +kernel⟩
theorem imJ0_length_8abf5 : Cond.instanceMethod yJ0_length_8abf5 ∈ lw_all := lw_in (i := 535) (by decide +kernel) (by decide +kernel)
theorem seJ0_length_8abf5 : Cond.selects yJ0_length_8abf5.cls yJ0_length_8abf5 yJ0_length_8abf5 ∈ lw_all := lw_in (i := 536) (by decide +kernel) (by decide +kernel)
abbrev mJ0_charAt_5068e : zMe := (yJ0_charAt_5068e, cJ0_charAt_5068e, 2, some .char, 4, 85)
theorem okJ0_charAt_5068e : zMOk mJ0_charAt_5068e 1 := ⟨lw_in (i := 547) (by decide +kernel) (by decide +kernel), lw_in (i := 85) (by decide +kernel) (by decide +kernel), by decide +kernel, by decide +kernel, by decide +kernel⟩
theorem imJ0_charAt_5068e : Cond.instanceMethod yJ0_charAt_5068e ∈ lw_all := lw_in (i := 545) (by decide +kernel) (by decide +kernel)
theorem seJ0_charAt_5068e : Cond.selects yJ0_charAt_5068e.cls yJ0_charAt_5068e yJ0_charAt_5068e ∈ lw_all := lw_in (i := 546) (by decide +kernel) (by decide +kernel)
abbrev mJ0_coder_7d493 : zMe := (yJ0_coder_7d493, cJ0_coder_7d493, 1, some .byte, 0, 0)
theorem okJ0_coder_7d493 : zMOk mJ0_coder_7d493 0 := ⟨lw_in (i := 541) (by decide +kernel) (by decide +kernel), lw_in (i := 85) (by decide +kernel) (by decide +kernel), by decide +kernel, by decide +kernel, by decide +kernel⟩
theorem imJ0_coder_7d493 : Cond.instanceMethod yJ0_coder_7d493 ∈ lw_all := lw_in (i := 539) (by decide +kernel) (by decide +kernel)
theorem seJ0_coder_7d493 : Cond.selects yJ0_coder_7d493.cls yJ0_coder_7d493 yJ0_coder_7d493 ∈ lw_all := lw_in (i := 540) (by decide +kernel) (by decide +kernel)
abbrev mJ0_isLatin1_aae02 : zMe := (yJ0_isLatin1_aae02, cJ0_isLatin1_aae02, 1, some .boolean, 0, 0)
theorem okJ0_isLatin1_aae02 : zMOk mJ0_isLatin1_aae02 0 := ⟨lw_in (i := 551) (by decide +kernel) (by decide +kernel), lw_in (i := 85) (by decide +kernel) (by decide +kernel), by decide +kernel, by decide +kernel, by decide +kernel⟩
theorem imJ0_isLatin1_aae02 : Cond.instanceMethod yJ0_isLatin1_aae02 ∈ lw_all := lw_in (i := 549) (by decide +kernel) (by decide +kernel)
theorem seJ0_isLatin1_aae02 : Cond.selects yJ0_isLatin1_aae02.cls yJ0_isLatin1_aae02 yJ0_isLatin1_aae02 ∈ lw_all := lw_in (i := 550) (by decide +kernel) (by decide +kernel)
abbrev mJ0_checkIndex_df160 : zMe := (yJ0_checkIndex_df160, cJ0_checkIndex_df160, 2, none, 1, 22)
theorem okJ0_checkIndex_df160 : zMOk mJ0_checkIndex_df160 2 := ⟨lw_in (i := 557) (by decide +kernel) (by decide +kernel), lw_in (i := 85) (by decide +kernel) (by decide +kernel), by decide +kernel, by decide +kernel, by decide +kernel⟩
theorem stJ0_checkIndex_df160 : Cond.static yJ0_checkIndex_df160 ∈ lw_all := lw_in (i := 556) (by decide +kernel) (by decide +kernel)
abbrev mJ1_charAt_3b067 : zMe := (yJ1_charAt_3b067, cJ1_charAt_3b067, 2, some .char, 2, 43)
theorem okJ1_charAt_3b067 : zMOk mJ1_charAt_3b067 2 := ⟨lw_in (i := 554) (by decide +kernel) (by decide +kernel), lw_in (i := 86) (by decide +kernel) (by decide +kernel), by decide +kernel, by decide +kernel, by decide +kernel⟩
theorem stJ1_charAt_3b067 : Cond.static yJ1_charAt_3b067 ∈ lw_all := lw_in (i := 553) (by decide +kernel) (by decide +kernel)
abbrev mJ2_getChar_3b067 : zMe := (yJ2_getChar_3b067, cJ2_getChar_3b067, 2, some .char, 1, 20)
theorem okJ2_getChar_3b067 : zMOk mJ2_getChar_3b067 2 := ⟨lw_in (i := 575) (by decide +kernel) (by decide +kernel), lw_in (i := 88) (by decide +kernel) (by decide +kernel), by decide +kernel, by decide +kernel, by decide +kernel⟩
theorem stJ2_getChar_3b067 : Cond.static yJ2_getChar_3b067 ∈ lw_all := lw_in (i := 574) (by decide +kernel) (by decide +kernel)
abbrev mJ2_length_9d52b : zMe := (yJ2_length_9d52b, cJ2_length_9d52b, 1, some .int, 0, 0)
theorem okJ2_length_9d52b : zMOk mJ2_length_9d52b 1 := ⟨lw_in (i := 571) (by decide +kernel) (by decide +kernel), lw_in (i := 88) (by decide +kernel) (by decide +kernel), by decide +kernel, by decide +kernel, by decide +kernel⟩
theorem stJ2_length_9d52b : Cond.static yJ2_length_9d52b ∈ lw_all := lw_in (i := 570) (by decide +kernel) (by decide +kernel)
abbrev mJ2_charAt_3b067 : zMe := (yJ2_charAt_3b067, cJ2_charAt_3b067, 2, some .char, 3, 64)
theorem okJ2_charAt_3b067 : zMOk mJ2_charAt_3b067 2 := ⟨lw_in (i := 565) (by decide +kernel) (by decide +kernel), lw_in (i := 88) (by decide +kernel) (by decide +kernel), by decide +kernel, by decide +kernel, by decide +kernel⟩
theorem stJ2_charAt_3b067 : Cond.static yJ2_charAt_3b067 ∈ lw_all := lw_in (i := 564) (by decide +kernel) (by decide +kernel)
abbrev mJ2_checkIndex_2214a : zMe := (yJ2_checkIndex_2214a, cJ2_checkIndex_2214a, 2, none, 2, 43)
theorem okJ2_checkIndex_2214a : zMOk mJ2_checkIndex_2214a 2 := ⟨lw_in (i := 568) (by decide +kernel) (by decide +kernel), lw_in (i := 88) (by decide +kernel) (by decide +kernel), by decide +kernel, by decide +kernel, by decide +kernel⟩
theorem stJ2_checkIndex_2214a : Cond.static yJ2_checkIndex_2214a ∈ lw_all := lw_in (i := 567) (by decide +kernel) (by decide +kernel)
abbrev mJ7_fill_53178 : zMe := (yJ7_fill_53178, cJ7_fill_53178, 4, none, 0, 0)
theorem okJ7_fill_53178 : zMOk mJ7_fill_53178 2 := ⟨lw_in (i := 613) (by decide +kernel) (by decide +kernel), lw_in (i := 89) (by decide +kernel) (by decide +kernel), by decide +kernel, by decide +kernel, by decide +kernel⟩
theorem stJ7_fill_53178 : Cond.static yJ7_fill_53178 ∈ lw_all := lw_in (i := 612) (by decide +kernel) (by decide +kernel)
abbrev mJ3_checkIndex_8e157 : zMe := (yJ3_checkIndex_8e157, cJ3_checkIndex_8e157, 3, some .int, 0, 0)
theorem okJ3_checkIndex_8e157 : zMOk mJ3_checkIndex_8e157 3 := ⟨lw_in (i := 562) (by decide +kernel) (by decide +kernel), lw_in (i := 87) (by decide +kernel) (by decide +kernel), by decide +kernel, by decide +kernel, by decide +kernel⟩
theorem stJ3_checkIndex_8e157 : Cond.static yJ3_checkIndex_8e157 ∈ lw_all := lw_in (i := 561) (by decide +kernel) (by decide +kernel)
theorem ml_X9_3 : Cond.methodLink RX9 3 Lib.objectInit ∈ lw_all := lw_in (i := 97) (by decide +kernel) (by decide +kernel)
theorem ml_X9_22 : Cond.methodLink RX9 22 yX5_init ∈ lw_all := lw_in (i := 102) (by decide +kernel) (by decide +kernel)
theorem ml_X9_54 : Cond.methodLink RX9 54 yX9_putBytes ∈ lw_all := lw_in (i := 470) (by decide +kernel) (by decide +kernel)
theorem ml_X9_58 : Cond.methodLink RX9 58 yX9_refuse ∈ lw_all := lw_in (i := 478) (by decide +kernel) (by decide +kernel)
theorem ml_X9_62 : Cond.methodLink RX9 62 yX8_readNet ∈ lw_all := lw_in (i := 482) (by decide +kernel) (by decide +kernel)
theorem ml_X9_75 : Cond.methodLink RX9 75 yX9_answer ∈ lw_all := lw_in (i := 673) (by decide +kernel) (by decide +kernel)
theorem ml_X9_87 : Cond.methodLink RX9 87 yX5_standing ∈ lw_all := lw_in (i := 685) (by decide +kernel) (by decide +kernel)
theorem ml_X9_91 : Cond.methodLink RX9 91 yX5_wired ∈ lw_all := lw_in (i := 689) (by decide +kernel) (by decide +kernel)
theorem ml_X9_112 : Cond.methodLink RX9 112 yX5_evenness ∈ lw_all := lw_in (i := 693) (by decide +kernel) (by decide +kernel)
theorem ml_X9_115 : Cond.methodLink RX9 115 yX5_windowGap ∈ lw_all := lw_in (i := 698) (by decide +kernel) (by decide +kernel)
theorem ml_X9_118 : Cond.methodLink RX9 118 yX5_linkAt ∈ lw_all := lw_in (i := 710) (by decide +kernel) (by decide +kernel)
theorem ml_X9_122 : Cond.methodLink RX9 122 yX4_tell ∈ lw_all := lw_in (i := 711) (by decide +kernel) (by decide +kernel)
theorem ml_X9_127 : Cond.methodLink RX9 127 yX5_flowAt ∈ lw_all := lw_in (i := 723) (by decide +kernel) (by decide +kernel)
theorem ml_X9_131 : Cond.methodLink RX9 131 yX5_linksThatCaught ∈ lw_all := lw_in (i := 727) (by decide +kernel) (by decide +kernel)
theorem ml_X9_134 : Cond.methodLink RX9 134 yX2_tell ∈ lw_all := lw_in (i := 735) (by decide +kernel) (by decide +kernel)
theorem ml_X9_140 : Cond.methodLink RX9 140 yX2_pathAt ∈ lw_all := lw_in (i := 743) (by decide +kernel) (by decide +kernel)
theorem ml_X9_146 : Cond.methodLink RX9 146 yX3_packetAt ∈ lw_all := lw_in (i := 748) (by decide +kernel) (by decide +kernel)
theorem ml_X9_160 : Cond.methodLink RX9 160 yX7_shareOf ∈ lw_all := lw_in (i := 752) (by decide +kernel) (by decide +kernel)
theorem ml_X9_166 : Cond.methodLink RX9 166 yX6_tell ∈ lw_all := lw_in (i := 775) (by decide +kernel) (by decide +kernel)
theorem ml_X9_167 : Cond.methodLink RX9 167 yX1_tell ∈ lw_all := lw_in (i := 783) (by decide +kernel) (by decide +kernel)
theorem ml_X9_173 : Cond.methodLink RX9 173 yX7_plusFor ∈ lw_all := lw_in (i := 794) (by decide +kernel) (by decide +kernel)
theorem ml_X9_180 : Cond.methodLink RX9 180 yX7_minusFor ∈ lw_all := lw_in (i := 795) (by decide +kernel) (by decide +kernel)
theorem ml_X9_183 : Cond.methodLink RX9 183 yX5_standingOf ∈ lw_all := lw_in (i := 800) (by decide +kernel) (by decide +kernel)
theorem ml_X9_186 : Cond.methodLink RX9 186 yX5_wiredOf ∈ lw_all := lw_in (i := 808) (by decide +kernel) (by decide +kernel)
theorem ml_X9_189 : Cond.methodLink RX9 189 yX3_countOf ∈ lw_all := lw_in (i := 812) (by decide +kernel) (by decide +kernel)
theorem ml_X9_192 : Cond.methodLink RX9 192 yX3_lostOf ∈ lw_all := lw_in (i := 813) (by decide +kernel) (by decide +kernel)
theorem ml_X9_195 : Cond.methodLink RX9 195 yX5_firstSentOf ∈ lw_all := lw_in (i := 821) (by decide +kernel) (by decide +kernel)
theorem ml_X9_198 : Cond.methodLink RX9 198 yX5_pastWindow ∈ lw_all := lw_in (i := 833) (by decide +kernel) (by decide +kernel)
theorem ml_X9_201 : Cond.methodLink RX9 201 yX5_topFlow ∈ lw_all := lw_in (i := 842) (by decide +kernel) (by decide +kernel)
theorem ml_X9_204 : Cond.methodLink RX9 204 yX2_hasPathOf ∈ lw_all := lw_in (i := 855) (by decide +kernel) (by decide +kernel)
theorem ml_X9_208 : Cond.methodLink RX9 208 yX2_hasPathBackwards ∈ lw_all := lw_in (i := 859) (by decide +kernel) (by decide +kernel)
theorem ml_X9_211 : Cond.methodLink RX9 211 yX4_allows ∈ lw_all := lw_in (i := 867) (by decide +kernel) (by decide +kernel)
theorem ml_X9_215 : Cond.methodLink RX9 215 yX4_setting ∈ lw_all := lw_in (i := 870) (by decide +kernel) (by decide +kernel)
theorem ml_X9_218 : Cond.methodLink RX9 218 yX4_change ∈ lw_all := lw_in (i := 874) (by decide +kernel) (by decide +kernel)
theorem ml_X9_232 : Cond.methodLink RX9 232 yX2_goesOver ∈ lw_all := lw_in (i := 894) (by decide +kernel) (by decide +kernel)
theorem ml_X9_236 : Cond.methodLink RX9 236 yX2_putPath ∈ lw_all := lw_in (i := 895) (by decide +kernel) (by decide +kernel)
theorem ml_X9_239 : Cond.methodLink RX9 239 yX5_measureBack ∈ lw_all := lw_in (i := 896) (by decide +kernel) (by decide +kernel)
theorem ml_X9_243 : Cond.methodLink RX9 243 yX5_passTicks ∈ lw_all := lw_in (i := 901) (by decide +kernel) (by decide +kernel)
theorem ml_X9_246 : Cond.methodLink RX9 246 yX5_copyFrom ∈ lw_all := lw_in (i := 1087) (by decide +kernel) (by decide +kernel)
theorem ml_X9_250 : Cond.methodLink RX9 250 yX0_workOut ∈ lw_all := lw_in (i := 1129) (by decide +kernel) (by decide +kernel)
theorem ml_X9_253 : Cond.methodLink RX9 253 yX0_rateOf ∈ lw_all := lw_in (i := 1148) (by decide +kernel) (by decide +kernel)
theorem ml_X9_256 : Cond.methodLink RX9 256 yX0_neckOf ∈ lw_all := lw_in (i := 1156) (by decide +kernel) (by decide +kernel)
theorem ml_X9_259 : Cond.methodLink RX9 259 yX9_ticksUntil ∈ lw_all := lw_in (i := 1164) (by decide +kernel) (by decide +kernel)
theorem ml_X9_262 : Cond.methodLink RX9 262 yX9_foretell ∈ lw_all := lw_in (i := 1188) (by decide +kernel) (by decide +kernel)
theorem ml_X9_269 : Cond.methodLink RX9 269 yX9_losesNone ∈ lw_all := lw_in (i := 1216) (by decide +kernel) (by decide +kernel)
theorem ml_X9_273 : Cond.methodLink RX9 273 yX9_isReached ∈ lw_all := lw_in (i := 1168) (by decide +kernel) (by decide +kernel)
theorem ml_X9_276 : Cond.methodLink RX9 276 yX5_isThrough ∈ lw_all := lw_in (i := 1172) (by decide +kernel) (by decide +kernel)
theorem ml_X9_282 : Cond.methodLink RX9 282 yX5_doneInAll ∈ lw_all := lw_in (i := 1192) (by decide +kernel) (by decide +kernel)
theorem ml_X9_285 : Cond.methodLink RX9 285 yX5_lostInAll ∈ lw_all := lw_in (i := 1196) (by decide +kernel) (by decide +kernel)
theorem ml_X9_288 : Cond.methodLink RX9 288 yX5_longestRow ∈ lw_all := lw_in (i := 1200) (by decide +kernel) (by decide +kernel)
theorem ml_X0_3 : Cond.methodLink RX0 3 Lib.objectInit ∈ lw_all := lw_in (i := 416) (by decide +kernel) (by decide +kernel)
theorem ml_X0_22 : Cond.methodLink RX0 22 yX5_flowAt ∈ lw_all := lw_in (i := 1133) (by decide +kernel) (by decide +kernel)
theorem ml_X0_34 : Cond.methodLink RX0 34 yX0_stopAtTightest ∈ lw_all := lw_in (i := 1134) (by decide +kernel) (by decide +kernel)
theorem ml_X0_42 : Cond.methodLink RX0 42 yX0_roomForEach ∈ lw_all := lw_in (i := 1138) (by decide +kernel) (by decide +kernel)
theorem ml_X0_46 : Cond.methodLink RX0 46 yX0_crosses ∈ lw_all := lw_in (i := 1143) (by decide +kernel) (by decide +kernel)
theorem ml_X0_50 : Cond.methodLink RX0 50 yX5_linkAt ∈ lw_all := lw_in (i := 1142) (by decide +kernel) (by decide +kernel)
theorem ml_X0_59 : Cond.methodLink RX0 59 yX2_goesOver ∈ lw_all := lw_in (i := 1147) (by decide +kernel) (by decide +kernel)
theorem ml_X1_3 : Cond.methodLink RX1 3 Lib.objectInit ∈ lw_all := lw_in (i := 136) (by decide +kernel) (by decide +kernel)
theorem ml_X1_31 : Cond.methodLink RX1 31 arraycopyName ∈ lw_all := lw_in (i := 1119) (by decide +kernel) (by decide +kernel)
theorem ml_X1_37 : Cond.methodLink RX1 37 yJ9_min_7cf53 ∈ lw_all := lw_in (i := 932) (by decide +kernel) (by decide +kernel)
theorem ml_X1_43 : Cond.methodLink RX1 43 yJ9_floorMod_7cf53 ∈ lw_all := lw_in (i := 787) (by decide +kernel) (by decide +kernel)
theorem ml_X2_3 : Cond.methodLink RX2 3 Lib.objectInit ∈ lw_all := lw_in (i := 265) (by decide +kernel) (by decide +kernel)
theorem ml_X2_50 : Cond.methodLink RX2 50 arraycopyName ∈ lw_all := lw_in (i := 1114) (by decide +kernel) (by decide +kernel)
theorem ml_X2_56 : Cond.methodLink RX2 56 yX2_putPath ∈ lw_all := lw_in (i := 647) (by decide +kernel) (by decide +kernel)
theorem ml_X2_60 : Cond.methodLink RX2 60 yX2_pathAt ∈ lw_all := lw_in (i := 639) (by decide +kernel) (by decide +kernel)
theorem ml_X2_71 : Cond.methodLink RX2 71 yJ9_min_7cf53 ∈ lw_all := lw_in (i := 918) (by decide +kernel) (by decide +kernel)
theorem ml_X2_80 : Cond.methodLink RX2 80 yX2_gain ∈ lw_all := lw_in (i := 919) (by decide +kernel) (by decide +kernel)
theorem ml_X2_84 : Cond.methodLink RX2 84 yJ9_max_7cf53 ∈ lw_all := lw_in (i := 923) (by decide +kernel) (by decide +kernel)
theorem ml_X3_3 : Cond.methodLink RX3 3 Lib.objectInit ∈ lw_all := lw_in (i := 115) (by decide +kernel) (by decide +kernel)
theorem ml_X3_27 : Cond.methodLink RX3 27 yX3_takeFirst ∈ lw_all := lw_in (i := 501) (by decide +kernel) (by decide +kernel)
theorem ml_X3_31 : Cond.methodLink RX3 31 yX3_append ∈ lw_all := lw_in (i := 505) (by decide +kernel) (by decide +kernel)
theorem ml_X4_3 : Cond.methodLink RX4 3 Lib.objectInit ∈ lw_all := lw_in (i := 162) (by decide +kernel) (by decide +kernel)
theorem ml_X4_48 : Cond.methodLink RX4 48 yX7_clear ∈ lw_all := lw_in (i := 603) (by decide +kernel) (by decide +kernel)
theorem ml_X4_60 : Cond.methodLink RX4 60 yX4_beginSpan ∈ lw_all := lw_in (i := 607) (by decide +kernel) (by decide +kernel)
theorem ml_X4_76 : Cond.methodLink RX4 76 arraycopyName ∈ lw_all := lw_in (i := 1095) (by decide +kernel) (by decide +kernel)
theorem ml_X4_82 : Cond.methodLink RX4 82 yX7_copyFrom ∈ lw_all := lw_in (i := 1098) (by decide +kernel) (by decide +kernel)
theorem ml_X4_92 : Cond.methodLink RX4 92 yX4_hasCaught ∈ lw_all := lw_in (i := 950) (by decide +kernel) (by decide +kernel)
theorem ml_X4_96 : Cond.methodLink RX4 96 yX3_append ∈ lw_all := lw_in (i := 955) (by decide +kernel) (by decide +kernel)
theorem ml_X4_114 : Cond.methodLink RX4 114 yX3_takeFirst ∈ lw_all := lw_in (i := 1040) (by decide +kernel) (by decide +kernel)
theorem ml_X4_121 : Cond.methodLink RX4 121 yX7_giveShare ∈ lw_all := lw_in (i := 1041) (by decide +kernel) (by decide +kernel)
theorem ml_X4_125 : Cond.methodLink RX4 125 yJ9_min_7cf53 ∈ lw_all := lw_in (i := 1046) (by decide +kernel) (by decide +kernel)
theorem ml_X4_137 : Cond.methodLink RX4 137 yX7_renew ∈ lw_all := lw_in (i := 1059) (by decide +kernel) (by decide +kernel)
theorem ml_X4_141 : Cond.methodLink RX4 141 yX4_mostAllowed ∈ lw_all := lw_in (i := 1070) (by decide +kernel) (by decide +kernel)
theorem ml_X4_145 : Cond.methodLink RX4 145 yJ9_max_7cf53 ∈ lw_all := lw_in (i := 1074) (by decide +kernel) (by decide +kernel)
theorem ml_X4_148 : Cond.methodLink RX4 148 yJ7_fill_53178 ∈ lw_all := lw_in (i := 611) (by decide +kernel) (by decide +kernel)
theorem ml_X4_154 : Cond.methodLink RX4 154 yX4_tellSurplus ∈ lw_all := lw_in (i := 715) (by decide +kernel) (by decide +kernel)
theorem ml_X5_3 : Cond.methodLink RX5 3 Lib.objectInit ∈ lw_all := lw_in (i := 105) (by decide +kernel) (by decide +kernel)
theorem ml_X5_46 : Cond.methodLink RX5 46 yX5_spareAllPackets ∈ lw_all := lw_in (i := 493) (by decide +kernel) (by decide +kernel)
theorem ml_X5_59 : Cond.methodLink RX5 59 yX1_clear ∈ lw_all := lw_in (i := 509) (by decide +kernel) (by decide +kernel)
theorem ml_X5_69 : Cond.methodLink RX5 69 yX4_copyFrom ∈ lw_all := lw_in (i := 1091) (by decide +kernel) (by decide +kernel)
theorem ml_X5_76 : Cond.methodLink RX5 76 yX5_copyLine ∈ lw_all := lw_in (i := 1102) (by decide +kernel) (by decide +kernel)
theorem ml_X5_83 : Cond.methodLink RX5 83 yX2_copyFrom ∈ lw_all := lw_in (i := 1110) (by decide +kernel) (by decide +kernel)
theorem ml_X5_86 : Cond.methodLink RX5 86 yX1_copyFrom ∈ lw_all := lw_in (i := 1115) (by decide +kernel) (by decide +kernel)
theorem ml_X5_89 : Cond.methodLink RX5 89 arraycopyName ∈ lw_all := lw_in (i := 1120) (by decide +kernel) (by decide +kernel)
theorem ml_X5_95 : Cond.methodLink RX5 95 yX3_moveAllTo ∈ lw_all := lw_in (i := 497) (by decide +kernel) (by decide +kernel)
theorem ml_X5_103 : Cond.methodLink RX5 103 yX5_freshPacket ∈ lw_all := lw_in (i := 964) (by decide +kernel) (by decide +kernel)
theorem ml_X5_107 : Cond.methodLink RX5 107 yX6_copyFrom ∈ lw_all := lw_in (i := 1106) (by decide +kernel) (by decide +kernel)
theorem ml_X5_112 : Cond.methodLink RX5 112 yX3_append ∈ lw_all := lw_in (i := 933) (by decide +kernel) (by decide +kernel)
theorem ml_X5_118 : Cond.methodLink RX5 118 yX3_takeFirst ∈ lw_all := lw_in (i := 909) (by decide +kernel) (by decide +kernel)
theorem ml_X5_128 : Cond.methodLink RX5 128 yX2_pathAt ∈ lw_all := lw_in (i := 668) (by decide +kernel) (by decide +kernel)
theorem ml_X5_132 : Cond.methodLink RX5 132 yX5_linkAt ∈ lw_all := lw_in (i := 669) (by decide +kernel) (by decide +kernel)
theorem ml_X5_142 : Cond.methodLink RX5 142 yX5_takeReturns ∈ lw_all := lw_in (i := 905) (by decide +kernel) (by decide +kernel)
theorem ml_X5_145 : Cond.methodLink RX5 145 yX5_emptyWire ∈ lw_all := lw_in (i := 934) (by decide +kernel) (by decide +kernel)
theorem ml_X5_148 : Cond.methodLink RX5 148 yX5_sendFrom ∈ lw_all := lw_in (i := 956) (by decide +kernel) (by decide +kernel)
theorem ml_X5_152 : Cond.methodLink RX5 152 yX4_serveRow ∈ lw_all := lw_in (i := 1036) (by decide +kernel) (by decide +kernel)
theorem ml_X5_156 : Cond.methodLink RX5 156 yX5_endSpanIfDue ∈ lw_all := lw_in (i := 1047) (by decide +kernel) (by decide +kernel)
theorem ml_X5_160 : Cond.methodLink RX5 160 yX5_keepWindows ∈ lw_all := lw_in (i := 1079) (by decide +kernel) (by decide +kernel)
theorem ml_X5_169 : Cond.methodLink RX5 169 yX5_takeReturn ∈ lw_all := lw_in (i := 910) (by decide +kernel) (by decide +kernel)
theorem ml_X5_175 : Cond.methodLink RX5 175 yX5_flowAt ∈ lw_all := lw_in (i := 850) (by decide +kernel) (by decide +kernel)
theorem ml_X5_179 : Cond.methodLink RX5 179 yX2_noteReturn ∈ lw_all := lw_in (i := 914) (by decide +kernel) (by decide +kernel)
theorem ml_X5_183 : Cond.methodLink RX5 183 yX2_isThrough ∈ lw_all := lw_in (i := 924) (by decide +kernel) (by decide +kernel)
theorem ml_X5_187 : Cond.methodLink RX5 187 yX1_add ∈ lw_all := lw_in (i := 928) (by decide +kernel) (by decide +kernel)
theorem ml_X5_191 : Cond.methodLink RX5 191 yX5_goOn ∈ lw_all := lw_in (i := 938) (by decide +kernel) (by decide +kernel)
theorem ml_X5_195 : Cond.methodLink RX5 195 yX2_maySend ∈ lw_all := lw_in (i := 960) (by decide +kernel) (by decide +kernel)
theorem ml_X5_198 : Cond.methodLink RX5 198 yX6_begin ∈ lw_all := lw_in (i := 1024) (by decide +kernel) (by decide +kernel)
theorem ml_X5_202 : Cond.methodLink RX5 202 yX2_noteSent ∈ lw_all := lw_in (i := 1032) (by decide +kernel) (by decide +kernel)
theorem ml_X5_211 : Cond.methodLink RX5 211 yX5_sendBack ∈ lw_all := lw_in (i := 942) (by decide +kernel) (by decide +kernel)
theorem ml_X5_214 : Cond.methodLink RX5 214 yX4_letsIn ∈ lw_all := lw_in (i := 946) (by decide +kernel) (by decide +kernel)
theorem ml_X5_218 : Cond.methodLink RX5 218 yX4_takeIn ∈ lw_all := lw_in (i := 951) (by decide +kernel) (by decide +kernel)
theorem ml_X5_224 : Cond.methodLink RX5 224 yX4_endsSpanAt ∈ lw_all := lw_in (i := 1051) (by decide +kernel) (by decide +kernel)
theorem ml_X5_230 : Cond.methodLink RX5 230 yX4_endSpan ∈ lw_all := lw_in (i := 1055) (by decide +kernel) (by decide +kernel)
theorem ml_X5_233 : Cond.methodLink RX5 233 yX5_tellCaught ∈ lw_all := lw_in (i := 1075) (by decide +kernel) (by decide +kernel)
theorem ml_X5_240 : Cond.methodLink RX5 240 yJ9_floorMod_7cf53 ∈ lw_all := lw_in (i := 837) (by decide +kernel) (by decide +kernel)
theorem ml_X5_246 : Cond.methodLink RX5 246 yX4_hasCaught ∈ lw_all := lw_in (i := 731) (by decide +kernel) (by decide +kernel)
theorem ml_X5_249 : Cond.methodLink RX5 249 yX3_countOf ∈ lw_all := lw_in (i := 804) (by decide +kernel) (by decide +kernel)
theorem ml_X5_252 : Cond.methodLink RX5 252 yX3_earlierSentOf ∈ lw_all := lw_in (i := 825) (by decide +kernel) (by decide +kernel)
theorem ml_X5_255 : Cond.methodLink RX5 255 yJ9_max_7cf53 ∈ lw_all := lw_in (i := 702) (by decide +kernel) (by decide +kernel)
theorem ml_X5_268 : Cond.methodLink RX5 268 yJ9_min_7cf53 ∈ lw_all := lw_in (i := 705) (by decide +kernel) (by decide +kernel)
theorem ml_X5_271 : Cond.methodLink RX5 271 yX5_rank ∈ lw_all := lw_in (i := 846) (by decide +kernel) (by decide +kernel)
theorem ml_X6_3 : Cond.methodLink RX6 3 Lib.objectInit ∈ lw_all := lw_in (i := 973) (by decide +kernel) (by decide +kernel)
theorem ml_X6_36 : Cond.methodLink RX6 36 yJ9_max_f86c9 ∈ lw_all := lw_in (i := 1029) (by decide +kernel) (by decide +kernel)
theorem ml_X7_1 : Cond.methodLink RX7 1 Lib.objectInit ∈ lw_all := lw_in (i := 170) (by decide +kernel) (by decide +kernel)
theorem ml_X7_34 : Cond.methodLink RX7 34 yJ9_abs_067f4 ∈ lw_all := lw_in (i := 1066) (by decide +kernel) (by decide +kernel)
theorem ml_X7_40 : Cond.methodLink RX7 40 yJ9_max_f86c9 ∈ lw_all := lw_in (i := 1069) (by decide +kernel) (by decide +kernel)
theorem ml_X7_44 : Cond.methodLink RX7 44 yJ9_min_f86c9 ∈ lw_all := lw_in (i := 760) (by decide +kernel) (by decide +kernel)
theorem ml_X7_47 : Cond.methodLink RX7 47 yX7_gotWith ∈ lw_all := lw_in (i := 756) (by decide +kernel) (by decide +kernel)
theorem ml_X7_50 : Cond.methodLink RX7 50 yX7_plusFor ∈ lw_all := lw_in (i := 763) (by decide +kernel) (by decide +kernel)
theorem ml_X7_53 : Cond.methodLink RX7 53 yX7_tookWithOne ∈ lw_all := lw_in (i := 767) (by decide +kernel) (by decide +kernel)
theorem ml_X7_57 : Cond.methodLink RX7 57 yX7_minusFor ∈ lw_all := lw_in (i := 771) (by decide +kernel) (by decide +kernel)
theorem ml_X7_60 : Cond.methodLink RX7 60 yX7_shareOf ∈ lw_all := lw_in (i := 1045) (by decide +kernel) (by decide +kernel)
theorem ml_X8_3 : Cond.methodLink RX8 3 Lib.objectInit ∈ lw_all := lw_in (i := 377) (by decide +kernel) (by decide +kernel)
theorem ml_X8_15 : Cond.methodLink RX8 15 yJ9_min_7cf53 ∈ lw_all := lw_in (i := 486) (by decide +kernel) (by decide +kernel)
theorem ml_X8_38 : Cond.methodLink RX8 38 yX5_clear ∈ lw_all := lw_in (i := 489) (by decide +kernel) (by decide +kernel)
theorem ml_X8_43 : Cond.methodLink RX8 43 yX8_advance ∈ lw_all := lw_in (i := 513) (by decide +kernel) (by decide +kernel)
theorem ml_X8_51 : Cond.methodLink RX8 51 yX8_isWord ∈ lw_all := lw_in (i := 530) (by decide +kernel) (by decide +kernel)
theorem ml_X8_55 : Cond.methodLink RX8 55 yX8_readLink ∈ lw_all := lw_in (i := 582) (by decide +kernel) (by decide +kernel)
theorem ml_X8_61 : Cond.methodLink RX8 61 yX8_readFlow ∈ lw_all := lw_in (i := 619) (by decide +kernel) (by decide +kernel)
theorem ml_X8_64 : Cond.methodLink RX8 64 yX8_stopWith ∈ lw_all := lw_in (i := 590) (by decide +kernel) (by decide +kernel)
theorem ml_X8_68 : Cond.methodLink RX8 68 yX5_addLink ∈ lw_all := lw_in (i := 586) (by decide +kernel) (by decide +kernel)
theorem ml_X8_72 : Cond.methodLink RX8 72 yX8_nextNumber ∈ lw_all := lw_in (i := 594) (by decide +kernel) (by decide +kernel)
theorem ml_X8_94 : Cond.methodLink RX8 94 yX4_begin ∈ lw_all := lw_in (i := 599) (by decide +kernel) (by decide +kernel)
theorem ml_X8_97 : Cond.methodLink RX8 97 yX8_readSign ∈ lw_all := lw_in (i := 614) (by decide +kernel) (by decide +kernel)
theorem ml_X8_100 : Cond.methodLink RX8 100 yX5_addFlow ∈ lw_all := lw_in (i := 623) (by decide +kernel) (by decide +kernel)
theorem ml_X8_104 : Cond.methodLink RX8 104 yX2_begin ∈ lw_all := lw_in (i := 627) (by decide +kernel) (by decide +kernel)
theorem ml_X8_111 : Cond.methodLink RX8 111 yX8_readPath ∈ lw_all := lw_in (i := 631) (by decide +kernel) (by decide +kernel)
theorem ml_X8_115 : Cond.methodLink RX8 115 yX8_readMark ∈ lw_all := lw_in (i := 651) (by decide +kernel) (by decide +kernel)
theorem ml_X8_118 : Cond.methodLink RX8 118 yX5_measureBack ∈ lw_all := lw_in (i := 664) (by decide +kernel) (by decide +kernel)
theorem ml_X8_131 : Cond.methodLink RX8 131 yX2_goesOver ∈ lw_all := lw_in (i := 635) (by decide +kernel) (by decide +kernel)
theorem ml_X8_135 : Cond.methodLink RX8 135 yX2_addToPath ∈ lw_all := lw_in (i := 643) (by decide +kernel) (by decide +kernel)
theorem ml_X8_139 : Cond.methodLink RX8 139 yX8_kindOfWord ∈ lw_all := lw_in (i := 655) (by decide +kernel) (by decide +kernel)
theorem ml_X8_164 : Cond.methodLink RX8 164 yX8_byteAt ∈ lw_all := lw_in (i := 517) (by decide +kernel) (by decide +kernel)
theorem ml_X8_168 : Cond.methodLink RX8 168 yX8_endOfRun ∈ lw_all := lw_in (i := 521) (by decide +kernel) (by decide +kernel)
theorem ml_X8_172 : Cond.methodLink RX8 172 yX8_valueOfDigits ∈ lw_all := lw_in (i := 525) (by decide +kernel) (by decide +kernel)
theorem ml_X8_175 : Cond.methodLink RX8 175 yJ0_length_8abf5 ∈ lw_all := lw_in (i := 534) (by decide +kernel) (by decide +kernel)
theorem ml_X8_179 : Cond.methodLink RX8 179 yJ0_charAt_5068e ∈ lw_all := lw_in (i := 544) (by decide +kernel) (by decide +kernel)
theorem ml_L_9 : Cond.methodLink RL 9 yX9_init ∈ lw_all := lw_in (i := 94) (by decide +kernel) (by decide +kernel)
theorem ml_L_12 : Cond.methodLink RL 12 yX10_init ∈ lw_all := lw_in (i := 1222) (by decide +kernel) (by decide +kernel)
theorem ml_L_13 : Cond.methodLink RL 13 yX9_status ∈ lw_all := lw_in (i := 462) (by decide +kernel) (by decide +kernel)
theorem ml_L_17 : Cond.methodLink RL 17 yX10_status ∈ lw_all := lw_in (i := 1290) (by decide +kernel) (by decide +kernel)
theorem ml_L_18 : Cond.methodLink RL 18 yX9_feed ∈ lw_all := lw_in (i := 466) (by decide +kernel) (by decide +kernel)
theorem ml_L_22 : Cond.methodLink RL 22 yX10_feed ∈ lw_all := lw_in (i := 1294) (by decide +kernel) (by decide +kernel)
theorem ml_L_23 : Cond.methodLink RL 23 yX9_load ∈ lw_all := lw_in (i := 474) (by decide +kernel) (by decide +kernel)
theorem ml_L_27 : Cond.methodLink RL 27 yX10_load ∈ lw_all := lw_in (i := 1302) (by decide +kernel) (by decide +kernel)
theorem ml_L_28 : Cond.methodLink RL 28 yX9_fault ∈ lw_all := lw_in (i := 677) (by decide +kernel) (by decide +kernel)
theorem ml_L_31 : Cond.methodLink RL 31 yX10_fault ∈ lw_all := lw_in (i := 1421) (by decide +kernel) (by decide +kernel)
theorem ml_L_32 : Cond.methodLink RL 32 yX9_many ∈ lw_all := lw_in (i := 681) (by decide +kernel) (by decide +kernel)
theorem ml_L_35 : Cond.methodLink RL 35 yX10_many ∈ lw_all := lw_in (i := 1425) (by decide +kernel) (by decide +kernel)
theorem ml_L_36 : Cond.methodLink RL 36 yX9_link ∈ lw_all := lw_in (i := 706) (by decide +kernel) (by decide +kernel)
theorem ml_L_40 : Cond.methodLink RL 40 yX10_link ∈ lw_all := lw_in (i := 1449) (by decide +kernel) (by decide +kernel)
theorem ml_L_41 : Cond.methodLink RL 41 yX9_flow ∈ lw_all := lw_in (i := 719) (by decide +kernel) (by decide +kernel)
theorem ml_L_44 : Cond.methodLink RL 44 yX10_flow ∈ lw_all := lw_in (i := 1458) (by decide +kernel) (by decide +kernel)
theorem ml_L_45 : Cond.methodLink RL 45 yX9_path ∈ lw_all := lw_in (i := 739) (by decide +kernel) (by decide +kernel)
theorem ml_L_48 : Cond.methodLink RL 48 yX10_path ∈ lw_all := lw_in (i := 1474) (by decide +kernel) (by decide +kernel)
theorem ml_L_49 : Cond.methodLink RL 49 yX9_packet ∈ lw_all := lw_in (i := 744) (by decide +kernel) (by decide +kernel)
theorem ml_L_53 : Cond.methodLink RL 53 yX10_packet ∈ lw_all := lw_in (i := 1478) (by decide +kernel) (by decide +kernel)
theorem ml_L_54 : Cond.methodLink RL 54 yX9_event ∈ lw_all := lw_in (i := 779) (by decide +kernel) (by decide +kernel)
theorem ml_L_57 : Cond.methodLink RL 57 yX10_event ∈ lw_all := lw_in (i := 1514) (by decide +kernel) (by decide +kernel)
theorem ml_L_58 : Cond.methodLink RL 58 yX9_given ∈ lw_all := lw_in (i := 790) (by decide +kernel) (by decide +kernel)
theorem ml_L_61 : Cond.methodLink RL 61 yX10_given ∈ lw_all := lw_in (i := 1519) (by decide +kernel) (by decide +kernel)
theorem ml_L_62 : Cond.methodLink RL 62 yX9_where ∈ lw_all := lw_in (i := 796) (by decide +kernel) (by decide +kernel)
theorem ml_L_65 : Cond.methodLink RL 65 yX10_where ∈ lw_all := lw_in (i := 1523) (by decide +kernel) (by decide +kernel)
theorem ml_L_66 : Cond.methodLink RL 66 yX9_eldest ∈ lw_all := lw_in (i := 817) (by decide +kernel) (by decide +kernel)
theorem ml_L_69 : Cond.methodLink RL 69 yX10_eldest ∈ lw_all := lw_in (i := 1531) (by decide +kernel) (by decide +kernel)
theorem ml_L_70 : Cond.methodLink RL 70 yX9_past ∈ lw_all := lw_in (i := 829) (by decide +kernel) (by decide +kernel)
theorem ml_L_73 : Cond.methodLink RL 73 yX10_past ∈ lw_all := lw_in (i := 1536) (by decide +kernel) (by decide +kernel)
theorem ml_L_74 : Cond.methodLink RL 74 yX9_top ∈ lw_all := lw_in (i := 838) (by decide +kernel) (by decide +kernel)
theorem ml_L_77 : Cond.methodLink RL 77 yX10_top ∈ lw_all := lw_in (i := 1541) (by decide +kernel) (by decide +kernel)
theorem ml_L_78 : Cond.methodLink RL 78 yX9_alike ∈ lw_all := lw_in (i := 851) (by decide +kernel) (by decide +kernel)
theorem ml_L_81 : Cond.methodLink RL 81 yX10_alike ∈ lw_all := lw_in (i := 1545) (by decide +kernel) (by decide +kernel)
theorem ml_L_82 : Cond.methodLink RL 82 yX9_set ∈ lw_all := lw_in (i := 863) (by decide +kernel) (by decide +kernel)
theorem ml_L_85 : Cond.methodLink RL 85 yX10_set ∈ lw_all := lw_in (i := 1553) (by decide +kernel) (by decide +kernel)
theorem ml_L_86 : Cond.methodLink RL 86 yX9_turn ∈ lw_all := lw_in (i := 878) (by decide +kernel) (by decide +kernel)
theorem ml_L_90 : Cond.methodLink RL 90 yX10_turn ∈ lw_all := lw_in (i := 1564) (by decide +kernel) (by decide +kernel)
theorem ml_L_91 : Cond.methodLink RL 91 yX9_more ∈ lw_all := lw_in (i := 882) (by decide +kernel) (by decide +kernel)
theorem ml_L_94 : Cond.methodLink RL 94 yX10_more ∈ lw_all := lw_in (i := 1572) (by decide +kernel) (by decide +kernel)
theorem ml_L_95 : Cond.methodLink RL 95 yX9_kind ∈ lw_all := lw_in (i := 886) (by decide +kernel) (by decide +kernel)
theorem ml_L_98 : Cond.methodLink RL 98 yX10_kind ∈ lw_all := lw_in (i := 1576) (by decide +kernel) (by decide +kernel)
theorem ml_L_99 : Cond.methodLink RL 99 yX9_detour ∈ lw_all := lw_in (i := 890) (by decide +kernel) (by decide +kernel)
theorem ml_L_102 : Cond.methodLink RL 102 yX10_detour ∈ lw_all := lw_in (i := 1580) (by decide +kernel) (by decide +kernel)
theorem ml_L_103 : Cond.methodLink RL 103 yX9_tick ∈ lw_all := lw_in (i := 897) (by decide +kernel) (by decide +kernel)
theorem ml_L_106 : Cond.methodLink RL 106 yX10_tick ∈ lw_all := lw_in (i := 1584) (by decide +kernel) (by decide +kernel)
theorem ml_L_107 : Cond.methodLink RL 107 yX9_mark ∈ lw_all := lw_in (i := 1083) (by decide +kernel) (by decide +kernel)
theorem ml_L_110 : Cond.methodLink RL 110 yX10_mark ∈ lw_all := lw_in (i := 1653) (by decide +kernel) (by decide +kernel)
theorem ml_L_111 : Cond.methodLink RL 111 yX9_back ∈ lw_all := lw_in (i := 1121) (by decide +kernel) (by decide +kernel)
theorem ml_L_114 : Cond.methodLink RL 114 yX10_back ∈ lw_all := lw_in (i := 1657) (by decide +kernel) (by decide +kernel)
theorem ml_L_115 : Cond.methodLink RL 115 yX9_best ∈ lw_all := lw_in (i := 1125) (by decide +kernel) (by decide +kernel)
theorem ml_L_118 : Cond.methodLink RL 118 yX10_best ∈ lw_all := lw_in (i := 1661) (by decide +kernel) (by decide +kernel)
theorem ml_L_119 : Cond.methodLink RL 119 yX9_neck ∈ lw_all := lw_in (i := 1152) (by decide +kernel) (by decide +kernel)
theorem ml_L_122 : Cond.methodLink RL 122 yX10_neck ∈ lw_all := lw_in (i := 1677) (by decide +kernel) (by decide +kernel)
theorem ml_L_123 : Cond.methodLink RL 123 yX9_when ∈ lw_all := lw_in (i := 1160) (by decide +kernel) (by decide +kernel)
theorem ml_L_126 : Cond.methodLink RL 126 yX10_when ∈ lw_all := lw_in (i := 1681) (by decide +kernel) (by decide +kernel)
theorem ml_L_127 : Cond.methodLink RL 127 yX9_closes ∈ lw_all := lw_in (i := 1176) (by decide +kernel) (by decide +kernel)
theorem ml_L_130 : Cond.methodLink RL 130 yX10_closes ∈ lw_all := lw_in (i := 1693) (by decide +kernel) (by decide +kernel)
theorem ml_L_131 : Cond.methodLink RL 131 yX9_caught ∈ lw_all := lw_in (i := 1180) (by decide +kernel) (by decide +kernel)
theorem ml_L_134 : Cond.methodLink RL 134 yX10_caught ∈ lw_all := lw_in (i := 1697) (by decide +kernel) (by decide +kernel)
theorem ml_L_135 : Cond.methodLink RL 135 yX9_after ∈ lw_all := lw_in (i := 1184) (by decide +kernel) (by decide +kernel)
theorem ml_L_138 : Cond.methodLink RL 138 yX10_after ∈ lw_all := lw_in (i := 1701) (by decide +kernel) (by decide +kernel)
theorem ml_L_139 : Cond.methodLink RL 139 yX9_without ∈ lw_all := lw_in (i := 1204) (by decide +kernel) (by decide +kernel)
theorem ml_L_142 : Cond.methodLink RL 142 yX10_without ∈ lw_all := lw_in (i := 1722) (by decide +kernel) (by decide +kernel)
theorem ml_L_143 : Cond.methodLink RL 143 yX9_blind ∈ lw_all := lw_in (i := 1208) (by decide +kernel) (by decide +kernel)
theorem ml_L_146 : Cond.methodLink RL 146 yX10_blind ∈ lw_all := lw_in (i := 1718) (by decide +kernel) (by decide +kernel)
theorem ml_L_147 : Cond.methodLink RL 147 yX9_least ∈ lw_all := lw_in (i := 1212) (by decide +kernel) (by decide +kernel)
theorem ml_L_150 : Cond.methodLink RL 150 yX10_least ∈ lw_all := lw_in (i := 1726) (by decide +kernel) (by decide +kernel)
theorem ml_X10_1 : Cond.methodLink RX10 1 Lib.objectInit ∈ lw_all := lw_in (i := 1225) (by decide +kernel) (by decide +kernel)
theorem ml_X10_34 : Cond.methodLink RX10 34 yX10_begins ∈ lw_all := lw_in (i := 1226) (by decide +kernel) (by decide +kernel)
theorem ml_X10_40 : Cond.methodLink RX10 40 yX10_puts ∈ lw_all := lw_in (i := 1230) (by decide +kernel) (by decide +kernel)
theorem ml_X10_44 : Cond.methodLink RX10 44 yX10_link0 ∈ lw_all := lw_in (i := 1361) (by decide +kernel) (by decide +kernel)
theorem ml_X10_48 : Cond.methodLink RX10 48 yX10_of ∈ lw_all := lw_in (i := 1348) (by decide +kernel) (by decide +kernel)
theorem ml_X10_52 : Cond.methodLink RX10 52 yX10_flow0 ∈ lw_all := lw_in (i := 1397) (by decide +kernel) (by decide +kernel)
theorem ml_X10_55 : Cond.methodLink RX10 55 yX10_packet0 ∈ lw_all := lw_in (i := 1486) (by decide +kernel) (by decide +kernel)
theorem ml_X10_58 : Cond.methodLink RX10 58 yX10_at ∈ lw_all := lw_in (i := 1357) (by decide +kernel) (by decide +kernel)
theorem ml_X10_62 : Cond.methodLink RX10 62 yX10_ofFlow ∈ lw_all := lw_in (i := 1393) (by decide +kernel) (by decide +kernel)
theorem ml_X10_66 : Cond.methodLink RX10 66 yX10_hop ∈ lw_all := lw_in (i := 1400) (by decide +kernel) (by decide +kernel)
theorem ml_X10_69 : Cond.methodLink RX10 69 yX10_ofLink ∈ lw_all := lw_in (i := 1373) (by decide +kernel) (by decide +kernel)
theorem ml_X10_76 : Cond.methodLink RX10 76 yX10_adds ∈ lw_all := lw_in (i := 1377) (by decide +kernel) (by decide +kernel)
theorem ml_X10_79 : Cond.methodLink RX10 79 yX10_flowOf ∈ lw_all := lw_in (i := 1482) (by decide +kernel) (by decide +kernel)
theorem ml_X10_82 : Cond.methodLink RX10 82 yX10_backOf ∈ lw_all := lw_in (i := 1408) (by decide +kernel) (by decide +kernel)
theorem ml_X10_87 : Cond.methodLink RX10 87 yJ9_max_f86c9 ∈ lw_all := lw_in (i := 1448) (by decide +kernel) (by decide +kernel)
theorem ml_X10_93 : Cond.methodLink RX10 93 yX10_has ∈ lw_all := lw_in (i := 1471) (by decide +kernel) (by decide +kernel)
theorem ml_X10_100 : Cond.methodLink RX10 100 yX10_happens ∈ lw_all := lw_in (i := 1604) (by decide +kernel) (by decide +kernel)
theorem ml_X10_104 : Cond.methodLink RX10 104 yX10_comesBack ∈ lw_all := lw_in (i := 1614) (by decide +kernel) (by decide +kernel)
theorem ml_X10_108 : Cond.methodLink RX10 108 yX10_partOf ∈ lw_all := lw_in (i := 1497) (by decide +kernel) (by decide +kernel)
theorem ml_X10_113 : Cond.methodLink RX10 113 yJ9_min_f86c9 ∈ lw_all := lw_in (i := 1447) (by decide +kernel) (by decide +kernel)
theorem ml_X10_126 : Cond.methodLink RX10 126 yX10_returns ∈ lw_all := lw_in (i := 1600) (by decide +kernel) (by decide +kernel)
theorem ml_X10_130 : Cond.methodLink RX10 130 yX10_comes ∈ lw_all := lw_in (i := 1618) (by decide +kernel) (by decide +kernel)
theorem ml_X10_136 : Cond.methodLink RX10 136 yX10_maySend ∈ lw_all := lw_in (i := 1626) (by decide +kernel) (by decide +kernel)
theorem ml_X10_140 : Cond.methodLink RX10 140 yX10_freePlace ∈ lw_all := lw_in (i := 1630) (by decide +kernel) (by decide +kernel)
theorem ml_X10_146 : Cond.methodLink RX10 146 yX10_gotWith ∈ lw_all := lw_in (i := 1493) (by decide +kernel) (by decide +kernel)
theorem ml_X10_149 : Cond.methodLink RX10 149 yX10_plusBy ∈ lw_all := lw_in (i := 1502) (by decide +kernel) (by decide +kernel)
theorem ml_X10_153 : Cond.methodLink RX10 153 yX10_tookWith ∈ lw_all := lw_in (i := 1506) (by decide +kernel) (by decide +kernel)
theorem ml_X10_156 : Cond.methodLink RX10 156 yX10_minusBy ∈ lw_all := lw_in (i := 1510) (by decide +kernel) (by decide +kernel)
theorem ml_X10_159 : Cond.methodLink RX10 159 yX10_shareOf ∈ lw_all := lw_in (i := 1489) (by decide +kernel) (by decide +kernel)
theorem ml_X10_168 : Cond.methodLink RX10 168 yX10_catches ∈ lw_all := lw_in (i := 1643) (by decide +kernel) (by decide +kernel)
theorem ml_X10_171 : Cond.methodLink RX10 171 yJ9_max_7cf53 ∈ lw_all := lw_in (i := 1647) (by decide +kernel) (by decide +kernel)
theorem ml_X10_175 : Cond.methodLink RX10 175 yX10_allReturn ∈ lw_all := lw_in (i := 1596) (by decide +kernel) (by decide +kernel)
theorem ml_X10_178 : Cond.methodLink RX10 178 yX10_arrives ∈ lw_all := lw_in (i := 1610) (by decide +kernel) (by decide +kernel)
theorem ml_X10_181 : Cond.methodLink RX10 181 yX10_isOn ∈ lw_all := lw_in (i := 1437) (by decide +kernel) (by decide +kernel)
theorem ml_X10_184 : Cond.methodLink RX10 184 yX10_sends ∈ lw_all := lw_in (i := 1622) (by decide +kernel) (by decide +kernel)
theorem ml_X10_187 : Cond.methodLink RX10 187 yX10_leaves ∈ lw_all := lw_in (i := 1634) (by decide +kernel) (by decide +kernel)
theorem ml_X10_190 : Cond.methodLink RX10 190 yX10_spanEnds ∈ lw_all := lw_in (i := 1638) (by decide +kernel) (by decide +kernel)
theorem ml_X10_193 : Cond.methodLink RX10 193 yX10_remembers ∈ lw_all := lw_in (i := 1648) (by decide +kernel) (by decide +kernel)
theorem ml_X10_196 : Cond.methodLink RX10 196 yX10_ticks ∈ lw_all := lw_in (i := 1592) (by decide +kernel) (by decide +kernel)
theorem ml_X10_202 : Cond.methodLink RX10 202 yX10_four ∈ lw_all := lw_in (i := 1298) (by decide +kernel) (by decide +kernel)
theorem ml_X10_211 : Cond.methodLink RX10 211 yX10_byteAt ∈ lw_all := lw_in (i := 1321) (by decide +kernel) (by decide +kernel)
theorem ml_X10_220 : Cond.methodLink RX10 220 yX10_isSmall ∈ lw_all := lw_in (i := 1325) (by decide +kernel) (by decide +kernel)
theorem ml_X10_223 : Cond.methodLink RX10 223 yX10_isDigit ∈ lw_all := lw_in (i := 1328) (by decide +kernel) (by decide +kernel)
theorem ml_X10_230 : Cond.methodLink RX10 230 yJ9_min_7cf53 ∈ lw_all := lw_in (i := 1332) (by decide +kernel) (by decide +kernel)
theorem ml_X10_234 : Cond.methodLink RX10 234 yJ0_length_8abf5 ∈ lw_all := lw_in (i := 1342) (by decide +kernel) (by decide +kernel)
theorem ml_X10_239 : Cond.methodLink RX10 239 yJ0_charAt_5068e ∈ lw_all := lw_in (i := 1343) (by decide +kernel) (by decide +kernel)
theorem ml_X10_246 : Cond.methodLink RX10 246 yX10_ahead ∈ lw_all := lw_in (i := 1317) (by decide +kernel) (by decide +kernel)
theorem ml_X10_249 : Cond.methodLink RX10 249 yX10_fails ∈ lw_all := lw_in (i := 1353) (by decide +kernel) (by decide +kernel)
theorem ml_X10_252 : Cond.methodLink RX10 252 yX10_isFrom ∈ lw_all := lw_in (i := 1306) (by decide +kernel) (by decide +kernel)
theorem ml_X10_256 : Cond.methodLink RX10 256 yX10_takes ∈ lw_all := lw_in (i := 1368) (by decide +kernel) (by decide +kernel)
theorem ml_X10_262 : Cond.methodLink RX10 262 yX10_takesNumber ∈ lw_all := lw_in (i := 1364) (by decide +kernel) (by decide +kernel)
theorem ml_X10_266 : Cond.methodLink RX10 266 yX10_key ∈ lw_all := lw_in (i := 1337) (by decide +kernel) (by decide +kernel)
theorem ml_X10_269 : Cond.methodLink RX10 269 yX10_isInPath ∈ lw_all := lw_in (i := 1389) (by decide +kernel) (by decide +kernel)
theorem ml_X10_275 : Cond.methodLink RX10 275 yX10_aHop ∈ lw_all := lw_in (i := 1385) (by decide +kernel) (by decide +kernel)
theorem ml_X10_280 : Cond.methodLink RX10 280 yX10_marks ∈ lw_all := lw_in (i := 1412) (by decide +kernel) (by decide +kernel)
theorem ml_X10_283 : Cond.methodLink RX10 283 yX10_aLink ∈ lw_all := lw_in (i := 1344) (by decide +kernel) (by decide +kernel)
theorem ml_X10_286 : Cond.methodLink RX10 286 yX10_aFlow ∈ lw_all := lw_in (i := 1381) (by decide +kernel) (by decide +kernel)
theorem ml_X10_289 : Cond.methodLink RX10 289 yX10_refuse ∈ lw_all := lw_in (i := 1309) (by decide +kernel) (by decide +kernel)
theorem ml_X10_292 : Cond.methodLink RX10 292 yX10_copies ∈ lw_all := lw_in (i := 1313) (by decide +kernel) (by decide +kernel)
theorem ml_X10_295 : Cond.methodLink RX10 295 yX10_aLine ∈ lw_all := lw_in (i := 1333) (by decide +kernel) (by decide +kernel)
theorem ml_X10_298 : Cond.methodLink RX10 298 yX10_gives ∈ lw_all := lw_in (i := 1417) (by decide +kernel) (by decide +kernel)
theorem ml_X10_304 : Cond.methodLink RX10 304 yX10_linksSum ∈ lw_all := lw_in (i := 1429) (by decide +kernel) (by decide +kernel)
theorem ml_X10_307 : Cond.methodLink RX10 307 yX10_even ∈ lw_all := lw_in (i := 1433) (by decide +kernel) (by decide +kernel)
theorem ml_X10_311 : Cond.methodLink RX10 311 yX10_gap ∈ lw_all := lw_in (i := 1442) (by decide +kernel) (by decide +kernel)
theorem ml_X10_316 : Cond.methodLink RX10 316 yX10_isLink ∈ lw_all := lw_in (i := 1454) (by decide +kernel) (by decide +kernel)
theorem ml_X10_321 : Cond.methodLink RX10 321 yX10_isFlow ∈ lw_all := lw_in (i := 1463) (by decide +kernel) (by decide +kernel)
theorem ml_X10_324 : Cond.methodLink RX10 324 yX10_caughtAt ∈ lw_all := lw_in (i := 1467) (by decide +kernel) (by decide +kernel)
theorem ml_X10_327 : Cond.methodLink RX10 327 yX10_among ∈ lw_all := lw_in (i := 1527) (by decide +kernel) (by decide +kernel)
theorem ml_X10_333 : Cond.methodLink RX10 333 yX10_isLike ∈ lw_all := lw_in (i := 1549) (by decide +kernel) (by decide +kernel)
theorem ml_X10_343 : Cond.methodLink RX10 343 yX10_turned ∈ lw_all := lw_in (i := 1560) (by decide +kernel) (by decide +kernel)
theorem ml_X10_346 : Cond.methodLink RX10 346 yX10_isSo ∈ lw_all := lw_in (i := 1568) (by decide +kernel) (by decide +kernel)
theorem ml_X10_349 : Cond.methodLink RX10 349 yX10_ticks_ ∈ lw_all := lw_in (i := 1588) (by decide +kernel) (by decide +kernel)
theorem ml_X10_351 : Cond.methodLink RX10 351 yX10_growing ∈ lw_all := lw_in (i := 1669) (by decide +kernel) (by decide +kernel)
theorem ml_X10_354 : Cond.methodLink RX10 354 yX10_rest ∈ lw_all := lw_in (i := 1673) (by decide +kernel) (by decide +kernel)
theorem ml_X10_357 : Cond.methodLink RX10 357 yX10_laysBest ∈ lw_all := lw_in (i := 1665) (by decide +kernel) (by decide +kernel)
theorem ml_X10_360 : Cond.methodLink RX10 360 yX10_isReached ∈ lw_all := lw_in (i := 1689) (by decide +kernel) (by decide +kernel)
theorem ml_X10_363 : Cond.methodLink RX10 363 yX10_reaches ∈ lw_all := lw_in (i := 1685) (by decide +kernel) (by decide +kernel)
theorem ml_X10_368 : Cond.methodLink RX10 368 yX10_flowsSum ∈ lw_all := lw_in (i := 1710) (by decide +kernel) (by decide +kernel)
theorem ml_X10_371 : Cond.methodLink RX10 371 yX10_longestRow ∈ lw_all := lw_in (i := 1714) (by decide +kernel) (by decide +kernel)
theorem ml_X10_374 : Cond.methodLink RX10 374 yX10_afterBy ∈ lw_all := lw_in (i := 1705) (by decide +kernel) (by decide +kernel)
theorem ml_J0_335 : Cond.methodLink RJ0 335 yJ0_coder_7d493 ∈ lw_all := lw_in (i := 538) (by decide +kernel) (by decide +kernel)
theorem ml_J0_492 : Cond.methodLink RJ0 492 yJ0_isLatin1_aae02 ∈ lw_all := lw_in (i := 548) (by decide +kernel) (by decide +kernel)
theorem ml_J0_495 : Cond.methodLink RJ0 495 yJ1_charAt_3b067 ∈ lw_all := lw_in (i := 552) (by decide +kernel) (by decide +kernel)
theorem ml_J0_498 : Cond.methodLink RJ0 498 yJ2_charAt_3b067 ∈ lw_all := lw_in (i := 563) (by decide +kernel) (by decide +kernel)
theorem ml_J0_1059 : Cond.methodLink RJ0 1059 yJ3_checkIndex_8e157 ∈ lw_all := lw_in (i := 560) (by decide +kernel) (by decide +kernel)
theorem ml_J1_9 : Cond.methodLink RJ1 9 yJ0_checkIndex_df160 ∈ lw_all := lw_in (i := 555) (by decide +kernel) (by decide +kernel)
theorem ml_J2_48 : Cond.methodLink RJ2 48 yJ2_length_9d52b ∈ lw_all := lw_in (i := 569) (by decide +kernel) (by decide +kernel)
theorem ml_J2_67 : Cond.methodLink RJ2 67 yJ2_checkIndex_2214a ∈ lw_all := lw_in (i := 566) (by decide +kernel) (by decide +kernel)
theorem ml_J2_71 : Cond.methodLink RJ2 71 yJ2_getChar_3b067 ∈ lw_all := lw_in (i := 573) (by decide +kernel) (by decide +kernel)
theorem ml_J2_414 : Cond.methodLink RJ2 414 yJ0_checkIndex_df160 ∈ lw_all := lw_in (i := 572) (by decide +kernel) (by decide +kernel)
theorem nl_X9_36 : (RX9, 36, yX8_init, "SharedSurplus") ∈ zNest := by decide +kernel
theorem nl_X9_43 : (RX9, 43, yX0_init, "SharedSurplus") ∈ zNest := by decide +kernel
theorem nl_X4_11 : (RX4, 11, yX3_init, "SharedSurplus") ∈ zNest := by decide +kernel
theorem nl_X4_33 : (RX4, 33, yX7_init, "SharedSurplus") ∈ zNest := by decide +kernel
theorem nl_X5_25 : (RX5, 25, yX3_init, "SharedSurplus") ∈ zNest := by decide +kernel
theorem nl_X5_35 : (RX5, 35, yX1_init, "SharedSurplus") ∈ zNest := by decide +kernel
theorem nl_X5_44 : (RX5, 44, yX4_init, "SharedSurplus") ∈ zNest := by decide +kernel
theorem nl_X5_45 : (RX5, 45, yX2_init, "SharedSurplus") ∈ zNest := by decide +kernel
theorem nl_X5_124 : (RX5, 124, yX6_init, "SharedSurplus") ∈ zNest := by decide +kernel
theorem oi_i : Cond.instanceMethod Lib.objectInit ∈ lw_all := lw_in (i := 98) (by decide +kernel) (by decide +kernel)
theorem oi_c : Cond.code Lib.objectInit ⟨#[0xb1]⟩ 1 none ∈ lw_all := lw_in (i := 99) (by decide +kernel) (by decide +kernel)
theorem ac_n : Cond.native arraycopyName ∈ lw_all := lw_in (i := 1097) (by decide +kernel) (by decide +kernel)
theorem ac_s : Cond.static arraycopyName ∈ lw_all := lw_in (i := 1096) (by decide +kernel) (by decide +kernel)
theorem ac_i : Cond.initialized "java/lang/System" ∈ lw_all := lw_in (i := 91) (by decide +kernel) (by decide +kernel)
