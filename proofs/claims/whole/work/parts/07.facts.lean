theorem tw_101 : Cond.fieldLink RX4 24 "BothEnds$Rows" "signs" "[I" ∈ lw_good := lw_in (List.mem_of_getElem? (i := 101) (by decide +kernel)) rfl
theorem inw4 : ∀ w ∈ u_ws RX4 TX4 6, w ∈ lw_good := by decide +kernel
theorem kF_X4_24 : me_F RX4 24 4 0 := ⟨RX4, TX4, 6, rfl, by decide, inw4, Or.inl tw_101⟩
theorem tw_114 : Cond.fieldLink RX4 27 "BothEnds$Rows" "length" "I" ∈ lw_good := lw_in (List.mem_of_getElem? (i := 114) (by decide +kernel)) rfl
theorem kF_X4_27 : me_F RX4 27 4 5 := ⟨RX4, TX4, 6, rfl, by decide, inw4, Or.inl tw_114⟩
theorem tw_107 : Cond.fieldLink RX4 15 "BothEnds$Rows" "rowOfPlace" "[I" ∈ lw_good := lw_in (List.mem_of_getElem? (i := 107) (by decide +kernel)) rfl
theorem kF_X4_15 : me_F RX4 15 4 2 := ⟨RX4, TX4, 6, rfl, by decide, inw4, Or.inl tw_107⟩
theorem ic_1 : Int32.ofInt 1 = (1 : Int32) := by decide
theorem ic_0 : Int32.ofInt 0 = (0 : Int32) := by decide
theorem pl_RX4 : plainName RX4 = true := by decide +kernel
theorem tw_103 : Cond.fieldLink RX4 9 "BothEnds$Rows" "places" "[I" ∈ lw_good := lw_in (List.mem_of_getElem? (i := 103) (by decide +kernel)) rfl
theorem kF_X4_9 : me_F RX4 9 4 1 := ⟨RX4, TX4, 6, rfl, by decide, inw4, Or.inl tw_103⟩
theorem tw_456 : Cond.methodLink RX4 40 yX4_isAhead ∈ lw_good := lw_in (List.mem_of_getElem? (i := 456) (by decide +kernel)) rfl
theorem tw_4 : Cond.initialized RX4 ∈ lw_good := lw_in (List.mem_of_getElem? (i := 4) (by decide +kernel)) rfl
theorem tw_458 : Cond.instanceMethod yX4_isAhead ∈ lw_good := lw_in (List.mem_of_getElem? (i := 458) (by decide +kernel)) rfl
theorem ts_8 : Cond.selects RX4 yX4_isAhead yX4_isAhead ∈ lw_good := lw_ins (q := (yX4_isAhead, 6)) (List.mem_of_getElem? (i := 8) (by decide +kernel))
theorem tw_459 : Cond.code yX4_isAhead cX4_isAhead 3 (some .boolean) ∈ lw_good := lw_in (List.mem_of_getElem? (i := 459) (by decide +kernel)) rfl
theorem kV_X4_40 : me_V RX4 40 yX4_isAhead cX4_isAhead 3 (some .boolean) 4 2 := ⟨⟨TX4, 6, rfl⟩, Or.inl tw_456, tw_458, ts_8, tw_4, tw_459, by decide +kernel, by decide +kernel, by decide +kernel, by decide⟩
theorem in_m1 (x : Int32) : x + Int32.ofInt (-1) = x + (-1) := by rw [show Int32.ofInt (-1) = (-1 : Int32) from by decide]
theorem in_1 (x : Int32) : x + Int32.ofInt 1 = x + 1 := by rw [show Int32.ofInt 1 = (1 : Int32) from by decide]
theorem tw_110 : Cond.fieldLink RX4 18 "BothEnds$Rows" "alike" "[I" ∈ lw_good := lw_in (List.mem_of_getElem? (i := 110) (by decide +kernel)) rfl
theorem kF_X4_18 : me_F RX4 18 4 3 := ⟨RX4, TX4, 6, rfl, by decide, inw4, Or.inl tw_110⟩
theorem tw_464 : Cond.methodLink RX4 44 yJ9_max_7cf53 ∈ lw_good := lw_in (List.mem_of_getElem? (i := 464) (by decide +kernel)) rfl
theorem tw_13 : Cond.initialized RJ9 ∈ lw_good := lw_in (List.mem_of_getElem? (i := 13) (by decide +kernel)) rfl
theorem tw_465 : Cond.static yJ9_max_7cf53 ∈ lw_good := lw_in (List.mem_of_getElem? (i := 465) (by decide +kernel)) rfl
theorem tw_466 : Cond.code yJ9_max_7cf53 cJ9_max_7cf53 2 (some .int) ∈ lw_good := lw_in (List.mem_of_getElem? (i := 466) (by decide +kernel)) rfl
theorem kS_X4_44 : me_S RX4 44 yJ9_max_7cf53 cJ9_max_7cf53 2 (some .int) 2 := ⟨Or.inl tw_464, tw_465, tw_13, tw_466, by decide +kernel, by decide +kernel, by decide +kernel, by decide⟩
theorem plf_yJ9_max_7cf53 : plainFor yJ9_max_7cf53 = true := by decide +kernel
theorem tw_471 : Cond.methodLink RX4 50 yX4_before ∈ lw_good := lw_in (List.mem_of_getElem? (i := 471) (by decide +kernel)) rfl
theorem tw_473 : Cond.instanceMethod yX4_before ∈ lw_good := lw_in (List.mem_of_getElem? (i := 473) (by decide +kernel)) rfl
theorem ts_11 : Cond.selects RX4 yX4_before yX4_before ∈ lw_good := lw_ins (q := (yX4_before, 6)) (List.mem_of_getElem? (i := 11) (by decide +kernel))
theorem tw_474 : Cond.code yX4_before cX4_before 3 (some .int) ∈ lw_good := lw_in (List.mem_of_getElem? (i := 474) (by decide +kernel)) rfl
theorem kV_X4_50 : me_V RX4 50 yX4_before cX4_before 3 (some .int) 4 1 := ⟨⟨TX4, 6, rfl⟩, Or.inl tw_471, tw_473, ts_11, tw_4, tw_474, by decide +kernel, by decide +kernel, by decide +kernel, by decide⟩
theorem ib_8 : (Int8.ofInt 8).toInt32 = (8 : Int32) := by decide
theorem ic_2 : Int32.ofInt 2 = (2 : Int32) := by decide
theorem tw_113 : Cond.fieldLink RX4 21 "BothEnds$Rows" "smaller" "[I" ∈ lw_good := lw_in (List.mem_of_getElem? (i := 113) (by decide +kernel)) rfl
theorem kF_X4_21 : me_F RX4 21 4 4 := ⟨RX4, TX4, 6, rfl, by decide, inw4, Or.inl tw_113⟩
theorem kG_X4_27 : me_G RX4 27 4 5 .int := ⟨RX4, TX4, 6, tyX4, rfl, by decide, inw4, tyX4_ok, nmX4, rfl, by decide +kernel, Or.inl tw_114⟩
theorem tw_452 : Cond.methodLink RX4 31 yX4_sortPlaces ∈ lw_good := lw_in (List.mem_of_getElem? (i := 452) (by decide +kernel)) rfl
theorem tw_454 : Cond.instanceMethod yX4_sortPlaces ∈ lw_good := lw_in (List.mem_of_getElem? (i := 454) (by decide +kernel)) rfl
theorem ts_7 : Cond.selects RX4 yX4_sortPlaces yX4_sortPlaces ∈ lw_good := lw_ins (q := (yX4_sortPlaces, 6)) (List.mem_of_getElem? (i := 7) (by decide +kernel))
theorem tw_455 : Cond.code yX4_sortPlaces cX4_sortPlaces 3 none ∈ lw_good := lw_in (List.mem_of_getElem? (i := 455) (by decide +kernel)) rfl
theorem kV_X4_31 : me_V RX4 31 yX4_sortPlaces cX4_sortPlaces 3 none 4 0 := ⟨⟨TX4, 6, rfl⟩, Or.inl tw_452, tw_454, ts_7, tw_4, tw_455, by decide +kernel, by decide +kernel, by decide +kernel, by decide⟩
theorem tw_460 : Cond.methodLink RX4 34 yX4_compareNeighbours ∈ lw_good := lw_in (List.mem_of_getElem? (i := 460) (by decide +kernel)) rfl
theorem tw_462 : Cond.instanceMethod yX4_compareNeighbours ∈ lw_good := lw_in (List.mem_of_getElem? (i := 462) (by decide +kernel)) rfl
theorem ts_9 : Cond.selects RX4 yX4_compareNeighbours yX4_compareNeighbours ∈ lw_good := lw_ins (q := (yX4_compareNeighbours, 6)) (List.mem_of_getElem? (i := 9) (by decide +kernel))
theorem tw_463 : Cond.code yX4_compareNeighbours cX4_compareNeighbours 5 none ∈ lw_good := lw_in (List.mem_of_getElem? (i := 463) (by decide +kernel)) rfl
theorem kV_X4_34 : me_V RX4 34 yX4_compareNeighbours cX4_compareNeighbours 5 none 4 0 := ⟨⟨TX4, 6, rfl⟩, Or.inl tw_460, tw_462, ts_9, tw_4, tw_463, by decide +kernel, by decide +kernel, by decide +kernel, by decide⟩
theorem tw_467 : Cond.methodLink RX4 37 yX4_tallySmaller ∈ lw_good := lw_in (List.mem_of_getElem? (i := 467) (by decide +kernel)) rfl
theorem tw_469 : Cond.instanceMethod yX4_tallySmaller ∈ lw_good := lw_in (List.mem_of_getElem? (i := 469) (by decide +kernel)) rfl
theorem ts_10 : Cond.selects RX4 yX4_tallySmaller yX4_tallySmaller ∈ lw_good := lw_ins (q := (yX4_tallySmaller, 6)) (List.mem_of_getElem? (i := 10) (by decide +kernel))
theorem tw_470 : Cond.code yX4_tallySmaller cX4_tallySmaller 5 none ∈ lw_good := lw_in (List.mem_of_getElem? (i := 470) (by decide +kernel)) rfl
theorem kV_X4_37 : me_V RX4 37 yX4_tallySmaller cX4_tallySmaller 5 none 4 0 := ⟨⟨TX4, 6, rfl⟩, Or.inl tw_467, tw_469, ts_10, tw_4, tw_470, by decide +kernel, by decide +kernel, by decide +kernel, by decide⟩
theorem tw_499 : Cond.methodLink RX4 54 yX4_smallerAhead ∈ lw_good := lw_in (List.mem_of_getElem? (i := 499) (by decide +kernel)) rfl
theorem tw_501 : Cond.instanceMethod yX4_smallerAhead ∈ lw_good := lw_in (List.mem_of_getElem? (i := 501) (by decide +kernel)) rfl
theorem ts_17 : Cond.selects RX4 yX4_smallerAhead yX4_smallerAhead ∈ lw_good := lw_ins (q := (yX4_smallerAhead, 6)) (List.mem_of_getElem? (i := 17) (by decide +kernel))
theorem tw_502 : Cond.code yX4_smallerAhead cX4_smallerAhead 3 (some .int) ∈ lw_good := lw_in (List.mem_of_getElem? (i := 502) (by decide +kernel)) rfl
theorem kV_X4_54 : me_V RX4 54 yX4_smallerAhead cX4_smallerAhead 3 (some .int) 4 2 := ⟨⟨TX4, 6, rfl⟩, Or.inl tw_499, tw_501, ts_17, tw_4, tw_502, by decide +kernel, by decide +kernel, by decide +kernel, by decide⟩
theorem tw_863 : Cond.methodLink RX4 57 yX4_lettersAhead ∈ lw_good := lw_in (List.mem_of_getElem? (i := 863) (by decide +kernel)) rfl
theorem tw_497 : Cond.instanceMethod yX4_lettersAhead ∈ lw_good := lw_in (List.mem_of_getElem? (i := 497) (by decide +kernel)) rfl
theorem ts_16 : Cond.selects RX4 yX4_lettersAhead yX4_lettersAhead ∈ lw_good := lw_ins (q := (yX4_lettersAhead, 6)) (List.mem_of_getElem? (i := 16) (by decide +kernel))
theorem tw_498 : Cond.code yX4_lettersAhead cX4_lettersAhead 3 (some .int) ∈ lw_good := lw_in (List.mem_of_getElem? (i := 498) (by decide +kernel)) rfl
theorem kV_X4_57 : me_V RX4 57 yX4_lettersAhead cX4_lettersAhead 3 (some .int) 4 2 := ⟨⟨TX4, 6, rfl⟩, Or.inl tw_863, tw_497, ts_16, tw_4, tw_498, by decide +kernel, by decide +kernel, by decide +kernel, by decide⟩
theorem ib_24 : (Int8.ofInt 24).toInt32 = (24 : Int32) := by decide
theorem tw_40 : Cond.fieldLink RX9 15 "BothEnds$Tape" "length" "I" ∈ lw_good := lw_in (List.mem_of_getElem? (i := 40) (by decide +kernel)) rfl
theorem inw9 : ∀ w ∈ u_ws RX9 TX9 2, w ∈ lw_good := by decide +kernel
theorem kF_X9_15 : me_F RX9 15 9 1 := ⟨RX9, TX9, 2, rfl, by decide, inw9, Or.inl tw_40⟩
theorem tw_36 : Cond.fieldLink RX9 9 "BothEnds$Tape" "bytes" "[I" ∈ lw_good := lw_in (List.mem_of_getElem? (i := 36) (by decide +kernel)) rfl
theorem kF_X9_9 : me_F RX9 9 9 0 := ⟨RX9, TX9, 2, rfl, by decide, inw9, Or.inl tw_36⟩
theorem is_255 : (Int16.ofInt 255).toInt32 = (255 : Int32) := by decide
theorem kG_X9_15 : me_G RX9 15 9 1 .int := ⟨RX9, TX9, 2, tyX9, rfl, by decide, inw9, tyX9_ok, nmX9, rfl, by decide +kernel, Or.inl tw_40⟩
theorem in_m8 (x : Int32) : x + Int32.ofInt (-8) = x + (-8) := by rw [show Int32.ofInt (-8) = (-8 : Int32) from by decide]
theorem pl_RX9 : plainName RX9 = true := by decide +kernel
theorem tw_730 : Cond.methodLinkNest RX9 19 yX11_isLetter "BothEnds" ∈ lw_nest := lw_inn (List.mem_of_getElem? (i := 730) (by decide +kernel)) rfl
theorem tw_1 : Cond.initialized RX11 ∈ lw_good := lw_in (List.mem_of_getElem? (i := 1) (by decide +kernel)) rfl
theorem tw_731 : Cond.static yX11_isLetter ∈ lw_good := lw_in (List.mem_of_getElem? (i := 731) (by decide +kernel)) rfl
theorem tw_732 : Cond.code yX11_isLetter cX11_isLetter 1 (some .boolean) ∈ lw_good := lw_in (List.mem_of_getElem? (i := 732) (by decide +kernel)) rfl
theorem kS_X9_19 : me_S RX9 19 yX11_isLetter cX11_isLetter 1 (some .boolean) 1 := ⟨Or.inr ⟨_, tw_730⟩, tw_731, tw_1, tw_732, by decide +kernel, by decide +kernel, by decide +kernel, by decide⟩
theorem ib_97 : (Int8.ofInt 97).toInt32 = (97 : Int32) := by decide
theorem ib_105 : (Int8.ofInt 105).toInt32 = (105 : Int32) := by decide
theorem pl_RX11 : plainName RX11 = true := by decide +kernel
theorem tw_733 : Cond.methodLink RX9 23 yX9_isParting ∈ lw_good := lw_in (List.mem_of_getElem? (i := 733) (by decide +kernel)) rfl
theorem tw_2 : Cond.initialized RX9 ∈ lw_good := lw_in (List.mem_of_getElem? (i := 2) (by decide +kernel)) rfl
theorem tw_735 : Cond.instanceMethod yX9_isParting ∈ lw_good := lw_in (List.mem_of_getElem? (i := 735) (by decide +kernel)) rfl
theorem ts_35 : Cond.selects RX9 yX9_isParting yX9_isParting ∈ lw_good := lw_ins (q := (yX9_isParting, 2)) (List.mem_of_getElem? (i := 35) (by decide +kernel))
theorem tw_736 : Cond.code yX9_isParting cX9_isParting 3 (some .boolean) ∈ lw_good := lw_in (List.mem_of_getElem? (i := 736) (by decide +kernel)) rfl
theorem kV_X9_23 : me_V RX9 23 yX9_isParting cX9_isParting 3 (some .boolean) 9 2 := ⟨⟨TX9, 2, rfl⟩, Or.inl tw_733, tw_735, ts_35, tw_2, tw_736, by decide +kernel, by decide +kernel, by decide +kernel, by decide⟩
theorem ib_124 : (Int8.ofInt 124).toInt32 = (124 : Int32) := by decide
theorem ic_m1 : Int32.ofInt (-1) = (-1 : Int32) := by decide
theorem tw_37 : Cond.fieldLinkNest RX10 31 "BothEnds$Tape" "bytes" "[I" "BothEnds" ∈ lw_nest := lw_inn (List.mem_of_getElem? (i := 37) (by decide +kernel)) rfl
theorem kF_X10_31 : me_F RX10 31 9 0 := ⟨RX9, TX9, 2, rfl, by decide, inw9, Or.inr ⟨_, tw_37⟩⟩
theorem tw_53 : Cond.fieldLink RX10 9 "BothEnds$Text" "signs" "[I" ∈ lw_good := lw_in (List.mem_of_getElem? (i := 53) (by decide +kernel)) rfl
theorem inw10 : ∀ w ∈ u_ws RX10 TX10 8, w ∈ lw_good := by decide +kernel
theorem kF_X10_9 : me_F RX10 9 10 0 := ⟨RX10, TX10, 8, rfl, by decide, inw10, Or.inl tw_53⟩
theorem tw_68 : Cond.fieldLink RX10 27 "BothEnds$Text" "length" "I" ∈ lw_good := lw_in (List.mem_of_getElem? (i := 68) (by decide +kernel)) rfl
theorem kG_X10_27 : me_G RX10 27 10 5 .int := ⟨RX10, TX10, 8, tyX10, rfl, by decide, inw10, tyX10_ok, nmX10, rfl, by decide +kernel, Or.inl tw_68⟩
theorem pl_RX10 : plainName RX10 = true := by decide +kernel
theorem tw_432 : Cond.methodLink RX10 36 yX10_mirror ∈ lw_good := lw_in (List.mem_of_getElem? (i := 432) (by decide +kernel)) rfl
theorem tw_3 : Cond.initialized RX10 ∈ lw_good := lw_in (List.mem_of_getElem? (i := 3) (by decide +kernel)) rfl
theorem tw_434 : Cond.instanceMethod yX10_mirror ∈ lw_good := lw_in (List.mem_of_getElem? (i := 434) (by decide +kernel)) rfl
theorem ts_2 : Cond.selects RX10 yX10_mirror yX10_mirror ∈ lw_good := lw_ins (q := (yX10_mirror, 8)) (List.mem_of_getElem? (i := 2) (by decide +kernel))
theorem tw_435 : Cond.code yX10_mirror cX10_mirror 2 none ∈ lw_good := lw_in (List.mem_of_getElem? (i := 435) (by decide +kernel)) rfl
theorem kV_X10_36 : me_V RX10 36 yX10_mirror cX10_mirror 2 none 10 0 := ⟨⟨TX10, 8, rfl⟩, Or.inl tw_432, tw_434, ts_2, tw_3, tw_435, by decide +kernel, by decide +kernel, by decide +kernel, by decide⟩
theorem kF_X10_27 : me_F RX10 27 10 5 := ⟨RX10, TX10, 8, rfl, by decide, inw10, Or.inl tw_68⟩
theorem tw_57 : Cond.fieldLink RX10 15 "BothEnds$Text" "mirrored" "[I" ∈ lw_good := lw_in (List.mem_of_getElem? (i := 57) (by decide +kernel)) rfl
theorem kF_X10_15 : me_F RX10 15 10 1 := ⟨RX10, TX10, 8, rfl, by decide, inw10, Or.inl tw_57⟩
theorem tw_436 : Cond.methodLink RX10 39 yX10_gatherLetters ∈ lw_good := lw_in (List.mem_of_getElem? (i := 436) (by decide +kernel)) rfl
theorem tw_438 : Cond.instanceMethod yX10_gatherLetters ∈ lw_good := lw_in (List.mem_of_getElem? (i := 438) (by decide +kernel)) rfl
theorem ts_3 : Cond.selects RX10 yX10_gatherLetters yX10_gatherLetters ∈ lw_good := lw_ins (q := (yX10_gatherLetters, 8)) (List.mem_of_getElem? (i := 3) (by decide +kernel))
theorem tw_439 : Cond.code yX10_gatherLetters cX10_gatherLetters 2 none ∈ lw_good := lw_in (List.mem_of_getElem? (i := 439) (by decide +kernel)) rfl
theorem kV_X10_39 : me_V RX10 39 yX10_gatherLetters cX10_gatherLetters 2 none 10 0 := ⟨⟨TX10, 8, rfl⟩, Or.inl tw_436, tw_438, ts_3, tw_3, tw_439, by decide +kernel, by decide +kernel, by decide +kernel, by decide⟩
theorem tw_76 : Cond.fieldLink RX10 48 "BothEnds$Text" "letterBits" "I" ∈ lw_good := lw_in (List.mem_of_getElem? (i := 76) (by decide +kernel)) rfl
theorem kG_X10_48 : me_G RX10 48 10 7 .int := ⟨RX10, TX10, 8, tyX10, rfl, by decide, inw10, tyX10_ok, nmX10, rfl, by decide +kernel, Or.inl tw_76⟩
theorem kF_X10_48 : me_F RX10 48 10 7 := ⟨RX10, TX10, 8, rfl, by decide, inw10, Or.inl tw_76⟩
theorem tw_440 : Cond.methodLink RX10 42 yX10_partDocuments ∈ lw_good := lw_in (List.mem_of_getElem? (i := 440) (by decide +kernel)) rfl
theorem tw_442 : Cond.instanceMethod yX10_partDocuments ∈ lw_good := lw_in (List.mem_of_getElem? (i := 442) (by decide +kernel)) rfl
theorem ts_4 : Cond.selects RX10 yX10_partDocuments yX10_partDocuments ∈ lw_good := lw_ins (q := (yX10_partDocuments, 8)) (List.mem_of_getElem? (i := 4) (by decide +kernel))
theorem tw_443 : Cond.code yX10_partDocuments cX10_partDocuments 3 none ∈ lw_good := lw_in (List.mem_of_getElem? (i := 443) (by decide +kernel)) rfl
theorem kV_X10_42 : me_V RX10 42 yX10_partDocuments cX10_partDocuments 3 none 10 0 := ⟨⟨TX10, 8, rfl⟩, Or.inl tw_440, tw_442, ts_4, tw_3, tw_443, by decide +kernel, by decide +kernel, by decide +kernel, by decide⟩
theorem tw_65 : Cond.fieldLink RX10 24 "BothEnds$Text" "firstPlaces" "[I" ∈ lw_good := lw_in (List.mem_of_getElem? (i := 65) (by decide +kernel)) rfl
theorem kF_X10_24 : me_F RX10 24 10 4 := ⟨RX10, TX10, 8, rfl, by decide, inw10, Or.inl tw_65⟩
theorem tw_63 : Cond.fieldLink RX10 21 "BothEnds$Text" "documentOf" "[I" ∈ lw_good := lw_in (List.mem_of_getElem? (i := 63) (by decide +kernel)) rfl
theorem kF_X10_21 : me_F RX10 21 10 3 := ⟨RX10, TX10, 8, rfl, by decide, inw10, Or.inl tw_63⟩
theorem tw_73 : Cond.fieldLink RX10 51 "BothEnds$Text" "documents" "I" ∈ lw_good := lw_in (List.mem_of_getElem? (i := 73) (by decide +kernel)) rfl
theorem kG_X10_51 : me_G RX10 51 10 6 .int := ⟨RX10, TX10, 8, tyX10, rfl, by decide, inw10, tyX10_ok, nmX10, rfl, by decide +kernel, Or.inl tw_73⟩
theorem tw_444 : Cond.methodLink RX10 45 yX10_measureLetters ∈ lw_good := lw_in (List.mem_of_getElem? (i := 444) (by decide +kernel)) rfl
theorem tw_446 : Cond.instanceMethod yX10_measureLetters ∈ lw_good := lw_in (List.mem_of_getElem? (i := 446) (by decide +kernel)) rfl
theorem ts_5 : Cond.selects RX10 yX10_measureLetters yX10_measureLetters ∈ lw_good := lw_ins (q := (yX10_measureLetters, 8)) (List.mem_of_getElem? (i := 5) (by decide +kernel))
theorem tw_447 : Cond.code yX10_measureLetters cX10_measureLetters 2 none ∈ lw_good := lw_in (List.mem_of_getElem? (i := 447) (by decide +kernel)) rfl
theorem kV_X10_45 : me_V RX10 45 yX10_measureLetters cX10_measureLetters 2 none 10 0 := ⟨⟨TX10, 8, rfl⟩, Or.inl tw_444, tw_446, ts_5, tw_3, tw_447, by decide +kernel, by decide +kernel, by decide +kernel, by decide⟩
theorem tw_59 : Cond.fieldLink RX10 18 "BothEnds$Text" "lettersFrom" "[I" ∈ lw_good := lw_in (List.mem_of_getElem? (i := 59) (by decide +kernel)) rfl
theorem kF_X10_18 : me_F RX10 18 10 2 := ⟨RX10, TX10, 8, rfl, by decide, inw10, Or.inl tw_59⟩
theorem ib_40 : (Int8.ofInt 40).toInt32 = (40 : Int32) := by decide
theorem tw_165 : Cond.fieldLink RX0 27 "BothEnds$Cursor" "first" "I" ∈ lw_good := lw_in (List.mem_of_getElem? (i := 165) (by decide +kernel)) rfl
theorem inw0 : ∀ w ∈ u_ws RX0 TX0 5, w ∈ lw_good := by decide +kernel
theorem kG_X0_27 : me_G RX0 27 0 3 .int := ⟨RX0, TX0, 5, tyX0, rfl, by decide, inw0, tyX0_ok, nmX0, rfl, by decide +kernel, Or.inl tw_165⟩
theorem tw_166 : Cond.fieldLink RX0 31 "BothEnds$Cursor" "length" "I" ∈ lw_good := lw_in (List.mem_of_getElem? (i := 166) (by decide +kernel)) rfl
theorem kG_X0_31 : me_G RX0 31 0 4 .int := ⟨RX0, TX0, 5, tyX0, rfl, by decide, inw0, tyX0_ok, nmX0, rfl, by decide +kernel, Or.inl tw_166⟩
theorem tw_162 : Cond.fieldLink RX0 23 "BothEnds$Cursor" "spans" "LBothEnds$Spans;" ∈ lw_good := lw_in (List.mem_of_getElem? (i := 162) (by decide +kernel)) rfl
theorem kF_X0_23 : me_F RX0 23 0 0 := ⟨RX0, TX0, 5, rfl, by decide, inw0, Or.inl tw_162⟩
theorem tw_514 : Cond.methodLinkNest RX0 34 yX7_start "BothEnds" ∈ lw_nest := lw_inn (List.mem_of_getElem? (i := 514) (by decide +kernel)) rfl
theorem tw_6 : Cond.initialized RX7 ∈ lw_good := lw_in (List.mem_of_getElem? (i := 6) (by decide +kernel)) rfl
theorem tw_516 : Cond.instanceMethod yX7_start ∈ lw_good := lw_in (List.mem_of_getElem? (i := 516) (by decide +kernel)) rfl
theorem ts_20 : Cond.selects RX7 yX7_start yX7_start ∈ lw_good := lw_ins (q := (yX7_start, 5)) (List.mem_of_getElem? (i := 20) (by decide +kernel))
theorem tw_517 : Cond.code yX7_start cX7_start 1 none ∈ lw_good := lw_in (List.mem_of_getElem? (i := 517) (by decide +kernel)) rfl
theorem kV_X0_34 : me_V RX0 34 yX7_start cX7_start 1 none 7 0 := ⟨⟨TX7, 5, rfl⟩, Or.inr ⟨_, tw_514⟩, tw_516, ts_20, tw_6, tw_517, by decide +kernel, by decide +kernel, by decide +kernel, by decide⟩
theorem tw_143 : Cond.fieldLink RX7 9 "BothEnds$Spans" "lowForth" "[I" ∈ lw_good := lw_in (List.mem_of_getElem? (i := 143) (by decide +kernel)) rfl
theorem inw7 : ∀ w ∈ u_ws RX7 TX7 5, w ∈ lw_good := by decide +kernel
theorem kF_X7_9 : me_F RX7 9 7 2 := ⟨RX7, TX7, 5, rfl, by decide, inw7, Or.inl tw_143⟩
theorem tw_146 : Cond.fieldLink RX7 15 "BothEnds$Spans" "lowBack" "[I" ∈ lw_good := lw_in (List.mem_of_getElem? (i := 146) (by decide +kernel)) rfl
theorem kF_X7_15 : me_F RX7 15 7 3 := ⟨RX7, TX7, 5, rfl, by decide, inw7, Or.inl tw_146⟩
theorem tw_148 : Cond.fieldLink RX7 18 "BothEnds$Spans" "sizes" "[I" ∈ lw_good := lw_in (List.mem_of_getElem? (i := 148) (by decide +kernel)) rfl
theorem kF_X7_18 : me_F RX7 18 7 4 := ⟨RX7, TX7, 5, rfl, by decide, inw7, Or.inl tw_148⟩
theorem tw_141 : Cond.fieldLink RX7 21 "BothEnds$Spans" "forth" "LBothEnds$Rows;" ∈ lw_good := lw_in (List.mem_of_getElem? (i := 141) (by decide +kernel)) rfl
theorem kF_X7_21 : me_F RX7 21 7 0 := ⟨RX7, TX7, 5, rfl, by decide, inw7, Or.inl tw_141⟩
theorem tw_115 : Cond.fieldLinkNest RX7 28 "BothEnds$Rows" "length" "I" "BothEnds" ∈ lw_nest := lw_inn (List.mem_of_getElem? (i := 115) (by decide +kernel)) rfl
theorem kF_X7_28 : me_F RX7 28 4 5 := ⟨RX4, TX4, 6, rfl, by decide, inw4, Or.inr ⟨_, tw_115⟩⟩
theorem pl_RX7 : plainName RX7 = true := by decide +kernel
theorem pl_RX0 : plainName RX0 = true := by decide +kernel
theorem kF_X0_31 : me_F RX0 31 0 4 := ⟨RX0, TX0, 5, rfl, by decide, inw0, Or.inl tw_166⟩
theorem tw_855 : Cond.methodLinkNest RX0 37 yX7_extend "BothEnds" ∈ lw_nest := lw_inn (List.mem_of_getElem? (i := 855) (by decide +kernel)) rfl
theorem tw_857 : Cond.instanceMethod yX7_extend ∈ lw_good := lw_in (List.mem_of_getElem? (i := 857) (by decide +kernel)) rfl
theorem ts_53 : Cond.selects RX7 yX7_extend yX7_extend ∈ lw_good := lw_ins (q := (yX7_extend, 5)) (List.mem_of_getElem? (i := 53) (by decide +kernel))
theorem tw_858 : Cond.code yX7_extend cX7_extend 10 (some .int) ∈ lw_good := lw_in (List.mem_of_getElem? (i := 858) (by decide +kernel)) rfl
theorem kV_X0_37 : me_V RX0 37 yX7_extend cX7_extend 10 (some .int) 7 3 := ⟨⟨TX7, 5, rfl⟩, Or.inr ⟨_, tw_855⟩, tw_857, ts_53, tw_6, tw_858, by decide +kernel, by decide +kernel, by decide +kernel, by decide⟩
theorem tw_142 : Cond.fieldLink RX7 25 "BothEnds$Spans" "back" "LBothEnds$Rows;" ∈ lw_good := lw_in (List.mem_of_getElem? (i := 142) (by decide +kernel)) rfl
theorem kF_X7_25 : me_F RX7 25 7 1 := ⟨RX7, TX7, 5, rfl, by decide, inw7, Or.inl tw_142⟩
theorem tw_859 : Cond.methodLinkNest RX7 34 yX4_rowWith "BothEnds" ∈ lw_nest := lw_inn (List.mem_of_getElem? (i := 859) (by decide +kernel)) rfl
theorem tw_861 : Cond.instanceMethod yX4_rowWith ∈ lw_good := lw_in (List.mem_of_getElem? (i := 861) (by decide +kernel)) rfl
theorem ts_54 : Cond.selects RX4 yX4_rowWith yX4_rowWith ∈ lw_good := lw_ins (q := (yX4_rowWith, 6)) (List.mem_of_getElem? (i := 54) (by decide +kernel))
theorem tw_862 : Cond.code yX4_rowWith cX4_rowWith 3 (some .int) ∈ lw_good := lw_in (List.mem_of_getElem? (i := 862) (by decide +kernel)) rfl
theorem kV_X7_34 : me_V RX7 34 yX4_rowWith cX4_rowWith 3 (some .int) 4 2 := ⟨⟨TX4, 6, rfl⟩, Or.inr ⟨_, tw_859⟩, tw_861, ts_54, tw_4, tw_862, by decide +kernel, by decide +kernel, by decide +kernel, by decide⟩
theorem tw_864 : Cond.methodLinkNest RX7 38 yX4_smallerAhead "BothEnds" ∈ lw_nest := lw_inn (List.mem_of_getElem? (i := 864) (by decide +kernel)) rfl
theorem kV_X7_38 : me_V RX7 38 yX4_smallerAhead cX4_smallerAhead 3 (some .int) 4 2 := ⟨⟨TX4, 6, rfl⟩, Or.inr ⟨_, tw_864⟩, tw_501, ts_17, tw_4, tw_502, by decide +kernel, by decide +kernel, by decide +kernel, by decide⟩
theorem tw_164 : Cond.fieldLink RX0 15 "BothEnds$Cursor" "letters" "[I" ∈ lw_good := lw_in (List.mem_of_getElem? (i := 164) (by decide +kernel)) rfl
theorem kF_X0_15 : me_F RX0 15 0 2 := ⟨RX0, TX0, 5, rfl, by decide, inw0, Or.inl tw_164⟩
theorem kF_X0_27 : me_F RX0 27 0 3 := ⟨RX0, TX0, 5, rfl, by decide, inw0, Or.inl tw_165⟩
theorem tw_163 : Cond.fieldLink RX0 9 "BothEnds$Cursor" "sides" "[I" ∈ lw_good := lw_in (List.mem_of_getElem? (i := 163) (by decide +kernel)) rfl
theorem kF_X0_9 : me_F RX0 9 0 1 := ⟨RX0, TX0, 5, rfl, by decide, inw0, Or.inl tw_163⟩
theorem tw_587 : Cond.methodLink RX0 41 yX0_size ∈ lw_good := lw_in (List.mem_of_getElem? (i := 587) (by decide +kernel)) rfl
theorem tw_5 : Cond.initialized RX0 ∈ lw_good := lw_in (List.mem_of_getElem? (i := 5) (by decide +kernel)) rfl
theorem tw_589 : Cond.instanceMethod yX0_size ∈ lw_good := lw_in (List.mem_of_getElem? (i := 589) (by decide +kernel)) rfl
theorem ts_23 : Cond.selects RX0 yX0_size yX0_size ∈ lw_good := lw_ins (q := (yX0_size, 5)) (List.mem_of_getElem? (i := 23) (by decide +kernel))
theorem tw_590 : Cond.code yX0_size cX0_size 1 (some .int) ∈ lw_good := lw_in (List.mem_of_getElem? (i := 590) (by decide +kernel)) rfl
theorem kV_X0_41 : me_V RX0 41 yX0_size cX0_size 1 (some .int) 0 0 := ⟨⟨TX0, 5, rfl⟩, Or.inl tw_587, tw_589, ts_23, tw_5, tw_590, by decide +kernel, by decide +kernel, by decide +kernel, by decide⟩
theorem tw_150 : Cond.fieldLinkNest RX0 51 "BothEnds$Spans" "sizes" "[I" "BothEnds" ∈ lw_nest := lw_inn (List.mem_of_getElem? (i := 150) (by decide +kernel)) rfl
theorem kF_X0_51 : me_F RX0 51 7 4 := ⟨RX7, TX7, 5, rfl, by decide, inw7, Or.inr ⟨_, tw_150⟩⟩
theorem tw_144 : Cond.fieldLinkNest RX0 45 "BothEnds$Spans" "lowForth" "[I" "BothEnds" ∈ lw_nest := lw_inn (List.mem_of_getElem? (i := 144) (by decide +kernel)) rfl
theorem kF_X0_45 : me_F RX0 45 7 2 := ⟨RX7, TX7, 5, rfl, by decide, inw7, Or.inr ⟨_, tw_144⟩⟩
theorem tw_147 : Cond.fieldLinkNest RX0 48 "BothEnds$Spans" "lowBack" "[I" "BothEnds" ∈ lw_nest := lw_inn (List.mem_of_getElem? (i := 147) (by decide +kernel)) rfl
theorem kF_X0_48 : me_F RX0 48 7 3 := ⟨RX7, TX7, 5, rfl, by decide, inw7, Or.inr ⟨_, tw_147⟩⟩
theorem tw_193 : Cond.fieldLink RX2 52 "BothEnds$Repeats" "maximals" "I" ∈ lw_good := lw_in (List.mem_of_getElem? (i := 193) (by decide +kernel)) rfl
theorem inw2 : ∀ w ∈ u_ws RX2 TX2 6, w ∈ lw_good := by decide +kernel
theorem kG_X2_52 : me_G RX2 52 2 5 .int := ⟨RX2, TX2, 6, tyX2, rfl, by decide, inw2, tyX2_ok, nmX2, rfl, by decide +kernel, Or.inl tw_193⟩
theorem tw_185 : Cond.fieldLink RX2 21 "BothEnds$Repeats" "text" "LBothEnds$Text;" ∈ lw_good := lw_in (List.mem_of_getElem? (i := 185) (by decide +kernel)) rfl
theorem kF_X2_21 : me_F RX2 21 2 0 := ⟨RX2, TX2, 6, rfl, by decide, inw2, Or.inl tw_185⟩
theorem tw_70 : Cond.fieldLinkNest RX2 29 "BothEnds$Text" "length" "I" "BothEnds" ∈ lw_nest := lw_inn (List.mem_of_getElem? (i := 70) (by decide +kernel)) rfl
theorem kF_X2_29 : me_F RX2 29 10 5 := ⟨RX10, TX10, 8, rfl, by decide, inw10, Or.inr ⟨_, tw_70⟩⟩
theorem kF_X2_52 : me_F RX2 52 2 5 := ⟨RX2, TX2, 6, rfl, by decide, inw2, Or.inl tw_193⟩
theorem tw_479 : Cond.methodLink RX2 55 yX2_listFrom ∈ lw_good := lw_in (List.mem_of_getElem? (i := 479) (by decide +kernel)) rfl
theorem tw_7 : Cond.initialized RX2 ∈ lw_good := lw_in (List.mem_of_getElem? (i := 7) (by decide +kernel)) rfl
theorem tw_481 : Cond.instanceMethod yX2_listFrom ∈ lw_good := lw_in (List.mem_of_getElem? (i := 481) (by decide +kernel)) rfl
theorem ts_13 : Cond.selects RX2 yX2_listFrom yX2_listFrom ∈ lw_good := lw_ins (q := (yX2_listFrom, 6)) (List.mem_of_getElem? (i := 13) (by decide +kernel))
theorem tw_482 : Cond.code yX2_listFrom cX2_listFrom 6 none ∈ lw_good := lw_in (List.mem_of_getElem? (i := 482) (by decide +kernel)) rfl
theorem kV_X2_55 : me_V RX2 55 yX2_listFrom cX2_listFrom 6 none 2 1 := ⟨⟨TX2, 6, rfl⟩, Or.inl tw_479, tw_481, ts_13, tw_7, tw_482, by decide +kernel, by decide +kernel, by decide +kernel, by decide⟩
theorem tw_483 : Cond.methodLink RX2 62 yX2_lettersAlike ∈ lw_good := lw_in (List.mem_of_getElem? (i := 483) (by decide +kernel)) rfl
theorem tw_485 : Cond.instanceMethod yX2_lettersAlike ∈ lw_good := lw_in (List.mem_of_getElem? (i := 485) (by decide +kernel)) rfl
theorem ts_14 : Cond.selects RX2 yX2_lettersAlike yX2_lettersAlike ∈ lw_good := lw_ins (q := (yX2_lettersAlike, 6)) (List.mem_of_getElem? (i := 14) (by decide +kernel))
theorem tw_486 : Cond.code yX2_lettersAlike cX2_lettersAlike 2 (some .int) ∈ lw_good := lw_in (List.mem_of_getElem? (i := 486) (by decide +kernel)) rfl
theorem kV_X2_62 : me_V RX2 62 yX2_lettersAlike cX2_lettersAlike 2 (some .int) 2 1 := ⟨⟨TX2, 6, rfl⟩, Or.inl tw_483, tw_485, ts_14, tw_7, tw_486, by decide +kernel, by decide +kernel, by decide +kernel, by decide⟩
theorem tw_186 : Cond.fieldLink RX2 25 "BothEnds$Repeats" "forth" "LBothEnds$Rows;" ∈ lw_good := lw_in (List.mem_of_getElem? (i := 186) (by decide +kernel)) rfl
theorem kF_X2_25 : me_F RX2 25 2 1 := ⟨RX2, TX2, 6, rfl, by decide, inw2, Or.inl tw_186⟩
theorem tw_111 : Cond.fieldLinkNest RX2 35 "BothEnds$Rows" "alike" "[I" "BothEnds" ∈ lw_nest := lw_inn (List.mem_of_getElem? (i := 111) (by decide +kernel)) rfl
theorem kF_X2_35 : me_F RX2 35 4 3 := ⟨RX4, TX4, 6, rfl, by decide, inw4, Or.inr ⟨_, tw_111⟩⟩
theorem tw_60 : Cond.fieldLinkNest RX2 40 "BothEnds$Text" "lettersFrom" "[I" "BothEnds" ∈ lw_nest := lw_inn (List.mem_of_getElem? (i := 60) (by decide +kernel)) rfl
theorem kF_X2_40 : me_F RX2 40 10 2 := ⟨RX10, TX10, 8, rfl, by decide, inw10, Or.inr ⟨_, tw_60⟩⟩
theorem tw_104 : Cond.fieldLinkNest RX2 43 "BothEnds$Rows" "places" "[I" "BothEnds" ∈ lw_nest := lw_inn (List.mem_of_getElem? (i := 104) (by decide +kernel)) rfl
theorem kF_X2_43 : me_F RX2 43 4 1 := ⟨RX4, TX4, 6, rfl, by decide, inw4, Or.inr ⟨_, tw_104⟩⟩
theorem tw_487 : Cond.methodLink RX2 46 yJ9_min_7cf53 ∈ lw_good := lw_in (List.mem_of_getElem? (i := 487) (by decide +kernel)) rfl
theorem tw_488 : Cond.static yJ9_min_7cf53 ∈ lw_good := lw_in (List.mem_of_getElem? (i := 488) (by decide +kernel)) rfl
theorem tw_489 : Cond.code yJ9_min_7cf53 cJ9_min_7cf53 2 (some .int) ∈ lw_good := lw_in (List.mem_of_getElem? (i := 489) (by decide +kernel)) rfl
theorem kS_X2_46 : me_S RX2 46 yJ9_min_7cf53 cJ9_min_7cf53 2 (some .int) 2 := ⟨Or.inl tw_487, tw_488, tw_13, tw_489, by decide +kernel, by decide +kernel, by decide +kernel, by decide⟩
theorem plf_yJ9_min_7cf53 : plainFor yJ9_min_7cf53 = true := by decide +kernel
theorem pl_RX2 : plainName RX2 = true := by decide +kernel
theorem tw_490 : Cond.methodLink RX2 66 yX2_addIfMaximal ∈ lw_good := lw_in (List.mem_of_getElem? (i := 490) (by decide +kernel)) rfl
theorem tw_492 : Cond.instanceMethod yX2_addIfMaximal ∈ lw_good := lw_in (List.mem_of_getElem? (i := 492) (by decide +kernel)) rfl
theorem ts_15 : Cond.selects RX2 yX2_addIfMaximal yX2_addIfMaximal ∈ lw_good := lw_ins (q := (yX2_addIfMaximal, 6)) (List.mem_of_getElem? (i := 15) (by decide +kernel))
theorem tw_493 : Cond.code yX2_addIfMaximal cX2_addIfMaximal 6 none ∈ lw_good := lw_in (List.mem_of_getElem? (i := 493) (by decide +kernel)) rfl
theorem kV_X2_66 : me_V RX2 66 yX2_addIfMaximal cX2_addIfMaximal 6 none 2 3 := ⟨⟨TX2, 6, rfl⟩, Or.inl tw_490, tw_492, ts_15, tw_7, tw_493, by decide +kernel, by decide +kernel, by decide +kernel, by decide⟩
theorem tw_494 : Cond.methodLinkNest RX2 70 yX4_before "BothEnds" ∈ lw_nest := lw_inn (List.mem_of_getElem? (i := 494) (by decide +kernel)) rfl
theorem kV_X2_70 : me_V RX2 70 yX4_before cX4_before 3 (some .int) 4 1 := ⟨⟨TX4, 6, rfl⟩, Or.inr ⟨_, tw_494⟩, tw_473, ts_11, tw_4, tw_474, by decide +kernel, by decide +kernel, by decide +kernel, by decide⟩
theorem tw_495 : Cond.methodLinkNest RX2 73 yX4_lettersAhead "BothEnds" ∈ lw_nest := lw_inn (List.mem_of_getElem? (i := 495) (by decide +kernel)) rfl
theorem kV_X2_73 : me_V RX2 73 yX4_lettersAhead cX4_lettersAhead 3 (some .int) 4 2 := ⟨⟨TX4, 6, rfl⟩, Or.inr ⟨_, tw_495⟩, tw_497, ts_16, tw_4, tw_498, by decide +kernel, by decide +kernel, by decide +kernel, by decide⟩
theorem is_240 : (Int16.ofInt 240).toInt32 = (240 : Int32) := by decide
theorem tw_187 : Cond.fieldLink RX2 9 "BothEnds$Repeats" "lengths" "[I" ∈ lw_good := lw_in (List.mem_of_getElem? (i := 187) (by decide +kernel)) rfl
theorem kF_X2_9 : me_F RX2 9 2 2 := ⟨RX2, TX2, 6, rfl, by decide, inw2, Or.inl tw_187⟩
theorem tw_189 : Cond.fieldLink RX2 15 "BothEnds$Repeats" "lows" "[I" ∈ lw_good := lw_in (List.mem_of_getElem? (i := 189) (by decide +kernel)) rfl
theorem kF_X2_15 : me_F RX2 15 2 3 := ⟨RX2, TX2, 6, rfl, by decide, inw2, Or.inl tw_189⟩
theorem tw_191 : Cond.fieldLink RX2 18 "BothEnds$Repeats" "sizes" "[I" ∈ lw_good := lw_in (List.mem_of_getElem? (i := 191) (by decide +kernel)) rfl
theorem kF_X2_18 : me_F RX2 18 2 4 := ⟨RX2, TX2, 6, rfl, by decide, inw2, Or.inl tw_191⟩
theorem tw_503 : Cond.methodLink RX2 59 yX2_turnRound ∈ lw_good := lw_in (List.mem_of_getElem? (i := 503) (by decide +kernel)) rfl
theorem tw_505 : Cond.instanceMethod yX2_turnRound ∈ lw_good := lw_in (List.mem_of_getElem? (i := 505) (by decide +kernel)) rfl
theorem ts_18 : Cond.selects RX2 yX2_turnRound yX2_turnRound ∈ lw_good := lw_ins (q := (yX2_turnRound, 6)) (List.mem_of_getElem? (i := 18) (by decide +kernel))
theorem tw_506 : Cond.code yX2_turnRound cX2_turnRound 4 none ∈ lw_good := lw_in (List.mem_of_getElem? (i := 506) (by decide +kernel)) rfl
theorem kV_X2_59 : me_V RX2 59 yX2_turnRound cX2_turnRound 4 none 2 1 := ⟨⟨TX2, 6, rfl⟩, Or.inl tw_503, tw_505, ts_18, tw_7, tw_506, by decide +kernel, by decide +kernel, by decide +kernel, by decide⟩
theorem tw_507 : Cond.methodLink RX2 76 yX2_exchange ∈ lw_good := lw_in (List.mem_of_getElem? (i := 507) (by decide +kernel)) rfl
theorem tw_508 : Cond.static yX2_exchange ∈ lw_good := lw_in (List.mem_of_getElem? (i := 508) (by decide +kernel)) rfl
theorem tw_509 : Cond.code yX2_exchange cX2_exchange 4 none ∈ lw_good := lw_in (List.mem_of_getElem? (i := 509) (by decide +kernel)) rfl
theorem kS_X2_76 : me_S RX2 76 yX2_exchange cX2_exchange 4 none 3 := ⟨Or.inl tw_507, tw_508, tw_7, tw_509, by decide +kernel, by decide +kernel, by decide +kernel, by decide⟩
theorem tw_1222 : Cond.methodLink RX2 80 yJ9_max_7cf53 ∈ lw_good := lw_in (List.mem_of_getElem? (i := 1222) (by decide +kernel)) rfl
theorem kS_X2_80 : me_S RX2 80 yJ9_max_7cf53 cJ9_max_7cf53 2 (some .int) 2 := ⟨Or.inl tw_1222, tw_465, tw_13, tw_466, by decide +kernel, by decide +kernel, by decide +kernel, by decide⟩
theorem tw_1227 : Cond.methodLink RX2 86 yX2_lettersShared ∈ lw_good := lw_in (List.mem_of_getElem? (i := 1227) (by decide +kernel)) rfl
theorem tw_1229 : Cond.instanceMethod yX2_lettersShared ∈ lw_good := lw_in (List.mem_of_getElem? (i := 1229) (by decide +kernel)) rfl
theorem ts_96 : Cond.selects RX2 yX2_lettersShared yX2_lettersShared ∈ lw_good := lw_ins (q := (yX2_lettersShared, 6)) (List.mem_of_getElem? (i := 96) (by decide +kernel))
theorem tw_1230 : Cond.code yX2_lettersShared cX2_lettersShared 3 (some .int) ∈ lw_good := lw_in (List.mem_of_getElem? (i := 1230) (by decide +kernel)) rfl
theorem kV_X2_86 : me_V RX2 86 yX2_lettersShared cX2_lettersShared 3 (some .int) 2 1 := ⟨⟨TX2, 6, rfl⟩, Or.inl tw_1227, tw_1229, ts_96, tw_7, tw_1230, by decide +kernel, by decide +kernel, by decide +kernel, by decide⟩
theorem tw_108 : Cond.fieldLinkNest RX2 83 "BothEnds$Rows" "rowOfPlace" "[I" "BothEnds" ∈ lw_nest := lw_inn (List.mem_of_getElem? (i := 108) (by decide +kernel)) rfl
theorem kF_X2_83 : me_F RX2 83 4 2 := ⟨RX4, TX4, 6, rfl, by decide, inw4, Or.inr ⟨_, tw_108⟩⟩
theorem tw_1261 : Cond.methodLink RX2 89 yX2_lettersAlone ∈ lw_good := lw_in (List.mem_of_getElem? (i := 1261) (by decide +kernel)) rfl
theorem tw_1244 : Cond.instanceMethod yX2_lettersAlone ∈ lw_good := lw_in (List.mem_of_getElem? (i := 1244) (by decide +kernel)) rfl
theorem ts_98 : Cond.selects RX2 yX2_lettersAlone yX2_lettersAlone ∈ lw_good := lw_ins (q := (yX2_lettersAlone, 6)) (List.mem_of_getElem? (i := 98) (by decide +kernel))
theorem tw_1245 : Cond.code yX2_lettersAlone cX2_lettersAlone 3 (some .int) ∈ lw_good := lw_in (List.mem_of_getElem? (i := 1245) (by decide +kernel)) rfl
theorem kV_X2_89 : me_V RX2 89 yX2_lettersAlone cX2_lettersAlone 3 (some .int) 2 1 := ⟨⟨TX2, 6, rfl⟩, Or.inl tw_1261, tw_1244, ts_98, tw_7, tw_1245, by decide +kernel, by decide +kernel, by decide +kernel, by decide⟩
theorem is_241 : (Int16.ofInt 241).toInt32 = (241 : Int32) := by decide
theorem tw_1257 : Cond.methodLink RX2 92 yX2_lettersAround ∈ lw_good := lw_in (List.mem_of_getElem? (i := 1257) (by decide +kernel)) rfl
theorem tw_1259 : Cond.instanceMethod yX2_lettersAround ∈ lw_good := lw_in (List.mem_of_getElem? (i := 1259) (by decide +kernel)) rfl
theorem ts_100 : Cond.selects RX2 yX2_lettersAround yX2_lettersAround ∈ lw_good := lw_ins (q := (yX2_lettersAround, 6)) (List.mem_of_getElem? (i := 100) (by decide +kernel))
theorem tw_1260 : Cond.code yX2_lettersAround cX2_lettersAround 5 (some .int) ∈ lw_good := lw_in (List.mem_of_getElem? (i := 1260) (by decide +kernel)) rfl
theorem kV_X2_92 : me_V RX2 92 yX2_lettersAround cX2_lettersAround 5 (some .int) 2 2 := ⟨⟨TX2, 6, rfl⟩, Or.inl tw_1257, tw_1259, ts_100, tw_7, tw_1260, by decide +kernel, by decide +kernel, by decide +kernel, by decide⟩
theorem tw_1147 : Cond.methodLink RX8 40 yX8_beginReading ∈ lw_good := lw_in (List.mem_of_getElem? (i := 1147) (by decide +kernel)) rfl
theorem tw_8 : Cond.initialized RX8 ∈ lw_good := lw_in (List.mem_of_getElem? (i := 8) (by decide +kernel)) rfl
theorem tw_1149 : Cond.instanceMethod yX8_beginReading ∈ lw_good := lw_in (List.mem_of_getElem? (i := 1149) (by decide +kernel)) rfl
theorem ts_86 : Cond.selects RX8 yX8_beginReading yX8_beginReading ∈ lw_good := lw_ins (q := (yX8_beginReading, 9)) (List.mem_of_getElem? (i := 86) (by decide +kernel))
theorem tw_1150 : Cond.code yX8_beginReading cX8_beginReading 2 none ∈ lw_good := lw_in (List.mem_of_getElem? (i := 1150) (by decide +kernel)) rfl
theorem kV_X8_40 : me_V RX8 40 yX8_beginReading cX8_beginReading 2 none 8 0 := ⟨⟨TX8, 9, rfl⟩, Or.inl tw_1147, tw_1149, ts_86, tw_8, tw_1150, by decide +kernel, by decide +kernel, by decide +kernel, by decide⟩
theorem tw_213 : Cond.fieldLink RX8 27 "BothEnds$Stretches" "text" "LBothEnds$Text;" ∈ lw_good := lw_in (List.mem_of_getElem? (i := 213) (by decide +kernel)) rfl
theorem inw8 : ∀ w ∈ u_ws RX8 TX8 9, w ∈ lw_good := by decide +kernel
theorem kF_X8_27 : me_F RX8 27 8 0 := ⟨RX8, TX8, 9, rfl, by decide, inw8, Or.inl tw_213⟩
theorem tw_69 : Cond.fieldLinkNest RX8 31 "BothEnds$Text" "length" "I" "BothEnds" ∈ lw_nest := lw_inn (List.mem_of_getElem? (i := 69) (by decide +kernel)) rfl
theorem kF_X8_31 : me_F RX8 31 10 5 := ⟨RX10, TX10, 8, rfl, by decide, inw10, Or.inr ⟨_, tw_69⟩⟩
theorem tw_214 : Cond.fieldLink RX8 9 "BothEnds$Stretches" "reach" "[I" ∈ lw_good := lw_in (List.mem_of_getElem? (i := 214) (by decide +kernel)) rfl
theorem kF_X8_9 : me_F RX8 9 8 1 := ⟨RX8, TX8, 9, rfl, by decide, inw8, Or.inl tw_214⟩
theorem pl_RX8 : plainName RX8 = true := by decide +kernel
theorem tw_1151 : Cond.methodLinkNest RX8 43 yX9_letterAt "BothEnds" ∈ lw_nest := lw_inn (List.mem_of_getElem? (i := 1151) (by decide +kernel)) rfl
theorem tw_1027 : Cond.instanceMethod yX9_letterAt ∈ lw_good := lw_in (List.mem_of_getElem? (i := 1027) (by decide +kernel)) rfl
theorem ts_70 : Cond.selects RX9 yX9_letterAt yX9_letterAt ∈ lw_good := lw_ins (q := (yX9_letterAt, 2)) (List.mem_of_getElem? (i := 70) (by decide +kernel))
theorem tw_1028 : Cond.code yX9_letterAt cX9_letterAt 2 (some .int) ∈ lw_good := lw_in (List.mem_of_getElem? (i := 1028) (by decide +kernel)) rfl
theorem kV_X8_43 : me_V RX8 43 yX9_letterAt cX9_letterAt 2 (some .int) 9 1 := ⟨⟨TX9, 2, rfl⟩, Or.inr ⟨_, tw_1151⟩, tw_1027, ts_70, tw_2, tw_1028, by decide +kernel, by decide +kernel, by decide +kernel, by decide⟩
theorem tw_1152 : Cond.methodLink RX8 49 yX8_readAhead ∈ lw_good := lw_in (List.mem_of_getElem? (i := 1152) (by decide +kernel)) rfl
theorem tw_1154 : Cond.instanceMethod yX8_readAhead ∈ lw_good := lw_in (List.mem_of_getElem? (i := 1154) (by decide +kernel)) rfl
theorem ts_87 : Cond.selects RX8 yX8_readAhead yX8_readAhead ∈ lw_good := lw_ins (q := (yX8_readAhead, 9)) (List.mem_of_getElem? (i := 87) (by decide +kernel))
theorem tw_1155 : Cond.code yX8_readAhead cX8_readAhead 3 none ∈ lw_good := lw_in (List.mem_of_getElem? (i := 1155) (by decide +kernel)) rfl
theorem kV_X8_49 : me_V RX8 49 yX8_readAhead cX8_readAhead 3 none 8 1 := ⟨⟨TX8, 9, rfl⟩, Or.inl tw_1152, tw_1154, ts_87, tw_8, tw_1155, by decide +kernel, by decide +kernel, by decide +kernel, by decide⟩
theorem tw_55 : Cond.fieldLinkNest RX8 37 "BothEnds$Text" "signs" "[I" "BothEnds" ∈ lw_nest := lw_inn (List.mem_of_getElem? (i := 55) (by decide +kernel)) rfl
theorem kF_X8_37 : me_F RX8 37 10 0 := ⟨RX10, TX10, 8, rfl, by decide, inw10, Or.inr ⟨_, tw_55⟩⟩
theorem tw_1156 : Cond.methodLink RX8 53 yX8_noteLongest ∈ lw_good := lw_in (List.mem_of_getElem? (i := 1156) (by decide +kernel)) rfl
theorem tw_1158 : Cond.instanceMethod yX8_noteLongest ∈ lw_good := lw_in (List.mem_of_getElem? (i := 1158) (by decide +kernel)) rfl
theorem ts_88 : Cond.selects RX8 yX8_noteLongest yX8_noteLongest ∈ lw_good := lw_ins (q := (yX8_noteLongest, 9)) (List.mem_of_getElem? (i := 88) (by decide +kernel))
theorem tw_1159 : Cond.code yX8_noteLongest cX8_noteLongest 3 none ∈ lw_good := lw_in (List.mem_of_getElem? (i := 1159) (by decide +kernel)) rfl
theorem kV_X8_53 : me_V RX8 53 yX8_noteLongest cX8_noteLongest 3 none 8 1 := ⟨⟨TX8, 9, rfl⟩, Or.inl tw_1156, tw_1158, ts_88, tw_8, tw_1159, by decide +kernel, by decide +kernel, by decide +kernel, by decide⟩
theorem tw_217 : Cond.fieldLink RX8 18 "BothEnds$Stretches" "lengths" "[I" ∈ lw_good := lw_in (List.mem_of_getElem? (i := 217) (by decide +kernel)) rfl
theorem kF_X8_18 : me_F RX8 18 8 3 := ⟨RX8, TX8, 9, rfl, by decide, inw8, Or.inl tw_217⟩
theorem tw_219 : Cond.fieldLink RX8 21 "BothEnds$Stretches" "times" "[I" ∈ lw_good := lw_in (List.mem_of_getElem? (i := 219) (by decide +kernel)) rfl
theorem kF_X8_21 : me_F RX8 21 8 4 := ⟨RX8, TX8, 9, rfl, by decide, inw8, Or.inl tw_219⟩
theorem tw_221 : Cond.fieldLink RX8 24 "BothEnds$Stretches" "firsts" "[I" ∈ lw_good := lw_in (List.mem_of_getElem? (i := 221) (by decide +kernel)) rfl
theorem kF_X8_24 : me_F RX8 24 8 5 := ⟨RX8, TX8, 9, rfl, by decide, inw8, Or.inl tw_221⟩
theorem tw_224 : Cond.fieldLink RX8 56 "BothEnds$Stretches" "size" "I" ∈ lw_good := lw_in (List.mem_of_getElem? (i := 224) (by decide +kernel)) rfl
theorem kG_X8_56 : me_G RX8 56 8 6 .int := ⟨RX8, TX8, 9, tyX8, rfl, by decide, inw8, tyX8_ok, nmX8, rfl, by decide +kernel, Or.inl tw_224⟩
theorem tw_215 : Cond.fieldLink RX8 15 "BothEnds$Stretches" "starts" "[I" ∈ lw_good := lw_in (List.mem_of_getElem? (i := 215) (by decide +kernel)) rfl
theorem kF_X8_15 : me_F RX8 15 8 2 := ⟨RX8, TX8, 9, rfl, by decide, inw8, Or.inl tw_215⟩
theorem kF_X8_56 : me_F RX8 56 8 6 := ⟨RX8, TX8, 9, rfl, by decide, inw8, Or.inl tw_224⟩
theorem tw_225 : Cond.fieldLink RX8 59 "BothEnds$Stretches" "commonLetters" "I" ∈ lw_good := lw_in (List.mem_of_getElem? (i := 225) (by decide +kernel)) rfl
theorem kG_X8_59 : me_G RX8 59 8 7 .int := ⟨RX8, TX8, 9, tyX8, rfl, by decide, inw8, tyX8_ok, nmX8, rfl, by decide +kernel, Or.inl tw_225⟩
theorem tw_227 : Cond.fieldLink RX8 62 "BothEnds$Stretches" "commonPlace" "I" ∈ lw_good := lw_in (List.mem_of_getElem? (i := 227) (by decide +kernel)) rfl
theorem kG_X8_62 : me_G RX8 62 8 8 .int := ⟨RX8, TX8, 9, tyX8, rfl, by decide, inw8, tyX8_ok, nmX8, rfl, by decide +kernel, Or.inl tw_227⟩
theorem tw_61 : Cond.fieldLinkNest RX8 65 "BothEnds$Text" "lettersFrom" "[I" "BothEnds" ∈ lw_nest := lw_inn (List.mem_of_getElem? (i := 61) (by decide +kernel)) rfl
theorem kF_X8_65 : me_F RX8 65 10 2 := ⟨RX10, TX10, 8, rfl, by decide, inw10, Or.inr ⟨_, tw_61⟩⟩
theorem tw_1274 : Cond.methodLink RX8 68 yX8_inAllOthers ∈ lw_good := lw_in (List.mem_of_getElem? (i := 1274) (by decide +kernel)) rfl
theorem tw_1276 : Cond.instanceMethod yX8_inAllOthers ∈ lw_good := lw_in (List.mem_of_getElem? (i := 1276) (by decide +kernel)) rfl
theorem ts_102 : Cond.selects RX8 yX8_inAllOthers yX8_inAllOthers ∈ lw_good := lw_ins (q := (yX8_inAllOthers, 9)) (List.mem_of_getElem? (i := 102) (by decide +kernel))
theorem tw_1277 : Cond.code yX8_inAllOthers cX8_inAllOthers 4 (some .int) ∈ lw_good := lw_in (List.mem_of_getElem? (i := 1277) (by decide +kernel)) rfl
theorem kV_X8_68 : me_V RX8 68 yX8_inAllOthers cX8_inAllOthers 4 (some .int) 8 1 := ⟨⟨TX8, 9, rfl⟩, Or.inl tw_1274, tw_1276, ts_102, tw_8, tw_1277, by decide +kernel, by decide +kernel, by decide +kernel, by decide⟩
theorem tw_74 : Cond.fieldLinkNest RX8 71 "BothEnds$Text" "documents" "I" "BothEnds" ∈ lw_nest := lw_inn (List.mem_of_getElem? (i := 74) (by decide +kernel)) rfl
theorem kF_X8_71 : me_F RX8 71 10 6 := ⟨RX10, TX10, 8, rfl, by decide, inw10, Or.inr ⟨_, tw_74⟩⟩
theorem tw_1278 : Cond.methodLink RX8 74 yX8_mostIn ∈ lw_good := lw_in (List.mem_of_getElem? (i := 1278) (by decide +kernel)) rfl
theorem tw_1280 : Cond.instanceMethod yX8_mostIn ∈ lw_good := lw_in (List.mem_of_getElem? (i := 1280) (by decide +kernel)) rfl
theorem ts_103 : Cond.selects RX8 yX8_mostIn yX8_mostIn ∈ lw_good := lw_ins (q := (yX8_mostIn, 9)) (List.mem_of_getElem? (i := 103) (by decide +kernel))
theorem tw_1281 : Cond.code yX8_mostIn cX8_mostIn 5 (some .int) ∈ lw_good := lw_in (List.mem_of_getElem? (i := 1281) (by decide +kernel)) rfl
theorem kV_X8_74 : me_V RX8 74 yX8_mostIn cX8_mostIn 5 (some .int) 8 1 := ⟨⟨TX8, 9, rfl⟩, Or.inl tw_1278, tw_1280, ts_103, tw_8, tw_1281, by decide +kernel, by decide +kernel, by decide +kernel, by decide⟩
theorem tw_66 : Cond.fieldLinkNest RX8 83 "BothEnds$Text" "firstPlaces" "[I" "BothEnds" ∈ lw_nest := lw_inn (List.mem_of_getElem? (i := 66) (by decide +kernel)) rfl
theorem kF_X8_83 : me_F RX8 83 10 4 := ⟨RX10, TX10, 8, rfl, by decide, inw10, Or.inr ⟨_, tw_66⟩⟩
theorem tw_1282 : Cond.methodLink RX8 86 yJ9_max_7cf53 ∈ lw_good := lw_in (List.mem_of_getElem? (i := 1282) (by decide +kernel)) rfl
theorem kS_X8_86 : me_S RX8 86 yJ9_max_7cf53 cJ9_max_7cf53 2 (some .int) 2 := ⟨Or.inl tw_1282, tw_465, tw_13, tw_466, by decide +kernel, by decide +kernel, by decide +kernel, by decide⟩
theorem tw_1283 : Cond.methodLink RX8 77 yJ9_min_7cf53 ∈ lw_good := lw_in (List.mem_of_getElem? (i := 1283) (by decide +kernel)) rfl
theorem kS_X8_77 : me_S RX8 77 yJ9_min_7cf53 cJ9_min_7cf53 2 (some .int) 2 := ⟨Or.inl tw_1283, tw_488, tw_13, tw_489, by decide +kernel, by decide +kernel, by decide +kernel, by decide⟩
theorem kF_X8_59 : me_F RX8 59 8 7 := ⟨RX8, TX8, 9, rfl, by decide, inw8, Or.inl tw_225⟩
theorem tw_268 : Cond.fieldLink RX1 47 "BothEnds$Hunt" "tried" "I" ∈ lw_good := lw_in (List.mem_of_getElem? (i := 268) (by decide +kernel)) rfl
theorem inw1 : ∀ w ∈ u_ws RX1 TX1 12, w ∈ lw_good := by decide +kernel
theorem kG_X1_47 : me_G RX1 47 1 10 .int := ⟨RX1, TX1, 12, tyX1, rfl, by decide, inw1, tyX1_ok, nmX1, rfl, by decide +kernel, Or.inl tw_268⟩
theorem tw_271 : Cond.fieldLink RX1 51 "BothEnds$Hunt" "found" "I" ∈ lw_good := lw_in (List.mem_of_getElem? (i := 271) (by decide +kernel)) rfl
theorem kG_X1_51 : me_G RX1 51 1 11 .int := ⟨RX1, TX1, 12, tyX1, rfl, by decide, inw1, tyX1_ok, nmX1, rfl, by decide +kernel, Or.inl tw_271⟩
theorem tw_263 : Cond.fieldLink RX1 24 "BothEnds$Hunt" "times" "[I" ∈ lw_good := lw_in (List.mem_of_getElem? (i := 263) (by decide +kernel)) rfl
theorem kF_X1_24 : me_F RX1 24 1 7 := ⟨RX1, TX1, 12, rfl, by decide, inw1, Or.inl tw_263⟩
theorem pl_RX1 : plainName RX1 = true := by decide +kernel
theorem tw_267 : Cond.fieldLink RX1 54 "BothEnds$Hunt" "steps" "I" ∈ lw_good := lw_in (List.mem_of_getElem? (i := 267) (by decide +kernel)) rfl
theorem kG_X1_54 : me_G RX1 54 1 9 .int := ⟨RX1, TX1, 12, tyX1, rfl, by decide, inw1, tyX1_ok, nmX1, rfl, by decide +kernel, Or.inl tw_267⟩
theorem tw_389 : Cond.fieldLinkNest RX1 57 "BothEnds$Scheme" "parts" "I" "BothEnds" ∈ lw_nest := lw_inn (List.mem_of_getElem? (i := 389) (by decide +kernel)) rfl
theorem inw5 : ∀ w ∈ u_ws RX5 TX5 11, w ∈ lw_good := by decide +kernel
theorem kF_X1_57 : me_F RX1 57 5 5 := ⟨RX5, TX5, 11, rfl, by decide, inw5, Or.inr ⟨_, tw_389⟩⟩
theorem ic_5 : Int32.ofInt 5 = (5 : Int32) := by decide
theorem tw_373 : Cond.fieldLinkNest RX1 62 "BothEnds$Scheme" "order" "[I" "BothEnds" ∈ lw_nest := lw_inn (List.mem_of_getElem? (i := 373) (by decide +kernel)) rfl
theorem kF_X1_62 : me_F RX1 62 5 0 := ⟨RX5, TX5, 11, rfl, by decide, inw5, Or.inr ⟨_, tw_373⟩⟩
theorem tw_381 : Cond.fieldLinkNest RX1 65 "BothEnds$Scheme" "most" "[I" "BothEnds" ∈ lw_nest := lw_inn (List.mem_of_getElem? (i := 381) (by decide +kernel)) rfl
theorem kF_X1_65 : me_F RX1 65 5 2 := ⟨RX5, TX5, 11, rfl, by decide, inw5, Or.inr ⟨_, tw_381⟩⟩
theorem tw_1077 : Cond.methodLink RX1 72 yX1_planRightwards ∈ lw_good := lw_in (List.mem_of_getElem? (i := 1077) (by decide +kernel)) rfl
theorem tw_9 : Cond.initialized RX1 ∈ lw_good := lw_in (List.mem_of_getElem? (i := 9) (by decide +kernel)) rfl
theorem tw_1079 : Cond.instanceMethod yX1_planRightwards ∈ lw_good := lw_in (List.mem_of_getElem? (i := 1079) (by decide +kernel)) rfl
theorem ts_77 : Cond.selects RX1 yX1_planRightwards yX1_planRightwards ∈ lw_good := lw_ins (q := (yX1_planRightwards, 12)) (List.mem_of_getElem? (i := 77) (by decide +kernel))
theorem tw_1080 : Cond.code yX1_planRightwards cX1_planRightwards 6 none ∈ lw_good := lw_in (List.mem_of_getElem? (i := 1080) (by decide +kernel)) rfl
theorem kV_X1_72 : me_V RX1 72 yX1_planRightwards cX1_planRightwards 6 none 1 4 := ⟨⟨TX1, 12, rfl⟩, Or.inl tw_1077, tw_1079, ts_77, tw_9, tw_1080, by decide +kernel, by decide +kernel, by decide +kernel, by decide⟩
theorem tw_1073 : Cond.methodLink RX1 85 yX1_planLetter ∈ lw_good := lw_in (List.mem_of_getElem? (i := 1073) (by decide +kernel)) rfl
theorem tw_1075 : Cond.instanceMethod yX1_planLetter ∈ lw_good := lw_in (List.mem_of_getElem? (i := 1075) (by decide +kernel)) rfl
theorem ts_76 : Cond.selects RX1 yX1_planLetter yX1_planLetter ∈ lw_good := lw_ins (q := (yX1_planLetter, 12)) (List.mem_of_getElem? (i := 76) (by decide +kernel))
theorem tw_1076 : Cond.code yX1_planLetter cX1_planLetter 4 none ∈ lw_good := lw_in (List.mem_of_getElem? (i := 1076) (by decide +kernel)) rfl
theorem kV_X1_85 : me_V RX1 85 yX1_planLetter cX1_planLetter 4 none 1 3 := ⟨⟨TX1, 12, rfl⟩, Or.inl tw_1073, tw_1075, ts_76, tw_9, tw_1076, by decide +kernel, by decide +kernel, by decide +kernel, by decide⟩
theorem kF_X1_54 : me_F RX1 54 1 9 := ⟨RX1, TX1, 12, rfl, by decide, inw1, Or.inl tw_267⟩
theorem tw_259 : Cond.fieldLink RX1 9 "BothEnds$Hunt" "wanted" "[I" ∈ lw_good := lw_in (List.mem_of_getElem? (i := 259) (by decide +kernel)) rfl
theorem kF_X1_9 : me_F RX1 9 1 3 := ⟨RX1, TX1, 12, rfl, by decide, inw1, Or.inl tw_259⟩
theorem tw_260 : Cond.fieldLink RX1 15 "BothEnds$Hunt" "sides" "[I" ∈ lw_good := lw_in (List.mem_of_getElem? (i := 260) (by decide +kernel)) rfl
theorem kF_X1_15 : me_F RX1 15 1 4 := ⟨RX1, TX1, 12, rfl, by decide, inw1, Or.inl tw_260⟩
theorem tw_261 : Cond.fieldLink RX1 18 "BothEnds$Hunt" "floors" "[I" ∈ lw_good := lw_in (List.mem_of_getElem? (i := 261) (by decide +kernel)) rfl
theorem kF_X1_18 : me_F RX1 18 1 5 := ⟨RX1, TX1, 12, rfl, by decide, inw1, Or.inl tw_261⟩
theorem tw_262 : Cond.fieldLink RX1 21 "BothEnds$Hunt" "ceilings" "[I" ∈ lw_good := lw_in (List.mem_of_getElem? (i := 262) (by decide +kernel)) rfl
theorem kF_X1_21 : me_F RX1 21 1 6 := ⟨RX1, TX1, 12, rfl, by decide, inw1, Or.inl tw_262⟩
theorem tw_1069 : Cond.methodLink RX1 68 yX1_planLeftwards ∈ lw_good := lw_in (List.mem_of_getElem? (i := 1069) (by decide +kernel)) rfl
theorem tw_1071 : Cond.instanceMethod yX1_planLeftwards ∈ lw_good := lw_in (List.mem_of_getElem? (i := 1071) (by decide +kernel)) rfl
theorem ts_75 : Cond.selects RX1 yX1_planLeftwards yX1_planLeftwards ∈ lw_good := lw_ins (q := (yX1_planLeftwards, 12)) (List.mem_of_getElem? (i := 75) (by decide +kernel))
theorem tw_1072 : Cond.code yX1_planLeftwards cX1_planLeftwards 6 none ∈ lw_good := lw_in (List.mem_of_getElem? (i := 1072) (by decide +kernel)) rfl
theorem kV_X1_68 : me_V RX1 68 yX1_planLeftwards cX1_planLeftwards 6 none 1 4 := ⟨⟨TX1, 12, rfl⟩, Or.inl tw_1069, tw_1071, ts_75, tw_9, tw_1072, by decide +kernel, by decide +kernel, by decide +kernel, by decide⟩
theorem tw_377 : Cond.fieldLinkNest RX1 75 "BothEnds$Scheme" "least" "[I" "BothEnds" ∈ lw_nest := lw_inn (List.mem_of_getElem? (i := 377) (by decide +kernel)) rfl
theorem kF_X1_75 : me_F RX1 75 5 1 := ⟨RX5, TX5, 11, rfl, by decide, inw5, Or.inr ⟨_, tw_377⟩⟩
theorem tw_258 : Cond.fieldLink RX1 43 "BothEnds$Hunt" "spans" "LBothEnds$Spans;" ∈ lw_good := lw_in (List.mem_of_getElem? (i := 258) (by decide +kernel)) rfl
theorem kF_X1_43 : me_F RX1 43 1 2 := ⟨RX1, TX1, 12, rfl, by decide, inw1, Or.inl tw_258⟩
theorem tw_1081 : Cond.methodLinkNest RX1 78 yX7_start "BothEnds" ∈ lw_nest := lw_inn (List.mem_of_getElem? (i := 1081) (by decide +kernel)) rfl
theorem kV_X1_78 : me_V RX1 78 yX7_start cX7_start 1 none 7 0 := ⟨⟨TX7, 5, rfl⟩, Or.inr ⟨_, tw_1081⟩, tw_516, ts_20, tw_6, tw_517, by decide +kernel, by decide +kernel, by decide +kernel, by decide⟩
theorem tw_1082 : Cond.methodLink RX1 81 yX1_goOn ∈ lw_good := lw_in (List.mem_of_getElem? (i := 1082) (by decide +kernel)) rfl
theorem tw_1084 : Cond.instanceMethod yX1_goOn ∈ lw_good := lw_in (List.mem_of_getElem? (i := 1084) (by decide +kernel)) rfl
theorem ts_78 : Cond.selects RX1 yX1_goOn yX1_goOn ∈ lw_good := lw_ins (q := (yX1_goOn, 12)) (List.mem_of_getElem? (i := 78) (by decide +kernel))
theorem tw_1085 : Cond.code yX1_goOn cX1_goOn 5 none ∈ lw_good := lw_in (List.mem_of_getElem? (i := 1085) (by decide +kernel)) rfl
theorem kV_X1_81 : me_V RX1 81 yX1_goOn cX1_goOn 5 none 1 2 := ⟨⟨TX1, 12, rfl⟩, Or.inl tw_1082, tw_1084, ts_78, tw_9, tw_1085, by decide +kernel, by decide +kernel, by decide +kernel, by decide⟩
theorem tw_256 : Cond.fieldLink RX1 30 "BothEnds$Hunt" "text" "LBothEnds$Text;" ∈ lw_good := lw_in (List.mem_of_getElem? (i := 256) (by decide +kernel)) rfl
theorem kF_X1_30 : me_F RX1 30 1 0 := ⟨RX1, TX1, 12, rfl, by decide, inw1, Or.inl tw_256⟩
theorem tw_1090 : Cond.methodLinkNest RX1 92 yX10_hasLetter "BothEnds" ∈ lw_nest := lw_inn (List.mem_of_getElem? (i := 1090) (by decide +kernel)) rfl
theorem tw_1092 : Cond.instanceMethod yX10_hasLetter ∈ lw_good := lw_in (List.mem_of_getElem? (i := 1092) (by decide +kernel)) rfl
theorem ts_80 : Cond.selects RX10 yX10_hasLetter yX10_hasLetter ∈ lw_good := lw_ins (q := (yX10_hasLetter, 8)) (List.mem_of_getElem? (i := 80) (by decide +kernel))
theorem tw_1093 : Cond.code yX10_hasLetter cX10_hasLetter 2 (some .boolean) ∈ lw_good := lw_in (List.mem_of_getElem? (i := 1093) (by decide +kernel)) rfl
theorem kV_X1_92 : me_V RX1 92 yX10_hasLetter cX10_hasLetter 2 (some .boolean) 10 1 := ⟨⟨TX10, 8, rfl⟩, Or.inr ⟨_, tw_1090⟩, tw_1092, ts_80, tw_3, tw_1093, by decide +kernel, by decide +kernel, by decide +kernel, by decide⟩
theorem kF_X1_47 : me_F RX1 47 1 10 := ⟨RX1, TX1, 12, rfl, by decide, inw1, Or.inl tw_268⟩
theorem tw_1094 : Cond.methodLinkNest RX1 98 yX7_extend "BothEnds" ∈ lw_nest := lw_inn (List.mem_of_getElem? (i := 1094) (by decide +kernel)) rfl
theorem kV_X1_98 : me_V RX1 98 yX7_extend cX7_extend 10 (some .int) 7 3 := ⟨⟨TX7, 5, rfl⟩, Or.inr ⟨_, tw_1094⟩, tw_857, ts_53, tw_6, tw_858, by decide +kernel, by decide +kernel, by decide +kernel, by decide⟩
theorem tw_1086 : Cond.methodLink RX1 89 yX1_noteFound ∈ lw_good := lw_in (List.mem_of_getElem? (i := 1086) (by decide +kernel)) rfl
theorem tw_1088 : Cond.instanceMethod yX1_noteFound ∈ lw_good := lw_in (List.mem_of_getElem? (i := 1088) (by decide +kernel)) rfl
theorem ts_79 : Cond.selects RX1 yX1_noteFound yX1_noteFound ∈ lw_good := lw_ins (q := (yX1_noteFound, 12)) (List.mem_of_getElem? (i := 79) (by decide +kernel))
theorem tw_1089 : Cond.code yX1_noteFound cX1_noteFound 7 none ∈ lw_good := lw_in (List.mem_of_getElem? (i := 1089) (by decide +kernel)) rfl
theorem kV_X1_89 : me_V RX1 89 yX1_noteFound cX1_noteFound 7 none 1 2 := ⟨⟨TX1, 12, rfl⟩, Or.inl tw_1086, tw_1088, ts_79, tw_9, tw_1089, by decide +kernel, by decide +kernel, by decide +kernel, by decide⟩
theorem tw_145 : Cond.fieldLinkNest RX1 102 "BothEnds$Spans" "lowForth" "[I" "BothEnds" ∈ lw_nest := lw_inn (List.mem_of_getElem? (i := 145) (by decide +kernel)) rfl
theorem kF_X1_102 : me_F RX1 102 7 2 := ⟨RX7, TX7, 5, rfl, by decide, inw7, Or.inr ⟨_, tw_145⟩⟩
theorem tw_149 : Cond.fieldLinkNest RX1 105 "BothEnds$Spans" "sizes" "[I" "BothEnds" ∈ lw_nest := lw_inn (List.mem_of_getElem? (i := 149) (by decide +kernel)) rfl
theorem kF_X1_105 : me_F RX1 105 7 4 := ⟨RX7, TX7, 5, rfl, by decide, inw7, Or.inr ⟨_, tw_149⟩⟩
theorem tw_257 : Cond.fieldLink RX1 34 "BothEnds$Hunt" "forth" "LBothEnds$Rows;" ∈ lw_good := lw_in (List.mem_of_getElem? (i := 257) (by decide +kernel)) rfl
theorem kF_X1_34 : me_F RX1 34 1 1 := ⟨RX1, TX1, 12, rfl, by decide, inw1, Or.inl tw_257⟩
theorem tw_105 : Cond.fieldLinkNest RX1 108 "BothEnds$Rows" "places" "[I" "BothEnds" ∈ lw_nest := lw_inn (List.mem_of_getElem? (i := 105) (by decide +kernel)) rfl
theorem kF_X1_108 : me_F RX1 108 4 1 := ⟨RX4, TX4, 6, rfl, by decide, inw4, Or.inr ⟨_, tw_105⟩⟩
theorem tw_265 : Cond.fieldLink RX1 27 "BothEnds$Hunt" "mismatches" "[I" ∈ lw_good := lw_in (List.mem_of_getElem? (i := 265) (by decide +kernel)) rfl
theorem kF_X1_27 : me_F RX1 27 1 8 := ⟨RX1, TX1, 12, rfl, by decide, inw1, Or.inl tw_265⟩
theorem kF_X1_51 : me_F RX1 51 1 11 := ⟨RX1, TX1, 12, rfl, by decide, inw1, Or.inl tw_271⟩
theorem tw_1059 : Cond.methodLink RX3 24 yJ9_min_7cf53 ∈ lw_good := lw_in (List.mem_of_getElem? (i := 1059) (by decide +kernel)) rfl
theorem kS_X3_24 : me_S RX3 24 yJ9_min_7cf53 cJ9_min_7cf53 2 (some .int) 2 := ⟨Or.inl tw_1059, tw_488, tw_13, tw_489, by decide +kernel, by decide +kernel, by decide +kernel, by decide⟩
theorem tw_315 : Cond.fieldLink RX3 30 "BothEnds$Result" "letters" "I" ∈ lw_good := lw_in (List.mem_of_getElem? (i := 315) (by decide +kernel)) rfl
theorem inw3 : ∀ w ∈ u_ws RX3 TX3 9, w ∈ lw_good := by decide +kernel
theorem kG_X3_30 : me_G RX3 30 3 5 .int := ⟨RX3, TX3, 9, tyX3, rfl, by decide, inw3, tyX3_ok, nmX3, rfl, by decide +kernel, Or.inl tw_315⟩
theorem kF_X3_30 : me_F RX3 30 3 5 := ⟨RX3, TX3, 9, rfl, by decide, inw3, Or.inl tw_315⟩
theorem tw_305 : Cond.fieldLink RX3 9 "BothEnds$Result" "pattern" "[I" ∈ lw_good := lw_in (List.mem_of_getElem? (i := 305) (by decide +kernel)) rfl
theorem kF_X3_9 : me_F RX3 9 3 0 := ⟨RX3, TX3, 9, rfl, by decide, inw3, Or.inl tw_305⟩
theorem tw_1060 : Cond.methodLinkNest RX3 34 yX9_letterAt "BothEnds" ∈ lw_nest := lw_inn (List.mem_of_getElem? (i := 1060) (by decide +kernel)) rfl
theorem kV_X3_34 : me_V RX3 34 yX9_letterAt cX9_letterAt 2 (some .int) 9 1 := ⟨⟨TX9, 2, rfl⟩, Or.inr ⟨_, tw_1060⟩, tw_1027, ts_70, tw_2, tw_1028, by decide +kernel, by decide +kernel, by decide +kernel, by decide⟩
theorem pl_RX3 : plainName RX3 = true := by decide +kernel
theorem tw_313 : Cond.fieldLink RX3 40 "BothEnds$Result" "stands" "Z" ∈ lw_good := lw_in (List.mem_of_getElem? (i := 313) (by decide +kernel)) rfl
theorem kG_X3_40 : me_G RX3 40 3 4 .boolean := ⟨RX3, TX3, 9, tyX3, rfl, by decide, inw3, tyX3_ok, nmX3, rfl, by decide +kernel, Or.inl tw_313⟩
theorem tw_272 : Cond.fieldLinkNest RX3 44 "BothEnds$Hunt" "found" "I" "BothEnds" ∈ lw_nest := lw_inn (List.mem_of_getElem? (i := 272) (by decide +kernel)) rfl
theorem kF_X3_44 : me_F RX3 44 1 11 := ⟨RX1, TX1, 12, rfl, by decide, inw1, Or.inr ⟨_, tw_272⟩⟩
theorem tw_319 : Cond.fieldLink RX3 49 "BothEnds$Result" "found" "I" ∈ lw_good := lw_in (List.mem_of_getElem? (i := 319) (by decide +kernel)) rfl
theorem kG_X3_49 : me_G RX3 49 3 7 .int := ⟨RX3, TX3, 9, tyX3, rfl, by decide, inw3, tyX3_ok, nmX3, rfl, by decide +kernel, Or.inl tw_319⟩
theorem tw_269 : Cond.fieldLinkNest RX3 50 "BothEnds$Hunt" "tried" "I" "BothEnds" ∈ lw_nest := lw_inn (List.mem_of_getElem? (i := 269) (by decide +kernel)) rfl
theorem kF_X3_50 : me_F RX3 50 1 10 := ⟨RX1, TX1, 12, rfl, by decide, inw1, Or.inr ⟨_, tw_269⟩⟩
theorem tw_321 : Cond.fieldLink RX3 53 "BothEnds$Result" "tried" "I" ∈ lw_good := lw_in (List.mem_of_getElem? (i := 321) (by decide +kernel)) rfl
theorem kG_X3_53 : me_G RX3 53 3 8 .int := ⟨RX3, TX3, 9, tyX3, rfl, by decide, inw3, tyX3_ok, nmX3, rfl, by decide +kernel, Or.inl tw_321⟩
theorem tw_317 : Cond.fieldLink RX3 54 "BothEnds$Result" "size" "I" ∈ lw_good := lw_in (List.mem_of_getElem? (i := 317) (by decide +kernel)) rfl
theorem kG_X3_54 : me_G RX3 54 3 6 .int := ⟨RX3, TX3, 9, tyX3, rfl, by decide, inw3, tyX3_ok, nmX3, rfl, by decide +kernel, Or.inl tw_317⟩
theorem tw_264 : Cond.fieldLinkNest RX3 57 "BothEnds$Hunt" "times" "[I" "BothEnds" ∈ lw_nest := lw_inn (List.mem_of_getElem? (i := 264) (by decide +kernel)) rfl
theorem kF_X3_57 : me_F RX3 57 1 7 := ⟨RX1, TX1, 12, rfl, by decide, inw1, Or.inr ⟨_, tw_264⟩⟩
theorem tw_307 : Cond.fieldLink RX3 15 "BothEnds$Result" "places" "[I" ∈ lw_good := lw_in (List.mem_of_getElem? (i := 307) (by decide +kernel)) rfl
theorem kF_X3_15 : me_F RX3 15 3 1 := ⟨RX3, TX3, 9, rfl, by decide, inw3, Or.inl tw_307⟩
theorem kF_X3_54 : me_F RX3 54 3 6 := ⟨RX3, TX3, 9, rfl, by decide, inw3, Or.inl tw_317⟩
theorem tw_309 : Cond.fieldLink RX3 18 "BothEnds$Result" "mismatches" "[I" ∈ lw_good := lw_in (List.mem_of_getElem? (i := 309) (by decide +kernel)) rfl
theorem kF_X3_18 : me_F RX3 18 3 2 := ⟨RX3, TX3, 9, rfl, by decide, inw3, Or.inl tw_309⟩
theorem tw_266 : Cond.fieldLinkNest RX3 58 "BothEnds$Hunt" "mismatches" "[I" "BothEnds" ∈ lw_nest := lw_inn (List.mem_of_getElem? (i := 266) (by decide +kernel)) rfl
theorem kF_X3_58 : me_F RX3 58 1 8 := ⟨RX1, TX1, 12, rfl, by decide, inw1, Or.inr ⟨_, tw_266⟩⟩
theorem tw_311 : Cond.fieldLink RX3 21 "BothEnds$Result" "times" "[I" ∈ lw_good := lw_in (List.mem_of_getElem? (i := 311) (by decide +kernel)) rfl
theorem kF_X3_21 : me_F RX3 21 3 3 := ⟨RX3, TX3, 9, rfl, by decide, inw3, Or.inl tw_311⟩
theorem tw_71 : Cond.fieldLinkNest RX3 59 "BothEnds$Text" "length" "I" "BothEnds" ∈ lw_nest := lw_inn (List.mem_of_getElem? (i := 71) (by decide +kernel)) rfl
theorem kF_X3_59 : me_F RX3 59 10 5 := ⟨RX10, TX10, 8, rfl, by decide, inw10, Or.inr ⟨_, tw_71⟩⟩
theorem tw_56 : Cond.fieldLinkNest RX3 64 "BothEnds$Text" "signs" "[I" "BothEnds" ∈ lw_nest := lw_inn (List.mem_of_getElem? (i := 56) (by decide +kernel)) rfl
theorem kF_X3_64 : me_F RX3 64 10 0 := ⟨RX10, TX10, 8, rfl, by decide, inw10, Or.inr ⟨_, tw_56⟩⟩
theorem tw_1125 : Cond.methodLink RX3 67 yJ9_max_7cf53 ∈ lw_good := lw_in (List.mem_of_getElem? (i := 1125) (by decide +kernel)) rfl
theorem kS_X3_67 : me_S RX3 67 yJ9_max_7cf53 cJ9_max_7cf53 2 (some .int) 2 := ⟨Or.inl tw_1125, tw_465, tw_13, tw_466, by decide +kernel, by decide +kernel, by decide +kernel, by decide⟩
theorem tw_385 : Cond.fieldLink RX5 24 "BothEnds$Scheme" "searches" "I" ∈ lw_good := lw_in (List.mem_of_getElem? (i := 385) (by decide +kernel)) rfl
theorem kF_X5_24 : me_F RX5 24 5 4 := ⟨RX5, TX5, 11, rfl, by decide, inw5, Or.inl tw_385⟩
theorem tw_380 : Cond.fieldLink RX5 18 "BothEnds$Scheme" "most" "[I" ∈ lw_good := lw_in (List.mem_of_getElem? (i := 380) (by decide +kernel)) rfl
theorem kF_X5_18 : me_F RX5 18 5 2 := ⟨RX5, TX5, 11, rfl, by decide, inw5, Or.inl tw_380⟩
theorem tw_388 : Cond.fieldLink RX5 28 "BothEnds$Scheme" "parts" "I" ∈ lw_good := lw_in (List.mem_of_getElem? (i := 388) (by decide +kernel)) rfl
theorem kF_X5_28 : me_F RX5 28 5 5 := ⟨RX5, TX5, 11, rfl, by decide, inw5, Or.inl tw_388⟩
theorem tw_607 : Cond.methodLink RX5 31 yJ9_max_7cf53 ∈ lw_good := lw_in (List.mem_of_getElem? (i := 607) (by decide +kernel)) rfl
theorem kS_X5_31 : me_S RX5 31 yJ9_max_7cf53 cJ9_max_7cf53 2 (some .int) 2 := ⟨Or.inl tw_607, tw_465, tw_13, tw_466, by decide +kernel, by decide +kernel, by decide +kernel, by decide⟩
theorem pl_RX5 : plainName RX5 = true := by decide +kernel
theorem tw_603 : Cond.methodLink RX5 37 yX5_budget ∈ lw_good := lw_in (List.mem_of_getElem? (i := 603) (by decide +kernel)) rfl
theorem tw_12 : Cond.initialized RX5 ∈ lw_good := lw_in (List.mem_of_getElem? (i := 12) (by decide +kernel)) rfl
theorem tw_605 : Cond.instanceMethod yX5_budget ∈ lw_good := lw_in (List.mem_of_getElem? (i := 605) (by decide +kernel)) rfl
theorem ts_25 : Cond.selects RX5 yX5_budget yX5_budget ∈ lw_good := lw_ins (q := (yX5_budget, 11)) (List.mem_of_getElem? (i := 25) (by decide +kernel))
theorem tw_606 : Cond.code yX5_budget cX5_budget 3 (some .int) ∈ lw_good := lw_in (List.mem_of_getElem? (i := 606) (by decide +kernel)) rfl
theorem kV_X5_37 : me_V RX5 37 yX5_budget cX5_budget 3 (some .int) 5 0 := ⟨⟨TX5, 11, rfl⟩, Or.inl tw_603, tw_605, ts_25, tw_12, tw_606, by decide +kernel, by decide +kernel, by decide +kernel, by decide⟩
theorem tw_393 : Cond.fieldLink RX5 41 "BothEnds$Scheme" "shares" "I" ∈ lw_good := lw_in (List.mem_of_getElem? (i := 393) (by decide +kernel)) rfl
theorem kG_X5_41 : me_G RX5 41 5 7 .int := ⟨RX5, TX5, 11, tyX5, rfl, by decide, inw5, tyX5_ok, nmX5, rfl, by decide +kernel, Or.inl tw_393⟩
theorem tw_395 : Cond.fieldLink RX5 44 "BothEnds$Scheme" "uncovered" "I" ∈ lw_good := lw_in (List.mem_of_getElem? (i := 395) (by decide +kernel)) rfl
theorem kG_X5_44 : me_G RX5 44 5 8 .int := ⟨RX5, TX5, 11, tyX5, rfl, by decide, inw5, tyX5_ok, nmX5, rfl, by decide +kernel, Or.inl tw_395⟩
theorem tw_397 : Cond.fieldLink RX5 47 "BothEnds$Scheme" "coveredTwice" "I" ∈ lw_good := lw_in (List.mem_of_getElem? (i := 397) (by decide +kernel)) rfl
theorem kG_X5_47 : me_G RX5 47 5 9 .int := ⟨RX5, TX5, 11, tyX5, rfl, by decide, inw5, tyX5_ok, nmX5, rfl, by decide +kernel, Or.inl tw_397⟩
theorem tw_399 : Cond.fieldLink RX5 50 "BothEnds$Scheme" "needed" "I" ∈ lw_good := lw_in (List.mem_of_getElem? (i := 399) (by decide +kernel)) rfl
theorem kG_X5_50 : me_G RX5 50 5 10 .int := ⟨RX5, TX5, 11, tyX5, rfl, by decide, inw5, tyX5_ok, nmX5, rfl, by decide +kernel, Or.inl tw_399⟩
theorem tw_608 : Cond.methodLink RX5 53 yX5_firstShare ∈ lw_good := lw_in (List.mem_of_getElem? (i := 608) (by decide +kernel)) rfl
theorem tw_610 : Cond.instanceMethod yX5_firstShare ∈ lw_good := lw_in (List.mem_of_getElem? (i := 610) (by decide +kernel)) rfl
theorem ts_26 : Cond.selects RX5 yX5_firstShare yX5_firstShare ∈ lw_good := lw_ins (q := (yX5_firstShare, 11)) (List.mem_of_getElem? (i := 26) (by decide +kernel))
theorem tw_611 : Cond.code yX5_firstShare cX5_firstShare 2 none ∈ lw_good := lw_in (List.mem_of_getElem? (i := 611) (by decide +kernel)) rfl
theorem kV_X5_53 : me_V RX5 53 yX5_firstShare cX5_firstShare 2 none 5 0 := ⟨⟨TX5, 11, rfl⟩, Or.inl tw_608, tw_610, ts_26, tw_12, tw_611, by decide +kernel, by decide +kernel, by decide +kernel, by decide⟩
theorem tw_392 : Cond.fieldLink RX5 73 "BothEnds$Scheme" "shared" "I" ∈ lw_good := lw_in (List.mem_of_getElem? (i := 392) (by decide +kernel)) rfl
theorem kG_X5_73 : me_G RX5 73 5 6 .int := ⟨RX5, TX5, 11, tyX5, rfl, by decide, inw5, tyX5_ok, nmX5, rfl, by decide +kernel, Or.inl tw_392⟩
theorem tw_384 : Cond.fieldLink RX5 21 "BothEnds$Scheme" "share" "[I" ∈ lw_good := lw_in (List.mem_of_getElem? (i := 384) (by decide +kernel)) rfl
theorem kF_X5_21 : me_F RX5 21 5 3 := ⟨RX5, TX5, 11, rfl, by decide, inw5, Or.inl tw_384⟩
theorem ib_126 : (Int8.ofInt 126).toInt32 = (126 : Int32) := by decide
theorem tw_612 : Cond.methodLink RX5 56 yX5_coveringBits ∈ lw_good := lw_in (List.mem_of_getElem? (i := 612) (by decide +kernel)) rfl
theorem tw_614 : Cond.instanceMethod yX5_coveringBits ∈ lw_good := lw_in (List.mem_of_getElem? (i := 614) (by decide +kernel)) rfl
theorem ts_27 : Cond.selects RX5 yX5_coveringBits yX5_coveringBits ∈ lw_good := lw_ins (q := (yX5_coveringBits, 11)) (List.mem_of_getElem? (i := 27) (by decide +kernel))
theorem tw_615 : Cond.code yX5_coveringBits cX5_coveringBits 3 (some .int) ∈ lw_good := lw_in (List.mem_of_getElem? (i := 615) (by decide +kernel)) rfl
theorem kV_X5_56 : me_V RX5 56 yX5_coveringBits cX5_coveringBits 3 (some .int) 5 0 := ⟨⟨TX5, 11, rfl⟩, Or.inl tw_612, tw_614, ts_27, tw_12, tw_615, by decide +kernel, by decide +kernel, by decide +kernel, by decide⟩
theorem tw_616 : Cond.methodLink RX5 76 yX5_covers ∈ lw_good := lw_in (List.mem_of_getElem? (i := 616) (by decide +kernel)) rfl
theorem tw_618 : Cond.instanceMethod yX5_covers ∈ lw_good := lw_in (List.mem_of_getElem? (i := 618) (by decide +kernel)) rfl
theorem ts_28 : Cond.selects RX5 yX5_covers yX5_covers ∈ lw_good := lw_ins (q := (yX5_covers, 11)) (List.mem_of_getElem? (i := 28) (by decide +kernel))
theorem tw_619 : Cond.code yX5_covers cX5_covers 5 (some .boolean) ∈ lw_good := lw_in (List.mem_of_getElem? (i := 619) (by decide +kernel)) rfl
theorem kV_X5_76 : me_V RX5 76 yX5_covers cX5_covers 5 (some .boolean) 5 1 := ⟨⟨TX5, 11, rfl⟩, Or.inl tw_616, tw_618, ts_28, tw_12, tw_619, by decide +kernel, by decide +kernel, by decide +kernel, by decide⟩
theorem tw_372 : Cond.fieldLink RX5 9 "BothEnds$Scheme" "order" "[I" ∈ lw_good := lw_in (List.mem_of_getElem? (i := 372) (by decide +kernel)) rfl
theorem kF_X5_9 : me_F RX5 9 5 0 := ⟨RX5, TX5, 11, rfl, by decide, inw5, Or.inl tw_372⟩
theorem tw_376 : Cond.fieldLink RX5 15 "BothEnds$Scheme" "least" "[I" ∈ lw_good := lw_in (List.mem_of_getElem? (i := 376) (by decide +kernel)) rfl
theorem kF_X5_15 : me_F RX5 15 5 1 := ⟨RX5, TX5, 11, rfl, by decide, inw5, Or.inl tw_376⟩
theorem tw_620 : Cond.methodLink RX5 59 yX5_noteShare ∈ lw_good := lw_in (List.mem_of_getElem? (i := 620) (by decide +kernel)) rfl
theorem tw_622 : Cond.instanceMethod yX5_noteShare ∈ lw_good := lw_in (List.mem_of_getElem? (i := 622) (by decide +kernel)) rfl
theorem ts_29 : Cond.selects RX5 yX5_noteShare yX5_noteShare ∈ lw_good := lw_ins (q := (yX5_noteShare, 11)) (List.mem_of_getElem? (i := 29) (by decide +kernel))
theorem tw_623 : Cond.code yX5_noteShare cX5_noteShare 3 none ∈ lw_good := lw_in (List.mem_of_getElem? (i := 623) (by decide +kernel)) rfl
theorem kV_X5_59 : me_V RX5 59 yX5_noteShare cX5_noteShare 3 none 5 1 := ⟨⟨TX5, 11, rfl⟩, Or.inl tw_620, tw_622, ts_29, tw_12, tw_623, by decide +kernel, by decide +kernel, by decide +kernel, by decide⟩
theorem tw_624 : Cond.methodLink RX5 67 yJ6_bitCount_0f7a4 ∈ lw_good := lw_in (List.mem_of_getElem? (i := 624) (by decide +kernel)) rfl
theorem tw_20 : Cond.initialized RJ6 ∈ lw_good := lw_in (List.mem_of_getElem? (i := 20) (by decide +kernel)) rfl
theorem tw_625 : Cond.static yJ6_bitCount_0f7a4 ∈ lw_good := lw_in (List.mem_of_getElem? (i := 625) (by decide +kernel)) rfl
theorem tw_626 : Cond.code yJ6_bitCount_0f7a4 cJ6_bitCount_0f7a4 1 (some .int) ∈ lw_good := lw_in (List.mem_of_getElem? (i := 626) (by decide +kernel)) rfl
theorem kS_X5_67 : me_S RX5 67 yJ6_bitCount_0f7a4 cJ6_bitCount_0f7a4 1 (some .int) 1 := ⟨Or.inl tw_624, tw_625, tw_20, tw_626, by decide +kernel, by decide +kernel, by decide +kernel, by decide⟩
theorem tw_627 : Cond.constant RJ6 265 1431655765 ∈ lw_good := lw_in (List.mem_of_getElem? (i := 627) (by decide +kernel)) rfl
theorem tw_628 : Cond.constant RJ6 266 858993459 ∈ lw_good := lw_in (List.mem_of_getElem? (i := 628) (by decide +kernel)) rfl
theorem ic_4 : Int32.ofInt 4 = (4 : Int32) := by decide
theorem tw_629 : Cond.constant RJ6 267 252645135 ∈ lw_good := lw_in (List.mem_of_getElem? (i := 629) (by decide +kernel)) rfl
theorem ib_16 : (Int8.ofInt 16).toInt32 = (16 : Int32) := by decide
theorem ib_63 : (Int8.ofInt 63).toInt32 = (63 : Int32) := by decide
theorem plf_yJ6_bitCount_0f7a4 : plainFor yJ6_bitCount_0f7a4 = true := by decide +kernel
theorem kF_X5_41 : me_F RX5 41 5 7 := ⟨RX5, TX5, 11, rfl, by decide, inw5, Or.inl tw_393⟩
theorem kF_X5_47 : me_F RX5 47 5 9 := ⟨RX5, TX5, 11, rfl, by decide, inw5, Or.inl tw_397⟩
theorem kF_X5_50 : me_F RX5 50 5 10 := ⟨RX5, TX5, 11, rfl, by decide, inw5, Or.inl tw_399⟩
theorem kF_X5_44 : me_F RX5 44 5 8 := ⟨RX5, TX5, 11, rfl, by decide, inw5, Or.inl tw_395⟩
theorem tw_630 : Cond.methodLink RX5 63 yX5_nextShare ∈ lw_good := lw_in (List.mem_of_getElem? (i := 630) (by decide +kernel)) rfl
theorem tw_632 : Cond.instanceMethod yX5_nextShare ∈ lw_good := lw_in (List.mem_of_getElem? (i := 632) (by decide +kernel)) rfl
theorem ts_30 : Cond.selects RX5 yX5_nextShare yX5_nextShare ∈ lw_good := lw_ins (q := (yX5_nextShare, 11)) (List.mem_of_getElem? (i := 30) (by decide +kernel))
theorem tw_633 : Cond.code yX5_nextShare cX5_nextShare 3 (some .boolean) ∈ lw_good := lw_in (List.mem_of_getElem? (i := 633) (by decide +kernel)) rfl
theorem kV_X5_63 : me_V RX5 63 yX5_nextShare cX5_nextShare 3 (some .boolean) 5 1 := ⟨⟨TX5, 11, rfl⟩, Or.inl tw_630, tw_632, ts_30, tw_12, tw_633, by decide +kernel, by decide +kernel, by decide +kernel, by decide⟩
theorem kF_X5_73 : me_F RX5 73 5 6 := ⟨RX5, TX5, 11, rfl, by decide, inw5, Or.inl tw_392⟩
theorem tw_349 : Cond.fieldLink RX6 19 "BothEnds$SchemeReader" "end" "I" ∈ lw_good := lw_in (List.mem_of_getElem? (i := 349) (by decide +kernel)) rfl
theorem inw6 : ∀ w ∈ u_ws RX6 TX6 5, w ∈ lw_good := by decide +kernel
theorem kG_X6_19 : me_G RX6 19 6 1 .int := ⟨RX6, TX6, 5, tyX6, rfl, by decide, inw6, tyX6_ok, nmX6, rfl, by decide +kernel, Or.inl tw_349⟩
theorem tw_350 : Cond.fieldLink RX6 22 "BothEnds$SchemeReader" "at" "I" ∈ lw_good := lw_in (List.mem_of_getElem? (i := 350) (by decide +kernel)) rfl
theorem kG_X6_22 : me_G RX6 22 6 2 .int := ⟨RX6, TX6, 5, tyX6, rfl, by decide, inw6, tyX6_ok, nmX6, rfl, by decide +kernel, Or.inl tw_350⟩
theorem tw_351 : Cond.fieldLink RX6 25 "BothEnds$SchemeReader" "kind" "I" ∈ lw_good := lw_in (List.mem_of_getElem? (i := 351) (by decide +kernel)) rfl
theorem kG_X6_25 : me_G RX6 25 6 3 .int := ⟨RX6, TX6, 5, tyX6, rfl, by decide, inw6, tyX6_ok, nmX6, rfl, by decide +kernel, Or.inl tw_351⟩
theorem tw_353 : Cond.fieldLink RX6 15 "BothEnds$SchemeReader" "place" "I" ∈ lw_good := lw_in (List.mem_of_getElem? (i := 353) (by decide +kernel)) rfl
theorem kG_X6_15 : me_G RX6 15 6 4 .int := ⟨RX6, TX6, 5, tyX6, rfl, by decide, inw6, tyX6_ok, nmX6, rfl, by decide +kernel, Or.inl tw_353⟩
theorem tw_386 : Cond.fieldLinkNest RX6 28 "BothEnds$Scheme" "searches" "I" "BothEnds" ∈ lw_nest := lw_inn (List.mem_of_getElem? (i := 386) (by decide +kernel)) rfl
theorem kG_X6_28 : me_G RX6 28 5 4 .int := ⟨RX5, TX5, 11, tyX5, rfl, by decide, inw5, tyX5_ok, nmX5, rfl, by decide +kernel, Or.inr ⟨_, tw_386⟩⟩
theorem tw_752 : Cond.methodLink RX6 33 yX6_skipBlanks ∈ lw_good := lw_in (List.mem_of_getElem? (i := 752) (by decide +kernel)) rfl
theorem tw_11 : Cond.initialized RX6 ∈ lw_good := lw_in (List.mem_of_getElem? (i := 11) (by decide +kernel)) rfl
theorem tw_754 : Cond.instanceMethod yX6_skipBlanks ∈ lw_good := lw_in (List.mem_of_getElem? (i := 754) (by decide +kernel)) rfl
theorem ts_38 : Cond.selects RX6 yX6_skipBlanks yX6_skipBlanks ∈ lw_good := lw_ins (q := (yX6_skipBlanks, 5)) (List.mem_of_getElem? (i := 38) (by decide +kernel))
theorem tw_755 : Cond.code yX6_skipBlanks cX6_skipBlanks 1 none ∈ lw_good := lw_in (List.mem_of_getElem? (i := 755) (by decide +kernel)) rfl
theorem kV_X6_33 : me_V RX6 33 yX6_skipBlanks cX6_skipBlanks 1 none 6 0 := ⟨⟨TX6, 5, rfl⟩, Or.inl tw_752, tw_754, ts_38, tw_11, tw_755, by decide +kernel, by decide +kernel, by decide +kernel, by decide⟩
theorem kF_X6_22 : me_F RX6 22 6 2 := ⟨RX6, TX6, 5, rfl, by decide, inw6, Or.inl tw_350⟩
theorem kF_X6_19 : me_F RX6 19 6 1 := ⟨RX6, TX6, 5, rfl, by decide, inw6, Or.inl tw_349⟩
theorem tw_348 : Cond.fieldLink RX6 9 "BothEnds$SchemeReader" "tape" "LBothEnds$Tape;" ∈ lw_good := lw_in (List.mem_of_getElem? (i := 348) (by decide +kernel)) rfl
theorem kF_X6_9 : me_F RX6 9 6 0 := ⟨RX6, TX6, 5, rfl, by decide, inw6, Or.inl tw_348⟩
theorem tw_38 : Cond.fieldLinkNest RX6 104 "BothEnds$Tape" "bytes" "[I" "BothEnds" ∈ lw_nest := lw_inn (List.mem_of_getElem? (i := 38) (by decide +kernel)) rfl
theorem kF_X6_104 : me_F RX6 104 9 0 := ⟨RX9, TX9, 2, rfl, by decide, inw9, Or.inr ⟨_, tw_38⟩⟩
theorem ib_32 : (Int8.ofInt 32).toInt32 = (32 : Int32) := by decide
theorem pl_RX6 : plainName RX6 = true := by decide +kernel
theorem kF_X6_25 : me_F RX6 25 6 3 := ⟨RX6, TX6, 5, rfl, by decide, inw6, Or.inl tw_351⟩
theorem tw_756 : Cond.methodLink RX6 36 yX6_readSearch ∈ lw_good := lw_in (List.mem_of_getElem? (i := 756) (by decide +kernel)) rfl
theorem tw_758 : Cond.instanceMethod yX6_readSearch ∈ lw_good := lw_in (List.mem_of_getElem? (i := 758) (by decide +kernel)) rfl
theorem ts_39 : Cond.selects RX6 yX6_readSearch yX6_readSearch ∈ lw_good := lw_ins (q := (yX6_readSearch, 5)) (List.mem_of_getElem? (i := 39) (by decide +kernel))
theorem tw_759 : Cond.code yX6_readSearch cX6_readSearch 3 none ∈ lw_good := lw_in (List.mem_of_getElem? (i := 759) (by decide +kernel)) rfl
theorem kV_X6_36 : me_V RX6 36 yX6_readSearch cX6_readSearch 3 none 6 1 := ⟨⟨TX6, 5, rfl⟩, Or.inl tw_756, tw_758, ts_39, tw_11, tw_759, by decide +kernel, by decide +kernel, by decide +kernel, by decide⟩
theorem kF_X6_28 : me_F RX6 28 5 4 := ⟨RX5, TX5, 11, rfl, by decide, inw5, Or.inr ⟨_, tw_386⟩⟩
theorem tw_771 : Cond.methodLink RX6 48 yX6_readOrder ∈ lw_good := lw_in (List.mem_of_getElem? (i := 771) (by decide +kernel)) rfl
theorem tw_773 : Cond.instanceMethod yX6_readOrder ∈ lw_good := lw_in (List.mem_of_getElem? (i := 773) (by decide +kernel)) rfl
theorem ts_42 : Cond.selects RX6 yX6_readOrder yX6_readOrder ∈ lw_good := lw_ins (q := (yX6_readOrder, 5)) (List.mem_of_getElem? (i := 42) (by decide +kernel))
theorem tw_774 : Cond.code yX6_readOrder cX6_readOrder 5 (some .boolean) ∈ lw_good := lw_in (List.mem_of_getElem? (i := 774) (by decide +kernel)) rfl
theorem kV_X6_48 : me_V RX6 48 yX6_readOrder cX6_readOrder 5 (some .boolean) 6 1 := ⟨⟨TX6, 5, rfl⟩, Or.inl tw_771, tw_773, ts_42, tw_11, tw_774, by decide +kernel, by decide +kernel, by decide +kernel, by decide⟩
theorem tw_775 : Cond.methodLink RX6 64 yX6_digitsFrom ∈ lw_good := lw_in (List.mem_of_getElem? (i := 775) (by decide +kernel)) rfl
theorem tw_777 : Cond.instanceMethod yX6_digitsFrom ∈ lw_good := lw_in (List.mem_of_getElem? (i := 777) (by decide +kernel)) rfl
theorem ts_43 : Cond.selects RX6 yX6_digitsFrom yX6_digitsFrom ∈ lw_good := lw_ins (q := (yX6_digitsFrom, 5)) (List.mem_of_getElem? (i := 43) (by decide +kernel))
theorem tw_778 : Cond.code yX6_digitsFrom cX6_digitsFrom 3 (some .int) ∈ lw_good := lw_in (List.mem_of_getElem? (i := 778) (by decide +kernel)) rfl
theorem kV_X6_64 : me_V RX6 64 yX6_digitsFrom cX6_digitsFrom 3 (some .int) 6 0 := ⟨⟨TX6, 5, rfl⟩, Or.inl tw_775, tw_777, ts_43, tw_11, tw_778, by decide +kernel, by decide +kernel, by decide +kernel, by decide⟩
theorem tw_764 : Cond.methodLink RX6 109 yX6_isDigitByte ∈ lw_good := lw_in (List.mem_of_getElem? (i := 764) (by decide +kernel)) rfl
theorem tw_765 : Cond.static yX6_isDigitByte ∈ lw_good := lw_in (List.mem_of_getElem? (i := 765) (by decide +kernel)) rfl
theorem tw_766 : Cond.code yX6_isDigitByte cX6_isDigitByte 1 (some .boolean) ∈ lw_good := lw_in (List.mem_of_getElem? (i := 766) (by decide +kernel)) rfl
theorem kS_X6_109 : me_S RX6 109 yX6_isDigitByte cX6_isDigitByte 1 (some .boolean) 1 := ⟨Or.inl tw_764, tw_765, tw_11, tw_766, by decide +kernel, by decide +kernel, by decide +kernel, by decide⟩
theorem ib_48 : (Int8.ofInt 48).toInt32 = (48 : Int32) := by decide
theorem ib_57 : (Int8.ofInt 57).toInt32 = (57 : Int32) := by decide
theorem tw_779 : Cond.methodLink RX6 68 yJ9_min_7cf53 ∈ lw_good := lw_in (List.mem_of_getElem? (i := 779) (by decide +kernel)) rfl
theorem kS_X6_68 : me_S RX6 68 yJ9_min_7cf53 cJ9_min_7cf53 2 (some .int) 2 := ⟨Or.inl tw_779, tw_488, tw_13, tw_489, by decide +kernel, by decide +kernel, by decide +kernel, by decide⟩
theorem tw_390 : Cond.fieldLinkNest RX6 74 "BothEnds$Scheme" "parts" "I" "BothEnds" ∈ lw_nest := lw_inn (List.mem_of_getElem? (i := 390) (by decide +kernel)) rfl
theorem kG_X6_74 : me_G RX6 74 5 5 .int := ⟨RX5, TX5, 11, tyX5, rfl, by decide, inw5, tyX5_ok, nmX5, rfl, by decide +kernel, Or.inr ⟨_, tw_390⟩⟩
theorem kF_X6_74 : me_F RX6 74 5 5 := ⟨RX5, TX5, 11, rfl, by decide, inw5, Or.inr ⟨_, tw_390⟩⟩
theorem tw_760 : Cond.methodLink RX6 44 yX6_isDigit ∈ lw_good := lw_in (List.mem_of_getElem? (i := 760) (by decide +kernel)) rfl
theorem tw_762 : Cond.instanceMethod yX6_isDigit ∈ lw_good := lw_in (List.mem_of_getElem? (i := 762) (by decide +kernel)) rfl
theorem ts_40 : Cond.selects RX6 yX6_isDigit yX6_isDigit ∈ lw_good := lw_ins (q := (yX6_isDigit, 5)) (List.mem_of_getElem? (i := 40) (by decide +kernel))
theorem tw_763 : Cond.code yX6_isDigit cX6_isDigit 1 (some .boolean) ∈ lw_good := lw_in (List.mem_of_getElem? (i := 763) (by decide +kernel)) rfl
theorem kV_X6_44 : me_V RX6 44 yX6_isDigit cX6_isDigit 1 (some .boolean) 6 0 := ⟨⟨TX6, 5, rfl⟩, Or.inl tw_760, tw_762, ts_40, tw_11, tw_763, by decide +kernel, by decide +kernel, by decide +kernel, by decide⟩
theorem tw_780 : Cond.methodLink RX6 77 yX6_digitHere ∈ lw_good := lw_in (List.mem_of_getElem? (i := 780) (by decide +kernel)) rfl
theorem tw_782 : Cond.instanceMethod yX6_digitHere ∈ lw_good := lw_in (List.mem_of_getElem? (i := 782) (by decide +kernel)) rfl
theorem ts_44 : Cond.selects RX6 yX6_digitHere yX6_digitHere ∈ lw_good := lw_ins (q := (yX6_digitHere, 5)) (List.mem_of_getElem? (i := 44) (by decide +kernel))
theorem tw_783 : Cond.code yX6_digitHere cX6_digitHere 1 (some .int) ∈ lw_good := lw_in (List.mem_of_getElem? (i := 783) (by decide +kernel)) rfl
theorem kV_X6_77 : me_V RX6 77 yX6_digitHere cX6_digitHere 1 (some .int) 6 0 := ⟨⟨TX6, 5, rfl⟩, Or.inl tw_780, tw_782, ts_44, tw_11, tw_783, by decide +kernel, by decide +kernel, by decide +kernel, by decide⟩
theorem tw_784 : Cond.methodLink RX6 80 yX6_canFollow ∈ lw_good := lw_in (List.mem_of_getElem? (i := 784) (by decide +kernel)) rfl
theorem tw_785 : Cond.static yX6_canFollow ∈ lw_good := lw_in (List.mem_of_getElem? (i := 785) (by decide +kernel)) rfl
theorem tw_786 : Cond.code yX6_canFollow cX6_canFollow 4 (some .boolean) ∈ lw_good := lw_in (List.mem_of_getElem? (i := 786) (by decide +kernel)) rfl
theorem kS_X6_80 : me_S RX6 80 yX6_canFollow cX6_canFollow 4 (some .boolean) 3 := ⟨Or.inl tw_784, tw_785, tw_11, tw_786, by decide +kernel, by decide +kernel, by decide +kernel, by decide⟩
theorem tw_374 : Cond.fieldLinkNest RX6 84 "BothEnds$Scheme" "order" "[I" "BothEnds" ∈ lw_nest := lw_inn (List.mem_of_getElem? (i := 374) (by decide +kernel)) rfl
theorem kF_X6_84 : me_F RX6 84 5 0 := ⟨RX5, TX5, 11, rfl, by decide, inw5, Or.inr ⟨_, tw_374⟩⟩
theorem tw_767 : Cond.methodLink RX6 40 yX6_fail ∈ lw_good := lw_in (List.mem_of_getElem? (i := 767) (by decide +kernel)) rfl
theorem tw_769 : Cond.instanceMethod yX6_fail ∈ lw_good := lw_in (List.mem_of_getElem? (i := 769) (by decide +kernel)) rfl
theorem ts_41 : Cond.selects RX6 yX6_fail yX6_fail ∈ lw_good := lw_ins (q := (yX6_fail, 5)) (List.mem_of_getElem? (i := 41) (by decide +kernel))
theorem tw_770 : Cond.code yX6_fail cX6_fail 2 (some .boolean) ∈ lw_good := lw_in (List.mem_of_getElem? (i := 770) (by decide +kernel)) rfl
theorem kV_X6_40 : me_V RX6 40 yX6_fail cX6_fail 2 (some .boolean) 6 1 := ⟨⟨TX6, 5, rfl⟩, Or.inl tw_767, tw_769, ts_41, tw_11, tw_770, by decide +kernel, by decide +kernel, by decide +kernel, by decide⟩
theorem ic_3 : Int32.ofInt 3 = (3 : Int32) := by decide
theorem tw_787 : Cond.methodLink RX6 52 yX6_readGap ∈ lw_good := lw_in (List.mem_of_getElem? (i := 787) (by decide +kernel)) rfl
theorem tw_789 : Cond.instanceMethod yX6_readGap ∈ lw_good := lw_in (List.mem_of_getElem? (i := 789) (by decide +kernel)) rfl
theorem ts_45 : Cond.selects RX6 yX6_readGap yX6_readGap ∈ lw_good := lw_ins (q := (yX6_readGap, 5)) (List.mem_of_getElem? (i := 45) (by decide +kernel))
theorem tw_790 : Cond.code yX6_readGap cX6_readGap 1 (some .boolean) ∈ lw_good := lw_in (List.mem_of_getElem? (i := 790) (by decide +kernel)) rfl
theorem kV_X6_52 : me_V RX6 52 yX6_readGap cX6_readGap 1 (some .boolean) 6 0 := ⟨⟨TX6, 5, rfl⟩, Or.inl tw_787, tw_789, ts_45, tw_11, tw_790, by decide +kernel, by decide +kernel, by decide +kernel, by decide⟩
theorem tw_791 : Cond.methodLink RX6 101 yX6_isByte ∈ lw_good := lw_in (List.mem_of_getElem? (i := 791) (by decide +kernel)) rfl
theorem tw_793 : Cond.instanceMethod yX6_isByte ∈ lw_good := lw_in (List.mem_of_getElem? (i := 793) (by decide +kernel)) rfl
theorem ts_46 : Cond.selects RX6 yX6_isByte yX6_isByte ∈ lw_good := lw_ins (q := (yX6_isByte, 5)) (List.mem_of_getElem? (i := 46) (by decide +kernel))
theorem tw_794 : Cond.code yX6_isByte cX6_isByte 2 (some .boolean) ∈ lw_good := lw_in (List.mem_of_getElem? (i := 794) (by decide +kernel)) rfl
theorem kV_X6_101 : me_V RX6 101 yX6_isByte cX6_isByte 2 (some .boolean) 6 1 := ⟨⟨TX6, 5, rfl⟩, Or.inl tw_791, tw_793, ts_46, tw_11, tw_794, by decide +kernel, by decide +kernel, by decide +kernel, by decide⟩
theorem tw_795 : Cond.methodLink RX6 55 yX6_readLeast ∈ lw_good := lw_in (List.mem_of_getElem? (i := 795) (by decide +kernel)) rfl
theorem tw_797 : Cond.instanceMethod yX6_readLeast ∈ lw_good := lw_in (List.mem_of_getElem? (i := 797) (by decide +kernel)) rfl
theorem ts_47 : Cond.selects RX6 yX6_readLeast yX6_readLeast ∈ lw_good := lw_ins (q := (yX6_readLeast, 5)) (List.mem_of_getElem? (i := 47) (by decide +kernel))
theorem tw_798 : Cond.code yX6_readLeast cX6_readLeast 5 (some .boolean) ∈ lw_good := lw_in (List.mem_of_getElem? (i := 798) (by decide +kernel)) rfl
theorem kV_X6_55 : me_V RX6 55 yX6_readLeast cX6_readLeast 5 (some .boolean) 6 1 := ⟨⟨TX6, 5, rfl⟩, Or.inl tw_795, tw_797, ts_47, tw_11, tw_798, by decide +kernel, by decide +kernel, by decide +kernel, by decide⟩
theorem tw_799 : Cond.methodLink RX6 88 yX6_boundHere ∈ lw_good := lw_in (List.mem_of_getElem? (i := 799) (by decide +kernel)) rfl
theorem tw_801 : Cond.instanceMethod yX6_boundHere ∈ lw_good := lw_in (List.mem_of_getElem? (i := 801) (by decide +kernel)) rfl
theorem ts_48 : Cond.selects RX6 yX6_boundHere yX6_boundHere ∈ lw_good := lw_ins (q := (yX6_boundHere, 5)) (List.mem_of_getElem? (i := 48) (by decide +kernel))
theorem tw_802 : Cond.code yX6_boundHere cX6_boundHere 3 (some .int) ∈ lw_good := lw_in (List.mem_of_getElem? (i := 802) (by decide +kernel)) rfl
theorem kV_X6_88 : me_V RX6 88 yX6_boundHere cX6_boundHere 3 (some .int) 6 1 := ⟨⟨TX6, 5, rfl⟩, Or.inl tw_799, tw_801, ts_48, tw_11, tw_802, by decide +kernel, by decide +kernel, by decide +kernel, by decide⟩
theorem tw_378 : Cond.fieldLinkNest RX6 92 "BothEnds$Scheme" "least" "[I" "BothEnds" ∈ lw_nest := lw_inn (List.mem_of_getElem? (i := 378) (by decide +kernel)) rfl
theorem kF_X6_92 : me_F RX6 92 5 1 := ⟨RX5, TX5, 11, rfl, by decide, inw5, Or.inr ⟨_, tw_378⟩⟩
theorem tw_803 : Cond.methodLink RX6 58 yX6_readMost ∈ lw_good := lw_in (List.mem_of_getElem? (i := 803) (by decide +kernel)) rfl
theorem tw_805 : Cond.instanceMethod yX6_readMost ∈ lw_good := lw_in (List.mem_of_getElem? (i := 805) (by decide +kernel)) rfl
theorem ts_49 : Cond.selects RX6 yX6_readMost yX6_readMost ∈ lw_good := lw_ins (q := (yX6_readMost, 5)) (List.mem_of_getElem? (i := 49) (by decide +kernel))
theorem tw_806 : Cond.code yX6_readMost cX6_readMost 6 (some .boolean) ∈ lw_good := lw_in (List.mem_of_getElem? (i := 806) (by decide +kernel)) rfl
theorem kV_X6_58 : me_V RX6 58 yX6_readMost cX6_readMost 6 (some .boolean) 6 1 := ⟨⟨TX6, 5, rfl⟩, Or.inl tw_803, tw_805, ts_49, tw_11, tw_806, by decide +kernel, by decide +kernel, by decide +kernel, by decide⟩
theorem tw_807 : Cond.methodLink RX6 95 yJ9_max_7cf53 ∈ lw_good := lw_in (List.mem_of_getElem? (i := 807) (by decide +kernel)) rfl
theorem kS_X6_95 : me_S RX6 95 yJ9_max_7cf53 cJ9_max_7cf53 2 (some .int) 2 := ⟨Or.inl tw_807, tw_465, tw_13, tw_466, by decide +kernel, by decide +kernel, by decide +kernel, by decide⟩
theorem tw_382 : Cond.fieldLinkNest RX6 98 "BothEnds$Scheme" "most" "[I" "BothEnds" ∈ lw_nest := lw_inn (List.mem_of_getElem? (i := 382) (by decide +kernel)) rfl
theorem kF_X6_98 : me_F RX6 98 5 2 := ⟨RX5, TX5, 11, rfl, by decide, inw5, Or.inr ⟨_, tw_382⟩⟩
theorem tw_808 : Cond.methodLink RX6 61 yX6_readSemicolon ∈ lw_good := lw_in (List.mem_of_getElem? (i := 808) (by decide +kernel)) rfl
theorem tw_810 : Cond.instanceMethod yX6_readSemicolon ∈ lw_good := lw_in (List.mem_of_getElem? (i := 810) (by decide +kernel)) rfl
theorem ts_50 : Cond.selects RX6 yX6_readSemicolon yX6_readSemicolon ∈ lw_good := lw_ins (q := (yX6_readSemicolon, 5)) (List.mem_of_getElem? (i := 50) (by decide +kernel))
theorem tw_811 : Cond.code yX6_readSemicolon cX6_readSemicolon 1 (some .boolean) ∈ lw_good := lw_in (List.mem_of_getElem? (i := 811) (by decide +kernel)) rfl
theorem kV_X6_61 : me_V RX6 61 yX6_readSemicolon cX6_readSemicolon 1 (some .boolean) 6 0 := ⟨⟨TX6, 5, rfl⟩, Or.inl tw_808, tw_810, ts_50, tw_11, tw_811, by decide +kernel, by decide +kernel, by decide +kernel, by decide⟩
theorem ib_59 : (Int8.ofInt 59).toInt32 = (59 : Int32) := by decide
theorem tw_519 : Cond.fieldLink RX11 19 "BothEnds" "words" "LBothEnds$Text;" ∈ lw_good := lw_in (List.mem_of_getElem? (i := 519) (by decide +kernel)) rfl
theorem inw11 : ∀ w ∈ u_ws RX11 TX11 16, w ∈ lw_good := by decide +kernel
theorem kF_X11_19 : me_F RX11 19 11 1 := ⟨RX11, TX11, 16, rfl, by decide, inw11, Or.inl tw_519⟩
theorem tw_428 : Cond.methodLinkNest RX11 424 yX10_survey "BothEnds" ∈ lw_nest := lw_inn (List.mem_of_getElem? (i := 428) (by decide +kernel)) rfl
theorem tw_430 : Cond.instanceMethod yX10_survey ∈ lw_good := lw_in (List.mem_of_getElem? (i := 430) (by decide +kernel)) rfl
theorem ts_1 : Cond.selects RX10 yX10_survey yX10_survey ∈ lw_good := lw_ins (q := (yX10_survey, 8)) (List.mem_of_getElem? (i := 1) (by decide +kernel))
theorem tw_431 : Cond.code yX10_survey cX10_survey 1 none ∈ lw_good := lw_in (List.mem_of_getElem? (i := 431) (by decide +kernel)) rfl
theorem kV_X11_424 : me_V RX11 424 yX10_survey cX10_survey 1 none 10 0 := ⟨⟨TX10, 8, rfl⟩, Or.inr ⟨_, tw_428⟩, tw_430, ts_1, tw_3, tw_431, by decide +kernel, by decide +kernel, by decide +kernel, by decide⟩
theorem tw_520 : Cond.fieldLink RX11 32 "BothEnds" "forth" "LBothEnds$Rows;" ∈ lw_good := lw_in (List.mem_of_getElem? (i := 520) (by decide +kernel)) rfl
theorem kF_X11_32 : me_F RX11 32 11 2 := ⟨RX11, TX11, 16, rfl, by decide, inw11, Or.inl tw_520⟩
theorem tw_72 : Cond.fieldLinkNest RX11 176 "BothEnds$Text" "length" "I" "BothEnds" ∈ lw_nest := lw_inn (List.mem_of_getElem? (i := 72) (by decide +kernel)) rfl
theorem kF_X11_176 : me_F RX11 176 10 5 := ⟨RX10, TX10, 8, rfl, by decide, inw10, Or.inr ⟨_, tw_72⟩⟩
theorem tw_448 : Cond.methodLinkNest RX11 427 yX4_arrange "BothEnds" ∈ lw_nest := lw_inn (List.mem_of_getElem? (i := 448) (by decide +kernel)) rfl
theorem tw_450 : Cond.instanceMethod yX4_arrange ∈ lw_good := lw_in (List.mem_of_getElem? (i := 450) (by decide +kernel)) rfl
theorem ts_6 : Cond.selects RX4 yX4_arrange yX4_arrange ∈ lw_good := lw_ins (q := (yX4_arrange, 6)) (List.mem_of_getElem? (i := 6) (by decide +kernel))
theorem tw_451 : Cond.code yX4_arrange cX4_arrange 2 none ∈ lw_good := lw_in (List.mem_of_getElem? (i := 451) (by decide +kernel)) rfl
theorem kV_X11_427 : me_V RX11 427 yX4_arrange cX4_arrange 2 none 4 1 := ⟨⟨TX4, 6, rfl⟩, Or.inr ⟨_, tw_448⟩, tw_450, ts_6, tw_4, tw_451, by decide +kernel, by decide +kernel, by decide +kernel, by decide⟩
theorem tw_521 : Cond.fieldLink RX11 39 "BothEnds" "back" "LBothEnds$Rows;" ∈ lw_good := lw_in (List.mem_of_getElem? (i := 521) (by decide +kernel)) rfl
theorem kF_X11_39 : me_F RX11 39 11 3 := ⟨RX11, TX11, 16, rfl, by decide, inw11, Or.inl tw_521⟩
theorem tw_523 : Cond.fieldLink RX11 56 "BothEnds" "repeats" "LBothEnds$Repeats;" ∈ lw_good := lw_in (List.mem_of_getElem? (i := 523) (by decide +kernel)) rfl
theorem kF_X11_56 : me_F RX11 56 11 5 := ⟨RX11, TX11, 16, rfl, by decide, inw11, Or.inl tw_523⟩
theorem tw_475 : Cond.methodLinkNest RX11 430 yX2_listMaximals "BothEnds" ∈ lw_nest := lw_inn (List.mem_of_getElem? (i := 475) (by decide +kernel)) rfl
theorem tw_477 : Cond.instanceMethod yX2_listMaximals ∈ lw_good := lw_in (List.mem_of_getElem? (i := 477) (by decide +kernel)) rfl
theorem ts_12 : Cond.selects RX2 yX2_listMaximals yX2_listMaximals ∈ lw_good := lw_ins (q := (yX2_listMaximals, 6)) (List.mem_of_getElem? (i := 12) (by decide +kernel))
theorem tw_478 : Cond.code yX2_listMaximals cX2_listMaximals 3 none ∈ lw_good := lw_in (List.mem_of_getElem? (i := 478) (by decide +kernel)) rfl
theorem kV_X11_430 : me_V RX11 430 yX2_listMaximals cX2_listMaximals 3 none 2 0 := ⟨⟨TX2, 6, rfl⟩, Or.inr ⟨_, tw_475⟩, tw_477, ts_12, tw_7, tw_478, by decide +kernel, by decide +kernel, by decide +kernel, by decide⟩
theorem tw_522 : Cond.fieldLink RX11 47 "BothEnds" "cursor" "LBothEnds$Cursor;" ∈ lw_good := lw_in (List.mem_of_getElem? (i := 522) (by decide +kernel)) rfl
theorem kF_X11_47 : me_F RX11 47 11 4 := ⟨RX11, TX11, 16, rfl, by decide, inw11, Or.inl tw_522⟩
theorem tw_510 : Cond.methodLinkNest RX11 173 yX0_empty "BothEnds" ∈ lw_nest := lw_inn (List.mem_of_getElem? (i := 510) (by decide +kernel)) rfl
theorem tw_512 : Cond.instanceMethod yX0_empty ∈ lw_good := lw_in (List.mem_of_getElem? (i := 512) (by decide +kernel)) rfl
theorem ts_19 : Cond.selects RX0 yX0_empty yX0_empty ∈ lw_good := lw_ins (q := (yX0_empty, 5)) (List.mem_of_getElem? (i := 19) (by decide +kernel))
theorem tw_513 : Cond.code yX0_empty cX0_empty 1 none ∈ lw_good := lw_in (List.mem_of_getElem? (i := 513) (by decide +kernel)) rfl
theorem kV_X11_173 : me_V RX11 173 yX0_empty cX0_empty 1 none 0 0 := ⟨⟨TX0, 5, rfl⟩, Or.inr ⟨_, tw_510⟩, tw_512, ts_19, tw_5, tw_513, by decide +kernel, by decide +kernel, by decide +kernel, by decide⟩
theorem tw_528 : Cond.fieldLink RX11 97 "BothEnds" "plan" "LBothEnds$Scheme;" ∈ lw_good := lw_in (List.mem_of_getElem? (i := 528) (by decide +kernel)) rfl
theorem kF_X11_97 : me_F RX11 97 11 10 := ⟨RX11, TX11, 16, rfl, by decide, inw11, Or.inl tw_528⟩
theorem tw_387 : Cond.fieldLinkNest RX11 148 "BothEnds$Scheme" "searches" "I" "BothEnds" ∈ lw_nest := lw_inn (List.mem_of_getElem? (i := 387) (by decide +kernel)) rfl
theorem kF_X11_148 : me_F RX11 148 5 4 := ⟨RX5, TX5, 11, rfl, by decide, inw5, Or.inr ⟨_, tw_387⟩⟩
theorem tw_109 : Cond.fieldLinkNest RX11 232 "BothEnds$Rows" "rowOfPlace" "[I" "BothEnds" ∈ lw_nest := lw_inn (List.mem_of_getElem? (i := 109) (by decide +kernel)) rfl
theorem kF_X11_232 : me_F RX11 232 4 2 := ⟨RX4, TX4, 6, rfl, by decide, inw4, Or.inr ⟨_, tw_109⟩⟩
theorem tw_873 : Cond.methodLinkNest RX11 188 yX0_lowForth "BothEnds" ∈ lw_nest := lw_inn (List.mem_of_getElem? (i := 873) (by decide +kernel)) rfl
theorem tw_875 : Cond.instanceMethod yX0_lowForth ∈ lw_good := lw_in (List.mem_of_getElem? (i := 875) (by decide +kernel)) rfl
theorem ts_55 : Cond.selects RX0 yX0_lowForth yX0_lowForth ∈ lw_good := lw_ins (q := (yX0_lowForth, 5)) (List.mem_of_getElem? (i := 55) (by decide +kernel))
theorem tw_876 : Cond.code yX0_lowForth cX0_lowForth 1 (some .int) ∈ lw_good := lw_in (List.mem_of_getElem? (i := 876) (by decide +kernel)) rfl
theorem kV_X11_188 : me_V RX11 188 yX0_lowForth cX0_lowForth 1 (some .int) 0 0 := ⟨⟨TX0, 5, rfl⟩, Or.inr ⟨_, tw_873⟩, tw_875, ts_55, tw_5, tw_876, by decide +kernel, by decide +kernel, by decide +kernel, by decide⟩
theorem tw_881 : Cond.methodLinkNest RX11 194 yX0_size "BothEnds" ∈ lw_nest := lw_inn (List.mem_of_getElem? (i := 881) (by decide +kernel)) rfl
theorem kV_X11_194 : me_V RX11 194 yX0_size cX0_size 1 (some .int) 0 0 := ⟨⟨TX0, 5, rfl⟩, Or.inr ⟨_, tw_881⟩, tw_589, ts_23, tw_5, tw_590, by decide +kernel, by decide +kernel, by decide +kernel, by decide⟩
theorem tw_989 : Cond.methodLink RX11 450 yX11_isHit ∈ lw_good := lw_in (List.mem_of_getElem? (i := 989) (by decide +kernel)) rfl
theorem tw_991 : Cond.instanceMethod yX11_isHit ∈ lw_good := lw_in (List.mem_of_getElem? (i := 991) (by decide +kernel)) rfl
theorem ts_65 : Cond.selects RX11 yX11_isHit yX11_isHit ∈ lw_good := lw_ins (q := (yX11_isHit, 16)) (List.mem_of_getElem? (i := 65) (by decide +kernel))
theorem tw_992 : Cond.code yX11_isHit cX11_isHit 3 (some .boolean) ∈ lw_good := lw_in (List.mem_of_getElem? (i := 992) (by decide +kernel)) rfl
theorem kV_X11_450 : me_V RX11 450 yX11_isHit cX11_isHit 3 (some .boolean) 11 1 := ⟨⟨TX11, 16, rfl⟩, Or.inl tw_989, tw_991, ts_65, tw_1, tw_992, by decide +kernel, by decide +kernel, by decide +kernel, by decide⟩
theorem tw_985 : Cond.methodLink RX11 453 yX11_nextHit ∈ lw_good := lw_in (List.mem_of_getElem? (i := 985) (by decide +kernel)) rfl
theorem tw_987 : Cond.instanceMethod yX11_nextHit ∈ lw_good := lw_in (List.mem_of_getElem? (i := 987) (by decide +kernel)) rfl
theorem ts_64 : Cond.selects RX11 yX11_nextHit yX11_nextHit ∈ lw_good := lw_ins (q := (yX11_nextHit, 16)) (List.mem_of_getElem? (i := 64) (by decide +kernel))
theorem tw_988 : Cond.code yX11_nextHit cX11_nextHit 3 (some .int) ∈ lw_good := lw_in (List.mem_of_getElem? (i := 988) (by decide +kernel)) rfl
theorem kV_X11_453 : me_V RX11 453 yX11_nextHit cX11_nextHit 3 (some .int) 11 1 := ⟨⟨TX11, 16, rfl⟩, Or.inl tw_985, tw_987, ts_64, tw_1, tw_988, by decide +kernel, by decide +kernel, by decide +kernel, by decide⟩
theorem tw_75 : Cond.fieldLinkNest RX11 177 "BothEnds$Text" "documents" "I" "BothEnds" ∈ lw_nest := lw_inn (List.mem_of_getElem? (i := 75) (by decide +kernel)) rfl
theorem kF_X11_177 : me_F RX11 177 10 6 := ⟨RX10, TX10, 8, rfl, by decide, inw10, Or.inr ⟨_, tw_75⟩⟩
theorem tw_1004 : Cond.methodLink RX11 410 yX11_hitsIn ∈ lw_good := lw_in (List.mem_of_getElem? (i := 1004) (by decide +kernel)) rfl
theorem tw_1006 : Cond.instanceMethod yX11_hitsIn ∈ lw_good := lw_in (List.mem_of_getElem? (i := 1006) (by decide +kernel)) rfl
theorem ts_67 : Cond.selects RX11 yX11_hitsIn yX11_hitsIn ∈ lw_good := lw_ins (q := (yX11_hitsIn, 16)) (List.mem_of_getElem? (i := 67) (by decide +kernel))
theorem tw_1007 : Cond.code yX11_hitsIn cX11_hitsIn 4 (some .int) ∈ lw_good := lw_in (List.mem_of_getElem? (i := 1007) (by decide +kernel)) rfl
theorem kV_X11_410 : me_V RX11 410 yX11_hitsIn cX11_hitsIn 4 (some .int) 11 1 := ⟨⟨TX11, 16, rfl⟩, Or.inl tw_1004, tw_1006, ts_67, tw_1, tw_1007, by decide +kernel, by decide +kernel, by decide +kernel, by decide⟩
theorem tw_67 : Cond.fieldLinkNest RX11 250 "BothEnds$Text" "firstPlaces" "[I" "BothEnds" ∈ lw_nest := lw_inn (List.mem_of_getElem? (i := 67) (by decide +kernel)) rfl
theorem kF_X11_250 : me_F RX11 250 10 4 := ⟨RX10, TX10, 8, rfl, by decide, inw10, Or.inr ⟨_, tw_67⟩⟩
theorem tw_64 : Cond.fieldLinkNest RX11 247 "BothEnds$Text" "documentOf" "[I" "BothEnds" ∈ lw_nest := lw_inn (List.mem_of_getElem? (i := 64) (by decide +kernel)) rfl
theorem kF_X11_247 : me_F RX11 247 10 3 := ⟨RX10, TX10, 8, rfl, by decide, inw10, Or.inr ⟨_, tw_64⟩⟩
theorem tw_1012 : Cond.methodLink RX11 456 yJ9_min_7cf53 ∈ lw_good := lw_in (List.mem_of_getElem? (i := 1012) (by decide +kernel)) rfl
theorem kS_X11_456 : me_S RX11 456 yJ9_min_7cf53 cJ9_min_7cf53 2 (some .int) 2 := ⟨Or.inl tw_1012, tw_488, tw_13, tw_489, by decide +kernel, by decide +kernel, by decide +kernel, by decide⟩
theorem tw_1013 : Cond.methodLink RX11 461 yJ9_max_7cf53 ∈ lw_good := lw_in (List.mem_of_getElem? (i := 1013) (by decide +kernel)) rfl
theorem kS_X11_461 : me_S RX11 461 yJ9_max_7cf53 cJ9_max_7cf53 2 (some .int) 2 := ⟨Or.inl tw_1013, tw_465, tw_13, tw_466, by decide +kernel, by decide +kernel, by decide +kernel, by decide⟩
theorem tw_167 : Cond.fieldLinkNest RX11 161 "BothEnds$Cursor" "length" "I" "BothEnds" ∈ lw_nest := lw_inn (List.mem_of_getElem? (i := 167) (by decide +kernel)) rfl
theorem kF_X11_161 : me_F RX11 161 0 4 := ⟨RX0, TX0, 5, rfl, by decide, inw0, Or.inr ⟨_, tw_167⟩⟩
theorem tw_518 : Cond.fieldLink RX11 10 "BothEnds" "tape" "LBothEnds$Tape;" ∈ lw_good := lw_in (List.mem_of_getElem? (i := 518) (by decide +kernel)) rfl
theorem kF_X11_10 : me_F RX11 10 11 0 := ⟨RX11, TX11, 16, rfl, by decide, inw11, Or.inl tw_518⟩
theorem tw_39 : Cond.fieldLinkNest RX11 111 "BothEnds$Tape" "length" "I" "BothEnds" ∈ lw_nest := lw_inn (List.mem_of_getElem? (i := 39) (by decide +kernel)) rfl
theorem kF_X11_111 : me_F RX11 111 9 1 := ⟨RX9, TX9, 2, rfl, by decide, inw9, Or.inr ⟨_, tw_39⟩⟩
theorem ib_20 : (Int8.ofInt 20).toInt32 = (20 : Int32) := by decide
theorem tw_571 : Cond.methodLinkNest RX11 114 yX9_put "BothEnds" ∈ lw_nest := lw_inn (List.mem_of_getElem? (i := 571) (by decide +kernel)) rfl
theorem tw_573 : Cond.instanceMethod yX9_put ∈ lw_good := lw_in (List.mem_of_getElem? (i := 573) (by decide +kernel)) rfl
theorem ts_21 : Cond.selects RX9 yX9_put yX9_put ∈ lw_good := lw_ins (q := (yX9_put, 2)) (List.mem_of_getElem? (i := 21) (by decide +kernel))
theorem tw_574 : Cond.code yX9_put cX9_put 3 none ∈ lw_good := lw_in (List.mem_of_getElem? (i := 574) (by decide +kernel)) rfl
theorem kV_X11_114 : me_V RX11 114 yX9_put cX9_put 3 none 9 1 := ⟨⟨TX9, 2, rfl⟩, Or.inr ⟨_, tw_571⟩, tw_573, ts_21, tw_2, tw_574, by decide +kernel, by decide +kernel, by decide +kernel, by decide⟩
theorem tw_527 : Cond.fieldLink RX11 90 "BothEnds" "reader" "LBothEnds$SchemeReader;" ∈ lw_good := lw_in (List.mem_of_getElem? (i := 527) (by decide +kernel)) rfl
theorem kF_X11_90 : me_F RX11 90 11 9 := ⟨RX11, TX11, 16, rfl, by decide, inw11, Or.inl tw_527⟩
theorem tw_354 : Cond.fieldLinkNest RX11 151 "BothEnds$SchemeReader" "place" "I" "BothEnds" ∈ lw_nest := lw_inn (List.mem_of_getElem? (i := 354) (by decide +kernel)) rfl
theorem kF_X11_151 : me_F RX11 151 6 4 := ⟨RX6, TX6, 5, rfl, by decide, inw6, Or.inr ⟨_, tw_354⟩⟩
theorem tw_583 : Cond.methodLinkNest RX11 169 yX0_pop "BothEnds" ∈ lw_nest := lw_inn (List.mem_of_getElem? (i := 583) (by decide +kernel)) rfl
theorem tw_585 : Cond.instanceMethod yX0_pop ∈ lw_good := lw_in (List.mem_of_getElem? (i := 585) (by decide +kernel)) rfl
theorem ts_22 : Cond.selects RX0 yX0_pop yX0_pop ∈ lw_good := lw_ins (q := (yX0_pop, 5)) (List.mem_of_getElem? (i := 22) (by decide +kernel))
theorem tw_586 : Cond.code yX0_pop cX0_pop 1 (some .int) ∈ lw_good := lw_in (List.mem_of_getElem? (i := 586) (by decide +kernel)) rfl
theorem kV_X11_169 : me_V RX11 169 yX0_pop cX0_pop 1 (some .int) 0 0 := ⟨⟨TX0, 5, rfl⟩, Or.inr ⟨_, tw_583⟩, tw_585, ts_22, tw_5, tw_586, by decide +kernel, by decide +kernel, by decide +kernel, by decide⟩
theorem tw_599 : Cond.methodLinkNest RX11 266 yX5_surveyShares "BothEnds" ∈ lw_nest := lw_inn (List.mem_of_getElem? (i := 599) (by decide +kernel)) rfl
theorem tw_601 : Cond.instanceMethod yX5_surveyShares ∈ lw_good := lw_in (List.mem_of_getElem? (i := 601) (by decide +kernel)) rfl
theorem ts_24 : Cond.selects RX5 yX5_surveyShares yX5_surveyShares ∈ lw_good := lw_ins (q := (yX5_surveyShares, 11)) (List.mem_of_getElem? (i := 24) (by decide +kernel))
theorem tw_602 : Cond.code yX5_surveyShares cX5_surveyShares 4 none ∈ lw_good := lw_in (List.mem_of_getElem? (i := 602) (by decide +kernel)) rfl
theorem kV_X11_266 : me_V RX11 266 yX5_surveyShares cX5_surveyShares 4 none 5 0 := ⟨⟨TX5, 11, rfl⟩, Or.inr ⟨_, tw_599⟩, tw_601, ts_24, tw_12, tw_602, by decide +kernel, by decide +kernel, by decide +kernel, by decide⟩
theorem tw_396 : Cond.fieldLinkNest RX11 272 "BothEnds$Scheme" "uncovered" "I" "BothEnds" ∈ lw_nest := lw_inn (List.mem_of_getElem? (i := 396) (by decide +kernel)) rfl
theorem kF_X11_272 : me_F RX11 272 5 8 := ⟨RX5, TX5, 11, rfl, by decide, inw5, Or.inr ⟨_, tw_396⟩⟩
theorem tw_398 : Cond.fieldLinkNest RX11 275 "BothEnds$Scheme" "coveredTwice" "I" "BothEnds" ∈ lw_nest := lw_inn (List.mem_of_getElem? (i := 398) (by decide +kernel)) rfl
theorem kF_X11_275 : me_F RX11 275 5 9 := ⟨RX5, TX5, 11, rfl, by decide, inw5, Or.inr ⟨_, tw_398⟩⟩
theorem tw_400 : Cond.fieldLinkNest RX11 278 "BothEnds$Scheme" "needed" "I" "BothEnds" ∈ lw_nest := lw_inn (List.mem_of_getElem? (i := 400) (by decide +kernel)) rfl
theorem kF_X11_278 : me_F RX11 278 5 10 := ⟨RX5, TX5, 11, rfl, by decide, inw5, Or.inr ⟨_, tw_400⟩⟩
theorem tw_531 : Cond.fieldLink RX11 415 "BothEnds" "missingElements" "I" ∈ lw_good := lw_in (List.mem_of_getElem? (i := 531) (by decide +kernel)) rfl
theorem kF_X11_415 : me_F RX11 415 11 13 := ⟨RX11, TX11, 16, rfl, by decide, inw11, Or.inl tw_531⟩
theorem tw_532 : Cond.fieldLink RX11 418 "BothEnds" "wrongArguments" "I" ∈ lw_good := lw_in (List.mem_of_getElem? (i := 532) (by decide +kernel)) rfl
theorem kF_X11_418 : me_F RX11 418 11 14 := ⟨RX11, TX11, 16, rfl, by decide, inw11, Or.inl tw_532⟩
theorem tw_533 : Cond.fieldLink RX11 421 "BothEnds" "wrongStates" "I" ∈ lw_good := lw_in (List.mem_of_getElem? (i := 533) (by decide +kernel)) rfl
theorem kF_X11_421 : me_F RX11 421 11 15 := ⟨RX11, TX11, 16, rfl, by decide, inw11, Or.inl tw_533⟩
theorem tw_1318 : Cond.fieldLink RX12 105 "BothEndsModel" "thrown" "I" ∈ lw_good := lw_in (List.mem_of_getElem? (i := 1318) (by decide +kernel)) rfl
theorem inw12 : ∀ w ∈ u_ws RX12 TX12 43, w ∈ lw_good := by decide +kernel
theorem kF_X12_105 : me_F RX12 105 12 0 := ⟨RX12, TX12, 43, rfl, by decide, inw12, Or.inl tw_1318⟩
theorem pl_RX12 : plainName RX12 = true := by decide +kernel
theorem kG_X12_105 : me_G RX12 105 12 0 .int := ⟨RX12, TX12, 43, tyX12, rfl, by decide, inw12, tyX12_ok, nmX12, rfl, by decide +kernel, Or.inl tw_1318⟩
theorem tw_1319 : Cond.fieldLink RX12 7 "BothEndsModel" "refused" "[I" ∈ lw_good := lw_in (List.mem_of_getElem? (i := 1319) (by decide +kernel)) rfl
theorem kF_X12_7 : me_F RX12 7 12 1 := ⟨RX12, TX12, 43, rfl, by decide, inw12, Or.inl tw_1319⟩
theorem ib_104 : (Int8.ofInt 104).toInt32 = (104 : Int32) := by decide
theorem tw_1460 : Cond.methodLink RX12 108 yX12_in ∈ lw_good := lw_in (List.mem_of_getElem? (i := 1460) (by decide +kernel)) rfl
theorem tw_14 : Cond.initialized RX12 ∈ lw_good := lw_in (List.mem_of_getElem? (i := 14) (by decide +kernel)) rfl
theorem tw_1461 : Cond.static yX12_in ∈ lw_good := lw_in (List.mem_of_getElem? (i := 1461) (by decide +kernel)) rfl
theorem tw_1462 : Cond.code yX12_in cX12_in 3 (some .boolean) ∈ lw_good := lw_in (List.mem_of_getElem? (i := 1462) (by decide +kernel)) rfl
theorem kS_X12_108 : me_S RX12 108 yX12_in cX12_in 3 (some .boolean) 3 := ⟨Or.inl tw_1460, tw_1461, tw_14, tw_1462, by decide +kernel, by decide +kernel, by decide +kernel, by decide⟩
theorem tw_1323 : Cond.fieldLink RX12 20 "BothEndsModel" "n" "I" ∈ lw_good := lw_in (List.mem_of_getElem? (i := 1323) (by decide +kernel)) rfl
theorem kF_X12_20 : me_F RX12 20 12 5 := ⟨RX12, TX12, 43, rfl, by decide, inw12, Or.inl tw_1323⟩
theorem tw_1325 : Cond.fieldLink RX12 28 "BothEndsModel" "text" "[[I" ∈ lw_good := lw_in (List.mem_of_getElem? (i := 1325) (by decide +kernel)) rfl
theorem kF_X12_28 : me_F RX12 28 12 7 := ⟨RX12, TX12, 43, rfl, by decide, inw12, Or.inl tw_1325⟩
theorem tw_1326 : Cond.fieldLink RX12 31 "BothEndsModel" "at" "[[I" ∈ lw_good := lw_in (List.mem_of_getElem? (i := 1326) (by decide +kernel)) rfl
theorem kF_X12_31 : me_F RX12 31 12 8 := ⟨RX12, TX12, 43, rfl, by decide, inw12, Or.inl tw_1326⟩
theorem tw_1314 : Cond.methodLink RX12 112 yX12_isAhead ∈ lw_good := lw_in (List.mem_of_getElem? (i := 1314) (by decide +kernel)) rfl
theorem tw_1316 : Cond.instanceMethod yX12_isAhead ∈ lw_good := lw_in (List.mem_of_getElem? (i := 1316) (by decide +kernel)) rfl
theorem ts_105 : Cond.selects RX12 yX12_isAhead yX12_isAhead ∈ lw_good := lw_ins (q := (yX12_isAhead, 43)) (List.mem_of_getElem? (i := 105) (by decide +kernel))
theorem tw_1317 : Cond.code yX12_isAhead cX12_isAhead 7 (some .boolean) ∈ lw_good := lw_in (List.mem_of_getElem? (i := 1317) (by decide +kernel)) rfl
theorem kV_X12_112 : me_V RX12 112 yX12_isAhead cX12_isAhead 7 (some .boolean) 12 3 := ⟨⟨TX12, 43, rfl⟩, Or.inl tw_1314, tw_1316, ts_105, tw_14, tw_1317, by decide +kernel, by decide +kernel, by decide +kernel, by decide⟩
theorem tw_1327 : Cond.fieldLink RX12 34 "BothEndsModel" "rowAt" "[[I" ∈ lw_good := lw_in (List.mem_of_getElem? (i := 1327) (by decide +kernel)) rfl
theorem kF_X12_34 : me_F RX12 34 12 9 := ⟨RX12, TX12, 43, rfl, by decide, inw12, Or.inl tw_1327⟩
theorem tw_1320 : Cond.fieldLink RX12 115 "BothEndsModel" "tape" "I" ∈ lw_good := lw_in (List.mem_of_getElem? (i := 1320) (by decide +kernel)) rfl
theorem kF_X12_115 : me_F RX12 115 12 2 := ⟨RX12, TX12, 43, rfl, by decide, inw12, Or.inl tw_1320⟩
theorem ib_12 : (Int8.ofInt 12).toInt32 = (12 : Int32) := by decide
theorem tw_1322 : Cond.fieldLink RX12 17 "BothEndsModel" "fed" "[I" ∈ lw_good := lw_in (List.mem_of_getElem? (i := 1322) (by decide +kernel)) rfl
theorem kF_X12_17 : me_F RX12 17 12 4 := ⟨RX12, TX12, 43, rfl, by decide, inw12, Or.inl tw_1322⟩
theorem kG_X12_115 : me_G RX12 115 12 2 .int := ⟨RX12, TX12, 43, tyX12, rfl, by decide, inw12, tyX12_ok, nmX12, rfl, by decide +kernel, Or.inl tw_1320⟩
theorem tw_1471 : Cond.methodLink RX12 118 yX12_isLetter ∈ lw_good := lw_in (List.mem_of_getElem? (i := 1471) (by decide +kernel)) rfl
theorem tw_1472 : Cond.static yX12_isLetter ∈ lw_good := lw_in (List.mem_of_getElem? (i := 1472) (by decide +kernel)) rfl
theorem tw_1473 : Cond.code yX12_isLetter cX12_isLetter 1 (some .boolean) ∈ lw_good := lw_in (List.mem_of_getElem? (i := 1473) (by decide +kernel)) rfl
theorem kS_X12_118 : me_S RX12 118 yX12_isLetter cX12_isLetter 1 (some .boolean) 1 := ⟨Or.inl tw_1471, tw_1472, tw_14, tw_1473, by decide +kernel, by decide +kernel, by decide +kernel, by decide⟩
theorem tw_1463 : Cond.methodLink RX12 122 yX12_bad ∈ lw_good := lw_in (List.mem_of_getElem? (i := 1463) (by decide +kernel)) rfl
theorem tw_1465 : Cond.instanceMethod yX12_bad ∈ lw_good := lw_in (List.mem_of_getElem? (i := 1465) (by decide +kernel)) rfl
theorem ts_106 : Cond.selects RX12 yX12_bad yX12_bad ∈ lw_good := lw_ins (q := (yX12_bad, 43)) (List.mem_of_getElem? (i := 106) (by decide +kernel))
theorem tw_1466 : Cond.code yX12_bad cX12_bad 4 (some .boolean) ∈ lw_good := lw_in (List.mem_of_getElem? (i := 1466) (by decide +kernel)) rfl
theorem kV_X12_122 : me_V RX12 122 yX12_bad cX12_bad 4 (some .boolean) 12 3 := ⟨⟨TX12, 43, rfl⟩, Or.inl tw_1463, tw_1465, ts_106, tw_14, tw_1466, by decide +kernel, by decide +kernel, by decide +kernel, by decide⟩
theorem tw_1467 : Cond.methodLink RX12 126 yX12_wrongAt ∈ lw_good := lw_in (List.mem_of_getElem? (i := 1467) (by decide +kernel)) rfl
theorem tw_1469 : Cond.instanceMethod yX12_wrongAt ∈ lw_good := lw_in (List.mem_of_getElem? (i := 1469) (by decide +kernel)) rfl
theorem ts_107 : Cond.selects RX12 yX12_wrongAt yX12_wrongAt ∈ lw_good := lw_ins (q := (yX12_wrongAt, 43)) (List.mem_of_getElem? (i := 107) (by decide +kernel))
theorem tw_1470 : Cond.code yX12_wrongAt cX12_wrongAt 3 (some .int) ∈ lw_good := lw_in (List.mem_of_getElem? (i := 1470) (by decide +kernel)) rfl
theorem kV_X12_126 : me_V RX12 126 yX12_wrongAt cX12_wrongAt 3 (some .int) 12 1 := ⟨⟨TX12, 43, rfl⟩, Or.inl tw_1467, tw_1469, ts_107, tw_14, tw_1470, by decide +kernel, by decide +kernel, by decide +kernel, by decide⟩
theorem kG_X12_20 : me_G RX12 20 12 5 .int := ⟨RX12, TX12, 43, tyX12, rfl, by decide, inw12, tyX12_ok, nmX12, rfl, by decide +kernel, Or.inl tw_1323⟩
theorem tw_1310 : Cond.methodLink RX12 102 yX12_laysRows ∈ lw_good := lw_in (List.mem_of_getElem? (i := 1310) (by decide +kernel)) rfl
theorem tw_1312 : Cond.instanceMethod yX12_laysRows ∈ lw_good := lw_in (List.mem_of_getElem? (i := 1312) (by decide +kernel)) rfl
theorem ts_104 : Cond.selects RX12 yX12_laysRows yX12_laysRows ∈ lw_good := lw_ins (q := (yX12_laysRows, 43)) (List.mem_of_getElem? (i := 104) (by decide +kernel))
theorem tw_1313 : Cond.code yX12_laysRows cX12_laysRows 4 none ∈ lw_good := lw_in (List.mem_of_getElem? (i := 1313) (by decide +kernel)) rfl
theorem kV_X12_102 : me_V RX12 102 yX12_laysRows cX12_laysRows 4 none 12 0 := ⟨⟨TX12, 43, rfl⟩, Or.inl tw_1310, tw_1312, ts_104, tw_14, tw_1313, by decide +kernel, by decide +kernel, by decide +kernel, by decide⟩
theorem ib_42 : (Int8.ofInt 42).toInt32 = (42 : Int32) := by decide
theorem tw_1328 : Cond.fieldLink RX12 37 "BothEndsModel" "low" "I" ∈ lw_good := lw_in (List.mem_of_getElem? (i := 1328) (by decide +kernel)) rfl
theorem kG_X12_37 : me_G RX12 37 12 10 .int := ⟨RX12, TX12, 43, tyX12, rfl, by decide, inw12, tyX12_ok, nmX12, rfl, by decide +kernel, Or.inl tw_1328⟩
theorem tw_1329 : Cond.fieldLink RX12 40 "BothEndsModel" "high" "I" ∈ lw_good := lw_in (List.mem_of_getElem? (i := 1329) (by decide +kernel)) rfl
theorem kG_X12_40 : me_G RX12 40 12 11 .int := ⟨RX12, TX12, 43, tyX12, rfl, by decide, inw12, tyX12_ok, nmX12, rfl, by decide +kernel, Or.inl tw_1329⟩
theorem tw_1335 : Cond.fieldLink RX12 130 "BothEndsModel" "hasResult" "Z" ∈ lw_good := lw_in (List.mem_of_getElem? (i := 1335) (by decide +kernel)) rfl
theorem kG_X12_130 : me_G RX12 130 12 17 .boolean := ⟨RX12, TX12, 43, tyX12, rfl, by decide, inw12, tyX12_ok, nmX12, rfl, by decide +kernel, Or.inl tw_1335⟩
theorem tw_1356 : Cond.fieldLink RX12 134 "BothEndsModel" "matched" "I" ∈ lw_good := lw_in (List.mem_of_getElem? (i := 1356) (by decide +kernel)) rfl
theorem kG_X12_134 : me_G RX12 134 12 38 .int := ⟨RX12, TX12, 43, tyX12, rfl, by decide, inw12, tyX12_ok, nmX12, rfl, by decide +kernel, Or.inl tw_1356⟩
theorem tw_1343 : Cond.fieldLink RX12 137 "BothEndsModel" "spot" "I" ∈ lw_good := lw_in (List.mem_of_getElem? (i := 1343) (by decide +kernel)) rfl
theorem kF_X12_137 : me_F RX12 137 12 25 := ⟨RX12, TX12, 43, rfl, by decide, inw12, Or.inl tw_1343⟩
theorem tw_1342 : Cond.fieldLink RX12 140 "BothEndsModel" "size" "I" ∈ lw_good := lw_in (List.mem_of_getElem? (i := 1342) (by decide +kernel)) rfl
theorem kF_X12_140 : me_F RX12 140 12 24 := ⟨RX12, TX12, 43, rfl, by decide, inw12, Or.inl tw_1342⟩
theorem tw_1344 : Cond.fieldLink RX12 143 "BothEndsModel" "fault" "I" ∈ lw_good := lw_in (List.mem_of_getElem? (i := 1344) (by decide +kernel)) rfl
theorem kF_X12_143 : me_F RX12 143 12 26 := ⟨RX12, TX12, 43, rfl, by decide, inw12, Or.inl tw_1344⟩
theorem kG_X12_143 : me_G RX12 143 12 26 .int := ⟨RX12, TX12, 43, tyX12, rfl, by decide, inw12, tyX12_ok, nmX12, rfl, by decide +kernel, Or.inl tw_1344⟩
theorem tw_1345 : Cond.fieldLink RX12 146 "BothEndsModel" "faultAt" "I" ∈ lw_good := lw_in (List.mem_of_getElem? (i := 1345) (by decide +kernel)) rfl
theorem kG_X12_146 : me_G RX12 146 12 27 .int := ⟨RX12, TX12, 43, tyX12, rfl, by decide, inw12, tyX12_ok, nmX12, rfl, by decide +kernel, Or.inl tw_1345⟩
theorem tw_1482 : Cond.methodLink RX12 149 yX12_here ∈ lw_good := lw_in (List.mem_of_getElem? (i := 1482) (by decide +kernel)) rfl
theorem tw_1484 : Cond.instanceMethod yX12_here ∈ lw_good := lw_in (List.mem_of_getElem? (i := 1484) (by decide +kernel)) rfl
theorem ts_109 : Cond.selects RX12 yX12_here yX12_here ∈ lw_good := lw_ins (q := (yX12_here, 43)) (List.mem_of_getElem? (i := 109) (by decide +kernel))
theorem tw_1485 : Cond.code yX12_here cX12_here 1 (some .int) ∈ lw_good := lw_in (List.mem_of_getElem? (i := 1485) (by decide +kernel)) rfl
theorem kV_X12_149 : me_V RX12 149 yX12_here cX12_here 1 (some .int) 12 0 := ⟨⟨TX12, 43, rfl⟩, Or.inl tw_1482, tw_1484, ts_109, tw_14, tw_1485, by decide +kernel, by decide +kernel, by decide +kernel, by decide⟩
theorem kG_X12_137 : me_G RX12 137 12 25 .int := ⟨RX12, TX12, 43, tyX12, rfl, by decide, inw12, tyX12_ok, nmX12, rfl, by decide +kernel, Or.inl tw_1343⟩
theorem tw_1334 : Cond.fieldLink RX12 57 "BothEndsModel" "digits" "[[[[I" ∈ lw_good := lw_in (List.mem_of_getElem? (i := 1334) (by decide +kernel)) rfl
theorem kF_X12_57 : me_F RX12 57 12 16 := ⟨RX12, TX12, 43, rfl, by decide, inw12, Or.inl tw_1334⟩
theorem tw_1508 : Cond.methodLink RX12 172 yX12_readsRow ∈ lw_good := lw_in (List.mem_of_getElem? (i := 1508) (by decide +kernel)) rfl
theorem tw_1510 : Cond.instanceMethod yX12_readsRow ∈ lw_good := lw_in (List.mem_of_getElem? (i := 1510) (by decide +kernel)) rfl
theorem ts_114 : Cond.selects RX12 yX12_readsRow yX12_readsRow ∈ lw_good := lw_ins (q := (yX12_readsRow, 43)) (List.mem_of_getElem? (i := 114) (by decide +kernel))
theorem tw_1511 : Cond.code yX12_readsRow cX12_readsRow 6 none ∈ lw_good := lw_in (List.mem_of_getElem? (i := 1511) (by decide +kernel)) rfl
theorem kV_X12_172 : me_V RX12 172 yX12_readsRow cX12_readsRow 6 none 12 2 := ⟨⟨TX12, 43, rfl⟩, Or.inl tw_1508, tw_1510, ts_114, tw_14, tw_1511, by decide +kernel, by decide +kernel, by decide +kernel, by decide⟩
theorem tw_1333 : Cond.fieldLink RX12 52 "BothEndsModel" "parts" "[I" ∈ lw_good := lw_in (List.mem_of_getElem? (i := 1333) (by decide +kernel)) rfl
theorem kF_X12_52 : me_F RX12 52 12 15 := ⟨RX12, TX12, 43, rfl, by decide, inw12, Or.inl tw_1333⟩
theorem tw_1490 : Cond.methodLink RX12 164 yX12_fine ∈ lw_good := lw_in (List.mem_of_getElem? (i := 1490) (by decide +kernel)) rfl
theorem tw_1492 : Cond.instanceMethod yX12_fine ∈ lw_good := lw_in (List.mem_of_getElem? (i := 1492) (by decide +kernel)) rfl
theorem ts_111 : Cond.selects RX12 yX12_fine yX12_fine ∈ lw_good := lw_ins (q := (yX12_fine, 43)) (List.mem_of_getElem? (i := 111) (by decide +kernel))
theorem tw_1493 : Cond.code yX12_fine cX12_fine 1 (some .boolean) ∈ lw_good := lw_in (List.mem_of_getElem? (i := 1493) (by decide +kernel)) rfl
theorem kV_X12_164 : me_V RX12 164 yX12_fine cX12_fine 1 (some .boolean) 12 0 := ⟨⟨TX12, 43, rfl⟩, Or.inl tw_1490, tw_1492, ts_111, tw_14, tw_1493, by decide +kernel, by decide +kernel, by decide +kernel, by decide⟩
theorem tw_1494 : Cond.methodLink RX12 153 yX12_isDigit ∈ lw_good := lw_in (List.mem_of_getElem? (i := 1494) (by decide +kernel)) rfl
theorem tw_1495 : Cond.static yX12_isDigit ∈ lw_good := lw_in (List.mem_of_getElem? (i := 1495) (by decide +kernel)) rfl
theorem tw_1496 : Cond.code yX12_isDigit cX12_isDigit 1 (some .boolean) ∈ lw_good := lw_in (List.mem_of_getElem? (i := 1496) (by decide +kernel)) rfl
theorem kS_X12_153 : me_S RX12 153 yX12_isDigit cX12_isDigit 1 (some .boolean) 1 := ⟨Or.inl tw_1494, tw_1495, tw_14, tw_1496, by decide +kernel, by decide +kernel, by decide +kernel, by decide⟩
theorem tw_1486 : Cond.methodLink RX12 160 yX12_wrong ∈ lw_good := lw_in (List.mem_of_getElem? (i := 1486) (by decide +kernel)) rfl
theorem tw_1488 : Cond.instanceMethod yX12_wrong ∈ lw_good := lw_in (List.mem_of_getElem? (i := 1488) (by decide +kernel)) rfl
theorem ts_110 : Cond.selects RX12 yX12_wrong yX12_wrong ∈ lw_good := lw_ins (q := (yX12_wrong, 43)) (List.mem_of_getElem? (i := 110) (by decide +kernel))
theorem tw_1489 : Cond.code yX12_wrong cX12_wrong 3 none ∈ lw_good := lw_in (List.mem_of_getElem? (i := 1489) (by decide +kernel)) rfl
theorem kV_X12_160 : me_V RX12 160 yX12_wrong cX12_wrong 3 none 12 2 := ⟨⟨TX12, 43, rfl⟩, Or.inl tw_1486, tw_1488, ts_110, tw_14, tw_1489, by decide +kernel, by decide +kernel, by decide +kernel, by decide⟩
theorem tw_1505 : Cond.methodLink RX12 156 yX12_isNext ∈ lw_good := lw_in (List.mem_of_getElem? (i := 1505) (by decide +kernel)) rfl
theorem tw_1506 : Cond.static yX12_isNext ∈ lw_good := lw_in (List.mem_of_getElem? (i := 1506) (by decide +kernel)) rfl
theorem tw_1507 : Cond.code yX12_isNext cX12_isNext 6 (some .boolean) ∈ lw_good := lw_in (List.mem_of_getElem? (i := 1507) (by decide +kernel)) rfl
theorem kS_X12_156 : me_S RX12 156 yX12_isNext cX12_isNext 6 (some .boolean) 3 := ⟨Or.inl tw_1505, tw_1506, tw_14, tw_1507, by decide +kernel, by decide +kernel, by decide +kernel, by decide⟩
theorem tw_1501 : Cond.methodLink RX12 168 yX12_readsFirstOrder ∈ lw_good := lw_in (List.mem_of_getElem? (i := 1501) (by decide +kernel)) rfl
theorem tw_1503 : Cond.instanceMethod yX12_readsFirstOrder ∈ lw_good := lw_in (List.mem_of_getElem? (i := 1503) (by decide +kernel)) rfl
theorem ts_113 : Cond.selects RX12 yX12_readsFirstOrder yX12_readsFirstOrder ∈ lw_good := lw_ins (q := (yX12_readsFirstOrder, 43)) (List.mem_of_getElem? (i := 113) (by decide +kernel))
theorem tw_1504 : Cond.code yX12_readsFirstOrder cX12_readsFirstOrder 5 none ∈ lw_good := lw_in (List.mem_of_getElem? (i := 1504) (by decide +kernel)) rfl
theorem kV_X12_168 : me_V RX12 168 yX12_readsFirstOrder cX12_readsFirstOrder 5 none 12 1 := ⟨⟨TX12, 43, rfl⟩, Or.inl tw_1501, tw_1503, ts_113, tw_14, tw_1504, by decide +kernel, by decide +kernel, by decide +kernel, by decide⟩
theorem tw_1478 : Cond.methodLink RX12 176 yX12_blanks ∈ lw_good := lw_in (List.mem_of_getElem? (i := 1478) (by decide +kernel)) rfl
theorem tw_1480 : Cond.instanceMethod yX12_blanks ∈ lw_good := lw_in (List.mem_of_getElem? (i := 1480) (by decide +kernel)) rfl
theorem ts_108 : Cond.selects RX12 yX12_blanks yX12_blanks ∈ lw_good := lw_ins (q := (yX12_blanks, 43)) (List.mem_of_getElem? (i := 108) (by decide +kernel))
theorem tw_1481 : Cond.code yX12_blanks cX12_blanks 1 none ∈ lw_good := lw_in (List.mem_of_getElem? (i := 1481) (by decide +kernel)) rfl
theorem kV_X12_176 : me_V RX12 176 yX12_blanks cX12_blanks 1 none 12 0 := ⟨⟨TX12, 43, rfl⟩, Or.inl tw_1478, tw_1480, ts_108, tw_14, tw_1481, by decide +kernel, by decide +kernel, by decide +kernel, by decide⟩
theorem kG_X12_140 : me_G RX12 140 12 24 .int := ⟨RX12, TX12, 43, tyX12, rfl, by decide, inw12, tyX12_ok, nmX12, rfl, by decide +kernel, Or.inl tw_1342⟩
theorem tw_1332 : Cond.fieldLink RX12 49 "BothEndsModel" "searches" "[I" ∈ lw_good := lw_in (List.mem_of_getElem? (i := 1332) (by decide +kernel)) rfl
theorem kF_X12_49 : me_F RX12 49 12 14 := ⟨RX12, TX12, 43, rfl, by decide, inw12, Or.inl tw_1332⟩
theorem tw_1497 : Cond.methodLink RX12 179 yX12_readsSearch ∈ lw_good := lw_in (List.mem_of_getElem? (i := 1497) (by decide +kernel)) rfl
theorem tw_1499 : Cond.instanceMethod yX12_readsSearch ∈ lw_good := lw_in (List.mem_of_getElem? (i := 1499) (by decide +kernel)) rfl
theorem ts_112 : Cond.selects RX12 yX12_readsSearch yX12_readsSearch ∈ lw_good := lw_ins (q := (yX12_readsSearch, 43)) (List.mem_of_getElem? (i := 112) (by decide +kernel))
theorem tw_1500 : Cond.code yX12_readsSearch cX12_readsSearch 4 none ∈ lw_good := lw_in (List.mem_of_getElem? (i := 1500) (by decide +kernel)) rfl
theorem kV_X12_179 : me_V RX12 179 yX12_readsSearch cX12_readsSearch 4 none 12 1 := ⟨⟨TX12, 43, rfl⟩, Or.inl tw_1497, tw_1499, ts_112, tw_14, tw_1500, by decide +kernel, by decide +kernel, by decide +kernel, by decide⟩
theorem kF_X12_146 : me_F RX12 146 12 27 := ⟨RX12, TX12, 43, rfl, by decide, inw12, Or.inl tw_1345⟩
theorem tw_1321 : Cond.fieldLink RX12 13 "BothEndsModel" "place" "I" ∈ lw_good := lw_in (List.mem_of_getElem? (i := 1321) (by decide +kernel)) rfl
theorem kG_X12_13 : me_G RX12 13 12 3 .int := ⟨RX12, TX12, 43, tyX12, rfl, by decide, inw12, tyX12_ok, nmX12, rfl, by decide +kernel, Or.inl tw_1321⟩
theorem ib_10 : (Int8.ofInt 10).toInt32 = (10 : Int32) := by decide
theorem kF_X12_13 : me_F RX12 13 12 3 := ⟨RX12, TX12, 43, rfl, by decide, inw12, Or.inl tw_1321⟩
theorem tw_1324 : Cond.fieldLink RX12 23 "BothEndsModel" "stride" "I" ∈ lw_good := lw_in (List.mem_of_getElem? (i := 1324) (by decide +kernel)) rfl
theorem kF_X12_23 : me_F RX12 23 12 6 := ⟨RX12, TX12, 43, rfl, by decide, inw12, Or.inl tw_1324⟩
theorem kG_X12_23 : me_G RX12 23 12 6 .int := ⟨RX12, TX12, 43, tyX12, rfl, by decide, inw12, tyX12_ok, nmX12, rfl, by decide +kernel, Or.inl tw_1324⟩
theorem kF_X12_40 : me_F RX12 40 12 11 := ⟨RX12, TX12, 43, rfl, by decide, inw12, Or.inl tw_1329⟩
theorem kF_X12_37 : me_F RX12 37 12 10 := ⟨RX12, TX12, 43, rfl, by decide, inw12, Or.inl tw_1328⟩
theorem tw_1524 : Cond.methodLink RX12 183 yX12_letters ∈ lw_good := lw_in (List.mem_of_getElem? (i := 1524) (by decide +kernel)) rfl
theorem tw_1526 : Cond.instanceMethod yX12_letters ∈ lw_good := lw_in (List.mem_of_getElem? (i := 1526) (by decide +kernel)) rfl
theorem ts_115 : Cond.selects RX12 yX12_letters yX12_letters ∈ lw_good := lw_ins (q := (yX12_letters, 43)) (List.mem_of_getElem? (i := 115) (by decide +kernel))
theorem tw_1527 : Cond.code yX12_letters cX12_letters 1 (some .int) ∈ lw_good := lw_in (List.mem_of_getElem? (i := 1527) (by decide +kernel)) rfl
theorem kV_X12_183 : me_V RX12 183 yX12_letters cX12_letters 1 (some .int) 12 0 := ⟨⟨TX12, 43, rfl⟩, Or.inl tw_1524, tw_1526, ts_115, tw_14, tw_1527, by decide +kernel, by decide +kernel, by decide +kernel, by decide⟩
theorem tw_1330 : Cond.fieldLink RX12 43 "BothEndsModel" "cursor" "[I" ∈ lw_good := lw_in (List.mem_of_getElem? (i := 1330) (by decide +kernel)) rfl
theorem kF_X12_43 : me_F RX12 43 12 12 := ⟨RX12, TX12, 43, rfl, by decide, inw12, Or.inl tw_1330⟩
theorem tw_1536 : Cond.methodLink RX12 186 yX12_against ∈ lw_good := lw_in (List.mem_of_getElem? (i := 1536) (by decide +kernel)) rfl
theorem tw_1538 : Cond.instanceMethod yX12_against ∈ lw_good := lw_in (List.mem_of_getElem? (i := 1538) (by decide +kernel)) rfl
theorem ts_118 : Cond.selects RX12 yX12_against yX12_against ∈ lw_good := lw_ins (q := (yX12_against, 43)) (List.mem_of_getElem? (i := 118) (by decide +kernel))
theorem tw_1539 : Cond.code yX12_against cX12_against 6 (some .int) ∈ lw_good := lw_in (List.mem_of_getElem? (i := 1539) (by decide +kernel)) rfl
theorem kV_X12_186 : me_V RX12 186 yX12_against cX12_against 6 (some .int) 12 2 := ⟨⟨TX12, 43, rfl⟩, Or.inl tw_1536, tw_1538, ts_118, tw_14, tw_1539, by decide +kernel, by decide +kernel, by decide +kernel, by decide⟩
theorem tw_1532 : Cond.methodLink RX12 190 yX12_sizeOf ∈ lw_good := lw_in (List.mem_of_getElem? (i := 1532) (by decide +kernel)) rfl
theorem tw_1534 : Cond.instanceMethod yX12_sizeOf ∈ lw_good := lw_in (List.mem_of_getElem? (i := 1534) (by decide +kernel)) rfl
theorem ts_117 : Cond.selects RX12 yX12_sizeOf yX12_sizeOf ∈ lw_good := lw_ins (q := (yX12_sizeOf, 43)) (List.mem_of_getElem? (i := 117) (by decide +kernel))
theorem tw_1535 : Cond.code yX12_sizeOf cX12_sizeOf 3 (some .int) ∈ lw_good := lw_in (List.mem_of_getElem? (i := 1535) (by decide +kernel)) rfl
theorem kV_X12_190 : me_V RX12 190 yX12_sizeOf cX12_sizeOf 3 (some .int) 12 0 := ⟨⟨TX12, 43, rfl⟩, Or.inl tw_1532, tw_1534, ts_117, tw_14, tw_1535, by decide +kernel, by decide +kernel, by decide +kernel, by decide⟩
theorem tw_1528 : Cond.methodLink RX12 193 yX12_sizeBy ∈ lw_good := lw_in (List.mem_of_getElem? (i := 1528) (by decide +kernel)) rfl
theorem tw_1530 : Cond.instanceMethod yX12_sizeBy ∈ lw_good := lw_in (List.mem_of_getElem? (i := 1530) (by decide +kernel)) rfl
theorem ts_116 : Cond.selects RX12 yX12_sizeBy yX12_sizeBy ∈ lw_good := lw_ins (q := (yX12_sizeBy, 43)) (List.mem_of_getElem? (i := 116) (by decide +kernel))
theorem tw_1531 : Cond.code yX12_sizeBy cX12_sizeBy 3 (some .int) ∈ lw_good := lw_in (List.mem_of_getElem? (i := 1531) (by decide +kernel)) rfl
theorem kV_X12_193 : me_V RX12 193 yX12_sizeBy cX12_sizeBy 3 (some .int) 12 2 := ⟨⟨TX12, 43, rfl⟩, Or.inl tw_1528, tw_1530, ts_116, tw_14, tw_1531, by decide +kernel, by decide +kernel, by decide +kernel, by decide⟩
theorem tw_1331 : Cond.fieldLink RX12 46 "BothEndsModel" "grownBy" "[I" ∈ lw_good := lw_in (List.mem_of_getElem? (i := 1331) (by decide +kernel)) rfl
theorem kF_X12_46 : me_F RX12 46 12 13 := ⟨RX12, TX12, 43, rfl, by decide, inw12, Or.inl tw_1331⟩
theorem tw_1540 : Cond.methodLink RX12 196 yX12_takesOff ∈ lw_good := lw_in (List.mem_of_getElem? (i := 1540) (by decide +kernel)) rfl
theorem tw_1542 : Cond.instanceMethod yX12_takesOff ∈ lw_good := lw_in (List.mem_of_getElem? (i := 1542) (by decide +kernel)) rfl
theorem ts_119 : Cond.selects RX12 yX12_takesOff yX12_takesOff ∈ lw_good := lw_ins (q := (yX12_takesOff, 43)) (List.mem_of_getElem? (i := 119) (by decide +kernel))
theorem tw_1543 : Cond.code yX12_takesOff cX12_takesOff 2 none ∈ lw_good := lw_in (List.mem_of_getElem? (i := 1543) (by decide +kernel)) rfl
theorem kV_X12_196 : me_V RX12 196 yX12_takesOff cX12_takesOff 2 none 12 1 := ⟨⟨TX12, 43, rfl⟩, Or.inl tw_1540, tw_1542, ts_119, tw_14, tw_1543, by decide +kernel, by decide +kernel, by decide +kernel, by decide⟩
theorem tw_1564 : Cond.methodLink RX12 199 yX12_hasLetter ∈ lw_good := lw_in (List.mem_of_getElem? (i := 1564) (by decide +kernel)) rfl
theorem tw_1566 : Cond.instanceMethod yX12_hasLetter ∈ lw_good := lw_in (List.mem_of_getElem? (i := 1566) (by decide +kernel)) rfl
theorem ts_122 : Cond.selects RX12 yX12_hasLetter yX12_hasLetter ∈ lw_good := lw_ins (q := (yX12_hasLetter, 43)) (List.mem_of_getElem? (i := 122) (by decide +kernel))
theorem tw_1567 : Cond.code yX12_hasLetter cX12_hasLetter 3 (some .boolean) ∈ lw_good := lw_in (List.mem_of_getElem? (i := 1567) (by decide +kernel)) rfl
theorem kV_X12_199 : me_V RX12 199 yX12_hasLetter cX12_hasLetter 3 (some .boolean) 12 1 := ⟨⟨TX12, 43, rfl⟩, Or.inl tw_1564, tw_1566, ts_122, tw_14, tw_1567, by decide +kernel, by decide +kernel, by decide +kernel, by decide⟩
theorem tw_1576 : Cond.methodLink RX12 202 yX12_more ∈ lw_good := lw_in (List.mem_of_getElem? (i := 1576) (by decide +kernel)) rfl
theorem tw_1577 : Cond.static yX12_more ∈ lw_good := lw_in (List.mem_of_getElem? (i := 1577) (by decide +kernel)) rfl
theorem tw_1578 : Cond.code yX12_more cX12_more 2 (some .int) ∈ lw_good := lw_in (List.mem_of_getElem? (i := 1578) (by decide +kernel)) rfl
theorem kS_X12_202 : me_S RX12 202 yX12_more cX12_more 2 (some .int) 2 := ⟨Or.inl tw_1576, tw_1577, tw_14, tw_1578, by decide +kernel, by decide +kernel, by decide +kernel, by decide⟩
theorem tw_1339 : Cond.fieldLink RX12 60 "BothEndsModel" "often" "[I" ∈ lw_good := lw_in (List.mem_of_getElem? (i := 1339) (by decide +kernel)) rfl
theorem kF_X12_60 : me_F RX12 60 12 21 := ⟨RX12, TX12, 43, rfl, by decide, inw12, Or.inl tw_1339⟩
theorem ib_13 : (Int8.ofInt 13).toInt32 = (13 : Int32) := by decide
theorem tw_1556 : Cond.methodLink RX12 205 yX12_documents ∈ lw_good := lw_in (List.mem_of_getElem? (i := 1556) (by decide +kernel)) rfl
theorem tw_1558 : Cond.instanceMethod yX12_documents ∈ lw_good := lw_in (List.mem_of_getElem? (i := 1558) (by decide +kernel)) rfl
theorem ts_120 : Cond.selects RX12 yX12_documents yX12_documents ∈ lw_good := lw_ins (q := (yX12_documents, 43)) (List.mem_of_getElem? (i := 120) (by decide +kernel))
theorem tw_1559 : Cond.code yX12_documents cX12_documents 3 (some .int) ∈ lw_good := lw_in (List.mem_of_getElem? (i := 1559) (by decide +kernel)) rfl
theorem kV_X12_205 : me_V RX12 205 yX12_documents cX12_documents 3 (some .int) 12 0 := ⟨⟨TX12, 43, rfl⟩, Or.inl tw_1556, tw_1558, ts_120, tw_14, tw_1559, by decide +kernel, by decide +kernel, by decide +kernel, by decide⟩
theorem tw_1560 : Cond.methodLink RX12 208 yX12_unlike ∈ lw_good := lw_in (List.mem_of_getElem? (i := 1560) (by decide +kernel)) rfl
theorem tw_1562 : Cond.instanceMethod yX12_unlike ∈ lw_good := lw_in (List.mem_of_getElem? (i := 1562) (by decide +kernel)) rfl
theorem ts_121 : Cond.selects RX12 yX12_unlike yX12_unlike ∈ lw_good := lw_ins (q := (yX12_unlike, 43)) (List.mem_of_getElem? (i := 121) (by decide +kernel))
theorem tw_1563 : Cond.code yX12_unlike cX12_unlike 3 (some .int) ∈ lw_good := lw_in (List.mem_of_getElem? (i := 1563) (by decide +kernel)) rfl
theorem kV_X12_208 : me_V RX12 208 yX12_unlike cX12_unlike 3 (some .int) 12 0 := ⟨⟨TX12, 43, rfl⟩, Or.inl tw_1560, tw_1562, ts_121, tw_14, tw_1563, by decide +kernel, by decide +kernel, by decide +kernel, by decide⟩
theorem tw_1568 : Cond.methodLink RX12 211 yX12_lowOf ∈ lw_good := lw_in (List.mem_of_getElem? (i := 1568) (by decide +kernel)) rfl
theorem tw_1570 : Cond.instanceMethod yX12_lowOf ∈ lw_good := lw_in (List.mem_of_getElem? (i := 1570) (by decide +kernel)) rfl
theorem ts_123 : Cond.selects RX12 yX12_lowOf yX12_lowOf ∈ lw_good := lw_ins (q := (yX12_lowOf, 43)) (List.mem_of_getElem? (i := 123) (by decide +kernel))
theorem tw_1571 : Cond.code yX12_lowOf cX12_lowOf 3 (some .int) ∈ lw_good := lw_in (List.mem_of_getElem? (i := 1571) (by decide +kernel)) rfl
theorem kV_X12_211 : me_V RX12 211 yX12_lowOf cX12_lowOf 3 (some .int) 12 1 := ⟨⟨TX12, 43, rfl⟩, Or.inl tw_1568, tw_1570, ts_123, tw_14, tw_1571, by decide +kernel, by decide +kernel, by decide +kernel, by decide⟩
theorem tw_1572 : Cond.methodLink RX12 214 yX12_budget ∈ lw_good := lw_in (List.mem_of_getElem? (i := 1572) (by decide +kernel)) rfl
theorem tw_1574 : Cond.instanceMethod yX12_budget ∈ lw_good := lw_in (List.mem_of_getElem? (i := 1574) (by decide +kernel)) rfl
theorem ts_124 : Cond.selects RX12 yX12_budget yX12_budget ∈ lw_good := lw_ins (q := (yX12_budget, 43)) (List.mem_of_getElem? (i := 124) (by decide +kernel))
theorem tw_1575 : Cond.code yX12_budget cX12_budget 3 (some .int) ∈ lw_good := lw_in (List.mem_of_getElem? (i := 1575) (by decide +kernel)) rfl
theorem kV_X12_214 : me_V RX12 214 yX12_budget cX12_budget 3 (some .int) 12 0 := ⟨⟨TX12, 43, rfl⟩, Or.inl tw_1572, tw_1574, ts_124, tw_14, tw_1575, by decide +kernel, by decide +kernel, by decide +kernel, by decide⟩
theorem kF_X12_130 : me_F RX12 130 12 17 := ⟨RX12, TX12, 43, rfl, by decide, inw12, Or.inl tw_1335⟩
theorem tw_1579 : Cond.methodLink RX12 217 yX12_places ∈ lw_good := lw_in (List.mem_of_getElem? (i := 1579) (by decide +kernel)) rfl
theorem tw_1581 : Cond.instanceMethod yX12_places ∈ lw_good := lw_in (List.mem_of_getElem? (i := 1581) (by decide +kernel)) rfl
theorem ts_125 : Cond.selects RX12 yX12_places yX12_places ∈ lw_good := lw_ins (q := (yX12_places, 43)) (List.mem_of_getElem? (i := 125) (by decide +kernel))
theorem tw_1582 : Cond.code yX12_places cX12_places 3 (some .int) ∈ lw_good := lw_in (List.mem_of_getElem? (i := 1582) (by decide +kernel)) rfl
theorem kV_X12_217 : me_V RX12 217 yX12_places cX12_places 3 (some .int) 12 0 := ⟨⟨TX12, 43, rfl⟩, Or.inl tw_1579, tw_1581, ts_125, tw_14, tw_1582, by decide +kernel, by decide +kernel, by decide +kernel, by decide⟩
theorem tw_1587 : Cond.methodLink RX12 220 yX12_isPlace ∈ lw_good := lw_in (List.mem_of_getElem? (i := 1587) (by decide +kernel)) rfl
theorem tw_1589 : Cond.instanceMethod yX12_isPlace ∈ lw_good := lw_in (List.mem_of_getElem? (i := 1589) (by decide +kernel)) rfl
theorem ts_126 : Cond.selects RX12 yX12_isPlace yX12_isPlace ∈ lw_good := lw_ins (q := (yX12_isPlace, 43)) (List.mem_of_getElem? (i := 126) (by decide +kernel))
theorem tw_1590 : Cond.code yX12_isPlace cX12_isPlace 2 (some .boolean) ∈ lw_good := lw_in (List.mem_of_getElem? (i := 1590) (by decide +kernel)) rfl
theorem kV_X12_220 : me_V RX12 220 yX12_isPlace cX12_isPlace 2 (some .boolean) 12 1 := ⟨⟨TX12, 43, rfl⟩, Or.inl tw_1587, tw_1589, ts_126, tw_14, tw_1590, by decide +kernel, by decide +kernel, by decide +kernel, by decide⟩
theorem tw_1591 : Cond.methodLink RX12 223 yX12_byteOf ∈ lw_good := lw_in (List.mem_of_getElem? (i := 1591) (by decide +kernel)) rfl
theorem tw_1592 : Cond.static yX12_byteOf ∈ lw_good := lw_in (List.mem_of_getElem? (i := 1592) (by decide +kernel)) rfl
theorem tw_1593 : Cond.code yX12_byteOf cX12_byteOf 1 (some .int) ∈ lw_good := lw_in (List.mem_of_getElem? (i := 1593) (by decide +kernel)) rfl
theorem kS_X12_223 : me_S RX12 223 yX12_byteOf cX12_byteOf 1 (some .int) 1 := ⟨Or.inl tw_1591, tw_1592, tw_14, tw_1593, by decide +kernel, by decide +kernel, by decide +kernel, by decide⟩
theorem tw_1598 : Cond.methodLink RX12 226 yX12_isRow ∈ lw_good := lw_in (List.mem_of_getElem? (i := 1598) (by decide +kernel)) rfl
theorem tw_1600 : Cond.instanceMethod yX12_isRow ∈ lw_good := lw_in (List.mem_of_getElem? (i := 1600) (by decide +kernel)) rfl
theorem ts_127 : Cond.selects RX12 yX12_isRow yX12_isRow ∈ lw_good := lw_ins (q := (yX12_isRow, 43)) (List.mem_of_getElem? (i := 127) (by decide +kernel))
theorem tw_1601 : Cond.code yX12_isRow cX12_isRow 3 (some .boolean) ∈ lw_good := lw_in (List.mem_of_getElem? (i := 1601) (by decide +kernel)) rfl
theorem kV_X12_226 : me_V RX12 226 yX12_isRow cX12_isRow 3 (some .boolean) 12 2 := ⟨⟨TX12, 43, rfl⟩, Or.inl tw_1598, tw_1600, ts_127, tw_14, tw_1601, by decide +kernel, by decide +kernel, by decide +kernel, by decide⟩
theorem ib_6 : (Int8.ofInt 6).toInt32 = (6 : Int32) := by decide
theorem tw_1602 : Cond.methodLink RX12 230 yX12_before ∈ lw_good := lw_in (List.mem_of_getElem? (i := 1602) (by decide +kernel)) rfl
theorem tw_1604 : Cond.instanceMethod yX12_before ∈ lw_good := lw_in (List.mem_of_getElem? (i := 1604) (by decide +kernel)) rfl
theorem ts_128 : Cond.selects RX12 yX12_before yX12_before ∈ lw_good := lw_ins (q := (yX12_before, 43)) (List.mem_of_getElem? (i := 128) (by decide +kernel))
theorem tw_1605 : Cond.code yX12_before cX12_before 3 (some .int) ∈ lw_good := lw_in (List.mem_of_getElem? (i := 1605) (by decide +kernel)) rfl
theorem kV_X12_230 : me_V RX12 230 yX12_before cX12_before 3 (some .int) 12 2 := ⟨⟨TX12, 43, rfl⟩, Or.inl tw_1602, tw_1604, ts_128, tw_14, tw_1605, by decide +kernel, by decide +kernel, by decide +kernel, by decide⟩
theorem tw_1606 : Cond.methodLink RX12 233 yX12_alike ∈ lw_good := lw_in (List.mem_of_getElem? (i := 1606) (by decide +kernel)) rfl
theorem tw_1608 : Cond.instanceMethod yX12_alike ∈ lw_good := lw_in (List.mem_of_getElem? (i := 1608) (by decide +kernel)) rfl
theorem ts_129 : Cond.selects RX12 yX12_alike yX12_alike ∈ lw_good := lw_ins (q := (yX12_alike, 43)) (List.mem_of_getElem? (i := 129) (by decide +kernel))
theorem tw_1609 : Cond.code yX12_alike cX12_alike 6 (some .int) ∈ lw_good := lw_in (List.mem_of_getElem? (i := 1609) (by decide +kernel)) rfl
theorem kV_X12_233 : me_V RX12 233 yX12_alike cX12_alike 6 (some .int) 12 2 := ⟨⟨TX12, 43, rfl⟩, Or.inl tw_1606, tw_1608, ts_129, tw_14, tw_1609, by decide +kernel, by decide +kernel, by decide +kernel, by decide⟩
theorem tw_1634 : Cond.methodLink RX12 236 yX12_isHit ∈ lw_good := lw_in (List.mem_of_getElem? (i := 1634) (by decide +kernel)) rfl
theorem tw_1636 : Cond.instanceMethod yX12_isHit ∈ lw_good := lw_in (List.mem_of_getElem? (i := 1636) (by decide +kernel)) rfl
theorem ts_131 : Cond.selects RX12 yX12_isHit yX12_isHit ∈ lw_good := lw_ins (q := (yX12_isHit, 43)) (List.mem_of_getElem? (i := 131) (by decide +kernel))
theorem tw_1637 : Cond.code yX12_isHit cX12_isHit 3 (some .boolean) ∈ lw_good := lw_in (List.mem_of_getElem? (i := 1637) (by decide +kernel)) rfl
theorem kV_X12_236 : me_V RX12 236 yX12_isHit cX12_isHit 3 (some .boolean) 12 1 := ⟨⟨TX12, 43, rfl⟩, Or.inl tw_1634, tw_1636, ts_131, tw_14, tw_1637, by decide +kernel, by decide +kernel, by decide +kernel, by decide⟩
theorem tw_1630 : Cond.methodLink RX12 239 yX12_hitAt ∈ lw_good := lw_in (List.mem_of_getElem? (i := 1630) (by decide +kernel)) rfl
theorem tw_1632 : Cond.instanceMethod yX12_hitAt ∈ lw_good := lw_in (List.mem_of_getElem? (i := 1632) (by decide +kernel)) rfl
theorem ts_130 : Cond.selects RX12 yX12_hitAt yX12_hitAt ∈ lw_good := lw_ins (q := (yX12_hitAt, 43)) (List.mem_of_getElem? (i := 130) (by decide +kernel))
theorem tw_1633 : Cond.code yX12_hitAt cX12_hitAt 4 (some .int) ∈ lw_good := lw_in (List.mem_of_getElem? (i := 1633) (by decide +kernel)) rfl
theorem kV_X12_239 : me_V RX12 239 yX12_hitAt cX12_hitAt 4 (some .int) 12 1 := ⟨⟨TX12, 43, rfl⟩, Or.inl tw_1630, tw_1632, ts_130, tw_14, tw_1633, by decide +kernel, by decide +kernel, by decide +kernel, by decide⟩
theorem tw_1638 : Cond.methodLink RX12 242 yX12_documentOf ∈ lw_good := lw_in (List.mem_of_getElem? (i := 1638) (by decide +kernel)) rfl
theorem tw_1640 : Cond.instanceMethod yX12_documentOf ∈ lw_good := lw_in (List.mem_of_getElem? (i := 1640) (by decide +kernel)) rfl
theorem ts_132 : Cond.selects RX12 yX12_documentOf yX12_documentOf ∈ lw_good := lw_ins (q := (yX12_documentOf, 43)) (List.mem_of_getElem? (i := 132) (by decide +kernel))
theorem tw_1641 : Cond.code yX12_documentOf cX12_documentOf 4 (some .int) ∈ lw_good := lw_in (List.mem_of_getElem? (i := 1641) (by decide +kernel)) rfl
theorem kV_X12_242 : me_V RX12 242 yX12_documentOf cX12_documentOf 4 (some .int) 12 1 := ⟨⟨TX12, 43, rfl⟩, Or.inl tw_1638, tw_1640, ts_132, tw_14, tw_1641, by decide +kernel, by decide +kernel, by decide +kernel, by decide⟩
theorem tw_1642 : Cond.methodLink RX12 245 yX12_beginOf ∈ lw_good := lw_in (List.mem_of_getElem? (i := 1642) (by decide +kernel)) rfl
theorem tw_1644 : Cond.instanceMethod yX12_beginOf ∈ lw_good := lw_in (List.mem_of_getElem? (i := 1644) (by decide +kernel)) rfl
theorem ts_133 : Cond.selects RX12 yX12_beginOf yX12_beginOf ∈ lw_good := lw_ins (q := (yX12_beginOf, 43)) (List.mem_of_getElem? (i := 133) (by decide +kernel))
theorem tw_1645 : Cond.code yX12_beginOf cX12_beginOf 4 (some .int) ∈ lw_good := lw_in (List.mem_of_getElem? (i := 1645) (by decide +kernel)) rfl
theorem kV_X12_245 : me_V RX12 245 yX12_beginOf cX12_beginOf 4 (some .int) 12 1 := ⟨⟨TX12, 43, rfl⟩, Or.inl tw_1642, tw_1644, ts_133, tw_14, tw_1645, by decide +kernel, by decide +kernel, by decide +kernel, by decide⟩
theorem tw_1650 : Cond.methodLink RX12 248 yX12_hitsIn ∈ lw_good := lw_in (List.mem_of_getElem? (i := 1650) (by decide +kernel)) rfl
theorem tw_1652 : Cond.instanceMethod yX12_hitsIn ∈ lw_good := lw_in (List.mem_of_getElem? (i := 1652) (by decide +kernel)) rfl
theorem ts_134 : Cond.selects RX12 yX12_hitsIn yX12_hitsIn ∈ lw_good := lw_ins (q := (yX12_hitsIn, 43)) (List.mem_of_getElem? (i := 134) (by decide +kernel))
theorem tw_1653 : Cond.code yX12_hitsIn cX12_hitsIn 4 (some .int) ∈ lw_good := lw_in (List.mem_of_getElem? (i := 1653) (by decide +kernel)) rfl
theorem kV_X12_248 : me_V RX12 248 yX12_hitsIn cX12_hitsIn 4 (some .int) 12 1 := ⟨⟨TX12, 43, rfl⟩, Or.inl tw_1650, tw_1652, ts_134, tw_14, tw_1653, by decide +kernel, by decide +kernel, by decide +kernel, by decide⟩
theorem tw_1654 : Cond.methodLink RX12 251 yX12_less ∈ lw_good := lw_in (List.mem_of_getElem? (i := 1654) (by decide +kernel)) rfl
theorem tw_1655 : Cond.static yX12_less ∈ lw_good := lw_in (List.mem_of_getElem? (i := 1655) (by decide +kernel)) rfl
theorem tw_1656 : Cond.code yX12_less cX12_less 2 (some .int) ∈ lw_good := lw_in (List.mem_of_getElem? (i := 1656) (by decide +kernel)) rfl
theorem kS_X12_251 : me_S RX12 251 yX12_less cX12_less 2 (some .int) 2 := ⟨Or.inl tw_1654, tw_1655, tw_14, tw_1656, by decide +kernel, by decide +kernel, by decide +kernel, by decide⟩
theorem tw_1661 : Cond.methodLink RX12 254 yX12_areLetters ∈ lw_good := lw_in (List.mem_of_getElem? (i := 1661) (by decide +kernel)) rfl
theorem tw_1663 : Cond.instanceMethod yX12_areLetters ∈ lw_good := lw_in (List.mem_of_getElem? (i := 1663) (by decide +kernel)) rfl
theorem ts_135 : Cond.selects RX12 yX12_areLetters yX12_areLetters ∈ lw_good := lw_ins (q := (yX12_areLetters, 43)) (List.mem_of_getElem? (i := 135) (by decide +kernel))
theorem tw_1664 : Cond.code yX12_areLetters cX12_areLetters 3 (some .boolean) ∈ lw_good := lw_in (List.mem_of_getElem? (i := 1664) (by decide +kernel)) rfl
theorem kV_X12_254 : me_V RX12 254 yX12_areLetters cX12_areLetters 3 (some .boolean) 12 1 := ⟨⟨TX12, 43, rfl⟩, Or.inl tw_1661, tw_1663, ts_135, tw_14, tw_1664, by decide +kernel, by decide +kernel, by decide +kernel, by decide⟩
theorem tw_1346 : Cond.fieldLink RX12 69 "BothEndsModel" "share" "[I" ∈ lw_good := lw_in (List.mem_of_getElem? (i := 1346) (by decide +kernel)) rfl
theorem kF_X12_69 : me_F RX12 69 12 28 := ⟨RX12, TX12, 43, rfl, by decide, inw12, Or.inl tw_1346⟩
theorem tw_1347 : Cond.fieldLink RX12 72 "BothEndsModel" "but" "I" ∈ lw_good := lw_in (List.mem_of_getElem? (i := 1347) (by decide +kernel)) rfl
theorem kF_X12_72 : me_F RX12 72 12 29 := ⟨RX12, TX12, 43, rfl, by decide, inw12, Or.inl tw_1347⟩
theorem tw_1673 : Cond.methodLink RX12 257 yX12_covers ∈ lw_good := lw_in (List.mem_of_getElem? (i := 1673) (by decide +kernel)) rfl
theorem tw_1675 : Cond.instanceMethod yX12_covers ∈ lw_good := lw_in (List.mem_of_getElem? (i := 1675) (by decide +kernel)) rfl
theorem ts_137 : Cond.selects RX12 yX12_covers yX12_covers ∈ lw_good := lw_ins (q := (yX12_covers, 43)) (List.mem_of_getElem? (i := 137) (by decide +kernel))
theorem tw_1676 : Cond.code yX12_covers cX12_covers 4 (some .boolean) ∈ lw_good := lw_in (List.mem_of_getElem? (i := 1676) (by decide +kernel)) rfl
theorem kV_X12_257 : me_V RX12 257 yX12_covers cX12_covers 4 (some .boolean) 12 1 := ⟨⟨TX12, 43, rfl⟩, Or.inl tw_1673, tw_1675, ts_137, tw_14, tw_1676, by decide +kernel, by decide +kernel, by decide +kernel, by decide⟩
theorem tw_1669 : Cond.methodLink RX12 260 yX12_sharesBy ∈ lw_good := lw_in (List.mem_of_getElem? (i := 1669) (by decide +kernel)) rfl
theorem tw_1671 : Cond.instanceMethod yX12_sharesBy ∈ lw_good := lw_in (List.mem_of_getElem? (i := 1671) (by decide +kernel)) rfl
theorem ts_136 : Cond.selects RX12 yX12_sharesBy yX12_sharesBy ∈ lw_good := lw_ins (q := (yX12_sharesBy, 43)) (List.mem_of_getElem? (i := 136) (by decide +kernel))
theorem tw_1672 : Cond.code yX12_sharesBy cX12_sharesBy 10 (some .int) ∈ lw_good := lw_in (List.mem_of_getElem? (i := 1672) (by decide +kernel)) rfl
theorem kV_X12_260 : me_V RX12 260 yX12_sharesBy cX12_sharesBy 10 (some .int) 12 1 := ⟨⟨TX12, 43, rfl⟩, Or.inl tw_1669, tw_1671, ts_136, tw_14, tw_1672, by decide +kernel, by decide +kernel, by decide +kernel, by decide⟩
theorem kG_X12_72 : me_G RX12 72 12 29 .int := ⟨RX12, TX12, 43, tyX12, rfl, by decide, inw12, tyX12_ok, nmX12, rfl, by decide +kernel, Or.inl tw_1347⟩
theorem tw_1338 : Cond.fieldLink RX12 263 "BothEndsModel" "patternLong" "I" ∈ lw_good := lw_in (List.mem_of_getElem? (i := 1338) (by decide +kernel)) rfl
theorem kF_X12_263 : me_F RX12 263 12 20 := ⟨RX12, TX12, 43, rfl, by decide, inw12, Or.inl tw_1338⟩
theorem tw_1348 : Cond.fieldLink RX12 75 "BothEndsModel" "turn" "[I" ∈ lw_good := lw_in (List.mem_of_getElem? (i := 1348) (by decide +kernel)) rfl
theorem kF_X12_75 : me_F RX12 75 12 30 := ⟨RX12, TX12, 43, rfl, by decide, inw12, Or.inl tw_1348⟩
theorem tw_1349 : Cond.fieldLink RX12 78 "BothEndsModel" "toSide" "[I" ∈ lw_good := lw_in (List.mem_of_getElem? (i := 1349) (by decide +kernel)) rfl
theorem kF_X12_78 : me_F RX12 78 12 31 := ⟨RX12, TX12, 43, rfl, by decide, inw12, Or.inl tw_1349⟩
theorem tw_1350 : Cond.fieldLink RX12 81 "BothEndsModel" "partOf" "[I" ∈ lw_good := lw_in (List.mem_of_getElem? (i := 1350) (by decide +kernel)) rfl
theorem kF_X12_81 : me_F RX12 81 12 32 := ⟨RX12, TX12, 43, rfl, by decide, inw12, Or.inl tw_1350⟩
theorem tw_1351 : Cond.fieldLink RX12 84 "BothEndsModel" "endsPart" "[I" ∈ lw_good := lw_in (List.mem_of_getElem? (i := 1351) (by decide +kernel)) rfl
theorem kF_X12_84 : me_F RX12 84 12 33 := ⟨RX12, TX12, 43, rfl, by decide, inw12, Or.inl tw_1351⟩
theorem tw_1352 : Cond.fieldLink RX12 87 "BothEndsModel" "spans" "[[I" ∈ lw_good := lw_in (List.mem_of_getElem? (i := 1352) (by decide +kernel)) rfl
theorem kF_X12_87 : me_F RX12 87 12 34 := ⟨RX12, TX12, 43, rfl, by decide, inw12, Or.inl tw_1352⟩
theorem tw_1341 : Cond.fieldLink RX12 66 "BothEndsModel" "pattern" "[I" ∈ lw_good := lw_in (List.mem_of_getElem? (i := 1341) (by decide +kernel)) rfl
theorem kF_X12_66 : me_F RX12 66 12 23 := ⟨RX12, TX12, 43, rfl, by decide, inw12, Or.inl tw_1341⟩
theorem tw_1353 : Cond.fieldLink RX12 272 "BothEndsModel" "triedNow" "I" ∈ lw_good := lw_in (List.mem_of_getElem? (i := 1353) (by decide +kernel)) rfl
theorem kF_X12_272 : me_F RX12 272 12 35 := ⟨RX12, TX12, 43, rfl, by decide, inw12, Or.inl tw_1353⟩
theorem kG_X12_272 : me_G RX12 272 12 35 .int := ⟨RX12, TX12, 43, tyX12, rfl, by decide, inw12, tyX12_ok, nmX12, rfl, by decide +kernel, Or.inl tw_1353⟩
theorem tw_1705 : Cond.methodLink RX12 275 yX12_narrows ∈ lw_good := lw_in (List.mem_of_getElem? (i := 1705) (by decide +kernel)) rfl
theorem tw_1707 : Cond.instanceMethod yX12_narrows ∈ lw_good := lw_in (List.mem_of_getElem? (i := 1707) (by decide +kernel)) rfl
theorem ts_141 : Cond.selects RX12 yX12_narrows yX12_narrows ∈ lw_good := lw_ins (q := (yX12_narrows, 43)) (List.mem_of_getElem? (i := 141) (by decide +kernel))
theorem tw_1708 : Cond.code yX12_narrows cX12_narrows 9 (some .int) ∈ lw_good := lw_in (List.mem_of_getElem? (i := 1708) (by decide +kernel)) rfl
theorem kV_X12_275 : me_V RX12 275 yX12_narrows cX12_narrows 9 (some .int) 12 3 := ⟨⟨TX12, 43, rfl⟩, Or.inl tw_1705, tw_1707, ts_141, tw_14, tw_1708, by decide +kernel, by decide +kernel, by decide +kernel, by decide⟩
theorem tw_1701 : Cond.methodLink RX12 279 yX12_goes ∈ lw_good := lw_in (List.mem_of_getElem? (i := 1701) (by decide +kernel)) rfl
theorem tw_1703 : Cond.instanceMethod yX12_goes ∈ lw_good := lw_in (List.mem_of_getElem? (i := 1703) (by decide +kernel)) rfl
theorem ts_140 : Cond.selects RX12 yX12_goes yX12_goes ∈ lw_good := lw_ins (q := (yX12_goes, 43)) (List.mem_of_getElem? (i := 140) (by decide +kernel))
theorem tw_1704 : Cond.code yX12_goes cX12_goes 9 none ∈ lw_good := lw_in (List.mem_of_getElem? (i := 1704) (by decide +kernel)) rfl
theorem kV_X12_279 : me_V RX12 279 yX12_goes cX12_goes 9 none 12 4 := ⟨⟨TX12, 43, rfl⟩, Or.inl tw_1701, tw_1703, ts_140, tw_14, tw_1704, by decide +kernel, by decide +kernel, by decide +kernel, by decide⟩
theorem tw_1354 : Cond.fieldLink RX12 266 "BothEndsModel" "foundNow" "I" ∈ lw_good := lw_in (List.mem_of_getElem? (i := 1354) (by decide +kernel)) rfl
theorem kF_X12_266 : me_F RX12 266 12 36 := ⟨RX12, TX12, 43, rfl, by decide, inw12, Or.inl tw_1354⟩
theorem kG_X12_266 : me_G RX12 266 12 36 .int := ⟨RX12, TX12, 43, tyX12, rfl, by decide, inw12, tyX12_ok, nmX12, rfl, by decide +kernel, Or.inl tw_1354⟩
theorem tw_1355 : Cond.fieldLink RX12 269 "BothEndsModel" "isThought" "Z" ∈ lw_good := lw_in (List.mem_of_getElem? (i := 1355) (by decide +kernel)) rfl
theorem kF_X12_269 : me_F RX12 269 12 37 := ⟨RX12, TX12, 43, rfl, by decide, inw12, Or.inl tw_1355⟩
theorem tw_1340 : Cond.fieldLink RX12 63 "BothEndsModel" "misses" "[I" ∈ lw_good := lw_in (List.mem_of_getElem? (i := 1340) (by decide +kernel)) rfl
theorem kF_X12_63 : me_F RX12 63 12 22 := ⟨RX12, TX12, 43, rfl, by decide, inw12, Or.inl tw_1340⟩
theorem tw_1697 : Cond.methodLink RX12 283 yX12_laysTurns ∈ lw_good := lw_in (List.mem_of_getElem? (i := 1697) (by decide +kernel)) rfl
theorem tw_1699 : Cond.instanceMethod yX12_laysTurns ∈ lw_good := lw_in (List.mem_of_getElem? (i := 1699) (by decide +kernel)) rfl
theorem ts_139 : Cond.selects RX12 yX12_laysTurns yX12_laysTurns ∈ lw_good := lw_ins (q := (yX12_laysTurns, 43)) (List.mem_of_getElem? (i := 139) (by decide +kernel))
theorem tw_1700 : Cond.code yX12_laysTurns cX12_laysTurns 12 none ∈ lw_good := lw_in (List.mem_of_getElem? (i := 1700) (by decide +kernel)) rfl
theorem kV_X12_283 : me_V RX12 283 yX12_laysTurns cX12_laysTurns 12 none 12 1 := ⟨⟨TX12, 43, rfl⟩, Or.inl tw_1697, tw_1699, ts_139, tw_14, tw_1700, by decide +kernel, by decide +kernel, by decide +kernel, by decide⟩
theorem kG_X12_263 : me_G RX12 263 12 20 .int := ⟨RX12, TX12, 43, tyX12, rfl, by decide, inw12, tyX12_ok, nmX12, rfl, by decide +kernel, Or.inl tw_1338⟩
theorem kG_X12_269 : me_G RX12 269 12 37 .boolean := ⟨RX12, TX12, 43, tyX12, rfl, by decide, inw12, tyX12_ok, nmX12, rfl, by decide +kernel, Or.inl tw_1355⟩
theorem tw_1693 : Cond.methodLink RX12 286 yX12_runs ∈ lw_good := lw_in (List.mem_of_getElem? (i := 1693) (by decide +kernel)) rfl
theorem tw_1695 : Cond.instanceMethod yX12_runs ∈ lw_good := lw_in (List.mem_of_getElem? (i := 1695) (by decide +kernel)) rfl
theorem ts_138 : Cond.selects RX12 yX12_runs yX12_runs ∈ lw_good := lw_ins (q := (yX12_runs, 43)) (List.mem_of_getElem? (i := 138) (by decide +kernel))
theorem tw_1696 : Cond.code yX12_runs cX12_runs 3 none ∈ lw_good := lw_in (List.mem_of_getElem? (i := 1696) (by decide +kernel)) rfl
theorem kV_X12_286 : me_V RX12 286 yX12_runs cX12_runs 3 none 12 1 := ⟨⟨TX12, 43, rfl⟩, Or.inl tw_1693, tw_1695, ts_138, tw_14, tw_1696, by decide +kernel, by decide +kernel, by decide +kernel, by decide⟩
theorem tw_1336 : Cond.fieldLink RX12 289 "BothEndsModel" "tried" "I" ∈ lw_good := lw_in (List.mem_of_getElem? (i := 1336) (by decide +kernel)) rfl
theorem kG_X12_289 : me_G RX12 289 12 18 .int := ⟨RX12, TX12, 43, tyX12, rfl, by decide, inw12, tyX12_ok, nmX12, rfl, by decide +kernel, Or.inl tw_1336⟩
theorem tw_1337 : Cond.fieldLink RX12 292 "BothEndsModel" "foundAll" "I" ∈ lw_good := lw_in (List.mem_of_getElem? (i := 1337) (by decide +kernel)) rfl
theorem kG_X12_292 : me_G RX12 292 12 19 .int := ⟨RX12, TX12, 43, tyX12, rfl, by decide, inw12, tyX12_ok, nmX12, rfl, by decide +kernel, Or.inl tw_1337⟩
theorem tw_1713 : Cond.methodLink RX12 295 yX12_foundAt ∈ lw_good := lw_in (List.mem_of_getElem? (i := 1713) (by decide +kernel)) rfl
theorem tw_1715 : Cond.instanceMethod yX12_foundAt ∈ lw_good := lw_in (List.mem_of_getElem? (i := 1715) (by decide +kernel)) rfl
theorem ts_142 : Cond.selects RX12 yX12_foundAt yX12_foundAt ∈ lw_good := lw_ins (q := (yX12_foundAt, 43)) (List.mem_of_getElem? (i := 142) (by decide +kernel))
theorem tw_1716 : Cond.code yX12_foundAt cX12_foundAt 4 (some .int) ∈ lw_good := lw_in (List.mem_of_getElem? (i := 1716) (by decide +kernel)) rfl
theorem kV_X12_295 : me_V RX12 295 yX12_foundAt cX12_foundAt 4 (some .int) 12 1 := ⟨⟨TX12, 43, rfl⟩, Or.inl tw_1713, tw_1715, ts_142, tw_14, tw_1716, by decide +kernel, by decide +kernel, by decide +kernel, by decide⟩
theorem kF_X12_289 : me_F RX12 289 12 18 := ⟨RX12, TX12, 43, rfl, by decide, inw12, Or.inl tw_1336⟩
theorem kF_X12_292 : me_F RX12 292 12 19 := ⟨RX12, TX12, 43, rfl, by decide, inw12, Or.inl tw_1337⟩
theorem tw_1358 : Cond.fieldLink RX12 93 "BothEndsModel" "row" "[I" ∈ lw_good := lw_in (List.mem_of_getElem? (i := 1358) (by decide +kernel)) rfl
theorem kF_X12_93 : me_F RX12 93 12 40 := ⟨RX12, TX12, 43, rfl, by decide, inw12, Or.inl tw_1358⟩
theorem tw_1357 : Cond.fieldLink RX12 90 "BothEndsModel" "match" "[[I" ∈ lw_good := lw_in (List.mem_of_getElem? (i := 1357) (by decide +kernel)) rfl
theorem kF_X12_90 : me_F RX12 90 12 39 := ⟨RX12, TX12, 43, rfl, by decide, inw12, Or.inl tw_1357⟩
theorem kF_X12_134 : me_F RX12 134 12 38 := ⟨RX12, TX12, 43, rfl, by decide, inw12, Or.inl tw_1356⟩
theorem tw_1359 : Cond.fieldLink RX12 96 "BothEndsModel" "reach" "[I" ∈ lw_good := lw_in (List.mem_of_getElem? (i := 1359) (by decide +kernel)) rfl
theorem kF_X12_96 : me_F RX12 96 12 41 := ⟨RX12, TX12, 43, rfl, by decide, inw12, Or.inl tw_1359⟩
theorem tw_1729 : Cond.methodLink RX12 298 yX12_fits ∈ lw_good := lw_in (List.mem_of_getElem? (i := 1729) (by decide +kernel)) rfl
theorem tw_1731 : Cond.instanceMethod yX12_fits ∈ lw_good := lw_in (List.mem_of_getElem? (i := 1731) (by decide +kernel)) rfl
theorem ts_143 : Cond.selects RX12 yX12_fits yX12_fits ∈ lw_good := lw_ins (q := (yX12_fits, 43)) (List.mem_of_getElem? (i := 143) (by decide +kernel))
theorem tw_1732 : Cond.code yX12_fits cX12_fits 5 (some .int) ∈ lw_good := lw_in (List.mem_of_getElem? (i := 1732) (by decide +kernel)) rfl
theorem kV_X12_298 : me_V RX12 298 yX12_fits cX12_fits 5 (some .int) 12 3 := ⟨⟨TX12, 43, rfl⟩, Or.inl tw_1729, tw_1731, ts_143, tw_14, tw_1732, by decide +kernel, by decide +kernel, by decide +kernel, by decide⟩
theorem tw_1733 : Cond.methodLink RX12 301 yX12_laysMatch ∈ lw_good := lw_in (List.mem_of_getElem? (i := 1733) (by decide +kernel)) rfl
theorem tw_1735 : Cond.instanceMethod yX12_laysMatch ∈ lw_good := lw_in (List.mem_of_getElem? (i := 1735) (by decide +kernel)) rfl
theorem ts_144 : Cond.selects RX12 yX12_laysMatch yX12_laysMatch ∈ lw_good := lw_ins (q := (yX12_laysMatch, 43)) (List.mem_of_getElem? (i := 144) (by decide +kernel))
theorem tw_1736 : Cond.code yX12_laysMatch cX12_laysMatch 5 none ∈ lw_good := lw_in (List.mem_of_getElem? (i := 1736) (by decide +kernel)) rfl
theorem kV_X12_301 : me_V RX12 301 yX12_laysMatch cX12_laysMatch 5 none 12 2 := ⟨⟨TX12, 43, rfl⟩, Or.inl tw_1733, tw_1735, ts_144, tw_14, tw_1736, by decide +kernel, by decide +kernel, by decide +kernel, by decide⟩
theorem tw_1753 : Cond.methodLink RX12 304 yX12_like ∈ lw_good := lw_in (List.mem_of_getElem? (i := 1753) (by decide +kernel)) rfl
theorem tw_1755 : Cond.instanceMethod yX12_like ∈ lw_good := lw_in (List.mem_of_getElem? (i := 1755) (by decide +kernel)) rfl
theorem ts_147 : Cond.selects RX12 yX12_like yX12_like ∈ lw_good := lw_ins (q := (yX12_like, 43)) (List.mem_of_getElem? (i := 147) (by decide +kernel))
theorem tw_1756 : Cond.code yX12_like cX12_like 4 (some .int) ∈ lw_good := lw_in (List.mem_of_getElem? (i := 1756) (by decide +kernel)) rfl
theorem kV_X12_304 : me_V RX12 304 yX12_like cX12_like 4 (some .int) 12 2 := ⟨⟨TX12, 43, rfl⟩, Or.inl tw_1753, tw_1755, ts_147, tw_14, tw_1756, by decide +kernel, by decide +kernel, by decide +kernel, by decide⟩
theorem tw_1765 : Cond.methodLink RX12 307 yX12_letterAt ∈ lw_good := lw_in (List.mem_of_getElem? (i := 1765) (by decide +kernel)) rfl
theorem tw_1767 : Cond.instanceMethod yX12_letterAt ∈ lw_good := lw_in (List.mem_of_getElem? (i := 1767) (by decide +kernel)) rfl
theorem ts_150 : Cond.selects RX12 yX12_letterAt yX12_letterAt ∈ lw_good := lw_ins (q := (yX12_letterAt, 43)) (List.mem_of_getElem? (i := 150) (by decide +kernel))
theorem tw_1768 : Cond.code yX12_letterAt cX12_letterAt 2 (some .int) ∈ lw_good := lw_in (List.mem_of_getElem? (i := 1768) (by decide +kernel)) rfl
theorem kV_X12_307 : me_V RX12 307 yX12_letterAt cX12_letterAt 2 (some .int) 12 1 := ⟨⟨TX12, 43, rfl⟩, Or.inl tw_1765, tw_1767, ts_150, tw_14, tw_1768, by decide +kernel, by decide +kernel, by decide +kernel, by decide⟩
theorem tw_1757 : Cond.methodLink RX12 310 yX12_twice ∈ lw_good := lw_in (List.mem_of_getElem? (i := 1757) (by decide +kernel)) rfl
theorem tw_1759 : Cond.instanceMethod yX12_twice ∈ lw_good := lw_in (List.mem_of_getElem? (i := 1759) (by decide +kernel)) rfl
theorem ts_148 : Cond.selects RX12 yX12_twice yX12_twice ∈ lw_good := lw_ins (q := (yX12_twice, 43)) (List.mem_of_getElem? (i := 148) (by decide +kernel))
theorem tw_1760 : Cond.code yX12_twice cX12_twice 4 (some .int) ∈ lw_good := lw_in (List.mem_of_getElem? (i := 1760) (by decide +kernel)) rfl
theorem kV_X12_310 : me_V RX12 310 yX12_twice cX12_twice 4 (some .int) 12 1 := ⟨⟨TX12, 43, rfl⟩, Or.inl tw_1757, tw_1759, ts_148, tw_14, tw_1760, by decide +kernel, by decide +kernel, by decide +kernel, by decide⟩
theorem tw_1761 : Cond.methodLink RX12 313 yX12_isMaximal ∈ lw_good := lw_in (List.mem_of_getElem? (i := 1761) (by decide +kernel)) rfl
theorem tw_1763 : Cond.instanceMethod yX12_isMaximal ∈ lw_good := lw_in (List.mem_of_getElem? (i := 1763) (by decide +kernel)) rfl
theorem ts_149 : Cond.selects RX12 yX12_isMaximal yX12_isMaximal ∈ lw_good := lw_ins (q := (yX12_isMaximal, 43)) (List.mem_of_getElem? (i := 149) (by decide +kernel))
theorem tw_1764 : Cond.code yX12_isMaximal cX12_isMaximal 8 (some .boolean) ∈ lw_good := lw_in (List.mem_of_getElem? (i := 1764) (by decide +kernel)) rfl
theorem kV_X12_313 : me_V RX12 313 yX12_isMaximal cX12_isMaximal 8 (some .boolean) 12 3 := ⟨⟨TX12, 43, rfl⟩, Or.inl tw_1761, tw_1763, ts_149, tw_14, tw_1764, by decide +kernel, by decide +kernel, by decide +kernel, by decide⟩
theorem tw_1360 : Cond.fieldLink RX12 99 "BothEndsModel" "maximal" "[I" ∈ lw_good := lw_in (List.mem_of_getElem? (i := 1360) (by decide +kernel)) rfl
theorem kF_X12_99 : me_F RX12 99 12 42 := ⟨RX12, TX12, 43, rfl, by decide, inw12, Or.inl tw_1360⟩
theorem tw_1769 : Cond.methodLink RX12 316 yX12_firstOf ∈ lw_good := lw_in (List.mem_of_getElem? (i := 1769) (by decide +kernel)) rfl
theorem tw_1771 : Cond.instanceMethod yX12_firstOf ∈ lw_good := lw_in (List.mem_of_getElem? (i := 1771) (by decide +kernel)) rfl
theorem ts_151 : Cond.selects RX12 yX12_firstOf yX12_firstOf ∈ lw_good := lw_ins (q := (yX12_firstOf, 43)) (List.mem_of_getElem? (i := 151) (by decide +kernel))
theorem tw_1772 : Cond.code yX12_firstOf cX12_firstOf 4 (some .int) ∈ lw_good := lw_in (List.mem_of_getElem? (i := 1772) (by decide +kernel)) rfl
theorem kV_X12_316 : me_V RX12 316 yX12_firstOf cX12_firstOf 4 (some .int) 12 2 := ⟨⟨TX12, 43, rfl⟩, Or.inl tw_1769, tw_1771, ts_151, tw_14, tw_1772, by decide +kernel, by decide +kernel, by decide +kernel, by decide⟩
theorem tw_1773 : Cond.methodLink RX12 319 yX12_times ∈ lw_good := lw_in (List.mem_of_getElem? (i := 1773) (by decide +kernel)) rfl
theorem tw_1775 : Cond.instanceMethod yX12_times ∈ lw_good := lw_in (List.mem_of_getElem? (i := 1775) (by decide +kernel)) rfl
theorem ts_152 : Cond.selects RX12 yX12_times yX12_times ∈ lw_good := lw_ins (q := (yX12_times, 43)) (List.mem_of_getElem? (i := 152) (by decide +kernel))
theorem tw_1776 : Cond.code yX12_times cX12_times 5 (some .int) ∈ lw_good := lw_in (List.mem_of_getElem? (i := 1776) (by decide +kernel)) rfl
theorem kV_X12_319 : me_V RX12 319 yX12_times cX12_times 5 (some .int) 12 2 := ⟨⟨TX12, 43, rfl⟩, Or.inl tw_1773, tw_1775, ts_152, tw_14, tw_1776, by decide +kernel, by decide +kernel, by decide +kernel, by decide⟩
theorem tw_1745 : Cond.methodLink RX12 322 yX12_areBounds ∈ lw_good := lw_in (List.mem_of_getElem? (i := 1745) (by decide +kernel)) rfl
theorem tw_1747 : Cond.instanceMethod yX12_areBounds ∈ lw_good := lw_in (List.mem_of_getElem? (i := 1747) (by decide +kernel)) rfl
theorem ts_145 : Cond.selects RX12 yX12_areBounds yX12_areBounds ∈ lw_good := lw_ins (q := (yX12_areBounds, 43)) (List.mem_of_getElem? (i := 145) (by decide +kernel))
theorem tw_1748 : Cond.code yX12_areBounds cX12_areBounds 3 (some .boolean) ∈ lw_good := lw_in (List.mem_of_getElem? (i := 1748) (by decide +kernel)) rfl
theorem kV_X12_322 : me_V RX12 322 yX12_areBounds cX12_areBounds 3 (some .boolean) 12 2 := ⟨⟨TX12, 43, rfl⟩, Or.inl tw_1745, tw_1747, ts_145, tw_14, tw_1748, by decide +kernel, by decide +kernel, by decide +kernel, by decide⟩
theorem tw_1749 : Cond.methodLink RX12 325 yX12_maximalsTo ∈ lw_good := lw_in (List.mem_of_getElem? (i := 1749) (by decide +kernel)) rfl
theorem tw_1751 : Cond.instanceMethod yX12_maximalsTo ∈ lw_good := lw_in (List.mem_of_getElem? (i := 1751) (by decide +kernel)) rfl
theorem ts_146 : Cond.selects RX12 yX12_maximalsTo yX12_maximalsTo ∈ lw_good := lw_ins (q := (yX12_maximalsTo, 43)) (List.mem_of_getElem? (i := 146) (by decide +kernel))
theorem tw_1752 : Cond.code yX12_maximalsTo cX12_maximalsTo 9 (some .int) ∈ lw_good := lw_in (List.mem_of_getElem? (i := 1752) (by decide +kernel)) rfl
theorem kV_X12_325 : me_V RX12 325 yX12_maximalsTo cX12_maximalsTo 9 (some .int) 12 3 := ⟨⟨TX12, 43, rfl⟩, Or.inl tw_1749, tw_1751, ts_146, tw_14, tw_1752, by decide +kernel, by decide +kernel, by decide +kernel, by decide⟩
theorem tw_1785 : Cond.methodLink RX12 328 yX12_run ∈ lw_good := lw_in (List.mem_of_getElem? (i := 1785) (by decide +kernel)) rfl
theorem tw_1787 : Cond.instanceMethod yX12_run ∈ lw_good := lw_in (List.mem_of_getElem? (i := 1787) (by decide +kernel)) rfl
theorem ts_153 : Cond.selects RX12 yX12_run yX12_run ∈ lw_good := lw_ins (q := (yX12_run, 43)) (List.mem_of_getElem? (i := 153) (by decide +kernel))
theorem tw_1788 : Cond.code yX12_run cX12_run 3 (some .int) ∈ lw_good := lw_in (List.mem_of_getElem? (i := 1788) (by decide +kernel)) rfl
theorem kV_X12_328 : me_V RX12 328 yX12_run cX12_run 3 (some .int) 12 1 := ⟨⟨TX12, 43, rfl⟩, Or.inl tw_1785, tw_1787, ts_153, tw_14, tw_1788, by decide +kernel, by decide +kernel, by decide +kernel, by decide⟩
theorem tw_1797 : Cond.methodLink RX12 331 yX12_uniqueOf ∈ lw_good := lw_in (List.mem_of_getElem? (i := 1797) (by decide +kernel)) rfl
theorem tw_1799 : Cond.instanceMethod yX12_uniqueOf ∈ lw_good := lw_in (List.mem_of_getElem? (i := 1799) (by decide +kernel)) rfl
theorem ts_154 : Cond.selects RX12 yX12_uniqueOf yX12_uniqueOf ∈ lw_good := lw_ins (q := (yX12_uniqueOf, 43)) (List.mem_of_getElem? (i := 154) (by decide +kernel))
theorem tw_1800 : Cond.code yX12_uniqueOf cX12_uniqueOf 3 (some .int) ∈ lw_good := lw_in (List.mem_of_getElem? (i := 1800) (by decide +kernel)) rfl
theorem kV_X12_331 : me_V RX12 331 yX12_uniqueOf cX12_uniqueOf 3 (some .int) 12 1 := ⟨⟨TX12, 43, rfl⟩, Or.inl tw_1797, tw_1799, ts_154, tw_14, tw_1800, by decide +kernel, by decide +kernel, by decide +kernel, by decide⟩
theorem tw_1809 : Cond.methodLink RX12 334 yX12_commonOf ∈ lw_good := lw_in (List.mem_of_getElem? (i := 1809) (by decide +kernel)) rfl
theorem tw_1811 : Cond.instanceMethod yX12_commonOf ∈ lw_good := lw_in (List.mem_of_getElem? (i := 1811) (by decide +kernel)) rfl
theorem ts_155 : Cond.selects RX12 yX12_commonOf yX12_commonOf ∈ lw_good := lw_ins (q := (yX12_commonOf, 43)) (List.mem_of_getElem? (i := 155) (by decide +kernel))
theorem tw_1812 : Cond.code yX12_commonOf cX12_commonOf 6 (some .int) ∈ lw_good := lw_in (List.mem_of_getElem? (i := 1812) (by decide +kernel)) rfl
theorem kV_X12_334 : me_V RX12 334 yX12_commonOf cX12_commonOf 6 (some .int) 12 1 := ⟨⟨TX12, 43, rfl⟩, Or.inl tw_1809, tw_1811, ts_155, tw_14, tw_1812, by decide +kernel, by decide +kernel, by decide +kernel, by decide⟩
theorem tw_1821 : Cond.constantLong RX12 337 31 ∈ lw_good := lw_in (List.mem_of_getElem? (i := 1821) (by decide +kernel)) rfl
