theorem tw_101 : Cond.fieldLink RX4 24 "BothEnds$Rows" "signs" "[I" ∈ lw_good := lw_in (List.mem_of_getElem? (i := 101) (by decide +kernel)) rfl
theorem inw4 : ∀ w ∈ u_ws RX4 TX4 6, w ∈ lw_good := by decide +kernel
theorem kF_X4_24 : me_F RX4 24 4 0 := ⟨RX4, TX4, 6, rfl, by decide, inw4, Or.inl tw_101⟩
theorem tw_114 : Cond.fieldLink RX4 27 "BothEnds$Rows" "length" "I" ∈ lw_good := lw_in (List.mem_of_getElem? (i := 114) (by decide +kernel)) rfl
theorem kF_X4_27 : me_F RX4 27 4 5 := ⟨RX4, TX4, 6, rfl, by decide, inw4, Or.inl tw_114⟩
theorem tw_107 : Cond.fieldLink RX4 15 "BothEnds$Rows" "rowOfPlace" "[I" ∈ lw_good := lw_in (List.mem_of_getElem? (i := 107) (by decide +kernel)) rfl
theorem kF_X4_15 : me_F RX4 15 4 2 := ⟨RX4, TX4, 6, rfl, by decide, inw4, Or.inl tw_107⟩
theorem ic_1 : Int32.ofInt 1 = (1 : Int32) := by decide
theorem ic_0 : Int32.ofInt 0 = (0 : Int32) := by decide
theorem pl_RX4 : plainName RX4 = true := by decide +kernel
theorem tw_103 : Cond.fieldLink RX4 9 "BothEnds$Rows" "places" "[I" ∈ lw_good := lw_in (List.mem_of_getElem? (i := 103) (by decide +kernel)) rfl
theorem kF_X4_9 : me_F RX4 9 4 1 := ⟨RX4, TX4, 6, rfl, by decide, inw4, Or.inl tw_103⟩
theorem tw_456 : Cond.methodLink RX4 40 yX4_isAhead ∈ lw_good := lw_in (List.mem_of_getElem? (i := 456) (by decide +kernel)) rfl
theorem tw_4 : Cond.initialized RX4 ∈ lw_good := lw_in (List.mem_of_getElem? (i := 4) (by decide +kernel)) rfl
theorem tw_458 : Cond.instanceMethod yX4_isAhead ∈ lw_good := lw_in (List.mem_of_getElem? (i := 458) (by decide +kernel)) rfl
theorem ts_8 : Cond.selects RX4 yX4_isAhead yX4_isAhead ∈ lw_good := lw_ins (q := (yX4_isAhead, 6)) (List.mem_of_getElem? (i := 8) (by decide +kernel))
theorem tw_459 : Cond.code yX4_isAhead cX4_isAhead 3 (some .boolean) ∈ lw_good := lw_in (List.mem_of_getElem? (i := 459) (by decide +kernel)) rfl
theorem kV_X4_40 : me_V RX4 40 yX4_isAhead cX4_isAhead 3 (some .boolean) 4 2 := ⟨⟨TX4, 6, rfl⟩, Or.inl tw_456, tw_458, ts_8, tw_4, tw_459, by decide +kernel, by decide +kernel, by decide +kernel, by decide⟩
theorem in_m1 (x : Int32) : x + Int32.ofInt (-1) = x + (-1) := by rw [show Int32.ofInt (-1) = (-1 : Int32) from by decide]
theorem in_1 (x : Int32) : x + Int32.ofInt 1 = x + 1 := by rw [show Int32.ofInt 1 = (1 : Int32) from by decide]
theorem tw_110 : Cond.fieldLink RX4 18 "BothEnds$Rows" "alike" "[I" ∈ lw_good := lw_in (List.mem_of_getElem? (i := 110) (by decide +kernel)) rfl
theorem kF_X4_18 : me_F RX4 18 4 3 := ⟨RX4, TX4, 6, rfl, by decide, inw4, Or.inl tw_110⟩
theorem tw_464 : Cond.methodLink RX4 44 yJ9_max_7cf53 ∈ lw_good := lw_in (List.mem_of_getElem? (i := 464) (by decide +kernel)) rfl
theorem tw_13 : Cond.initialized RJ9 ∈ lw_good := lw_in (List.mem_of_getElem? (i := 13) (by decide +kernel)) rfl
theorem tw_465 : Cond.static yJ9_max_7cf53 ∈ lw_good := lw_in (List.mem_of_getElem? (i := 465) (by decide +kernel)) rfl
theorem tw_466 : Cond.code yJ9_max_7cf53 cJ9_max_7cf53 2 (some .int) ∈ lw_good := lw_in (List.mem_of_getElem? (i := 466) (by decide +kernel)) rfl
theorem kS_X4_44 : me_S RX4 44 yJ9_max_7cf53 cJ9_max_7cf53 2 (some .int) 2 := ⟨Or.inl tw_464, tw_465, tw_13, tw_466, by decide +kernel, by decide +kernel, by decide +kernel, by decide⟩
theorem plf_yJ9_max_7cf53 : plainFor yJ9_max_7cf53 = true := by decide +kernel
theorem tw_471 : Cond.methodLink RX4 50 yX4_before ∈ lw_good := lw_in (List.mem_of_getElem? (i := 471) (by decide +kernel)) rfl
theorem tw_473 : Cond.instanceMethod yX4_before ∈ lw_good := lw_in (List.mem_of_getElem? (i := 473) (by decide +kernel)) rfl
theorem ts_11 : Cond.selects RX4 yX4_before yX4_before ∈ lw_good := lw_ins (q := (yX4_before, 6)) (List.mem_of_getElem? (i := 11) (by decide +kernel))
theorem tw_474 : Cond.code yX4_before cX4_before 3 (some .int) ∈ lw_good := lw_in (List.mem_of_getElem? (i := 474) (by decide +kernel)) rfl
theorem kV_X4_50 : me_V RX4 50 yX4_before cX4_before 3 (some .int) 4 1 := ⟨⟨TX4, 6, rfl⟩, Or.inl tw_471, tw_473, ts_11, tw_4, tw_474, by decide +kernel, by decide +kernel, by decide +kernel, by decide⟩
theorem ib_8 : (Int8.ofInt 8).toInt32 = (8 : Int32) := by decide
theorem ic_2 : Int32.ofInt 2 = (2 : Int32) := by decide
theorem tw_113 : Cond.fieldLink RX4 21 "BothEnds$Rows" "smaller" "[I" ∈ lw_good := lw_in (List.mem_of_getElem? (i := 113) (by decide +kernel)) rfl
theorem kF_X4_21 : me_F RX4 21 4 4 := ⟨RX4, TX4, 6, rfl, by decide, inw4, Or.inl tw_113⟩
theorem kG_X4_27 : me_G RX4 27 4 5 .int := ⟨RX4, TX4, 6, tyX4, rfl, by decide, inw4, tyX4_ok, nmX4, rfl, by decide +kernel, Or.inl tw_114⟩
theorem tw_452 : Cond.methodLink RX4 31 yX4_sortPlaces ∈ lw_good := lw_in (List.mem_of_getElem? (i := 452) (by decide +kernel)) rfl
theorem tw_454 : Cond.instanceMethod yX4_sortPlaces ∈ lw_good := lw_in (List.mem_of_getElem? (i := 454) (by decide +kernel)) rfl
theorem ts_7 : Cond.selects RX4 yX4_sortPlaces yX4_sortPlaces ∈ lw_good := lw_ins (q := (yX4_sortPlaces, 6)) (List.mem_of_getElem? (i := 7) (by decide +kernel))
theorem tw_455 : Cond.code yX4_sortPlaces cX4_sortPlaces 3 none ∈ lw_good := lw_in (List.mem_of_getElem? (i := 455) (by decide +kernel)) rfl
theorem kV_X4_31 : me_V RX4 31 yX4_sortPlaces cX4_sortPlaces 3 none 4 0 := ⟨⟨TX4, 6, rfl⟩, Or.inl tw_452, tw_454, ts_7, tw_4, tw_455, by decide +kernel, by decide +kernel, by decide +kernel, by decide⟩
theorem tw_460 : Cond.methodLink RX4 34 yX4_compareNeighbours ∈ lw_good := lw_in (List.mem_of_getElem? (i := 460) (by decide +kernel)) rfl
theorem tw_462 : Cond.instanceMethod yX4_compareNeighbours ∈ lw_good := lw_in (List.mem_of_getElem? (i := 462) (by decide +kernel)) rfl
theorem ts_9 : Cond.selects RX4 yX4_compareNeighbours yX4_compareNeighbours ∈ lw_good := lw_ins (q := (yX4_compareNeighbours, 6)) (List.mem_of_getElem? (i := 9) (by decide +kernel))
theorem tw_463 : Cond.code yX4_compareNeighbours cX4_compareNeighbours 5 none ∈ lw_good := lw_in (List.mem_of_getElem? (i := 463) (by decide +kernel)) rfl
theorem kV_X4_34 : me_V RX4 34 yX4_compareNeighbours cX4_compareNeighbours 5 none 4 0 := ⟨⟨TX4, 6, rfl⟩, Or.inl tw_460, tw_462, ts_9, tw_4, tw_463, by decide +kernel, by decide +kernel, by decide +kernel, by decide⟩
theorem tw_467 : Cond.methodLink RX4 37 yX4_tallySmaller ∈ lw_good := lw_in (List.mem_of_getElem? (i := 467) (by decide +kernel)) rfl
theorem tw_469 : Cond.instanceMethod yX4_tallySmaller ∈ lw_good := lw_in (List.mem_of_getElem? (i := 469) (by decide +kernel)) rfl
theorem ts_10 : Cond.selects RX4 yX4_tallySmaller yX4_tallySmaller ∈ lw_good := lw_ins (q := (yX4_tallySmaller, 6)) (List.mem_of_getElem? (i := 10) (by decide +kernel))
theorem tw_470 : Cond.code yX4_tallySmaller cX4_tallySmaller 5 none ∈ lw_good := lw_in (List.mem_of_getElem? (i := 470) (by decide +kernel)) rfl
theorem kV_X4_37 : me_V RX4 37 yX4_tallySmaller cX4_tallySmaller 5 none 4 0 := ⟨⟨TX4, 6, rfl⟩, Or.inl tw_467, tw_469, ts_10, tw_4, tw_470, by decide +kernel, by decide +kernel, by decide +kernel, by decide⟩
theorem tw_499 : Cond.methodLink RX4 54 yX4_smallerAhead ∈ lw_good := lw_in (List.mem_of_getElem? (i := 499) (by decide +kernel)) rfl
theorem tw_501 : Cond.instanceMethod yX4_smallerAhead ∈ lw_good := lw_in (List.mem_of_getElem? (i := 501) (by decide +kernel)) rfl
theorem ts_17 : Cond.selects RX4 yX4_smallerAhead yX4_smallerAhead ∈ lw_good := lw_ins (q := (yX4_smallerAhead, 6)) (List.mem_of_getElem? (i := 17) (by decide +kernel))
theorem tw_502 : Cond.code yX4_smallerAhead cX4_smallerAhead 3 (some .int) ∈ lw_good := lw_in (List.mem_of_getElem? (i := 502) (by decide +kernel)) rfl
theorem kV_X4_54 : me_V RX4 54 yX4_smallerAhead cX4_smallerAhead 3 (some .int) 4 2 := ⟨⟨TX4, 6, rfl⟩, Or.inl tw_499, tw_501, ts_17, tw_4, tw_502, by decide +kernel, by decide +kernel, by decide +kernel, by decide⟩
theorem tw_863 : Cond.methodLink RX4 57 yX4_lettersAhead ∈ lw_good := lw_in (List.mem_of_getElem? (i := 863) (by decide +kernel)) rfl
theorem tw_497 : Cond.instanceMethod yX4_lettersAhead ∈ lw_good := lw_in (List.mem_of_getElem? (i := 497) (by decide +kernel)) rfl
theorem ts_16 : Cond.selects RX4 yX4_lettersAhead yX4_lettersAhead ∈ lw_good := lw_ins (q := (yX4_lettersAhead, 6)) (List.mem_of_getElem? (i := 16) (by decide +kernel))
theorem tw_498 : Cond.code yX4_lettersAhead cX4_lettersAhead 3 (some .int) ∈ lw_good := lw_in (List.mem_of_getElem? (i := 498) (by decide +kernel)) rfl
theorem kV_X4_57 : me_V RX4 57 yX4_lettersAhead cX4_lettersAhead 3 (some .int) 4 2 := ⟨⟨TX4, 6, rfl⟩, Or.inl tw_863, tw_497, ts_16, tw_4, tw_498, by decide +kernel, by decide +kernel, by decide +kernel, by decide⟩
