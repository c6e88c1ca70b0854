theorem tw_650 : Cond.methodLinkNest RX11 118 yX9_holds "BothEnds" ∈ lw_nest := lw_inn (List.mem_of_getElem? (i := 650) (by decide +kernel)) rfl
theorem tw_652 : Cond.instanceMethod yX9_holds ∈ lw_good := lw_in (List.mem_of_getElem? (i := 652) (by decide +kernel)) rfl
theorem ts_31 : Cond.selects RX9 yX9_holds yX9_holds ∈ lw_good := lw_ins (q := (yX9_holds, 2)) (List.mem_of_getElem? (i := 31) (by decide +kernel))
theorem tw_653 : Cond.code yX9_holds cX9_holds 2 (some .boolean) ∈ lw_good := lw_in (List.mem_of_getElem? (i := 653) (by decide +kernel)) rfl
theorem kV_X11_118 : me_V RX11 118 yX9_holds cX9_holds 2 (some .boolean) 9 1 := ⟨⟨TX9, 2, rfl⟩, Or.inr ⟨_, tw_650⟩, tw_652, ts_31, tw_2, tw_653, by decide +kernel, by decide +kernel, by decide +kernel, by decide⟩
theorem tw_654 : Cond.methodLink RX11 122 yX11_needArgument ∈ lw_good := lw_in (List.mem_of_getElem? (i := 654) (by decide +kernel)) rfl
theorem tw_656 : Cond.instanceMethod yX11_needArgument ∈ lw_good := lw_in (List.mem_of_getElem? (i := 656) (by decide +kernel)) rfl
theorem ts_32 : Cond.selects RX11 yX11_needArgument yX11_needArgument ∈ lw_good := lw_ins (q := (yX11_needArgument, 16)) (List.mem_of_getElem? (i := 32) (by decide +kernel))
theorem tw_657 : Cond.code yX11_needArgument cX11_needArgument 2 none ∈ lw_good := lw_in (List.mem_of_getElem? (i := 657) (by decide +kernel)) rfl
theorem kV_X11_122 : me_V RX11 122 yX11_needArgument cX11_needArgument 2 none 11 1 := ⟨⟨TX11, 16, rfl⟩, Or.inl tw_654, tw_656, ts_32, tw_1, tw_657, by decide +kernel, by decide +kernel, by decide +kernel, by decide⟩
theorem tw_726 : Cond.methodLinkNest RX11 126 yX9_firstNoText "BothEnds" ∈ lw_nest := lw_inn (List.mem_of_getElem? (i := 726) (by decide +kernel)) rfl
theorem tw_728 : Cond.instanceMethod yX9_firstNoText ∈ lw_good := lw_in (List.mem_of_getElem? (i := 728) (by decide +kernel)) rfl
theorem ts_34 : Cond.selects RX9 yX9_firstNoText yX9_firstNoText ∈ lw_good := lw_ins (q := (yX9_firstNoText, 2)) (List.mem_of_getElem? (i := 34) (by decide +kernel))
theorem tw_729 : Cond.code yX9_firstNoText cX9_firstNoText 3 (some .int) ∈ lw_good := lw_in (List.mem_of_getElem? (i := 729) (by decide +kernel)) rfl
theorem kV_X11_126 : me_V RX11 126 yX9_firstNoText cX9_firstNoText 3 (some .int) 9 1 := ⟨⟨TX9, 2, rfl⟩, Or.inr ⟨_, tw_726⟩, tw_728, ts_34, tw_2, tw_729, by decide +kernel, by decide +kernel, by decide +kernel, by decide⟩
theorem tw_737 : Cond.methodLinkNest RX11 130 yX10_take "BothEnds" ∈ lw_nest := lw_inn (List.mem_of_getElem? (i := 737) (by decide +kernel)) rfl
theorem tw_739 : Cond.instanceMethod yX10_take ∈ lw_good := lw_in (List.mem_of_getElem? (i := 739) (by decide +kernel)) rfl
theorem ts_36 : Cond.selects RX10 yX10_take yX10_take ∈ lw_good := lw_ins (q := (yX10_take, 8)) (List.mem_of_getElem? (i := 36) (by decide +kernel))
theorem tw_740 : Cond.code yX10_take cX10_take 5 none ∈ lw_good := lw_in (List.mem_of_getElem? (i := 740) (by decide +kernel)) rfl
theorem kV_X11_130 : me_V RX11 130 yX10_take cX10_take 5 none 10 2 := ⟨⟨TX10, 8, rfl⟩, Or.inr ⟨_, tw_737⟩, tw_739, ts_36, tw_3, tw_740, by decide +kernel, by decide +kernel, by decide +kernel, by decide⟩
theorem tw_424 : Cond.methodLink RX11 108 yX11_index ∈ lw_good := lw_in (List.mem_of_getElem? (i := 424) (by decide +kernel)) rfl
theorem tw_426 : Cond.instanceMethod yX11_index ∈ lw_good := lw_in (List.mem_of_getElem? (i := 426) (by decide +kernel)) rfl
theorem ts_0 : Cond.selects RX11 yX11_index yX11_index ∈ lw_good := lw_ins (q := (yX11_index, 16)) (List.mem_of_getElem? (i := 0) (by decide +kernel))
theorem tw_427 : Cond.code yX11_index cX11_index 1 none ∈ lw_good := lw_in (List.mem_of_getElem? (i := 427) (by decide +kernel)) rfl
theorem kV_X11_108 : me_V RX11 108 yX11_index cX11_index 1 none 11 0 := ⟨⟨TX11, 16, rfl⟩, Or.inl tw_424, tw_426, ts_0, tw_1, tw_427, by decide +kernel, by decide +kernel, by decide +kernel, by decide⟩
theorem tw_526 : Cond.fieldLink RX11 81 "BothEnds" "outcome" "LBothEnds$Result;" ∈ lw_good := lw_in (List.mem_of_getElem? (i := 526) (by decide +kernel)) rfl
theorem kF_X11_81 : me_F RX11 81 11 8 := ⟨RX11, TX11, 16, rfl, by decide, inw11, Or.inl tw_526⟩
theorem tw_314 : Cond.fieldLinkNest RX11 134 "BothEnds$Result" "stands" "Z" "BothEnds" ∈ lw_nest := lw_inn (List.mem_of_getElem? (i := 314) (by decide +kernel)) rfl
theorem kG_X11_134 : me_G RX11 134 3 4 .boolean := ⟨RX3, TX3, 9, tyX3, rfl, by decide, inw3, tyX3_ok, nmX3, rfl, by decide +kernel, Or.inr ⟨_, tw_314⟩⟩
theorem tw_524 : Cond.fieldLink RX11 65 "BothEnds" "stretches" "LBothEnds$Stretches;" ∈ lw_good := lw_in (List.mem_of_getElem? (i := 524) (by decide +kernel)) rfl
theorem kF_X11_65 : me_F RX11 65 11 6 := ⟨RX11, TX11, 16, rfl, by decide, inw11, Or.inl tw_524⟩
theorem tw_223 : Cond.fieldLinkNest RX11 138 "BothEnds$Stretches" "size" "I" "BothEnds" ∈ lw_nest := lw_inn (List.mem_of_getElem? (i := 223) (by decide +kernel)) rfl
theorem kG_X11_138 : me_G RX11 138 8 6 .int := ⟨RX8, TX8, 9, tyX8, rfl, by decide, inw8, tyX8_ok, nmX8, rfl, by decide +kernel, Or.inr ⟨_, tw_223⟩⟩
theorem kG_X11_111 : me_G RX11 111 9 1 .int := ⟨RX9, TX9, 2, tyX9, rfl, by decide, inw9, tyX9_ok, nmX9, rfl, by decide +kernel, Or.inr ⟨_, tw_39⟩⟩
theorem tw_529 : Cond.fieldLink RX11 101 "BothEnds" "spare" "LBothEnds$Scheme;" ∈ lw_good := lw_in (List.mem_of_getElem? (i := 529) (by decide +kernel)) rfl
theorem kF_X11_101 : me_F RX11 101 11 11 := ⟨RX11, TX11, 16, rfl, by decide, inw11, Or.inl tw_529⟩
theorem tw_748 : Cond.methodLinkNest RX11 141 yX6_read "BothEnds" ∈ lw_nest := lw_inn (List.mem_of_getElem? (i := 748) (by decide +kernel)) rfl
theorem tw_750 : Cond.instanceMethod yX6_read ∈ lw_good := lw_in (List.mem_of_getElem? (i := 750) (by decide +kernel)) rfl
theorem ts_37 : Cond.selects RX6 yX6_read yX6_read ∈ lw_good := lw_ins (q := (yX6_read, 5)) (List.mem_of_getElem? (i := 37) (by decide +kernel))
theorem tw_751 : Cond.code yX6_read cX6_read 4 none ∈ lw_good := lw_in (List.mem_of_getElem? (i := 751) (by decide +kernel)) rfl
theorem kV_X11_141 : me_V RX11 141 yX6_read cX6_read 4 none 6 2 := ⟨⟨TX6, 5, rfl⟩, Or.inr ⟨_, tw_748⟩, tw_750, ts_37, tw_11, tw_751, by decide +kernel, by decide +kernel, by decide +kernel, by decide⟩
theorem tw_352 : Cond.fieldLinkNest RX11 145 "BothEnds$SchemeReader" "kind" "I" "BothEnds" ∈ lw_nest := lw_inn (List.mem_of_getElem? (i := 352) (by decide +kernel)) rfl
theorem kF_X11_145 : me_F RX11 145 6 3 := ⟨RX6, TX6, 5, rfl, by decide, inw6, Or.inr ⟨_, tw_352⟩⟩
theorem kG_X11_97 : me_G RX11 97 11 10 (.object "BothEnds$Scheme") := ⟨RX11, TX11, 16, tyX11, rfl, by decide, inw11, tyX11_ok, nmX11, rfl, by decide +kernel, Or.inl tw_528⟩
theorem kG_X11_101 : me_G RX11 101 11 11 (.object "BothEnds$Scheme") := ⟨RX11, TX11, 16, tyX11, rfl, by decide, inw11, tyX11_ok, nmX11, rfl, by decide +kernel, Or.inl tw_529⟩
theorem tw_530 : Cond.fieldLink RX11 104 "BothEnds" "noteStep" "I" ∈ lw_good := lw_in (List.mem_of_getElem? (i := 530) (by decide +kernel)) rfl
theorem kF_X11_104 : me_F RX11 104 11 12 := ⟨RX11, TX11, 16, rfl, by decide, inw11, Or.inl tw_530⟩
theorem kG_X11_104 : me_G RX11 104 11 12 .int := ⟨RX11, TX11, 16, tyX11, rfl, by decide, inw11, tyX11_ok, nmX11, rfl, by decide +kernel, Or.inl tw_530⟩
theorem tw_827 : Cond.methodLink RX11 154 yX11_isLetter ∈ lw_good := lw_in (List.mem_of_getElem? (i := 827) (by decide +kernel)) rfl
theorem kS_X11_154 : me_S RX11 154 yX11_isLetter cX11_isLetter 1 (some .boolean) 1 := ⟨Or.inl tw_827, tw_731, tw_1, tw_732, by decide +kernel, by decide +kernel, by decide +kernel, by decide⟩
theorem tw_828 : Cond.methodLink RX11 157 yX11_isWhat ∈ lw_good := lw_in (List.mem_of_getElem? (i := 828) (by decide +kernel)) rfl
theorem tw_829 : Cond.static yX11_isWhat ∈ lw_good := lw_in (List.mem_of_getElem? (i := 829) (by decide +kernel)) rfl
theorem tw_830 : Cond.code yX11_isWhat cX11_isWhat 2 (some .boolean) ∈ lw_good := lw_in (List.mem_of_getElem? (i := 830) (by decide +kernel)) rfl
theorem kS_X11_157 : me_S RX11 157 yX11_isWhat cX11_isWhat 2 (some .boolean) 2 := ⟨Or.inl tw_828, tw_829, tw_1, tw_830, by decide +kernel, by decide +kernel, by decide +kernel, by decide⟩
theorem tw_831 : Cond.methodLink RX11 162 yX11_needState ∈ lw_good := lw_in (List.mem_of_getElem? (i := 831) (by decide +kernel)) rfl
theorem tw_833 : Cond.instanceMethod yX11_needState ∈ lw_good := lw_in (List.mem_of_getElem? (i := 833) (by decide +kernel)) rfl
theorem ts_51 : Cond.selects RX11 yX11_needState yX11_needState ∈ lw_good := lw_ins (q := (yX11_needState, 16)) (List.mem_of_getElem? (i := 51) (by decide +kernel))
theorem tw_834 : Cond.code yX11_needState cX11_needState 2 none ∈ lw_good := lw_in (List.mem_of_getElem? (i := 834) (by decide +kernel)) rfl
theorem kV_X11_162 : me_V RX11 162 yX11_needState cX11_needState 2 none 11 1 := ⟨⟨TX11, 16, rfl⟩, Or.inl tw_831, tw_833, ts_51, tw_1, tw_834, by decide +kernel, by decide +kernel, by decide +kernel, by decide⟩
theorem tw_851 : Cond.methodLinkNest RX11 165 yX0_push "BothEnds" ∈ lw_nest := lw_inn (List.mem_of_getElem? (i := 851) (by decide +kernel)) rfl
theorem tw_853 : Cond.instanceMethod yX0_push ∈ lw_good := lw_in (List.mem_of_getElem? (i := 853) (by decide +kernel)) rfl
theorem ts_52 : Cond.selects RX0 yX0_push yX0_push ∈ lw_good := lw_ins (q := (yX0_push, 5)) (List.mem_of_getElem? (i := 52) (by decide +kernel))
theorem tw_854 : Cond.code yX0_push cX0_push 4 (some .int) ∈ lw_good := lw_in (List.mem_of_getElem? (i := 854) (by decide +kernel)) rfl
theorem kV_X11_165 : me_V RX11 165 yX0_push cX0_push 4 (some .int) 0 2 := ⟨⟨TX0, 5, rfl⟩, Or.inr ⟨_, tw_851⟩, tw_853, ts_52, tw_5, tw_854, by decide +kernel, by decide +kernel, by decide +kernel, by decide⟩
theorem tw_77 : Cond.fieldLinkNest RX11 180 "BothEnds$Text" "letterBits" "I" "BothEnds" ∈ lw_nest := lw_inn (List.mem_of_getElem? (i := 77) (by decide +kernel)) rfl
theorem kF_X11_180 : me_F RX11 180 10 7 := ⟨RX10, TX10, 8, rfl, by decide, inw10, Or.inr ⟨_, tw_77⟩⟩
theorem tw_872 : Cond.methodLink RX11 183 yJ6_bitCount_0f7a4 ∈ lw_good := lw_in (List.mem_of_getElem? (i := 872) (by decide +kernel)) rfl
theorem kS_X11_183 : me_S RX11 183 yJ6_bitCount_0f7a4 cJ6_bitCount_0f7a4 1 (some .int) 1 := ⟨Or.inl tw_872, tw_625, tw_20, tw_626, by decide +kernel, by decide +kernel, by decide +kernel, by decide⟩
theorem tw_877 : Cond.methodLinkNest RX11 191 yX0_lowBack "BothEnds" ∈ lw_nest := lw_inn (List.mem_of_getElem? (i := 877) (by decide +kernel)) rfl
theorem tw_879 : Cond.instanceMethod yX0_lowBack ∈ lw_good := lw_in (List.mem_of_getElem? (i := 879) (by decide +kernel)) rfl
theorem ts_56 : Cond.selects RX0 yX0_lowBack yX0_lowBack ∈ lw_good := lw_ins (q := (yX0_lowBack, 5)) (List.mem_of_getElem? (i := 56) (by decide +kernel))
theorem tw_880 : Cond.code yX0_lowBack cX0_lowBack 1 (some .int) ∈ lw_good := lw_in (List.mem_of_getElem? (i := 880) (by decide +kernel)) rfl
theorem kV_X11_191 : me_V RX11 191 yX0_lowBack cX0_lowBack 1 (some .int) 0 0 := ⟨⟨TX0, 5, rfl⟩, Or.inr ⟨_, tw_877⟩, tw_879, ts_56, tw_5, tw_880, by decide +kernel, by decide +kernel, by decide +kernel, by decide⟩
theorem tw_391 : Cond.fieldLinkNest RX11 196 "BothEnds$Scheme" "parts" "I" "BothEnds" ∈ lw_nest := lw_inn (List.mem_of_getElem? (i := 391) (by decide +kernel)) rfl
theorem kF_X11_196 : me_F RX11 196 5 5 := ⟨RX5, TX5, 11, rfl, by decide, inw5, Or.inr ⟨_, tw_391⟩⟩
theorem tw_882 : Cond.methodLinkNest RX11 199 yX5_budget "BothEnds" ∈ lw_nest := lw_inn (List.mem_of_getElem? (i := 882) (by decide +kernel)) rfl
theorem kV_X11_199 : me_V RX11 199 yX5_budget cX5_budget 3 (some .int) 5 0 := ⟨⟨TX5, 11, rfl⟩, Or.inr ⟨_, tw_882⟩, tw_605, ts_25, tw_12, tw_606, by decide +kernel, by decide +kernel, by decide +kernel, by decide⟩
theorem kF_X11_134 : me_F RX11 134 3 4 := ⟨RX3, TX3, 9, rfl, by decide, inw3, Or.inr ⟨_, tw_314⟩⟩
theorem tw_318 : Cond.fieldLinkNest RX11 202 "BothEnds$Result" "size" "I" "BothEnds" ∈ lw_nest := lw_inn (List.mem_of_getElem? (i := 318) (by decide +kernel)) rfl
theorem kF_X11_202 : me_F RX11 202 3 6 := ⟨RX3, TX3, 9, rfl, by decide, inw3, Or.inr ⟨_, tw_318⟩⟩
theorem tw_891 : Cond.methodLink RX11 203 yX11_isPlace ∈ lw_good := lw_in (List.mem_of_getElem? (i := 891) (by decide +kernel)) rfl
theorem tw_893 : Cond.instanceMethod yX11_isPlace ∈ lw_good := lw_in (List.mem_of_getElem? (i := 893) (by decide +kernel)) rfl
theorem ts_57 : Cond.selects RX11 yX11_isPlace yX11_isPlace ∈ lw_good := lw_ins (q := (yX11_isPlace, 16)) (List.mem_of_getElem? (i := 57) (by decide +kernel))
theorem tw_894 : Cond.code yX11_isPlace cX11_isPlace 2 (some .boolean) ∈ lw_good := lw_in (List.mem_of_getElem? (i := 894) (by decide +kernel)) rfl
theorem kV_X11_203 : me_V RX11 203 yX11_isPlace cX11_isPlace 2 (some .boolean) 11 1 := ⟨⟨TX11, 16, rfl⟩, Or.inl tw_891, tw_893, ts_57, tw_1, tw_894, by decide +kernel, by decide +kernel, by decide +kernel, by decide⟩
theorem tw_895 : Cond.methodLink RX11 206 yX11_needElement ∈ lw_good := lw_in (List.mem_of_getElem? (i := 895) (by decide +kernel)) rfl
theorem tw_897 : Cond.instanceMethod yX11_needElement ∈ lw_good := lw_in (List.mem_of_getElem? (i := 897) (by decide +kernel)) rfl
theorem ts_58 : Cond.selects RX11 yX11_needElement yX11_needElement ∈ lw_good := lw_ins (q := (yX11_needElement, 16)) (List.mem_of_getElem? (i := 58) (by decide +kernel))
theorem tw_898 : Cond.code yX11_needElement cX11_needElement 2 none ∈ lw_good := lw_in (List.mem_of_getElem? (i := 898) (by decide +kernel)) rfl
theorem kV_X11_206 : me_V RX11 206 yX11_needElement cX11_needElement 2 none 11 1 := ⟨⟨TX11, 16, rfl⟩, Or.inl tw_895, tw_897, ts_58, tw_1, tw_898, by decide +kernel, by decide +kernel, by decide +kernel, by decide⟩
theorem tw_54 : Cond.fieldLinkNest RX11 25 "BothEnds$Text" "signs" "[I" "BothEnds" ∈ lw_nest := lw_inn (List.mem_of_getElem? (i := 54) (by decide +kernel)) rfl
theorem kF_X11_25 : me_F RX11 25 10 0 := ⟨RX10, TX10, 8, rfl, by decide, inw10, Or.inr ⟨_, tw_54⟩⟩
theorem tw_915 : Cond.methodLink RX11 209 yX11_byteOf ∈ lw_good := lw_in (List.mem_of_getElem? (i := 915) (by decide +kernel)) rfl
theorem tw_916 : Cond.static yX11_byteOf ∈ lw_good := lw_in (List.mem_of_getElem? (i := 916) (by decide +kernel)) rfl
theorem tw_917 : Cond.code yX11_byteOf cX11_byteOf 1 (some .int) ∈ lw_good := lw_in (List.mem_of_getElem? (i := 917) (by decide +kernel)) rfl
theorem kS_X11_209 : me_S RX11 209 yX11_byteOf cX11_byteOf 1 (some .int) 1 := ⟨Or.inl tw_915, tw_916, tw_1, tw_917, by decide +kernel, by decide +kernel, by decide +kernel, by decide⟩
theorem tw_925 : Cond.methodLink RX11 212 yX11_isSide ∈ lw_good := lw_in (List.mem_of_getElem? (i := 925) (by decide +kernel)) rfl
theorem tw_926 : Cond.static yX11_isSide ∈ lw_good := lw_in (List.mem_of_getElem? (i := 926) (by decide +kernel)) rfl
theorem tw_927 : Cond.code yX11_isSide cX11_isSide 1 (some .boolean) ∈ lw_good := lw_in (List.mem_of_getElem? (i := 927) (by decide +kernel)) rfl
theorem kS_X11_212 : me_S RX11 212 yX11_isSide cX11_isSide 1 (some .boolean) 1 := ⟨Or.inl tw_925, tw_926, tw_1, tw_927, by decide +kernel, by decide +kernel, by decide +kernel, by decide⟩
theorem tw_928 : Cond.methodLink RX11 215 yX11_rowsOf ∈ lw_good := lw_in (List.mem_of_getElem? (i := 928) (by decide +kernel)) rfl
theorem tw_930 : Cond.instanceMethod yX11_rowsOf ∈ lw_good := lw_in (List.mem_of_getElem? (i := 930) (by decide +kernel)) rfl
theorem ts_59 : Cond.selects RX11 yX11_rowsOf yX11_rowsOf ∈ lw_good := lw_ins (q := (yX11_rowsOf, 16)) (List.mem_of_getElem? (i := 59) (by decide +kernel))
theorem tw_931 : Cond.code yX11_rowsOf cX11_rowsOf 2 (some (.object "BothEnds$Rows")) ∈ lw_good := lw_in (List.mem_of_getElem? (i := 931) (by decide +kernel)) rfl
theorem kV_X11_215 : me_V RX11 215 yX11_rowsOf cX11_rowsOf 2 (some (.object "BothEnds$Rows")) 11 1 := ⟨⟨TX11, 16, rfl⟩, Or.inl tw_928, tw_930, ts_59, tw_1, tw_931, by decide +kernel, by decide +kernel, by decide +kernel, by decide⟩
theorem tw_106 : Cond.fieldLinkNest RX11 219 "BothEnds$Rows" "places" "[I" "BothEnds" ∈ lw_nest := lw_inn (List.mem_of_getElem? (i := 106) (by decide +kernel)) rfl
theorem kF_X11_219 : me_F RX11 219 4 1 := ⟨RX4, TX4, 6, rfl, by decide, inw4, Or.inr ⟨_, tw_106⟩⟩
theorem tw_102 : Cond.fieldLinkNest RX11 222 "BothEnds$Rows" "signs" "[I" "BothEnds" ∈ lw_nest := lw_inn (List.mem_of_getElem? (i := 102) (by decide +kernel)) rfl
theorem kF_X11_222 : me_F RX11 222 4 0 := ⟨RX4, TX4, 6, rfl, by decide, inw4, Or.inr ⟨_, tw_102⟩⟩
theorem tw_932 : Cond.methodLinkNest RX11 223 yX4_before "BothEnds" ∈ lw_nest := lw_inn (List.mem_of_getElem? (i := 932) (by decide +kernel)) rfl
theorem kV_X11_223 : me_V RX11 223 yX4_before cX4_before 3 (some .int) 4 1 := ⟨⟨TX4, 6, rfl⟩, Or.inr ⟨_, tw_932⟩, tw_473, ts_11, tw_4, tw_474, by decide +kernel, by decide +kernel, by decide +kernel, by decide⟩
theorem tw_933 : Cond.methodLinkNest RX11 226 yX4_walk "BothEnds" ∈ lw_nest := lw_inn (List.mem_of_getElem? (i := 933) (by decide +kernel)) rfl
theorem tw_935 : Cond.instanceMethod yX4_walk ∈ lw_good := lw_in (List.mem_of_getElem? (i := 935) (by decide +kernel)) rfl
theorem ts_60 : Cond.selects RX4 yX4_walk yX4_walk ∈ lw_good := lw_ins (q := (yX4_walk, 6)) (List.mem_of_getElem? (i := 60) (by decide +kernel))
theorem tw_936 : Cond.code yX4_walk cX4_walk 3 (some .int) ∈ lw_good := lw_in (List.mem_of_getElem? (i := 936) (by decide +kernel)) rfl
theorem kV_X11_226 : me_V RX11 226 yX4_walk cX4_walk 3 (some .int) 4 1 := ⟨⟨TX4, 6, rfl⟩, Or.inr ⟨_, tw_933⟩, tw_935, ts_60, tw_4, tw_936, by decide +kernel, by decide +kernel, by decide +kernel, by decide⟩
theorem tw_112 : Cond.fieldLinkNest RX11 229 "BothEnds$Rows" "alike" "[I" "BothEnds" ∈ lw_nest := lw_inn (List.mem_of_getElem? (i := 112) (by decide +kernel)) rfl
theorem kF_X11_229 : me_F RX11 229 4 3 := ⟨RX4, TX4, 6, rfl, by decide, inw4, Or.inr ⟨_, tw_112⟩⟩
theorem tw_951 : Cond.methodLinkNest RX11 235 yX4_lettersAhead "BothEnds" ∈ lw_nest := lw_inn (List.mem_of_getElem? (i := 951) (by decide +kernel)) rfl
theorem kV_X11_235 : me_V RX11 235 yX4_lettersAhead cX4_lettersAhead 3 (some .int) 4 2 := ⟨⟨TX4, 6, rfl⟩, Or.inr ⟨_, tw_951⟩, tw_497, ts_16, tw_4, tw_498, by decide +kernel, by decide +kernel, by decide +kernel, by decide⟩
theorem tw_959 : Cond.methodLinkNest RX11 238 yX0_letterAt "BothEnds" ∈ lw_nest := lw_inn (List.mem_of_getElem? (i := 959) (by decide +kernel)) rfl
theorem tw_961 : Cond.instanceMethod yX0_letterAt ∈ lw_good := lw_in (List.mem_of_getElem? (i := 961) (by decide +kernel)) rfl
theorem ts_61 : Cond.selects RX0 yX0_letterAt yX0_letterAt ∈ lw_good := lw_ins (q := (yX0_letterAt, 5)) (List.mem_of_getElem? (i := 61) (by decide +kernel))
theorem tw_962 : Cond.code yX0_letterAt cX0_letterAt 2 (some .int) ∈ lw_good := lw_in (List.mem_of_getElem? (i := 962) (by decide +kernel)) rfl
theorem kV_X11_238 : me_V RX11 238 yX0_letterAt cX0_letterAt 2 (some .int) 0 1 := ⟨⟨TX0, 5, rfl⟩, Or.inr ⟨_, tw_959⟩, tw_961, ts_61, tw_5, tw_962, by decide +kernel, by decide +kernel, by decide +kernel, by decide⟩
theorem tw_970 : Cond.methodLinkNest RX11 241 yX0_waysOn "BothEnds" ∈ lw_nest := lw_inn (List.mem_of_getElem? (i := 970) (by decide +kernel)) rfl
theorem tw_972 : Cond.instanceMethod yX0_waysOn ∈ lw_good := lw_in (List.mem_of_getElem? (i := 972) (by decide +kernel)) rfl
theorem ts_62 : Cond.selects RX0 yX0_waysOn yX0_waysOn ∈ lw_good := lw_ins (q := (yX0_waysOn, 5)) (List.mem_of_getElem? (i := 62) (by decide +kernel))
theorem tw_973 : Cond.code yX0_waysOn cX0_waysOn 4 (some .int) ∈ lw_good := lw_in (List.mem_of_getElem? (i := 973) (by decide +kernel)) rfl
theorem kV_X11_241 : me_V RX11 241 yX0_waysOn cX0_waysOn 4 (some .int) 0 1 := ⟨⟨TX0, 5, rfl⟩, Or.inr ⟨_, tw_970⟩, tw_972, ts_62, tw_5, tw_973, by decide +kernel, by decide +kernel, by decide +kernel, by decide⟩
theorem tw_981 : Cond.methodLink RX11 244 yX11_placeOfHit ∈ lw_good := lw_in (List.mem_of_getElem? (i := 981) (by decide +kernel)) rfl
theorem tw_983 : Cond.instanceMethod yX11_placeOfHit ∈ lw_good := lw_in (List.mem_of_getElem? (i := 983) (by decide +kernel)) rfl
theorem ts_63 : Cond.selects RX11 yX11_placeOfHit yX11_placeOfHit ∈ lw_good := lw_ins (q := (yX11_placeOfHit, 16)) (List.mem_of_getElem? (i := 63) (by decide +kernel))
theorem tw_984 : Cond.code yX11_placeOfHit cX11_placeOfHit 4 (some .int) ∈ lw_good := lw_in (List.mem_of_getElem? (i := 984) (by decide +kernel)) rfl
theorem kV_X11_244 : me_V RX11 244 yX11_placeOfHit cX11_placeOfHit 4 (some .int) 11 1 := ⟨⟨TX11, 16, rfl⟩, Or.inl tw_981, tw_983, ts_63, tw_1, tw_984, by decide +kernel, by decide +kernel, by decide +kernel, by decide⟩
theorem tw_1008 : Cond.methodLink RX11 256 yX11_gapsBetweenHits ∈ lw_good := lw_in (List.mem_of_getElem? (i := 1008) (by decide +kernel)) rfl
theorem tw_1010 : Cond.instanceMethod yX11_gapsBetweenHits ∈ lw_good := lw_in (List.mem_of_getElem? (i := 1010) (by decide +kernel)) rfl
theorem ts_68 : Cond.selects RX11 yX11_gapsBetweenHits yX11_gapsBetweenHits ∈ lw_good := lw_ins (q := (yX11_gapsBetweenHits, 16)) (List.mem_of_getElem? (i := 68) (by decide +kernel))
theorem tw_1011 : Cond.code yX11_gapsBetweenHits cX11_gapsBetweenHits 9 (some .int) ∈ lw_good := lw_in (List.mem_of_getElem? (i := 1011) (by decide +kernel)) rfl
theorem kV_X11_256 : me_V RX11 256 yX11_gapsBetweenHits cX11_gapsBetweenHits 9 (some .int) 11 1 := ⟨⟨TX11, 16, rfl⟩, Or.inl tw_1008, tw_1010, ts_68, tw_1, tw_1011, by decide +kernel, by decide +kernel, by decide +kernel, by decide⟩
theorem tw_1000 : Cond.methodLink RX11 253 yX11_documentsHit ∈ lw_good := lw_in (List.mem_of_getElem? (i := 1000) (by decide +kernel)) rfl
theorem tw_1002 : Cond.instanceMethod yX11_documentsHit ∈ lw_good := lw_in (List.mem_of_getElem? (i := 1002) (by decide +kernel)) rfl
theorem ts_66 : Cond.selects RX11 yX11_documentsHit yX11_documentsHit ∈ lw_good := lw_ins (q := (yX11_documentsHit, 16)) (List.mem_of_getElem? (i := 66) (by decide +kernel))
theorem tw_1003 : Cond.code yX11_documentsHit cX11_documentsHit 3 (some .int) ∈ lw_good := lw_in (List.mem_of_getElem? (i := 1003) (by decide +kernel)) rfl
theorem kV_X11_253 : me_V RX11 253 yX11_documentsHit cX11_documentsHit 3 (some .int) 11 0 := ⟨⟨TX11, 16, rfl⟩, Or.inl tw_1000, tw_1002, ts_66, tw_1, tw_1003, by decide +kernel, by decide +kernel, by decide +kernel, by decide⟩
theorem tw_1021 : Cond.methodLinkNest RX11 259 yX9_lettersAlone "BothEnds" ∈ lw_nest := lw_inn (List.mem_of_getElem? (i := 1021) (by decide +kernel)) rfl
theorem tw_1023 : Cond.instanceMethod yX9_lettersAlone ∈ lw_good := lw_in (List.mem_of_getElem? (i := 1023) (by decide +kernel)) rfl
theorem ts_69 : Cond.selects RX9 yX9_lettersAlone yX9_lettersAlone ∈ lw_good := lw_ins (q := (yX9_lettersAlone, 2)) (List.mem_of_getElem? (i := 69) (by decide +kernel))
theorem tw_1024 : Cond.code yX9_lettersAlone cX9_lettersAlone 3 (some .boolean) ∈ lw_good := lw_in (List.mem_of_getElem? (i := 1024) (by decide +kernel)) rfl
theorem kV_X11_259 : me_V RX11 259 yX9_lettersAlone cX9_lettersAlone 3 (some .boolean) 9 1 := ⟨⟨TX9, 2, rfl⟩, Or.inr ⟨_, tw_1021⟩, tw_1023, ts_69, tw_2, tw_1024, by decide +kernel, by decide +kernel, by decide +kernel, by decide⟩
theorem tw_1025 : Cond.methodLinkNest RX11 262 yX9_letterAt "BothEnds" ∈ lw_nest := lw_inn (List.mem_of_getElem? (i := 1025) (by decide +kernel)) rfl
theorem kV_X11_262 : me_V RX11 262 yX9_letterAt cX9_letterAt 2 (some .int) 9 1 := ⟨⟨TX9, 2, rfl⟩, Or.inr ⟨_, tw_1025⟩, tw_1027, ts_70, tw_2, tw_1028, by decide +kernel, by decide +kernel, by decide +kernel, by decide⟩
theorem tw_1029 : Cond.methodLinkNest RX11 263 yX4_rowWith "BothEnds" ∈ lw_nest := lw_inn (List.mem_of_getElem? (i := 1029) (by decide +kernel)) rfl
theorem kV_X11_263 : me_V RX11 263 yX4_rowWith cX4_rowWith 3 (some .int) 4 2 := ⟨⟨TX4, 6, rfl⟩, Or.inr ⟨_, tw_1029⟩, tw_861, ts_54, tw_4, tw_862, by decide +kernel, by decide +kernel, by decide +kernel, by decide⟩
theorem tw_394 : Cond.fieldLinkNest RX11 269 "BothEnds$Scheme" "shares" "I" "BothEnds" ∈ lw_nest := lw_inn (List.mem_of_getElem? (i := 394) (by decide +kernel)) rfl
theorem kF_X11_269 : me_F RX11 269 5 7 := ⟨RX5, TX5, 11, rfl, by decide, inw5, Or.inr ⟨_, tw_394⟩⟩
theorem tw_1044 : Cond.methodLink RX11 281 yX11_isSearch ∈ lw_good := lw_in (List.mem_of_getElem? (i := 1044) (by decide +kernel)) rfl
theorem tw_1046 : Cond.instanceMethod yX11_isSearch ∈ lw_good := lw_in (List.mem_of_getElem? (i := 1046) (by decide +kernel)) rfl
theorem ts_71 : Cond.selects RX11 yX11_isSearch yX11_isSearch ∈ lw_good := lw_ins (q := (yX11_isSearch, 16)) (List.mem_of_getElem? (i := 71) (by decide +kernel))
theorem tw_1047 : Cond.code yX11_isSearch cX11_isSearch 2 (some .boolean) ∈ lw_good := lw_in (List.mem_of_getElem? (i := 1047) (by decide +kernel)) rfl
theorem kV_X11_281 : me_V RX11 281 yX11_isSearch cX11_isSearch 2 (some .boolean) 11 1 := ⟨⟨TX11, 16, rfl⟩, Or.inl tw_1044, tw_1046, ts_71, tw_1, tw_1047, by decide +kernel, by decide +kernel, by decide +kernel, by decide⟩
theorem tw_375 : Cond.fieldLinkNest RX11 284 "BothEnds$Scheme" "order" "[I" "BothEnds" ∈ lw_nest := lw_inn (List.mem_of_getElem? (i := 375) (by decide +kernel)) rfl
theorem kF_X11_284 : me_F RX11 284 5 0 := ⟨RX5, TX5, 11, rfl, by decide, inw5, Or.inr ⟨_, tw_375⟩⟩
theorem tw_379 : Cond.fieldLinkNest RX11 287 "BothEnds$Scheme" "least" "[I" "BothEnds" ∈ lw_nest := lw_inn (List.mem_of_getElem? (i := 379) (by decide +kernel)) rfl
theorem kF_X11_287 : me_F RX11 287 5 1 := ⟨RX5, TX5, 11, rfl, by decide, inw5, Or.inr ⟨_, tw_379⟩⟩
theorem tw_383 : Cond.fieldLinkNest RX11 290 "BothEnds$Scheme" "most" "[I" "BothEnds" ∈ lw_nest := lw_inn (List.mem_of_getElem? (i := 383) (by decide +kernel)) rfl
theorem kF_X11_290 : me_F RX11 290 5 2 := ⟨RX5, TX5, 11, rfl, by decide, inw5, Or.inr ⟨_, tw_383⟩⟩
theorem tw_1055 : Cond.methodLinkNest RX11 293 yX3_takePattern "BothEnds" ∈ lw_nest := lw_inn (List.mem_of_getElem? (i := 1055) (by decide +kernel)) rfl
theorem tw_10 : Cond.initialized RX3 ∈ lw_good := lw_in (List.mem_of_getElem? (i := 10) (by decide +kernel)) rfl
theorem tw_1057 : Cond.instanceMethod yX3_takePattern ∈ lw_good := lw_in (List.mem_of_getElem? (i := 1057) (by decide +kernel)) rfl
theorem ts_72 : Cond.selects RX3 yX3_takePattern yX3_takePattern ∈ lw_good := lw_ins (q := (yX3_takePattern, 9)) (List.mem_of_getElem? (i := 72) (by decide +kernel))
theorem tw_1058 : Cond.code yX3_takePattern cX3_takePattern 4 none ∈ lw_good := lw_in (List.mem_of_getElem? (i := 1058) (by decide +kernel)) rfl
theorem kV_X11_293 : me_V RX11 293 yX3_takePattern cX3_takePattern 4 none 3 2 := ⟨⟨TX3, 9, rfl⟩, Or.inr ⟨_, tw_1055⟩, tw_1057, ts_72, tw_10, tw_1058, by decide +kernel, by decide +kernel, by decide +kernel, by decide⟩
theorem tw_525 : Cond.fieldLink RX11 74 "BothEnds" "hunt" "LBothEnds$Hunt;" ∈ lw_good := lw_in (List.mem_of_getElem? (i := 525) (by decide +kernel)) rfl
theorem kF_X11_74 : me_F RX11 74 11 7 := ⟨RX11, TX11, 16, rfl, by decide, inw11, Or.inl tw_525⟩
theorem tw_1061 : Cond.methodLinkNest RX11 296 yX1_forget "BothEnds" ∈ lw_nest := lw_inn (List.mem_of_getElem? (i := 1061) (by decide +kernel)) rfl
theorem tw_1063 : Cond.instanceMethod yX1_forget ∈ lw_good := lw_in (List.mem_of_getElem? (i := 1063) (by decide +kernel)) rfl
theorem ts_73 : Cond.selects RX1 yX1_forget yX1_forget ∈ lw_good := lw_ins (q := (yX1_forget, 12)) (List.mem_of_getElem? (i := 73) (by decide +kernel))
theorem tw_1064 : Cond.code yX1_forget cX1_forget 2 none ∈ lw_good := lw_in (List.mem_of_getElem? (i := 1064) (by decide +kernel)) rfl
theorem kV_X11_296 : me_V RX11 296 yX1_forget cX1_forget 2 none 1 0 := ⟨⟨TX1, 12, rfl⟩, Or.inr ⟨_, tw_1061⟩, tw_1063, ts_73, tw_9, tw_1064, by decide +kernel, by decide +kernel, by decide +kernel, by decide⟩
theorem tw_306 : Cond.fieldLinkNest RX11 299 "BothEnds$Result" "pattern" "[I" "BothEnds" ∈ lw_nest := lw_inn (List.mem_of_getElem? (i := 306) (by decide +kernel)) rfl
theorem kF_X11_299 : me_F RX11 299 3 0 := ⟨RX3, TX3, 9, rfl, by decide, inw3, Or.inr ⟨_, tw_306⟩⟩
theorem tw_1065 : Cond.methodLinkNest RX11 302 yX1_run "BothEnds" ∈ lw_nest := lw_inn (List.mem_of_getElem? (i := 1065) (by decide +kernel)) rfl
theorem tw_1067 : Cond.instanceMethod yX1_run ∈ lw_good := lw_in (List.mem_of_getElem? (i := 1067) (by decide +kernel)) rfl
theorem ts_74 : Cond.selects RX1 yX1_run yX1_run ∈ lw_good := lw_ins (q := (yX1_run, 12)) (List.mem_of_getElem? (i := 74) (by decide +kernel))
theorem tw_1068 : Cond.code yX1_run cX1_run 10 none ∈ lw_good := lw_in (List.mem_of_getElem? (i := 1068) (by decide +kernel)) rfl
theorem kV_X11_302 : me_V RX11 302 yX1_run cX1_run 10 none 1 4 := ⟨⟨TX1, 12, rfl⟩, Or.inr ⟨_, tw_1065⟩, tw_1067, ts_74, tw_9, tw_1068, by decide +kernel, by decide +kernel, by decide +kernel, by decide⟩
theorem tw_1095 : Cond.methodLinkNest RX11 306 yX3_gather "BothEnds" ∈ lw_nest := lw_inn (List.mem_of_getElem? (i := 1095) (by decide +kernel)) rfl
theorem tw_1097 : Cond.instanceMethod yX3_gather ∈ lw_good := lw_in (List.mem_of_getElem? (i := 1097) (by decide +kernel)) rfl
theorem ts_81 : Cond.selects RX3 yX3_gather yX3_gather ∈ lw_good := lw_ins (q := (yX3_gather, 9)) (List.mem_of_getElem? (i := 81) (by decide +kernel))
theorem tw_1098 : Cond.code yX3_gather cX3_gather 4 none ∈ lw_good := lw_in (List.mem_of_getElem? (i := 1098) (by decide +kernel)) rfl
theorem kV_X11_306 : me_V RX11 306 yX3_gather cX3_gather 4 none 3 2 := ⟨⟨TX3, 9, rfl⟩, Or.inr ⟨_, tw_1095⟩, tw_1097, ts_81, tw_10, tw_1098, by decide +kernel, by decide +kernel, by decide +kernel, by decide⟩
theorem tw_308 : Cond.fieldLinkNest RX11 310 "BothEnds$Result" "places" "[I" "BothEnds" ∈ lw_nest := lw_inn (List.mem_of_getElem? (i := 308) (by decide +kernel)) rfl
theorem kF_X11_310 : me_F RX11 310 3 1 := ⟨RX3, TX3, 9, rfl, by decide, inw3, Or.inr ⟨_, tw_308⟩⟩
theorem tw_310 : Cond.fieldLinkNest RX11 311 "BothEnds$Result" "mismatches" "[I" "BothEnds" ∈ lw_nest := lw_inn (List.mem_of_getElem? (i := 310) (by decide +kernel)) rfl
theorem kF_X11_311 : me_F RX11 311 3 2 := ⟨RX3, TX3, 9, rfl, by decide, inw3, Or.inr ⟨_, tw_310⟩⟩
theorem tw_312 : Cond.fieldLinkNest RX11 314 "BothEnds$Result" "times" "[I" "BothEnds" ∈ lw_nest := lw_inn (List.mem_of_getElem? (i := 312) (by decide +kernel)) rfl
theorem kF_X11_314 : me_F RX11 314 3 3 := ⟨RX3, TX3, 9, rfl, by decide, inw3, Or.inr ⟨_, tw_312⟩⟩
theorem tw_1106 : Cond.methodLinkNest RX11 317 yX3_unlikeBits "BothEnds" ∈ lw_nest := lw_inn (List.mem_of_getElem? (i := 1106) (by decide +kernel)) rfl
theorem tw_1108 : Cond.instanceMethod yX3_unlikeBits ∈ lw_good := lw_in (List.mem_of_getElem? (i := 1108) (by decide +kernel)) rfl
theorem ts_82 : Cond.selects RX3 yX3_unlikeBits yX3_unlikeBits ∈ lw_good := lw_ins (q := (yX3_unlikeBits, 9)) (List.mem_of_getElem? (i := 82) (by decide +kernel))
theorem tw_1109 : Cond.code yX3_unlikeBits cX3_unlikeBits 5 (some .int) ∈ lw_good := lw_in (List.mem_of_getElem? (i := 1109) (by decide +kernel)) rfl
theorem kV_X11_317 : me_V RX11 317 yX3_unlikeBits cX3_unlikeBits 5 (some .int) 3 2 := ⟨⟨TX3, 9, rfl⟩, Or.inr ⟨_, tw_1106⟩, tw_1108, ts_82, tw_10, tw_1109, by decide +kernel, by decide +kernel, by decide +kernel, by decide⟩
theorem tw_320 : Cond.fieldLinkNest RX11 321 "BothEnds$Result" "found" "I" "BothEnds" ∈ lw_nest := lw_inn (List.mem_of_getElem? (i := 320) (by decide +kernel)) rfl
theorem kF_X11_321 : me_F RX11 321 3 7 := ⟨RX3, TX3, 9, rfl, by decide, inw3, Or.inr ⟨_, tw_320⟩⟩
theorem tw_322 : Cond.fieldLinkNest RX11 324 "BothEnds$Result" "tried" "I" "BothEnds" ∈ lw_nest := lw_inn (List.mem_of_getElem? (i := 322) (by decide +kernel)) rfl
theorem kF_X11_324 : me_F RX11 324 3 8 := ⟨RX3, TX3, 9, rfl, by decide, inw3, Or.inr ⟨_, tw_322⟩⟩
theorem tw_1117 : Cond.methodLinkNest RX11 327 yX3_faultless "BothEnds" ∈ lw_nest := lw_inn (List.mem_of_getElem? (i := 1117) (by decide +kernel)) rfl
theorem tw_1119 : Cond.instanceMethod yX3_faultless ∈ lw_good := lw_in (List.mem_of_getElem? (i := 1119) (by decide +kernel)) rfl
theorem ts_83 : Cond.selects RX3 yX3_faultless yX3_faultless ∈ lw_good := lw_ins (q := (yX3_faultless, 9)) (List.mem_of_getElem? (i := 83) (by decide +kernel))
theorem tw_1120 : Cond.code yX3_faultless cX3_faultless 3 (some .int) ∈ lw_good := lw_in (List.mem_of_getElem? (i := 1120) (by decide +kernel)) rfl
theorem kV_X11_327 : me_V RX11 327 yX3_faultless cX3_faultless 3 (some .int) 3 0 := ⟨⟨TX3, 9, rfl⟩, Or.inr ⟨_, tw_1117⟩, tw_1119, ts_83, tw_10, tw_1120, by decide +kernel, by decide +kernel, by decide +kernel, by decide⟩
theorem tw_1121 : Cond.methodLinkNest RX11 330 yX3_mostMismatches "BothEnds" ∈ lw_nest := lw_inn (List.mem_of_getElem? (i := 1121) (by decide +kernel)) rfl
theorem tw_1123 : Cond.instanceMethod yX3_mostMismatches ∈ lw_good := lw_in (List.mem_of_getElem? (i := 1123) (by decide +kernel)) rfl
theorem ts_84 : Cond.selects RX3 yX3_mostMismatches yX3_mostMismatches ∈ lw_good := lw_ins (q := (yX3_mostMismatches, 9)) (List.mem_of_getElem? (i := 84) (by decide +kernel))
theorem tw_1124 : Cond.code yX3_mostMismatches cX3_mostMismatches 3 (some .int) ∈ lw_good := lw_in (List.mem_of_getElem? (i := 1124) (by decide +kernel)) rfl
theorem kV_X11_330 : me_V RX11 330 yX3_mostMismatches cX3_mostMismatches 3 (some .int) 3 0 := ⟨⟨TX3, 9, rfl⟩, Or.inr ⟨_, tw_1121⟩, tw_1123, ts_84, tw_10, tw_1124, by decide +kernel, by decide +kernel, by decide +kernel, by decide⟩
theorem tw_316 : Cond.fieldLinkNest RX11 333 "BothEnds$Result" "letters" "I" "BothEnds" ∈ lw_nest := lw_inn (List.mem_of_getElem? (i := 316) (by decide +kernel)) rfl
theorem kF_X11_333 : me_F RX11 333 3 5 := ⟨RX3, TX3, 9, rfl, by decide, inw3, Or.inr ⟨_, tw_316⟩⟩
theorem tw_270 : Cond.fieldLinkNest RX11 337 "BothEnds$Hunt" "tried" "I" "BothEnds" ∈ lw_nest := lw_inn (List.mem_of_getElem? (i := 270) (by decide +kernel)) rfl
theorem kF_X11_337 : me_F RX11 337 1 10 := ⟨RX1, TX1, 12, rfl, by decide, inw1, Or.inr ⟨_, tw_270⟩⟩
theorem tw_273 : Cond.fieldLinkNest RX11 336 "BothEnds$Hunt" "found" "I" "BothEnds" ∈ lw_nest := lw_inn (List.mem_of_getElem? (i := 273) (by decide +kernel)) rfl
theorem kF_X11_336 : me_F RX11 336 1 11 := ⟨RX1, TX1, 12, rfl, by decide, inw1, Or.inr ⟨_, tw_273⟩⟩
theorem tw_1140 : Cond.methodLink RX11 338 yX11_isLength ∈ lw_good := lw_in (List.mem_of_getElem? (i := 1140) (by decide +kernel)) rfl
theorem tw_1141 : Cond.static yX11_isLength ∈ lw_good := lw_in (List.mem_of_getElem? (i := 1141) (by decide +kernel)) rfl
theorem tw_1142 : Cond.code yX11_isLength cX11_isLength 1 (some .boolean) ∈ lw_good := lw_in (List.mem_of_getElem? (i := 1142) (by decide +kernel)) rfl
theorem kS_X11_338 : me_S RX11 338 yX11_isLength cX11_isLength 1 (some .boolean) 1 := ⟨Or.inl tw_1140, tw_1141, tw_1, tw_1142, by decide +kernel, by decide +kernel, by decide +kernel, by decide⟩
theorem tw_1143 : Cond.methodLinkNest RX11 341 yX8_compare "BothEnds" ∈ lw_nest := lw_inn (List.mem_of_getElem? (i := 1143) (by decide +kernel)) rfl
theorem tw_1145 : Cond.instanceMethod yX8_compare ∈ lw_good := lw_in (List.mem_of_getElem? (i := 1145) (by decide +kernel)) rfl
theorem ts_85 : Cond.selects RX8 yX8_compare yX8_compare ∈ lw_good := lw_ins (q := (yX8_compare, 9)) (List.mem_of_getElem? (i := 85) (by decide +kernel))
theorem tw_1146 : Cond.code yX8_compare cX8_compare 4 none ∈ lw_good := lw_in (List.mem_of_getElem? (i := 1146) (by decide +kernel)) rfl
theorem kV_X11_341 : me_V RX11 341 yX8_compare cX8_compare 4 none 8 2 := ⟨⟨TX8, 9, rfl⟩, Or.inr ⟨_, tw_1143⟩, tw_1145, ts_85, tw_8, tw_1146, by decide +kernel, by decide +kernel, by decide +kernel, by decide⟩
theorem tw_1160 : Cond.methodLinkNest RX11 344 yX8_keepMatches "BothEnds" ∈ lw_nest := lw_inn (List.mem_of_getElem? (i := 1160) (by decide +kernel)) rfl
theorem tw_1162 : Cond.instanceMethod yX8_keepMatches ∈ lw_good := lw_in (List.mem_of_getElem? (i := 1162) (by decide +kernel)) rfl
theorem ts_89 : Cond.selects RX8 yX8_keepMatches yX8_keepMatches ∈ lw_good := lw_ins (q := (yX8_keepMatches, 9)) (List.mem_of_getElem? (i := 89) (by decide +kernel))
theorem tw_1163 : Cond.code yX8_keepMatches cX8_keepMatches 6 none ∈ lw_good := lw_in (List.mem_of_getElem? (i := 1163) (by decide +kernel)) rfl
theorem kV_X11_344 : me_V RX11 344 yX8_keepMatches cX8_keepMatches 6 none 8 2 := ⟨⟨TX8, 9, rfl⟩, Or.inr ⟨_, tw_1160⟩, tw_1162, ts_89, tw_8, tw_1163, by decide +kernel, by decide +kernel, by decide +kernel, by decide⟩
theorem kF_X11_138 : me_F RX11 138 8 6 := ⟨RX8, TX8, 9, rfl, by decide, inw8, Or.inr ⟨_, tw_223⟩⟩
theorem tw_216 : Cond.fieldLinkNest RX11 348 "BothEnds$Stretches" "starts" "[I" "BothEnds" ∈ lw_nest := lw_inn (List.mem_of_getElem? (i := 216) (by decide +kernel)) rfl
theorem kF_X11_348 : me_F RX11 348 8 2 := ⟨RX8, TX8, 9, rfl, by decide, inw8, Or.inr ⟨_, tw_216⟩⟩
theorem tw_218 : Cond.fieldLinkNest RX11 351 "BothEnds$Stretches" "lengths" "[I" "BothEnds" ∈ lw_nest := lw_inn (List.mem_of_getElem? (i := 218) (by decide +kernel)) rfl
theorem kF_X11_351 : me_F RX11 351 8 3 := ⟨RX8, TX8, 9, rfl, by decide, inw8, Or.inr ⟨_, tw_218⟩⟩
theorem tw_220 : Cond.fieldLinkNest RX11 354 "BothEnds$Stretches" "times" "[I" "BothEnds" ∈ lw_nest := lw_inn (List.mem_of_getElem? (i := 220) (by decide +kernel)) rfl
theorem kF_X11_354 : me_F RX11 354 8 4 := ⟨RX8, TX8, 9, rfl, by decide, inw8, Or.inr ⟨_, tw_220⟩⟩
theorem tw_222 : Cond.fieldLinkNest RX11 355 "BothEnds$Stretches" "firsts" "[I" "BothEnds" ∈ lw_nest := lw_inn (List.mem_of_getElem? (i := 222) (by decide +kernel)) rfl
theorem kF_X11_355 : me_F RX11 355 8 5 := ⟨RX8, TX8, 9, rfl, by decide, inw8, Or.inr ⟨_, tw_222⟩⟩
theorem tw_1178 : Cond.methodLink RX11 358 yX11_isOften ∈ lw_good := lw_in (List.mem_of_getElem? (i := 1178) (by decide +kernel)) rfl
theorem tw_1179 : Cond.static yX11_isOften ∈ lw_good := lw_in (List.mem_of_getElem? (i := 1179) (by decide +kernel)) rfl
theorem tw_1180 : Cond.code yX11_isOften cX11_isOften 1 (some .boolean) ∈ lw_good := lw_in (List.mem_of_getElem? (i := 1180) (by decide +kernel)) rfl
theorem kS_X11_358 : me_S RX11 358 yX11_isOften cX11_isOften 1 (some .boolean) 1 := ⟨Or.inl tw_1178, tw_1179, tw_1, tw_1180, by decide +kernel, by decide +kernel, by decide +kernel, by decide⟩
theorem tw_1181 : Cond.methodLinkNest RX11 361 yX2_countMaximals "BothEnds" ∈ lw_nest := lw_inn (List.mem_of_getElem? (i := 1181) (by decide +kernel)) rfl
theorem tw_1183 : Cond.instanceMethod yX2_countMaximals ∈ lw_good := lw_in (List.mem_of_getElem? (i := 1183) (by decide +kernel)) rfl
theorem ts_90 : Cond.selects RX2 yX2_countMaximals yX2_countMaximals ∈ lw_good := lw_ins (q := (yX2_countMaximals, 6)) (List.mem_of_getElem? (i := 90) (by decide +kernel))
theorem tw_1184 : Cond.code yX2_countMaximals cX2_countMaximals 5 (some .int) ∈ lw_good := lw_in (List.mem_of_getElem? (i := 1184) (by decide +kernel)) rfl
theorem kV_X11_361 : me_V RX11 361 yX2_countMaximals cX2_countMaximals 5 (some .int) 2 2 := ⟨⟨TX2, 6, rfl⟩, Or.inr ⟨_, tw_1181⟩, tw_1183, ts_90, tw_7, tw_1184, by decide +kernel, by decide +kernel, by decide +kernel, by decide⟩
theorem tw_1192 : Cond.methodLinkNest RX11 364 yX2_indexOfMaximal "BothEnds" ∈ lw_nest := lw_inn (List.mem_of_getElem? (i := 1192) (by decide +kernel)) rfl
theorem tw_1194 : Cond.instanceMethod yX2_indexOfMaximal ∈ lw_good := lw_in (List.mem_of_getElem? (i := 1194) (by decide +kernel)) rfl
theorem ts_91 : Cond.selects RX2 yX2_indexOfMaximal yX2_indexOfMaximal ∈ lw_good := lw_ins (q := (yX2_indexOfMaximal, 6)) (List.mem_of_getElem? (i := 91) (by decide +kernel))
theorem tw_1195 : Cond.code yX2_indexOfMaximal cX2_indexOfMaximal 6 (some .int) ∈ lw_good := lw_in (List.mem_of_getElem? (i := 1195) (by decide +kernel)) rfl
theorem kV_X11_364 : me_V RX11 364 yX2_indexOfMaximal cX2_indexOfMaximal 6 (some .int) 2 3 := ⟨⟨TX2, 6, rfl⟩, Or.inr ⟨_, tw_1192⟩, tw_1194, ts_91, tw_7, tw_1195, by decide +kernel, by decide +kernel, by decide +kernel, by decide⟩
theorem tw_188 : Cond.fieldLinkNest RX11 368 "BothEnds$Repeats" "lengths" "[I" "BothEnds" ∈ lw_nest := lw_inn (List.mem_of_getElem? (i := 188) (by decide +kernel)) rfl
theorem kF_X11_368 : me_F RX11 368 2 2 := ⟨RX2, TX2, 6, rfl, by decide, inw2, Or.inr ⟨_, tw_188⟩⟩
theorem tw_190 : Cond.fieldLinkNest RX11 369 "BothEnds$Repeats" "lows" "[I" "BothEnds" ∈ lw_nest := lw_inn (List.mem_of_getElem? (i := 190) (by decide +kernel)) rfl
theorem kF_X11_369 : me_F RX11 369 2 3 := ⟨RX2, TX2, 6, rfl, by decide, inw2, Or.inr ⟨_, tw_190⟩⟩
theorem tw_192 : Cond.fieldLinkNest RX11 372 "BothEnds$Repeats" "sizes" "[I" "BothEnds" ∈ lw_nest := lw_inn (List.mem_of_getElem? (i := 192) (by decide +kernel)) rfl
theorem kF_X11_372 : me_F RX11 372 2 4 := ⟨RX2, TX2, 6, rfl, by decide, inw2, Or.inr ⟨_, tw_192⟩⟩
theorem tw_1196 : Cond.methodLinkNest RX11 375 yX2_firstPlace "BothEnds" ∈ lw_nest := lw_inn (List.mem_of_getElem? (i := 1196) (by decide +kernel)) rfl
theorem tw_1198 : Cond.instanceMethod yX2_firstPlace ∈ lw_good := lw_in (List.mem_of_getElem? (i := 1198) (by decide +kernel)) rfl
theorem ts_92 : Cond.selects RX2 yX2_firstPlace yX2_firstPlace ∈ lw_good := lw_ins (q := (yX2_firstPlace, 6)) (List.mem_of_getElem? (i := 92) (by decide +kernel))
theorem tw_1199 : Cond.code yX2_firstPlace cX2_firstPlace 5 (some .int) ∈ lw_good := lw_in (List.mem_of_getElem? (i := 1199) (by decide +kernel)) rfl
theorem kV_X11_375 : me_V RX11 375 yX2_firstPlace cX2_firstPlace 5 (some .int) 2 2 := ⟨⟨TX2, 6, rfl⟩, Or.inr ⟨_, tw_1196⟩, tw_1198, ts_92, tw_7, tw_1199, by decide +kernel, by decide +kernel, by decide +kernel, by decide⟩
theorem tw_1207 : Cond.methodLinkNest RX11 378 yX2_unlikeStrings "BothEnds" ∈ lw_nest := lw_inn (List.mem_of_getElem? (i := 1207) (by decide +kernel)) rfl
theorem tw_1209 : Cond.instanceMethod yX2_unlikeStrings ∈ lw_good := lw_in (List.mem_of_getElem? (i := 1209) (by decide +kernel)) rfl
theorem ts_93 : Cond.selects RX2 yX2_unlikeStrings yX2_unlikeStrings ∈ lw_good := lw_ins (q := (yX2_unlikeStrings, 6)) (List.mem_of_getElem? (i := 93) (by decide +kernel))
theorem tw_1210 : Cond.code yX2_unlikeStrings cX2_unlikeStrings 4 (some .int) ∈ lw_good := lw_in (List.mem_of_getElem? (i := 1210) (by decide +kernel)) rfl
theorem kV_X11_378 : me_V RX11 378 yX2_unlikeStrings cX2_unlikeStrings 4 (some .int) 2 1 := ⟨⟨TX2, 6, rfl⟩, Or.inr ⟨_, tw_1207⟩, tw_1209, ts_93, tw_7, tw_1210, by decide +kernel, by decide +kernel, by decide +kernel, by decide⟩
theorem tw_1218 : Cond.methodLinkNest RX11 381 yX2_longest "BothEnds" ∈ lw_nest := lw_inn (List.mem_of_getElem? (i := 1218) (by decide +kernel)) rfl
theorem tw_1220 : Cond.instanceMethod yX2_longest ∈ lw_good := lw_in (List.mem_of_getElem? (i := 1220) (by decide +kernel)) rfl
theorem ts_94 : Cond.selects RX2 yX2_longest yX2_longest ∈ lw_good := lw_ins (q := (yX2_longest, 6)) (List.mem_of_getElem? (i := 94) (by decide +kernel))
theorem tw_1221 : Cond.code yX2_longest cX2_longest 3 (some .int) ∈ lw_good := lw_in (List.mem_of_getElem? (i := 1221) (by decide +kernel)) rfl
theorem kV_X11_381 : me_V RX11 381 yX2_longest cX2_longest 3 (some .int) 2 0 := ⟨⟨TX2, 6, rfl⟩, Or.inr ⟨_, tw_1218⟩, tw_1220, ts_94, tw_7, tw_1221, by decide +kernel, by decide +kernel, by decide +kernel, by decide⟩
theorem tw_1223 : Cond.methodLinkNest RX11 384 yX2_firstOfRepeat "BothEnds" ∈ lw_nest := lw_inn (List.mem_of_getElem? (i := 1223) (by decide +kernel)) rfl
theorem tw_1225 : Cond.instanceMethod yX2_firstOfRepeat ∈ lw_good := lw_in (List.mem_of_getElem? (i := 1225) (by decide +kernel)) rfl
theorem ts_95 : Cond.selects RX2 yX2_firstOfRepeat yX2_firstOfRepeat ∈ lw_good := lw_ins (q := (yX2_firstOfRepeat, 6)) (List.mem_of_getElem? (i := 95) (by decide +kernel))
theorem tw_1226 : Cond.code yX2_firstOfRepeat cX2_firstOfRepeat 3 (some .int) ∈ lw_good := lw_in (List.mem_of_getElem? (i := 1226) (by decide +kernel)) rfl
theorem kV_X11_384 : me_V RX11 384 yX2_firstOfRepeat cX2_firstOfRepeat 3 (some .int) 2 1 := ⟨⟨TX2, 6, rfl⟩, Or.inr ⟨_, tw_1223⟩, tw_1225, ts_95, tw_7, tw_1226, by decide +kernel, by decide +kernel, by decide +kernel, by decide⟩
theorem tw_1231 : Cond.methodLinkNest RX11 387 yX2_timesFrom "BothEnds" ∈ lw_nest := lw_inn (List.mem_of_getElem? (i := 1231) (by decide +kernel)) rfl
theorem tw_1233 : Cond.instanceMethod yX2_timesFrom ∈ lw_good := lw_in (List.mem_of_getElem? (i := 1233) (by decide +kernel)) rfl
theorem ts_97 : Cond.selects RX2 yX2_timesFrom yX2_timesFrom ∈ lw_good := lw_ins (q := (yX2_timesFrom, 6)) (List.mem_of_getElem? (i := 97) (by decide +kernel))
theorem tw_1234 : Cond.code yX2_timesFrom cX2_timesFrom 6 (some .int) ∈ lw_good := lw_in (List.mem_of_getElem? (i := 1234) (by decide +kernel)) rfl
theorem kV_X11_387 : me_V RX11 387 yX2_timesFrom cX2_timesFrom 6 (some .int) 2 2 := ⟨⟨TX2, 6, rfl⟩, Or.inr ⟨_, tw_1231⟩, tw_1233, ts_97, tw_7, tw_1234, by decide +kernel, by decide +kernel, by decide +kernel, by decide⟩
theorem tw_1242 : Cond.methodLinkNest RX11 390 yX2_lettersAlone "BothEnds" ∈ lw_nest := lw_inn (List.mem_of_getElem? (i := 1242) (by decide +kernel)) rfl
theorem kV_X11_390 : me_V RX11 390 yX2_lettersAlone cX2_lettersAlone 3 (some .int) 2 1 := ⟨⟨TX2, 6, rfl⟩, Or.inr ⟨_, tw_1242⟩, tw_1244, ts_98, tw_7, tw_1245, by decide +kernel, by decide +kernel, by decide +kernel, by decide⟩
theorem tw_1253 : Cond.methodLinkNest RX11 392 yX2_startAround "BothEnds" ∈ lw_nest := lw_inn (List.mem_of_getElem? (i := 1253) (by decide +kernel)) rfl
theorem tw_1255 : Cond.instanceMethod yX2_startAround ∈ lw_good := lw_in (List.mem_of_getElem? (i := 1255) (by decide +kernel)) rfl
theorem ts_99 : Cond.selects RX2 yX2_startAround yX2_startAround ∈ lw_good := lw_ins (q := (yX2_startAround, 6)) (List.mem_of_getElem? (i := 99) (by decide +kernel))
theorem tw_1256 : Cond.code yX2_startAround cX2_startAround 6 (some .int) ∈ lw_good := lw_in (List.mem_of_getElem? (i := 1256) (by decide +kernel)) rfl
theorem kV_X11_392 : me_V RX11 392 yX2_startAround cX2_startAround 6 (some .int) 2 1 := ⟨⟨TX2, 6, rfl⟩, Or.inr ⟨_, tw_1253⟩, tw_1255, ts_99, tw_7, tw_1256, by decide +kernel, by decide +kernel, by decide +kernel, by decide⟩
theorem tw_1262 : Cond.methodLinkNest RX11 395 yX2_lettersAround "BothEnds" ∈ lw_nest := lw_inn (List.mem_of_getElem? (i := 1262) (by decide +kernel)) rfl
theorem kV_X11_395 : me_V RX11 395 yX2_lettersAround cX2_lettersAround 5 (some .int) 2 2 := ⟨⟨TX2, 6, rfl⟩, Or.inr ⟨_, tw_1262⟩, tw_1259, ts_100, tw_7, tw_1260, by decide +kernel, by decide +kernel, by decide +kernel, by decide⟩
theorem tw_1270 : Cond.methodLinkNest RX11 398 yX8_findCommon "BothEnds" ∈ lw_nest := lw_inn (List.mem_of_getElem? (i := 1270) (by decide +kernel)) rfl
theorem tw_1272 : Cond.instanceMethod yX8_findCommon ∈ lw_good := lw_in (List.mem_of_getElem? (i := 1272) (by decide +kernel)) rfl
theorem ts_101 : Cond.selects RX8 yX8_findCommon yX8_findCommon ∈ lw_good := lw_ins (q := (yX8_findCommon, 9)) (List.mem_of_getElem? (i := 101) (by decide +kernel))
theorem tw_1273 : Cond.code yX8_findCommon cX8_findCommon 3 none ∈ lw_good := lw_in (List.mem_of_getElem? (i := 1273) (by decide +kernel)) rfl
theorem kV_X11_398 : me_V RX11 398 yX8_findCommon cX8_findCommon 3 none 8 0 := ⟨⟨TX8, 9, rfl⟩, Or.inr ⟨_, tw_1270⟩, tw_1272, ts_101, tw_8, tw_1273, by decide +kernel, by decide +kernel, by decide +kernel, by decide⟩
theorem tw_228 : Cond.fieldLinkNest RX11 404 "BothEnds$Stretches" "commonPlace" "I" "BothEnds" ∈ lw_nest := lw_inn (List.mem_of_getElem? (i := 228) (by decide +kernel)) rfl
theorem kF_X11_404 : me_F RX11 404 8 8 := ⟨RX8, TX8, 9, rfl, by decide, inw8, Or.inr ⟨_, tw_228⟩⟩
theorem tw_226 : Cond.fieldLinkNest RX11 401 "BothEnds$Stretches" "commonLetters" "I" "BothEnds" ∈ lw_nest := lw_inn (List.mem_of_getElem? (i := 226) (by decide +kernel)) rfl
theorem kF_X11_401 : me_F RX11 401 8 7 := ⟨RX8, TX8, 9, rfl, by decide, inw8, Or.inr ⟨_, tw_226⟩⟩
theorem tw_62 : Cond.fieldLinkNest RX11 407 "BothEnds$Text" "lettersFrom" "[I" "BothEnds" ∈ lw_nest := lw_inn (List.mem_of_getElem? (i := 62) (by decide +kernel)) rfl
theorem kF_X11_407 : me_F RX11 407 10 2 := ⟨RX10, TX10, 8, rfl, by decide, inw10, Or.inr ⟨_, tw_62⟩⟩
theorem tw_1298 : Cond.constantLong RX11 413 31 ∈ lw_good := lw_in (List.mem_of_getElem? (i := 1298) (by decide +kernel)) rfl
