theorem tw_646 : Cond.methodLink RL 7 yX11_text ∈ lw_good := lw_in (List.mem_of_getElem? (i := 646) (by decide +kernel)) rfl
theorem tw_647 : Cond.instanceMethod yX11_text ∈ lw_good := lw_in (List.mem_of_getElem? (i := 647) (by decide +kernel)) rfl
theorem tw_648 : Cond.selects RX11 yX11_text yX11_text ∈ lw_good := lw_in (List.mem_of_getElem? (i := 648) (by decide +kernel)) rfl
theorem tw_649 : Cond.code yX11_text cX11_text 3 (some .int) ∈ lw_good := lw_in (List.mem_of_getElem? (i := 649) (by decide +kernel)) rfl
theorem kV_L_7 : me_V RL 7 yX11_text cX11_text 3 (some .int) 11 1 := ⟨⟨TX11, 16, rfl⟩, Or.inl tw_646, tw_647, tw_648, tw_1, tw_649, by decide +kernel, by decide +kernel, by decide +kernel, by decide⟩
theorem tw_744 : Cond.methodLink RL 15 yX11_scheme ∈ lw_good := lw_in (List.mem_of_getElem? (i := 744) (by decide +kernel)) rfl
theorem tw_745 : Cond.instanceMethod yX11_scheme ∈ lw_good := lw_in (List.mem_of_getElem? (i := 745) (by decide +kernel)) rfl
theorem tw_746 : Cond.selects RX11 yX11_scheme yX11_scheme ∈ lw_good := lw_in (List.mem_of_getElem? (i := 746) (by decide +kernel)) rfl
theorem tw_747 : Cond.code yX11_scheme cX11_scheme 3 (some .int) ∈ lw_good := lw_in (List.mem_of_getElem? (i := 747) (by decide +kernel)) rfl
theorem kV_L_15 : me_V RL 15 yX11_scheme cX11_scheme 3 (some .int) 11 1 := ⟨⟨TX11, 16, rfl⟩, Or.inl tw_744, tw_745, tw_746, tw_1, tw_747, by decide +kernel, by decide +kernel, by decide +kernel, by decide⟩
theorem tw_815 : Cond.methodLink RL 18 yX11_step ∈ lw_good := lw_in (List.mem_of_getElem? (i := 815) (by decide +kernel)) rfl
theorem tw_816 : Cond.instanceMethod yX11_step ∈ lw_good := lw_in (List.mem_of_getElem? (i := 816) (by decide +kernel)) rfl
theorem tw_817 : Cond.selects RX11 yX11_step yX11_step ∈ lw_good := lw_in (List.mem_of_getElem? (i := 817) (by decide +kernel)) rfl
theorem tw_818 : Cond.code yX11_step cX11_step 3 (some .int) ∈ lw_good := lw_in (List.mem_of_getElem? (i := 818) (by decide +kernel)) rfl
theorem kV_L_18 : me_V RL 18 yX11_step cX11_step 3 (some .int) 11 1 := ⟨⟨TX11, 16, rfl⟩, Or.inl tw_815, tw_816, tw_817, tw_1, tw_818, by decide +kernel, by decide +kernel, by decide +kernel, by decide⟩
theorem tw_823 : Cond.methodLink RL 21 yX11_grow ∈ lw_good := lw_in (List.mem_of_getElem? (i := 823) (by decide +kernel)) rfl
theorem tw_824 : Cond.instanceMethod yX11_grow ∈ lw_good := lw_in (List.mem_of_getElem? (i := 824) (by decide +kernel)) rfl
theorem tw_825 : Cond.selects RX11 yX11_grow yX11_grow ∈ lw_good := lw_in (List.mem_of_getElem? (i := 825) (by decide +kernel)) rfl
theorem tw_826 : Cond.code yX11_grow cX11_grow 3 (some .int) ∈ lw_good := lw_in (List.mem_of_getElem? (i := 826) (by decide +kernel)) rfl
theorem kV_L_21 : me_V RL 21 yX11_grow cX11_grow 3 (some .int) 11 2 := ⟨⟨TX11, 16, rfl⟩, Or.inl tw_823, tw_824, tw_825, tw_1, tw_826, by decide +kernel, by decide +kernel, by decide +kernel, by decide⟩
theorem tw_868 : Cond.methodLink RL 27 yX11_told ∈ lw_good := lw_in (List.mem_of_getElem? (i := 868) (by decide +kernel)) rfl
theorem tw_869 : Cond.instanceMethod yX11_told ∈ lw_good := lw_in (List.mem_of_getElem? (i := 869) (by decide +kernel)) rfl
theorem tw_870 : Cond.selects RX11 yX11_told yX11_told ∈ lw_good := lw_in (List.mem_of_getElem? (i := 870) (by decide +kernel)) rfl
theorem tw_871 : Cond.code yX11_told cX11_told 2 (some .int) ∈ lw_good := lw_in (List.mem_of_getElem? (i := 871) (by decide +kernel)) rfl
theorem kV_L_27 : me_V RL 27 yX11_told cX11_told 2 (some .int) 11 1 := ⟨⟨TX11, 16, rfl⟩, Or.inl tw_868, tw_869, tw_870, tw_1, tw_871, by decide +kernel, by decide +kernel, by decide +kernel, by decide⟩
theorem tw_887 : Cond.methodLink RL 30 yX11_sign ∈ lw_good := lw_in (List.mem_of_getElem? (i := 887) (by decide +kernel)) rfl
theorem tw_888 : Cond.instanceMethod yX11_sign ∈ lw_good := lw_in (List.mem_of_getElem? (i := 888) (by decide +kernel)) rfl
theorem tw_889 : Cond.selects RX11 yX11_sign yX11_sign ∈ lw_good := lw_in (List.mem_of_getElem? (i := 889) (by decide +kernel)) rfl
theorem tw_890 : Cond.code yX11_sign cX11_sign 2 (some .int) ∈ lw_good := lw_in (List.mem_of_getElem? (i := 890) (by decide +kernel)) rfl
theorem kV_L_30 : me_V RL 30 yX11_sign cX11_sign 2 (some .int) 11 1 := ⟨⟨TX11, 16, rfl⟩, Or.inl tw_887, tw_888, tw_889, tw_1, tw_890, by decide +kernel, by decide +kernel, by decide +kernel, by decide⟩
theorem tw_921 : Cond.methodLink RL 35 yX11_row ∈ lw_good := lw_in (List.mem_of_getElem? (i := 921) (by decide +kernel)) rfl
theorem tw_922 : Cond.instanceMethod yX11_row ∈ lw_good := lw_in (List.mem_of_getElem? (i := 922) (by decide +kernel)) rfl
theorem tw_923 : Cond.selects RX11 yX11_row yX11_row ∈ lw_good := lw_in (List.mem_of_getElem? (i := 923) (by decide +kernel)) rfl
theorem tw_924 : Cond.code yX11_row cX11_row 6 (some .int) ∈ lw_good := lw_in (List.mem_of_getElem? (i := 924) (by decide +kernel)) rfl
theorem kV_L_35 : me_V RL 35 yX11_row cX11_row 6 (some .int) 11 3 := ⟨⟨TX11, 16, rfl⟩, Or.inl tw_921, tw_922, tw_923, tw_1, tw_924, by decide +kernel, by decide +kernel, by decide +kernel, by decide⟩
theorem tw_940 : Cond.methodLink RL 39 yX11_rowOf ∈ lw_good := lw_in (List.mem_of_getElem? (i := 940) (by decide +kernel)) rfl
theorem tw_941 : Cond.instanceMethod yX11_rowOf ∈ lw_good := lw_in (List.mem_of_getElem? (i := 941) (by decide +kernel)) rfl
theorem tw_942 : Cond.selects RX11 yX11_rowOf yX11_rowOf ∈ lw_good := lw_in (List.mem_of_getElem? (i := 942) (by decide +kernel)) rfl
theorem tw_943 : Cond.code yX11_rowOf cX11_rowOf 3 (some .int) ∈ lw_good := lw_in (List.mem_of_getElem? (i := 943) (by decide +kernel)) rfl
theorem kV_L_39 : me_V RL 39 yX11_rowOf cX11_rowOf 3 (some .int) 11 2 := ⟨⟨TX11, 16, rfl⟩, Or.inl tw_940, tw_941, tw_942, tw_1, tw_943, by decide +kernel, by decide +kernel, by decide +kernel, by decide⟩
theorem tw_947 : Cond.methodLink RL 42 yX11_count ∈ lw_good := lw_in (List.mem_of_getElem? (i := 947) (by decide +kernel)) rfl
theorem tw_948 : Cond.instanceMethod yX11_count ∈ lw_good := lw_in (List.mem_of_getElem? (i := 948) (by decide +kernel)) rfl
theorem tw_949 : Cond.selects RX11 yX11_count yX11_count ∈ lw_good := lw_in (List.mem_of_getElem? (i := 949) (by decide +kernel)) rfl
theorem tw_950 : Cond.code yX11_count cX11_count 4 (some .int) ∈ lw_good := lw_in (List.mem_of_getElem? (i := 950) (by decide +kernel)) rfl
theorem kV_L_42 : me_V RL 42 yX11_count cX11_count 4 (some .int) 11 3 := ⟨⟨TX11, 16, rfl⟩, Or.inl tw_947, tw_948, tw_949, tw_1, tw_950, by decide +kernel, by decide +kernel, by decide +kernel, by decide⟩
theorem tw_955 : Cond.methodLink RL 45 yX11_letter ∈ lw_good := lw_in (List.mem_of_getElem? (i := 955) (by decide +kernel)) rfl
theorem tw_956 : Cond.instanceMethod yX11_letter ∈ lw_good := lw_in (List.mem_of_getElem? (i := 956) (by decide +kernel)) rfl
theorem tw_957 : Cond.selects RX11 yX11_letter yX11_letter ∈ lw_good := lw_in (List.mem_of_getElem? (i := 957) (by decide +kernel)) rfl
theorem tw_958 : Cond.code yX11_letter cX11_letter 2 (some .int) ∈ lw_good := lw_in (List.mem_of_getElem? (i := 958) (by decide +kernel)) rfl
theorem kV_L_45 : me_V RL 45 yX11_letter cX11_letter 2 (some .int) 11 1 := ⟨⟨TX11, 16, rfl⟩, Or.inl tw_955, tw_956, tw_957, tw_1, tw_958, by decide +kernel, by decide +kernel, by decide +kernel, by decide⟩
theorem tw_966 : Cond.methodLink RL 48 yX11_grows ∈ lw_good := lw_in (List.mem_of_getElem? (i := 966) (by decide +kernel)) rfl
theorem tw_967 : Cond.instanceMethod yX11_grows ∈ lw_good := lw_in (List.mem_of_getElem? (i := 967) (by decide +kernel)) rfl
theorem tw_968 : Cond.selects RX11 yX11_grows yX11_grows ∈ lw_good := lw_in (List.mem_of_getElem? (i := 968) (by decide +kernel)) rfl
theorem tw_969 : Cond.code yX11_grows cX11_grows 2 (some .int) ∈ lw_good := lw_in (List.mem_of_getElem? (i := 969) (by decide +kernel)) rfl
theorem kV_L_48 : me_V RL 48 yX11_grows cX11_grows 2 (some .int) 11 1 := ⟨⟨TX11, 16, rfl⟩, Or.inl tw_966, tw_967, tw_968, tw_1, tw_969, by decide +kernel, by decide +kernel, by decide +kernel, by decide⟩
theorem tw_977 : Cond.methodLink RL 51 yX11_hit ∈ lw_good := lw_in (List.mem_of_getElem? (i := 977) (by decide +kernel)) rfl
theorem tw_978 : Cond.instanceMethod yX11_hit ∈ lw_good := lw_in (List.mem_of_getElem? (i := 978) (by decide +kernel)) rfl
theorem tw_979 : Cond.selects RX11 yX11_hit yX11_hit ∈ lw_good := lw_in (List.mem_of_getElem? (i := 979) (by decide +kernel)) rfl
theorem tw_980 : Cond.code yX11_hit cX11_hit 5 (some .int) ∈ lw_good := lw_in (List.mem_of_getElem? (i := 980) (by decide +kernel)) rfl
theorem kV_L_51 : me_V RL 51 yX11_hit cX11_hit 5 (some .int) 11 2 := ⟨⟨TX11, 16, rfl⟩, Or.inl tw_977, tw_978, tw_979, tw_1, tw_980, by decide +kernel, by decide +kernel, by decide +kernel, by decide⟩
theorem tw_996 : Cond.methodLink RL 54 yX11_hits ∈ lw_good := lw_in (List.mem_of_getElem? (i := 996) (by decide +kernel)) rfl
theorem tw_997 : Cond.instanceMethod yX11_hits ∈ lw_good := lw_in (List.mem_of_getElem? (i := 997) (by decide +kernel)) rfl
theorem tw_998 : Cond.selects RX11 yX11_hits yX11_hits ∈ lw_good := lw_in (List.mem_of_getElem? (i := 998) (by decide +kernel)) rfl
theorem tw_999 : Cond.code yX11_hits cX11_hits 2 (some .int) ∈ lw_good := lw_in (List.mem_of_getElem? (i := 999) (by decide +kernel)) rfl
theorem kV_L_54 : me_V RL 54 yX11_hits cX11_hits 2 (some .int) 11 1 := ⟨⟨TX11, 16, rfl⟩, Or.inl tw_996, tw_997, tw_998, tw_1, tw_999, by decide +kernel, by decide +kernel, by decide +kernel, by decide⟩
theorem tw_1017 : Cond.methodLink RL 57 yX11_often ∈ lw_good := lw_in (List.mem_of_getElem? (i := 1017) (by decide +kernel)) rfl
theorem tw_1018 : Cond.instanceMethod yX11_often ∈ lw_good := lw_in (List.mem_of_getElem? (i := 1018) (by decide +kernel)) rfl
theorem tw_1019 : Cond.selects RX11 yX11_often yX11_often ∈ lw_good := lw_in (List.mem_of_getElem? (i := 1019) (by decide +kernel)) rfl
theorem tw_1020 : Cond.code yX11_often cX11_often 6 (some .int) ∈ lw_good := lw_in (List.mem_of_getElem? (i := 1020) (by decide +kernel)) rfl
theorem kV_L_57 : me_V RL 57 yX11_often cX11_often 6 (some .int) 11 1 := ⟨⟨TX11, 16, rfl⟩, Or.inl tw_1017, tw_1018, tw_1019, tw_1, tw_1020, by decide +kernel, by decide +kernel, by decide +kernel, by decide⟩
theorem tw_1033 : Cond.methodLink RL 60 yX11_shares ∈ lw_good := lw_in (List.mem_of_getElem? (i := 1033) (by decide +kernel)) rfl
theorem tw_1034 : Cond.instanceMethod yX11_shares ∈ lw_good := lw_in (List.mem_of_getElem? (i := 1034) (by decide +kernel)) rfl
theorem tw_1035 : Cond.selects RX11 yX11_shares yX11_shares ∈ lw_good := lw_in (List.mem_of_getElem? (i := 1035) (by decide +kernel)) rfl
theorem tw_1036 : Cond.code yX11_shares cX11_shares 2 (some .int) ∈ lw_good := lw_in (List.mem_of_getElem? (i := 1036) (by decide +kernel)) rfl
theorem kV_L_60 : me_V RL 60 yX11_shares cX11_shares 2 (some .int) 11 1 := ⟨⟨TX11, 16, rfl⟩, Or.inl tw_1033, tw_1034, tw_1035, tw_1, tw_1036, by decide +kernel, by decide +kernel, by decide +kernel, by decide⟩
theorem tw_1040 : Cond.methodLink RL 63 yX11_digit ∈ lw_good := lw_in (List.mem_of_getElem? (i := 1040) (by decide +kernel)) rfl
theorem tw_1041 : Cond.instanceMethod yX11_digit ∈ lw_good := lw_in (List.mem_of_getElem? (i := 1041) (by decide +kernel)) rfl
theorem tw_1042 : Cond.selects RX11 yX11_digit yX11_digit ∈ lw_good := lw_in (List.mem_of_getElem? (i := 1042) (by decide +kernel)) rfl
theorem tw_1043 : Cond.code yX11_digit cX11_digit 5 (some .int) ∈ lw_good := lw_in (List.mem_of_getElem? (i := 1043) (by decide +kernel)) rfl
theorem kV_L_63 : me_V RL 63 yX11_digit cX11_digit 5 (some .int) 11 3 := ⟨⟨TX11, 16, rfl⟩, Or.inl tw_1040, tw_1041, tw_1042, tw_1, tw_1043, by decide +kernel, by decide +kernel, by decide +kernel, by decide⟩
theorem tw_1051 : Cond.methodLink RL 66 yX11_search ∈ lw_good := lw_in (List.mem_of_getElem? (i := 1051) (by decide +kernel)) rfl
theorem tw_1052 : Cond.instanceMethod yX11_search ∈ lw_good := lw_in (List.mem_of_getElem? (i := 1052) (by decide +kernel)) rfl
theorem tw_1053 : Cond.selects RX11 yX11_search yX11_search ∈ lw_good := lw_in (List.mem_of_getElem? (i := 1053) (by decide +kernel)) rfl
theorem tw_1054 : Cond.code yX11_search cX11_search 3 (some .int) ∈ lw_good := lw_in (List.mem_of_getElem? (i := 1054) (by decide +kernel)) rfl
theorem kV_L_66 : me_V RL 66 yX11_search cX11_search 3 (some .int) 11 1 := ⟨⟨TX11, 16, rfl⟩, Or.inl tw_1051, tw_1052, tw_1053, tw_1, tw_1054, by decide +kernel, by decide +kernel, by decide +kernel, by decide⟩
theorem tw_1102 : Cond.methodLink RL 69 yX11_found ∈ lw_good := lw_in (List.mem_of_getElem? (i := 1102) (by decide +kernel)) rfl
theorem tw_1103 : Cond.instanceMethod yX11_found ∈ lw_good := lw_in (List.mem_of_getElem? (i := 1103) (by decide +kernel)) rfl
theorem tw_1104 : Cond.selects RX11 yX11_found yX11_found ∈ lw_good := lw_in (List.mem_of_getElem? (i := 1104) (by decide +kernel)) rfl
theorem tw_1105 : Cond.code yX11_found cX11_found 3 (some .int) ∈ lw_good := lw_in (List.mem_of_getElem? (i := 1105) (by decide +kernel)) rfl
theorem kV_L_69 : me_V RL 69 yX11_found cX11_found 3 (some .int) 11 2 := ⟨⟨TX11, 16, rfl⟩, Or.inl tw_1102, tw_1103, tw_1104, tw_1, tw_1105, by decide +kernel, by decide +kernel, by decide +kernel, by decide⟩
theorem tw_1113 : Cond.methodLink RL 72 yX11_result ∈ lw_good := lw_in (List.mem_of_getElem? (i := 1113) (by decide +kernel)) rfl
theorem tw_1114 : Cond.instanceMethod yX11_result ∈ lw_good := lw_in (List.mem_of_getElem? (i := 1114) (by decide +kernel)) rfl
theorem tw_1115 : Cond.selects RX11 yX11_result yX11_result ∈ lw_good := lw_in (List.mem_of_getElem? (i := 1115) (by decide +kernel)) rfl
theorem tw_1116 : Cond.code yX11_result cX11_result 2 (some .int) ∈ lw_good := lw_in (List.mem_of_getElem? (i := 1116) (by decide +kernel)) rfl
theorem kV_L_72 : me_V RL 72 yX11_result cX11_result 2 (some .int) 11 1 := ⟨⟨TX11, 16, rfl⟩, Or.inl tw_1113, tw_1114, tw_1115, tw_1, tw_1116, by decide +kernel, by decide +kernel, by decide +kernel, by decide⟩
theorem tw_1129 : Cond.methodLink RL 75 yX11_ran ∈ lw_good := lw_in (List.mem_of_getElem? (i := 1129) (by decide +kernel)) rfl
theorem tw_1130 : Cond.instanceMethod yX11_ran ∈ lw_good := lw_in (List.mem_of_getElem? (i := 1130) (by decide +kernel)) rfl
theorem tw_1131 : Cond.selects RX11 yX11_ran yX11_ran ∈ lw_good := lw_in (List.mem_of_getElem? (i := 1131) (by decide +kernel)) rfl
theorem tw_1132 : Cond.code yX11_ran cX11_ran 3 (some .int) ∈ lw_good := lw_in (List.mem_of_getElem? (i := 1132) (by decide +kernel)) rfl
theorem kV_L_75 : me_V RL 75 yX11_ran cX11_ran 3 (some .int) 11 2 := ⟨⟨TX11, 16, rfl⟩, Or.inl tw_1129, tw_1130, tw_1131, tw_1, tw_1132, by decide +kernel, by decide +kernel, by decide +kernel, by decide⟩
theorem tw_1136 : Cond.methodLink RL 78 yX11_matches ∈ lw_good := lw_in (List.mem_of_getElem? (i := 1136) (by decide +kernel)) rfl
theorem tw_1137 : Cond.instanceMethod yX11_matches ∈ lw_good := lw_in (List.mem_of_getElem? (i := 1137) (by decide +kernel)) rfl
theorem tw_1138 : Cond.selects RX11 yX11_matches yX11_matches ∈ lw_good := lw_in (List.mem_of_getElem? (i := 1138) (by decide +kernel)) rfl
theorem tw_1139 : Cond.code yX11_matches cX11_matches 3 (some .int) ∈ lw_good := lw_in (List.mem_of_getElem? (i := 1139) (by decide +kernel)) rfl
theorem kV_L_78 : me_V RL 78 yX11_matches cX11_matches 3 (some .int) 11 2 := ⟨⟨TX11, 16, rfl⟩, Or.inl tw_1136, tw_1137, tw_1138, tw_1, tw_1139, by decide +kernel, by decide +kernel, by decide +kernel, by decide⟩
theorem tw_1167 : Cond.methodLink RL 81 yX11_match ∈ lw_good := lw_in (List.mem_of_getElem? (i := 1167) (by decide +kernel)) rfl
theorem tw_1168 : Cond.instanceMethod yX11_match ∈ lw_good := lw_in (List.mem_of_getElem? (i := 1168) (by decide +kernel)) rfl
theorem tw_1169 : Cond.selects RX11 yX11_match yX11_match ∈ lw_good := lw_in (List.mem_of_getElem? (i := 1169) (by decide +kernel)) rfl
theorem tw_1170 : Cond.code yX11_match cX11_match 3 (some .int) ∈ lw_good := lw_in (List.mem_of_getElem? (i := 1170) (by decide +kernel)) rfl
theorem kV_L_81 : me_V RL 81 yX11_match cX11_match 3 (some .int) 11 2 := ⟨⟨TX11, 16, rfl⟩, Or.inl tw_1167, tw_1168, tw_1169, tw_1, tw_1170, by decide +kernel, by decide +kernel, by decide +kernel, by decide⟩
theorem tw_1174 : Cond.methodLink RL 84 yX11_maximals ∈ lw_good := lw_in (List.mem_of_getElem? (i := 1174) (by decide +kernel)) rfl
theorem tw_1175 : Cond.instanceMethod yX11_maximals ∈ lw_good := lw_in (List.mem_of_getElem? (i := 1175) (by decide +kernel)) rfl
theorem tw_1176 : Cond.selects RX11 yX11_maximals yX11_maximals ∈ lw_good := lw_in (List.mem_of_getElem? (i := 1176) (by decide +kernel)) rfl
theorem tw_1177 : Cond.code yX11_maximals cX11_maximals 3 (some .int) ∈ lw_good := lw_in (List.mem_of_getElem? (i := 1177) (by decide +kernel)) rfl
theorem kV_L_84 : me_V RL 84 yX11_maximals cX11_maximals 3 (some .int) 11 2 := ⟨⟨TX11, 16, rfl⟩, Or.inl tw_1174, tw_1175, tw_1176, tw_1, tw_1177, by decide +kernel, by decide +kernel, by decide +kernel, by decide⟩
theorem tw_1188 : Cond.methodLink RL 87 yX11_maximal ∈ lw_good := lw_in (List.mem_of_getElem? (i := 1188) (by decide +kernel)) rfl
theorem tw_1189 : Cond.instanceMethod yX11_maximal ∈ lw_good := lw_in (List.mem_of_getElem? (i := 1189) (by decide +kernel)) rfl
theorem tw_1190 : Cond.selects RX11 yX11_maximal yX11_maximal ∈ lw_good := lw_in (List.mem_of_getElem? (i := 1190) (by decide +kernel)) rfl
theorem tw_1191 : Cond.code yX11_maximal cX11_maximal 6 (some .int) ∈ lw_good := lw_in (List.mem_of_getElem? (i := 1191) (by decide +kernel)) rfl
theorem kV_L_87 : me_V RL 87 yX11_maximal cX11_maximal 6 (some .int) 11 4 := ⟨⟨TX11, 16, rfl⟩, Or.inl tw_1188, tw_1189, tw_1190, tw_1, tw_1191, by decide +kernel, by decide +kernel, by decide +kernel, by decide⟩
theorem tw_1203 : Cond.methodLink RL 91 yX11_strings ∈ lw_good := lw_in (List.mem_of_getElem? (i := 1203) (by decide +kernel)) rfl
theorem tw_1204 : Cond.instanceMethod yX11_strings ∈ lw_good := lw_in (List.mem_of_getElem? (i := 1204) (by decide +kernel)) rfl
theorem tw_1205 : Cond.selects RX11 yX11_strings yX11_strings ∈ lw_good := lw_in (List.mem_of_getElem? (i := 1205) (by decide +kernel)) rfl
theorem tw_1206 : Cond.code yX11_strings cX11_strings 2 (some .int) ∈ lw_good := lw_in (List.mem_of_getElem? (i := 1206) (by decide +kernel)) rfl
theorem kV_L_91 : me_V RL 91 yX11_strings cX11_strings 2 (some .int) 11 1 := ⟨⟨TX11, 16, rfl⟩, Or.inl tw_1203, tw_1204, tw_1205, tw_1, tw_1206, by decide +kernel, by decide +kernel, by decide +kernel, by decide⟩
theorem tw_1214 : Cond.methodLink RL 94 yX11_repeat ∈ lw_good := lw_in (List.mem_of_getElem? (i := 1214) (by decide +kernel)) rfl
theorem tw_1215 : Cond.instanceMethod yX11_repeat ∈ lw_good := lw_in (List.mem_of_getElem? (i := 1215) (by decide +kernel)) rfl
theorem tw_1216 : Cond.selects RX11 yX11_repeat yX11_repeat ∈ lw_good := lw_in (List.mem_of_getElem? (i := 1216) (by decide +kernel)) rfl
theorem tw_1217 : Cond.code yX11_repeat cX11_repeat 4 (some .int) ∈ lw_good := lw_in (List.mem_of_getElem? (i := 1217) (by decide +kernel)) rfl
theorem kV_L_94 : me_V RL 94 yX11_repeat cX11_repeat 4 (some .int) 11 1 := ⟨⟨TX11, 16, rfl⟩, Or.inl tw_1214, tw_1215, tw_1216, tw_1, tw_1217, by decide +kernel, by decide +kernel, by decide +kernel, by decide⟩
theorem tw_1238 : Cond.methodLink RL 97 yX11_unique ∈ lw_good := lw_in (List.mem_of_getElem? (i := 1238) (by decide +kernel)) rfl
theorem tw_1239 : Cond.instanceMethod yX11_unique ∈ lw_good := lw_in (List.mem_of_getElem? (i := 1239) (by decide +kernel)) rfl
theorem tw_1240 : Cond.selects RX11 yX11_unique yX11_unique ∈ lw_good := lw_in (List.mem_of_getElem? (i := 1240) (by decide +kernel)) rfl
theorem tw_1241 : Cond.code yX11_unique cX11_unique 2 (some .int) ∈ lw_good := lw_in (List.mem_of_getElem? (i := 1241) (by decide +kernel)) rfl
theorem kV_L_97 : me_V RL 97 yX11_unique cX11_unique 2 (some .int) 11 1 := ⟨⟨TX11, 16, rfl⟩, Or.inl tw_1238, tw_1239, tw_1240, tw_1, tw_1241, by decide +kernel, by decide +kernel, by decide +kernel, by decide⟩
theorem tw_1249 : Cond.methodLink RL 100 yX11_around ∈ lw_good := lw_in (List.mem_of_getElem? (i := 1249) (by decide +kernel)) rfl
theorem tw_1250 : Cond.instanceMethod yX11_around ∈ lw_good := lw_in (List.mem_of_getElem? (i := 1250) (by decide +kernel)) rfl
theorem tw_1251 : Cond.selects RX11 yX11_around yX11_around ∈ lw_good := lw_in (List.mem_of_getElem? (i := 1251) (by decide +kernel)) rfl
theorem tw_1252 : Cond.code yX11_around cX11_around 4 (some .int) ∈ lw_good := lw_in (List.mem_of_getElem? (i := 1252) (by decide +kernel)) rfl
theorem kV_L_100 : me_V RL 100 yX11_around cX11_around 4 (some .int) 11 2 := ⟨⟨TX11, 16, rfl⟩, Or.inl tw_1249, tw_1250, tw_1251, tw_1, tw_1252, by decide +kernel, by decide +kernel, by decide +kernel, by decide⟩
theorem tw_1266 : Cond.methodLink RL 103 yX11_common ∈ lw_good := lw_in (List.mem_of_getElem? (i := 1266) (by decide +kernel)) rfl
theorem tw_1267 : Cond.instanceMethod yX11_common ∈ lw_good := lw_in (List.mem_of_getElem? (i := 1267) (by decide +kernel)) rfl
theorem tw_1268 : Cond.selects RX11 yX11_common yX11_common ∈ lw_good := lw_in (List.mem_of_getElem? (i := 1268) (by decide +kernel)) rfl
theorem tw_1269 : Cond.code yX11_common cX11_common 2 (some .int) ∈ lw_good := lw_in (List.mem_of_getElem? (i := 1269) (by decide +kernel)) rfl
theorem kV_L_103 : me_V RL 103 yX11_common cX11_common 2 (some .int) 11 1 := ⟨⟨TX11, 16, rfl⟩, Or.inl tw_1266, tw_1267, tw_1268, tw_1, tw_1269, by decide +kernel, by decide +kernel, by decide +kernel, by decide⟩
theorem tw_1287 : Cond.methodLink RL 106 yX11_document ∈ lw_good := lw_in (List.mem_of_getElem? (i := 1287) (by decide +kernel)) rfl
theorem tw_1288 : Cond.instanceMethod yX11_document ∈ lw_good := lw_in (List.mem_of_getElem? (i := 1288) (by decide +kernel)) rfl
theorem tw_1289 : Cond.selects RX11 yX11_document yX11_document ∈ lw_good := lw_in (List.mem_of_getElem? (i := 1289) (by decide +kernel)) rfl
theorem tw_1290 : Cond.code yX11_document cX11_document 4 (some .int) ∈ lw_good := lw_in (List.mem_of_getElem? (i := 1290) (by decide +kernel)) rfl
theorem kV_L_106 : me_V RL 106 yX11_document cX11_document 4 (some .int) 11 2 := ⟨⟨TX11, 16, rfl⟩, Or.inl tw_1287, tw_1288, tw_1289, tw_1, tw_1290, by decide +kernel, by decide +kernel, by decide +kernel, by decide⟩
theorem tw_1294 : Cond.methodLink RL 109 yX11_print ∈ lw_good := lw_in (List.mem_of_getElem? (i := 1294) (by decide +kernel)) rfl
theorem tw_1295 : Cond.instanceMethod yX11_print ∈ lw_good := lw_in (List.mem_of_getElem? (i := 1295) (by decide +kernel)) rfl
theorem tw_1296 : Cond.selects RX11 yX11_print yX11_print ∈ lw_good := lw_in (List.mem_of_getElem? (i := 1296) (by decide +kernel)) rfl
theorem tw_1297 : Cond.code yX11_print cX11_print 6 (some .long) ∈ lw_good := lw_in (List.mem_of_getElem? (i := 1297) (by decide +kernel)) rfl
theorem kV_L_109 : me_V RL 109 yX11_print cX11_print 6 (some .long) 11 1 := ⟨⟨TX11, 16, rfl⟩, Or.inl tw_1294, tw_1295, tw_1296, tw_1, tw_1297, by decide +kernel, by decide +kernel, by decide +kernel, by decide⟩
theorem tw_645 : Cond.classLink RL 13 "java/lang/IllegalArgumentException" ∈ lw_good := lw_in (List.mem_of_getElem? (i := 645) (by decide +kernel)) rfl
theorem pl_RL : plainName RL = true := by decide +kernel
theorem tw_660 : Cond.castable "java/lang/IllegalArgumentException" "java/lang/IllegalArgumentException" ∈ lw_nest := lw_inn (List.mem_of_getElem? (i := 660) (by decide +kernel)) rfl
theorem tw_822 : Cond.classLink RL 25 "java/lang/IllegalStateException" ∈ lw_good := lw_in (List.mem_of_getElem? (i := 822) (by decide +kernel)) rfl
theorem tw_837 : Cond.castable "java/lang/IllegalStateException" "java/lang/IllegalStateException" ∈ lw_nest := lw_inn (List.mem_of_getElem? (i := 837) (by decide +kernel)) rfl
theorem tw_886 : Cond.classLink RL 33 "java/util/NoSuchElementException" ∈ lw_good := lw_in (List.mem_of_getElem? (i := 886) (by decide +kernel)) rfl
theorem tw_901 : Cond.castable "java/util/NoSuchElementException" "java/util/NoSuchElementException" ∈ lw_nest := lw_inn (List.mem_of_getElem? (i := 901) (by decide +kernel)) rfl
def hL_text (M : me_M) (p0 : Int32) : Option (Int32 × me_M) :=
  ((mX11_text_0 M p0).bind fun (v, M1) => some ((0 : Int32), me_o M1 0 v.toInt64)).or ((tX11_text_0 M p0).bind fun (E, M1) => (if E = xA then some ((1 : Int32), M1) else none))
set_option maxRecDepth 100000 in
set_option maxHeartbeats 4000000 in
theorem chL_text {l : Launch} (hl : l.stackTraces = false) {M : me_M} {p0 : Int32} {r : Int32} {M' : me_M} (h : hL_text M p0 = some (r, M')) : me_Ch l yL_text cL_text 4 (some .int) [(0, 9, 12, 13)] 8 425 5 (fun ad => [.ref (ad 0), .int p0, .ref (ad 424)]) M r M' := by
  refine me_enterH (N0 := 425) RL rfl pl_RL (Nat.le_refl _) (by decide) (fun _ => Nat.le_of_ble_eq_true rfl) ?_
  intro p e R s m args below meth c D cA ad tys A X hr hlk hz htab hRc hRs
  refine me_sub (L' := [(0, .ref (ad 0)), (1, .int p0), (2, .ref (ad 424))]) [0, 1, 2] rfl ?_
  refine me_aload_n X (i := 2) 2 rfl dL_text_0 ?_
  refine me_iconst X dL_text_1 ic_0 ?_
  refine me_aload_n X (i := 0) 0 rfl dL_text_2 ?_
  refine me_iload_n X (i := 1) 1 rfl dL_text_3 ?_
  unfold hL_text at h
  cases e1 : mX11_text_0 M p0 with
  | some v =>
    obtain ⟨v, M1⟩ := v
    rw [e1] at h
    obtain ⟨rfl, rfl⟩ := me_sp (show some ((0 : Int32), me_o M1 0 v.toInt64) = some (r, M') from h)
    refine me_callVi X [.int p0] (ctX11_text_0 (n := 425) (nt := 5) (by decide) (by decide) e1) kV_L_7 rfl rfl (Nat.le_of_ble_eq_true rfl) me_k0 (Nat.le_of_ble_eq_true rfl) (Nat.le_refl _) (Nat.le_of_ble_eq_true rfl) dL_text_4 ?_
    refine me_i2l X dL_text_7 ?_
    refine me_last X (by decide) dL_text_8 ?_
    refine me_goto X 15 (by decide) dL_text_9 ?_
    refine me_iconst X dL_text_15 ic_0 ?_
    exact me_iretH X (by decide) (by decide) hr hlk dL_text_16
  | none =>
    rw [e1] at h
    obtain ⟨⟨E, M1⟩, e2, h⟩ := me_bd (show ((tX11_text_0 M p0).bind fun (E, M1) => (if E = xA then some ((1 : Int32), M1) else none)) = some (r, M') from h)
    by_cases c0 : E = xA
    · have h := me_ip c0 h
      obtain ⟨rfl, rfl⟩ := me_sp h
      subst c0
      refine me_callC X hz hRc hRs (nm := "java/lang/IllegalArgumentException") [.int p0] (ctTX11_text_0 hl (n := 425) (nt := 5) (by decide) (by decide) e2) kV_L_7 rfl rfl (Nat.le_of_ble_eq_true rfl) me_k0 (Nat.le_of_ble_eq_true rfl) (Nat.le_refl _) (Nat.le_of_ble_eq_true rfl) dL_text_4 tw_646 [] [] ⟨0, 9, 12, 13⟩ htab (fun z hz => nomatch hz) (by decide) (by decide) tw_645 tw_660 12 rfl (fun q => ?_)
      have X1 := me_Xup (cells' := 1) (slots' := 6) X hRc hRs
      refine me_astore_n X1 (i := 3) [(3, .ref q), (0, .ref (ad 0)), (1, .int p0), (2, .ref (ad 424))] (Nat.le_of_ble_eq_true rfl) rfl dL_text_12 ?_
      refine me_iconst X1 dL_text_13 ic_1 ?_
      exact me_iretH X1 (by decide) (by decide) hr hlk dL_text_14
    · have h := me_in c0 h
      cases h
def hL_scheme (M : me_M) (p0 : Int32) : Option (Int32 × me_M) :=
  ((mX11_scheme_0 M p0).bind fun (v, M1) => some ((0 : Int32), me_o M1 0 v.toInt64)).or ((tX11_scheme_0 M p0).bind fun (E, M1) => (if E = xA then some ((1 : Int32), M1) else none))
set_option maxRecDepth 100000 in
set_option maxHeartbeats 4000000 in
theorem chL_scheme {l : Launch} (hl : l.stackTraces = false) {M : me_M} {p0 : Int32} {r : Int32} {M' : me_M} (h : hL_scheme M p0 = some (r, M')) : me_Ch l yL_scheme cL_scheme 4 (some .int) [(0, 9, 12, 13)] 8 425 5 (fun ad => [.ref (ad 0), .int p0, .ref (ad 424)]) M r M' := by
  refine me_enterH (N0 := 425) RL rfl pl_RL (Nat.le_refl _) (by decide) (fun _ => Nat.le_of_ble_eq_true rfl) ?_
  intro p e R s m args below meth c D cA ad tys A X hr hlk hz htab hRc hRs
  refine me_sub (L' := [(0, .ref (ad 0)), (1, .int p0), (2, .ref (ad 424))]) [0, 1, 2] rfl ?_
  refine me_aload_n X (i := 2) 2 rfl dL_scheme_0 ?_
  refine me_iconst X dL_scheme_1 ic_0 ?_
  refine me_aload_n X (i := 0) 0 rfl dL_scheme_2 ?_
  refine me_iload_n X (i := 1) 1 rfl dL_scheme_3 ?_
  unfold hL_scheme at h
  cases e1 : mX11_scheme_0 M p0 with
  | some v =>
    obtain ⟨v, M1⟩ := v
    rw [e1] at h
    obtain ⟨rfl, rfl⟩ := me_sp (show some ((0 : Int32), me_o M1 0 v.toInt64) = some (r, M') from h)
    refine me_callVi X [.int p0] (ctX11_scheme_0 (n := 425) (nt := 5) (by decide) (by decide) e1) kV_L_15 rfl rfl (Nat.le_of_ble_eq_true rfl) me_k0 (Nat.le_of_ble_eq_true rfl) (Nat.le_refl _) (Nat.le_of_ble_eq_true rfl) dL_scheme_4 ?_
    refine me_i2l X dL_scheme_7 ?_
    refine me_last X (by decide) dL_scheme_8 ?_
    refine me_goto X 15 (by decide) dL_scheme_9 ?_
    refine me_iconst X dL_scheme_15 ic_0 ?_
    exact me_iretH X (by decide) (by decide) hr hlk dL_scheme_16
  | none =>
    rw [e1] at h
    obtain ⟨⟨E, M1⟩, e2, h⟩ := me_bd (show ((tX11_scheme_0 M p0).bind fun (E, M1) => (if E = xA then some ((1 : Int32), M1) else none)) = some (r, M') from h)
    by_cases c0 : E = xA
    · have h := me_ip c0 h
      obtain ⟨rfl, rfl⟩ := me_sp h
      subst c0
      refine me_callC X hz hRc hRs (nm := "java/lang/IllegalArgumentException") [.int p0] (ctTX11_scheme_0 hl (n := 425) (nt := 5) (by decide) (by decide) e2) kV_L_15 rfl rfl (Nat.le_of_ble_eq_true rfl) me_k0 (Nat.le_of_ble_eq_true rfl) (Nat.le_refl _) (Nat.le_of_ble_eq_true rfl) dL_scheme_4 tw_744 [] [] ⟨0, 9, 12, 13⟩ htab (fun z hz => nomatch hz) (by decide) (by decide) tw_645 tw_660 12 rfl (fun q => ?_)
      have X1 := me_Xup (cells' := 1) (slots' := 6) X hRc hRs
      refine me_astore_n X1 (i := 3) [(3, .ref q), (0, .ref (ad 0)), (1, .int p0), (2, .ref (ad 424))] (Nat.le_of_ble_eq_true rfl) rfl dL_scheme_12 ?_
      refine me_iconst X1 dL_scheme_13 ic_1 ?_
      exact me_iretH X1 (by decide) (by decide) hr hlk dL_scheme_14
    · have h := me_in c0 h
      cases h
def hL_step (M : me_M) (p0 : Int32) : Option (Int32 × me_M) :=
  ((mX11_step_0 M p0).bind fun (v, M1) => some ((0 : Int32), me_o M1 0 v.toInt64)).or ((tX11_step_0 M p0).bind fun (E, M1) => (if E = xA then some ((1 : Int32), M1) else none))
set_option maxRecDepth 100000 in
set_option maxHeartbeats 4000000 in
theorem chL_step {l : Launch} (hl : l.stackTraces = false) {M : me_M} {p0 : Int32} {r : Int32} {M' : me_M} (h : hL_step M p0 = some (r, M')) : me_Ch l yL_step cL_step 4 (some .int) [(0, 9, 12, 13)] 8 425 5 (fun ad => [.ref (ad 0), .int p0, .ref (ad 424)]) M r M' := by
  refine me_enterH (N0 := 425) RL rfl pl_RL (Nat.le_refl _) (by decide) (fun _ => Nat.le_of_ble_eq_true rfl) ?_
  intro p e R s m args below meth c D cA ad tys A X hr hlk hz htab hRc hRs
  refine me_sub (L' := [(0, .ref (ad 0)), (1, .int p0), (2, .ref (ad 424))]) [0, 1, 2] rfl ?_
  refine me_aload_n X (i := 2) 2 rfl dL_step_0 ?_
  refine me_iconst X dL_step_1 ic_0 ?_
  refine me_aload_n X (i := 0) 0 rfl dL_step_2 ?_
  refine me_iload_n X (i := 1) 1 rfl dL_step_3 ?_
  unfold hL_step at h
  cases e1 : mX11_step_0 M p0 with
  | some v =>
    obtain ⟨v, M1⟩ := v
    rw [e1] at h
    obtain ⟨rfl, rfl⟩ := me_sp (show some ((0 : Int32), me_o M1 0 v.toInt64) = some (r, M') from h)
    refine me_callVi X [.int p0] (ctX11_step_0 (n := 425) (nt := 5) (by decide) (by decide) e1) kV_L_18 rfl rfl (Nat.le_of_ble_eq_true rfl) me_k0 (Nat.le_of_ble_eq_true rfl) (Nat.le_refl _) (Nat.le_of_ble_eq_true rfl) dL_step_4 ?_
    refine me_i2l X dL_step_7 ?_
    refine me_last X (by decide) dL_step_8 ?_
    refine me_goto X 15 (by decide) dL_step_9 ?_
    refine me_iconst X dL_step_15 ic_0 ?_
    exact me_iretH X (by decide) (by decide) hr hlk dL_step_16
  | none =>
    rw [e1] at h
    obtain ⟨⟨E, M1⟩, e2, h⟩ := me_bd (show ((tX11_step_0 M p0).bind fun (E, M1) => (if E = xA then some ((1 : Int32), M1) else none)) = some (r, M') from h)
    by_cases c0 : E = xA
    · have h := me_ip c0 h
      obtain ⟨rfl, rfl⟩ := me_sp h
      subst c0
      refine me_callC X hz hRc hRs (nm := "java/lang/IllegalArgumentException") [.int p0] (ctTX11_step_0 hl (n := 425) (nt := 5) (by decide) (by decide) e2) kV_L_18 rfl rfl (Nat.le_of_ble_eq_true rfl) me_k0 (Nat.le_of_ble_eq_true rfl) (Nat.le_refl _) (Nat.le_of_ble_eq_true rfl) dL_step_4 tw_815 [] [] ⟨0, 9, 12, 13⟩ htab (fun z hz => nomatch hz) (by decide) (by decide) tw_645 tw_660 12 rfl (fun q => ?_)
      have X1 := me_Xup (cells' := 1) (slots' := 6) X hRc hRs
      refine me_astore_n X1 (i := 3) [(3, .ref q), (0, .ref (ad 0)), (1, .int p0), (2, .ref (ad 424))] (Nat.le_of_ble_eq_true rfl) rfl dL_step_12 ?_
      refine me_iconst X1 dL_step_13 ic_1 ?_
      exact me_iretH X1 (by decide) (by decide) hr hlk dL_step_14
    · have h := me_in c0 h
      cases h
def hL_grow (M : me_M) (p0 : Int32) (p1 : Int32) : Option (Int32 × me_M) :=
  ((mX11_grow_0 M p0 p1).bind fun (v, M1) => some ((0 : Int32), me_o M1 0 v.toInt64)).or ((tX11_grow_0 M p0 p1).bind fun (E, M1) => (if E = xA then some ((1 : Int32), M1) else (if E = xS then some ((2 : Int32), M1) else none)))
set_option maxRecDepth 100000 in
set_option maxHeartbeats 4000000 in
theorem chL_grow {l : Launch} (hl : l.stackTraces = false) {M : me_M} {p0 : Int32} {p1 : Int32} {r : Int32} {M' : me_M} (h : hL_grow M p0 p1 = some (r, M')) : me_Ch l yL_grow cL_grow 5 (some .int) [(0, 10, 13, 13), (0, 10, 17, 25)] 8 425 5 (fun ad => [.ref (ad 0), .int p0, .int p1, .ref (ad 424)]) M r M' := by
  refine me_enterH (N0 := 425) RL rfl pl_RL (Nat.le_refl _) (by decide) (fun _ => Nat.le_of_ble_eq_true rfl) ?_
  intro p e R s m args below meth c D cA ad tys A X hr hlk hz htab hRc hRs
  refine me_sub (L' := [(0, .ref (ad 0)), (1, .int p0), (2, .int p1), (3, .ref (ad 424))]) [0, 1, 2, 3] rfl ?_
  refine me_aload_n X (i := 3) 3 rfl dL_grow_0 ?_
  refine me_iconst X dL_grow_1 ic_0 ?_
  refine me_aload_n X (i := 0) 0 rfl dL_grow_2 ?_
  refine me_iload_n X (i := 1) 1 rfl dL_grow_3 ?_
  refine me_iload_n X (i := 2) 2 rfl dL_grow_4 ?_
  unfold hL_grow at h
  cases e1 : mX11_grow_0 M p0 p1 with
  | some v =>
    obtain ⟨v, M1⟩ := v
    rw [e1] at h
    obtain ⟨rfl, rfl⟩ := me_sp (show some ((0 : Int32), me_o M1 0 v.toInt64) = some (r, M') from h)
    refine me_callVi X [.int p0, .int p1] (ctX11_grow_0 (n := 425) (nt := 5) (by decide) (by decide) e1) kV_L_21 rfl rfl (Nat.le_of_ble_eq_true rfl) me_k0 (Nat.le_of_ble_eq_true rfl) (Nat.le_refl _) (Nat.le_of_ble_eq_true rfl) dL_grow_5 ?_
    refine me_i2l X dL_grow_8 ?_
    refine me_last X (by decide) dL_grow_9 ?_
    refine me_goto X 21 (by decide) dL_grow_10 ?_
    refine me_iconst X dL_grow_21 ic_0 ?_
    exact me_iretH X (by decide) (by decide) hr hlk dL_grow_22
  | none =>
    rw [e1] at h
    obtain ⟨⟨E, M1⟩, e2, h⟩ := me_bd (show ((tX11_grow_0 M p0 p1).bind fun (E, M1) => (if E = xA then some ((1 : Int32), M1) else (if E = xS then some ((2 : Int32), M1) else none))) = some (r, M') from h)
    by_cases c0 : E = xA
    · have h := me_ip c0 h
      obtain ⟨rfl, rfl⟩ := me_sp h
      subst c0
      refine me_callC X hz hRc hRs (nm := "java/lang/IllegalArgumentException") [.int p0, .int p1] (ctTX11_grow_0 hl (n := 425) (nt := 5) (by decide) (by decide) e2) kV_L_21 rfl rfl (Nat.le_of_ble_eq_true rfl) me_k0 (Nat.le_of_ble_eq_true rfl) (Nat.le_refl _) (Nat.le_of_ble_eq_true rfl) dL_grow_5 tw_823 [] [⟨0, 10, 17, 25⟩] ⟨0, 10, 13, 13⟩ htab (fun z hz => nomatch hz) (by decide) (by decide) tw_645 tw_660 13 rfl (fun q => ?_)
      have X1 := me_Xup (cells' := 1) (slots' := 6) X hRc hRs
      refine me_astore X1 (i := 4) [(4, .ref q), (0, .ref (ad 0)), (1, .int p0), (2, .int p1), (3, .ref (ad 424))] (Nat.le_of_ble_eq_true rfl) rfl dL_grow_13 ?_
      refine me_iconst X1 dL_grow_15 ic_1 ?_
      exact me_iretH X1 (by decide) (by decide) hr hlk dL_grow_16
    · have h := me_in c0 h
      by_cases c1 : E = xS
      · have h := me_ip c1 h
        obtain ⟨rfl, rfl⟩ := me_sp h
        subst c1
        refine me_callC X hz hRc hRs (nm := "java/lang/IllegalStateException") [.int p0, .int p1] (ctTX11_grow_0 hl (n := 425) (nt := 5) (by decide) (by decide) e2) kV_L_21 rfl rfl (Nat.le_of_ble_eq_true rfl) me_k0 (Nat.le_of_ble_eq_true rfl) (Nat.le_refl _) (Nat.le_of_ble_eq_true rfl) dL_grow_5 tw_823 [⟨0, 10, 13, 13⟩] [] ⟨0, 10, 17, 25⟩ htab (fun z hz9 => by rcases List.mem_singleton.mp hz9 with rfl; exact ⟨by decide, _, tw_645, hz.2.2.2.2.2.2⟩) (by decide) (by decide) tw_822 tw_837 17 rfl (fun q => ?_)
        have X1 := me_Xup (cells' := 1) (slots' := 6) X hRc hRs
        refine me_astore X1 (i := 4) [(4, .ref q), (0, .ref (ad 0)), (1, .int p0), (2, .int p1), (3, .ref (ad 424))] (Nat.le_of_ble_eq_true rfl) rfl dL_grow_17 ?_
        refine me_iconst X1 dL_grow_19 ic_2 ?_
        exact me_iretH X1 (by decide) (by decide) hr hlk dL_grow_20
      · have h := me_in c1 h
        cases h
def hL_told (M : me_M) (p0 : Int32) : Option (Int32 × me_M) :=
  ((mX11_told_0 M p0).bind fun v => some ((0 : Int32), me_o M 0 v.toInt64)).or ((tX11_told_0 M p0).bind fun (E, M1) => (if E = xA then some ((1 : Int32), M1) else none))
set_option maxRecDepth 100000 in
set_option maxHeartbeats 4000000 in
theorem chL_told {l : Launch} (hl : l.stackTraces = false) {M : me_M} {p0 : Int32} {r : Int32} {M' : me_M} (h : hL_told M p0 = some (r, M')) : me_Ch l yL_told cL_told 4 (some .int) [(0, 9, 12, 13)] 8 425 5 (fun ad => [.ref (ad 0), .int p0, .ref (ad 424)]) M r M' := by
  refine me_enterH (N0 := 425) RL rfl pl_RL (Nat.le_refl _) (by decide) (fun _ => Nat.le_of_ble_eq_true rfl) ?_
  intro p e R s m args below meth c D cA ad tys A X hr hlk hz htab hRc hRs
  refine me_sub (L' := [(0, .ref (ad 0)), (1, .int p0), (2, .ref (ad 424))]) [0, 1, 2] rfl ?_
  refine me_aload_n X (i := 2) 2 rfl dL_told_0 ?_
  refine me_iconst X dL_told_1 ic_0 ?_
  refine me_aload_n X (i := 0) 0 rfl dL_told_2 ?_
  refine me_iload_n X (i := 1) 1 rfl dL_told_3 ?_
  unfold hL_told at h
  cases e1 : mX11_told_0 M p0 with
  | some v =>
    rw [e1] at h
    obtain ⟨rfl, rfl⟩ := me_sp (show some ((0 : Int32), me_o M 0 v.toInt64) = some (r, M') from h)
    refine me_callVi X [.int p0] (ctX11_told_0 (n := 425) (nt := 5) (by decide) (by decide) e1) kV_L_27 rfl rfl (Nat.le_of_ble_eq_true rfl) me_k0 (Nat.le_of_ble_eq_true rfl) (Nat.le_refl _) (Nat.le_of_ble_eq_true rfl) dL_told_4 ?_
    refine me_i2l X dL_told_7 ?_
    refine me_last X (by decide) dL_told_8 ?_
    refine me_goto X 15 (by decide) dL_told_9 ?_
    refine me_iconst X dL_told_15 ic_0 ?_
    exact me_iretH X (by decide) (by decide) hr hlk dL_told_16
  | none =>
    rw [e1] at h
    obtain ⟨⟨E, M1⟩, e2, h⟩ := me_bd (show ((tX11_told_0 M p0).bind fun (E, M1) => (if E = xA then some ((1 : Int32), M1) else none)) = some (r, M') from h)
    by_cases c0 : E = xA
    · have h := me_ip c0 h
      obtain ⟨rfl, rfl⟩ := me_sp h
      subst c0
      refine me_callC X hz hRc hRs (nm := "java/lang/IllegalArgumentException") [.int p0] (ctTX11_told_0 hl (n := 425) (nt := 5) (by decide) (by decide) e2) kV_L_27 rfl rfl (Nat.le_of_ble_eq_true rfl) me_k0 (Nat.le_of_ble_eq_true rfl) (Nat.le_refl _) (Nat.le_of_ble_eq_true rfl) dL_told_4 tw_868 [] [] ⟨0, 9, 12, 13⟩ htab (fun z hz => nomatch hz) (by decide) (by decide) tw_645 tw_660 12 rfl (fun q => ?_)
      have X1 := me_Xup (cells' := 1) (slots' := 6) X hRc hRs
      refine me_astore_n X1 (i := 3) [(3, .ref q), (0, .ref (ad 0)), (1, .int p0), (2, .ref (ad 424))] (Nat.le_of_ble_eq_true rfl) rfl dL_told_12 ?_
      refine me_iconst X1 dL_told_13 ic_1 ?_
      exact me_iretH X1 (by decide) (by decide) hr hlk dL_told_14
    · have h := me_in c0 h
      cases h
def hL_sign (M : me_M) (p0 : Int32) : Option (Int32 × me_M) :=
  ((mX11_sign_0 M p0).bind fun v => some ((0 : Int32), me_o M 0 v.toInt64)).or ((tX11_sign_0 M p0).bind fun (E, M1) => (if E = xN then some ((1 : Int32), M1) else none))
set_option maxRecDepth 100000 in
set_option maxHeartbeats 4000000 in
theorem chL_sign {l : Launch} (hl : l.stackTraces = false) {M : me_M} {p0 : Int32} {r : Int32} {M' : me_M} (h : hL_sign M p0 = some (r, M')) : me_Ch l yL_sign cL_sign 4 (some .int) [(0, 9, 12, 33)] 8 425 5 (fun ad => [.ref (ad 0), .int p0, .ref (ad 424)]) M r M' := by
  refine me_enterH (N0 := 425) RL rfl pl_RL (Nat.le_refl _) (by decide) (fun _ => Nat.le_of_ble_eq_true rfl) ?_
  intro p e R s m args below meth c D cA ad tys A X hr hlk hz htab hRc hRs
  refine me_sub (L' := [(0, .ref (ad 0)), (1, .int p0), (2, .ref (ad 424))]) [0, 1, 2] rfl ?_
  refine me_aload_n X (i := 2) 2 rfl dL_sign_0 ?_
  refine me_iconst X dL_sign_1 ic_0 ?_
  refine me_aload_n X (i := 0) 0 rfl dL_sign_2 ?_
  refine me_iload_n X (i := 1) 1 rfl dL_sign_3 ?_
  unfold hL_sign at h
  cases e1 : mX11_sign_0 M p0 with
  | some v =>
    rw [e1] at h
    obtain ⟨rfl, rfl⟩ := me_sp (show some ((0 : Int32), me_o M 0 v.toInt64) = some (r, M') from h)
    refine me_callVi X [.int p0] (ctX11_sign_0 (n := 425) (nt := 5) (by decide) (by decide) e1) kV_L_30 rfl rfl (Nat.le_of_ble_eq_true rfl) me_k0 (Nat.le_of_ble_eq_true rfl) (Nat.le_refl _) (Nat.le_of_ble_eq_true rfl) dL_sign_4 ?_
    refine me_i2l X dL_sign_7 ?_
    refine me_last X (by decide) dL_sign_8 ?_
    refine me_goto X 15 (by decide) dL_sign_9 ?_
    refine me_iconst X dL_sign_15 ic_0 ?_
    exact me_iretH X (by decide) (by decide) hr hlk dL_sign_16
  | none =>
    rw [e1] at h
    obtain ⟨⟨E, M1⟩, e2, h⟩ := me_bd (show ((tX11_sign_0 M p0).bind fun (E, M1) => (if E = xN then some ((1 : Int32), M1) else none)) = some (r, M') from h)
    by_cases c0 : E = xN
    · have h := me_ip c0 h
      obtain ⟨rfl, rfl⟩ := me_sp h
      subst c0
      refine me_callC X hz hRc hRs (nm := "java/util/NoSuchElementException") [.int p0] (ctTX11_sign_0 hl (n := 425) (nt := 5) (by decide) (by decide) e2) kV_L_30 rfl rfl (Nat.le_of_ble_eq_true rfl) me_k0 (Nat.le_of_ble_eq_true rfl) (Nat.le_refl _) (Nat.le_of_ble_eq_true rfl) dL_sign_4 tw_887 [] [] ⟨0, 9, 12, 33⟩ htab (fun z hz => nomatch hz) (by decide) (by decide) tw_886 tw_901 12 rfl (fun q => ?_)
      have X1 := me_Xup (cells' := 1) (slots' := 6) X hRc hRs
      refine me_astore_n X1 (i := 3) [(3, .ref q), (0, .ref (ad 0)), (1, .int p0), (2, .ref (ad 424))] (Nat.le_of_ble_eq_true rfl) rfl dL_sign_12 ?_
      refine me_iconst X1 dL_sign_13 ic_1 ?_
      exact me_iretH X1 (by decide) (by decide) hr hlk dL_sign_14
    · have h := me_in c0 h
      cases h
def hL_row (M : me_M) (p0 : Int32) (p1 : Int32) (p2 : Int32) : Option (Int32 × me_M) :=
  ((mX11_row_0 M p0 p1 p2).bind fun v => some ((0 : Int32), me_o M 0 v.toInt64)).or ((tX11_row_0 M p0 p1 p2).bind fun (E, M1) => (if E = xN then some ((1 : Int32), M1) else (if E = xA then some ((2 : Int32), M1) else none)))
set_option maxRecDepth 100000 in
set_option maxHeartbeats 4000000 in
theorem chL_row {l : Launch} (hl : l.stackTraces = false) {M : me_M} {p0 : Int32} {p1 : Int32} {p2 : Int32} {r : Int32} {M' : me_M} (h : hL_row M p0 p1 p2 = some (r, M')) : me_Ch l yL_row cL_row 6 (some .int) [(0, 12, 15, 33), (0, 12, 19, 13)] 8 425 5 (fun ad => [.ref (ad 0), .int p0, .int p1, .int p2, .ref (ad 424)]) M r M' := by
  refine me_enterH (N0 := 425) RL rfl pl_RL (Nat.le_refl _) (by decide) (fun _ => Nat.le_of_ble_eq_true rfl) ?_
  intro p e R s m args below meth c D cA ad tys A X hr hlk hz htab hRc hRs
  refine me_sub (L' := [(0, .ref (ad 0)), (1, .int p0), (2, .int p1), (3, .int p2), (4, .ref (ad 424))]) [0, 1, 2, 3, 4] rfl ?_
  refine me_aload X (i := 4) 4 rfl dL_row_0 ?_
  refine me_iconst X dL_row_2 ic_0 ?_
  refine me_aload_n X (i := 0) 0 rfl dL_row_3 ?_
  refine me_iload_n X (i := 1) 1 rfl dL_row_4 ?_
  refine me_iload_n X (i := 2) 2 rfl dL_row_5 ?_
  refine me_iload_n X (i := 3) 3 rfl dL_row_6 ?_
  unfold hL_row at h
  cases e1 : mX11_row_0 M p0 p1 p2 with
  | some v =>
    rw [e1] at h
    obtain ⟨rfl, rfl⟩ := me_sp (show some ((0 : Int32), me_o M 0 v.toInt64) = some (r, M') from h)
    refine me_callVi X [.int p0, .int p1, .int p2] (ctX11_row_0 (n := 425) (nt := 5) (by decide) (by decide) e1) kV_L_35 rfl rfl (Nat.le_of_ble_eq_true rfl) me_k0 (Nat.le_of_ble_eq_true rfl) (Nat.le_refl _) (Nat.le_of_ble_eq_true rfl) dL_row_7 ?_
    refine me_i2l X dL_row_10 ?_
    refine me_last X (by decide) dL_row_11 ?_
    refine me_goto X 23 (by decide) dL_row_12 ?_
    refine me_iconst X dL_row_23 ic_0 ?_
    exact me_iretH X (by decide) (by decide) hr hlk dL_row_24
  | none =>
    rw [e1] at h
    obtain ⟨⟨E, M1⟩, e2, h⟩ := me_bd (show ((tX11_row_0 M p0 p1 p2).bind fun (E, M1) => (if E = xN then some ((1 : Int32), M1) else (if E = xA then some ((2 : Int32), M1) else none))) = some (r, M') from h)
    by_cases c0 : E = xN
    · have h := me_ip c0 h
      obtain ⟨rfl, rfl⟩ := me_sp h
      subst c0
      refine me_callC X hz hRc hRs (nm := "java/util/NoSuchElementException") [.int p0, .int p1, .int p2] (ctTX11_row_0 hl (n := 425) (nt := 5) (by decide) (by decide) e2) kV_L_35 rfl rfl (Nat.le_of_ble_eq_true rfl) me_k0 (Nat.le_of_ble_eq_true rfl) (Nat.le_refl _) (Nat.le_of_ble_eq_true rfl) dL_row_7 tw_921 [] [⟨0, 12, 19, 13⟩] ⟨0, 12, 15, 33⟩ htab (fun z hz => nomatch hz) (by decide) (by decide) tw_886 tw_901 15 rfl (fun q => ?_)
      have X1 := me_Xup (cells' := 1) (slots' := 6) X hRc hRs
      refine me_astore X1 (i := 5) [(5, .ref q), (0, .ref (ad 0)), (1, .int p0), (2, .int p1), (3, .int p2), (4, .ref (ad 424))] (Nat.le_of_ble_eq_true rfl) rfl dL_row_15 ?_
      refine me_iconst X1 dL_row_17 ic_1 ?_
      exact me_iretH X1 (by decide) (by decide) hr hlk dL_row_18
    · have h := me_in c0 h
      by_cases c1 : E = xA
      · have h := me_ip c1 h
        obtain ⟨rfl, rfl⟩ := me_sp h
        subst c1
        refine me_callC X hz hRc hRs (nm := "java/lang/IllegalArgumentException") [.int p0, .int p1, .int p2] (ctTX11_row_0 hl (n := 425) (nt := 5) (by decide) (by decide) e2) kV_L_35 rfl rfl (Nat.le_of_ble_eq_true rfl) me_k0 (Nat.le_of_ble_eq_true rfl) (Nat.le_refl _) (Nat.le_of_ble_eq_true rfl) dL_row_7 tw_921 [⟨0, 12, 15, 33⟩] [] ⟨0, 12, 19, 13⟩ htab (fun z hz9 => by rcases List.mem_singleton.mp hz9 with rfl; exact ⟨by decide, _, tw_886, hz.2.2.2.2.2.1⟩) (by decide) (by decide) tw_645 tw_660 19 rfl (fun q => ?_)
        have X1 := me_Xup (cells' := 1) (slots' := 6) X hRc hRs
        refine me_astore X1 (i := 5) [(5, .ref q), (0, .ref (ad 0)), (1, .int p0), (2, .int p1), (3, .int p2), (4, .ref (ad 424))] (Nat.le_of_ble_eq_true rfl) rfl dL_row_19 ?_
        refine me_iconst X1 dL_row_21 ic_2 ?_
        exact me_iretH X1 (by decide) (by decide) hr hlk dL_row_22
      · have h := me_in c1 h
        cases h
def hL_rowOf (M : me_M) (p0 : Int32) (p1 : Int32) : Option (Int32 × me_M) :=
  ((mX11_rowOf_0 M p0 p1).bind fun v => some ((0 : Int32), me_o M 0 v.toInt64)).or ((tX11_rowOf_0 M p0 p1).bind fun (E, M1) => (if E = xN then some ((1 : Int32), M1) else none))
set_option maxRecDepth 100000 in
set_option maxHeartbeats 4000000 in
theorem chL_rowOf {l : Launch} (hl : l.stackTraces = false) {M : me_M} {p0 : Int32} {p1 : Int32} {r : Int32} {M' : me_M} (h : hL_rowOf M p0 p1 = some (r, M')) : me_Ch l yL_rowOf cL_rowOf 5 (some .int) [(0, 10, 13, 33)] 8 425 5 (fun ad => [.ref (ad 0), .int p0, .int p1, .ref (ad 424)]) M r M' := by
  refine me_enterH (N0 := 425) RL rfl pl_RL (Nat.le_refl _) (by decide) (fun _ => Nat.le_of_ble_eq_true rfl) ?_
  intro p e R s m args below meth c D cA ad tys A X hr hlk hz htab hRc hRs
  refine me_sub (L' := [(0, .ref (ad 0)), (1, .int p0), (2, .int p1), (3, .ref (ad 424))]) [0, 1, 2, 3] rfl ?_
  refine me_aload_n X (i := 3) 3 rfl dL_rowOf_0 ?_
  refine me_iconst X dL_rowOf_1 ic_0 ?_
  refine me_aload_n X (i := 0) 0 rfl dL_rowOf_2 ?_
  refine me_iload_n X (i := 1) 1 rfl dL_rowOf_3 ?_
  refine me_iload_n X (i := 2) 2 rfl dL_rowOf_4 ?_
  unfold hL_rowOf at h
  cases e1 : mX11_rowOf_0 M p0 p1 with
  | some v =>
    rw [e1] at h
    obtain ⟨rfl, rfl⟩ := me_sp (show some ((0 : Int32), me_o M 0 v.toInt64) = some (r, M') from h)
    refine me_callVi X [.int p0, .int p1] (ctX11_rowOf_0 (n := 425) (nt := 5) (by decide) (by decide) e1) kV_L_39 rfl rfl (Nat.le_of_ble_eq_true rfl) me_k0 (Nat.le_of_ble_eq_true rfl) (Nat.le_refl _) (Nat.le_of_ble_eq_true rfl) dL_rowOf_5 ?_
    refine me_i2l X dL_rowOf_8 ?_
    refine me_last X (by decide) dL_rowOf_9 ?_
    refine me_goto X 17 (by decide) dL_rowOf_10 ?_
    refine me_iconst X dL_rowOf_17 ic_0 ?_
    exact me_iretH X (by decide) (by decide) hr hlk dL_rowOf_18
  | none =>
    rw [e1] at h
    obtain ⟨⟨E, M1⟩, e2, h⟩ := me_bd (show ((tX11_rowOf_0 M p0 p1).bind fun (E, M1) => (if E = xN then some ((1 : Int32), M1) else none)) = some (r, M') from h)
    by_cases c0 : E = xN
    · have h := me_ip c0 h
      obtain ⟨rfl, rfl⟩ := me_sp h
      subst c0
      refine me_callC X hz hRc hRs (nm := "java/util/NoSuchElementException") [.int p0, .int p1] (ctTX11_rowOf_0 hl (n := 425) (nt := 5) (by decide) (by decide) e2) kV_L_39 rfl rfl (Nat.le_of_ble_eq_true rfl) me_k0 (Nat.le_of_ble_eq_true rfl) (Nat.le_refl _) (Nat.le_of_ble_eq_true rfl) dL_rowOf_5 tw_940 [] [] ⟨0, 10, 13, 33⟩ htab (fun z hz => nomatch hz) (by decide) (by decide) tw_886 tw_901 13 rfl (fun q => ?_)
      have X1 := me_Xup (cells' := 1) (slots' := 6) X hRc hRs
      refine me_astore X1 (i := 4) [(4, .ref q), (0, .ref (ad 0)), (1, .int p0), (2, .int p1), (3, .ref (ad 424))] (Nat.le_of_ble_eq_true rfl) rfl dL_rowOf_13 ?_
      refine me_iconst X1 dL_rowOf_15 ic_1 ?_
      exact me_iretH X1 (by decide) (by decide) hr hlk dL_rowOf_16
    · have h := me_in c0 h
      cases h
def hL_count (M : me_M) (p0 : Int32) (p1 : Int32) (p2 : Int32) : Option (Int32 × me_M) :=
  ((mX11_count_0 M p0 p1 p2).bind fun v => some ((0 : Int32), me_o M 0 v.toInt64)).or ((tX11_count_0 M p0 p1 p2).bind fun (E, M1) => (if E = xN then some ((1 : Int32), M1) else (if E = xA then some ((2 : Int32), M1) else none)))
set_option maxRecDepth 100000 in
set_option maxHeartbeats 4000000 in
theorem chL_count {l : Launch} (hl : l.stackTraces = false) {M : me_M} {p0 : Int32} {p1 : Int32} {p2 : Int32} {r : Int32} {M' : me_M} (h : hL_count M p0 p1 p2 = some (r, M')) : me_Ch l yL_count cL_count 6 (some .int) [(0, 12, 15, 33), (0, 12, 19, 13)] 8 425 5 (fun ad => [.ref (ad 0), .int p0, .int p1, .int p2, .ref (ad 424)]) M r M' := by
  refine me_enterH (N0 := 425) RL rfl pl_RL (Nat.le_refl _) (by decide) (fun _ => Nat.le_of_ble_eq_true rfl) ?_
  intro p e R s m args below meth c D cA ad tys A X hr hlk hz htab hRc hRs
  refine me_sub (L' := [(0, .ref (ad 0)), (1, .int p0), (2, .int p1), (3, .int p2), (4, .ref (ad 424))]) [0, 1, 2, 3, 4] rfl ?_
  refine me_aload X (i := 4) 4 rfl dL_count_0 ?_
  refine me_iconst X dL_count_2 ic_0 ?_
  refine me_aload_n X (i := 0) 0 rfl dL_count_3 ?_
  refine me_iload_n X (i := 1) 1 rfl dL_count_4 ?_
  refine me_iload_n X (i := 2) 2 rfl dL_count_5 ?_
  refine me_iload_n X (i := 3) 3 rfl dL_count_6 ?_
  unfold hL_count at h
  cases e1 : mX11_count_0 M p0 p1 p2 with
  | some v =>
    rw [e1] at h
    obtain ⟨rfl, rfl⟩ := me_sp (show some ((0 : Int32), me_o M 0 v.toInt64) = some (r, M') from h)
    refine me_callVi X [.int p0, .int p1, .int p2] (ctX11_count_0 (n := 425) (nt := 5) (by decide) (by decide) e1) kV_L_42 rfl rfl (Nat.le_of_ble_eq_true rfl) me_k0 (Nat.le_of_ble_eq_true rfl) (Nat.le_refl _) (Nat.le_of_ble_eq_true rfl) dL_count_7 ?_
    refine me_i2l X dL_count_10 ?_
    refine me_last X (by decide) dL_count_11 ?_
    refine me_goto X 23 (by decide) dL_count_12 ?_
    refine me_iconst X dL_count_23 ic_0 ?_
    exact me_iretH X (by decide) (by decide) hr hlk dL_count_24
  | none =>
    rw [e1] at h
    obtain ⟨⟨E, M1⟩, e2, h⟩ := me_bd (show ((tX11_count_0 M p0 p1 p2).bind fun (E, M1) => (if E = xN then some ((1 : Int32), M1) else (if E = xA then some ((2 : Int32), M1) else none))) = some (r, M') from h)
    by_cases c0 : E = xN
    · have h := me_ip c0 h
      obtain ⟨rfl, rfl⟩ := me_sp h
      subst c0
      refine me_callC X hz hRc hRs (nm := "java/util/NoSuchElementException") [.int p0, .int p1, .int p2] (ctTX11_count_0 hl (n := 425) (nt := 5) (by decide) (by decide) e2) kV_L_42 rfl rfl (Nat.le_of_ble_eq_true rfl) me_k0 (Nat.le_of_ble_eq_true rfl) (Nat.le_refl _) (Nat.le_of_ble_eq_true rfl) dL_count_7 tw_947 [] [⟨0, 12, 19, 13⟩] ⟨0, 12, 15, 33⟩ htab (fun z hz => nomatch hz) (by decide) (by decide) tw_886 tw_901 15 rfl (fun q => ?_)
      have X1 := me_Xup (cells' := 1) (slots' := 6) X hRc hRs
      refine me_astore X1 (i := 5) [(5, .ref q), (0, .ref (ad 0)), (1, .int p0), (2, .int p1), (3, .int p2), (4, .ref (ad 424))] (Nat.le_of_ble_eq_true rfl) rfl dL_count_15 ?_
      refine me_iconst X1 dL_count_17 ic_1 ?_
      exact me_iretH X1 (by decide) (by decide) hr hlk dL_count_18
    · have h := me_in c0 h
      by_cases c1 : E = xA
      · have h := me_ip c1 h
        obtain ⟨rfl, rfl⟩ := me_sp h
        subst c1
        refine me_callC X hz hRc hRs (nm := "java/lang/IllegalArgumentException") [.int p0, .int p1, .int p2] (ctTX11_count_0 hl (n := 425) (nt := 5) (by decide) (by decide) e2) kV_L_42 rfl rfl (Nat.le_of_ble_eq_true rfl) me_k0 (Nat.le_of_ble_eq_true rfl) (Nat.le_refl _) (Nat.le_of_ble_eq_true rfl) dL_count_7 tw_947 [⟨0, 12, 15, 33⟩] [] ⟨0, 12, 19, 13⟩ htab (fun z hz9 => by rcases List.mem_singleton.mp hz9 with rfl; exact ⟨by decide, _, tw_886, hz.2.2.2.2.2.1⟩) (by decide) (by decide) tw_645 tw_660 19 rfl (fun q => ?_)
        have X1 := me_Xup (cells' := 1) (slots' := 6) X hRc hRs
        refine me_astore X1 (i := 5) [(5, .ref q), (0, .ref (ad 0)), (1, .int p0), (2, .int p1), (3, .int p2), (4, .ref (ad 424))] (Nat.le_of_ble_eq_true rfl) rfl dL_count_19 ?_
        refine me_iconst X1 dL_count_21 ic_2 ?_
        exact me_iretH X1 (by decide) (by decide) hr hlk dL_count_22
      · have h := me_in c1 h
        cases h
def hL_letter (M : me_M) (p0 : Int32) : Option (Int32 × me_M) :=
  ((mX11_letter_0 M p0).bind fun v => some ((0 : Int32), me_o M 0 v.toInt64)).or ((tX11_letter_0 M p0).bind fun (E, M1) => (if E = xN then some ((1 : Int32), M1) else none))
set_option maxRecDepth 100000 in
set_option maxHeartbeats 4000000 in
theorem chL_letter {l : Launch} (hl : l.stackTraces = false) {M : me_M} {p0 : Int32} {r : Int32} {M' : me_M} (h : hL_letter M p0 = some (r, M')) : me_Ch l yL_letter cL_letter 4 (some .int) [(0, 9, 12, 33)] 8 425 5 (fun ad => [.ref (ad 0), .int p0, .ref (ad 424)]) M r M' := by
  refine me_enterH (N0 := 425) RL rfl pl_RL (Nat.le_refl _) (by decide) (fun _ => Nat.le_of_ble_eq_true rfl) ?_
  intro p e R s m args below meth c D cA ad tys A X hr hlk hz htab hRc hRs
  refine me_sub (L' := [(0, .ref (ad 0)), (1, .int p0), (2, .ref (ad 424))]) [0, 1, 2] rfl ?_
  refine me_aload_n X (i := 2) 2 rfl dL_letter_0 ?_
  refine me_iconst X dL_letter_1 ic_0 ?_
  refine me_aload_n X (i := 0) 0 rfl dL_letter_2 ?_
  refine me_iload_n X (i := 1) 1 rfl dL_letter_3 ?_
  unfold hL_letter at h
  cases e1 : mX11_letter_0 M p0 with
  | some v =>
    rw [e1] at h
    obtain ⟨rfl, rfl⟩ := me_sp (show some ((0 : Int32), me_o M 0 v.toInt64) = some (r, M') from h)
    refine me_callVi X [.int p0] (ctX11_letter_0 (n := 425) (nt := 5) (by decide) (by decide) e1) kV_L_45 rfl rfl (Nat.le_of_ble_eq_true rfl) me_k0 (Nat.le_of_ble_eq_true rfl) (Nat.le_refl _) (Nat.le_of_ble_eq_true rfl) dL_letter_4 ?_
    refine me_i2l X dL_letter_7 ?_
    refine me_last X (by decide) dL_letter_8 ?_
    refine me_goto X 15 (by decide) dL_letter_9 ?_
    refine me_iconst X dL_letter_15 ic_0 ?_
    exact me_iretH X (by decide) (by decide) hr hlk dL_letter_16
  | none =>
    rw [e1] at h
    obtain ⟨⟨E, M1⟩, e2, h⟩ := me_bd (show ((tX11_letter_0 M p0).bind fun (E, M1) => (if E = xN then some ((1 : Int32), M1) else none)) = some (r, M') from h)
    by_cases c0 : E = xN
    · have h := me_ip c0 h
      obtain ⟨rfl, rfl⟩ := me_sp h
      subst c0
      refine me_callC X hz hRc hRs (nm := "java/util/NoSuchElementException") [.int p0] (ctTX11_letter_0 hl (n := 425) (nt := 5) (by decide) (by decide) e2) kV_L_45 rfl rfl (Nat.le_of_ble_eq_true rfl) me_k0 (Nat.le_of_ble_eq_true rfl) (Nat.le_refl _) (Nat.le_of_ble_eq_true rfl) dL_letter_4 tw_955 [] [] ⟨0, 9, 12, 33⟩ htab (fun z hz => nomatch hz) (by decide) (by decide) tw_886 tw_901 12 rfl (fun q => ?_)
      have X1 := me_Xup (cells' := 1) (slots' := 6) X hRc hRs
      refine me_astore_n X1 (i := 3) [(3, .ref q), (0, .ref (ad 0)), (1, .int p0), (2, .ref (ad 424))] (Nat.le_of_ble_eq_true rfl) rfl dL_letter_12 ?_
      refine me_iconst X1 dL_letter_13 ic_1 ?_
      exact me_iretH X1 (by decide) (by decide) hr hlk dL_letter_14
    · have h := me_in c0 h
      cases h
def hL_grows (M : me_M) (p0 : Int32) : Option (Int32 × me_M) :=
  ((mX11_grows_0 M p0).bind fun (v, M1) => some ((0 : Int32), me_o M1 0 v.toInt64)).or ((tX11_grows_0 M p0).bind fun (E, M1) => (if E = xA then some ((1 : Int32), M1) else none))
set_option maxRecDepth 100000 in
set_option maxHeartbeats 4000000 in
theorem chL_grows {l : Launch} (hl : l.stackTraces = false) {M : me_M} {p0 : Int32} {r : Int32} {M' : me_M} (h : hL_grows M p0 = some (r, M')) : me_Ch l yL_grows cL_grows 4 (some .int) [(0, 9, 12, 13)] 8 425 5 (fun ad => [.ref (ad 0), .int p0, .ref (ad 424)]) M r M' := by
  refine me_enterH (N0 := 425) RL rfl pl_RL (Nat.le_refl _) (by decide) (fun _ => Nat.le_of_ble_eq_true rfl) ?_
  intro p e R s m args below meth c D cA ad tys A X hr hlk hz htab hRc hRs
  refine me_sub (L' := [(0, .ref (ad 0)), (1, .int p0), (2, .ref (ad 424))]) [0, 1, 2] rfl ?_
  refine me_aload_n X (i := 2) 2 rfl dL_grows_0 ?_
  refine me_iconst X dL_grows_1 ic_0 ?_
  refine me_aload_n X (i := 0) 0 rfl dL_grows_2 ?_
  refine me_iload_n X (i := 1) 1 rfl dL_grows_3 ?_
  unfold hL_grows at h
  cases e1 : mX11_grows_0 M p0 with
  | some v =>
    obtain ⟨v, M1⟩ := v
    rw [e1] at h
    obtain ⟨rfl, rfl⟩ := me_sp (show some ((0 : Int32), me_o M1 0 v.toInt64) = some (r, M') from h)
    refine me_callVi X [.int p0] (ctX11_grows_0 (n := 425) (nt := 5) (by decide) (by decide) e1) kV_L_48 rfl rfl (Nat.le_of_ble_eq_true rfl) me_k0 (Nat.le_of_ble_eq_true rfl) (Nat.le_refl _) (Nat.le_of_ble_eq_true rfl) dL_grows_4 ?_
    refine me_i2l X dL_grows_7 ?_
    refine me_last X (by decide) dL_grows_8 ?_
    refine me_goto X 15 (by decide) dL_grows_9 ?_
    refine me_iconst X dL_grows_15 ic_0 ?_
    exact me_iretH X (by decide) (by decide) hr hlk dL_grows_16
  | none =>
    rw [e1] at h
    obtain ⟨⟨E, M1⟩, e2, h⟩ := me_bd (show ((tX11_grows_0 M p0).bind fun (E, M1) => (if E = xA then some ((1 : Int32), M1) else none)) = some (r, M') from h)
    by_cases c0 : E = xA
    · have h := me_ip c0 h
      obtain ⟨rfl, rfl⟩ := me_sp h
      subst c0
      refine me_callC X hz hRc hRs (nm := "java/lang/IllegalArgumentException") [.int p0] (ctTX11_grows_0 hl (n := 425) (nt := 5) (by decide) (by decide) e2) kV_L_48 rfl rfl (Nat.le_of_ble_eq_true rfl) me_k0 (Nat.le_of_ble_eq_true rfl) (Nat.le_refl _) (Nat.le_of_ble_eq_true rfl) dL_grows_4 tw_966 [] [] ⟨0, 9, 12, 13⟩ htab (fun z hz => nomatch hz) (by decide) (by decide) tw_645 tw_660 12 rfl (fun q => ?_)
      have X1 := me_Xup (cells' := 1) (slots' := 6) X hRc hRs
      refine me_astore_n X1 (i := 3) [(3, .ref q), (0, .ref (ad 0)), (1, .int p0), (2, .ref (ad 424))] (Nat.le_of_ble_eq_true rfl) rfl dL_grows_12 ?_
      refine me_iconst X1 dL_grows_13 ic_1 ?_
      exact me_iretH X1 (by decide) (by decide) hr hlk dL_grows_14
    · have h := me_in c0 h
      cases h
def hL_hit (M : me_M) (p0 : Int32) (p1 : Int32) : Option (Int32 × me_M) :=
  ((mX11_hit_0 M p0 p1).bind fun v => some ((0 : Int32), me_o M 0 v.toInt64)).or ((tX11_hit_0 M p0 p1).bind fun (E, M1) => (if E = xN then some ((1 : Int32), M1) else (if E = xA then some ((2 : Int32), M1) else none)))
set_option maxRecDepth 100000 in
set_option maxHeartbeats 4000000 in
theorem chL_hit {l : Launch} (hl : l.stackTraces = false) {M : me_M} {p0 : Int32} {p1 : Int32} {r : Int32} {M' : me_M} (h : hL_hit M p0 p1 = some (r, M')) : me_Ch l yL_hit cL_hit 5 (some .int) [(0, 10, 13, 33), (0, 10, 17, 13)] 8 425 5 (fun ad => [.ref (ad 0), .int p0, .int p1, .ref (ad 424)]) M r M' := by
  refine me_enterH (N0 := 425) RL rfl pl_RL (Nat.le_refl _) (by decide) (fun _ => Nat.le_of_ble_eq_true rfl) ?_
  intro p e R s m args below meth c D cA ad tys A X hr hlk hz htab hRc hRs
  refine me_sub (L' := [(0, .ref (ad 0)), (1, .int p0), (2, .int p1), (3, .ref (ad 424))]) [0, 1, 2, 3] rfl ?_
  refine me_aload_n X (i := 3) 3 rfl dL_hit_0 ?_
  refine me_iconst X dL_hit_1 ic_0 ?_
  refine me_aload_n X (i := 0) 0 rfl dL_hit_2 ?_
  refine me_iload_n X (i := 1) 1 rfl dL_hit_3 ?_
  refine me_iload_n X (i := 2) 2 rfl dL_hit_4 ?_
  unfold hL_hit at h
  cases e1 : mX11_hit_0 M p0 p1 with
  | some v =>
    rw [e1] at h
    obtain ⟨rfl, rfl⟩ := me_sp (show some ((0 : Int32), me_o M 0 v.toInt64) = some (r, M') from h)
    refine me_callVi X [.int p0, .int p1] (ctX11_hit_0 (n := 425) (nt := 5) (by decide) (by decide) e1) kV_L_51 rfl rfl (Nat.le_of_ble_eq_true rfl) me_k0 (Nat.le_of_ble_eq_true rfl) (Nat.le_refl _) (Nat.le_of_ble_eq_true rfl) dL_hit_5 ?_
    refine me_i2l X dL_hit_8 ?_
    refine me_last X (by decide) dL_hit_9 ?_
    refine me_goto X 21 (by decide) dL_hit_10 ?_
    refine me_iconst X dL_hit_21 ic_0 ?_
    exact me_iretH X (by decide) (by decide) hr hlk dL_hit_22
  | none =>
    rw [e1] at h
    obtain ⟨⟨E, M1⟩, e2, h⟩ := me_bd (show ((tX11_hit_0 M p0 p1).bind fun (E, M1) => (if E = xN then some ((1 : Int32), M1) else (if E = xA then some ((2 : Int32), M1) else none))) = some (r, M') from h)
    by_cases c0 : E = xN
    · have h := me_ip c0 h
      obtain ⟨rfl, rfl⟩ := me_sp h
      subst c0
      refine me_callC X hz hRc hRs (nm := "java/util/NoSuchElementException") [.int p0, .int p1] (ctTX11_hit_0 hl (n := 425) (nt := 5) (by decide) (by decide) e2) kV_L_51 rfl rfl (Nat.le_of_ble_eq_true rfl) me_k0 (Nat.le_of_ble_eq_true rfl) (Nat.le_refl _) (Nat.le_of_ble_eq_true rfl) dL_hit_5 tw_977 [] [⟨0, 10, 17, 13⟩] ⟨0, 10, 13, 33⟩ htab (fun z hz => nomatch hz) (by decide) (by decide) tw_886 tw_901 13 rfl (fun q => ?_)
      have X1 := me_Xup (cells' := 1) (slots' := 6) X hRc hRs
      refine me_astore X1 (i := 4) [(4, .ref q), (0, .ref (ad 0)), (1, .int p0), (2, .int p1), (3, .ref (ad 424))] (Nat.le_of_ble_eq_true rfl) rfl dL_hit_13 ?_
      refine me_iconst X1 dL_hit_15 ic_1 ?_
      exact me_iretH X1 (by decide) (by decide) hr hlk dL_hit_16
    · have h := me_in c0 h
      by_cases c1 : E = xA
      · have h := me_ip c1 h
        obtain ⟨rfl, rfl⟩ := me_sp h
        subst c1
        refine me_callC X hz hRc hRs (nm := "java/lang/IllegalArgumentException") [.int p0, .int p1] (ctTX11_hit_0 hl (n := 425) (nt := 5) (by decide) (by decide) e2) kV_L_51 rfl rfl (Nat.le_of_ble_eq_true rfl) me_k0 (Nat.le_of_ble_eq_true rfl) (Nat.le_refl _) (Nat.le_of_ble_eq_true rfl) dL_hit_5 tw_977 [⟨0, 10, 13, 33⟩] [] ⟨0, 10, 17, 13⟩ htab (fun z hz9 => by rcases List.mem_singleton.mp hz9 with rfl; exact ⟨by decide, _, tw_886, hz.2.2.2.2.2.1⟩) (by decide) (by decide) tw_645 tw_660 17 rfl (fun q => ?_)
        have X1 := me_Xup (cells' := 1) (slots' := 6) X hRc hRs
        refine me_astore X1 (i := 4) [(4, .ref q), (0, .ref (ad 0)), (1, .int p0), (2, .int p1), (3, .ref (ad 424))] (Nat.le_of_ble_eq_true rfl) rfl dL_hit_17 ?_
        refine me_iconst X1 dL_hit_19 ic_2 ?_
        exact me_iretH X1 (by decide) (by decide) hr hlk dL_hit_20
      · have h := me_in c1 h
        cases h
def hL_hits (M : me_M) (p0 : Int32) : Option (Int32 × me_M) :=
  ((mX11_hits_0 M p0).bind fun v => some ((0 : Int32), me_o M 0 v.toInt64)).or ((tX11_hits_0 M p0).bind fun (E, M1) => (if E = xA then some ((1 : Int32), M1) else none))
set_option maxRecDepth 100000 in
set_option maxHeartbeats 4000000 in
theorem chL_hits {l : Launch} (hl : l.stackTraces = false) {M : me_M} {p0 : Int32} {r : Int32} {M' : me_M} (h : hL_hits M p0 = some (r, M')) : me_Ch l yL_hits cL_hits 4 (some .int) [(0, 9, 12, 13)] 8 425 5 (fun ad => [.ref (ad 0), .int p0, .ref (ad 424)]) M r M' := by
  refine me_enterH (N0 := 425) RL rfl pl_RL (Nat.le_refl _) (by decide) (fun _ => Nat.le_of_ble_eq_true rfl) ?_
  intro p e R s m args below meth c D cA ad tys A X hr hlk hz htab hRc hRs
  refine me_sub (L' := [(0, .ref (ad 0)), (1, .int p0), (2, .ref (ad 424))]) [0, 1, 2] rfl ?_
  refine me_aload_n X (i := 2) 2 rfl dL_hits_0 ?_
  refine me_iconst X dL_hits_1 ic_0 ?_
  refine me_aload_n X (i := 0) 0 rfl dL_hits_2 ?_
  refine me_iload_n X (i := 1) 1 rfl dL_hits_3 ?_
  unfold hL_hits at h
  cases e1 : mX11_hits_0 M p0 with
  | some v =>
    rw [e1] at h
    obtain ⟨rfl, rfl⟩ := me_sp (show some ((0 : Int32), me_o M 0 v.toInt64) = some (r, M') from h)
    refine me_callVi X [.int p0] (ctX11_hits_0 (n := 425) (nt := 5) (by decide) (by decide) e1) kV_L_54 rfl rfl (Nat.le_of_ble_eq_true rfl) me_k0 (Nat.le_of_ble_eq_true rfl) (Nat.le_refl _) (Nat.le_of_ble_eq_true rfl) dL_hits_4 ?_
    refine me_i2l X dL_hits_7 ?_
    refine me_last X (by decide) dL_hits_8 ?_
    refine me_goto X 15 (by decide) dL_hits_9 ?_
    refine me_iconst X dL_hits_15 ic_0 ?_
    exact me_iretH X (by decide) (by decide) hr hlk dL_hits_16
  | none =>
    rw [e1] at h
    obtain ⟨⟨E, M1⟩, e2, h⟩ := me_bd (show ((tX11_hits_0 M p0).bind fun (E, M1) => (if E = xA then some ((1 : Int32), M1) else none)) = some (r, M') from h)
    by_cases c0 : E = xA
    · have h := me_ip c0 h
      obtain ⟨rfl, rfl⟩ := me_sp h
      subst c0
      refine me_callC X hz hRc hRs (nm := "java/lang/IllegalArgumentException") [.int p0] (ctTX11_hits_0 hl (n := 425) (nt := 5) (by decide) (by decide) e2) kV_L_54 rfl rfl (Nat.le_of_ble_eq_true rfl) me_k0 (Nat.le_of_ble_eq_true rfl) (Nat.le_refl _) (Nat.le_of_ble_eq_true rfl) dL_hits_4 tw_996 [] [] ⟨0, 9, 12, 13⟩ htab (fun z hz => nomatch hz) (by decide) (by decide) tw_645 tw_660 12 rfl (fun q => ?_)
      have X1 := me_Xup (cells' := 1) (slots' := 6) X hRc hRs
      refine me_astore_n X1 (i := 3) [(3, .ref q), (0, .ref (ad 0)), (1, .int p0), (2, .ref (ad 424))] (Nat.le_of_ble_eq_true rfl) rfl dL_hits_12 ?_
      refine me_iconst X1 dL_hits_13 ic_1 ?_
      exact me_iretH X1 (by decide) (by decide) hr hlk dL_hits_14
    · have h := me_in c0 h
      cases h
def hL_often (M : me_M) (p0 : Int32) : Option (Int32 × me_M) :=
  ((mX11_often_0 M p0).bind fun v => some ((0 : Int32), me_o M 0 v.toInt64)).or ((tX11_often_0 M p0).bind fun (E, M1) => (if E = xA then some ((1 : Int32), M1) else none))
set_option maxRecDepth 100000 in
set_option maxHeartbeats 4000000 in
theorem chL_often {l : Launch} (hl : l.stackTraces = false) {M : me_M} {p0 : Int32} {r : Int32} {M' : me_M} (h : hL_often M p0 = some (r, M')) : me_Ch l yL_often cL_often 4 (some .int) [(0, 9, 12, 13)] 8 425 5 (fun ad => [.ref (ad 0), .int p0, .ref (ad 424)]) M r M' := by
  refine me_enterH (N0 := 425) RL rfl pl_RL (Nat.le_refl _) (by decide) (fun _ => Nat.le_of_ble_eq_true rfl) ?_
  intro p e R s m args below meth c D cA ad tys A X hr hlk hz htab hRc hRs
  refine me_sub (L' := [(0, .ref (ad 0)), (1, .int p0), (2, .ref (ad 424))]) [0, 1, 2] rfl ?_
  refine me_aload_n X (i := 2) 2 rfl dL_often_0 ?_
  refine me_iconst X dL_often_1 ic_0 ?_
  refine me_aload_n X (i := 0) 0 rfl dL_often_2 ?_
  refine me_iload_n X (i := 1) 1 rfl dL_often_3 ?_
  unfold hL_often at h
  cases e1 : mX11_often_0 M p0 with
  | some v =>
    rw [e1] at h
    obtain ⟨rfl, rfl⟩ := me_sp (show some ((0 : Int32), me_o M 0 v.toInt64) = some (r, M') from h)
    refine me_callVi X [.int p0] (ctX11_often_0 (n := 425) (nt := 5) (by decide) (by decide) e1) kV_L_57 rfl rfl (Nat.le_of_ble_eq_true rfl) me_k0 (Nat.le_of_ble_eq_true rfl) (Nat.le_refl _) (Nat.le_of_ble_eq_true rfl) dL_often_4 ?_
    refine me_i2l X dL_often_7 ?_
    refine me_last X (by decide) dL_often_8 ?_
    refine me_goto X 15 (by decide) dL_often_9 ?_
    refine me_iconst X dL_often_15 ic_0 ?_
    exact me_iretH X (by decide) (by decide) hr hlk dL_often_16
  | none =>
    rw [e1] at h
    obtain ⟨⟨E, M1⟩, e2, h⟩ := me_bd (show ((tX11_often_0 M p0).bind fun (E, M1) => (if E = xA then some ((1 : Int32), M1) else none)) = some (r, M') from h)
    by_cases c0 : E = xA
    · have h := me_ip c0 h
      obtain ⟨rfl, rfl⟩ := me_sp h
      subst c0
      refine me_callC X hz hRc hRs (nm := "java/lang/IllegalArgumentException") [.int p0] (ctTX11_often_0 hl (n := 425) (nt := 5) (by decide) (by decide) e2) kV_L_57 rfl rfl (Nat.le_of_ble_eq_true rfl) me_k0 (Nat.le_of_ble_eq_true rfl) (Nat.le_refl _) (Nat.le_of_ble_eq_true rfl) dL_often_4 tw_1017 [] [] ⟨0, 9, 12, 13⟩ htab (fun z hz => nomatch hz) (by decide) (by decide) tw_645 tw_660 12 rfl (fun q => ?_)
      have X1 := me_Xup (cells' := 1) (slots' := 6) X hRc hRs
      refine me_astore_n X1 (i := 3) [(3, .ref q), (0, .ref (ad 0)), (1, .int p0), (2, .ref (ad 424))] (Nat.le_of_ble_eq_true rfl) rfl dL_often_12 ?_
      refine me_iconst X1 dL_often_13 ic_1 ?_
      exact me_iretH X1 (by decide) (by decide) hr hlk dL_often_14
    · have h := me_in c0 h
      cases h
def hL_shares (M : me_M) (p0 : Int32) : Option (Int32 × me_M) :=
  ((mX11_shares_0 M p0).bind fun (v, M1) => some ((0 : Int32), me_o M1 0 v.toInt64)).or ((tX11_shares_0 M p0).bind fun (E, M1) => (if E = xA then some ((1 : Int32), M1) else none))
set_option maxRecDepth 100000 in
set_option maxHeartbeats 4000000 in
theorem chL_shares {l : Launch} (hl : l.stackTraces = false) {M : me_M} {p0 : Int32} {r : Int32} {M' : me_M} (h : hL_shares M p0 = some (r, M')) : me_Ch l yL_shares cL_shares 4 (some .int) [(0, 9, 12, 13)] 8 425 5 (fun ad => [.ref (ad 0), .int p0, .ref (ad 424)]) M r M' := by
  refine me_enterH (N0 := 425) RL rfl pl_RL (Nat.le_refl _) (by decide) (fun _ => Nat.le_of_ble_eq_true rfl) ?_
  intro p e R s m args below meth c D cA ad tys A X hr hlk hz htab hRc hRs
  refine me_sub (L' := [(0, .ref (ad 0)), (1, .int p0), (2, .ref (ad 424))]) [0, 1, 2] rfl ?_
  refine me_aload_n X (i := 2) 2 rfl dL_shares_0 ?_
  refine me_iconst X dL_shares_1 ic_0 ?_
  refine me_aload_n X (i := 0) 0 rfl dL_shares_2 ?_
  refine me_iload_n X (i := 1) 1 rfl dL_shares_3 ?_
  unfold hL_shares at h
  cases e1 : mX11_shares_0 M p0 with
  | some v =>
    obtain ⟨v, M1⟩ := v
    rw [e1] at h
    obtain ⟨rfl, rfl⟩ := me_sp (show some ((0 : Int32), me_o M1 0 v.toInt64) = some (r, M') from h)
    refine me_callVi X [.int p0] (ctX11_shares_0 (n := 425) (nt := 5) (by decide) (by decide) e1) kV_L_60 rfl rfl (Nat.le_of_ble_eq_true rfl) me_k0 (Nat.le_of_ble_eq_true rfl) (Nat.le_refl _) (Nat.le_of_ble_eq_true rfl) dL_shares_4 ?_
    refine me_i2l X dL_shares_7 ?_
    refine me_last X (by decide) dL_shares_8 ?_
    refine me_goto X 15 (by decide) dL_shares_9 ?_
    refine me_iconst X dL_shares_15 ic_0 ?_
    exact me_iretH X (by decide) (by decide) hr hlk dL_shares_16
  | none =>
    rw [e1] at h
    obtain ⟨⟨E, M1⟩, e2, h⟩ := me_bd (show ((tX11_shares_0 M p0).bind fun (E, M1) => (if E = xA then some ((1 : Int32), M1) else none)) = some (r, M') from h)
    by_cases c0 : E = xA
    · have h := me_ip c0 h
      obtain ⟨rfl, rfl⟩ := me_sp h
      subst c0
      refine me_callC X hz hRc hRs (nm := "java/lang/IllegalArgumentException") [.int p0] (ctTX11_shares_0 hl (n := 425) (nt := 5) (by decide) (by decide) e2) kV_L_60 rfl rfl (Nat.le_of_ble_eq_true rfl) me_k0 (Nat.le_of_ble_eq_true rfl) (Nat.le_refl _) (Nat.le_of_ble_eq_true rfl) dL_shares_4 tw_1033 [] [] ⟨0, 9, 12, 13⟩ htab (fun z hz => nomatch hz) (by decide) (by decide) tw_645 tw_660 12 rfl (fun q => ?_)
      have X1 := me_Xup (cells' := 1) (slots' := 6) X hRc hRs
      refine me_astore_n X1 (i := 3) [(3, .ref q), (0, .ref (ad 0)), (1, .int p0), (2, .ref (ad 424))] (Nat.le_of_ble_eq_true rfl) rfl dL_shares_12 ?_
      refine me_iconst X1 dL_shares_13 ic_1 ?_
      exact me_iretH X1 (by decide) (by decide) hr hlk dL_shares_14
    · have h := me_in c0 h
      cases h
def hL_digit (M : me_M) (p0 : Int32) (p1 : Int32) (p2 : Int32) : Option (Int32 × me_M) :=
  ((mX11_digit_0 M p0 p1 p2).bind fun v => some ((0 : Int32), me_o M 0 v.toInt64)).or ((tX11_digit_0 M p0 p1 p2).bind fun (E, M1) => (if E = xN then some ((1 : Int32), M1) else (if E = xA then some ((2 : Int32), M1) else none)))
set_option maxRecDepth 100000 in
set_option maxHeartbeats 4000000 in
theorem chL_digit {l : Launch} (hl : l.stackTraces = false) {M : me_M} {p0 : Int32} {p1 : Int32} {p2 : Int32} {r : Int32} {M' : me_M} (h : hL_digit M p0 p1 p2 = some (r, M')) : me_Ch l yL_digit cL_digit 6 (some .int) [(0, 12, 15, 33), (0, 12, 19, 13)] 8 425 5 (fun ad => [.ref (ad 0), .int p0, .int p1, .int p2, .ref (ad 424)]) M r M' := by
  refine me_enterH (N0 := 425) RL rfl pl_RL (Nat.le_refl _) (by decide) (fun _ => Nat.le_of_ble_eq_true rfl) ?_
  intro p e R s m args below meth c D cA ad tys A X hr hlk hz htab hRc hRs
  refine me_sub (L' := [(0, .ref (ad 0)), (1, .int p0), (2, .int p1), (3, .int p2), (4, .ref (ad 424))]) [0, 1, 2, 3, 4] rfl ?_
  refine me_aload X (i := 4) 4 rfl dL_digit_0 ?_
  refine me_iconst X dL_digit_2 ic_0 ?_
  refine me_aload_n X (i := 0) 0 rfl dL_digit_3 ?_
  refine me_iload_n X (i := 1) 1 rfl dL_digit_4 ?_
  refine me_iload_n X (i := 2) 2 rfl dL_digit_5 ?_
  refine me_iload_n X (i := 3) 3 rfl dL_digit_6 ?_
  unfold hL_digit at h
  cases e1 : mX11_digit_0 M p0 p1 p2 with
  | some v =>
    rw [e1] at h
    obtain ⟨rfl, rfl⟩ := me_sp (show some ((0 : Int32), me_o M 0 v.toInt64) = some (r, M') from h)
    refine me_callVi X [.int p0, .int p1, .int p2] (ctX11_digit_0 (n := 425) (nt := 5) (by decide) (by decide) e1) kV_L_63 rfl rfl (Nat.le_of_ble_eq_true rfl) me_k0 (Nat.le_of_ble_eq_true rfl) (Nat.le_refl _) (Nat.le_of_ble_eq_true rfl) dL_digit_7 ?_
    refine me_i2l X dL_digit_10 ?_
    refine me_last X (by decide) dL_digit_11 ?_
    refine me_goto X 23 (by decide) dL_digit_12 ?_
    refine me_iconst X dL_digit_23 ic_0 ?_
    exact me_iretH X (by decide) (by decide) hr hlk dL_digit_24
  | none =>
    rw [e1] at h
    obtain ⟨⟨E, M1⟩, e2, h⟩ := me_bd (show ((tX11_digit_0 M p0 p1 p2).bind fun (E, M1) => (if E = xN then some ((1 : Int32), M1) else (if E = xA then some ((2 : Int32), M1) else none))) = some (r, M') from h)
    by_cases c0 : E = xN
    · have h := me_ip c0 h
      obtain ⟨rfl, rfl⟩ := me_sp h
      subst c0
      refine me_callC X hz hRc hRs (nm := "java/util/NoSuchElementException") [.int p0, .int p1, .int p2] (ctTX11_digit_0 hl (n := 425) (nt := 5) (by decide) (by decide) e2) kV_L_63 rfl rfl (Nat.le_of_ble_eq_true rfl) me_k0 (Nat.le_of_ble_eq_true rfl) (Nat.le_refl _) (Nat.le_of_ble_eq_true rfl) dL_digit_7 tw_1040 [] [⟨0, 12, 19, 13⟩] ⟨0, 12, 15, 33⟩ htab (fun z hz => nomatch hz) (by decide) (by decide) tw_886 tw_901 15 rfl (fun q => ?_)
      have X1 := me_Xup (cells' := 1) (slots' := 6) X hRc hRs
      refine me_astore X1 (i := 5) [(5, .ref q), (0, .ref (ad 0)), (1, .int p0), (2, .int p1), (3, .int p2), (4, .ref (ad 424))] (Nat.le_of_ble_eq_true rfl) rfl dL_digit_15 ?_
      refine me_iconst X1 dL_digit_17 ic_1 ?_
      exact me_iretH X1 (by decide) (by decide) hr hlk dL_digit_18
    · have h := me_in c0 h
      by_cases c1 : E = xA
      · have h := me_ip c1 h
        obtain ⟨rfl, rfl⟩ := me_sp h
        subst c1
        refine me_callC X hz hRc hRs (nm := "java/lang/IllegalArgumentException") [.int p0, .int p1, .int p2] (ctTX11_digit_0 hl (n := 425) (nt := 5) (by decide) (by decide) e2) kV_L_63 rfl rfl (Nat.le_of_ble_eq_true rfl) me_k0 (Nat.le_of_ble_eq_true rfl) (Nat.le_refl _) (Nat.le_of_ble_eq_true rfl) dL_digit_7 tw_1040 [⟨0, 12, 15, 33⟩] [] ⟨0, 12, 19, 13⟩ htab (fun z hz9 => by rcases List.mem_singleton.mp hz9 with rfl; exact ⟨by decide, _, tw_886, hz.2.2.2.2.2.1⟩) (by decide) (by decide) tw_645 tw_660 19 rfl (fun q => ?_)
        have X1 := me_Xup (cells' := 1) (slots' := 6) X hRc hRs
        refine me_astore X1 (i := 5) [(5, .ref q), (0, .ref (ad 0)), (1, .int p0), (2, .int p1), (3, .int p2), (4, .ref (ad 424))] (Nat.le_of_ble_eq_true rfl) rfl dL_digit_19 ?_
        refine me_iconst X1 dL_digit_21 ic_2 ?_
        exact me_iretH X1 (by decide) (by decide) hr hlk dL_digit_22
      · have h := me_in c1 h
        cases h
def hL_search (M : me_M) (p0 : Int32) : Option (Int32 × me_M) :=
  ((mX11_search_0 M p0).bind fun (v, M1) => some ((0 : Int32), me_o M1 0 v.toInt64)).or ((tX11_search_0 M p0).bind fun (E, M1) => (if E = xA then some ((1 : Int32), M1) else none))
set_option maxRecDepth 100000 in
set_option maxHeartbeats 4000000 in
theorem chL_search {l : Launch} (hl : l.stackTraces = false) {M : me_M} {p0 : Int32} {r : Int32} {M' : me_M} (h : hL_search M p0 = some (r, M')) : me_Ch l yL_search cL_search 4 (some .int) [(0, 9, 12, 13)] 33 425 5 (fun ad => [.ref (ad 0), .int p0, .ref (ad 424)]) M r M' := by
  refine me_enterH (N0 := 425) RL rfl pl_RL (Nat.le_refl _) (by decide) (fun _ => Nat.le_of_ble_eq_true rfl) ?_
  intro p e R s m args below meth c D cA ad tys A X hr hlk hz htab hRc hRs
  refine me_sub (L' := [(0, .ref (ad 0)), (1, .int p0), (2, .ref (ad 424))]) [0, 1, 2] rfl ?_
  refine me_aload_n X (i := 2) 2 rfl dL_search_0 ?_
  refine me_iconst X dL_search_1 ic_0 ?_
  refine me_aload_n X (i := 0) 0 rfl dL_search_2 ?_
  refine me_iload_n X (i := 1) 1 rfl dL_search_3 ?_
  unfold hL_search at h
  cases e1 : mX11_search_0 M p0 with
  | some v =>
    obtain ⟨v, M1⟩ := v
    rw [e1] at h
    obtain ⟨rfl, rfl⟩ := me_sp (show some ((0 : Int32), me_o M1 0 v.toInt64) = some (r, M') from h)
    refine me_callVi X [.int p0] (ctX11_search_0 (n := 425) (nt := 5) (by decide) (by decide) e1) kV_L_66 rfl rfl (Nat.le_of_ble_eq_true rfl) me_k0 (Nat.le_of_ble_eq_true rfl) (Nat.le_refl _) (Nat.le_of_ble_eq_true rfl) dL_search_4 ?_
    refine me_i2l X dL_search_7 ?_
    refine me_last X (by decide) dL_search_8 ?_
    refine me_goto X 15 (by decide) dL_search_9 ?_
    refine me_iconst X dL_search_15 ic_0 ?_
    exact me_iretH X (by decide) (by decide) hr hlk dL_search_16
  | none =>
    rw [e1] at h
    obtain ⟨⟨E, M1⟩, e2, h⟩ := me_bd (show ((tX11_search_0 M p0).bind fun (E, M1) => (if E = xA then some ((1 : Int32), M1) else none)) = some (r, M') from h)
    by_cases c0 : E = xA
    · have h := me_ip c0 h
      obtain ⟨rfl, rfl⟩ := me_sp h
      subst c0
      refine me_callC X hz hRc hRs (nm := "java/lang/IllegalArgumentException") [.int p0] (ctTX11_search_0 hl (n := 425) (nt := 5) (by decide) (by decide) e2) kV_L_66 rfl rfl (Nat.le_of_ble_eq_true rfl) me_k0 (Nat.le_of_ble_eq_true rfl) (Nat.le_refl _) (Nat.le_of_ble_eq_true rfl) dL_search_4 tw_1051 [] [] ⟨0, 9, 12, 13⟩ htab (fun z hz => nomatch hz) (by decide) (by decide) tw_645 tw_660 12 rfl (fun q => ?_)
      have X1 := me_Xup (cells' := 1) (slots' := 6) X hRc hRs
      refine me_astore_n X1 (i := 3) [(3, .ref q), (0, .ref (ad 0)), (1, .int p0), (2, .ref (ad 424))] (Nat.le_of_ble_eq_true rfl) rfl dL_search_12 ?_
      refine me_iconst X1 dL_search_13 ic_1 ?_
      exact me_iretH X1 (by decide) (by decide) hr hlk dL_search_14
    · have h := me_in c0 h
      cases h
def hL_found (M : me_M) (p0 : Int32) (p1 : Int32) : Option (Int32 × me_M) :=
  ((mX11_found_0 M p0 p1).bind fun v => some ((0 : Int32), me_o M 0 v.toInt64)).or ((tX11_found_0 M p0 p1).bind fun (E, M1) => (if E = xN then some ((1 : Int32), M1) else (if E = xA then some ((2 : Int32), M1) else none)))
set_option maxRecDepth 100000 in
set_option maxHeartbeats 4000000 in
theorem chL_found {l : Launch} (hl : l.stackTraces = false) {M : me_M} {p0 : Int32} {p1 : Int32} {r : Int32} {M' : me_M} (h : hL_found M p0 p1 = some (r, M')) : me_Ch l yL_found cL_found 5 (some .int) [(0, 10, 13, 33), (0, 10, 17, 13)] 8 425 5 (fun ad => [.ref (ad 0), .int p0, .int p1, .ref (ad 424)]) M r M' := by
  refine me_enterH (N0 := 425) RL rfl pl_RL (Nat.le_refl _) (by decide) (fun _ => Nat.le_of_ble_eq_true rfl) ?_
  intro p e R s m args below meth c D cA ad tys A X hr hlk hz htab hRc hRs
  refine me_sub (L' := [(0, .ref (ad 0)), (1, .int p0), (2, .int p1), (3, .ref (ad 424))]) [0, 1, 2, 3] rfl ?_
  refine me_aload_n X (i := 3) 3 rfl dL_found_0 ?_
  refine me_iconst X dL_found_1 ic_0 ?_
  refine me_aload_n X (i := 0) 0 rfl dL_found_2 ?_
  refine me_iload_n X (i := 1) 1 rfl dL_found_3 ?_
  refine me_iload_n X (i := 2) 2 rfl dL_found_4 ?_
  unfold hL_found at h
  cases e1 : mX11_found_0 M p0 p1 with
  | some v =>
    rw [e1] at h
    obtain ⟨rfl, rfl⟩ := me_sp (show some ((0 : Int32), me_o M 0 v.toInt64) = some (r, M') from h)
    refine me_callVi X [.int p0, .int p1] (ctX11_found_0 (n := 425) (nt := 5) (by decide) (by decide) e1) kV_L_69 rfl rfl (Nat.le_of_ble_eq_true rfl) me_k0 (Nat.le_of_ble_eq_true rfl) (Nat.le_refl _) (Nat.le_of_ble_eq_true rfl) dL_found_5 ?_
    refine me_i2l X dL_found_8 ?_
    refine me_last X (by decide) dL_found_9 ?_
    refine me_goto X 21 (by decide) dL_found_10 ?_
    refine me_iconst X dL_found_21 ic_0 ?_
    exact me_iretH X (by decide) (by decide) hr hlk dL_found_22
  | none =>
    rw [e1] at h
    obtain ⟨⟨E, M1⟩, e2, h⟩ := me_bd (show ((tX11_found_0 M p0 p1).bind fun (E, M1) => (if E = xN then some ((1 : Int32), M1) else (if E = xA then some ((2 : Int32), M1) else none))) = some (r, M') from h)
    by_cases c0 : E = xN
    · have h := me_ip c0 h
      obtain ⟨rfl, rfl⟩ := me_sp h
      subst c0
      refine me_callC X hz hRc hRs (nm := "java/util/NoSuchElementException") [.int p0, .int p1] (ctTX11_found_0 hl (n := 425) (nt := 5) (by decide) (by decide) e2) kV_L_69 rfl rfl (Nat.le_of_ble_eq_true rfl) me_k0 (Nat.le_of_ble_eq_true rfl) (Nat.le_refl _) (Nat.le_of_ble_eq_true rfl) dL_found_5 tw_1102 [] [⟨0, 10, 17, 13⟩] ⟨0, 10, 13, 33⟩ htab (fun z hz => nomatch hz) (by decide) (by decide) tw_886 tw_901 13 rfl (fun q => ?_)
      have X1 := me_Xup (cells' := 1) (slots' := 6) X hRc hRs
      refine me_astore X1 (i := 4) [(4, .ref q), (0, .ref (ad 0)), (1, .int p0), (2, .int p1), (3, .ref (ad 424))] (Nat.le_of_ble_eq_true rfl) rfl dL_found_13 ?_
      refine me_iconst X1 dL_found_15 ic_1 ?_
      exact me_iretH X1 (by decide) (by decide) hr hlk dL_found_16
    · have h := me_in c0 h
      by_cases c1 : E = xA
      · have h := me_ip c1 h
        obtain ⟨rfl, rfl⟩ := me_sp h
        subst c1
        refine me_callC X hz hRc hRs (nm := "java/lang/IllegalArgumentException") [.int p0, .int p1] (ctTX11_found_0 hl (n := 425) (nt := 5) (by decide) (by decide) e2) kV_L_69 rfl rfl (Nat.le_of_ble_eq_true rfl) me_k0 (Nat.le_of_ble_eq_true rfl) (Nat.le_refl _) (Nat.le_of_ble_eq_true rfl) dL_found_5 tw_1102 [⟨0, 10, 13, 33⟩] [] ⟨0, 10, 17, 13⟩ htab (fun z hz9 => by rcases List.mem_singleton.mp hz9 with rfl; exact ⟨by decide, _, tw_886, hz.2.2.2.2.2.1⟩) (by decide) (by decide) tw_645 tw_660 17 rfl (fun q => ?_)
        have X1 := me_Xup (cells' := 1) (slots' := 6) X hRc hRs
        refine me_astore X1 (i := 4) [(4, .ref q), (0, .ref (ad 0)), (1, .int p0), (2, .int p1), (3, .ref (ad 424))] (Nat.le_of_ble_eq_true rfl) rfl dL_found_17 ?_
        refine me_iconst X1 dL_found_19 ic_2 ?_
        exact me_iretH X1 (by decide) (by decide) hr hlk dL_found_20
      · have h := me_in c1 h
        cases h
def hL_result (M : me_M) (p0 : Int32) : Option (Int32 × me_M) :=
  ((mX11_result_0 M p0).bind fun v => some ((0 : Int32), me_o M 0 v.toInt64)).or ((tX11_result_0 M p0).bind fun (E, M1) => (if E = xA then some ((1 : Int32), M1) else none))
set_option maxRecDepth 100000 in
set_option maxHeartbeats 4000000 in
theorem chL_result {l : Launch} (hl : l.stackTraces = false) {M : me_M} {p0 : Int32} {r : Int32} {M' : me_M} (h : hL_result M p0 = some (r, M')) : me_Ch l yL_result cL_result 4 (some .int) [(0, 9, 12, 13)] 8 425 5 (fun ad => [.ref (ad 0), .int p0, .ref (ad 424)]) M r M' := by
  refine me_enterH (N0 := 425) RL rfl pl_RL (Nat.le_refl _) (by decide) (fun _ => Nat.le_of_ble_eq_true rfl) ?_
  intro p e R s m args below meth c D cA ad tys A X hr hlk hz htab hRc hRs
  refine me_sub (L' := [(0, .ref (ad 0)), (1, .int p0), (2, .ref (ad 424))]) [0, 1, 2] rfl ?_
  refine me_aload_n X (i := 2) 2 rfl dL_result_0 ?_
  refine me_iconst X dL_result_1 ic_0 ?_
  refine me_aload_n X (i := 0) 0 rfl dL_result_2 ?_
  refine me_iload_n X (i := 1) 1 rfl dL_result_3 ?_
  unfold hL_result at h
  cases e1 : mX11_result_0 M p0 with
  | some v =>
    rw [e1] at h
    obtain ⟨rfl, rfl⟩ := me_sp (show some ((0 : Int32), me_o M 0 v.toInt64) = some (r, M') from h)
    refine me_callVi X [.int p0] (ctX11_result_0 (n := 425) (nt := 5) (by decide) (by decide) e1) kV_L_72 rfl rfl (Nat.le_of_ble_eq_true rfl) me_k0 (Nat.le_of_ble_eq_true rfl) (Nat.le_refl _) (Nat.le_of_ble_eq_true rfl) dL_result_4 ?_
    refine me_i2l X dL_result_7 ?_
    refine me_last X (by decide) dL_result_8 ?_
    refine me_goto X 15 (by decide) dL_result_9 ?_
    refine me_iconst X dL_result_15 ic_0 ?_
    exact me_iretH X (by decide) (by decide) hr hlk dL_result_16
  | none =>
    rw [e1] at h
    obtain ⟨⟨E, M1⟩, e2, h⟩ := me_bd (show ((tX11_result_0 M p0).bind fun (E, M1) => (if E = xA then some ((1 : Int32), M1) else none)) = some (r, M') from h)
    by_cases c0 : E = xA
    · have h := me_ip c0 h
      obtain ⟨rfl, rfl⟩ := me_sp h
      subst c0
      refine me_callC X hz hRc hRs (nm := "java/lang/IllegalArgumentException") [.int p0] (ctTX11_result_0 hl (n := 425) (nt := 5) (by decide) (by decide) e2) kV_L_72 rfl rfl (Nat.le_of_ble_eq_true rfl) me_k0 (Nat.le_of_ble_eq_true rfl) (Nat.le_refl _) (Nat.le_of_ble_eq_true rfl) dL_result_4 tw_1113 [] [] ⟨0, 9, 12, 13⟩ htab (fun z hz => nomatch hz) (by decide) (by decide) tw_645 tw_660 12 rfl (fun q => ?_)
      have X1 := me_Xup (cells' := 1) (slots' := 6) X hRc hRs
      refine me_astore_n X1 (i := 3) [(3, .ref q), (0, .ref (ad 0)), (1, .int p0), (2, .ref (ad 424))] (Nat.le_of_ble_eq_true rfl) rfl dL_result_12 ?_
      refine me_iconst X1 dL_result_13 ic_1 ?_
      exact me_iretH X1 (by decide) (by decide) hr hlk dL_result_14
    · have h := me_in c0 h
      cases h
def hL_ran (M : me_M) (p0 : Int32) (p1 : Int32) : Option (Int32 × me_M) :=
  ((mX11_ran_0 M p0 p1).bind fun (v, M1) => some ((0 : Int32), me_o M1 0 v.toInt64)).or ((tX11_ran_0 M p0 p1).bind fun (E, M1) => (if E = xN then some ((1 : Int32), M1) else (if E = xA then some ((2 : Int32), M1) else none)))
set_option maxRecDepth 100000 in
set_option maxHeartbeats 4000000 in
theorem chL_ran {l : Launch} (hl : l.stackTraces = false) {M : me_M} {p0 : Int32} {p1 : Int32} {r : Int32} {M' : me_M} (h : hL_ran M p0 p1 = some (r, M')) : me_Ch l yL_ran cL_ran 5 (some .int) [(0, 10, 13, 33), (0, 10, 17, 13)] 33 425 5 (fun ad => [.ref (ad 0), .int p0, .int p1, .ref (ad 424)]) M r M' := by
  refine me_enterH (N0 := 425) RL rfl pl_RL (Nat.le_refl _) (by decide) (fun _ => Nat.le_of_ble_eq_true rfl) ?_
  intro p e R s m args below meth c D cA ad tys A X hr hlk hz htab hRc hRs
  refine me_sub (L' := [(0, .ref (ad 0)), (1, .int p0), (2, .int p1), (3, .ref (ad 424))]) [0, 1, 2, 3] rfl ?_
  refine me_aload_n X (i := 3) 3 rfl dL_ran_0 ?_
  refine me_iconst X dL_ran_1 ic_0 ?_
  refine me_aload_n X (i := 0) 0 rfl dL_ran_2 ?_
  refine me_iload_n X (i := 1) 1 rfl dL_ran_3 ?_
  refine me_iload_n X (i := 2) 2 rfl dL_ran_4 ?_
  unfold hL_ran at h
  cases e1 : mX11_ran_0 M p0 p1 with
  | some v =>
    obtain ⟨v, M1⟩ := v
    rw [e1] at h
    obtain ⟨rfl, rfl⟩ := me_sp (show some ((0 : Int32), me_o M1 0 v.toInt64) = some (r, M') from h)
    refine me_callVi X [.int p0, .int p1] (ctX11_ran_0 (n := 425) (nt := 5) (by decide) (by decide) e1) kV_L_75 rfl rfl (Nat.le_of_ble_eq_true rfl) me_k0 (Nat.le_of_ble_eq_true rfl) (Nat.le_refl _) (Nat.le_of_ble_eq_true rfl) dL_ran_5 ?_
    refine me_i2l X dL_ran_8 ?_
    refine me_last X (by decide) dL_ran_9 ?_
    refine me_goto X 21 (by decide) dL_ran_10 ?_
    refine me_iconst X dL_ran_21 ic_0 ?_
    exact me_iretH X (by decide) (by decide) hr hlk dL_ran_22
  | none =>
    rw [e1] at h
    obtain ⟨⟨E, M1⟩, e2, h⟩ := me_bd (show ((tX11_ran_0 M p0 p1).bind fun (E, M1) => (if E = xN then some ((1 : Int32), M1) else (if E = xA then some ((2 : Int32), M1) else none))) = some (r, M') from h)
    by_cases c0 : E = xN
    · have h := me_ip c0 h
      obtain ⟨rfl, rfl⟩ := me_sp h
      subst c0
      refine me_callC X hz hRc hRs (nm := "java/util/NoSuchElementException") [.int p0, .int p1] (ctTX11_ran_0 hl (n := 425) (nt := 5) (by decide) (by decide) e2) kV_L_75 rfl rfl (Nat.le_of_ble_eq_true rfl) me_k0 (Nat.le_of_ble_eq_true rfl) (Nat.le_refl _) (Nat.le_of_ble_eq_true rfl) dL_ran_5 tw_1129 [] [⟨0, 10, 17, 13⟩] ⟨0, 10, 13, 33⟩ htab (fun z hz => nomatch hz) (by decide) (by decide) tw_886 tw_901 13 rfl (fun q => ?_)
      have X1 := me_Xup (cells' := 1) (slots' := 6) X hRc hRs
      refine me_astore X1 (i := 4) [(4, .ref q), (0, .ref (ad 0)), (1, .int p0), (2, .int p1), (3, .ref (ad 424))] (Nat.le_of_ble_eq_true rfl) rfl dL_ran_13 ?_
      refine me_iconst X1 dL_ran_15 ic_1 ?_
      exact me_iretH X1 (by decide) (by decide) hr hlk dL_ran_16
    · have h := me_in c0 h
      by_cases c1 : E = xA
      · have h := me_ip c1 h
        obtain ⟨rfl, rfl⟩ := me_sp h
        subst c1
        refine me_callC X hz hRc hRs (nm := "java/lang/IllegalArgumentException") [.int p0, .int p1] (ctTX11_ran_0 hl (n := 425) (nt := 5) (by decide) (by decide) e2) kV_L_75 rfl rfl (Nat.le_of_ble_eq_true rfl) me_k0 (Nat.le_of_ble_eq_true rfl) (Nat.le_refl _) (Nat.le_of_ble_eq_true rfl) dL_ran_5 tw_1129 [⟨0, 10, 13, 33⟩] [] ⟨0, 10, 17, 13⟩ htab (fun z hz9 => by rcases List.mem_singleton.mp hz9 with rfl; exact ⟨by decide, _, tw_886, hz.2.2.2.2.2.1⟩) (by decide) (by decide) tw_645 tw_660 17 rfl (fun q => ?_)
        have X1 := me_Xup (cells' := 1) (slots' := 6) X hRc hRs
        refine me_astore X1 (i := 4) [(4, .ref q), (0, .ref (ad 0)), (1, .int p0), (2, .int p1), (3, .ref (ad 424))] (Nat.le_of_ble_eq_true rfl) rfl dL_ran_17 ?_
        refine me_iconst X1 dL_ran_19 ic_2 ?_
        exact me_iretH X1 (by decide) (by decide) hr hlk dL_ran_20
      · have h := me_in c1 h
        cases h
def hL_matches (M : me_M) (p0 : Int32) (p1 : Int32) : Option (Int32 × me_M) :=
  ((mX11_matches_0 M p0 p1).bind fun (v, M1) => some ((0 : Int32), me_o M1 0 v.toInt64)).or ((tX11_matches_0 M p0 p1).bind fun (E, M1) => (if E = xA then some ((1 : Int32), M1) else none))
set_option maxRecDepth 100000 in
set_option maxHeartbeats 4000000 in
theorem chL_matches {l : Launch} (hl : l.stackTraces = false) {M : me_M} {p0 : Int32} {p1 : Int32} {r : Int32} {M' : me_M} (h : hL_matches M p0 p1 = some (r, M')) : me_Ch l yL_matches cL_matches 5 (some .int) [(0, 10, 13, 13)] 8 425 5 (fun ad => [.ref (ad 0), .int p0, .int p1, .ref (ad 424)]) M r M' := by
  refine me_enterH (N0 := 425) RL rfl pl_RL (Nat.le_refl _) (by decide) (fun _ => Nat.le_of_ble_eq_true rfl) ?_
  intro p e R s m args below meth c D cA ad tys A X hr hlk hz htab hRc hRs
  refine me_sub (L' := [(0, .ref (ad 0)), (1, .int p0), (2, .int p1), (3, .ref (ad 424))]) [0, 1, 2, 3] rfl ?_
  refine me_aload_n X (i := 3) 3 rfl dL_matches_0 ?_
  refine me_iconst X dL_matches_1 ic_0 ?_
  refine me_aload_n X (i := 0) 0 rfl dL_matches_2 ?_
  refine me_iload_n X (i := 1) 1 rfl dL_matches_3 ?_
  refine me_iload_n X (i := 2) 2 rfl dL_matches_4 ?_
  unfold hL_matches at h
  cases e1 : mX11_matches_0 M p0 p1 with
  | some v =>
    obtain ⟨v, M1⟩ := v
    rw [e1] at h
    obtain ⟨rfl, rfl⟩ := me_sp (show some ((0 : Int32), me_o M1 0 v.toInt64) = some (r, M') from h)
    refine me_callVi X [.int p0, .int p1] (ctX11_matches_0 (n := 425) (nt := 5) (by decide) (by decide) e1) kV_L_78 rfl rfl (Nat.le_of_ble_eq_true rfl) me_k0 (Nat.le_of_ble_eq_true rfl) (Nat.le_refl _) (Nat.le_of_ble_eq_true rfl) dL_matches_5 ?_
    refine me_i2l X dL_matches_8 ?_
    refine me_last X (by decide) dL_matches_9 ?_
    refine me_goto X 17 (by decide) dL_matches_10 ?_
    refine me_iconst X dL_matches_17 ic_0 ?_
    exact me_iretH X (by decide) (by decide) hr hlk dL_matches_18
  | none =>
    rw [e1] at h
    obtain ⟨⟨E, M1⟩, e2, h⟩ := me_bd (show ((tX11_matches_0 M p0 p1).bind fun (E, M1) => (if E = xA then some ((1 : Int32), M1) else none)) = some (r, M') from h)
    by_cases c0 : E = xA
    · have h := me_ip c0 h
      obtain ⟨rfl, rfl⟩ := me_sp h
      subst c0
      refine me_callC X hz hRc hRs (nm := "java/lang/IllegalArgumentException") [.int p0, .int p1] (ctTX11_matches_0 hl (n := 425) (nt := 5) (by decide) (by decide) e2) kV_L_78 rfl rfl (Nat.le_of_ble_eq_true rfl) me_k0 (Nat.le_of_ble_eq_true rfl) (Nat.le_refl _) (Nat.le_of_ble_eq_true rfl) dL_matches_5 tw_1136 [] [] ⟨0, 10, 13, 13⟩ htab (fun z hz => nomatch hz) (by decide) (by decide) tw_645 tw_660 13 rfl (fun q => ?_)
      have X1 := me_Xup (cells' := 1) (slots' := 6) X hRc hRs
      refine me_astore X1 (i := 4) [(4, .ref q), (0, .ref (ad 0)), (1, .int p0), (2, .int p1), (3, .ref (ad 424))] (Nat.le_of_ble_eq_true rfl) rfl dL_matches_13 ?_
      refine me_iconst X1 dL_matches_15 ic_1 ?_
      exact me_iretH X1 (by decide) (by decide) hr hlk dL_matches_16
    · have h := me_in c0 h
      cases h
def hL_match (M : me_M) (p0 : Int32) (p1 : Int32) : Option (Int32 × me_M) :=
  ((mX11_match_0 M p0 p1).bind fun v => some ((0 : Int32), me_o M 0 v.toInt64)).or ((tX11_match_0 M p0 p1).bind fun (E, M1) => (if E = xN then some ((1 : Int32), M1) else (if E = xA then some ((2 : Int32), M1) else none)))
set_option maxRecDepth 100000 in
set_option maxHeartbeats 4000000 in
theorem chL_match {l : Launch} (hl : l.stackTraces = false) {M : me_M} {p0 : Int32} {p1 : Int32} {r : Int32} {M' : me_M} (h : hL_match M p0 p1 = some (r, M')) : me_Ch l yL_match cL_match 5 (some .int) [(0, 10, 13, 33), (0, 10, 17, 13)] 8 425 5 (fun ad => [.ref (ad 0), .int p0, .int p1, .ref (ad 424)]) M r M' := by
  refine me_enterH (N0 := 425) RL rfl pl_RL (Nat.le_refl _) (by decide) (fun _ => Nat.le_of_ble_eq_true rfl) ?_
  intro p e R s m args below meth c D cA ad tys A X hr hlk hz htab hRc hRs
  refine me_sub (L' := [(0, .ref (ad 0)), (1, .int p0), (2, .int p1), (3, .ref (ad 424))]) [0, 1, 2, 3] rfl ?_
  refine me_aload_n X (i := 3) 3 rfl dL_match_0 ?_
  refine me_iconst X dL_match_1 ic_0 ?_
  refine me_aload_n X (i := 0) 0 rfl dL_match_2 ?_
  refine me_iload_n X (i := 1) 1 rfl dL_match_3 ?_
  refine me_iload_n X (i := 2) 2 rfl dL_match_4 ?_
  unfold hL_match at h
  cases e1 : mX11_match_0 M p0 p1 with
  | some v =>
    rw [e1] at h
    obtain ⟨rfl, rfl⟩ := me_sp (show some ((0 : Int32), me_o M 0 v.toInt64) = some (r, M') from h)
    refine me_callVi X [.int p0, .int p1] (ctX11_match_0 (n := 425) (nt := 5) (by decide) (by decide) e1) kV_L_81 rfl rfl (Nat.le_of_ble_eq_true rfl) me_k0 (Nat.le_of_ble_eq_true rfl) (Nat.le_refl _) (Nat.le_of_ble_eq_true rfl) dL_match_5 ?_
    refine me_i2l X dL_match_8 ?_
    refine me_last X (by decide) dL_match_9 ?_
    refine me_goto X 21 (by decide) dL_match_10 ?_
    refine me_iconst X dL_match_21 ic_0 ?_
    exact me_iretH X (by decide) (by decide) hr hlk dL_match_22
  | none =>
    rw [e1] at h
    obtain ⟨⟨E, M1⟩, e2, h⟩ := me_bd (show ((tX11_match_0 M p0 p1).bind fun (E, M1) => (if E = xN then some ((1 : Int32), M1) else (if E = xA then some ((2 : Int32), M1) else none))) = some (r, M') from h)
    by_cases c0 : E = xN
    · have h := me_ip c0 h
      obtain ⟨rfl, rfl⟩ := me_sp h
      subst c0
      refine me_callC X hz hRc hRs (nm := "java/util/NoSuchElementException") [.int p0, .int p1] (ctTX11_match_0 hl (n := 425) (nt := 5) (by decide) (by decide) e2) kV_L_81 rfl rfl (Nat.le_of_ble_eq_true rfl) me_k0 (Nat.le_of_ble_eq_true rfl) (Nat.le_refl _) (Nat.le_of_ble_eq_true rfl) dL_match_5 tw_1167 [] [⟨0, 10, 17, 13⟩] ⟨0, 10, 13, 33⟩ htab (fun z hz => nomatch hz) (by decide) (by decide) tw_886 tw_901 13 rfl (fun q => ?_)
      have X1 := me_Xup (cells' := 1) (slots' := 6) X hRc hRs
      refine me_astore X1 (i := 4) [(4, .ref q), (0, .ref (ad 0)), (1, .int p0), (2, .int p1), (3, .ref (ad 424))] (Nat.le_of_ble_eq_true rfl) rfl dL_match_13 ?_
      refine me_iconst X1 dL_match_15 ic_1 ?_
      exact me_iretH X1 (by decide) (by decide) hr hlk dL_match_16
    · have h := me_in c0 h
      by_cases c1 : E = xA
      · have h := me_ip c1 h
        obtain ⟨rfl, rfl⟩ := me_sp h
        subst c1
        refine me_callC X hz hRc hRs (nm := "java/lang/IllegalArgumentException") [.int p0, .int p1] (ctTX11_match_0 hl (n := 425) (nt := 5) (by decide) (by decide) e2) kV_L_81 rfl rfl (Nat.le_of_ble_eq_true rfl) me_k0 (Nat.le_of_ble_eq_true rfl) (Nat.le_refl _) (Nat.le_of_ble_eq_true rfl) dL_match_5 tw_1167 [⟨0, 10, 13, 33⟩] [] ⟨0, 10, 17, 13⟩ htab (fun z hz9 => by rcases List.mem_singleton.mp hz9 with rfl; exact ⟨by decide, _, tw_886, hz.2.2.2.2.2.1⟩) (by decide) (by decide) tw_645 tw_660 17 rfl (fun q => ?_)
        have X1 := me_Xup (cells' := 1) (slots' := 6) X hRc hRs
        refine me_astore X1 (i := 4) [(4, .ref q), (0, .ref (ad 0)), (1, .int p0), (2, .int p1), (3, .ref (ad 424))] (Nat.le_of_ble_eq_true rfl) rfl dL_match_17 ?_
        refine me_iconst X1 dL_match_19 ic_2 ?_
        exact me_iretH X1 (by decide) (by decide) hr hlk dL_match_20
      · have h := me_in c1 h
        cases h
def hL_maximals (M : me_M) (p0 : Int32) (p1 : Int32) : Option (Int32 × me_M) :=
  ((mX11_maximals_0 M p0 p1).bind fun v => some ((0 : Int32), me_o M 0 v.toInt64)).or ((tX11_maximals_0 M p0 p1).bind fun (E, M1) => (if E = xA then some ((1 : Int32), M1) else none))
set_option maxRecDepth 100000 in
set_option maxHeartbeats 4000000 in
theorem chL_maximals {l : Launch} (hl : l.stackTraces = false) {M : me_M} {p0 : Int32} {p1 : Int32} {r : Int32} {M' : me_M} (h : hL_maximals M p0 p1 = some (r, M')) : me_Ch l yL_maximals cL_maximals 5 (some .int) [(0, 10, 13, 13)] 8 425 5 (fun ad => [.ref (ad 0), .int p0, .int p1, .ref (ad 424)]) M r M' := by
  refine me_enterH (N0 := 425) RL rfl pl_RL (Nat.le_refl _) (by decide) (fun _ => Nat.le_of_ble_eq_true rfl) ?_
  intro p e R s m args below meth c D cA ad tys A X hr hlk hz htab hRc hRs
  refine me_sub (L' := [(0, .ref (ad 0)), (1, .int p0), (2, .int p1), (3, .ref (ad 424))]) [0, 1, 2, 3] rfl ?_
  refine me_aload_n X (i := 3) 3 rfl dL_maximals_0 ?_
  refine me_iconst X dL_maximals_1 ic_0 ?_
  refine me_aload_n X (i := 0) 0 rfl dL_maximals_2 ?_
  refine me_iload_n X (i := 1) 1 rfl dL_maximals_3 ?_
  refine me_iload_n X (i := 2) 2 rfl dL_maximals_4 ?_
  unfold hL_maximals at h
  cases e1 : mX11_maximals_0 M p0 p1 with
  | some v =>
    rw [e1] at h
    obtain ⟨rfl, rfl⟩ := me_sp (show some ((0 : Int32), me_o M 0 v.toInt64) = some (r, M') from h)
    refine me_callVi X [.int p0, .int p1] (ctX11_maximals_0 (n := 425) (nt := 5) (by decide) (by decide) e1) kV_L_84 rfl rfl (Nat.le_of_ble_eq_true rfl) me_k0 (Nat.le_of_ble_eq_true rfl) (Nat.le_refl _) (Nat.le_of_ble_eq_true rfl) dL_maximals_5 ?_
    refine me_i2l X dL_maximals_8 ?_
    refine me_last X (by decide) dL_maximals_9 ?_
    refine me_goto X 17 (by decide) dL_maximals_10 ?_
    refine me_iconst X dL_maximals_17 ic_0 ?_
    exact me_iretH X (by decide) (by decide) hr hlk dL_maximals_18
  | none =>
    rw [e1] at h
    obtain ⟨⟨E, M1⟩, e2, h⟩ := me_bd (show ((tX11_maximals_0 M p0 p1).bind fun (E, M1) => (if E = xA then some ((1 : Int32), M1) else none)) = some (r, M') from h)
    by_cases c0 : E = xA
    · have h := me_ip c0 h
      obtain ⟨rfl, rfl⟩ := me_sp h
      subst c0
      refine me_callC X hz hRc hRs (nm := "java/lang/IllegalArgumentException") [.int p0, .int p1] (ctTX11_maximals_0 hl (n := 425) (nt := 5) (by decide) (by decide) e2) kV_L_84 rfl rfl (Nat.le_of_ble_eq_true rfl) me_k0 (Nat.le_of_ble_eq_true rfl) (Nat.le_refl _) (Nat.le_of_ble_eq_true rfl) dL_maximals_5 tw_1174 [] [] ⟨0, 10, 13, 13⟩ htab (fun z hz => nomatch hz) (by decide) (by decide) tw_645 tw_660 13 rfl (fun q => ?_)
      have X1 := me_Xup (cells' := 1) (slots' := 6) X hRc hRs
      refine me_astore X1 (i := 4) [(4, .ref q), (0, .ref (ad 0)), (1, .int p0), (2, .int p1), (3, .ref (ad 424))] (Nat.le_of_ble_eq_true rfl) rfl dL_maximals_13 ?_
      refine me_iconst X1 dL_maximals_15 ic_1 ?_
      exact me_iretH X1 (by decide) (by decide) hr hlk dL_maximals_16
    · have h := me_in c0 h
      cases h
def hL_maximal (M : me_M) (p0 : Int32) (p1 : Int32) (p2 : Int32) (p3 : Int32) : Option (Int32 × me_M) :=
  ((mX11_maximal_0 M p0 p1 p2 p3).bind fun v => some ((0 : Int32), me_o M 0 v.toInt64)).or ((tX11_maximal_0 M p0 p1 p2 p3).bind fun (E, M1) => (if E = xN then some ((1 : Int32), M1) else (if E = xA then some ((2 : Int32), M1) else none)))
set_option maxRecDepth 100000 in
set_option maxHeartbeats 4000000 in
theorem chL_maximal {l : Launch} (hl : l.stackTraces = false) {M : me_M} {p0 : Int32} {p1 : Int32} {p2 : Int32} {p3 : Int32} {r : Int32} {M' : me_M} (h : hL_maximal M p0 p1 p2 p3 = some (r, M')) : me_Ch l yL_maximal cL_maximal 7 (some .int) [(0, 14, 17, 33), (0, 14, 21, 13)] 8 425 5 (fun ad => [.ref (ad 0), .int p0, .int p1, .int p2, .int p3, .ref (ad 424)]) M r M' := by
  refine me_enterH (N0 := 425) RL rfl pl_RL (Nat.le_refl _) (by decide) (fun _ => Nat.le_of_ble_eq_true rfl) ?_
  intro p e R s m args below meth c D cA ad tys A X hr hlk hz htab hRc hRs
  refine me_sub (L' := [(0, .ref (ad 0)), (1, .int p0), (2, .int p1), (3, .int p2), (4, .int p3), (5, .ref (ad 424))]) [0, 1, 2, 3, 4, 5] rfl ?_
  refine me_aload X (i := 5) 5 rfl dL_maximal_0 ?_
  refine me_iconst X dL_maximal_2 ic_0 ?_
  refine me_aload_n X (i := 0) 0 rfl dL_maximal_3 ?_
  refine me_iload_n X (i := 1) 1 rfl dL_maximal_4 ?_
  refine me_iload_n X (i := 2) 2 rfl dL_maximal_5 ?_
  refine me_iload_n X (i := 3) 3 rfl dL_maximal_6 ?_
  refine me_iload X (i := 4) 4 rfl dL_maximal_7 ?_
  unfold hL_maximal at h
  cases e1 : mX11_maximal_0 M p0 p1 p2 p3 with
  | some v =>
    rw [e1] at h
    obtain ⟨rfl, rfl⟩ := me_sp (show some ((0 : Int32), me_o M 0 v.toInt64) = some (r, M') from h)
    refine me_callVi X [.int p0, .int p1, .int p2, .int p3] (ctX11_maximal_0 (n := 425) (nt := 5) (by decide) (by decide) e1) kV_L_87 rfl rfl (Nat.le_of_ble_eq_true rfl) me_k0 (Nat.le_of_ble_eq_true rfl) (Nat.le_refl _) (Nat.le_of_ble_eq_true rfl) dL_maximal_9 ?_
    refine me_i2l X dL_maximal_12 ?_
    refine me_last X (by decide) dL_maximal_13 ?_
    refine me_goto X 25 (by decide) dL_maximal_14 ?_
    refine me_iconst X dL_maximal_25 ic_0 ?_
    exact me_iretH X (by decide) (by decide) hr hlk dL_maximal_26
  | none =>
    rw [e1] at h
    obtain ⟨⟨E, M1⟩, e2, h⟩ := me_bd (show ((tX11_maximal_0 M p0 p1 p2 p3).bind fun (E, M1) => (if E = xN then some ((1 : Int32), M1) else (if E = xA then some ((2 : Int32), M1) else none))) = some (r, M') from h)
    by_cases c0 : E = xN
    · have h := me_ip c0 h
      obtain ⟨rfl, rfl⟩ := me_sp h
      subst c0
      refine me_callC X hz hRc hRs (nm := "java/util/NoSuchElementException") [.int p0, .int p1, .int p2, .int p3] (ctTX11_maximal_0 hl (n := 425) (nt := 5) (by decide) (by decide) e2) kV_L_87 rfl rfl (Nat.le_of_ble_eq_true rfl) me_k0 (Nat.le_of_ble_eq_true rfl) (Nat.le_refl _) (Nat.le_of_ble_eq_true rfl) dL_maximal_9 tw_1188 [] [⟨0, 14, 21, 13⟩] ⟨0, 14, 17, 33⟩ htab (fun z hz => nomatch hz) (by decide) (by decide) tw_886 tw_901 17 rfl (fun q => ?_)
      have X1 := me_Xup (cells' := 1) (slots' := 6) X hRc hRs
      refine me_astore X1 (i := 6) [(6, .ref q), (0, .ref (ad 0)), (1, .int p0), (2, .int p1), (3, .int p2), (4, .int p3), (5, .ref (ad 424))] (Nat.le_of_ble_eq_true rfl) rfl dL_maximal_17 ?_
      refine me_iconst X1 dL_maximal_19 ic_1 ?_
      exact me_iretH X1 (by decide) (by decide) hr hlk dL_maximal_20
    · have h := me_in c0 h
      by_cases c1 : E = xA
      · have h := me_ip c1 h
        obtain ⟨rfl, rfl⟩ := me_sp h
        subst c1
        refine me_callC X hz hRc hRs (nm := "java/lang/IllegalArgumentException") [.int p0, .int p1, .int p2, .int p3] (ctTX11_maximal_0 hl (n := 425) (nt := 5) (by decide) (by decide) e2) kV_L_87 rfl rfl (Nat.le_of_ble_eq_true rfl) me_k0 (Nat.le_of_ble_eq_true rfl) (Nat.le_refl _) (Nat.le_of_ble_eq_true rfl) dL_maximal_9 tw_1188 [⟨0, 14, 17, 33⟩] [] ⟨0, 14, 21, 13⟩ htab (fun z hz9 => by rcases List.mem_singleton.mp hz9 with rfl; exact ⟨by decide, _, tw_886, hz.2.2.2.2.2.1⟩) (by decide) (by decide) tw_645 tw_660 21 rfl (fun q => ?_)
        have X1 := me_Xup (cells' := 1) (slots' := 6) X hRc hRs
        refine me_astore X1 (i := 6) [(6, .ref q), (0, .ref (ad 0)), (1, .int p0), (2, .int p1), (3, .int p2), (4, .int p3), (5, .ref (ad 424))] (Nat.le_of_ble_eq_true rfl) rfl dL_maximal_21 ?_
        refine me_iconst X1 dL_maximal_23 ic_2 ?_
        exact me_iretH X1 (by decide) (by decide) hr hlk dL_maximal_24
      · have h := me_in c1 h
        cases h
def hL_strings (M : me_M) (p0 : Int32) : Option (Int32 × me_M) :=
  ((mX11_strings_0 M p0).bind fun v => some ((0 : Int32), me_o M 0 v.toInt64)).or ((tX11_strings_0 M p0).bind fun (E, M1) => (if E = xA then some ((1 : Int32), M1) else none))
set_option maxRecDepth 100000 in
set_option maxHeartbeats 4000000 in
theorem chL_strings {l : Launch} (hl : l.stackTraces = false) {M : me_M} {p0 : Int32} {r : Int32} {M' : me_M} (h : hL_strings M p0 = some (r, M')) : me_Ch l yL_strings cL_strings 4 (some .int) [(0, 9, 12, 13)] 8 425 5 (fun ad => [.ref (ad 0), .int p0, .ref (ad 424)]) M r M' := by
  refine me_enterH (N0 := 425) RL rfl pl_RL (Nat.le_refl _) (by decide) (fun _ => Nat.le_of_ble_eq_true rfl) ?_
  intro p e R s m args below meth c D cA ad tys A X hr hlk hz htab hRc hRs
  refine me_sub (L' := [(0, .ref (ad 0)), (1, .int p0), (2, .ref (ad 424))]) [0, 1, 2] rfl ?_
  refine me_aload_n X (i := 2) 2 rfl dL_strings_0 ?_
  refine me_iconst X dL_strings_1 ic_0 ?_
  refine me_aload_n X (i := 0) 0 rfl dL_strings_2 ?_
  refine me_iload_n X (i := 1) 1 rfl dL_strings_3 ?_
  unfold hL_strings at h
  cases e1 : mX11_strings_0 M p0 with
  | some v =>
    rw [e1] at h
    obtain ⟨rfl, rfl⟩ := me_sp (show some ((0 : Int32), me_o M 0 v.toInt64) = some (r, M') from h)
    refine me_callVi X [.int p0] (ctX11_strings_0 (n := 425) (nt := 5) (by decide) (by decide) e1) kV_L_91 rfl rfl (Nat.le_of_ble_eq_true rfl) me_k0 (Nat.le_of_ble_eq_true rfl) (Nat.le_refl _) (Nat.le_of_ble_eq_true rfl) dL_strings_4 ?_
    refine me_i2l X dL_strings_7 ?_
    refine me_last X (by decide) dL_strings_8 ?_
    refine me_goto X 15 (by decide) dL_strings_9 ?_
    refine me_iconst X dL_strings_15 ic_0 ?_
    exact me_iretH X (by decide) (by decide) hr hlk dL_strings_16
  | none =>
    rw [e1] at h
    obtain ⟨⟨E, M1⟩, e2, h⟩ := me_bd (show ((tX11_strings_0 M p0).bind fun (E, M1) => (if E = xA then some ((1 : Int32), M1) else none)) = some (r, M') from h)
    by_cases c0 : E = xA
    · have h := me_ip c0 h
      obtain ⟨rfl, rfl⟩ := me_sp h
      subst c0
      refine me_callC X hz hRc hRs (nm := "java/lang/IllegalArgumentException") [.int p0] (ctTX11_strings_0 hl (n := 425) (nt := 5) (by decide) (by decide) e2) kV_L_91 rfl rfl (Nat.le_of_ble_eq_true rfl) me_k0 (Nat.le_of_ble_eq_true rfl) (Nat.le_refl _) (Nat.le_of_ble_eq_true rfl) dL_strings_4 tw_1203 [] [] ⟨0, 9, 12, 13⟩ htab (fun z hz => nomatch hz) (by decide) (by decide) tw_645 tw_660 12 rfl (fun q => ?_)
      have X1 := me_Xup (cells' := 1) (slots' := 6) X hRc hRs
      refine me_astore_n X1 (i := 3) [(3, .ref q), (0, .ref (ad 0)), (1, .int p0), (2, .ref (ad 424))] (Nat.le_of_ble_eq_true rfl) rfl dL_strings_12 ?_
      refine me_iconst X1 dL_strings_13 ic_1 ?_
      exact me_iretH X1 (by decide) (by decide) hr hlk dL_strings_14
    · have h := me_in c0 h
      cases h
def hL_repeat (M : me_M) (p0 : Int32) : Option (Int32 × me_M) :=
  ((mX11_repeat_0 M p0).bind fun v => some ((0 : Int32), me_o M 0 v.toInt64)).or ((tX11_repeat_0 M p0).bind fun (E, M1) => (if E = xA then some ((1 : Int32), M1) else none))
set_option maxRecDepth 100000 in
set_option maxHeartbeats 4000000 in
theorem chL_repeat {l : Launch} (hl : l.stackTraces = false) {M : me_M} {p0 : Int32} {r : Int32} {M' : me_M} (h : hL_repeat M p0 = some (r, M')) : me_Ch l yL_repeat cL_repeat 4 (some .int) [(0, 9, 12, 13)] 8 425 5 (fun ad => [.ref (ad 0), .int p0, .ref (ad 424)]) M r M' := by
  refine me_enterH (N0 := 425) RL rfl pl_RL (Nat.le_refl _) (by decide) (fun _ => Nat.le_of_ble_eq_true rfl) ?_
  intro p e R s m args below meth c D cA ad tys A X hr hlk hz htab hRc hRs
  refine me_sub (L' := [(0, .ref (ad 0)), (1, .int p0), (2, .ref (ad 424))]) [0, 1, 2] rfl ?_
  refine me_aload_n X (i := 2) 2 rfl dL_repeat_0 ?_
  refine me_iconst X dL_repeat_1 ic_0 ?_
  refine me_aload_n X (i := 0) 0 rfl dL_repeat_2 ?_
  refine me_iload_n X (i := 1) 1 rfl dL_repeat_3 ?_
  unfold hL_repeat at h
  cases e1 : mX11_repeat_0 M p0 with
  | some v =>
    rw [e1] at h
    obtain ⟨rfl, rfl⟩ := me_sp (show some ((0 : Int32), me_o M 0 v.toInt64) = some (r, M') from h)
    refine me_callVi X [.int p0] (ctX11_repeat_0 (n := 425) (nt := 5) (by decide) (by decide) e1) kV_L_94 rfl rfl (Nat.le_of_ble_eq_true rfl) me_k0 (Nat.le_of_ble_eq_true rfl) (Nat.le_refl _) (Nat.le_of_ble_eq_true rfl) dL_repeat_4 ?_
    refine me_i2l X dL_repeat_7 ?_
    refine me_last X (by decide) dL_repeat_8 ?_
    refine me_goto X 15 (by decide) dL_repeat_9 ?_
    refine me_iconst X dL_repeat_15 ic_0 ?_
    exact me_iretH X (by decide) (by decide) hr hlk dL_repeat_16
  | none =>
    rw [e1] at h
    obtain ⟨⟨E, M1⟩, e2, h⟩ := me_bd (show ((tX11_repeat_0 M p0).bind fun (E, M1) => (if E = xA then some ((1 : Int32), M1) else none)) = some (r, M') from h)
    by_cases c0 : E = xA
    · have h := me_ip c0 h
      obtain ⟨rfl, rfl⟩ := me_sp h
      subst c0
      refine me_callC X hz hRc hRs (nm := "java/lang/IllegalArgumentException") [.int p0] (ctTX11_repeat_0 hl (n := 425) (nt := 5) (by decide) (by decide) e2) kV_L_94 rfl rfl (Nat.le_of_ble_eq_true rfl) me_k0 (Nat.le_of_ble_eq_true rfl) (Nat.le_refl _) (Nat.le_of_ble_eq_true rfl) dL_repeat_4 tw_1214 [] [] ⟨0, 9, 12, 13⟩ htab (fun z hz => nomatch hz) (by decide) (by decide) tw_645 tw_660 12 rfl (fun q => ?_)
      have X1 := me_Xup (cells' := 1) (slots' := 6) X hRc hRs
      refine me_astore_n X1 (i := 3) [(3, .ref q), (0, .ref (ad 0)), (1, .int p0), (2, .ref (ad 424))] (Nat.le_of_ble_eq_true rfl) rfl dL_repeat_12 ?_
      refine me_iconst X1 dL_repeat_13 ic_1 ?_
      exact me_iretH X1 (by decide) (by decide) hr hlk dL_repeat_14
    · have h := me_in c0 h
      cases h
def hL_unique (M : me_M) (p0 : Int32) : Option (Int32 × me_M) :=
  ((mX11_unique_0 M p0).bind fun v => some ((0 : Int32), me_o M 0 v.toInt64)).or ((tX11_unique_0 M p0).bind fun (E, M1) => (if E = xN then some ((1 : Int32), M1) else none))
set_option maxRecDepth 100000 in
set_option maxHeartbeats 4000000 in
theorem chL_unique {l : Launch} (hl : l.stackTraces = false) {M : me_M} {p0 : Int32} {r : Int32} {M' : me_M} (h : hL_unique M p0 = some (r, M')) : me_Ch l yL_unique cL_unique 4 (some .int) [(0, 9, 12, 33)] 8 425 5 (fun ad => [.ref (ad 0), .int p0, .ref (ad 424)]) M r M' := by
  refine me_enterH (N0 := 425) RL rfl pl_RL (Nat.le_refl _) (by decide) (fun _ => Nat.le_of_ble_eq_true rfl) ?_
  intro p e R s m args below meth c D cA ad tys A X hr hlk hz htab hRc hRs
  refine me_sub (L' := [(0, .ref (ad 0)), (1, .int p0), (2, .ref (ad 424))]) [0, 1, 2] rfl ?_
  refine me_aload_n X (i := 2) 2 rfl dL_unique_0 ?_
  refine me_iconst X dL_unique_1 ic_0 ?_
  refine me_aload_n X (i := 0) 0 rfl dL_unique_2 ?_
  refine me_iload_n X (i := 1) 1 rfl dL_unique_3 ?_
  unfold hL_unique at h
  cases e1 : mX11_unique_0 M p0 with
  | some v =>
    rw [e1] at h
    obtain ⟨rfl, rfl⟩ := me_sp (show some ((0 : Int32), me_o M 0 v.toInt64) = some (r, M') from h)
    refine me_callVi X [.int p0] (ctX11_unique_0 (n := 425) (nt := 5) (by decide) (by decide) e1) kV_L_97 rfl rfl (Nat.le_of_ble_eq_true rfl) me_k0 (Nat.le_of_ble_eq_true rfl) (Nat.le_refl _) (Nat.le_of_ble_eq_true rfl) dL_unique_4 ?_
    refine me_i2l X dL_unique_7 ?_
    refine me_last X (by decide) dL_unique_8 ?_
    refine me_goto X 15 (by decide) dL_unique_9 ?_
    refine me_iconst X dL_unique_15 ic_0 ?_
    exact me_iretH X (by decide) (by decide) hr hlk dL_unique_16
  | none =>
    rw [e1] at h
    obtain ⟨⟨E, M1⟩, e2, h⟩ := me_bd (show ((tX11_unique_0 M p0).bind fun (E, M1) => (if E = xN then some ((1 : Int32), M1) else none)) = some (r, M') from h)
    by_cases c0 : E = xN
    · have h := me_ip c0 h
      obtain ⟨rfl, rfl⟩ := me_sp h
      subst c0
      refine me_callC X hz hRc hRs (nm := "java/util/NoSuchElementException") [.int p0] (ctTX11_unique_0 hl (n := 425) (nt := 5) (by decide) (by decide) e2) kV_L_97 rfl rfl (Nat.le_of_ble_eq_true rfl) me_k0 (Nat.le_of_ble_eq_true rfl) (Nat.le_refl _) (Nat.le_of_ble_eq_true rfl) dL_unique_4 tw_1238 [] [] ⟨0, 9, 12, 33⟩ htab (fun z hz => nomatch hz) (by decide) (by decide) tw_886 tw_901 12 rfl (fun q => ?_)
      have X1 := me_Xup (cells' := 1) (slots' := 6) X hRc hRs
      refine me_astore_n X1 (i := 3) [(3, .ref q), (0, .ref (ad 0)), (1, .int p0), (2, .ref (ad 424))] (Nat.le_of_ble_eq_true rfl) rfl dL_unique_12 ?_
      refine me_iconst X1 dL_unique_13 ic_1 ?_
      exact me_iretH X1 (by decide) (by decide) hr hlk dL_unique_14
    · have h := me_in c0 h
      cases h
def hL_around (M : me_M) (p0 : Int32) (p1 : Int32) : Option (Int32 × me_M) :=
  ((mX11_around_0 M p0 p1).bind fun v => some ((0 : Int32), me_o M 0 v.toInt64)).or ((tX11_around_0 M p0 p1).bind fun (E, M1) => (if E = xN then some ((1 : Int32), M1) else (if E = xA then some ((2 : Int32), M1) else none)))
set_option maxRecDepth 100000 in
set_option maxHeartbeats 4000000 in
theorem chL_around {l : Launch} (hl : l.stackTraces = false) {M : me_M} {p0 : Int32} {p1 : Int32} {r : Int32} {M' : me_M} (h : hL_around M p0 p1 = some (r, M')) : me_Ch l yL_around cL_around 5 (some .int) [(0, 10, 13, 33), (0, 10, 17, 13)] 8 425 5 (fun ad => [.ref (ad 0), .int p0, .int p1, .ref (ad 424)]) M r M' := by
  refine me_enterH (N0 := 425) RL rfl pl_RL (Nat.le_refl _) (by decide) (fun _ => Nat.le_of_ble_eq_true rfl) ?_
  intro p e R s m args below meth c D cA ad tys A X hr hlk hz htab hRc hRs
  refine me_sub (L' := [(0, .ref (ad 0)), (1, .int p0), (2, .int p1), (3, .ref (ad 424))]) [0, 1, 2, 3] rfl ?_
  refine me_aload_n X (i := 3) 3 rfl dL_around_0 ?_
  refine me_iconst X dL_around_1 ic_0 ?_
  refine me_aload_n X (i := 0) 0 rfl dL_around_2 ?_
  refine me_iload_n X (i := 1) 1 rfl dL_around_3 ?_
  refine me_iload_n X (i := 2) 2 rfl dL_around_4 ?_
  unfold hL_around at h
  cases e1 : mX11_around_0 M p0 p1 with
  | some v =>
    rw [e1] at h
    obtain ⟨rfl, rfl⟩ := me_sp (show some ((0 : Int32), me_o M 0 v.toInt64) = some (r, M') from h)
    refine me_callVi X [.int p0, .int p1] (ctX11_around_0 (n := 425) (nt := 5) (by decide) (by decide) e1) kV_L_100 rfl rfl (Nat.le_of_ble_eq_true rfl) me_k0 (Nat.le_of_ble_eq_true rfl) (Nat.le_refl _) (Nat.le_of_ble_eq_true rfl) dL_around_5 ?_
    refine me_i2l X dL_around_8 ?_
    refine me_last X (by decide) dL_around_9 ?_
    refine me_goto X 21 (by decide) dL_around_10 ?_
    refine me_iconst X dL_around_21 ic_0 ?_
    exact me_iretH X (by decide) (by decide) hr hlk dL_around_22
  | none =>
    rw [e1] at h
    obtain ⟨⟨E, M1⟩, e2, h⟩ := me_bd (show ((tX11_around_0 M p0 p1).bind fun (E, M1) => (if E = xN then some ((1 : Int32), M1) else (if E = xA then some ((2 : Int32), M1) else none))) = some (r, M') from h)
    by_cases c0 : E = xN
    · have h := me_ip c0 h
      obtain ⟨rfl, rfl⟩ := me_sp h
      subst c0
      refine me_callC X hz hRc hRs (nm := "java/util/NoSuchElementException") [.int p0, .int p1] (ctTX11_around_0 hl (n := 425) (nt := 5) (by decide) (by decide) e2) kV_L_100 rfl rfl (Nat.le_of_ble_eq_true rfl) me_k0 (Nat.le_of_ble_eq_true rfl) (Nat.le_refl _) (Nat.le_of_ble_eq_true rfl) dL_around_5 tw_1249 [] [⟨0, 10, 17, 13⟩] ⟨0, 10, 13, 33⟩ htab (fun z hz => nomatch hz) (by decide) (by decide) tw_886 tw_901 13 rfl (fun q => ?_)
      have X1 := me_Xup (cells' := 1) (slots' := 6) X hRc hRs
      refine me_astore X1 (i := 4) [(4, .ref q), (0, .ref (ad 0)), (1, .int p0), (2, .int p1), (3, .ref (ad 424))] (Nat.le_of_ble_eq_true rfl) rfl dL_around_13 ?_
      refine me_iconst X1 dL_around_15 ic_1 ?_
      exact me_iretH X1 (by decide) (by decide) hr hlk dL_around_16
    · have h := me_in c0 h
      by_cases c1 : E = xA
      · have h := me_ip c1 h
        obtain ⟨rfl, rfl⟩ := me_sp h
        subst c1
        refine me_callC X hz hRc hRs (nm := "java/lang/IllegalArgumentException") [.int p0, .int p1] (ctTX11_around_0 hl (n := 425) (nt := 5) (by decide) (by decide) e2) kV_L_100 rfl rfl (Nat.le_of_ble_eq_true rfl) me_k0 (Nat.le_of_ble_eq_true rfl) (Nat.le_refl _) (Nat.le_of_ble_eq_true rfl) dL_around_5 tw_1249 [⟨0, 10, 13, 33⟩] [] ⟨0, 10, 17, 13⟩ htab (fun z hz9 => by rcases List.mem_singleton.mp hz9 with rfl; exact ⟨by decide, _, tw_886, hz.2.2.2.2.2.1⟩) (by decide) (by decide) tw_645 tw_660 17 rfl (fun q => ?_)
        have X1 := me_Xup (cells' := 1) (slots' := 6) X hRc hRs
        refine me_astore X1 (i := 4) [(4, .ref q), (0, .ref (ad 0)), (1, .int p0), (2, .int p1), (3, .ref (ad 424))] (Nat.le_of_ble_eq_true rfl) rfl dL_around_17 ?_
        refine me_iconst X1 dL_around_19 ic_2 ?_
        exact me_iretH X1 (by decide) (by decide) hr hlk dL_around_20
      · have h := me_in c1 h
        cases h
def hL_common (M : me_M) (p0 : Int32) : Option (Int32 × me_M) :=
  ((mX11_common_0 M p0).bind fun (v, M1) => some ((0 : Int32), me_o M1 0 v.toInt64)).or ((tX11_common_0 M p0).bind fun (E, M1) => (if E = xA then some ((1 : Int32), M1) else none))
set_option maxRecDepth 100000 in
set_option maxHeartbeats 4000000 in
theorem chL_common {l : Launch} (hl : l.stackTraces = false) {M : me_M} {p0 : Int32} {r : Int32} {M' : me_M} (h : hL_common M p0 = some (r, M')) : me_Ch l yL_common cL_common 4 (some .int) [(0, 9, 12, 13)] 8 425 5 (fun ad => [.ref (ad 0), .int p0, .ref (ad 424)]) M r M' := by
  refine me_enterH (N0 := 425) RL rfl pl_RL (Nat.le_refl _) (by decide) (fun _ => Nat.le_of_ble_eq_true rfl) ?_
  intro p e R s m args below meth c D cA ad tys A X hr hlk hz htab hRc hRs
  refine me_sub (L' := [(0, .ref (ad 0)), (1, .int p0), (2, .ref (ad 424))]) [0, 1, 2] rfl ?_
  refine me_aload_n X (i := 2) 2 rfl dL_common_0 ?_
  refine me_iconst X dL_common_1 ic_0 ?_
  refine me_aload_n X (i := 0) 0 rfl dL_common_2 ?_
  refine me_iload_n X (i := 1) 1 rfl dL_common_3 ?_
  unfold hL_common at h
  cases e1 : mX11_common_0 M p0 with
  | some v =>
    obtain ⟨v, M1⟩ := v
    rw [e1] at h
    obtain ⟨rfl, rfl⟩ := me_sp (show some ((0 : Int32), me_o M1 0 v.toInt64) = some (r, M') from h)
    refine me_callVi X [.int p0] (ctX11_common_0 (n := 425) (nt := 5) (by decide) (by decide) e1) kV_L_103 rfl rfl (Nat.le_of_ble_eq_true rfl) me_k0 (Nat.le_of_ble_eq_true rfl) (Nat.le_refl _) (Nat.le_of_ble_eq_true rfl) dL_common_4 ?_
    refine me_i2l X dL_common_7 ?_
    refine me_last X (by decide) dL_common_8 ?_
    refine me_goto X 15 (by decide) dL_common_9 ?_
    refine me_iconst X dL_common_15 ic_0 ?_
    exact me_iretH X (by decide) (by decide) hr hlk dL_common_16
  | none =>
    rw [e1] at h
    obtain ⟨⟨E, M1⟩, e2, h⟩ := me_bd (show ((tX11_common_0 M p0).bind fun (E, M1) => (if E = xA then some ((1 : Int32), M1) else none)) = some (r, M') from h)
    by_cases c0 : E = xA
    · have h := me_ip c0 h
      obtain ⟨rfl, rfl⟩ := me_sp h
      subst c0
      refine me_callC X hz hRc hRs (nm := "java/lang/IllegalArgumentException") [.int p0] (ctTX11_common_0 hl (n := 425) (nt := 5) (by decide) (by decide) e2) kV_L_103 rfl rfl (Nat.le_of_ble_eq_true rfl) me_k0 (Nat.le_of_ble_eq_true rfl) (Nat.le_refl _) (Nat.le_of_ble_eq_true rfl) dL_common_4 tw_1266 [] [] ⟨0, 9, 12, 13⟩ htab (fun z hz => nomatch hz) (by decide) (by decide) tw_645 tw_660 12 rfl (fun q => ?_)
      have X1 := me_Xup (cells' := 1) (slots' := 6) X hRc hRs
      refine me_astore_n X1 (i := 3) [(3, .ref q), (0, .ref (ad 0)), (1, .int p0), (2, .ref (ad 424))] (Nat.le_of_ble_eq_true rfl) rfl dL_common_12 ?_
      refine me_iconst X1 dL_common_13 ic_1 ?_
      exact me_iretH X1 (by decide) (by decide) hr hlk dL_common_14
    · have h := me_in c0 h
      cases h
def hL_document (M : me_M) (p0 : Int32) (p1 : Int32) : Option (Int32 × me_M) :=
  ((mX11_document_0 M p0 p1).bind fun v => some ((0 : Int32), me_o M 0 v.toInt64)).or ((tX11_document_0 M p0 p1).bind fun (E, M1) => (if E = xN then some ((1 : Int32), M1) else (if E = xA then some ((2 : Int32), M1) else none)))
set_option maxRecDepth 100000 in
set_option maxHeartbeats 4000000 in
theorem chL_document {l : Launch} (hl : l.stackTraces = false) {M : me_M} {p0 : Int32} {p1 : Int32} {r : Int32} {M' : me_M} (h : hL_document M p0 p1 = some (r, M')) : me_Ch l yL_document cL_document 5 (some .int) [(0, 10, 13, 33), (0, 10, 17, 13)] 8 425 5 (fun ad => [.ref (ad 0), .int p0, .int p1, .ref (ad 424)]) M r M' := by
  refine me_enterH (N0 := 425) RL rfl pl_RL (Nat.le_refl _) (by decide) (fun _ => Nat.le_of_ble_eq_true rfl) ?_
  intro p e R s m args below meth c D cA ad tys A X hr hlk hz htab hRc hRs
  refine me_sub (L' := [(0, .ref (ad 0)), (1, .int p0), (2, .int p1), (3, .ref (ad 424))]) [0, 1, 2, 3] rfl ?_
  refine me_aload_n X (i := 3) 3 rfl dL_document_0 ?_
  refine me_iconst X dL_document_1 ic_0 ?_
  refine me_aload_n X (i := 0) 0 rfl dL_document_2 ?_
  refine me_iload_n X (i := 1) 1 rfl dL_document_3 ?_
  refine me_iload_n X (i := 2) 2 rfl dL_document_4 ?_
  unfold hL_document at h
  cases e1 : mX11_document_0 M p0 p1 with
  | some v =>
    rw [e1] at h
    obtain ⟨rfl, rfl⟩ := me_sp (show some ((0 : Int32), me_o M 0 v.toInt64) = some (r, M') from h)
    refine me_callVi X [.int p0, .int p1] (ctX11_document_0 (n := 425) (nt := 5) (by decide) (by decide) e1) kV_L_106 rfl rfl (Nat.le_of_ble_eq_true rfl) me_k0 (Nat.le_of_ble_eq_true rfl) (Nat.le_refl _) (Nat.le_of_ble_eq_true rfl) dL_document_5 ?_
    refine me_i2l X dL_document_8 ?_
    refine me_last X (by decide) dL_document_9 ?_
    refine me_goto X 21 (by decide) dL_document_10 ?_
    refine me_iconst X dL_document_21 ic_0 ?_
    exact me_iretH X (by decide) (by decide) hr hlk dL_document_22
  | none =>
    rw [e1] at h
    obtain ⟨⟨E, M1⟩, e2, h⟩ := me_bd (show ((tX11_document_0 M p0 p1).bind fun (E, M1) => (if E = xN then some ((1 : Int32), M1) else (if E = xA then some ((2 : Int32), M1) else none))) = some (r, M') from h)
    by_cases c0 : E = xN
    · have h := me_ip c0 h
      obtain ⟨rfl, rfl⟩ := me_sp h
      subst c0
      refine me_callC X hz hRc hRs (nm := "java/util/NoSuchElementException") [.int p0, .int p1] (ctTX11_document_0 hl (n := 425) (nt := 5) (by decide) (by decide) e2) kV_L_106 rfl rfl (Nat.le_of_ble_eq_true rfl) me_k0 (Nat.le_of_ble_eq_true rfl) (Nat.le_refl _) (Nat.le_of_ble_eq_true rfl) dL_document_5 tw_1287 [] [⟨0, 10, 17, 13⟩] ⟨0, 10, 13, 33⟩ htab (fun z hz => nomatch hz) (by decide) (by decide) tw_886 tw_901 13 rfl (fun q => ?_)
      have X1 := me_Xup (cells' := 1) (slots' := 6) X hRc hRs
      refine me_astore X1 (i := 4) [(4, .ref q), (0, .ref (ad 0)), (1, .int p0), (2, .int p1), (3, .ref (ad 424))] (Nat.le_of_ble_eq_true rfl) rfl dL_document_13 ?_
      refine me_iconst X1 dL_document_15 ic_1 ?_
      exact me_iretH X1 (by decide) (by decide) hr hlk dL_document_16
    · have h := me_in c0 h
      by_cases c1 : E = xA
      · have h := me_ip c1 h
        obtain ⟨rfl, rfl⟩ := me_sp h
        subst c1
        refine me_callC X hz hRc hRs (nm := "java/lang/IllegalArgumentException") [.int p0, .int p1] (ctTX11_document_0 hl (n := 425) (nt := 5) (by decide) (by decide) e2) kV_L_106 rfl rfl (Nat.le_of_ble_eq_true rfl) me_k0 (Nat.le_of_ble_eq_true rfl) (Nat.le_refl _) (Nat.le_of_ble_eq_true rfl) dL_document_5 tw_1287 [⟨0, 10, 13, 33⟩] [] ⟨0, 10, 17, 13⟩ htab (fun z hz9 => by rcases List.mem_singleton.mp hz9 with rfl; exact ⟨by decide, _, tw_886, hz.2.2.2.2.2.1⟩) (by decide) (by decide) tw_645 tw_660 17 rfl (fun q => ?_)
        have X1 := me_Xup (cells' := 1) (slots' := 6) X hRc hRs
        refine me_astore X1 (i := 4) [(4, .ref q), (0, .ref (ad 0)), (1, .int p0), (2, .int p1), (3, .ref (ad 424))] (Nat.le_of_ble_eq_true rfl) rfl dL_document_17 ?_
        refine me_iconst X1 dL_document_19 ic_2 ?_
        exact me_iretH X1 (by decide) (by decide) hr hlk dL_document_20
      · have h := me_in c1 h
        cases h
def hL_print (M : me_M) (p0 : Int32) : Option (Int32 × me_M) :=
  ((mX11_print_0 M p0).bind fun v => some ((0 : Int32), me_o M 0 v)).or ((tX11_print_0 M p0).bind fun (E, M1) => (if E = xN then some ((1 : Int32), M1) else none))
set_option maxRecDepth 100000 in
set_option maxHeartbeats 4000000 in
theorem chL_print {l : Launch} (hl : l.stackTraces = false) {M : me_M} {p0 : Int32} {r : Int32} {M' : me_M} (h : hL_print M p0 = some (r, M')) : me_Ch l yL_print cL_print 4 (some .int) [(0, 8, 11, 33)] 8 425 5 (fun ad => [.ref (ad 0), .int p0, .ref (ad 424)]) M r M' := by
  refine me_enterH (N0 := 425) RL rfl pl_RL (Nat.le_refl _) (by decide) (fun _ => Nat.le_of_ble_eq_true rfl) ?_
  intro p e R s m args below meth c D cA ad tys A X hr hlk hz htab hRc hRs
  refine me_sub (L' := [(0, .ref (ad 0)), (1, .int p0), (2, .ref (ad 424))]) [0, 1, 2] rfl ?_
  refine me_aload_n X (i := 2) 2 rfl dL_print_0 ?_
  refine me_iconst X dL_print_1 ic_0 ?_
  refine me_aload_n X (i := 0) 0 rfl dL_print_2 ?_
  refine me_iload_n X (i := 1) 1 rfl dL_print_3 ?_
  unfold hL_print at h
  cases e1 : mX11_print_0 M p0 with
  | some v =>
    rw [e1] at h
    obtain ⟨rfl, rfl⟩ := me_sp (show some ((0 : Int32), me_o M 0 v) = some (r, M') from h)
    refine me_callVj X [.int p0] (ctX11_print_0 (n := 425) (nt := 5) (by decide) (by decide) e1) kV_L_109 rfl rfl (Nat.le_of_ble_eq_true rfl) me_k0 (Nat.le_of_ble_eq_true rfl) (Nat.le_refl _) (Nat.le_of_ble_eq_true rfl) dL_print_4 ?_
    refine me_last X (by decide) dL_print_7 ?_
    refine me_goto X 14 (by decide) dL_print_8 ?_
    refine me_iconst X dL_print_14 ic_0 ?_
    exact me_iretH X (by decide) (by decide) hr hlk dL_print_15
  | none =>
    rw [e1] at h
    obtain ⟨⟨E, M1⟩, e2, h⟩ := me_bd (show ((tX11_print_0 M p0).bind fun (E, M1) => (if E = xN then some ((1 : Int32), M1) else none)) = some (r, M') from h)
    by_cases c0 : E = xN
    · have h := me_ip c0 h
      obtain ⟨rfl, rfl⟩ := me_sp h
      subst c0
      refine me_callC X hz hRc hRs (nm := "java/util/NoSuchElementException") [.int p0] (ctTX11_print_0 hl (n := 425) (nt := 5) (by decide) (by decide) e2) kV_L_109 rfl rfl (Nat.le_of_ble_eq_true rfl) me_k0 (Nat.le_of_ble_eq_true rfl) (Nat.le_refl _) (Nat.le_of_ble_eq_true rfl) dL_print_4 tw_1294 [] [] ⟨0, 8, 11, 33⟩ htab (fun z hz => nomatch hz) (by decide) (by decide) tw_886 tw_901 11 rfl (fun q => ?_)
      have X1 := me_Xup (cells' := 1) (slots' := 6) X hRc hRs
      refine me_astore_n X1 (i := 3) [(3, .ref q), (0, .ref (ad 0)), (1, .int p0), (2, .ref (ad 424))] (Nat.le_of_ble_eq_true rfl) rfl dL_print_11 ?_
      refine me_iconst X1 dL_print_12 ic_1 ?_
      exact me_iretH X1 (by decide) (by decide) hr hlk dL_print_13
    · have h := me_in c0 h
      cases h
