/-! ===== what the tables say of the law ===== -/
theorem tw_22 : Cond.classLink RL 8 RX11 ∈ lw_good := lw_in (List.mem_of_getElem? (i := 22) (by decide +kernel)) rfl
theorem tw_23 : Cond.instantiable RX11 16 ∈ lw_good := lw_in (List.mem_of_getElem? (i := 23) (by decide +kernel)) rfl
theorem kN_L_8 : g_N RL 8 11 16 [.null, .null, .null, .null, .null, .null, .null, .null, .null, .null, .null, .null, .int 0, .int 0, .int 0, .int 0] := ⟨RX11, TX11, tyX11, rfl, inw11, tyX11_ok, tw_22, tw_23, tw_1, fun j hj => by rcases (show j = 0 ∨ j = 1 ∨ j = 2 ∨ j = 3 ∨ j = 4 ∨ j = 5 ∨ j = 6 ∨ j = 7 ∨ j = 8 ∨ j = 9 ∨ j = 10 ∨ j = 11 ∨ j = 12 ∨ j = 13 ∨ j = 14 ∨ j = 15 by omega) with rfl | rfl | rfl | rfl | rfl | rfl | rfl | rfl | rfl | rfl | rfl | rfl | rfl | rfl | rfl | rfl <;> rfl⟩
theorem tw_1299 : Cond.classLink RL 114 RX12 ∈ lw_good := lw_in (List.mem_of_getElem? (i := 1299) (by decide +kernel)) rfl
theorem tw_1300 : Cond.instantiable RX12 43 ∈ lw_good := lw_in (List.mem_of_getElem? (i := 1300) (by decide +kernel)) rfl
theorem kN_L_114 : g_N RL 114 12 43 [.int 0, .null, .int 0, .int 0, .null, .int 0, .int 0, .null, .null, .null, .int 0, .int 0, .null, .null, .null, .null, .null, .int 0, .int 0, .int 0, .int 0, .null, .null, .null, .int 0, .int 0, .int 0, .int 0, .null, .int 0, .null, .null, .null, .null, .null, .int 0, .int 0, .int 0, .int 0, .null, .null, .null, .null] := ⟨RX12, TX12, tyX12, rfl, inw12, tyX12_ok, tw_1299, tw_1300, tw_14, fun j hj => by rcases (show j = 0 ∨ j = 1 ∨ j = 2 ∨ j = 3 ∨ j = 4 ∨ j = 5 ∨ j = 6 ∨ j = 7 ∨ j = 8 ∨ j = 9 ∨ j = 10 ∨ j = 11 ∨ j = 12 ∨ j = 13 ∨ j = 14 ∨ j = 15 ∨ j = 16 ∨ j = 17 ∨ j = 18 ∨ j = 19 ∨ j = 20 ∨ j = 21 ∨ j = 22 ∨ j = 23 ∨ j = 24 ∨ j = 25 ∨ j = 26 ∨ j = 27 ∨ j = 28 ∨ j = 29 ∨ j = 30 ∨ j = 31 ∨ j = 32 ∨ j = 33 ∨ j = 34 ∨ j = 35 ∨ j = 36 ∨ j = 37 ∨ j = 38 ∨ j = 39 ∨ j = 40 ∨ j = 41 ∨ j = 42 by omega) with rfl | rfl | rfl | rfl | rfl | rfl | rfl | rfl | rfl | rfl | rfl | rfl | rfl | rfl | rfl | rfl | rfl | rfl | rfl | rfl | rfl | rfl | rfl | rfl | rfl | rfl | rfl | rfl | rfl | rfl | rfl | rfl | rfl | rfl | rfl | rfl | rfl | rfl | rfl | rfl | rfl | rfl | rfl <;> rfl⟩
theorem tw_24 : Cond.methodLink RL 113 yX11_init ∈ lw_good := lw_in (List.mem_of_getElem? (i := 24) (by decide +kernel)) rfl
theorem tw_25 : Cond.instanceMethod yX11_init ∈ lw_good := lw_in (List.mem_of_getElem? (i := 25) (by decide +kernel)) rfl
theorem tw_26 : Cond.code yX11_init cX11_init 1 none ∈ lw_good := lw_in (List.mem_of_getElem? (i := 26) (by decide +kernel)) rfl
theorem kC_L_113 : g_V RL 113 yX11_init cX11_init 1 0 := ⟨Or.inl tw_24, tw_25, tw_1, tw_26, by decide +kernel, by decide +kernel, by decide +kernel, by decide, rfl⟩
theorem tw_1301 : Cond.methodLink RL 116 yX12_init ∈ lw_good := lw_in (List.mem_of_getElem? (i := 1301) (by decide +kernel)) rfl
theorem tw_1302 : Cond.instanceMethod yX12_init ∈ lw_good := lw_in (List.mem_of_getElem? (i := 1302) (by decide +kernel)) rfl
theorem tw_1303 : Cond.code yX12_init cX12_init 1 none ∈ lw_good := lw_in (List.mem_of_getElem? (i := 1303) (by decide +kernel)) rfl
theorem kC_L_116 : g_V RL 116 yX12_init cX12_init 1 0 := ⟨Or.inl tw_1301, tw_1302, tw_14, tw_1303, by decide +kernel, by decide +kernel, by decide +kernel, by decide, rfl⟩
theorem tw_1826 : Cond.arrayClass .long ∈ lw_good := lw_in (List.mem_of_getElem? (i := 1826) (by decide +kernel)) rfl
theorem tl_us : Cond.laysStatic Bundle.tN "UNASSIGNED_STACK" Bundle.steD ∈ lw_tbl := List.mem_append_right _ (List.mem_of_getElem? (i := 685) (by decide +kernel))
theorem tl_ss : Cond.laysStatic Bundle.tN "SUPPRESSED_SENTINEL" Bundle.listD ∈ lw_tbl := List.mem_append_right _ (List.mem_of_getElem? (i := 687) (by decide +kernel))
theorem tl_it : Cond.initialized Bundle.tN ∈ lw_tbl := List.mem_append_right _ (List.mem_of_getElem? (i := 15) (by decide +kernel))
theorem tl_s435 : Cond.stringRef RX11 435 "no such side, row, place, document, letter or hit" ∈ lw_tbl := List.mem_append_right _ (List.mem_of_getElem? (i := 908) (by decide +kernel))
theorem tl_s442 : Cond.stringRef RX11 442 "an argument that the call does not take" ∈ lw_tbl := List.mem_append_right _ (List.mem_of_getElem? (i := 699) (by decide +kernel))
theorem tl_s447 : Cond.stringRef RX11 447 "the cursor has as many letters as it can" ∈ lw_tbl := List.mem_append_right _ (List.mem_of_getElem? (i := 844) (by decide +kernel))
theorem tl_o1 : Cond.arrayOver (.array .int) ∈ lw_tbl := List.mem_append_right _ (List.mem_of_getElem? (i := 1306) (by decide +kernel))
theorem tl_o2 : Cond.arrayOver (.array (.array .int)) ∈ lw_tbl := List.mem_append_right _ (List.mem_of_getElem? (i := 1309) (by decide +kernel))
theorem tl_o3 : Cond.arrayOver (.array (.array (.array .int))) ∈ lw_tbl := List.mem_append_right _ (List.mem_of_getElem? (i := 1308) (by decide +kernel))
