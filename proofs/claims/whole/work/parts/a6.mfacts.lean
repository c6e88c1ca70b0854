/-! ===== what the tables say of the constructor of the reference ===== -/
theorem tw_1304 : Cond.methodLink RX12 1 objectInit ∈ lw_good := lw_in (List.mem_of_getElem? (i := 1304) (by decide +kernel)) rfl
theorem kP_X12_7 : g_P RX12 7 12 1 (.array .int) := ⟨RX12, TX12, 43, tyX12, rfl, by decide, inw12, tyX12_ok, nmX12, rfl, by decide +kernel, tw_1319⟩
theorem kP_X12_13 : g_P RX12 13 12 3 .int := ⟨RX12, TX12, 43, tyX12, rfl, by decide, inw12, tyX12_ok, nmX12, rfl, by decide +kernel, tw_1321⟩
theorem kP_X12_17 : g_P RX12 17 12 4 (.array .int) := ⟨RX12, TX12, 43, tyX12, rfl, by decide, inw12, tyX12_ok, nmX12, rfl, by decide +kernel, tw_1322⟩
theorem kP_X12_20 : g_P RX12 20 12 5 .int := ⟨RX12, TX12, 43, tyX12, rfl, by decide, inw12, tyX12_ok, nmX12, rfl, by decide +kernel, tw_1323⟩
theorem kP_X12_23 : g_P RX12 23 12 6 .int := ⟨RX12, TX12, 43, tyX12, rfl, by decide, inw12, tyX12_ok, nmX12, rfl, by decide +kernel, tw_1324⟩
theorem tw_1305 : Cond.classLink RX12 26 "[[I" ∈ lw_good := lw_in (List.mem_of_getElem? (i := 1305) (by decide +kernel)) rfl
theorem kP_X12_28 : g_P RX12 28 12 7 (.array (.array .int)) := ⟨RX12, TX12, 43, tyX12, rfl, by decide, inw12, tyX12_ok, nmX12, rfl, by decide +kernel, tw_1325⟩
theorem kP_X12_31 : g_P RX12 31 12 8 (.array (.array .int)) := ⟨RX12, TX12, 43, tyX12, rfl, by decide, inw12, tyX12_ok, nmX12, rfl, by decide +kernel, tw_1326⟩
theorem kP_X12_34 : g_P RX12 34 12 9 (.array (.array .int)) := ⟨RX12, TX12, 43, tyX12, rfl, by decide, inw12, tyX12_ok, nmX12, rfl, by decide +kernel, tw_1327⟩
theorem kP_X12_37 : g_P RX12 37 12 10 .int := ⟨RX12, TX12, 43, tyX12, rfl, by decide, inw12, tyX12_ok, nmX12, rfl, by decide +kernel, tw_1328⟩
theorem kP_X12_40 : g_P RX12 40 12 11 .int := ⟨RX12, TX12, 43, tyX12, rfl, by decide, inw12, tyX12_ok, nmX12, rfl, by decide +kernel, tw_1329⟩
theorem kP_X12_43 : g_P RX12 43 12 12 (.array .int) := ⟨RX12, TX12, 43, tyX12, rfl, by decide, inw12, tyX12_ok, nmX12, rfl, by decide +kernel, tw_1330⟩
theorem kP_X12_46 : g_P RX12 46 12 13 (.array .int) := ⟨RX12, TX12, 43, tyX12, rfl, by decide, inw12, tyX12_ok, nmX12, rfl, by decide +kernel, tw_1331⟩
theorem kP_X12_49 : g_P RX12 49 12 14 (.array .int) := ⟨RX12, TX12, 43, tyX12, rfl, by decide, inw12, tyX12_ok, nmX12, rfl, by decide +kernel, tw_1332⟩
theorem kP_X12_52 : g_P RX12 52 12 15 (.array .int) := ⟨RX12, TX12, 43, tyX12, rfl, by decide, inw12, tyX12_ok, nmX12, rfl, by decide +kernel, tw_1333⟩
theorem tw_1307 : Cond.classLink RX12 55 "[[[[I" ∈ lw_good := lw_in (List.mem_of_getElem? (i := 1307) (by decide +kernel)) rfl
theorem kP_X12_57 : g_P RX12 57 12 16 (.array (.array (.array (.array .int)))) := ⟨RX12, TX12, 43, tyX12, rfl, by decide, inw12, tyX12_ok, nmX12, rfl, by decide +kernel, tw_1334⟩
theorem kP_X12_60 : g_P RX12 60 12 21 (.array .int) := ⟨RX12, TX12, 43, tyX12, rfl, by decide, inw12, tyX12_ok, nmX12, rfl, by decide +kernel, tw_1339⟩
theorem kP_X12_63 : g_P RX12 63 12 22 (.array .int) := ⟨RX12, TX12, 43, tyX12, rfl, by decide, inw12, tyX12_ok, nmX12, rfl, by decide +kernel, tw_1340⟩
theorem kP_X12_66 : g_P RX12 66 12 23 (.array .int) := ⟨RX12, TX12, 43, tyX12, rfl, by decide, inw12, tyX12_ok, nmX12, rfl, by decide +kernel, tw_1341⟩
theorem kP_X12_69 : g_P RX12 69 12 28 (.array .int) := ⟨RX12, TX12, 43, tyX12, rfl, by decide, inw12, tyX12_ok, nmX12, rfl, by decide +kernel, tw_1346⟩
theorem kP_X12_72 : g_P RX12 72 12 29 .int := ⟨RX12, TX12, 43, tyX12, rfl, by decide, inw12, tyX12_ok, nmX12, rfl, by decide +kernel, tw_1347⟩
theorem kP_X12_75 : g_P RX12 75 12 30 (.array .int) := ⟨RX12, TX12, 43, tyX12, rfl, by decide, inw12, tyX12_ok, nmX12, rfl, by decide +kernel, tw_1348⟩
theorem kP_X12_78 : g_P RX12 78 12 31 (.array .int) := ⟨RX12, TX12, 43, tyX12, rfl, by decide, inw12, tyX12_ok, nmX12, rfl, by decide +kernel, tw_1349⟩
theorem kP_X12_81 : g_P RX12 81 12 32 (.array .int) := ⟨RX12, TX12, 43, tyX12, rfl, by decide, inw12, tyX12_ok, nmX12, rfl, by decide +kernel, tw_1350⟩
theorem kP_X12_84 : g_P RX12 84 12 33 (.array .int) := ⟨RX12, TX12, 43, tyX12, rfl, by decide, inw12, tyX12_ok, nmX12, rfl, by decide +kernel, tw_1351⟩
theorem kP_X12_87 : g_P RX12 87 12 34 (.array (.array .int)) := ⟨RX12, TX12, 43, tyX12, rfl, by decide, inw12, tyX12_ok, nmX12, rfl, by decide +kernel, tw_1352⟩
theorem kP_X12_90 : g_P RX12 90 12 39 (.array (.array .int)) := ⟨RX12, TX12, 43, tyX12, rfl, by decide, inw12, tyX12_ok, nmX12, rfl, by decide +kernel, tw_1357⟩
theorem kP_X12_93 : g_P RX12 93 12 40 (.array .int) := ⟨RX12, TX12, 43, tyX12, rfl, by decide, inw12, tyX12_ok, nmX12, rfl, by decide +kernel, tw_1358⟩
theorem kP_X12_96 : g_P RX12 96 12 41 (.array .int) := ⟨RX12, TX12, 43, tyX12, rfl, by decide, inw12, tyX12_ok, nmX12, rfl, by decide +kernel, tw_1359⟩
theorem kP_X12_99 : g_P RX12 99 12 42 (.array .int) := ⟨RX12, TX12, 43, tyX12, rfl, by decide, inw12, tyX12_ok, nmX12, rfl, by decide +kernel, tw_1360⟩
