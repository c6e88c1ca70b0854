/-! ===== what the tables say of the constructors ===== -/
theorem tw_35 : Cond.methodLink RX9 3 objectInit ∈ lw_good := lw_in (List.mem_of_getElem? (i := 35) (by decide +kernel)) rfl
theorem tw_28 : Cond.instanceMethod objectInit ∈ lw_good := lw_in (List.mem_of_getElem? (i := 28) (by decide +kernel)) rfl
theorem tw_29 : Cond.code objectInit ⟨#[0xb1]⟩ 1 none ∈ lw_good := lw_in (List.mem_of_getElem? (i := 29) (by decide +kernel)) rfl
theorem tw_46 : Cond.arrayClass .int ∈ lw_good := lw_in (List.mem_of_getElem? (i := 46) (by decide +kernel)) rfl
theorem kP_X9_9 : g_P RX9 9 9 0 (.array .int) := ⟨RX9, TX9, 2, tyX9, rfl, by decide, inw9, tyX9_ok, nmX9, rfl, by decide +kernel, tw_36⟩
theorem tw_52 : Cond.methodLink RX10 3 objectInit ∈ lw_good := lw_in (List.mem_of_getElem? (i := 52) (by decide +kernel)) rfl
theorem kP_X10_9 : g_P RX10 9 10 0 (.array .int) := ⟨RX10, TX10, 8, tyX10, rfl, by decide, inw10, tyX10_ok, nmX10, rfl, by decide +kernel, tw_53⟩
theorem kP_X10_15 : g_P RX10 15 10 1 (.array .int) := ⟨RX10, TX10, 8, tyX10, rfl, by decide, inw10, tyX10_ok, nmX10, rfl, by decide +kernel, tw_57⟩
theorem kP_X10_18 : g_P RX10 18 10 2 (.array .int) := ⟨RX10, TX10, 8, tyX10, rfl, by decide, inw10, tyX10_ok, nmX10, rfl, by decide +kernel, tw_59⟩
theorem kP_X10_21 : g_P RX10 21 10 3 (.array .int) := ⟨RX10, TX10, 8, tyX10, rfl, by decide, inw10, tyX10_ok, nmX10, rfl, by decide +kernel, tw_63⟩
theorem kP_X10_24 : g_P RX10 24 10 4 (.array .int) := ⟨RX10, TX10, 8, tyX10, rfl, by decide, inw10, tyX10_ok, nmX10, rfl, by decide +kernel, tw_65⟩
theorem kP_X10_27 : g_P RX10 27 10 5 .int := ⟨RX10, TX10, 8, tyX10, rfl, by decide, inw10, tyX10_ok, nmX10, rfl, by decide +kernel, tw_68⟩
theorem tw_100 : Cond.methodLink RX4 3 objectInit ∈ lw_good := lw_in (List.mem_of_getElem? (i := 100) (by decide +kernel)) rfl
theorem kP_X4_9 : g_P RX4 9 4 1 (.array .int) := ⟨RX4, TX4, 6, tyX4, rfl, by decide, inw4, tyX4_ok, nmX4, rfl, by decide +kernel, tw_103⟩
theorem kP_X4_15 : g_P RX4 15 4 2 (.array .int) := ⟨RX4, TX4, 6, tyX4, rfl, by decide, inw4, tyX4_ok, nmX4, rfl, by decide +kernel, tw_107⟩
theorem kP_X4_18 : g_P RX4 18 4 3 (.array .int) := ⟨RX4, TX4, 6, tyX4, rfl, by decide, inw4, tyX4_ok, nmX4, rfl, by decide +kernel, tw_110⟩
theorem kP_X4_21 : g_P RX4 21 4 4 (.array .int) := ⟨RX4, TX4, 6, tyX4, rfl, by decide, inw4, tyX4_ok, nmX4, rfl, by decide +kernel, tw_113⟩
theorem kP_X4_24 : g_P RX4 24 4 0 (.array .int) := ⟨RX4, TX4, 6, tyX4, rfl, by decide, inw4, tyX4_ok, nmX4, rfl, by decide +kernel, tw_101⟩
theorem tw_140 : Cond.methodLink RX7 3 objectInit ∈ lw_good := lw_in (List.mem_of_getElem? (i := 140) (by decide +kernel)) rfl
theorem kP_X7_9 : g_P RX7 9 7 2 (.array .int) := ⟨RX7, TX7, 5, tyX7, rfl, by decide, inw7, tyX7_ok, nmX7, rfl, by decide +kernel, tw_143⟩
theorem kP_X7_15 : g_P RX7 15 7 3 (.array .int) := ⟨RX7, TX7, 5, tyX7, rfl, by decide, inw7, tyX7_ok, nmX7, rfl, by decide +kernel, tw_146⟩
theorem kP_X7_18 : g_P RX7 18 7 4 (.array .int) := ⟨RX7, TX7, 5, tyX7, rfl, by decide, inw7, tyX7_ok, nmX7, rfl, by decide +kernel, tw_148⟩
theorem kP_X7_21 : g_P RX7 21 7 0 (.object "BothEnds$Rows") := ⟨RX7, TX7, 5, tyX7, rfl, by decide, inw7, tyX7_ok, nmX7, rfl, by decide +kernel, tw_141⟩
theorem kP_X7_25 : g_P RX7 25 7 1 (.object "BothEnds$Rows") := ⟨RX7, TX7, 5, tyX7, rfl, by decide, inw7, tyX7_ok, nmX7, rfl, by decide +kernel, tw_142⟩
theorem tw_134 : Cond.methodLink RX0 3 objectInit ∈ lw_good := lw_in (List.mem_of_getElem? (i := 134) (by decide +kernel)) rfl
theorem kP_X0_9 : g_P RX0 9 0 1 (.array .int) := ⟨RX0, TX0, 5, tyX0, rfl, by decide, inw0, tyX0_ok, nmX0, rfl, by decide +kernel, tw_163⟩
theorem kP_X0_15 : g_P RX0 15 0 2 (.array .int) := ⟨RX0, TX0, 5, tyX0, rfl, by decide, inw0, tyX0_ok, nmX0, rfl, by decide +kernel, tw_164⟩
theorem tw_135 : Cond.classLink RX0 18 RX7 ∈ lw_good := lw_in (List.mem_of_getElem? (i := 135) (by decide +kernel)) rfl
theorem tw_136 : Cond.instantiable RX7 5 ∈ lw_good := lw_in (List.mem_of_getElem? (i := 136) (by decide +kernel)) rfl
theorem kN_X0_18 : g_N RX0 18 7 5 [.null, .null, .null, .null, .null] := ⟨RX7, TX7, tyX7, rfl, inw7, tyX7_ok, tw_135, tw_136, tw_6, fun j hj => by rcases (show j = 0 ∨ j = 1 ∨ j = 2 ∨ j = 3 ∨ j = 4 by omega) with rfl | rfl | rfl | rfl | rfl <;> rfl⟩
theorem tw_137 : Cond.methodLinkNest RX0 20 yX7_init "BothEnds" ∈ lw_nest := lw_inn (List.mem_of_getElem? (i := 137) (by decide +kernel)) rfl
theorem tw_138 : Cond.instanceMethod yX7_init ∈ lw_good := lw_in (List.mem_of_getElem? (i := 138) (by decide +kernel)) rfl
theorem tw_139 : Cond.code yX7_init cX7_init 3 none ∈ lw_good := lw_in (List.mem_of_getElem? (i := 139) (by decide +kernel)) rfl
theorem kC_X0_20 : g_V RX0 20 yX7_init cX7_init 3 2 := ⟨Or.inr ⟨_, tw_137⟩, tw_138, tw_6, tw_139, by decide +kernel, by decide +kernel, by decide +kernel, by decide, rfl⟩
theorem kP_X0_23 : g_P RX0 23 0 0 (.object "BothEnds$Spans") := ⟨RX0, TX0, 5, tyX0, rfl, by decide, inw0, tyX0_ok, nmX0, rfl, by decide +kernel, tw_162⟩
theorem tw_184 : Cond.methodLink RX2 3 objectInit ∈ lw_good := lw_in (List.mem_of_getElem? (i := 184) (by decide +kernel)) rfl
theorem kP_X2_9 : g_P RX2 9 2 2 (.array .int) := ⟨RX2, TX2, 6, tyX2, rfl, by decide, inw2, tyX2_ok, nmX2, rfl, by decide +kernel, tw_187⟩
theorem kP_X2_15 : g_P RX2 15 2 3 (.array .int) := ⟨RX2, TX2, 6, tyX2, rfl, by decide, inw2, tyX2_ok, nmX2, rfl, by decide +kernel, tw_189⟩
theorem kP_X2_18 : g_P RX2 18 2 4 (.array .int) := ⟨RX2, TX2, 6, tyX2, rfl, by decide, inw2, tyX2_ok, nmX2, rfl, by decide +kernel, tw_191⟩
theorem kP_X2_21 : g_P RX2 21 2 0 (.object "BothEnds$Text") := ⟨RX2, TX2, 6, tyX2, rfl, by decide, inw2, tyX2_ok, nmX2, rfl, by decide +kernel, tw_185⟩
theorem kP_X2_25 : g_P RX2 25 2 1 (.object "BothEnds$Rows") := ⟨RX2, TX2, 6, tyX2, rfl, by decide, inw2, tyX2_ok, nmX2, rfl, by decide +kernel, tw_186⟩
theorem tw_212 : Cond.methodLink RX8 3 objectInit ∈ lw_good := lw_in (List.mem_of_getElem? (i := 212) (by decide +kernel)) rfl
theorem kP_X8_9 : g_P RX8 9 8 1 (.array .int) := ⟨RX8, TX8, 9, tyX8, rfl, by decide, inw8, tyX8_ok, nmX8, rfl, by decide +kernel, tw_214⟩
theorem kP_X8_15 : g_P RX8 15 8 2 (.array .int) := ⟨RX8, TX8, 9, tyX8, rfl, by decide, inw8, tyX8_ok, nmX8, rfl, by decide +kernel, tw_215⟩
theorem kP_X8_18 : g_P RX8 18 8 3 (.array .int) := ⟨RX8, TX8, 9, tyX8, rfl, by decide, inw8, tyX8_ok, nmX8, rfl, by decide +kernel, tw_217⟩
theorem kP_X8_21 : g_P RX8 21 8 4 (.array .int) := ⟨RX8, TX8, 9, tyX8, rfl, by decide, inw8, tyX8_ok, nmX8, rfl, by decide +kernel, tw_219⟩
theorem kP_X8_24 : g_P RX8 24 8 5 (.array .int) := ⟨RX8, TX8, 9, tyX8, rfl, by decide, inw8, tyX8_ok, nmX8, rfl, by decide +kernel, tw_221⟩
theorem kP_X8_27 : g_P RX8 27 8 0 (.object "BothEnds$Text") := ⟨RX8, TX8, 9, tyX8, rfl, by decide, inw8, tyX8_ok, nmX8, rfl, by decide +kernel, tw_213⟩
theorem tw_253 : Cond.methodLink RX1 3 objectInit ∈ lw_good := lw_in (List.mem_of_getElem? (i := 253) (by decide +kernel)) rfl
theorem kP_X1_9 : g_P RX1 9 1 3 (.array .int) := ⟨RX1, TX1, 12, tyX1, rfl, by decide, inw1, tyX1_ok, nmX1, rfl, by decide +kernel, tw_259⟩
theorem kP_X1_15 : g_P RX1 15 1 4 (.array .int) := ⟨RX1, TX1, 12, tyX1, rfl, by decide, inw1, tyX1_ok, nmX1, rfl, by decide +kernel, tw_260⟩
theorem kP_X1_18 : g_P RX1 18 1 5 (.array .int) := ⟨RX1, TX1, 12, tyX1, rfl, by decide, inw1, tyX1_ok, nmX1, rfl, by decide +kernel, tw_261⟩
theorem kP_X1_21 : g_P RX1 21 1 6 (.array .int) := ⟨RX1, TX1, 12, tyX1, rfl, by decide, inw1, tyX1_ok, nmX1, rfl, by decide +kernel, tw_262⟩
theorem kP_X1_24 : g_P RX1 24 1 7 (.array .int) := ⟨RX1, TX1, 12, tyX1, rfl, by decide, inw1, tyX1_ok, nmX1, rfl, by decide +kernel, tw_263⟩
theorem kP_X1_27 : g_P RX1 27 1 8 (.array .int) := ⟨RX1, TX1, 12, tyX1, rfl, by decide, inw1, tyX1_ok, nmX1, rfl, by decide +kernel, tw_265⟩
theorem kP_X1_30 : g_P RX1 30 1 0 (.object "BothEnds$Text") := ⟨RX1, TX1, 12, tyX1, rfl, by decide, inw1, tyX1_ok, nmX1, rfl, by decide +kernel, tw_256⟩
theorem kP_X1_34 : g_P RX1 34 1 1 (.object "BothEnds$Rows") := ⟨RX1, TX1, 12, tyX1, rfl, by decide, inw1, tyX1_ok, nmX1, rfl, by decide +kernel, tw_257⟩
theorem tw_254 : Cond.classLink RX1 38 RX7 ∈ lw_good := lw_in (List.mem_of_getElem? (i := 254) (by decide +kernel)) rfl
theorem kN_X1_38 : g_N RX1 38 7 5 [.null, .null, .null, .null, .null] := ⟨RX7, TX7, tyX7, rfl, inw7, tyX7_ok, tw_254, tw_136, tw_6, fun j hj => by rcases (show j = 0 ∨ j = 1 ∨ j = 2 ∨ j = 3 ∨ j = 4 by omega) with rfl | rfl | rfl | rfl | rfl <;> rfl⟩
theorem tw_255 : Cond.methodLinkNest RX1 40 yX7_init "BothEnds" ∈ lw_nest := lw_inn (List.mem_of_getElem? (i := 255) (by decide +kernel)) rfl
theorem kC_X1_40 : g_V RX1 40 yX7_init cX7_init 3 2 := ⟨Or.inr ⟨_, tw_255⟩, tw_138, tw_6, tw_139, by decide +kernel, by decide +kernel, by decide +kernel, by decide, rfl⟩
theorem kP_X1_43 : g_P RX1 43 1 2 (.object "BothEnds$Spans") := ⟨RX1, TX1, 12, tyX1, rfl, by decide, inw1, tyX1_ok, nmX1, rfl, by decide +kernel, tw_258⟩
theorem tw_304 : Cond.methodLink RX3 3 objectInit ∈ lw_good := lw_in (List.mem_of_getElem? (i := 304) (by decide +kernel)) rfl
theorem kP_X3_9 : g_P RX3 9 3 0 (.array .int) := ⟨RX3, TX3, 9, tyX3, rfl, by decide, inw3, tyX3_ok, nmX3, rfl, by decide +kernel, tw_305⟩
theorem kP_X3_15 : g_P RX3 15 3 1 (.array .int) := ⟨RX3, TX3, 9, tyX3, rfl, by decide, inw3, tyX3_ok, nmX3, rfl, by decide +kernel, tw_307⟩
theorem kP_X3_18 : g_P RX3 18 3 2 (.array .int) := ⟨RX3, TX3, 9, tyX3, rfl, by decide, inw3, tyX3_ok, nmX3, rfl, by decide +kernel, tw_309⟩
theorem kP_X3_21 : g_P RX3 21 3 3 (.array .int) := ⟨RX3, TX3, 9, tyX3, rfl, by decide, inw3, tyX3_ok, nmX3, rfl, by decide +kernel, tw_311⟩
theorem tw_347 : Cond.methodLink RX6 3 objectInit ∈ lw_good := lw_in (List.mem_of_getElem? (i := 347) (by decide +kernel)) rfl
theorem kP_X6_9 : g_P RX6 9 6 0 (.object "BothEnds$Tape") := ⟨RX6, TX6, 5, tyX6, rfl, by decide, inw6, tyX6_ok, nmX6, rfl, by decide +kernel, tw_348⟩
theorem kP_X6_15 : g_P RX6 15 6 4 .int := ⟨RX6, TX6, 5, tyX6, rfl, by decide, inw6, tyX6_ok, nmX6, rfl, by decide +kernel, tw_353⟩
theorem tw_371 : Cond.methodLink RX5 3 objectInit ∈ lw_good := lw_in (List.mem_of_getElem? (i := 371) (by decide +kernel)) rfl
theorem kP_X5_9 : g_P RX5 9 5 0 (.array .int) := ⟨RX5, TX5, 11, tyX5, rfl, by decide, inw5, tyX5_ok, nmX5, rfl, by decide +kernel, tw_372⟩
theorem kP_X5_15 : g_P RX5 15 5 1 (.array .int) := ⟨RX5, TX5, 11, tyX5, rfl, by decide, inw5, tyX5_ok, nmX5, rfl, by decide +kernel, tw_376⟩
theorem kP_X5_18 : g_P RX5 18 5 2 (.array .int) := ⟨RX5, TX5, 11, tyX5, rfl, by decide, inw5, tyX5_ok, nmX5, rfl, by decide +kernel, tw_380⟩
theorem kP_X5_21 : g_P RX5 21 5 3 (.array .int) := ⟨RX5, TX5, 11, tyX5, rfl, by decide, inw5, tyX5_ok, nmX5, rfl, by decide +kernel, tw_384⟩
theorem kP_X5_24 : g_P RX5 24 5 4 .int := ⟨RX5, TX5, 11, tyX5, rfl, by decide, inw5, tyX5_ok, nmX5, rfl, by decide +kernel, tw_385⟩
theorem kP_X5_28 : g_P RX5 28 5 5 .int := ⟨RX5, TX5, 11, tyX5, rfl, by decide, inw5, tyX5_ok, nmX5, rfl, by decide +kernel, tw_388⟩
theorem tw_27 : Cond.methodLink RX11 1 objectInit ∈ lw_good := lw_in (List.mem_of_getElem? (i := 27) (by decide +kernel)) rfl
theorem tw_30 : Cond.classLink RX11 7 RX9 ∈ lw_good := lw_in (List.mem_of_getElem? (i := 30) (by decide +kernel)) rfl
theorem tw_31 : Cond.instantiable RX9 2 ∈ lw_good := lw_in (List.mem_of_getElem? (i := 31) (by decide +kernel)) rfl
theorem kN_X11_7 : g_N RX11 7 9 2 [.null, .int 0] := ⟨RX9, TX9, tyX9, rfl, inw9, tyX9_ok, tw_30, tw_31, tw_2, fun j hj => by rcases (show j = 0 ∨ j = 1 by omega) with rfl | rfl <;> rfl⟩
theorem tw_32 : Cond.methodLinkNest RX11 9 yX9_init "BothEnds" ∈ lw_nest := lw_inn (List.mem_of_getElem? (i := 32) (by decide +kernel)) rfl
theorem tw_33 : Cond.instanceMethod yX9_init ∈ lw_good := lw_in (List.mem_of_getElem? (i := 33) (by decide +kernel)) rfl
theorem tw_34 : Cond.code yX9_init cX9_init 1 none ∈ lw_good := lw_in (List.mem_of_getElem? (i := 34) (by decide +kernel)) rfl
theorem kC_X11_9 : g_V RX11 9 yX9_init cX9_init 1 0 := ⟨Or.inr ⟨_, tw_32⟩, tw_33, tw_2, tw_34, by decide +kernel, by decide +kernel, by decide +kernel, by decide, rfl⟩
theorem kP_X11_10 : g_P RX11 10 11 0 (.object "BothEnds$Tape") := ⟨RX11, TX11, 16, tyX11, rfl, by decide, inw11, tyX11_ok, nmX11, rfl, by decide +kernel, tw_518⟩
theorem tw_47 : Cond.classLink RX11 16 RX10 ∈ lw_good := lw_in (List.mem_of_getElem? (i := 47) (by decide +kernel)) rfl
theorem tw_48 : Cond.instantiable RX10 8 ∈ lw_good := lw_in (List.mem_of_getElem? (i := 48) (by decide +kernel)) rfl
theorem kN_X11_16 : g_N RX11 16 10 8 [.null, .null, .null, .null, .null, .int 0, .int 0, .int 0] := ⟨RX10, TX10, tyX10, rfl, inw10, tyX10_ok, tw_47, tw_48, tw_3, fun j hj => by rcases (show j = 0 ∨ j = 1 ∨ j = 2 ∨ j = 3 ∨ j = 4 ∨ j = 5 ∨ j = 6 ∨ j = 7 by omega) with rfl | rfl | rfl | rfl | rfl | rfl | rfl | rfl <;> rfl⟩
theorem tw_49 : Cond.methodLinkNest RX11 18 yX10_init "BothEnds" ∈ lw_nest := lw_inn (List.mem_of_getElem? (i := 49) (by decide +kernel)) rfl
theorem tw_50 : Cond.instanceMethod yX10_init ∈ lw_good := lw_in (List.mem_of_getElem? (i := 50) (by decide +kernel)) rfl
theorem tw_51 : Cond.code yX10_init cX10_init 1 none ∈ lw_good := lw_in (List.mem_of_getElem? (i := 51) (by decide +kernel)) rfl
theorem kC_X11_18 : g_V RX11 18 yX10_init cX10_init 1 0 := ⟨Or.inr ⟨_, tw_49⟩, tw_50, tw_3, tw_51, by decide +kernel, by decide +kernel, by decide +kernel, by decide, rfl⟩
theorem kP_X11_19 : g_P RX11 19 11 1 (.object "BothEnds$Text") := ⟨RX11, TX11, 16, tyX11, rfl, by decide, inw11, tyX11_ok, nmX11, rfl, by decide +kernel, tw_519⟩
theorem tw_95 : Cond.classLink RX11 23 RX4 ∈ lw_good := lw_in (List.mem_of_getElem? (i := 95) (by decide +kernel)) rfl
theorem tw_96 : Cond.instantiable RX4 6 ∈ lw_good := lw_in (List.mem_of_getElem? (i := 96) (by decide +kernel)) rfl
theorem kN_X11_23 : g_N RX11 23 4 6 [.null, .null, .null, .null, .null, .int 0] := ⟨RX4, TX4, tyX4, rfl, inw4, tyX4_ok, tw_95, tw_96, tw_4, fun j hj => by rcases (show j = 0 ∨ j = 1 ∨ j = 2 ∨ j = 3 ∨ j = 4 ∨ j = 5 by omega) with rfl | rfl | rfl | rfl | rfl | rfl <;> rfl⟩
theorem tw_97 : Cond.methodLinkNest RX11 29 yX4_init "BothEnds" ∈ lw_nest := lw_inn (List.mem_of_getElem? (i := 97) (by decide +kernel)) rfl
theorem tw_98 : Cond.instanceMethod yX4_init ∈ lw_good := lw_in (List.mem_of_getElem? (i := 98) (by decide +kernel)) rfl
theorem tw_99 : Cond.code yX4_init cX4_init 2 none ∈ lw_good := lw_in (List.mem_of_getElem? (i := 99) (by decide +kernel)) rfl
theorem kC_X11_29 : g_V RX11 29 yX4_init cX4_init 2 1 := ⟨Or.inr ⟨_, tw_97⟩, tw_98, tw_4, tw_99, by decide +kernel, by decide +kernel, by decide +kernel, by decide, rfl⟩
theorem kP_X11_32 : g_P RX11 32 11 2 (.object "BothEnds$Rows") := ⟨RX11, TX11, 16, tyX11, rfl, by decide, inw11, tyX11_ok, nmX11, rfl, by decide +kernel, tw_520⟩
theorem tw_58 : Cond.fieldLinkNest RX11 36 "BothEnds$Text" "mirrored" "[I" "BothEnds" ∈ lw_nest := lw_inn (List.mem_of_getElem? (i := 58) (by decide +kernel)) rfl
theorem kF_X11_36 : me_F RX11 36 10 1 := ⟨RX10, TX10, 8, rfl, by decide, inw10, Or.inr ⟨_, tw_58⟩⟩
theorem kP_X11_39 : g_P RX11 39 11 3 (.object "BothEnds$Rows") := ⟨RX11, TX11, 16, tyX11, rfl, by decide, inw11, tyX11_ok, nmX11, rfl, by decide +kernel, tw_521⟩
theorem tw_129 : Cond.classLink RX11 42 RX0 ∈ lw_good := lw_in (List.mem_of_getElem? (i := 129) (by decide +kernel)) rfl
theorem tw_130 : Cond.instantiable RX0 5 ∈ lw_good := lw_in (List.mem_of_getElem? (i := 130) (by decide +kernel)) rfl
theorem kN_X11_42 : g_N RX11 42 0 5 [.null, .null, .null, .int 0, .int 0] := ⟨RX0, TX0, tyX0, rfl, inw0, tyX0_ok, tw_129, tw_130, tw_5, fun j hj => by rcases (show j = 0 ∨ j = 1 ∨ j = 2 ∨ j = 3 ∨ j = 4 by omega) with rfl | rfl | rfl | rfl | rfl <;> rfl⟩
theorem tw_131 : Cond.methodLinkNest RX11 44 yX0_init "BothEnds" ∈ lw_nest := lw_inn (List.mem_of_getElem? (i := 131) (by decide +kernel)) rfl
theorem tw_132 : Cond.instanceMethod yX0_init ∈ lw_good := lw_in (List.mem_of_getElem? (i := 132) (by decide +kernel)) rfl
theorem tw_133 : Cond.code yX0_init cX0_init 3 none ∈ lw_good := lw_in (List.mem_of_getElem? (i := 133) (by decide +kernel)) rfl
theorem kC_X11_44 : g_V RX11 44 yX0_init cX0_init 3 2 := ⟨Or.inr ⟨_, tw_131⟩, tw_132, tw_5, tw_133, by decide +kernel, by decide +kernel, by decide +kernel, by decide, rfl⟩
theorem kP_X11_47 : g_P RX11 47 11 4 (.object "BothEnds$Cursor") := ⟨RX11, TX11, 16, tyX11, rfl, by decide, inw11, tyX11_ok, nmX11, rfl, by decide +kernel, tw_522⟩
theorem tw_179 : Cond.classLink RX11 51 RX2 ∈ lw_good := lw_in (List.mem_of_getElem? (i := 179) (by decide +kernel)) rfl
theorem tw_180 : Cond.instantiable RX2 6 ∈ lw_good := lw_in (List.mem_of_getElem? (i := 180) (by decide +kernel)) rfl
theorem kN_X11_51 : g_N RX11 51 2 6 [.null, .null, .null, .null, .null, .int 0] := ⟨RX2, TX2, tyX2, rfl, inw2, tyX2_ok, tw_179, tw_180, tw_7, fun j hj => by rcases (show j = 0 ∨ j = 1 ∨ j = 2 ∨ j = 3 ∨ j = 4 ∨ j = 5 by omega) with rfl | rfl | rfl | rfl | rfl | rfl <;> rfl⟩
theorem tw_181 : Cond.methodLinkNest RX11 53 yX2_init "BothEnds" ∈ lw_nest := lw_inn (List.mem_of_getElem? (i := 181) (by decide +kernel)) rfl
theorem tw_182 : Cond.instanceMethod yX2_init ∈ lw_good := lw_in (List.mem_of_getElem? (i := 182) (by decide +kernel)) rfl
theorem tw_183 : Cond.code yX2_init cX2_init 3 none ∈ lw_good := lw_in (List.mem_of_getElem? (i := 183) (by decide +kernel)) rfl
theorem kC_X11_53 : g_V RX11 53 yX2_init cX2_init 3 2 := ⟨Or.inr ⟨_, tw_181⟩, tw_182, tw_7, tw_183, by decide +kernel, by decide +kernel, by decide +kernel, by decide, rfl⟩
theorem kP_X11_56 : g_P RX11 56 11 5 (.object "BothEnds$Repeats") := ⟨RX11, TX11, 16, tyX11, rfl, by decide, inw11, tyX11_ok, nmX11, rfl, by decide +kernel, tw_523⟩
theorem tw_207 : Cond.classLink RX11 60 RX8 ∈ lw_good := lw_in (List.mem_of_getElem? (i := 207) (by decide +kernel)) rfl
theorem tw_208 : Cond.instantiable RX8 9 ∈ lw_good := lw_in (List.mem_of_getElem? (i := 208) (by decide +kernel)) rfl
theorem kN_X11_60 : g_N RX11 60 8 9 [.null, .null, .null, .null, .null, .null, .int 0, .int 0, .int 0] := ⟨RX8, TX8, tyX8, rfl, inw8, tyX8_ok, tw_207, tw_208, tw_8, fun j hj => by rcases (show j = 0 ∨ j = 1 ∨ j = 2 ∨ j = 3 ∨ j = 4 ∨ j = 5 ∨ j = 6 ∨ j = 7 ∨ j = 8 by omega) with rfl | rfl | rfl | rfl | rfl | rfl | rfl | rfl | rfl <;> rfl⟩
theorem tw_209 : Cond.methodLinkNest RX11 62 yX8_init "BothEnds" ∈ lw_nest := lw_inn (List.mem_of_getElem? (i := 209) (by decide +kernel)) rfl
theorem tw_210 : Cond.instanceMethod yX8_init ∈ lw_good := lw_in (List.mem_of_getElem? (i := 210) (by decide +kernel)) rfl
theorem tw_211 : Cond.code yX8_init cX8_init 2 none ∈ lw_good := lw_in (List.mem_of_getElem? (i := 211) (by decide +kernel)) rfl
theorem kC_X11_62 : g_V RX11 62 yX8_init cX8_init 2 1 := ⟨Or.inr ⟨_, tw_209⟩, tw_210, tw_8, tw_211, by decide +kernel, by decide +kernel, by decide +kernel, by decide, rfl⟩
theorem kP_X11_65 : g_P RX11 65 11 6 (.object "BothEnds$Stretches") := ⟨RX11, TX11, 16, tyX11, rfl, by decide, inw11, tyX11_ok, nmX11, rfl, by decide +kernel, tw_524⟩
theorem tw_248 : Cond.classLink RX11 69 RX1 ∈ lw_good := lw_in (List.mem_of_getElem? (i := 248) (by decide +kernel)) rfl
theorem tw_249 : Cond.instantiable RX1 12 ∈ lw_good := lw_in (List.mem_of_getElem? (i := 249) (by decide +kernel)) rfl
theorem kN_X11_69 : g_N RX11 69 1 12 [.null, .null, .null, .null, .null, .null, .null, .null, .null, .int 0, .int 0, .int 0] := ⟨RX1, TX1, tyX1, rfl, inw1, tyX1_ok, tw_248, tw_249, tw_9, fun j hj => by rcases (show j = 0 ∨ j = 1 ∨ j = 2 ∨ j = 3 ∨ j = 4 ∨ j = 5 ∨ j = 6 ∨ j = 7 ∨ j = 8 ∨ j = 9 ∨ j = 10 ∨ j = 11 by omega) with rfl | rfl | rfl | rfl | rfl | rfl | rfl | rfl | rfl | rfl | rfl | rfl <;> rfl⟩
theorem tw_250 : Cond.methodLinkNest RX11 71 yX1_init "BothEnds" ∈ lw_nest := lw_inn (List.mem_of_getElem? (i := 250) (by decide +kernel)) rfl
theorem tw_251 : Cond.instanceMethod yX1_init ∈ lw_good := lw_in (List.mem_of_getElem? (i := 251) (by decide +kernel)) rfl
theorem tw_252 : Cond.code yX1_init cX1_init 4 none ∈ lw_good := lw_in (List.mem_of_getElem? (i := 252) (by decide +kernel)) rfl
theorem kC_X11_71 : g_V RX11 71 yX1_init cX1_init 4 3 := ⟨Or.inr ⟨_, tw_250⟩, tw_251, tw_9, tw_252, by decide +kernel, by decide +kernel, by decide +kernel, by decide, rfl⟩
theorem kP_X11_74 : g_P RX11 74 11 7 (.object "BothEnds$Hunt") := ⟨RX11, TX11, 16, tyX11, rfl, by decide, inw11, tyX11_ok, nmX11, rfl, by decide +kernel, tw_525⟩
theorem tw_299 : Cond.classLink RX11 78 RX3 ∈ lw_good := lw_in (List.mem_of_getElem? (i := 299) (by decide +kernel)) rfl
theorem tw_300 : Cond.instantiable RX3 9 ∈ lw_good := lw_in (List.mem_of_getElem? (i := 300) (by decide +kernel)) rfl
theorem kN_X11_78 : g_N RX11 78 3 9 [.null, .null, .null, .null, .int 0, .int 0, .int 0, .int 0, .int 0] := ⟨RX3, TX3, tyX3, rfl, inw3, tyX3_ok, tw_299, tw_300, tw_10, fun j hj => by rcases (show j = 0 ∨ j = 1 ∨ j = 2 ∨ j = 3 ∨ j = 4 ∨ j = 5 ∨ j = 6 ∨ j = 7 ∨ j = 8 by omega) with rfl | rfl | rfl | rfl | rfl | rfl | rfl | rfl | rfl <;> rfl⟩
theorem tw_301 : Cond.methodLinkNest RX11 80 yX3_init "BothEnds" ∈ lw_nest := lw_inn (List.mem_of_getElem? (i := 301) (by decide +kernel)) rfl
theorem tw_302 : Cond.instanceMethod yX3_init ∈ lw_good := lw_in (List.mem_of_getElem? (i := 302) (by decide +kernel)) rfl
theorem tw_303 : Cond.code yX3_init cX3_init 1 none ∈ lw_good := lw_in (List.mem_of_getElem? (i := 303) (by decide +kernel)) rfl
theorem kC_X11_80 : g_V RX11 80 yX3_init cX3_init 1 0 := ⟨Or.inr ⟨_, tw_301⟩, tw_302, tw_10, tw_303, by decide +kernel, by decide +kernel, by decide +kernel, by decide, rfl⟩
theorem kP_X11_81 : g_P RX11 81 11 8 (.object "BothEnds$Result") := ⟨RX11, TX11, 16, tyX11, rfl, by decide, inw11, tyX11_ok, nmX11, rfl, by decide +kernel, tw_526⟩
theorem tw_342 : Cond.classLink RX11 85 RX6 ∈ lw_good := lw_in (List.mem_of_getElem? (i := 342) (by decide +kernel)) rfl
theorem tw_343 : Cond.instantiable RX6 5 ∈ lw_good := lw_in (List.mem_of_getElem? (i := 343) (by decide +kernel)) rfl
theorem kN_X11_85 : g_N RX11 85 6 5 [.null, .int 0, .int 0, .int 0, .int 0] := ⟨RX6, TX6, tyX6, rfl, inw6, tyX6_ok, tw_342, tw_343, tw_11, fun j hj => by rcases (show j = 0 ∨ j = 1 ∨ j = 2 ∨ j = 3 ∨ j = 4 by omega) with rfl | rfl | rfl | rfl | rfl <;> rfl⟩
theorem tw_344 : Cond.methodLinkNest RX11 87 yX6_init "BothEnds" ∈ lw_nest := lw_inn (List.mem_of_getElem? (i := 344) (by decide +kernel)) rfl
theorem tw_345 : Cond.instanceMethod yX6_init ∈ lw_good := lw_in (List.mem_of_getElem? (i := 345) (by decide +kernel)) rfl
theorem tw_346 : Cond.code yX6_init cX6_init 2 none ∈ lw_good := lw_in (List.mem_of_getElem? (i := 346) (by decide +kernel)) rfl
theorem kC_X11_87 : g_V RX11 87 yX6_init cX6_init 2 1 := ⟨Or.inr ⟨_, tw_344⟩, tw_345, tw_11, tw_346, by decide +kernel, by decide +kernel, by decide +kernel, by decide, rfl⟩
theorem kP_X11_90 : g_P RX11 90 11 9 (.object "BothEnds$SchemeReader") := ⟨RX11, TX11, 16, tyX11, rfl, by decide, inw11, tyX11_ok, nmX11, rfl, by decide +kernel, tw_527⟩
theorem tw_366 : Cond.classLink RX11 94 RX5 ∈ lw_good := lw_in (List.mem_of_getElem? (i := 366) (by decide +kernel)) rfl
theorem tw_367 : Cond.instantiable RX5 11 ∈ lw_good := lw_in (List.mem_of_getElem? (i := 367) (by decide +kernel)) rfl
theorem kN_X11_94 : g_N RX11 94 5 11 [.null, .null, .null, .null, .int 0, .int 0, .int 0, .int 0, .int 0, .int 0, .int 0] := ⟨RX5, TX5, tyX5, rfl, inw5, tyX5_ok, tw_366, tw_367, tw_12, fun j hj => by rcases (show j = 0 ∨ j = 1 ∨ j = 2 ∨ j = 3 ∨ j = 4 ∨ j = 5 ∨ j = 6 ∨ j = 7 ∨ j = 8 ∨ j = 9 ∨ j = 10 by omega) with rfl | rfl | rfl | rfl | rfl | rfl | rfl | rfl | rfl | rfl | rfl <;> rfl⟩
theorem tw_368 : Cond.methodLinkNest RX11 96 yX5_init "BothEnds" ∈ lw_nest := lw_inn (List.mem_of_getElem? (i := 368) (by decide +kernel)) rfl
theorem tw_369 : Cond.instanceMethod yX5_init ∈ lw_good := lw_in (List.mem_of_getElem? (i := 369) (by decide +kernel)) rfl
theorem tw_370 : Cond.code yX5_init cX5_init 1 none ∈ lw_good := lw_in (List.mem_of_getElem? (i := 370) (by decide +kernel)) rfl
theorem kC_X11_96 : g_V RX11 96 yX5_init cX5_init 1 0 := ⟨Or.inr ⟨_, tw_368⟩, tw_369, tw_12, tw_370, by decide +kernel, by decide +kernel, by decide +kernel, by decide, rfl⟩
theorem kP_X11_97 : g_P RX11 97 11 10 (.object "BothEnds$Scheme") := ⟨RX11, TX11, 16, tyX11, rfl, by decide, inw11, tyX11_ok, nmX11, rfl, by decide +kernel, tw_528⟩
theorem kP_X11_101 : g_P RX11 101 11 11 (.object "BothEnds$Scheme") := ⟨RX11, TX11, 16, tyX11, rfl, by decide, inw11, tyX11_ok, nmX11, rfl, by decide +kernel, tw_529⟩
theorem kP_X11_104 : g_P RX11 104 11 12 .int := ⟨RX11, TX11, 16, tyX11, rfl, by decide, inw11, tyX11_ok, nmX11, rfl, by decide +kernel, tw_530⟩
