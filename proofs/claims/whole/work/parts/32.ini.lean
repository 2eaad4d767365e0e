theorem oi_a : Cond.instanceMethod Lib.objectInit ∈ xGT := xGT_of 56 (by decide +kernel) (by decide +kernel)
theorem oi_b : Cond.code Lib.objectInit ⟨#[0xb1]⟩ 1 none ∈ xGT := xGT_of 57 (by decide +kernel) (by decide +kernel)
theorem ci_Co_11 : xCi "PaletteFrames$Coder" 11 y_Nu_init b_Nu_init 2 1 := ⟨⟨Or.inl gw_88, gw_68, gw_32, by decide +kernel⟩, gw_67, rfl⟩
theorem ci_Co_29 : xCi "PaletteFrames$Coder" 29 y_Wi_init b_Wi_init 2 1 := ⟨⟨Or.inl gw_91, gw_93, gw_34, by decide +kernel⟩, gw_92, rfl⟩
theorem ci_Co_36 : xCi "PaletteFrames$Coder" 36 y_St_init b_St_init 2 1 := ⟨⟨Or.inl gw_112, gw_114, gw_35, by decide +kernel⟩, gw_113, rfl⟩
theorem ci_Fr_17 : xCi "PaletteFrames$Frame" 17 y_Pa_init b_Pa_init 2 1 := ⟨⟨Or.inl gw_234, gw_219, gw_38, by decide +kernel⟩, gw_218, rfl⟩
theorem ci_PF_24 : xCi "PaletteFrames" 24 y_Nu_init b_Nu_init 2 1 := ⟨⟨Or.inl gw_66, gw_68, gw_32, by decide +kernel⟩, gw_67, rfl⟩
theorem ci_PF_36 : xCi "PaletteFrames" 36 y_Co_init b_Co_init 2 1 := ⟨⟨Or.inl gw_83, gw_85, gw_33, by decide +kernel⟩, gw_84, rfl⟩
theorem ci_PF_43 : xCi "PaletteFrames" 43 y_Re_init b_Re_init 2 1 := ⟨⟨Or.inl gw_176, gw_178, gw_36, by decide +kernel⟩, gw_177, rfl⟩
theorem ci_PF_50 : xCi "PaletteFrames" 50 y_Sc_init b_Sc_init 3 1 := ⟨⟨Or.inl gw_209, gw_211, gw_37, by decide +kernel⟩, gw_210, rfl⟩
theorem ci_Re_11 : xCi "PaletteFrames$Reader" 11 y_Nu_init b_Nu_init 2 1 := ⟨⟨Or.inl gw_181, gw_68, gw_32, by decide +kernel⟩, gw_67, rfl⟩
theorem ci_Re_36 : xCi "PaletteFrames$Reader" 36 y_Wi_init b_Wi_init 2 1 := ⟨⟨Or.inl gw_183, gw_93, gw_34, by decide +kernel⟩, gw_92, rfl⟩
theorem ci_Sc_19 : xCi "PaletteFrames$Screen" 19 y_Pa_init b_Pa_init 2 1 := ⟨⟨Or.inl gw_217, gw_219, gw_38, by decide +kernel⟩, gw_218, rfl⟩
theorem ci_Sc_26 : xCi "PaletteFrames$Screen" 26 y_Fr_init b_Fr_init 2 1 := ⟨⟨Or.inl gw_229, gw_231, gw_40, by decide +kernel⟩, gw_230, rfl⟩
theorem if_Co_20 : xFIF "PaletteFrames$Coder" 20 3 0 := ⟨("PaletteFrames$Coder", T_3, 12), rfl, rfl, rfl, rfl, gw_132⟩
theorem if_Co_24 : xFIF "PaletteFrames$Coder" 24 3 1 := ⟨("PaletteFrames$Coder", T_3, 12), rfl, rfl, rfl, rfl, gw_133⟩
theorem if_Mo_80 : xFIF "PaletteFramesModel" 80 9 0 := ⟨("PaletteFramesModel", T_9, 37), rfl, rfl, rfl, rfl, gw_788⟩
theorem if_Mo_84 : xFIF "PaletteFramesModel" 84 9 1 := ⟨("PaletteFramesModel", T_9, 37), rfl, rfl, rfl, rfl, gw_789⟩
theorem if_Mo_87 : xFIF "PaletteFramesModel" 87 9 2 := ⟨("PaletteFramesModel", T_9, 37), rfl, rfl, rfl, rfl, gw_790⟩
theorem if_PF_18 : xFIF "PaletteFrames" 18 8 0 := ⟨("PaletteFrames", T_8, 7), rfl, rfl, rfl, rfl, gw_284⟩
theorem if_Re_27 : xFIF "PaletteFrames$Reader" 27 4 0 := ⟨("PaletteFrames$Reader", T_4, 7), rfl, rfl, rfl, rfl, gw_184⟩
theorem if_Re_31 : xFIF "PaletteFrames$Reader" 31 4 1 := ⟨("PaletteFrames$Reader", T_4, 7), rfl, rfl, rfl, rfl, gw_185⟩
theorem if_St_21 : xFIF "PaletteFrames$Strings" 21 2 0 := ⟨("PaletteFrames$Strings", T_2, 5), rfl, rfl, rfl, rfl, gw_116⟩
theorem if_Wi_15 : xFIF "PaletteFrames$Width" 15 1 1 := ⟨("PaletteFrames$Width", T_1, 4), rfl, rfl, rfl, rfl, gw_96⟩
theorem if_Wi_9 : xFIF "PaletteFrames$Width" 9 1 0 := ⟨("PaletteFrames$Width", T_1, 4), rfl, rfl, rfl, rfl, gw_95⟩
theorem no_Co_27 : xNO "PaletteFrames$Coder" 27 1 4 [none, none, none, none] := ⟨"PaletteFrames$Width", T_1, t_1, rfl, ty_1, iw_1, ⟨gw_89, gw_90, gw_34⟩, by decide +kernel, by decide⟩
theorem no_Co_34 : xNO "PaletteFrames$Coder" 34 2 5 [none, some .null, some .null, some .null, none] := ⟨"PaletteFrames$Strings", T_2, t_2, rfl, ty_2, iw_2, ⟨gw_110, gw_111, gw_35⟩, by decide +kernel, by decide⟩
theorem no_Co_9 : xNO "PaletteFrames$Coder" 9 0 2 [some .null, none] := ⟨"PaletteFrames$Numbers", T_0, t_0, rfl, ty_0, iw_0, ⟨gw_87, gw_65, gw_32⟩, by decide +kernel, by decide⟩
theorem no_Fr_15 : xNO "PaletteFrames$Frame" 15 5 1 [some .null] := ⟨"PaletteFrames$Palette", T_5, t_5, rfl, ty_5, iw_5, ⟨gw_233, gw_216, gw_38⟩, by decide +kernel, by decide⟩
theorem no_PF_22 : xNO "PaletteFrames" 22 0 2 [some .null, none] := ⟨"PaletteFrames$Numbers", T_0, t_0, rfl, ty_0, iw_0, ⟨gw_64, gw_65, gw_32⟩, by decide +kernel, by decide⟩
theorem no_PF_34 : xNO "PaletteFrames" 34 3 12 [none, none, some .null, some .null, some .null, none, none, none, none, none, none, none] := ⟨"PaletteFrames$Coder", T_3, t_3, rfl, ty_3, iw_3, ⟨gw_81, gw_82, gw_33⟩, by decide +kernel, by decide⟩
theorem no_PF_41 : xNO "PaletteFrames" 41 4 7 [none, none, some .null, some .null, some .null, some .null, none] := ⟨"PaletteFrames$Reader", T_4, t_4, rfl, ty_4, iw_4, ⟨gw_174, gw_175, gw_36⟩, by decide +kernel, by decide⟩
theorem no_PF_48 : xNO "PaletteFrames" 48 7 3 [some .null, some .null, none] := ⟨"PaletteFrames$Screen", T_7, t_7, rfl, ty_7, iw_7, ⟨gw_207, gw_208, gw_37⟩, by decide +kernel, by decide⟩
theorem no_Re_34 : xNO "PaletteFrames$Reader" 34 1 4 [none, none, none, none] := ⟨"PaletteFrames$Width", T_1, t_1, rfl, ty_1, iw_1, ⟨gw_182, gw_90, gw_34⟩, by decide +kernel, by decide⟩
theorem no_Re_9 : xNO "PaletteFrames$Reader" 9 0 2 [some .null, none] := ⟨"PaletteFrames$Numbers", T_0, t_0, rfl, ty_0, iw_0, ⟨gw_180, gw_65, gw_32⟩, by decide +kernel, by decide⟩
theorem no_Sc_17 : xNO "PaletteFrames$Screen" 17 5 1 [some .null] := ⟨"PaletteFrames$Palette", T_5, t_5, rfl, ty_5, iw_5, ⟨gw_215, gw_216, gw_38⟩, by decide +kernel, by decide⟩
theorem no_Sc_9 : xNO "PaletteFrames$Screen" 9 6 9 [some .null, some .null, none, none, none, none, none, none, none] := ⟨"PaletteFrames$Frame", T_6, t_6, rfl, ty_6, iw_6, ⟨gw_213, gw_228, gw_40⟩, by decide +kernel, by decide⟩
theorem oi_Co_3 : Cond.methodLink "PaletteFrames$Coder" 3 Lib.objectInit ∈ xGT ∧ Cond.instanceMethod Lib.objectInit ∈ xGT ∧ Cond.code Lib.objectInit ⟨#[0xb1]⟩ 1 none ∈ xGT := ⟨xGT_of 86 (by decide +kernel) (by decide +kernel), oi_a, oi_b⟩
theorem oi_Fr_3 : Cond.methodLink "PaletteFrames$Frame" 3 Lib.objectInit ∈ xGT ∧ Cond.instanceMethod Lib.objectInit ∈ xGT ∧ Cond.code Lib.objectInit ⟨#[0xb1]⟩ 1 none ∈ xGT := ⟨xGT_of 232 (by decide +kernel) (by decide +kernel), oi_a, oi_b⟩
theorem oi_Mo_1 : Cond.methodLink "PaletteFramesModel" 1 Lib.objectInit ∈ xGT ∧ Cond.instanceMethod Lib.objectInit ∈ xGT ∧ Cond.code Lib.objectInit ⟨#[0xb1]⟩ 1 none ∈ xGT := ⟨xGT_of 783 (by decide +kernel) (by decide +kernel), oi_a, oi_b⟩
theorem oi_Nu_3 : Cond.methodLink "PaletteFrames$Numbers" 3 Lib.objectInit ∈ xGT ∧ Cond.instanceMethod Lib.objectInit ∈ xGT ∧ Cond.code Lib.objectInit ⟨#[0xb1]⟩ 1 none ∈ xGT := ⟨xGT_of 69 (by decide +kernel) (by decide +kernel), oi_a, oi_b⟩
theorem oi_PF_3 : Cond.methodLink "PaletteFrames" 3 Lib.objectInit ∈ xGT ∧ Cond.instanceMethod Lib.objectInit ∈ xGT ∧ Cond.code Lib.objectInit ⟨#[0xb1]⟩ 1 none ∈ xGT := ⟨xGT_of 55 (by decide +kernel) (by decide +kernel), oi_a, oi_b⟩
theorem oi_Pa_3 : Cond.methodLink "PaletteFrames$Palette" 3 Lib.objectInit ∈ xGT ∧ Cond.instanceMethod Lib.objectInit ∈ xGT ∧ Cond.code Lib.objectInit ⟨#[0xb1]⟩ 1 none ∈ xGT := ⟨xGT_of 220 (by decide +kernel) (by decide +kernel), oi_a, oi_b⟩
theorem oi_Re_3 : Cond.methodLink "PaletteFrames$Reader" 3 Lib.objectInit ∈ xGT ∧ Cond.instanceMethod Lib.objectInit ∈ xGT ∧ Cond.code Lib.objectInit ⟨#[0xb1]⟩ 1 none ∈ xGT := ⟨xGT_of 179 (by decide +kernel) (by decide +kernel), oi_a, oi_b⟩
theorem oi_Sc_3 : Cond.methodLink "PaletteFrames$Screen" 3 Lib.objectInit ∈ xGT ∧ Cond.instanceMethod Lib.objectInit ∈ xGT ∧ Cond.code Lib.objectInit ⟨#[0xb1]⟩ 1 none ∈ xGT := ⟨xGT_of 212 (by decide +kernel) (by decide +kernel), oi_a, oi_b⟩
theorem oi_St_3 : Cond.methodLink "PaletteFrames$Strings" 3 Lib.objectInit ∈ xGT ∧ Cond.instanceMethod Lib.objectInit ∈ xGT ∧ Cond.code Lib.objectInit ⟨#[0xb1]⟩ 1 none ∈ xGT := ⟨xGT_of 115 (by decide +kernel) (by decide +kernel), oi_a, oi_b⟩
theorem oi_Wi_3 : Cond.methodLink "PaletteFrames$Width" 3 Lib.objectInit ∈ xGT ∧ Cond.instanceMethod Lib.objectInit ∈ xGT ∧ Cond.code Lib.objectInit ⟨#[0xb1]⟩ 1 none ∈ xGT := ⟨xGT_of 94 (by decide +kernel) (by decide +kernel), oi_a, oi_b⟩
theorem rf_Co_14 : xFRF "PaletteFrames$Coder" 14 3 4 := ⟨("PaletteFrames$Coder", T_3, 12), .object "PaletteFrames$Numbers", rfl, rfl, by decide +kernel, fun _ => ⟨rfl, rfl⟩, rfl, gw_137⟩
theorem rf_Co_30 : xFRF "PaletteFrames$Coder" 30 3 2 := ⟨("PaletteFrames$Coder", T_3, 12), .object "PaletteFrames$Width", rfl, rfl, by decide +kernel, fun _ => ⟨rfl, rfl⟩, rfl, gw_134⟩
theorem rf_Co_37 : xFRF "PaletteFrames$Coder" 37 3 3 := ⟨("PaletteFrames$Coder", T_3, 12), .object "PaletteFrames$Strings", rfl, rfl, by decide +kernel, fun _ => ⟨rfl, rfl⟩, rfl, gw_135⟩
theorem rf_Fr_20 : xFRF "PaletteFrames$Frame" 20 6 1 := ⟨("PaletteFrames$Frame", T_6, 9), .object "PaletteFrames$Palette", rfl, rfl, by decide +kernel, fun _ => ⟨rfl, rfl⟩, rfl, gw_236⟩
theorem rf_Fr_9 : xFRF "PaletteFrames$Frame" 9 6 0 := ⟨("PaletteFrames$Frame", T_6, 9), .array .int, rfl, rfl, by decide +kernel, fun _ => ⟨rfl, rfl⟩, rfl, gw_235⟩
theorem rf_Mo_13 : xFRF "PaletteFramesModel" 13 9 8 := ⟨("PaletteFramesModel", T_9, 37), .array .byte, rfl, rfl, by decide +kernel, fun _ => ⟨rfl, rfl⟩, rfl, gw_796⟩
theorem rf_Mo_17 : xFRF "PaletteFramesModel" 17 9 9 := ⟨("PaletteFramesModel", T_9, 37), .array .int, rfl, rfl, by decide +kernel, fun _ => ⟨rfl, rfl⟩, rfl, gw_797⟩
theorem rf_Mo_20 : xFRF "PaletteFramesModel" 20 9 11 := ⟨("PaletteFramesModel", T_9, 37), .array .byte, rfl, rfl, by decide +kernel, fun _ => ⟨rfl, rfl⟩, rfl, gw_799⟩
theorem rf_Mo_23 : xFRF "PaletteFramesModel" 23 9 13 := ⟨("PaletteFramesModel", T_9, 37), .array .int, rfl, rfl, by decide +kernel, fun _ => ⟨rfl, rfl⟩, rfl, gw_801⟩
theorem rf_Mo_26 : xFRF "PaletteFramesModel" 26 9 15 := ⟨("PaletteFramesModel", T_9, 37), .array .int, rfl, rfl, by decide +kernel, fun _ => ⟨rfl, rfl⟩, rfl, gw_803⟩
theorem rf_Mo_29 : xFRF "PaletteFramesModel" 29 9 16 := ⟨("PaletteFramesModel", T_9, 37), .array .int, rfl, rfl, by decide +kernel, fun _ => ⟨rfl, rfl⟩, rfl, gw_804⟩
theorem rf_Mo_32 : xFRF "PaletteFramesModel" 32 9 17 := ⟨("PaletteFramesModel", T_9, 37), .array .int, rfl, rfl, by decide +kernel, fun _ => ⟨rfl, rfl⟩, rfl, gw_805⟩
theorem rf_Mo_35 : xFRF "PaletteFramesModel" 35 9 18 := ⟨("PaletteFramesModel", T_9, 37), .array .int, rfl, rfl, by decide +kernel, fun _ => ⟨rfl, rfl⟩, rfl, gw_806⟩
theorem rf_Mo_38 : xFRF "PaletteFramesModel" 38 9 19 := ⟨("PaletteFramesModel", T_9, 37), .array .int, rfl, rfl, by decide +kernel, fun _ => ⟨rfl, rfl⟩, rfl, gw_807⟩
theorem rf_Mo_41 : xFRF "PaletteFramesModel" 41 9 24 := ⟨("PaletteFramesModel", T_9, 37), .array .int, rfl, rfl, by decide +kernel, fun _ => ⟨rfl, rfl⟩, rfl, gw_812⟩
theorem rf_Mo_44 : xFRF "PaletteFramesModel" 44 9 25 := ⟨("PaletteFramesModel", T_9, 37), .array .int, rfl, rfl, by decide +kernel, fun _ => ⟨rfl, rfl⟩, rfl, gw_813⟩
theorem rf_Mo_47 : xFRF "PaletteFramesModel" 47 9 26 := ⟨("PaletteFramesModel", T_9, 37), .array .int, rfl, rfl, by decide +kernel, fun _ => ⟨rfl, rfl⟩, rfl, gw_814⟩
theorem rf_Mo_50 : xFRF "PaletteFramesModel" 50 9 27 := ⟨("PaletteFramesModel", T_9, 37), .array .int, rfl, rfl, by decide +kernel, fun _ => ⟨rfl, rfl⟩, rfl, gw_815⟩
theorem rf_Mo_53 : xFRF "PaletteFramesModel" 53 9 28 := ⟨("PaletteFramesModel", T_9, 37), .array .int, rfl, rfl, by decide +kernel, fun _ => ⟨rfl, rfl⟩, rfl, gw_816⟩
theorem rf_Mo_56 : xFRF "PaletteFramesModel" 56 9 29 := ⟨("PaletteFramesModel", T_9, 37), .array .int, rfl, rfl, by decide +kernel, fun _ => ⟨rfl, rfl⟩, rfl, gw_817⟩
theorem rf_Mo_59 : xFRF "PaletteFramesModel" 59 9 30 := ⟨("PaletteFramesModel", T_9, 37), .array .int, rfl, rfl, by decide +kernel, fun _ => ⟨rfl, rfl⟩, rfl, gw_818⟩
theorem rf_Mo_62 : xFRF "PaletteFramesModel" 62 9 31 := ⟨("PaletteFramesModel", T_9, 37), .array .int, rfl, rfl, by decide +kernel, fun _ => ⟨rfl, rfl⟩, rfl, gw_819⟩
theorem rf_Mo_65 : xFRF "PaletteFramesModel" 65 9 32 := ⟨("PaletteFramesModel", T_9, 37), .array .int, rfl, rfl, by decide +kernel, fun _ => ⟨rfl, rfl⟩, rfl, gw_820⟩
theorem rf_Mo_68 : xFRF "PaletteFramesModel" 68 9 33 := ⟨("PaletteFramesModel", T_9, 37), .array .int, rfl, rfl, by decide +kernel, fun _ => ⟨rfl, rfl⟩, rfl, gw_821⟩
theorem rf_Mo_7 : xFRF "PaletteFramesModel" 7 9 6 := ⟨("PaletteFramesModel", T_9, 37), .array .int, rfl, rfl, by decide +kernel, fun _ => ⟨rfl, rfl⟩, rfl, gw_794⟩
theorem rf_Mo_71 : xFRF "PaletteFramesModel" 71 9 34 := ⟨("PaletteFramesModel", T_9, 37), .array .int, rfl, rfl, by decide +kernel, fun _ => ⟨rfl, rfl⟩, rfl, gw_822⟩
theorem rf_Mo_74 : xFRF "PaletteFramesModel" 74 9 35 := ⟨("PaletteFramesModel", T_9, 37), .array .int, rfl, rfl, by decide +kernel, fun _ => ⟨rfl, rfl⟩, rfl, gw_823⟩
theorem rf_Mo_77 : xFRF "PaletteFramesModel" 77 9 36 := ⟨("PaletteFramesModel", T_9, 37), .array .int, rfl, rfl, by decide +kernel, fun _ => ⟨rfl, rfl⟩, rfl, gw_824⟩
theorem rf_Nu_9 : xFRF "PaletteFrames$Numbers" 9 0 0 := ⟨("PaletteFrames$Numbers", T_0, 2), .array .int, rfl, rfl, by decide +kernel, fun _ => ⟨rfl, rfl⟩, rfl, gw_70⟩
theorem rf_PF_27 : xFRF "PaletteFrames" 27 8 1 := ⟨("PaletteFrames", T_8, 7), .object "PaletteFrames$Numbers", rfl, rfl, by decide +kernel, fun _ => ⟨rfl, rfl⟩, rfl, gw_285⟩
theorem rf_PF_31 : xFRF "PaletteFrames" 31 8 2 := ⟨("PaletteFrames", T_8, 7), .object "PaletteFrames$Numbers", rfl, rfl, by decide +kernel, fun _ => ⟨rfl, rfl⟩, rfl, gw_286⟩
theorem rf_PF_37 : xFRF "PaletteFrames" 37 8 3 := ⟨("PaletteFrames", T_8, 7), .object "PaletteFrames$Coder", rfl, rfl, by decide +kernel, fun _ => ⟨rfl, rfl⟩, rfl, gw_287⟩
theorem rf_PF_44 : xFRF "PaletteFrames" 44 8 4 := ⟨("PaletteFrames", T_8, 7), .object "PaletteFrames$Reader", rfl, rfl, by decide +kernel, fun _ => ⟨rfl, rfl⟩, rfl, gw_288⟩
theorem rf_PF_51 : xFRF "PaletteFrames" 51 8 5 := ⟨("PaletteFrames", T_8, 7), .object "PaletteFrames$Screen", rfl, rfl, by decide +kernel, fun _ => ⟨rfl, rfl⟩, rfl, gw_289⟩
theorem rf_Pa_9 : xFRF "PaletteFrames$Palette" 9 5 0 := ⟨("PaletteFrames$Palette", T_5, 1), .array .int, rfl, rfl, by decide +kernel, fun _ => ⟨rfl, rfl⟩, rfl, gw_224⟩
theorem rf_Re_14 : xFRF "PaletteFrames$Reader" 14 4 3 := ⟨("PaletteFrames$Reader", T_4, 7), .object "PaletteFrames$Numbers", rfl, rfl, by decide +kernel, fun _ => ⟨rfl, rfl⟩, rfl, gw_187⟩
theorem rf_Re_20 : xFRF "PaletteFrames$Reader" 20 4 4 := ⟨("PaletteFrames$Reader", T_4, 7), .array .int, rfl, rfl, by decide +kernel, fun _ => ⟨rfl, rfl⟩, rfl, gw_189⟩
theorem rf_Re_24 : xFRF "PaletteFrames$Reader" 24 4 5 := ⟨("PaletteFrames$Reader", T_4, 7), .array .int, rfl, rfl, by decide +kernel, fun _ => ⟨rfl, rfl⟩, rfl, gw_190⟩
theorem rf_Re_37 : xFRF "PaletteFrames$Reader" 37 4 2 := ⟨("PaletteFrames$Reader", T_4, 7), .object "PaletteFrames$Width", rfl, rfl, by decide +kernel, fun _ => ⟨rfl, rfl⟩, rfl, gw_186⟩
theorem rf_Sc_11 : xFRF "PaletteFrames$Screen" 11 7 0 := ⟨("PaletteFrames$Screen", T_7, 3), .array (.object "PaletteFrames$Frame"), rfl, rfl, by decide +kernel, fun _ => ⟨rfl, rfl⟩, rfl, gw_271⟩
theorem rf_Sc_22 : xFRF "PaletteFrames$Screen" 22 7 1 := ⟨("PaletteFrames$Screen", T_7, 3), .object "PaletteFrames$Palette", rfl, rfl, by decide +kernel, fun _ => ⟨rfl, rfl⟩, rfl, gw_273⟩
theorem rf_St_11 : xFRF "PaletteFrames$Strings" 11 2 1 := ⟨("PaletteFrames$Strings", T_2, 5), .array .int, rfl, rfl, by decide +kernel, fun _ => ⟨rfl, rfl⟩, rfl, gw_117⟩
theorem rf_St_15 : xFRF "PaletteFrames$Strings" 15 2 2 := ⟨("PaletteFrames$Strings", T_2, 5), .array .int, rfl, rfl, by decide +kernel, fun _ => ⟨rfl, rfl⟩, rfl, gw_118⟩
theorem rf_St_18 : xFRF "PaletteFrames$Strings" 18 2 3 := ⟨("PaletteFrames$Strings", T_2, 5), .array .int, rfl, rfl, by decide +kernel, fun _ => ⟨rfl, rfl⟩, rfl, gw_119⟩
def f_Nu_init (S : List xO) (a : Nat) (p0 : Int32) (F : xF) : Option (List xO × xF) :=
  (nA S 0 24000 p0 F).bind fun w1 =>
  (pR w1.1 0 a 0 w1.2.2).bind fun S6 =>
  some (S6, w1.2.1)
set_option maxHeartbeats 4000000 in
theorem n_Nu_init {S : List xO} {a : Nat} {p0 : Int32} {F : xF} {S2 : List xO} {F2 : xF} (h : f_Nu_init S a p0 F = some (S2, F2)) : S2.length = S.length + 1 := by
  unfold f_Nu_init at h
  obtain ⟨⟨S1, F2, q3⟩, e4, h⟩ := Option.bind_eq_some_iff.mp h
  dsimp only at h
  have z5 : S1.length = S.length + 1 := nA_len e4
  obtain ⟨S6, e7, h⟩ := Option.bind_eq_some_iff.mp h
  have z8 : S6.length = S1.length := pR_len e7
  obtain ⟨rfl, rfl⟩ := Prod.mk.inj (Option.some.inj h)
  omega
set_option maxHeartbeats 4000000 in
set_option maxRecDepth 100000 in
theorem c_Nu_init {l : Launch} {g : xG} {S : List xO} {G : xL} {a : Nat} {p0 : Int32} {F : xF} {S2 : List xO} {F2 : xF} (h : f_Nu_init S a p0 F = some (S2, F2)) : CT l g 1 20 1 24000 y_Nu_init b_Nu_init 2 none 0 [.ref a, .int p0] S F G none S2 F2 G := by
  refine CT.of [some (.ref a), some (.int p0)] (by decide) (Nat.le_of_ble_eq_true rfl) rfl ?_
  intro p e s m args below meth c C hr hmn hz
  have hz0 : s.heap.size = g.1 + S.length := hz rfl
  unfold f_Nu_init at h
  refine V.aload_n C 0 rfl rfl d_Nu_init_0 ?_
  refine V.objInit C oi_Nu_3 (by decide) d_Nu_init_1 ?_
  refine V.aload_n C 0 rfl rfl d_Nu_init_4 ?_
  refine V.iload_n C 1 rfl rfl d_Nu_init_5 ?_
  obtain ⟨⟨S1, F2, q3⟩, e4, h⟩ := Option.bind_eq_some_iff.mp h
  dsimp only at h
  refine V.xnewI C (by omega) gw_80 (by decide) e4 (by decide) d_Nu_init_6 ?_
  have z5 : S1.length = S.length + 1 := nA_len e4
  obtain ⟨S6, e7, h⟩ := Option.bind_eq_some_iff.mp h
  refine V.xputRF C hmn fl_Nu_9 ft_0 rf_Nu_9 e7 d_Nu_init_8 ?_
  have z8 : S6.length = S1.length := pR_len e7
  obtain ⟨rfl, rfl⟩ := Prod.mk.inj (Option.some.inj h)
  exact V.vret C hr d_Nu_init_11 rfl rfl rfl
def f_Wi_init (S : List xO) (a : Nat) (p0 : Int32) (F : xF) : Option (List xO × xF) :=
  (pI S 1 a 0 p0 F).bind fun F1 =>
  (pI S 1 a 1 (((1 : Int32) <<< (p0 &&& 31)) + (1 : Int32)) F1).bind fun F3 =>
  (pI S 1 a 2 (p0 + (1 : Int32)) F3).bind fun F5 =>
  some (S, F5)
set_option maxHeartbeats 4000000 in
theorem n_Wi_init {S : List xO} {a : Nat} {p0 : Int32} {F : xF} {S2 : List xO} {F2 : xF} (h : f_Wi_init S a p0 F = some (S2, F2)) : S2.length = S.length + 0 := by
  unfold f_Wi_init at h
  obtain ⟨F1, e2, h⟩ := Option.bind_eq_some_iff.mp h
  obtain ⟨F3, e4, h⟩ := Option.bind_eq_some_iff.mp h
  obtain ⟨F5, e6, h⟩ := Option.bind_eq_some_iff.mp h
  obtain ⟨rfl, rfl⟩ := Prod.mk.inj (Option.some.inj h)
  omega
set_option maxHeartbeats 4000000 in
set_option maxRecDepth 100000 in
theorem c_Wi_init {l : Launch} {g : xG} {S : List xO} {G : xL} {a : Nat} {p0 : Int32} {F : xF} {S2 : List xO} {F2 : xF} (h : f_Wi_init S a p0 F = some (S2, F2)) : CT l g 1 20 0 0 y_Wi_init b_Wi_init 2 none 0 [.ref a, .int p0] S F G none S2 F2 G := by
  refine CT.of [some (.ref a), some (.int p0)] (by decide) (Nat.le_of_ble_eq_true rfl) rfl ?_
  intro p e s m args below meth c C hr hmn hz
  have hz0 : s.heap.size = g.1 + S.length := hz rfl
  unfold f_Wi_init at h
  refine V.aload_n C 0 rfl rfl d_Wi_init_0 ?_
  refine V.objInit C oi_Wi_3 (by decide) d_Wi_init_1 ?_
  refine V.aload_n C 0 rfl rfl d_Wi_init_4 ?_
  refine V.iload_n C 1 rfl rfl d_Wi_init_5 ?_
  obtain ⟨F1, e2, h⟩ := Option.bind_eq_some_iff.mp h
  refine V.xputIF C hmn fl_Wi_9 ft_1 if_Wi_9 e2 d_Wi_init_6 ?_
  refine V.aload_n C 0 rfl rfl d_Wi_init_9 ?_
  refine V.iconst C 1 (by decide) d_Wi_init_10 ?_
  refine V.iload_n C 1 rfl rfl d_Wi_init_11 ?_
  refine V.ishl C d_Wi_init_12 ?_
  refine V.iconst C 1 (by decide) d_Wi_init_13 ?_
  refine V.iadd C d_Wi_init_14 ?_
  obtain ⟨F3, e4, h⟩ := Option.bind_eq_some_iff.mp h
  refine V.xputIF C hmn fl_Wi_15 ft_1 if_Wi_15 e4 d_Wi_init_15 ?_
  refine V.aload_n C 0 rfl rfl d_Wi_init_18 ?_
  refine V.iload_n C 1 rfl rfl d_Wi_init_19 ?_
  refine V.iconst C 1 (by decide) d_Wi_init_20 ?_
  refine V.iadd C d_Wi_init_21 ?_
  obtain ⟨F5, e6, h⟩ := Option.bind_eq_some_iff.mp h
  refine V.xputI C fl_Wi_18 ft_1 fi_1_2 e6 d_Wi_init_22 ?_
  obtain ⟨rfl, rfl⟩ := Prod.mk.inj (Option.some.inj h)
  exact V.vret C hr d_Wi_init_25 rfl rfl rfl
def f_St_init (S : List xO) (a : Nat) (p0 : Int32) (F : xF) : Option (List xO × xF) :=
  (nA S 0 8192 (8192 : Int32) F).bind fun w1 =>
  (pR w1.1 2 a 1 w1.2.2).bind fun S6 =>
  (nA S6 0 4096 (4096 : Int32) w1.2.1).bind fun w9 =>
  (pR w9.1 2 a 2 w9.2.2).bind fun S14 =>
  (nA S14 0 4096 (4096 : Int32) w9.2.1).bind fun w17 =>
  (pR w17.1 2 a 3 w17.2.2).bind fun S22 =>
  (pI S22 2 a 0 p0 w17.2.1).bind fun F25 =>
  (pI S22 2 a 4 p0 F25).bind fun F27 =>
  some (S22, F27)
set_option maxHeartbeats 4000000 in
theorem n_St_init {S : List xO} {a : Nat} {p0 : Int32} {F : xF} {S2 : List xO} {F2 : xF} (h : f_St_init S a p0 F = some (S2, F2)) : S2.length = S.length + 3 := by
  unfold f_St_init at h
  obtain ⟨⟨S1, F2, q3⟩, e4, h⟩ := Option.bind_eq_some_iff.mp h
  dsimp only at h
  have z5 : S1.length = S.length + 1 := nA_len e4
  obtain ⟨S6, e7, h⟩ := Option.bind_eq_some_iff.mp h
  have z8 : S6.length = S1.length := pR_len e7
  obtain ⟨⟨S9, F10, q11⟩, e12, h⟩ := Option.bind_eq_some_iff.mp h
  dsimp only at h
  have z13 : S9.length = S6.length + 1 := nA_len e12
  obtain ⟨S14, e15, h⟩ := Option.bind_eq_some_iff.mp h
  have z16 : S14.length = S9.length := pR_len e15
  obtain ⟨⟨S17, F18, q19⟩, e20, h⟩ := Option.bind_eq_some_iff.mp h
  dsimp only at h
  have z21 : S17.length = S14.length + 1 := nA_len e20
  obtain ⟨S22, e23, h⟩ := Option.bind_eq_some_iff.mp h
  have z24 : S22.length = S17.length := pR_len e23
  obtain ⟨F25, e26, h⟩ := Option.bind_eq_some_iff.mp h
  obtain ⟨F27, e28, h⟩ := Option.bind_eq_some_iff.mp h
  obtain ⟨rfl, rfl⟩ := Prod.mk.inj (Option.some.inj h)
  omega
set_option maxHeartbeats 4000000 in
set_option maxRecDepth 100000 in
theorem c_St_init {l : Launch} {g : xG} {S : List xO} {G : xL} {a : Nat} {p0 : Int32} {F : xF} {S2 : List xO} {F2 : xF} (h : f_St_init S a p0 F = some (S2, F2)) : CT l g 1 20 3 16384 y_St_init b_St_init 2 none 0 [.ref a, .int p0] S F G none S2 F2 G := by
  refine CT.of [some (.ref a), some (.int p0)] (by decide) (Nat.le_of_ble_eq_true rfl) rfl ?_
  intro p e s m args below meth c C hr hmn hz
  have hz0 : s.heap.size = g.1 + S.length := hz rfl
  unfold f_St_init at h
  refine V.aload_n C 0 rfl rfl d_St_init_0 ?_
  refine V.objInit C oi_St_3 (by decide) d_St_init_1 ?_
  refine V.aload_n C 0 rfl rfl d_St_init_4 ?_
  refine V.sipush C 8192 (by decide) d_St_init_5 ?_
  obtain ⟨⟨S1, F2, q3⟩, e4, h⟩ := Option.bind_eq_some_iff.mp h
  dsimp only at h
  refine V.xnewI C (by omega) gw_80 (by decide) e4 (by decide) d_St_init_8 ?_
  have z5 : S1.length = S.length + 1 := nA_len e4
  obtain ⟨S6, e7, h⟩ := Option.bind_eq_some_iff.mp h
  refine V.xputRF C hmn fl_St_11 ft_2 rf_St_11 e7 d_St_init_10 ?_
  have z8 : S6.length = S1.length := pR_len e7
  refine V.aload_n C 0 rfl rfl d_St_init_13 ?_
  refine V.sipush C 4096 (by decide) d_St_init_14 ?_
  obtain ⟨⟨S9, F10, q11⟩, e12, h⟩ := Option.bind_eq_some_iff.mp h
  dsimp only at h
  refine V.xnewI C (by omega) gw_80 (by decide) e12 (by decide) d_St_init_17 ?_
  have z13 : S9.length = S6.length + 1 := nA_len e12
  obtain ⟨S14, e15, h⟩ := Option.bind_eq_some_iff.mp h
  refine V.xputRF C hmn fl_St_15 ft_2 rf_St_15 e15 d_St_init_19 ?_
  have z16 : S14.length = S9.length := pR_len e15
  refine V.aload_n C 0 rfl rfl d_St_init_22 ?_
  refine V.sipush C 4096 (by decide) d_St_init_23 ?_
  obtain ⟨⟨S17, F18, q19⟩, e20, h⟩ := Option.bind_eq_some_iff.mp h
  dsimp only at h
  refine V.xnewI C (by omega) gw_80 (by decide) e20 (by decide) d_St_init_26 ?_
  have z21 : S17.length = S14.length + 1 := nA_len e20
  obtain ⟨S22, e23, h⟩ := Option.bind_eq_some_iff.mp h
  refine V.xputRF C hmn fl_St_18 ft_2 rf_St_18 e23 d_St_init_28 ?_
  have z24 : S22.length = S17.length := pR_len e23
  refine V.aload_n C 0 rfl rfl d_St_init_31 ?_
  refine V.iload_n C 1 rfl rfl d_St_init_32 ?_
  obtain ⟨F25, e26, h⟩ := Option.bind_eq_some_iff.mp h
  refine V.xputIF C hmn fl_St_21 ft_2 if_St_21 e26 d_St_init_33 ?_
  refine V.aload_n C 0 rfl rfl d_St_init_36 ?_
  refine V.iload_n C 1 rfl rfl d_St_init_37 ?_
  obtain ⟨F27, e28, h⟩ := Option.bind_eq_some_iff.mp h
  refine V.xputI C fl_St_25 ft_2 fi_2_4 e28 d_St_init_38 ?_
  obtain ⟨rfl, rfl⟩ := Prod.mk.inj (Option.some.inj h)
  exact V.vret C hr d_St_init_41 rfl rfl rfl
def f_Co_init (S : List xO) (a : Nat) (p0 : Int32) (F : xF) : Option (List xO × xF) :=
  (nO S 0 [some .null, none] F).bind fun w1 =>
  (f_Nu_init w1.1 w1.2.2 (18060 : Int32) w1.2.1).bind fun w6 =>
  (pR w6.1 3 a 4 w1.2.2).bind fun S10 =>
  (pI S10 3 a 0 ((1 : Int32) <<< (p0 &&& 31)) w6.2).bind fun F13 =>
  (gI S10 3 a 0 F13).bind fun v15 =>
  (pI S10 3 a 1 (v15 + (1 : Int32)) F13).bind fun F17 =>
  (nO S10 1 [none, none, none, none] F17).bind fun w19 =>
  (f_Wi_init w19.1 w19.2.2 p0 w19.2.1).bind fun w24 =>
  (pR w24.1 3 a 2 w19.2.2).bind fun S28 =>
  (nO S28 2 [none, some .null, some .null, some .null, none] w24.2).bind fun w31 =>
  (gI w31.1 3 a 1 w31.2.1).bind fun v36 =>
  (f_St_init w31.1 w31.2.2 v36 w31.2.1).bind fun w38 =>
  (pR w38.1 3 a 3 w31.2.2).bind fun S42 =>
  some (S42, w38.2)
set_option maxHeartbeats 4000000 in
theorem n_Co_init {S : List xO} {a : Nat} {p0 : Int32} {F : xF} {S2 : List xO} {F2 : xF} (h : f_Co_init S a p0 F = some (S2, F2)) : S2.length = S.length + 7 := by
  unfold f_Co_init at h
  obtain ⟨⟨S1, F2, q3⟩, e4, h⟩ := Option.bind_eq_some_iff.mp h
  dsimp only at h
  have z5 : S1.length = S.length + 1 := nO_len e4
  obtain ⟨⟨S6, F7⟩, e8, h⟩ := Option.bind_eq_some_iff.mp h
  dsimp only at h
  have z9 : S6.length = S1.length + 1 := n_Nu_init e8
  obtain ⟨S10, e11, h⟩ := Option.bind_eq_some_iff.mp h
  have z12 : S10.length = S6.length := pR_len e11
  obtain ⟨F13, e14, h⟩ := Option.bind_eq_some_iff.mp h
  obtain ⟨v15, e16, h⟩ := Option.bind_eq_some_iff.mp h
  obtain ⟨F17, e18, h⟩ := Option.bind_eq_some_iff.mp h
  obtain ⟨⟨S19, F20, q21⟩, e22, h⟩ := Option.bind_eq_some_iff.mp h
  dsimp only at h
  have z23 : S19.length = S10.length + 1 := nO_len e22
  obtain ⟨⟨S24, F25⟩, e26, h⟩ := Option.bind_eq_some_iff.mp h
  dsimp only at h
  have z27 : S24.length = S19.length := n_Wi_init e26
  obtain ⟨S28, e29, h⟩ := Option.bind_eq_some_iff.mp h
  have z30 : S28.length = S24.length := pR_len e29
  obtain ⟨⟨S31, F32, q33⟩, e34, h⟩ := Option.bind_eq_some_iff.mp h
  dsimp only at h
  have z35 : S31.length = S28.length + 1 := nO_len e34
  obtain ⟨v36, e37, h⟩ := Option.bind_eq_some_iff.mp h
  obtain ⟨⟨S38, F39⟩, e40, h⟩ := Option.bind_eq_some_iff.mp h
  dsimp only at h
  have z41 : S38.length = S31.length + 3 := n_St_init e40
  obtain ⟨S42, e43, h⟩ := Option.bind_eq_some_iff.mp h
  have z44 : S42.length = S38.length := pR_len e43
  obtain ⟨rfl, rfl⟩ := Prod.mk.inj (Option.some.inj h)
  omega
set_option maxHeartbeats 4000000 in
set_option maxRecDepth 100000 in
theorem c_Co_init {l : Launch} {g : xG} {S : List xO} {G : xL} {a : Nat} {p0 : Int32} {F : xF} {S2 : List xO} {F2 : xF} (h : f_Co_init S a p0 F = some (S2, F2)) : CT l g 2 41 7 40395 y_Co_init b_Co_init 2 none 0 [.ref a, .int p0] S F G none S2 F2 G := by
  refine CT.of [some (.ref a), some (.int p0)] (by decide) (Nat.le_of_ble_eq_true rfl) rfl ?_
  intro p e s m args below meth c C hr hmn hz
  have hz0 : s.heap.size = g.1 + S.length := hz rfl
  unfold f_Co_init at h
  refine V.aload_n C 0 rfl rfl d_Co_init_0 ?_
  refine V.objInit C oi_Co_3 (by decide) d_Co_init_1 ?_
  refine V.aload_n C 0 rfl rfl d_Co_init_4 ?_
  obtain ⟨⟨S1, F2, q3⟩, e4, h⟩ := Option.bind_eq_some_iff.mp h
  dsimp only at h
  refine V.xnewO C (by omega) no_Co_9 e4 (by decide) d_Co_init_5 ?_
  have z5 : S1.length = S.length + 1 := nO_len e4
  refine V.dup C rfl d_Co_init_8 ?_
  refine V.sipush C 18060 (by decide) d_Co_init_9 ?_
  obtain ⟨⟨S6, F7⟩, e8, h⟩ := Option.bind_eq_some_iff.mp h
  dsimp only at h
  have z9 : S6.length = S1.length + 1 := n_Nu_init e8
  refine V.cIv C (c_Nu_init e8) ci_Co_11 rfl rfl (by omega) (by decide) (Nat.le_of_ble_eq_true rfl) d_Co_init_12 ?_
  obtain ⟨S10, e11, h⟩ := Option.bind_eq_some_iff.mp h
  refine V.xputRF C hmn fl_Co_14 ft_3 rf_Co_14 e11 d_Co_init_15 ?_
  have z12 : S10.length = S6.length := pR_len e11
  refine V.aload_n C 0 rfl rfl d_Co_init_18 ?_
  refine V.iconst C 1 (by decide) d_Co_init_19 ?_
  refine V.iload_n C 1 rfl rfl d_Co_init_20 ?_
  refine V.ishl C d_Co_init_21 ?_
  obtain ⟨F13, e14, h⟩ := Option.bind_eq_some_iff.mp h
  refine V.xputIF C hmn fl_Co_20 ft_3 if_Co_20 e14 d_Co_init_22 ?_
  refine V.aload_n C 0 rfl rfl d_Co_init_25 ?_
  refine V.aload_n C 0 rfl rfl d_Co_init_26 ?_
  obtain ⟨v15, e16, h⟩ := Option.bind_eq_some_iff.mp h
  refine V.xgetI C fl_Co_20 e16 d_Co_init_27 ?_
  refine V.iconst C 1 (by decide) d_Co_init_30 ?_
  refine V.iadd C d_Co_init_31 ?_
  obtain ⟨F17, e18, h⟩ := Option.bind_eq_some_iff.mp h
  refine V.xputIF C hmn fl_Co_24 ft_3 if_Co_24 e18 d_Co_init_32 ?_
  refine V.aload_n C 0 rfl rfl d_Co_init_35 ?_
  obtain ⟨⟨S19, F20, q21⟩, e22, h⟩ := Option.bind_eq_some_iff.mp h
  dsimp only at h
  refine V.xnewO C (by omega) no_Co_27 e22 (by decide) d_Co_init_36 ?_
  have z23 : S19.length = S10.length + 1 := nO_len e22
  refine V.dup C rfl d_Co_init_39 ?_
  refine V.iload_n C 1 rfl rfl d_Co_init_40 ?_
  obtain ⟨⟨S24, F25⟩, e26, h⟩ := Option.bind_eq_some_iff.mp h
  dsimp only at h
  have z27 : S24.length = S19.length := n_Wi_init e26
  refine V.cIv C (c_Wi_init e26) ci_Co_29 rfl rfl (by omega) (by decide) (Nat.le_of_ble_eq_true rfl) d_Co_init_41 ?_
  obtain ⟨S28, e29, h⟩ := Option.bind_eq_some_iff.mp h
  refine V.xputRF C hmn fl_Co_30 ft_3 rf_Co_30 e29 d_Co_init_44 ?_
  have z30 : S28.length = S24.length := pR_len e29
  refine V.aload_n C 0 rfl rfl d_Co_init_47 ?_
  obtain ⟨⟨S31, F32, q33⟩, e34, h⟩ := Option.bind_eq_some_iff.mp h
  dsimp only at h
  refine V.xnewO C (by omega) no_Co_34 e34 (by decide) d_Co_init_48 ?_
  have z35 : S31.length = S28.length + 1 := nO_len e34
  refine V.dup C rfl d_Co_init_51 ?_
  refine V.aload_n C 0 rfl rfl d_Co_init_52 ?_
  obtain ⟨v36, e37, h⟩ := Option.bind_eq_some_iff.mp h
  refine V.xgetI C fl_Co_24 e37 d_Co_init_53 ?_
  obtain ⟨⟨S38, F39⟩, e40, h⟩ := Option.bind_eq_some_iff.mp h
  dsimp only at h
  have z41 : S38.length = S31.length + 3 := n_St_init e40
  refine V.cIv C (c_St_init e40) ci_Co_36 rfl rfl (by omega) (by decide) (Nat.le_of_ble_eq_true rfl) d_Co_init_56 ?_
  obtain ⟨S42, e43, h⟩ := Option.bind_eq_some_iff.mp h
  refine V.xputRF C hmn fl_Co_37 ft_3 rf_Co_37 e43 d_Co_init_59 ?_
  have z44 : S42.length = S38.length := pR_len e43
  obtain ⟨rfl, rfl⟩ := Prod.mk.inj (Option.some.inj h)
  exact V.vret C hr d_Co_init_62 rfl rfl rfl
def f_Re_init (S : List xO) (a : Nat) (p0 : Int32) (F : xF) : Option (List xO × xF) :=
  (nO S 0 [some .null, none] F).bind fun w1 =>
  (f_Nu_init w1.1 w1.2.2 (12000 : Int32) w1.2.1).bind fun w6 =>
  (pR w6.1 4 a 3 w1.2.2).bind fun S10 =>
  (nA S10 0 4096 (4096 : Int32) w6.2).bind fun w13 =>
  (pR w13.1 4 a 4 w13.2.2).bind fun S18 =>
  (nA S18 0 4096 (4096 : Int32) w13.2.1).bind fun w21 =>
  (pR w21.1 4 a 5 w21.2.2).bind fun S26 =>
  (pI S26 4 a 0 ((1 : Int32) <<< (p0 &&& 31)) w21.2.1).bind fun F29 =>
  (gI S26 4 a 0 F29).bind fun v31 =>
  (pI S26 4 a 1 (v31 + (1 : Int32)) F29).bind fun F33 =>
  (nO S26 1 [none, none, none, none] F33).bind fun w35 =>
  (f_Wi_init w35.1 w35.2.2 p0 w35.2.1).bind fun w40 =>
  (pR w40.1 4 a 2 w35.2.2).bind fun S44 =>
  (gI S44 4 a 1 w40.2).bind fun v47 =>
  (pI S44 4 a 6 v47 w40.2).bind fun F49 =>
  some (S44, F49)
set_option maxHeartbeats 4000000 in
theorem n_Re_init {S : List xO} {a : Nat} {p0 : Int32} {F : xF} {S2 : List xO} {F2 : xF} (h : f_Re_init S a p0 F = some (S2, F2)) : S2.length = S.length + 5 := by
  unfold f_Re_init at h
  obtain ⟨⟨S1, F2, q3⟩, e4, h⟩ := Option.bind_eq_some_iff.mp h
  dsimp only at h
  have z5 : S1.length = S.length + 1 := nO_len e4
  obtain ⟨⟨S6, F7⟩, e8, h⟩ := Option.bind_eq_some_iff.mp h
  dsimp only at h
  have z9 : S6.length = S1.length + 1 := n_Nu_init e8
  obtain ⟨S10, e11, h⟩ := Option.bind_eq_some_iff.mp h
  have z12 : S10.length = S6.length := pR_len e11
  obtain ⟨⟨S13, F14, q15⟩, e16, h⟩ := Option.bind_eq_some_iff.mp h
  dsimp only at h
  have z17 : S13.length = S10.length + 1 := nA_len e16
  obtain ⟨S18, e19, h⟩ := Option.bind_eq_some_iff.mp h
  have z20 : S18.length = S13.length := pR_len e19
  obtain ⟨⟨S21, F22, q23⟩, e24, h⟩ := Option.bind_eq_some_iff.mp h
  dsimp only at h
  have z25 : S21.length = S18.length + 1 := nA_len e24
  obtain ⟨S26, e27, h⟩ := Option.bind_eq_some_iff.mp h
  have z28 : S26.length = S21.length := pR_len e27
  obtain ⟨F29, e30, h⟩ := Option.bind_eq_some_iff.mp h
  obtain ⟨v31, e32, h⟩ := Option.bind_eq_some_iff.mp h
  obtain ⟨F33, e34, h⟩ := Option.bind_eq_some_iff.mp h
  obtain ⟨⟨S35, F36, q37⟩, e38, h⟩ := Option.bind_eq_some_iff.mp h
  dsimp only at h
  have z39 : S35.length = S26.length + 1 := nO_len e38
  obtain ⟨⟨S40, F41⟩, e42, h⟩ := Option.bind_eq_some_iff.mp h
  dsimp only at h
  have z43 : S40.length = S35.length := n_Wi_init e42
  obtain ⟨S44, e45, h⟩ := Option.bind_eq_some_iff.mp h
  have z46 : S44.length = S40.length := pR_len e45
  obtain ⟨v47, e48, h⟩ := Option.bind_eq_some_iff.mp h
  obtain ⟨F49, e50, h⟩ := Option.bind_eq_some_iff.mp h
  obtain ⟨rfl, rfl⟩ := Prod.mk.inj (Option.some.inj h)
  omega
set_option maxHeartbeats 4000000 in
set_option maxRecDepth 100000 in
theorem c_Re_init {l : Launch} {g : xG} {S : List xO} {G : xL} {a : Nat} {p0 : Int32} {F : xF} {S2 : List xO} {F2 : xF} (h : f_Re_init S a p0 F = some (S2, F2)) : CT l g 2 41 5 32198 y_Re_init b_Re_init 2 none 0 [.ref a, .int p0] S F G none S2 F2 G := by
  refine CT.of [some (.ref a), some (.int p0)] (by decide) (Nat.le_of_ble_eq_true rfl) rfl ?_
  intro p e s m args below meth c C hr hmn hz
  have hz0 : s.heap.size = g.1 + S.length := hz rfl
  unfold f_Re_init at h
  refine V.aload_n C 0 rfl rfl d_Re_init_0 ?_
  refine V.objInit C oi_Re_3 (by decide) d_Re_init_1 ?_
  refine V.aload_n C 0 rfl rfl d_Re_init_4 ?_
  obtain ⟨⟨S1, F2, q3⟩, e4, h⟩ := Option.bind_eq_some_iff.mp h
  dsimp only at h
  refine V.xnewO C (by omega) no_Re_9 e4 (by decide) d_Re_init_5 ?_
  have z5 : S1.length = S.length + 1 := nO_len e4
  refine V.dup C rfl d_Re_init_8 ?_
  refine V.sipush C 12000 (by decide) d_Re_init_9 ?_
  obtain ⟨⟨S6, F7⟩, e8, h⟩ := Option.bind_eq_some_iff.mp h
  dsimp only at h
  have z9 : S6.length = S1.length + 1 := n_Nu_init e8
  refine V.cIv C (c_Nu_init e8) ci_Re_11 rfl rfl (by omega) (by decide) (Nat.le_of_ble_eq_true rfl) d_Re_init_12 ?_
  obtain ⟨S10, e11, h⟩ := Option.bind_eq_some_iff.mp h
  refine V.xputRF C hmn fl_Re_14 ft_4 rf_Re_14 e11 d_Re_init_15 ?_
  have z12 : S10.length = S6.length := pR_len e11
  refine V.aload_n C 0 rfl rfl d_Re_init_18 ?_
  refine V.sipush C 4096 (by decide) d_Re_init_19 ?_
  obtain ⟨⟨S13, F14, q15⟩, e16, h⟩ := Option.bind_eq_some_iff.mp h
  dsimp only at h
  refine V.xnewI C (by omega) gw_80 (by decide) e16 (by decide) d_Re_init_22 ?_
  have z17 : S13.length = S10.length + 1 := nA_len e16
  obtain ⟨S18, e19, h⟩ := Option.bind_eq_some_iff.mp h
  refine V.xputRF C hmn fl_Re_20 ft_4 rf_Re_20 e19 d_Re_init_24 ?_
  have z20 : S18.length = S13.length := pR_len e19
  refine V.aload_n C 0 rfl rfl d_Re_init_27 ?_
  refine V.sipush C 4096 (by decide) d_Re_init_28 ?_
  obtain ⟨⟨S21, F22, q23⟩, e24, h⟩ := Option.bind_eq_some_iff.mp h
  dsimp only at h
  refine V.xnewI C (by omega) gw_80 (by decide) e24 (by decide) d_Re_init_31 ?_
  have z25 : S21.length = S18.length + 1 := nA_len e24
  obtain ⟨S26, e27, h⟩ := Option.bind_eq_some_iff.mp h
  refine V.xputRF C hmn fl_Re_24 ft_4 rf_Re_24 e27 d_Re_init_33 ?_
  have z28 : S26.length = S21.length := pR_len e27
  refine V.aload_n C 0 rfl rfl d_Re_init_36 ?_
  refine V.iconst C 1 (by decide) d_Re_init_37 ?_
  refine V.iload_n C 1 rfl rfl d_Re_init_38 ?_
  refine V.ishl C d_Re_init_39 ?_
  obtain ⟨F29, e30, h⟩ := Option.bind_eq_some_iff.mp h
  refine V.xputIF C hmn fl_Re_27 ft_4 if_Re_27 e30 d_Re_init_40 ?_
  refine V.aload_n C 0 rfl rfl d_Re_init_43 ?_
  refine V.aload_n C 0 rfl rfl d_Re_init_44 ?_
  obtain ⟨v31, e32, h⟩ := Option.bind_eq_some_iff.mp h
  refine V.xgetI C fl_Re_27 e32 d_Re_init_45 ?_
  refine V.iconst C 1 (by decide) d_Re_init_48 ?_
  refine V.iadd C d_Re_init_49 ?_
  obtain ⟨F33, e34, h⟩ := Option.bind_eq_some_iff.mp h
  refine V.xputIF C hmn fl_Re_31 ft_4 if_Re_31 e34 d_Re_init_50 ?_
  refine V.aload_n C 0 rfl rfl d_Re_init_53 ?_
  obtain ⟨⟨S35, F36, q37⟩, e38, h⟩ := Option.bind_eq_some_iff.mp h
  dsimp only at h
  refine V.xnewO C (by omega) no_Re_34 e38 (by decide) d_Re_init_54 ?_
  have z39 : S35.length = S26.length + 1 := nO_len e38
  refine V.dup C rfl d_Re_init_57 ?_
  refine V.iload_n C 1 rfl rfl d_Re_init_58 ?_
  obtain ⟨⟨S40, F41⟩, e42, h⟩ := Option.bind_eq_some_iff.mp h
  dsimp only at h
  have z43 : S40.length = S35.length := n_Wi_init e42
  refine V.cIv C (c_Wi_init e42) ci_Re_36 rfl rfl (by omega) (by decide) (Nat.le_of_ble_eq_true rfl) d_Re_init_59 ?_
  obtain ⟨S44, e45, h⟩ := Option.bind_eq_some_iff.mp h
  refine V.xputRF C hmn fl_Re_37 ft_4 rf_Re_37 e45 d_Re_init_62 ?_
  have z46 : S44.length = S40.length := pR_len e45
  refine V.aload_n C 0 rfl rfl d_Re_init_65 ?_
  refine V.aload_n C 0 rfl rfl d_Re_init_66 ?_
  obtain ⟨v47, e48, h⟩ := Option.bind_eq_some_iff.mp h
  refine V.xgetI C fl_Re_31 e48 d_Re_init_67 ?_
  obtain ⟨F49, e50, h⟩ := Option.bind_eq_some_iff.mp h
  refine V.xputI C fl_Re_41 ft_4 fi_4_6 e50 d_Re_init_70 ?_
  obtain ⟨rfl, rfl⟩ := Prod.mk.inj (Option.some.inj h)
  exact V.vret C hr d_Re_init_73 rfl rfl rfl
def f_Pa_init (S : List xO) (N : Nat) (a : Nat) (p0 : Int32) (F : xF) : Option (List xO × xF) :=
  (nA S 0 256 p0 F).bind fun w1 =>
  (pR w1.1 5 a 0 w1.2.2).bind fun S6 =>
  (gR S6 5 a 0).bind fun q9 =>
  (f_Ar_fill S6 N q9 (-1 : Int32) w1.2.1).bind fun F11 =>
  some (S6, F11)
set_option maxHeartbeats 4000000 in
theorem n_Pa_init {S : List xO} {N : Nat} {a : Nat} {p0 : Int32} {F : xF} {S2 : List xO} {F2 : xF} (h : f_Pa_init S N a p0 F = some (S2, F2)) : S2.length = S.length + 1 := by
  unfold f_Pa_init at h
  obtain ⟨⟨S1, F2, q3⟩, e4, h⟩ := Option.bind_eq_some_iff.mp h
  dsimp only at h
  have z5 : S1.length = S.length + 1 := nA_len e4
  obtain ⟨S6, e7, h⟩ := Option.bind_eq_some_iff.mp h
  have z8 : S6.length = S1.length := pR_len e7
  obtain ⟨q9, e10, h⟩ := Option.bind_eq_some_iff.mp h
  obtain ⟨F11, e12, h⟩ := Option.bind_eq_some_iff.mp h
  obtain ⟨rfl, rfl⟩ := Prod.mk.inj (Option.some.inj h)
  omega
set_option maxHeartbeats 4000000 in
set_option maxRecDepth 100000 in
theorem c_Pa_init {l : Launch} {g : xG} {S : List xO} {G : xL} {a : Nat} {p0 : Int32} {N : Nat} {F : xF} {S2 : List xO} {F2 : xF} (h : f_Pa_init S N a p0 F = some (S2, F2)) : CT l g 1 23 1 256 y_Pa_init b_Pa_init 2 none 0 [.ref a, .int p0] S F G none S2 F2 G := by
  refine CT.of [some (.ref a), some (.int p0)] (by decide) (Nat.le_of_ble_eq_true rfl) rfl ?_
  intro p e s m args below meth c C hr hmn hz
  have hz0 : s.heap.size = g.1 + S.length := hz rfl
  unfold f_Pa_init at h
  refine V.aload_n C 0 rfl rfl d_Pa_init_0 ?_
  refine V.objInit C oi_Pa_3 (by decide) d_Pa_init_1 ?_
  refine V.aload_n C 0 rfl rfl d_Pa_init_4 ?_
  refine V.iload_n C 1 rfl rfl d_Pa_init_5 ?_
  obtain ⟨⟨S1, F2, q3⟩, e4, h⟩ := Option.bind_eq_some_iff.mp h
  dsimp only at h
  refine V.xnewI C (by omega) gw_80 (by decide) e4 (by decide) d_Pa_init_6 ?_
  have z5 : S1.length = S.length + 1 := nA_len e4
  obtain ⟨S6, e7, h⟩ := Option.bind_eq_some_iff.mp h
  refine V.xputRF C hmn fl_Pa_9 ft_5 rf_Pa_9 e7 d_Pa_init_8 ?_
  have z8 : S6.length = S1.length := pR_len e7
  refine V.aload_n C 0 rfl rfl d_Pa_init_11 ?_
  obtain ⟨q9, e10, h⟩ := Option.bind_eq_some_iff.mp h
  refine V.xgetR C fl_Pa_9 e10 d_Pa_init_12 ?_
  refine V.iconst C (-1) (by decide) d_Pa_init_15 ?_
  obtain ⟨F11, e12, h⟩ := Option.bind_eq_some_iff.mp h
  refine V.cSv C (c_Ar_fill e12) ml_Pa_15 rfl rfl (by decide) (Nat.le_of_ble_eq_true rfl) d_Pa_init_16 ?_
  obtain ⟨rfl, rfl⟩ := Prod.mk.inj (Option.some.inj h)
  exact V.vret C hr d_Pa_init_19 rfl rfl rfl
def f_Fr_init (S : List xO) (N : Nat) (a : Nat) (p0 : Int32) (F : xF) : Option (List xO × xF) :=
  (nA S 0 576 (576 : Int32) F).bind fun w1 =>
  (pR w1.1 6 a 0 w1.2.2).bind fun S6 =>
  (nO S6 5 [some .null] w1.2.1).bind fun w9 =>
  (f_Pa_init w9.1 N w9.2.2 p0 w9.2.1).bind fun w14 =>
  (pR w14.1 6 a 1 w9.2.2).bind fun S18 =>
  (pI S18 6 a 8 (-1 : Int32) w14.2).bind fun F21 =>
  some (S18, F21)
set_option maxHeartbeats 4000000 in
theorem n_Fr_init {S : List xO} {N : Nat} {a : Nat} {p0 : Int32} {F : xF} {S2 : List xO} {F2 : xF} (h : f_Fr_init S N a p0 F = some (S2, F2)) : S2.length = S.length + 3 := by
  unfold f_Fr_init at h
  obtain ⟨⟨S1, F2, q3⟩, e4, h⟩ := Option.bind_eq_some_iff.mp h
  dsimp only at h
  have z5 : S1.length = S.length + 1 := nA_len e4
  obtain ⟨S6, e7, h⟩ := Option.bind_eq_some_iff.mp h
  have z8 : S6.length = S1.length := pR_len e7
  obtain ⟨⟨S9, F10, q11⟩, e12, h⟩ := Option.bind_eq_some_iff.mp h
  dsimp only at h
  have z13 : S9.length = S6.length + 1 := nO_len e12
  obtain ⟨⟨S14, F15⟩, e16, h⟩ := Option.bind_eq_some_iff.mp h
  dsimp only at h
  have z17 : S14.length = S9.length + 1 := n_Pa_init e16
  obtain ⟨S18, e19, h⟩ := Option.bind_eq_some_iff.mp h
  have z20 : S18.length = S14.length := pR_len e19
  obtain ⟨F21, e22, h⟩ := Option.bind_eq_some_iff.mp h
  obtain ⟨rfl, rfl⟩ := Prod.mk.inj (Option.some.inj h)
  omega
set_option maxHeartbeats 4000000 in
set_option maxRecDepth 100000 in
theorem c_Fr_init {l : Launch} {g : xG} {S : List xO} {G : xL} {a : Nat} {p0 : Int32} {N : Nat} {F : xF} {S2 : List xO} {F2 : xF} (h : f_Fr_init S N a p0 F = some (S2, F2)) : CT l g 2 44 3 833 y_Fr_init b_Fr_init 2 none 0 [.ref a, .int p0] S F G none S2 F2 G := by
  refine CT.of [some (.ref a), some (.int p0)] (by decide) (Nat.le_of_ble_eq_true rfl) rfl ?_
  intro p e s m args below meth c C hr hmn hz
  have hz0 : s.heap.size = g.1 + S.length := hz rfl
  unfold f_Fr_init at h
  refine V.aload_n C 0 rfl rfl d_Fr_init_0 ?_
  refine V.objInit C oi_Fr_3 (by decide) d_Fr_init_1 ?_
  refine V.aload_n C 0 rfl rfl d_Fr_init_4 ?_
  refine V.sipush C 576 (by decide) d_Fr_init_5 ?_
  obtain ⟨⟨S1, F2, q3⟩, e4, h⟩ := Option.bind_eq_some_iff.mp h
  dsimp only at h
  refine V.xnewI C (by omega) gw_80 (by decide) e4 (by decide) d_Fr_init_8 ?_
  have z5 : S1.length = S.length + 1 := nA_len e4
  obtain ⟨S6, e7, h⟩ := Option.bind_eq_some_iff.mp h
  refine V.xputRF C hmn fl_Fr_9 ft_6 rf_Fr_9 e7 d_Fr_init_10 ?_
  have z8 : S6.length = S1.length := pR_len e7
  refine V.aload_n C 0 rfl rfl d_Fr_init_13 ?_
  obtain ⟨⟨S9, F10, q11⟩, e12, h⟩ := Option.bind_eq_some_iff.mp h
  dsimp only at h
  refine V.xnewO C (by omega) no_Fr_15 e12 (by decide) d_Fr_init_14 ?_
  have z13 : S9.length = S6.length + 1 := nO_len e12
  refine V.dup C rfl d_Fr_init_17 ?_
  refine V.iload_n C 1 rfl rfl d_Fr_init_18 ?_
  obtain ⟨⟨S14, F15⟩, e16, h⟩ := Option.bind_eq_some_iff.mp h
  dsimp only at h
  have z17 : S14.length = S9.length + 1 := n_Pa_init e16
  refine V.cIv C (c_Pa_init e16) ci_Fr_17 rfl rfl (by omega) (by decide) (Nat.le_of_ble_eq_true rfl) d_Fr_init_19 ?_
  obtain ⟨S18, e19, h⟩ := Option.bind_eq_some_iff.mp h
  refine V.xputRF C hmn fl_Fr_20 ft_6 rf_Fr_20 e19 d_Fr_init_22 ?_
  have z20 : S18.length = S14.length := pR_len e19
  refine V.aload_n C 0 rfl rfl d_Fr_init_25 ?_
  refine V.iconst C (-1) (by decide) d_Fr_init_26 ?_
  obtain ⟨F21, e22, h⟩ := Option.bind_eq_some_iff.mp h
  refine V.xputI C fl_Fr_24 ft_6 fi_6_8 e22 d_Fr_init_27 ?_
  obtain ⟨rfl, rfl⟩ := Prod.mk.inj (Option.some.inj h)
  exact V.vret C hr d_Fr_init_30 rfl rfl rfl
