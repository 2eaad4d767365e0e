section
-- ===== PART A: goes FIRST, ahead of the names: the tables' words, and 'selects' of the private methods out of them =====
/-- a private method of a class that the tables say can be made, by its rows of tables_1 -/
def lw_okq (q : MethodName × Nat) : Prop := (q.1.cls ≠ "java/lang/invoke/MethodHandle" ∧ q.1.cls ≠ "java/lang/invoke/VarHandle") ∧ Cond.instantiable q.1.cls q.2 ∈ tables_1 ∧ Cond.privateMethod q.1 ∈ tables_1 ∧ Cond.instanceMethod q.1 ∈ tables_1
theorem lw_p0 : lw_okq (⟨"PaletteFrames$Coder", "writeClear", "()V"⟩, 12) := ⟨⟨by decide +kernel, by decide +kernel⟩, List.mem_of_getElem? (i := 53) (by decide +kernel), List.mem_of_getElem? (i := 302) (by decide +kernel), List.mem_of_getElem? (i := 303) (by decide +kernel)⟩
theorem lw_p1 : lw_okq (⟨"PaletteFrames$Coder", "write", "(I)V"⟩, 12) := ⟨⟨by decide +kernel, by decide +kernel⟩, List.mem_of_getElem? (i := 53) (by decide +kernel), List.mem_of_getElem? (i := 306) (by decide +kernel), List.mem_of_getElem? (i := 307) (by decide +kernel)⟩
theorem lw_p2 : lw_okq (⟨"PaletteFrames$Coder", "startLook", "()V"⟩, 12) := ⟨⟨by decide +kernel, by decide +kernel⟩, List.mem_of_getElem? (i := 53) (by decide +kernel), List.mem_of_getElem? (i := 314) (by decide +kernel), List.mem_of_getElem? (i := 315) (by decide +kernel)⟩
theorem lw_p3 : lw_okq (⟨"PaletteFrames$Strings", "slotFor", "(I)I"⟩, 5) := ⟨⟨by decide +kernel, by decide +kernel⟩, List.mem_of_getElem? (i := 82) (by decide +kernel), List.mem_of_getElem? (i := 333) (by decide +kernel), List.mem_of_getElem? (i := 334) (by decide +kernel)⟩
theorem lw_p4 : lw_okq (⟨"PaletteFrames$Coder", "writeEntry", "(II)V"⟩, 12) := ⟨⟨by decide +kernel, by decide +kernel⟩, List.mem_of_getElem? (i := 53) (by decide +kernel), List.mem_of_getElem? (i := 338) (by decide +kernel), List.mem_of_getElem? (i := 339) (by decide +kernel)⟩
theorem lw_p5 : lw_okq (⟨"PaletteFrames$Coder", "isClearDue", "(I)Z"⟩, 12) := ⟨⟨by decide +kernel, by decide +kernel⟩, List.mem_of_getElem? (i := 53) (by decide +kernel), List.mem_of_getElem? (i := 355) (by decide +kernel), List.mem_of_getElem? (i := 356) (by decide +kernel)⟩
theorem lw_p6 : lw_okq (⟨"PaletteFrames$Coder", "writeRest", "()V"⟩, 12) := ⟨⟨by decide +kernel, by decide +kernel⟩, List.mem_of_getElem? (i := 53) (by decide +kernel), List.mem_of_getElem? (i := 359) (by decide +kernel), List.mem_of_getElem? (i := 360) (by decide +kernel)⟩
theorem lw_p7 : lw_okq (⟨"PaletteFrames$Reader", "restart", "()V"⟩, 7) := ⟨⟨by decide +kernel, by decide +kernel⟩, List.mem_of_getElem? (i := 146) (by decide +kernel), List.mem_of_getElem? (i := 380) (by decide +kernel), List.mem_of_getElem? (i := 381) (by decide +kernel)⟩
theorem lw_p8 : lw_okq (⟨"PaletteFrames$Reader", "codeFrom", "(LPaletteFrames$Numbers;I)I"⟩, 7) := ⟨⟨by decide +kernel, by decide +kernel⟩, List.mem_of_getElem? (i := 146) (by decide +kernel), List.mem_of_getElem? (i := 386) (by decide +kernel), List.mem_of_getElem? (i := 387) (by decide +kernel)⟩
theorem lw_p9 : lw_okq (⟨"PaletteFrames$Reader", "copyString", "(I)Z"⟩, 7) := ⟨⟨by decide +kernel, by decide +kernel⟩, List.mem_of_getElem? (i := 146) (by decide +kernel), List.mem_of_getElem? (i := 392) (by decide +kernel), List.mem_of_getElem? (i := 393) (by decide +kernel)⟩
theorem lw_p10 : lw_okq (⟨"PaletteFrames$Reader", "addEntry", "(II)V"⟩, 7) := ⟨⟨by decide +kernel, by decide +kernel⟩, List.mem_of_getElem? (i := 146) (by decide +kernel), List.mem_of_getElem? (i := 402) (by decide +kernel), List.mem_of_getElem? (i := 403) (by decide +kernel)⟩
theorem lw_p11 : lw_okq (⟨"java/lang/Throwable", "fillInStackTrace", "(I)Ljava/lang/Throwable;"⟩, 6) := ⟨⟨by decide +kernel, by decide +kernel⟩, List.mem_of_getElem? (i := 481) (by decide +kernel), List.mem_of_getElem? (i := 479) (by decide +kernel), List.mem_of_getElem? (i := 480) (by decide +kernel)⟩
theorem lw_p12 : lw_okq (⟨"PaletteFrames$Frame", "fillLine", "(LPaletteFrames$Numbers;II)V"⟩, 9) := ⟨⟨by decide +kernel, by decide +kernel⟩, List.mem_of_getElem? (i := 199) (by decide +kernel), List.mem_of_getElem? (i := 643) (by decide +kernel), List.mem_of_getElem? (i := 644) (by decide +kernel)⟩
theorem lw_p13 : lw_okq (⟨"PaletteFrames", "isSymbol", "(I)Z"⟩, 7) := ⟨⟨by decide +kernel, by decide +kernel⟩, List.mem_of_getElem? (i := 22) (by decide +kernel), List.mem_of_getElem? (i := 667) (by decide +kernel), List.mem_of_getElem? (i := 668) (by decide +kernel)⟩
theorem lw_p14 : lw_okq (⟨"PaletteFrames$Screen", "sourceBehind", "(III)I"⟩, 3) := ⟨⟨by decide +kernel, by decide +kernel⟩, List.mem_of_getElem? (i := 179) (by decide +kernel), List.mem_of_getElem? (i := 700) (by decide +kernel), List.mem_of_getElem? (i := 701) (by decide +kernel)⟩
theorem lw_p15 : lw_okq (⟨"PaletteFramesModel", "begin", "()V"⟩, 37) := ⟨⟨by decide +kernel, by decide +kernel⟩, List.mem_of_getElem? (i := 750) (by decide +kernel), List.mem_of_getElem? (i := 889) (by decide +kernel), List.mem_of_getElem? (i := 890) (by decide +kernel)⟩
def lw_privs_1 : List (MethodName × Nat) := [(⟨"PaletteFrames$Coder", "writeClear", "()V"⟩, 12), (⟨"PaletteFrames$Coder", "write", "(I)V"⟩, 12), (⟨"PaletteFrames$Coder", "startLook", "()V"⟩, 12), (⟨"PaletteFrames$Strings", "slotFor", "(I)I"⟩, 5), (⟨"PaletteFrames$Coder", "writeEntry", "(II)V"⟩, 12), (⟨"PaletteFrames$Coder", "isClearDue", "(I)Z"⟩, 12), (⟨"PaletteFrames$Coder", "writeRest", "()V"⟩, 12), (⟨"PaletteFrames$Reader", "restart", "()V"⟩, 7), (⟨"PaletteFrames$Reader", "codeFrom", "(LPaletteFrames$Numbers;I)I"⟩, 7), (⟨"PaletteFrames$Reader", "copyString", "(I)Z"⟩, 7), (⟨"PaletteFrames$Reader", "addEntry", "(II)V"⟩, 7), (⟨"java/lang/Throwable", "fillInStackTrace", "(I)Ljava/lang/Throwable;"⟩, 6), (⟨"PaletteFrames$Frame", "fillLine", "(LPaletteFrames$Numbers;II)V"⟩, 9), (⟨"PaletteFrames", "isSymbol", "(I)Z"⟩, 7), (⟨"PaletteFrames$Screen", "sourceBehind", "(III)I"⟩, 3), (⟨"PaletteFramesModel", "begin", "()V"⟩, 37)]
theorem lw_r1 : ∀ q ∈ lw_privs_1, lw_okq q := List.forall_mem_cons.mpr ⟨lw_p0, List.forall_mem_cons.mpr ⟨lw_p1, List.forall_mem_cons.mpr ⟨lw_p2, List.forall_mem_cons.mpr ⟨lw_p3, List.forall_mem_cons.mpr ⟨lw_p4, List.forall_mem_cons.mpr ⟨lw_p5, List.forall_mem_cons.mpr ⟨lw_p6, List.forall_mem_cons.mpr ⟨lw_p7, List.forall_mem_cons.mpr ⟨lw_p8, List.forall_mem_cons.mpr ⟨lw_p9, List.forall_mem_cons.mpr ⟨lw_p10, List.forall_mem_cons.mpr ⟨lw_p11, List.forall_mem_cons.mpr ⟨lw_p12, List.forall_mem_cons.mpr ⟨lw_p13, List.forall_mem_cons.mpr ⟨lw_p14, List.forall_mem_cons.mpr ⟨lw_p15, fun _ h => absurd h List.not_mem_nil⟩⟩⟩⟩⟩⟩⟩⟩⟩⟩⟩⟩⟩⟩⟩⟩
theorem lw_p16 : lw_okq (⟨"PaletteFramesModel", "writeClear", "()V"⟩, 37) := ⟨⟨by decide +kernel, by decide +kernel⟩, List.mem_of_getElem? (i := 750) (by decide +kernel), List.mem_of_getElem? (i := 893) (by decide +kernel), List.mem_of_getElem? (i := 894) (by decide +kernel)⟩
theorem lw_p17 : lw_okq (⟨"PaletteFramesModel", "write", "(I)V"⟩, 37) := ⟨⟨by decide +kernel, by decide +kernel⟩, List.mem_of_getElem? (i := 750) (by decide +kernel), List.mem_of_getElem? (i := 897) (by decide +kernel), List.mem_of_getElem? (i := 898) (by decide +kernel)⟩
theorem lw_p18 : lw_okq (⟨"PaletteFramesModel", "childOf", "(II)I"⟩, 37) := ⟨⟨by decide +kernel, by decide +kernel⟩, List.mem_of_getElem? (i := 750) (by decide +kernel), List.mem_of_getElem? (i := 901) (by decide +kernel), List.mem_of_getElem? (i := 902) (by decide +kernel)⟩
theorem lw_p19 : lw_okq (⟨"PaletteFramesModel", "widen", "()V"⟩, 37) := ⟨⟨by decide +kernel, by decide +kernel⟩, List.mem_of_getElem? (i := 750) (by decide +kernel), List.mem_of_getElem? (i := 905) (by decide +kernel), List.mem_of_getElem? (i := 906) (by decide +kernel)⟩
theorem lw_p20 : lw_okq (⟨"PaletteFramesModel", "enter", "(II)V"⟩, 37) := ⟨⟨by decide +kernel, by decide +kernel⟩, List.mem_of_getElem? (i := 750) (by decide +kernel), List.mem_of_getElem? (i := 909) (by decide +kernel), List.mem_of_getElem? (i := 910) (by decide +kernel)⟩
theorem lw_p21 : lw_okq (⟨"PaletteFramesModel", "nextCode", "()I"⟩, 37) := ⟨⟨by decide +kernel, by decide +kernel⟩, List.mem_of_getElem? (i := 750) (by decide +kernel), List.mem_of_getElem? (i := 933) (by decide +kernel), List.mem_of_getElem? (i := 934) (by decide +kernel)⟩
theorem lw_p22 : lw_okq (⟨"PaletteFramesModel", "firstOf", "(I)I"⟩, 37) := ⟨⟨by decide +kernel, by decide +kernel⟩, List.mem_of_getElem? (i := 750) (by decide +kernel), List.mem_of_getElem? (i := 937) (by decide +kernel), List.mem_of_getElem? (i := 938) (by decide +kernel)⟩
theorem lw_p23 : lw_okq (⟨"PaletteFramesModel", "spell", "(I)V"⟩, 37) := ⟨⟨by decide +kernel, by decide +kernel⟩, List.mem_of_getElem? (i := 750) (by decide +kernel), List.mem_of_getElem? (i := 941) (by decide +kernel), List.mem_of_getElem? (i := 942) (by decide +kernel)⟩
theorem lw_p24 : lw_okq (⟨"PaletteFramesModel", "isFrame", "(I)Z"⟩, 37) := ⟨⟨by decide +kernel, by decide +kernel⟩, List.mem_of_getElem? (i := 750) (by decide +kernel), List.mem_of_getElem? (i := 964) (by decide +kernel), List.mem_of_getElem? (i := 965) (by decide +kernel)⟩
theorem lw_p25 : lw_okq (⟨"PaletteFramesModel", "isSymbol", "(I)Z"⟩, 37) := ⟨⟨by decide +kernel, by decide +kernel⟩, List.mem_of_getElem? (i := 750) (by decide +kernel), List.mem_of_getElem? (i := 968) (by decide +kernel), List.mem_of_getElem? (i := 969) (by decide +kernel)⟩
theorem lw_p26 : lw_okq (⟨"PaletteFramesModel", "takeAway", "(I)V"⟩, 37) := ⟨⟨by decide +kernel, by decide +kernel⟩, List.mem_of_getElem? (i := 750) (by decide +kernel), List.mem_of_getElem? (i := 981) (by decide +kernel), List.mem_of_getElem? (i := 982) (by decide +kernel)⟩
theorem lw_p27 : lw_okq (⟨"PaletteFramesModel", "placeOf", "(III)I"⟩, 37) := ⟨⟨by decide +kernel, by decide +kernel⟩, List.mem_of_getElem? (i := 750) (by decide +kernel), List.mem_of_getElem? (i := 985) (by decide +kernel), List.mem_of_getElem? (i := 986) (by decide +kernel)⟩
theorem lw_p28 : lw_okq (⟨"PaletteFramesModel", "draw", "(I)V"⟩, 37) := ⟨⟨by decide +kernel, by decide +kernel⟩, List.mem_of_getElem? (i := 750) (by decide +kernel), List.mem_of_getElem? (i := 989) (by decide +kernel), List.mem_of_getElem? (i := 990) (by decide +kernel)⟩
def lw_privs_2 : List (MethodName × Nat) := [(⟨"PaletteFramesModel", "writeClear", "()V"⟩, 37), (⟨"PaletteFramesModel", "write", "(I)V"⟩, 37), (⟨"PaletteFramesModel", "childOf", "(II)I"⟩, 37), (⟨"PaletteFramesModel", "widen", "()V"⟩, 37), (⟨"PaletteFramesModel", "enter", "(II)V"⟩, 37), (⟨"PaletteFramesModel", "nextCode", "()I"⟩, 37), (⟨"PaletteFramesModel", "firstOf", "(I)I"⟩, 37), (⟨"PaletteFramesModel", "spell", "(I)V"⟩, 37), (⟨"PaletteFramesModel", "isFrame", "(I)Z"⟩, 37), (⟨"PaletteFramesModel", "isSymbol", "(I)Z"⟩, 37), (⟨"PaletteFramesModel", "takeAway", "(I)V"⟩, 37), (⟨"PaletteFramesModel", "placeOf", "(III)I"⟩, 37), (⟨"PaletteFramesModel", "draw", "(I)V"⟩, 37)]
theorem lw_r2 : ∀ q ∈ lw_privs_2, lw_okq q := List.forall_mem_cons.mpr ⟨lw_p16, List.forall_mem_cons.mpr ⟨lw_p17, List.forall_mem_cons.mpr ⟨lw_p18, List.forall_mem_cons.mpr ⟨lw_p19, List.forall_mem_cons.mpr ⟨lw_p20, List.forall_mem_cons.mpr ⟨lw_p21, List.forall_mem_cons.mpr ⟨lw_p22, List.forall_mem_cons.mpr ⟨lw_p23, List.forall_mem_cons.mpr ⟨lw_p24, List.forall_mem_cons.mpr ⟨lw_p25, List.forall_mem_cons.mpr ⟨lw_p26, List.forall_mem_cons.mpr ⟨lw_p27, List.forall_mem_cons.mpr ⟨lw_p28, fun _ h => absurd h List.not_mem_nil⟩⟩⟩⟩⟩⟩⟩⟩⟩⟩⟩⟩⟩
def lw_privs : List (MethodName × Nat) := lw_privs_1 ++ (lw_privs_2)
def lw_tbl : List Cond := k2_sels lw_privs ++ tables_1
theorem lw_privs_ok : ∀ q ∈ lw_privs, lw_okq q := by
  show ∀ q ∈ lw_privs_1 ++ (lw_privs_2), lw_okq q
  exact List.forall_mem_append.mpr ⟨lw_r1, lw_r2⟩
end
section
abbrev b_PF_init : ByteArray := prog_1_method_1_code
def y_PF_init : MethodName := ⟨"PaletteFrames", "<init>", "(I)V"⟩
abbrev b_PF_put : ByteArray := prog_1_method_2_code
def y_PF_put : MethodName := ⟨"PaletteFrames", "put", "(III)I"⟩
abbrev b_PF_rule : ByteArray := prog_1_method_3_code
def y_PF_rule : MethodName := ⟨"PaletteFrames", "rule", "(I)I"⟩
abbrev b_PF_encode : ByteArray := prog_1_method_4_code
def y_PF_encode : MethodName := ⟨"PaletteFrames", "encode", "()I"⟩
abbrev b_PF_byteAt : ByteArray := prog_1_method_5_code
def y_PF_byteAt : MethodName := ⟨"PaletteFrames", "byteAt", "(I)I"⟩
abbrev b_PF_coded : ByteArray := prog_1_method_6_code
def y_PF_coded : MethodName := ⟨"PaletteFrames", "coded", "(I)I"⟩
abbrev b_PF_feed : ByteArray := prog_1_method_7_code
def y_PF_feed : MethodName := ⟨"PaletteFrames", "feed", "(I)I"⟩
abbrev b_PF_pass : ByteArray := prog_1_method_8_code
def y_PF_pass : MethodName := ⟨"PaletteFrames", "pass", "(II)I"⟩
abbrev b_PF_decode : ByteArray := prog_1_method_9_code
def y_PF_decode : MethodName := ⟨"PaletteFrames", "decode", "()I"⟩
abbrev b_PF_at : ByteArray := prog_1_method_10_code
def y_PF_at : MethodName := ⟨"PaletteFrames", "at", "(I)I"⟩
abbrev b_PF_take : ByteArray := prog_1_method_11_code
def y_PF_take : MethodName := ⟨"PaletteFrames", "take", "()I"⟩
abbrev b_PF_frame : ByteArray := prog_1_method_12_code
def y_PF_frame : MethodName := ⟨"PaletteFrames", "frame", "(IIIIZII)I"⟩
abbrev b_PF_colour : ByteArray := prog_1_method_13_code
def y_PF_colour : MethodName := ⟨"PaletteFrames", "colour", "(III)I"⟩
abbrev b_PF_through : ByteArray := prog_1_method_14_code
def y_PF_through : MethodName := ⟨"PaletteFrames", "through", "(II)I"⟩
abbrev b_PF_shown : ByteArray := prog_1_method_15_code
def y_PF_shown : MethodName := ⟨"PaletteFrames", "shown", "(III)I"⟩
abbrev b_PF_symbol : ByteArray := prog_1_method_16_code
def y_PF_symbol : MethodName := ⟨"PaletteFrames", "symbol", "(III)I"⟩
abbrev b_PF_when : ByteArray := prog_1_method_17_code
def y_PF_when : MethodName := ⟨"PaletteFrames", "when", "(II)I"⟩
abbrev b_PF_passOf : ByteArray := prog_1_method_18_code
def y_PF_passOf : MethodName := ⟨"PaletteFrames", "passOf", "(I)I"⟩
abbrev b_PF_told : ByteArray := prog_1_method_19_code
def y_PF_told : MethodName := ⟨"PaletteFrames", "told", "(I)I"⟩
abbrev b_PF_clear : ByteArray := prog_1_method_20_code
def y_PF_clear : MethodName := ⟨"PaletteFrames", "clear", "()V"⟩
abbrev b_PF_isSymbol : ByteArray := prog_1_method_21_code
def y_PF_isSymbol : MethodName := ⟨"PaletteFrames", "isSymbol", "(I)Z"⟩
abbrev b_PF_fits : ByteArray := prog_1_method_22_code
def y_PF_fits : MethodName := ⟨"PaletteFrames", "fits", "(II)Z"⟩
abbrev b_Mo_init : ByteArray := prog_11_method_1_code
def y_Mo_init : MethodName := ⟨"PaletteFramesModel", "<init>", "(I)V"⟩
abbrev b_Mo_thrown : ByteArray := prog_11_method_2_code
def y_Mo_thrown : MethodName := ⟨"PaletteFramesModel", "thrown", "()I"⟩
abbrev b_Mo_clear : ByteArray := prog_11_method_3_code
def y_Mo_clear : MethodName := ⟨"PaletteFramesModel", "clear", "()V"⟩
abbrev b_Mo_put : ByteArray := prog_11_method_4_code
def y_Mo_put : MethodName := ⟨"PaletteFramesModel", "put", "(III)I"⟩
abbrev b_Mo_rule : ByteArray := prog_11_method_5_code
def y_Mo_rule : MethodName := ⟨"PaletteFramesModel", "rule", "(I)I"⟩
abbrev b_Mo_begin : ByteArray := prog_11_method_6_code
def y_Mo_begin : MethodName := ⟨"PaletteFramesModel", "begin", "()V"⟩
abbrev b_Mo_enter : ByteArray := prog_11_method_7_code
def y_Mo_enter : MethodName := ⟨"PaletteFramesModel", "enter", "(II)V"⟩
abbrev b_Mo_childOf : ByteArray := prog_11_method_8_code
def y_Mo_childOf : MethodName := ⟨"PaletteFramesModel", "childOf", "(II)I"⟩
abbrev b_Mo_widen : ByteArray := prog_11_method_9_code
def y_Mo_widen : MethodName := ⟨"PaletteFramesModel", "widen", "()V"⟩
abbrev b_Mo_write : ByteArray := prog_11_method_10_code
def y_Mo_write : MethodName := ⟨"PaletteFramesModel", "write", "(I)V"⟩
abbrev b_Mo_writeClear : ByteArray := prog_11_method_11_code
def y_Mo_writeClear : MethodName := ⟨"PaletteFramesModel", "writeClear", "()V"⟩
abbrev b_Mo_encode : ByteArray := prog_11_method_12_code
def y_Mo_encode : MethodName := ⟨"PaletteFramesModel", "encode", "()I"⟩
abbrev b_Mo_byteAt : ByteArray := prog_11_method_13_code
def y_Mo_byteAt : MethodName := ⟨"PaletteFramesModel", "byteAt", "(I)I"⟩
abbrev b_Mo_coded : ByteArray := prog_11_method_14_code
def y_Mo_coded : MethodName := ⟨"PaletteFramesModel", "coded", "(I)I"⟩
abbrev b_Mo_feed : ByteArray := prog_11_method_15_code
def y_Mo_feed : MethodName := ⟨"PaletteFramesModel", "feed", "(I)I"⟩
abbrev b_Mo_pass : ByteArray := prog_11_method_16_code
def y_Mo_pass : MethodName := ⟨"PaletteFramesModel", "pass", "(II)I"⟩
abbrev b_Mo_nextCode : ByteArray := prog_11_method_17_code
def y_Mo_nextCode : MethodName := ⟨"PaletteFramesModel", "nextCode", "()I"⟩
abbrev b_Mo_firstOf : ByteArray := prog_11_method_18_code
def y_Mo_firstOf : MethodName := ⟨"PaletteFramesModel", "firstOf", "(I)I"⟩
abbrev b_Mo_spell : ByteArray := prog_11_method_19_code
def y_Mo_spell : MethodName := ⟨"PaletteFramesModel", "spell", "(I)V"⟩
abbrev b_Mo_decode : ByteArray := prog_11_method_20_code
def y_Mo_decode : MethodName := ⟨"PaletteFramesModel", "decode", "()I"⟩
abbrev b_Mo_at : ByteArray := prog_11_method_21_code
def y_Mo_at : MethodName := ⟨"PaletteFramesModel", "at", "(I)I"⟩
abbrev b_Mo_take : ByteArray := prog_11_method_22_code
def y_Mo_take : MethodName := ⟨"PaletteFramesModel", "take", "()I"⟩
abbrev b_Mo_passNumber : ByteArray := prog_11_method_23_code
def y_Mo_passNumber : MethodName := ⟨"PaletteFramesModel", "passNumber", "(I)I"⟩
abbrev b_Mo_frame : ByteArray := prog_11_method_24_code
def y_Mo_frame : MethodName := ⟨"PaletteFramesModel", "frame", "(IIIIZII)I"⟩
abbrev b_Mo_isFrame : ByteArray := prog_11_method_25_code
def y_Mo_isFrame : MethodName := ⟨"PaletteFramesModel", "isFrame", "(I)Z"⟩
abbrev b_Mo_isSymbol : ByteArray := prog_11_method_26_code
def y_Mo_isSymbol : MethodName := ⟨"PaletteFramesModel", "isSymbol", "(I)Z"⟩
abbrev b_Mo_colour : ByteArray := prog_11_method_27_code
def y_Mo_colour : MethodName := ⟨"PaletteFramesModel", "colour", "(III)I"⟩
abbrev b_Mo_through : ByteArray := prog_11_method_28_code
def y_Mo_through : MethodName := ⟨"PaletteFramesModel", "through", "(II)I"⟩
abbrev b_Mo_placeOf : ByteArray := prog_11_method_29_code
def y_Mo_placeOf : MethodName := ⟨"PaletteFramesModel", "placeOf", "(III)I"⟩
abbrev b_Mo_draw : ByteArray := prog_11_method_30_code
def y_Mo_draw : MethodName := ⟨"PaletteFramesModel", "draw", "(I)V"⟩
abbrev b_Mo_takeAway : ByteArray := prog_11_method_31_code
def y_Mo_takeAway : MethodName := ⟨"PaletteFramesModel", "takeAway", "(I)V"⟩
abbrev b_Mo_shown : ByteArray := prog_11_method_32_code
def y_Mo_shown : MethodName := ⟨"PaletteFramesModel", "shown", "(III)I"⟩
abbrev b_Mo_symbol : ByteArray := prog_11_method_33_code
def y_Mo_symbol : MethodName := ⟨"PaletteFramesModel", "symbol", "(III)I"⟩
abbrev b_Mo_when : ByteArray := prog_11_method_34_code
def y_Mo_when : MethodName := ⟨"PaletteFramesModel", "when", "(II)I"⟩
abbrev b_Mo_passOf : ByteArray := prog_11_method_35_code
def y_Mo_passOf : MethodName := ⟨"PaletteFramesModel", "passOf", "(I)I"⟩
abbrev b_Mo_told : ByteArray := prog_11_method_36_code
def y_Mo_told : MethodName := ⟨"PaletteFramesModel", "told", "(I)I"⟩
abbrev b_Co_init : ByteArray := prog_2_method_1_code
def y_Co_init : MethodName := ⟨"PaletteFrames$Coder", "<init>", "(I)V"⟩
abbrev b_Co_forget : ByteArray := prog_2_method_2_code
def y_Co_forget : MethodName := ⟨"PaletteFrames$Coder", "forget", "()V"⟩
abbrev b_Co_codeRow : ByteArray := prog_2_method_3_code
def y_Co_codeRow : MethodName := ⟨"PaletteFrames$Coder", "codeRow", "(LPaletteFrames$Numbers;I)V"⟩
abbrev b_Co_writeClear : ByteArray := prog_2_method_4_code
def y_Co_writeClear : MethodName := ⟨"PaletteFrames$Coder", "writeClear", "()V"⟩
abbrev b_Co_writeEntry : ByteArray := prog_2_method_5_code
def y_Co_writeEntry : MethodName := ⟨"PaletteFrames$Coder", "writeEntry", "(II)V"⟩
abbrev b_Co_isClearDue : ByteArray := prog_2_method_6_code
def y_Co_isClearDue : MethodName := ⟨"PaletteFrames$Coder", "isClearDue", "(I)Z"⟩
abbrev b_Co_startLook : ByteArray := prog_2_method_7_code
def y_Co_startLook : MethodName := ⟨"PaletteFrames$Coder", "startLook", "()V"⟩
abbrev b_Co_write : ByteArray := prog_2_method_8_code
def y_Co_write : MethodName := ⟨"PaletteFrames$Coder", "write", "(I)V"⟩
abbrev b_Co_writeRest : ByteArray := prog_2_method_9_code
def y_Co_writeRest : MethodName := ⟨"PaletteFrames$Coder", "writeRest", "()V"⟩
abbrev b_Fr_init : ByteArray := prog_3_method_1_code
def y_Fr_init : MethodName := ⟨"PaletteFrames$Frame", "<init>", "(I)V"⟩
abbrev b_Fr_passNumber : ByteArray := prog_3_method_2_code
def y_Fr_passNumber : MethodName := ⟨"PaletteFrames$Frame", "passNumber", "(I)I"⟩
abbrev b_Fr_forget : ByteArray := prog_3_method_3_code
def y_Fr_forget : MethodName := ⟨"PaletteFrames$Frame", "forget", "()V"⟩
abbrev b_Fr_lay : ByteArray := prog_3_method_4_code
def y_Fr_lay : MethodName := ⟨"PaletteFrames$Frame", "lay", "(IIII)V"⟩
abbrev b_Fr_time : ByteArray := prog_3_method_5_code
def y_Fr_time : MethodName := ⟨"PaletteFrames$Frame", "time", "(II)V"⟩
abbrev b_Fr_fill : ByteArray := prog_3_method_6_code
def y_Fr_fill : MethodName := ⟨"PaletteFrames$Frame", "fill", "(LPaletteFrames$Numbers;Z)V"⟩
abbrev b_Fr_fillLine : ByteArray := prog_3_method_7_code
def y_Fr_fillLine : MethodName := ⟨"PaletteFrames$Frame", "fillLine", "(LPaletteFrames$Numbers;II)V"⟩
abbrev b_Fr_symbolIn : ByteArray := prog_3_method_8_code
def y_Fr_symbolIn : MethodName := ⟨"PaletteFrames$Frame", "symbolIn", "(II)I"⟩
abbrev b_Fr_covers : ByteArray := prog_3_method_9_code
def y_Fr_covers : MethodName := ⟨"PaletteFrames$Frame", "covers", "(II)Z"⟩
abbrev b_Fr_symbolOn : ByteArray := prog_3_method_10_code
def y_Fr_symbolOn : MethodName := ⟨"PaletteFrames$Frame", "symbolOn", "(II)I"⟩
abbrev b_Nu_init : ByteArray := prog_4_method_1_code
def y_Nu_init : MethodName := ⟨"PaletteFrames$Numbers", "<init>", "(I)V"⟩
abbrev b_Nu_has : ByteArray := prog_4_method_2_code
def y_Nu_has : MethodName := ⟨"PaletteFrames$Numbers", "has", "(I)Z"⟩
abbrev b_Nu_get : ByteArray := prog_4_method_3_code
def y_Nu_get : MethodName := ⟨"PaletteFrames$Numbers", "get", "(I)I"⟩
abbrev b_Nu_room : ByteArray := prog_4_method_4_code
def y_Nu_room : MethodName := ⟨"PaletteFrames$Numbers", "room", "()I"⟩
abbrev b_Nu_add : ByteArray := prog_4_method_5_code
def y_Nu_add : MethodName := ⟨"PaletteFrames$Numbers", "add", "(I)V"⟩
abbrev b_Nu_dropFirst : ByteArray := prog_4_method_6_code
def y_Nu_dropFirst : MethodName := ⟨"PaletteFrames$Numbers", "dropFirst", "(I)V"⟩
abbrev b_Nu_empty : ByteArray := prog_4_method_7_code
def y_Nu_empty : MethodName := ⟨"PaletteFrames$Numbers", "empty", "()V"⟩
abbrev b_Pa_init : ByteArray := prog_5_method_1_code
def y_Pa_init : MethodName := ⟨"PaletteFrames$Palette", "<init>", "(I)V"⟩
abbrev b_Pa_get : ByteArray := prog_5_method_2_code
def y_Pa_get : MethodName := ⟨"PaletteFrames$Palette", "get", "(I)I"⟩
abbrev b_Pa_change : ByteArray := prog_5_method_3_code
def y_Pa_change : MethodName := ⟨"PaletteFrames$Palette", "change", "(II)I"⟩
abbrev b_Pa_forget : ByteArray := prog_5_method_4_code
def y_Pa_forget : MethodName := ⟨"PaletteFrames$Palette", "forget", "()V"⟩
abbrev b_Re_init : ByteArray := prog_6_method_1_code
def y_Re_init : MethodName := ⟨"PaletteFrames$Reader", "<init>", "(I)V"⟩
abbrev b_Re_readAll : ByteArray := prog_6_method_2_code
def y_Re_readAll : MethodName := ⟨"PaletteFrames$Reader", "readAll", "(LPaletteFrames$Numbers;)I"⟩
abbrev b_Re_restart : ByteArray := prog_6_method_3_code
def y_Re_restart : MethodName := ⟨"PaletteFrames$Reader", "restart", "()V"⟩
abbrev b_Re_codeFrom : ByteArray := prog_6_method_4_code
def y_Re_codeFrom : MethodName := ⟨"PaletteFrames$Reader", "codeFrom", "(LPaletteFrames$Numbers;I)I"⟩
abbrev b_Re_copyString : ByteArray := prog_6_method_5_code
def y_Re_copyString : MethodName := ⟨"PaletteFrames$Reader", "copyString", "(I)Z"⟩
abbrev b_Re_addEntry : ByteArray := prog_6_method_6_code
def y_Re_addEntry : MethodName := ⟨"PaletteFrames$Reader", "addEntry", "(II)V"⟩
abbrev b_Sc_init : ByteArray := prog_7_method_1_code
def y_Sc_init : MethodName := ⟨"PaletteFrames$Screen", "<init>", "(I)V"⟩
abbrev b_Sc_has : ByteArray := prog_7_method_2_code
def y_Sc_has : MethodName := ⟨"PaletteFrames$Screen", "has", "(I)Z"⟩
abbrev b_Sc_addFrame : ByteArray := prog_7_method_3_code
def y_Sc_addFrame : MethodName := ⟨"PaletteFrames$Screen", "addFrame", "()LPaletteFrames$Frame;"⟩
abbrev b_Sc_forget : ByteArray := prog_7_method_4_code
def y_Sc_forget : MethodName := ⟨"PaletteFrames$Screen", "forget", "()V"⟩
abbrev b_Sc_colourBehind : ByteArray := prog_7_method_5_code
def y_Sc_colourBehind : MethodName := ⟨"PaletteFrames$Screen", "colourBehind", "(III)I"⟩
abbrev b_Sc_sourceBehind : ByteArray := prog_7_method_6_code
def y_Sc_sourceBehind : MethodName := ⟨"PaletteFrames$Screen", "sourceBehind", "(III)I"⟩
abbrev b_Sc_sourceAfter : ByteArray := prog_7_method_7_code
def y_Sc_sourceAfter : MethodName := ⟨"PaletteFrames$Screen", "sourceAfter", "(III)I"⟩
abbrev b_Sc_frameAt : ByteArray := prog_7_method_8_code
def y_Sc_frameAt : MethodName := ⟨"PaletteFrames$Screen", "frameAt", "(II)I"⟩
abbrev b_St_init : ByteArray := prog_8_method_1_code
def y_St_init : MethodName := ⟨"PaletteFrames$Strings", "<init>", "(I)V"⟩
abbrev b_St_count : ByteArray := prog_8_method_2_code
def y_St_count : MethodName := ⟨"PaletteFrames$Strings", "count", "()I"⟩
abbrev b_St_isFull : ByteArray := prog_8_method_3_code
def y_St_isFull : MethodName := ⟨"PaletteFrames$Strings", "isFull", "()Z"⟩
abbrev b_St_find : ByteArray := prog_8_method_4_code
def y_St_find : MethodName := ⟨"PaletteFrames$Strings", "find", "(II)I"⟩
abbrev b_St_add : ByteArray := prog_8_method_5_code
def y_St_add : MethodName := ⟨"PaletteFrames$Strings", "add", "(II)V"⟩
abbrev b_St_empty : ByteArray := prog_8_method_6_code
def y_St_empty : MethodName := ⟨"PaletteFrames$Strings", "empty", "()V"⟩
abbrev b_St_keyOf : ByteArray := prog_8_method_7_code
def y_St_keyOf : MethodName := ⟨"PaletteFrames$Strings", "keyOf", "(II)I"⟩
abbrev b_St_slotFor : ByteArray := prog_8_method_8_code
def y_St_slotFor : MethodName := ⟨"PaletteFrames$Strings", "slotFor", "(I)I"⟩
abbrev b_Wi_init : ByteArray := prog_9_method_1_code
def y_Wi_init : MethodName := ⟨"PaletteFrames$Width", "<init>", "(I)V"⟩
abbrev b_Wi_restart : ByteArray := prog_9_method_2_code
def y_Wi_restart : MethodName := ⟨"PaletteFrames$Width", "restart", "()V"⟩
abbrev b_Wi_behindEntry : ByteArray := prog_9_method_3_code
def y_Wi_behindEntry : MethodName := ⟨"PaletteFrames$Width", "behindEntry", "()V"⟩
abbrev b_La_cell : ByteArray := method_2_code
def y_La_cell : MethodName := ⟨"PaletteFramesLaw", "cell", "([II)I"⟩
abbrev b_La_put : ByteArray := method_3_code
def y_La_put : MethodName := ⟨"PaletteFramesLaw", "put", "(LPaletteFrames;III[J)I"⟩
abbrev b_La_rule : ByteArray := method_4_code
def y_La_rule : MethodName := ⟨"PaletteFramesLaw", "rule", "(LPaletteFrames;I[J)I"⟩
abbrev b_La_byteAt : ByteArray := method_5_code
def y_La_byteAt : MethodName := ⟨"PaletteFramesLaw", "byteAt", "(LPaletteFrames;I[J)I"⟩
abbrev b_La_feed : ByteArray := method_6_code
def y_La_feed : MethodName := ⟨"PaletteFramesLaw", "feed", "(LPaletteFrames;I[J)I"⟩
abbrev b_La_pass : ByteArray := method_7_code
def y_La_pass : MethodName := ⟨"PaletteFramesLaw", "pass", "(LPaletteFrames;II[J)I"⟩
abbrev b_La_at : ByteArray := method_8_code
def y_La_at : MethodName := ⟨"PaletteFramesLaw", "at", "(LPaletteFrames;I[J)I"⟩
abbrev b_La_frame : ByteArray := method_9_code
def y_La_frame : MethodName := ⟨"PaletteFramesLaw", "frame", "(LPaletteFrames;IIIIZII[J)I"⟩
abbrev b_La_colour : ByteArray := method_10_code
def y_La_colour : MethodName := ⟨"PaletteFramesLaw", "colour", "(LPaletteFrames;III[J)I"⟩
abbrev b_La_through : ByteArray := method_11_code
def y_La_through : MethodName := ⟨"PaletteFramesLaw", "through", "(LPaletteFrames;II[J)I"⟩
abbrev b_La_shown : ByteArray := method_12_code
def y_La_shown : MethodName := ⟨"PaletteFramesLaw", "shown", "(LPaletteFrames;III[J)I"⟩
abbrev b_La_symbol : ByteArray := method_13_code
def y_La_symbol : MethodName := ⟨"PaletteFramesLaw", "symbol", "(LPaletteFrames;III[J)I"⟩
abbrev b_La_when : ByteArray := method_14_code
def y_La_when : MethodName := ⟨"PaletteFramesLaw", "when", "(LPaletteFrames;II[J)I"⟩
abbrev b_La_passOf : ByteArray := method_15_code
def y_La_passOf : MethodName := ⟨"PaletteFramesLaw", "passOf", "(LPaletteFrames;I[J)I"⟩
abbrev b_Ar_fill : ByteArray := prog_22_method_103_code
def y_Ar_fill : MethodName := ⟨"java/util/Arrays", "fill", "([II)V"⟩
end
section
theorem d_PF_init_0 : decode b_PF_init 0 = .ok (.aload_n 0, 1) := by decide +kernel
theorem d_PF_init_1 : decode b_PF_init 1 = .ok (.invokespecial 3, 3) := by decide +kernel
theorem d_PF_init_4 : decode b_PF_init 4 = .ok (.aload_n 0, 1) := by decide +kernel
theorem d_PF_init_5 : decode b_PF_init 5 = .ok (.iconst (2), 1) := by decide +kernel
theorem d_PF_init_6 : decode b_PF_init 6 = .ok (.bipush (8), 2) := by decide +kernel
theorem d_PF_init_8 : decode b_PF_init 8 = .ok (.iload_n 1, 1) := by decide +kernel
theorem d_PF_init_9 : decode b_PF_init 9 = .ok (.invokestatic 9, 3) := by decide +kernel
theorem d_PF_init_12 : decode b_PF_init 12 = .ok (.invokestatic 15, 3) := by decide +kernel
theorem d_PF_init_15 : decode b_PF_init 15 = .ok (.putfield 18, 3) := by decide +kernel
theorem d_PF_init_18 : decode b_PF_init 18 = .ok (.aload_n 0, 1) := by decide +kernel
theorem d_PF_init_19 : decode b_PF_init 19 = .ok (.new 22, 3) := by decide +kernel
theorem d_PF_init_22 : decode b_PF_init 22 = .ok (.dup, 1) := by decide +kernel
theorem d_PF_init_23 : decode b_PF_init 23 = .ok (.sipush (12000), 3) := by decide +kernel
theorem d_PF_init_26 : decode b_PF_init 26 = .ok (.invokespecial 24, 3) := by decide +kernel
theorem d_PF_init_29 : decode b_PF_init 29 = .ok (.putfield 27, 3) := by decide +kernel
theorem d_PF_init_32 : decode b_PF_init 32 = .ok (.aload_n 0, 1) := by decide +kernel
theorem d_PF_init_33 : decode b_PF_init 33 = .ok (.new 22, 3) := by decide +kernel
theorem d_PF_init_36 : decode b_PF_init 36 = .ok (.dup, 1) := by decide +kernel
theorem d_PF_init_37 : decode b_PF_init 37 = .ok (.sipush (24000), 3) := by decide +kernel
theorem d_PF_init_40 : decode b_PF_init 40 = .ok (.invokespecial 24, 3) := by decide +kernel
theorem d_PF_init_43 : decode b_PF_init 43 = .ok (.putfield 31, 3) := by decide +kernel
theorem d_PF_init_46 : decode b_PF_init 46 = .ok (.aload_n 0, 1) := by decide +kernel
theorem d_PF_init_47 : decode b_PF_init 47 = .ok (.new 34, 3) := by decide +kernel
theorem d_PF_init_50 : decode b_PF_init 50 = .ok (.dup, 1) := by decide +kernel
theorem d_PF_init_51 : decode b_PF_init 51 = .ok (.aload_n 0, 1) := by decide +kernel
theorem d_PF_init_52 : decode b_PF_init 52 = .ok (.getfield 18, 3) := by decide +kernel
theorem d_PF_init_55 : decode b_PF_init 55 = .ok (.invokespecial 36, 3) := by decide +kernel
theorem d_PF_init_58 : decode b_PF_init 58 = .ok (.putfield 37, 3) := by decide +kernel
theorem d_PF_init_61 : decode b_PF_init 61 = .ok (.aload_n 0, 1) := by decide +kernel
theorem d_PF_init_62 : decode b_PF_init 62 = .ok (.new 41, 3) := by decide +kernel
theorem d_PF_init_65 : decode b_PF_init 65 = .ok (.dup, 1) := by decide +kernel
theorem d_PF_init_66 : decode b_PF_init 66 = .ok (.aload_n 0, 1) := by decide +kernel
theorem d_PF_init_67 : decode b_PF_init 67 = .ok (.getfield 18, 3) := by decide +kernel
theorem d_PF_init_70 : decode b_PF_init 70 = .ok (.invokespecial 43, 3) := by decide +kernel
theorem d_PF_init_73 : decode b_PF_init 73 = .ok (.putfield 44, 3) := by decide +kernel
theorem d_PF_init_76 : decode b_PF_init 76 = .ok (.aload_n 0, 1) := by decide +kernel
theorem d_PF_init_77 : decode b_PF_init 77 = .ok (.new 48, 3) := by decide +kernel
theorem d_PF_init_80 : decode b_PF_init 80 = .ok (.dup, 1) := by decide +kernel
theorem d_PF_init_81 : decode b_PF_init 81 = .ok (.iconst (1), 1) := by decide +kernel
theorem d_PF_init_82 : decode b_PF_init 82 = .ok (.aload_n 0, 1) := by decide +kernel
theorem d_PF_init_83 : decode b_PF_init 83 = .ok (.getfield 18, 3) := by decide +kernel
theorem d_PF_init_86 : decode b_PF_init 86 = .ok (.ishl, 1) := by decide +kernel
theorem d_PF_init_87 : decode b_PF_init 87 = .ok (.invokespecial 50, 3) := by decide +kernel
theorem d_PF_init_90 : decode b_PF_init 90 = .ok (.putfield 51, 3) := by decide +kernel
theorem d_PF_init_93 : decode b_PF_init 93 = .ok (.aload_n 0, 1) := by decide +kernel
theorem d_PF_init_94 : decode b_PF_init 94 = .ok (.iconst (0), 1) := by decide +kernel
theorem d_PF_init_95 : decode b_PF_init 95 = .ok (.putfield 55, 3) := by decide +kernel
theorem d_PF_init_98 : decode b_PF_init 98 = .ok (.return_, 1) := by decide +kernel
theorem d_PF_put_0 : decode b_PF_put 0 = .ok (.iload_n 3, 1) := by decide +kernel
theorem d_PF_put_1 : decode b_PF_put 1 = .ok (.iconst (1), 1) := by decide +kernel
theorem d_PF_put_2 : decode b_PF_put 2 = .ok (.if_icmp .lt (10), 3) := by decide +kernel
theorem d_PF_put_5 : decode b_PF_put 5 = .ok (.iload_n 3, 1) := by decide +kernel
theorem d_PF_put_6 : decode b_PF_put 6 = .ok (.sipush (1000), 3) := by decide +kernel
theorem d_PF_put_9 : decode b_PF_put 9 = .ok (.if_icmp .le (13), 3) := by decide +kernel
theorem d_PF_put_12 : decode b_PF_put 12 = .ok (.new 58, 3) := by decide +kernel
theorem d_PF_put_15 : decode b_PF_put 15 = .ok (.dup, 1) := by decide +kernel
theorem d_PF_put_16 : decode b_PF_put 16 = .ok (.ldc 60, 2) := by decide +kernel
theorem d_PF_put_18 : decode b_PF_put 18 = .ok (.invokespecial 62, 3) := by decide +kernel
theorem d_PF_put_21 : decode b_PF_put 21 = .ok (.athrow, 1) := by decide +kernel
theorem d_PF_put_22 : decode b_PF_put 22 = .ok (.iload_n 3, 1) := by decide +kernel
theorem d_PF_put_23 : decode b_PF_put 23 = .ok (.aload_n 0, 1) := by decide +kernel
theorem d_PF_put_24 : decode b_PF_put 24 = .ok (.getfield 27, 3) := by decide +kernel
theorem d_PF_put_27 : decode b_PF_put 27 = .ok (.invokevirtual 65, 3) := by decide +kernel
theorem d_PF_put_30 : decode b_PF_put 30 = .ok (.if_icmp .le (13), 3) := by decide +kernel
theorem d_PF_put_33 : decode b_PF_put 33 = .ok (.new 69, 3) := by decide +kernel
theorem d_PF_put_36 : decode b_PF_put 36 = .ok (.dup, 1) := by decide +kernel
theorem d_PF_put_37 : decode b_PF_put 37 = .ok (.ldc 71, 2) := by decide +kernel
theorem d_PF_put_39 : decode b_PF_put 39 = .ok (.invokespecial 73, 3) := by decide +kernel
theorem d_PF_put_42 : decode b_PF_put 42 = .ok (.athrow, 1) := by decide +kernel
theorem d_PF_put_43 : decode b_PF_put 43 = .ok (.iconst (1), 1) := by decide +kernel
theorem d_PF_put_44 : decode b_PF_put 44 = .ok (.aload_n 0, 1) := by decide +kernel
theorem d_PF_put_45 : decode b_PF_put 45 = .ok (.getfield 18, 3) := by decide +kernel
theorem d_PF_put_48 : decode b_PF_put 48 = .ok (.ishl, 1) := by decide +kernel
theorem d_PF_put_49 : decode b_PF_put 49 = .ok (.iconst (1), 1) := by decide +kernel
theorem d_PF_put_50 : decode b_PF_put 50 = .ok (.isub, 1) := by decide +kernel
theorem d_PF_put_51 : decode b_PF_put 51 = .ok (.istore 4, 2) := by decide +kernel
theorem d_PF_put_53 : decode b_PF_put 53 = .ok (.iload_n 1, 1) := by decide +kernel
theorem d_PF_put_54 : decode b_PF_put 54 = .ok (.istore 5, 2) := by decide +kernel
theorem d_PF_put_56 : decode b_PF_put 56 = .ok (.iconst (0), 1) := by decide +kernel
theorem d_PF_put_57 : decode b_PF_put 57 = .ok (.istore 6, 2) := by decide +kernel
theorem d_PF_put_59 : decode b_PF_put 59 = .ok (.iload 6, 2) := by decide +kernel
theorem d_PF_put_61 : decode b_PF_put 61 = .ok (.iload_n 3, 1) := by decide +kernel
theorem d_PF_put_62 : decode b_PF_put 62 = .ok (.if_icmp .ge (27), 3) := by decide +kernel
theorem d_PF_put_65 : decode b_PF_put 65 = .ok (.aload_n 0, 1) := by decide +kernel
theorem d_PF_put_66 : decode b_PF_put 66 = .ok (.getfield 27, 3) := by decide +kernel
theorem d_PF_put_69 : decode b_PF_put 69 = .ok (.iload 5, 2) := by decide +kernel
theorem d_PF_put_71 : decode b_PF_put 71 = .ok (.iload 4, 2) := by decide +kernel
theorem d_PF_put_73 : decode b_PF_put 73 = .ok (.iand, 1) := by decide +kernel
theorem d_PF_put_74 : decode b_PF_put 74 = .ok (.invokevirtual 74, 3) := by decide +kernel
theorem d_PF_put_77 : decode b_PF_put 77 = .ok (.iload 5, 2) := by decide +kernel
theorem d_PF_put_79 : decode b_PF_put 79 = .ok (.iload_n 2, 1) := by decide +kernel
theorem d_PF_put_80 : decode b_PF_put 80 = .ok (.iadd, 1) := by decide +kernel
theorem d_PF_put_81 : decode b_PF_put 81 = .ok (.istore 5, 2) := by decide +kernel
theorem d_PF_put_83 : decode b_PF_put 83 = .ok (.iinc 6 (1), 3) := by decide +kernel
theorem d_PF_put_86 : decode b_PF_put 86 = .ok (.goto (-27), 3) := by decide +kernel
theorem d_PF_put_89 : decode b_PF_put 89 = .ok (.aload_n 0, 1) := by decide +kernel
theorem d_PF_put_90 : decode b_PF_put 90 = .ok (.getfield 27, 3) := by decide +kernel
theorem d_PF_put_93 : decode b_PF_put 93 = .ok (.getfield 77, 3) := by decide +kernel
theorem d_PF_put_96 : decode b_PF_put 96 = .ok (.ireturn, 1) := by decide +kernel
theorem d_PF_rule_0 : decode b_PF_rule 0 = .ok (.iload_n 1, 1) := by decide +kernel
theorem d_PF_rule_1 : decode b_PF_rule 1 = .ok (.ifCond .lt (8), 3) := by decide +kernel
theorem d_PF_rule_4 : decode b_PF_rule 4 = .ok (.iload_n 1, 1) := by decide +kernel
theorem d_PF_rule_5 : decode b_PF_rule 5 = .ok (.iconst (2), 1) := by decide +kernel
theorem d_PF_rule_6 : decode b_PF_rule 6 = .ok (.if_icmp .le (13), 3) := by decide +kernel
theorem d_PF_rule_9 : decode b_PF_rule 9 = .ok (.new 58, 3) := by decide +kernel
theorem d_PF_rule_12 : decode b_PF_rule 12 = .ok (.dup, 1) := by decide +kernel
theorem d_PF_rule_13 : decode b_PF_rule 13 = .ok (.ldc 80, 2) := by decide +kernel
theorem d_PF_rule_15 : decode b_PF_rule 15 = .ok (.invokespecial 62, 3) := by decide +kernel
theorem d_PF_rule_18 : decode b_PF_rule 18 = .ok (.athrow, 1) := by decide +kernel
theorem d_PF_rule_19 : decode b_PF_rule 19 = .ok (.aload_n 0, 1) := by decide +kernel
theorem d_PF_rule_20 : decode b_PF_rule 20 = .ok (.getfield 55, 3) := by decide +kernel
theorem d_PF_rule_23 : decode b_PF_rule 23 = .ok (.istore_n 2, 1) := by decide +kernel
theorem d_PF_rule_24 : decode b_PF_rule 24 = .ok (.aload_n 0, 1) := by decide +kernel
theorem d_PF_rule_25 : decode b_PF_rule 25 = .ok (.iload_n 1, 1) := by decide +kernel
theorem d_PF_rule_26 : decode b_PF_rule 26 = .ok (.putfield 55, 3) := by decide +kernel
theorem d_PF_rule_29 : decode b_PF_rule 29 = .ok (.iload_n 2, 1) := by decide +kernel
theorem d_PF_rule_30 : decode b_PF_rule 30 = .ok (.ireturn, 1) := by decide +kernel
theorem d_PF_encode_0 : decode b_PF_encode 0 = .ok (.aload_n 0, 1) := by decide +kernel
theorem d_PF_encode_1 : decode b_PF_encode 1 = .ok (.getfield 37, 3) := by decide +kernel
theorem d_PF_encode_4 : decode b_PF_encode 4 = .ok (.aload_n 0, 1) := by decide +kernel
theorem d_PF_encode_5 : decode b_PF_encode 5 = .ok (.getfield 27, 3) := by decide +kernel
theorem d_PF_encode_8 : decode b_PF_encode 8 = .ok (.aload_n 0, 1) := by decide +kernel
theorem d_PF_encode_9 : decode b_PF_encode 9 = .ok (.getfield 55, 3) := by decide +kernel
theorem d_PF_encode_12 : decode b_PF_encode 12 = .ok (.invokevirtual 82, 3) := by decide +kernel
theorem d_PF_encode_15 : decode b_PF_encode 15 = .ok (.aload_n 0, 1) := by decide +kernel
theorem d_PF_encode_16 : decode b_PF_encode 16 = .ok (.getfield 37, 3) := by decide +kernel
theorem d_PF_encode_19 : decode b_PF_encode 19 = .ok (.getfield 86, 3) := by decide +kernel
theorem d_PF_encode_22 : decode b_PF_encode 22 = .ok (.getfield 77, 3) := by decide +kernel
theorem d_PF_encode_25 : decode b_PF_encode 25 = .ok (.ireturn, 1) := by decide +kernel
theorem d_PF_byteAt_0 : decode b_PF_byteAt 0 = .ok (.aload_n 0, 1) := by decide +kernel
theorem d_PF_byteAt_1 : decode b_PF_byteAt 1 = .ok (.getfield 37, 3) := by decide +kernel
theorem d_PF_byteAt_4 : decode b_PF_byteAt 4 = .ok (.getfield 86, 3) := by decide +kernel
theorem d_PF_byteAt_7 : decode b_PF_byteAt 7 = .ok (.iload_n 1, 1) := by decide +kernel
theorem d_PF_byteAt_8 : decode b_PF_byteAt 8 = .ok (.invokevirtual 89, 3) := by decide +kernel
theorem d_PF_byteAt_11 : decode b_PF_byteAt 11 = .ok (.ifCond .ne (13), 3) := by decide +kernel
theorem d_PF_byteAt_14 : decode b_PF_byteAt 14 = .ok (.new 93, 3) := by decide +kernel
theorem d_PF_byteAt_17 : decode b_PF_byteAt 17 = .ok (.dup, 1) := by decide +kernel
theorem d_PF_byteAt_18 : decode b_PF_byteAt 18 = .ok (.ldc 95, 2) := by decide +kernel
theorem d_PF_byteAt_20 : decode b_PF_byteAt 20 = .ok (.invokespecial 97, 3) := by decide +kernel
theorem d_PF_byteAt_23 : decode b_PF_byteAt 23 = .ok (.athrow, 1) := by decide +kernel
theorem d_PF_byteAt_24 : decode b_PF_byteAt 24 = .ok (.aload_n 0, 1) := by decide +kernel
theorem d_PF_byteAt_25 : decode b_PF_byteAt 25 = .ok (.getfield 37, 3) := by decide +kernel
theorem d_PF_byteAt_28 : decode b_PF_byteAt 28 = .ok (.getfield 86, 3) := by decide +kernel
theorem d_PF_byteAt_31 : decode b_PF_byteAt 31 = .ok (.iload_n 1, 1) := by decide +kernel
theorem d_PF_byteAt_32 : decode b_PF_byteAt 32 = .ok (.invokevirtual 98, 3) := by decide +kernel
theorem d_PF_byteAt_35 : decode b_PF_byteAt 35 = .ok (.ireturn, 1) := by decide +kernel
theorem d_PF_coded_0 : decode b_PF_coded 0 = .ok (.iload_n 1, 1) := by decide +kernel
theorem d_PF_coded_1 : decode b_PF_coded 1 = .ok (.tableswitch (66) (0) (3) #[31, 39, 47, 55], 31) := by decide +kernel
theorem d_PF_coded_32 : decode b_PF_coded 32 = .ok (.aload_n 0, 1) := by decide +kernel
theorem d_PF_coded_33 : decode b_PF_coded 33 = .ok (.getfield 37, 3) := by decide +kernel
theorem d_PF_coded_36 : decode b_PF_coded 36 = .ok (.getfield 102, 3) := by decide +kernel
theorem d_PF_coded_39 : decode b_PF_coded 39 = .ok (.ireturn, 1) := by decide +kernel
theorem d_PF_coded_40 : decode b_PF_coded 40 = .ok (.aload_n 0, 1) := by decide +kernel
theorem d_PF_coded_41 : decode b_PF_coded 41 = .ok (.getfield 37, 3) := by decide +kernel
theorem d_PF_coded_44 : decode b_PF_coded 44 = .ok (.getfield 105, 3) := by decide +kernel
theorem d_PF_coded_47 : decode b_PF_coded 47 = .ok (.ireturn, 1) := by decide +kernel
theorem d_PF_coded_48 : decode b_PF_coded 48 = .ok (.aload_n 0, 1) := by decide +kernel
theorem d_PF_coded_49 : decode b_PF_coded 49 = .ok (.getfield 37, 3) := by decide +kernel
theorem d_PF_coded_52 : decode b_PF_coded 52 = .ok (.getfield 108, 3) := by decide +kernel
theorem d_PF_coded_55 : decode b_PF_coded 55 = .ok (.ireturn, 1) := by decide +kernel
theorem d_PF_coded_56 : decode b_PF_coded 56 = .ok (.aload_n 0, 1) := by decide +kernel
theorem d_PF_coded_57 : decode b_PF_coded 57 = .ok (.getfield 37, 3) := by decide +kernel
theorem d_PF_coded_60 : decode b_PF_coded 60 = .ok (.getfield 111, 3) := by decide +kernel
theorem d_PF_coded_63 : decode b_PF_coded 63 = .ok (.invokevirtual 115, 3) := by decide +kernel
theorem d_PF_coded_66 : decode b_PF_coded 66 = .ok (.ireturn, 1) := by decide +kernel
theorem d_PF_coded_67 : decode b_PF_coded 67 = .ok (.iconst (-1), 1) := by decide +kernel
theorem d_PF_coded_68 : decode b_PF_coded 68 = .ok (.ireturn, 1) := by decide +kernel
theorem d_PF_feed_0 : decode b_PF_feed 0 = .ok (.iload_n 1, 1) := by decide +kernel
theorem d_PF_feed_1 : decode b_PF_feed 1 = .ok (.ifCond .lt (10), 3) := by decide +kernel
theorem d_PF_feed_4 : decode b_PF_feed 4 = .ok (.iload_n 1, 1) := by decide +kernel
theorem d_PF_feed_5 : decode b_PF_feed 5 = .ok (.sipush (255), 3) := by decide +kernel
theorem d_PF_feed_8 : decode b_PF_feed 8 = .ok (.if_icmp .le (13), 3) := by decide +kernel
theorem d_PF_feed_11 : decode b_PF_feed 11 = .ok (.new 58, 3) := by decide +kernel
theorem d_PF_feed_14 : decode b_PF_feed 14 = .ok (.dup, 1) := by decide +kernel
theorem d_PF_feed_15 : decode b_PF_feed 15 = .ok (.ldc 120, 2) := by decide +kernel
theorem d_PF_feed_17 : decode b_PF_feed 17 = .ok (.invokespecial 62, 3) := by decide +kernel
theorem d_PF_feed_20 : decode b_PF_feed 20 = .ok (.athrow, 1) := by decide +kernel
theorem d_PF_feed_21 : decode b_PF_feed 21 = .ok (.aload_n 0, 1) := by decide +kernel
theorem d_PF_feed_22 : decode b_PF_feed 22 = .ok (.getfield 31, 3) := by decide +kernel
theorem d_PF_feed_25 : decode b_PF_feed 25 = .ok (.invokevirtual 65, 3) := by decide +kernel
theorem d_PF_feed_28 : decode b_PF_feed 28 = .ok (.iconst (1), 1) := by decide +kernel
theorem d_PF_feed_29 : decode b_PF_feed 29 = .ok (.if_icmp .ge (13), 3) := by decide +kernel
theorem d_PF_feed_32 : decode b_PF_feed 32 = .ok (.new 69, 3) := by decide +kernel
theorem d_PF_feed_35 : decode b_PF_feed 35 = .ok (.dup, 1) := by decide +kernel
theorem d_PF_feed_36 : decode b_PF_feed 36 = .ok (.ldc 122, 2) := by decide +kernel
theorem d_PF_feed_38 : decode b_PF_feed 38 = .ok (.invokespecial 73, 3) := by decide +kernel
theorem d_PF_feed_41 : decode b_PF_feed 41 = .ok (.athrow, 1) := by decide +kernel
theorem d_PF_feed_42 : decode b_PF_feed 42 = .ok (.aload_n 0, 1) := by decide +kernel
theorem d_PF_feed_43 : decode b_PF_feed 43 = .ok (.getfield 31, 3) := by decide +kernel
theorem d_PF_feed_46 : decode b_PF_feed 46 = .ok (.iload_n 1, 1) := by decide +kernel
theorem d_PF_feed_47 : decode b_PF_feed 47 = .ok (.invokevirtual 74, 3) := by decide +kernel
theorem d_PF_feed_50 : decode b_PF_feed 50 = .ok (.aload_n 0, 1) := by decide +kernel
theorem d_PF_feed_51 : decode b_PF_feed 51 = .ok (.getfield 31, 3) := by decide +kernel
theorem d_PF_feed_54 : decode b_PF_feed 54 = .ok (.getfield 77, 3) := by decide +kernel
theorem d_PF_feed_57 : decode b_PF_feed 57 = .ok (.ireturn, 1) := by decide +kernel
theorem d_PF_pass_0 : decode b_PF_pass 0 = .ok (.aload_n 0, 1) := by decide +kernel
theorem d_PF_pass_1 : decode b_PF_pass 1 = .ok (.getfield 37, 3) := by decide +kernel
theorem d_PF_pass_4 : decode b_PF_pass 4 = .ok (.getfield 86, 3) := by decide +kernel
theorem d_PF_pass_7 : decode b_PF_pass 7 = .ok (.iload_n 1, 1) := by decide +kernel
theorem d_PF_pass_8 : decode b_PF_pass 8 = .ok (.invokevirtual 89, 3) := by decide +kernel
theorem d_PF_pass_11 : decode b_PF_pass 11 = .ok (.ifCond .ne (13), 3) := by decide +kernel
theorem d_PF_pass_14 : decode b_PF_pass 14 = .ok (.new 93, 3) := by decide +kernel
theorem d_PF_pass_17 : decode b_PF_pass 17 = .ok (.dup, 1) := by decide +kernel
theorem d_PF_pass_18 : decode b_PF_pass 18 = .ok (.ldc 95, 2) := by decide +kernel
theorem d_PF_pass_20 : decode b_PF_pass 20 = .ok (.invokespecial 97, 3) := by decide +kernel
theorem d_PF_pass_23 : decode b_PF_pass 23 = .ok (.athrow, 1) := by decide +kernel
theorem d_PF_pass_24 : decode b_PF_pass 24 = .ok (.iload_n 2, 1) := by decide +kernel
theorem d_PF_pass_25 : decode b_PF_pass 25 = .ok (.ifCond .ge (13), 3) := by decide +kernel
theorem d_PF_pass_28 : decode b_PF_pass 28 = .ok (.new 58, 3) := by decide +kernel
theorem d_PF_pass_31 : decode b_PF_pass 31 = .ok (.dup, 1) := by decide +kernel
theorem d_PF_pass_32 : decode b_PF_pass 32 = .ok (.ldc 124, 2) := by decide +kernel
theorem d_PF_pass_34 : decode b_PF_pass 34 = .ok (.invokespecial 62, 3) := by decide +kernel
theorem d_PF_pass_37 : decode b_PF_pass 37 = .ok (.athrow, 1) := by decide +kernel
theorem d_PF_pass_38 : decode b_PF_pass 38 = .ok (.iload_n 2, 1) := by decide +kernel
theorem d_PF_pass_39 : decode b_PF_pass 39 = .ok (.aload_n 0, 1) := by decide +kernel
theorem d_PF_pass_40 : decode b_PF_pass 40 = .ok (.getfield 37, 3) := by decide +kernel
theorem d_PF_pass_43 : decode b_PF_pass 43 = .ok (.getfield 86, 3) := by decide +kernel
theorem d_PF_pass_46 : decode b_PF_pass 46 = .ok (.getfield 77, 3) := by decide +kernel
theorem d_PF_pass_49 : decode b_PF_pass 49 = .ok (.iload_n 1, 1) := by decide +kernel
theorem d_PF_pass_50 : decode b_PF_pass 50 = .ok (.isub, 1) := by decide +kernel
theorem d_PF_pass_51 : decode b_PF_pass 51 = .ok (.invokestatic 9, 3) := by decide +kernel
theorem d_PF_pass_54 : decode b_PF_pass 54 = .ok (.istore_n 3, 1) := by decide +kernel
theorem d_PF_pass_55 : decode b_PF_pass 55 = .ok (.iload_n 3, 1) := by decide +kernel
theorem d_PF_pass_56 : decode b_PF_pass 56 = .ok (.aload_n 0, 1) := by decide +kernel
theorem d_PF_pass_57 : decode b_PF_pass 57 = .ok (.getfield 31, 3) := by decide +kernel
theorem d_PF_pass_60 : decode b_PF_pass 60 = .ok (.invokevirtual 65, 3) := by decide +kernel
theorem d_PF_pass_63 : decode b_PF_pass 63 = .ok (.if_icmp .le (13), 3) := by decide +kernel
theorem d_PF_pass_66 : decode b_PF_pass 66 = .ok (.new 69, 3) := by decide +kernel
theorem d_PF_pass_69 : decode b_PF_pass 69 = .ok (.dup, 1) := by decide +kernel
theorem d_PF_pass_70 : decode b_PF_pass 70 = .ok (.ldc 126, 2) := by decide +kernel
theorem d_PF_pass_72 : decode b_PF_pass 72 = .ok (.invokespecial 73, 3) := by decide +kernel
theorem d_PF_pass_75 : decode b_PF_pass 75 = .ok (.athrow, 1) := by decide +kernel
theorem d_PF_pass_76 : decode b_PF_pass 76 = .ok (.iconst (0), 1) := by decide +kernel
theorem d_PF_pass_77 : decode b_PF_pass 77 = .ok (.istore 4, 2) := by decide +kernel
theorem d_PF_pass_79 : decode b_PF_pass 79 = .ok (.iload 4, 2) := by decide +kernel
theorem d_PF_pass_81 : decode b_PF_pass 81 = .ok (.iload_n 3, 1) := by decide +kernel
theorem d_PF_pass_82 : decode b_PF_pass 82 = .ok (.if_icmp .ge (30), 3) := by decide +kernel
theorem d_PF_pass_85 : decode b_PF_pass 85 = .ok (.aload_n 0, 1) := by decide +kernel
theorem d_PF_pass_86 : decode b_PF_pass 86 = .ok (.getfield 31, 3) := by decide +kernel
theorem d_PF_pass_89 : decode b_PF_pass 89 = .ok (.aload_n 0, 1) := by decide +kernel
theorem d_PF_pass_90 : decode b_PF_pass 90 = .ok (.getfield 37, 3) := by decide +kernel
theorem d_PF_pass_93 : decode b_PF_pass 93 = .ok (.getfield 86, 3) := by decide +kernel
theorem d_PF_pass_96 : decode b_PF_pass 96 = .ok (.iload_n 1, 1) := by decide +kernel
theorem d_PF_pass_97 : decode b_PF_pass 97 = .ok (.iload 4, 2) := by decide +kernel
theorem d_PF_pass_99 : decode b_PF_pass 99 = .ok (.iadd, 1) := by decide +kernel
theorem d_PF_pass_100 : decode b_PF_pass 100 = .ok (.invokevirtual 98, 3) := by decide +kernel
theorem d_PF_pass_103 : decode b_PF_pass 103 = .ok (.invokevirtual 74, 3) := by decide +kernel
theorem d_PF_pass_106 : decode b_PF_pass 106 = .ok (.iinc 4 (1), 3) := by decide +kernel
theorem d_PF_pass_109 : decode b_PF_pass 109 = .ok (.goto (-30), 3) := by decide +kernel
theorem d_PF_pass_112 : decode b_PF_pass 112 = .ok (.iload_n 3, 1) := by decide +kernel
theorem d_PF_pass_113 : decode b_PF_pass 113 = .ok (.ireturn, 1) := by decide +kernel
theorem d_PF_decode_0 : decode b_PF_decode 0 = .ok (.aload_n 0, 1) := by decide +kernel
theorem d_PF_decode_1 : decode b_PF_decode 1 = .ok (.getfield 44, 3) := by decide +kernel
theorem d_PF_decode_4 : decode b_PF_decode 4 = .ok (.aload_n 0, 1) := by decide +kernel
theorem d_PF_decode_5 : decode b_PF_decode 5 = .ok (.getfield 31, 3) := by decide +kernel
theorem d_PF_decode_8 : decode b_PF_decode 8 = .ok (.invokevirtual 128, 3) := by decide +kernel
theorem d_PF_decode_11 : decode b_PF_decode 11 = .ok (.istore_n 1, 1) := by decide +kernel
theorem d_PF_decode_12 : decode b_PF_decode 12 = .ok (.aload_n 0, 1) := by decide +kernel
theorem d_PF_decode_13 : decode b_PF_decode 13 = .ok (.getfield 31, 3) := by decide +kernel
theorem d_PF_decode_16 : decode b_PF_decode 16 = .ok (.invokevirtual 132, 3) := by decide +kernel
theorem d_PF_decode_19 : decode b_PF_decode 19 = .ok (.iload_n 1, 1) := by decide +kernel
theorem d_PF_decode_20 : decode b_PF_decode 20 = .ok (.iconst (-1), 1) := by decide +kernel
theorem d_PF_decode_21 : decode b_PF_decode 21 = .ok (.if_icmp .ne (16), 3) := by decide +kernel
theorem d_PF_decode_24 : decode b_PF_decode 24 = .ok (.aload_n 0, 1) := by decide +kernel
theorem d_PF_decode_25 : decode b_PF_decode 25 = .ok (.getfield 44, 3) := by decide +kernel
theorem d_PF_decode_28 : decode b_PF_decode 28 = .ok (.getfield 135, 3) := by decide +kernel
theorem d_PF_decode_31 : decode b_PF_decode 31 = .ok (.getfield 77, 3) := by decide +kernel
theorem d_PF_decode_34 : decode b_PF_decode 34 = .ok (.goto (6), 3) := by decide +kernel
theorem d_PF_decode_37 : decode b_PF_decode 37 = .ok (.iconst (-1), 1) := by decide +kernel
theorem d_PF_decode_38 : decode b_PF_decode 38 = .ok (.iload_n 1, 1) := by decide +kernel
theorem d_PF_decode_39 : decode b_PF_decode 39 = .ok (.isub, 1) := by decide +kernel
theorem d_PF_decode_40 : decode b_PF_decode 40 = .ok (.ireturn, 1) := by decide +kernel
theorem d_PF_at_0 : decode b_PF_at 0 = .ok (.aload_n 0, 1) := by decide +kernel
theorem d_PF_at_1 : decode b_PF_at 1 = .ok (.getfield 44, 3) := by decide +kernel
theorem d_PF_at_4 : decode b_PF_at 4 = .ok (.getfield 135, 3) := by decide +kernel
theorem d_PF_at_7 : decode b_PF_at 7 = .ok (.iload_n 1, 1) := by decide +kernel
theorem d_PF_at_8 : decode b_PF_at 8 = .ok (.invokevirtual 89, 3) := by decide +kernel
theorem d_PF_at_11 : decode b_PF_at 11 = .ok (.ifCond .ne (13), 3) := by decide +kernel
theorem d_PF_at_14 : decode b_PF_at 14 = .ok (.new 93, 3) := by decide +kernel
theorem d_PF_at_17 : decode b_PF_at 17 = .ok (.dup, 1) := by decide +kernel
theorem d_PF_at_18 : decode b_PF_at 18 = .ok (.ldc 138, 2) := by decide +kernel
theorem d_PF_at_20 : decode b_PF_at 20 = .ok (.invokespecial 97, 3) := by decide +kernel
theorem d_PF_at_23 : decode b_PF_at 23 = .ok (.athrow, 1) := by decide +kernel
theorem d_PF_at_24 : decode b_PF_at 24 = .ok (.aload_n 0, 1) := by decide +kernel
theorem d_PF_at_25 : decode b_PF_at 25 = .ok (.getfield 44, 3) := by decide +kernel
theorem d_PF_at_28 : decode b_PF_at 28 = .ok (.getfield 135, 3) := by decide +kernel
theorem d_PF_at_31 : decode b_PF_at 31 = .ok (.iload_n 1, 1) := by decide +kernel
theorem d_PF_at_32 : decode b_PF_at 32 = .ok (.invokevirtual 98, 3) := by decide +kernel
theorem d_PF_at_35 : decode b_PF_at 35 = .ok (.ireturn, 1) := by decide +kernel
theorem d_PF_take_0 : decode b_PF_take 0 = .ok (.aload_n 0, 1) := by decide +kernel
theorem d_PF_take_1 : decode b_PF_take 1 = .ok (.getfield 27, 3) := by decide +kernel
theorem d_PF_take_4 : decode b_PF_take 4 = .ok (.invokevirtual 132, 3) := by decide +kernel
theorem d_PF_take_7 : decode b_PF_take 7 = .ok (.iconst (0), 1) := by decide +kernel
theorem d_PF_take_8 : decode b_PF_take 8 = .ok (.istore_n 1, 1) := by decide +kernel
theorem d_PF_take_9 : decode b_PF_take 9 = .ok (.iload_n 1, 1) := by decide +kernel
theorem d_PF_take_10 : decode b_PF_take 10 = .ok (.aload_n 0, 1) := by decide +kernel
theorem d_PF_take_11 : decode b_PF_take 11 = .ok (.getfield 44, 3) := by decide +kernel
theorem d_PF_take_14 : decode b_PF_take 14 = .ok (.getfield 135, 3) := by decide +kernel
theorem d_PF_take_17 : decode b_PF_take 17 = .ok (.getfield 77, 3) := by decide +kernel
theorem d_PF_take_20 : decode b_PF_take 20 = .ok (.if_icmp .ge (27), 3) := by decide +kernel
theorem d_PF_take_23 : decode b_PF_take 23 = .ok (.aload_n 0, 1) := by decide +kernel
theorem d_PF_take_24 : decode b_PF_take 24 = .ok (.getfield 27, 3) := by decide +kernel
theorem d_PF_take_27 : decode b_PF_take 27 = .ok (.aload_n 0, 1) := by decide +kernel
theorem d_PF_take_28 : decode b_PF_take 28 = .ok (.getfield 44, 3) := by decide +kernel
theorem d_PF_take_31 : decode b_PF_take 31 = .ok (.getfield 135, 3) := by decide +kernel
theorem d_PF_take_34 : decode b_PF_take 34 = .ok (.iload_n 1, 1) := by decide +kernel
theorem d_PF_take_35 : decode b_PF_take 35 = .ok (.invokevirtual 98, 3) := by decide +kernel
theorem d_PF_take_38 : decode b_PF_take 38 = .ok (.invokevirtual 74, 3) := by decide +kernel
theorem d_PF_take_41 : decode b_PF_take 41 = .ok (.iinc 1 (1), 3) := by decide +kernel
theorem d_PF_take_44 : decode b_PF_take 44 = .ok (.goto (-35), 3) := by decide +kernel
theorem d_PF_take_47 : decode b_PF_take 47 = .ok (.aload_n 0, 1) := by decide +kernel
theorem d_PF_take_48 : decode b_PF_take 48 = .ok (.getfield 27, 3) := by decide +kernel
theorem d_PF_take_51 : decode b_PF_take 51 = .ok (.getfield 77, 3) := by decide +kernel
theorem d_PF_take_54 : decode b_PF_take 54 = .ok (.ireturn, 1) := by decide +kernel
theorem d_PF_frame_0 : decode b_PF_frame 0 = .ok (.iload_n 1, 1) := by decide +kernel
theorem d_PF_frame_1 : decode b_PF_frame 1 = .ok (.iload_n 3, 1) := by decide +kernel
theorem d_PF_frame_2 : decode b_PF_frame 2 = .ok (.invokestatic 140, 3) := by decide +kernel
theorem d_PF_frame_5 : decode b_PF_frame 5 = .ok (.ifCond .eq (12), 3) := by decide +kernel
theorem d_PF_frame_8 : decode b_PF_frame 8 = .ok (.iload_n 2, 1) := by decide +kernel
theorem d_PF_frame_9 : decode b_PF_frame 9 = .ok (.iload 4, 2) := by decide +kernel
theorem d_PF_frame_11 : decode b_PF_frame 11 = .ok (.invokestatic 140, 3) := by decide +kernel
theorem d_PF_frame_14 : decode b_PF_frame 14 = .ok (.ifCond .ne (13), 3) := by decide +kernel
theorem d_PF_frame_17 : decode b_PF_frame 17 = .ok (.new 58, 3) := by decide +kernel
theorem d_PF_frame_20 : decode b_PF_frame 20 = .ok (.dup, 1) := by decide +kernel
theorem d_PF_frame_21 : decode b_PF_frame 21 = .ok (.ldc 144, 2) := by decide +kernel
theorem d_PF_frame_23 : decode b_PF_frame 23 = .ok (.invokespecial 62, 3) := by decide +kernel
theorem d_PF_frame_26 : decode b_PF_frame 26 = .ok (.athrow, 1) := by decide +kernel
theorem d_PF_frame_27 : decode b_PF_frame 27 = .ok (.iload 6, 2) := by decide +kernel
theorem d_PF_frame_29 : decode b_PF_frame 29 = .ok (.ifCond .lt (9), 3) := by decide +kernel
theorem d_PF_frame_32 : decode b_PF_frame 32 = .ok (.iload 6, 2) := by decide +kernel
theorem d_PF_frame_34 : decode b_PF_frame 34 = .ok (.iconst (3), 1) := by decide +kernel
theorem d_PF_frame_35 : decode b_PF_frame 35 = .ok (.if_icmp .le (13), 3) := by decide +kernel
theorem d_PF_frame_38 : decode b_PF_frame 38 = .ok (.new 58, 3) := by decide +kernel
theorem d_PF_frame_41 : decode b_PF_frame 41 = .ok (.dup, 1) := by decide +kernel
theorem d_PF_frame_42 : decode b_PF_frame 42 = .ok (.ldc 146, 2) := by decide +kernel
theorem d_PF_frame_44 : decode b_PF_frame 44 = .ok (.invokespecial 62, 3) := by decide +kernel
theorem d_PF_frame_47 : decode b_PF_frame 47 = .ok (.athrow, 1) := by decide +kernel
theorem d_PF_frame_48 : decode b_PF_frame 48 = .ok (.iload 7, 2) := by decide +kernel
theorem d_PF_frame_50 : decode b_PF_frame 50 = .ok (.ifCond .lt (11), 3) := by decide +kernel
theorem d_PF_frame_53 : decode b_PF_frame 53 = .ok (.iload 7, 2) := by decide +kernel
theorem d_PF_frame_55 : decode b_PF_frame 55 = .ok (.sipush (1000), 3) := by decide +kernel
theorem d_PF_frame_58 : decode b_PF_frame 58 = .ok (.if_icmp .le (13), 3) := by decide +kernel
theorem d_PF_frame_61 : decode b_PF_frame 61 = .ok (.new 58, 3) := by decide +kernel
theorem d_PF_frame_64 : decode b_PF_frame 64 = .ok (.dup, 1) := by decide +kernel
theorem d_PF_frame_65 : decode b_PF_frame 65 = .ok (.ldc 148, 2) := by decide +kernel
theorem d_PF_frame_67 : decode b_PF_frame 67 = .ok (.invokespecial 62, 3) := by decide +kernel
theorem d_PF_frame_70 : decode b_PF_frame 70 = .ok (.athrow, 1) := by decide +kernel
theorem d_PF_frame_71 : decode b_PF_frame 71 = .ok (.iload_n 3, 1) := by decide +kernel
theorem d_PF_frame_72 : decode b_PF_frame 72 = .ok (.iload 4, 2) := by decide +kernel
theorem d_PF_frame_74 : decode b_PF_frame 74 = .ok (.imul, 1) := by decide +kernel
theorem d_PF_frame_75 : decode b_PF_frame 75 = .ok (.aload_n 0, 1) := by decide +kernel
theorem d_PF_frame_76 : decode b_PF_frame 76 = .ok (.getfield 27, 3) := by decide +kernel
theorem d_PF_frame_79 : decode b_PF_frame 79 = .ok (.getfield 77, 3) := by decide +kernel
theorem d_PF_frame_82 : decode b_PF_frame 82 = .ok (.if_icmp .le (13), 3) := by decide +kernel
theorem d_PF_frame_85 : decode b_PF_frame 85 = .ok (.new 150, 3) := by decide +kernel
theorem d_PF_frame_88 : decode b_PF_frame 88 = .ok (.dup, 1) := by decide +kernel
theorem d_PF_frame_89 : decode b_PF_frame 89 = .ok (.ldc 152, 2) := by decide +kernel
theorem d_PF_frame_91 : decode b_PF_frame 91 = .ok (.invokespecial 154, 3) := by decide +kernel
theorem d_PF_frame_94 : decode b_PF_frame 94 = .ok (.athrow, 1) := by decide +kernel
theorem d_PF_frame_95 : decode b_PF_frame 95 = .ok (.aload_n 0, 1) := by decide +kernel
theorem d_PF_frame_96 : decode b_PF_frame 96 = .ok (.getfield 51, 3) := by decide +kernel
theorem d_PF_frame_99 : decode b_PF_frame 99 = .ok (.getfield 155, 3) := by decide +kernel
theorem d_PF_frame_102 : decode b_PF_frame 102 = .ok (.bipush (12), 2) := by decide +kernel
theorem d_PF_frame_104 : decode b_PF_frame 104 = .ok (.if_icmp .lt (13), 3) := by decide +kernel
theorem d_PF_frame_107 : decode b_PF_frame 107 = .ok (.new 69, 3) := by decide +kernel
theorem d_PF_frame_110 : decode b_PF_frame 110 = .ok (.dup, 1) := by decide +kernel
theorem d_PF_frame_111 : decode b_PF_frame 111 = .ok (.ldc 157, 2) := by decide +kernel
theorem d_PF_frame_113 : decode b_PF_frame 113 = .ok (.invokespecial 73, 3) := by decide +kernel
theorem d_PF_frame_116 : decode b_PF_frame 116 = .ok (.athrow, 1) := by decide +kernel
theorem d_PF_frame_117 : decode b_PF_frame 117 = .ok (.aload_n 0, 1) := by decide +kernel
theorem d_PF_frame_118 : decode b_PF_frame 118 = .ok (.getfield 51, 3) := by decide +kernel
theorem d_PF_frame_121 : decode b_PF_frame 121 = .ok (.invokevirtual 159, 3) := by decide +kernel
theorem d_PF_frame_124 : decode b_PF_frame 124 = .ok (.astore 8, 2) := by decide +kernel
theorem d_PF_frame_126 : decode b_PF_frame 126 = .ok (.aload 8, 2) := by decide +kernel
theorem d_PF_frame_128 : decode b_PF_frame 128 = .ok (.iload_n 1, 1) := by decide +kernel
theorem d_PF_frame_129 : decode b_PF_frame 129 = .ok (.iload_n 2, 1) := by decide +kernel
theorem d_PF_frame_130 : decode b_PF_frame 130 = .ok (.iload_n 3, 1) := by decide +kernel
theorem d_PF_frame_131 : decode b_PF_frame 131 = .ok (.iload 4, 2) := by decide +kernel
theorem d_PF_frame_133 : decode b_PF_frame 133 = .ok (.invokevirtual 163, 3) := by decide +kernel
theorem d_PF_frame_136 : decode b_PF_frame 136 = .ok (.aload 8, 2) := by decide +kernel
theorem d_PF_frame_138 : decode b_PF_frame 138 = .ok (.iload 6, 2) := by decide +kernel
theorem d_PF_frame_140 : decode b_PF_frame 140 = .ok (.iload 7, 2) := by decide +kernel
theorem d_PF_frame_142 : decode b_PF_frame 142 = .ok (.invokevirtual 169, 3) := by decide +kernel
theorem d_PF_frame_145 : decode b_PF_frame 145 = .ok (.aload 8, 2) := by decide +kernel
theorem d_PF_frame_147 : decode b_PF_frame 147 = .ok (.aload_n 0, 1) := by decide +kernel
theorem d_PF_frame_148 : decode b_PF_frame 148 = .ok (.getfield 27, 3) := by decide +kernel
theorem d_PF_frame_151 : decode b_PF_frame 151 = .ok (.iload 5, 2) := by decide +kernel
theorem d_PF_frame_153 : decode b_PF_frame 153 = .ok (.invokevirtual 173, 3) := by decide +kernel
theorem d_PF_frame_156 : decode b_PF_frame 156 = .ok (.aload_n 0, 1) := by decide +kernel
theorem d_PF_frame_157 : decode b_PF_frame 157 = .ok (.getfield 27, 3) := by decide +kernel
theorem d_PF_frame_160 : decode b_PF_frame 160 = .ok (.iload_n 3, 1) := by decide +kernel
theorem d_PF_frame_161 : decode b_PF_frame 161 = .ok (.iload 4, 2) := by decide +kernel
theorem d_PF_frame_163 : decode b_PF_frame 163 = .ok (.imul, 1) := by decide +kernel
theorem d_PF_frame_164 : decode b_PF_frame 164 = .ok (.invokevirtual 177, 3) := by decide +kernel
theorem d_PF_frame_167 : decode b_PF_frame 167 = .ok (.aload_n 0, 1) := by decide +kernel
theorem d_PF_frame_168 : decode b_PF_frame 168 = .ok (.getfield 51, 3) := by decide +kernel
theorem d_PF_frame_171 : decode b_PF_frame 171 = .ok (.getfield 155, 3) := by decide +kernel
theorem d_PF_frame_174 : decode b_PF_frame 174 = .ok (.iconst (1), 1) := by decide +kernel
theorem d_PF_frame_175 : decode b_PF_frame 175 = .ok (.isub, 1) := by decide +kernel
theorem d_PF_frame_176 : decode b_PF_frame 176 = .ok (.ireturn, 1) := by decide +kernel
theorem d_PF_colour_0 : decode b_PF_colour 0 = .ok (.iload_n 1, 1) := by decide +kernel
theorem d_PF_colour_1 : decode b_PF_colour 1 = .ok (.iconst (-1), 1) := by decide +kernel
theorem d_PF_colour_2 : decode b_PF_colour 2 = .ok (.if_icmp .eq (24), 3) := by decide +kernel
theorem d_PF_colour_5 : decode b_PF_colour 5 = .ok (.aload_n 0, 1) := by decide +kernel
theorem d_PF_colour_6 : decode b_PF_colour 6 = .ok (.getfield 51, 3) := by decide +kernel
theorem d_PF_colour_9 : decode b_PF_colour 9 = .ok (.iload_n 1, 1) := by decide +kernel
theorem d_PF_colour_10 : decode b_PF_colour 10 = .ok (.invokevirtual 180, 3) := by decide +kernel
theorem d_PF_colour_13 : decode b_PF_colour 13 = .ok (.ifCond .ne (13), 3) := by decide +kernel
theorem d_PF_colour_16 : decode b_PF_colour 16 = .ok (.new 93, 3) := by decide +kernel
theorem d_PF_colour_19 : decode b_PF_colour 19 = .ok (.dup, 1) := by decide +kernel
theorem d_PF_colour_20 : decode b_PF_colour 20 = .ok (.ldc 181, 2) := by decide +kernel
theorem d_PF_colour_22 : decode b_PF_colour 22 = .ok (.invokespecial 97, 3) := by decide +kernel
theorem d_PF_colour_25 : decode b_PF_colour 25 = .ok (.athrow, 1) := by decide +kernel
theorem d_PF_colour_26 : decode b_PF_colour 26 = .ok (.aload_n 0, 1) := by decide +kernel
theorem d_PF_colour_27 : decode b_PF_colour 27 = .ok (.iload_n 2, 1) := by decide +kernel
theorem d_PF_colour_28 : decode b_PF_colour 28 = .ok (.invokevirtual 183, 3) := by decide +kernel
theorem d_PF_colour_31 : decode b_PF_colour 31 = .ok (.ifCond .ne (13), 3) := by decide +kernel
theorem d_PF_colour_34 : decode b_PF_colour 34 = .ok (.new 93, 3) := by decide +kernel
theorem d_PF_colour_37 : decode b_PF_colour 37 = .ok (.dup, 1) := by decide +kernel
theorem d_PF_colour_38 : decode b_PF_colour 38 = .ok (.ldc 138, 2) := by decide +kernel
theorem d_PF_colour_40 : decode b_PF_colour 40 = .ok (.invokespecial 97, 3) := by decide +kernel
theorem d_PF_colour_43 : decode b_PF_colour 43 = .ok (.athrow, 1) := by decide +kernel
theorem d_PF_colour_44 : decode b_PF_colour 44 = .ok (.iload_n 3, 1) := by decide +kernel
theorem d_PF_colour_45 : decode b_PF_colour 45 = .ok (.iconst (-1), 1) := by decide +kernel
theorem d_PF_colour_46 : decode b_PF_colour 46 = .ok (.if_icmp .lt (9), 3) := by decide +kernel
theorem d_PF_colour_49 : decode b_PF_colour 49 = .ok (.iload_n 3, 1) := by decide +kernel
theorem d_PF_colour_50 : decode b_PF_colour 50 = .ok (.ldc 186, 2) := by decide +kernel
theorem d_PF_colour_52 : decode b_PF_colour 52 = .ok (.if_icmp .le (13), 3) := by decide +kernel
theorem d_PF_colour_55 : decode b_PF_colour 55 = .ok (.new 58, 3) := by decide +kernel
theorem d_PF_colour_58 : decode b_PF_colour 58 = .ok (.dup, 1) := by decide +kernel
theorem d_PF_colour_59 : decode b_PF_colour 59 = .ok (.ldc 187, 2) := by decide +kernel
theorem d_PF_colour_61 : decode b_PF_colour 61 = .ok (.invokespecial 62, 3) := by decide +kernel
theorem d_PF_colour_64 : decode b_PF_colour 64 = .ok (.athrow, 1) := by decide +kernel
theorem d_PF_colour_65 : decode b_PF_colour 65 = .ok (.iload_n 1, 1) := by decide +kernel
theorem d_PF_colour_66 : decode b_PF_colour 66 = .ok (.iconst (-1), 1) := by decide +kernel
theorem d_PF_colour_67 : decode b_PF_colour 67 = .ok (.if_icmp .ne (13), 3) := by decide +kernel
theorem d_PF_colour_70 : decode b_PF_colour 70 = .ok (.aload_n 0, 1) := by decide +kernel
theorem d_PF_colour_71 : decode b_PF_colour 71 = .ok (.getfield 51, 3) := by decide +kernel
theorem d_PF_colour_74 : decode b_PF_colour 74 = .ok (.getfield 189, 3) := by decide +kernel
theorem d_PF_colour_77 : decode b_PF_colour 77 = .ok (.goto (15), 3) := by decide +kernel
theorem d_PF_colour_80 : decode b_PF_colour 80 = .ok (.aload_n 0, 1) := by decide +kernel
theorem d_PF_colour_81 : decode b_PF_colour 81 = .ok (.getfield 51, 3) := by decide +kernel
theorem d_PF_colour_84 : decode b_PF_colour 84 = .ok (.getfield 193, 3) := by decide +kernel
theorem d_PF_colour_87 : decode b_PF_colour 87 = .ok (.iload_n 1, 1) := by decide +kernel
theorem d_PF_colour_88 : decode b_PF_colour 88 = .ok (.aaload, 1) := by decide +kernel
theorem d_PF_colour_89 : decode b_PF_colour 89 = .ok (.getfield 197, 3) := by decide +kernel
theorem d_PF_colour_92 : decode b_PF_colour 92 = .ok (.astore 4, 2) := by decide +kernel
theorem d_PF_colour_94 : decode b_PF_colour 94 = .ok (.aload 4, 2) := by decide +kernel
theorem d_PF_colour_96 : decode b_PF_colour 96 = .ok (.iload_n 2, 1) := by decide +kernel
theorem d_PF_colour_97 : decode b_PF_colour 97 = .ok (.iload_n 3, 1) := by decide +kernel
theorem d_PF_colour_98 : decode b_PF_colour 98 = .ok (.invokevirtual 198, 3) := by decide +kernel
theorem d_PF_colour_101 : decode b_PF_colour 101 = .ok (.ireturn, 1) := by decide +kernel
theorem d_PF_through_0 : decode b_PF_through 0 = .ok (.aload_n 0, 1) := by decide +kernel
theorem d_PF_through_1 : decode b_PF_through 1 = .ok (.getfield 51, 3) := by decide +kernel
theorem d_PF_through_4 : decode b_PF_through 4 = .ok (.iload_n 1, 1) := by decide +kernel
theorem d_PF_through_5 : decode b_PF_through 5 = .ok (.invokevirtual 180, 3) := by decide +kernel
theorem d_PF_through_8 : decode b_PF_through 8 = .ok (.ifCond .ne (13), 3) := by decide +kernel
theorem d_PF_through_11 : decode b_PF_through 11 = .ok (.new 93, 3) := by decide +kernel
theorem d_PF_through_14 : decode b_PF_through 14 = .ok (.dup, 1) := by decide +kernel
theorem d_PF_through_15 : decode b_PF_through 15 = .ok (.ldc 181, 2) := by decide +kernel
theorem d_PF_through_17 : decode b_PF_through 17 = .ok (.invokespecial 97, 3) := by decide +kernel
theorem d_PF_through_20 : decode b_PF_through 20 = .ok (.athrow, 1) := by decide +kernel
theorem d_PF_through_21 : decode b_PF_through 21 = .ok (.iload_n 2, 1) := by decide +kernel
theorem d_PF_through_22 : decode b_PF_through 22 = .ok (.iconst (-1), 1) := by decide +kernel
theorem d_PF_through_23 : decode b_PF_through 23 = .ok (.if_icmp .eq (21), 3) := by decide +kernel
theorem d_PF_through_26 : decode b_PF_through 26 = .ok (.aload_n 0, 1) := by decide +kernel
theorem d_PF_through_27 : decode b_PF_through 27 = .ok (.iload_n 2, 1) := by decide +kernel
theorem d_PF_through_28 : decode b_PF_through 28 = .ok (.invokevirtual 183, 3) := by decide +kernel
theorem d_PF_through_31 : decode b_PF_through 31 = .ok (.ifCond .ne (13), 3) := by decide +kernel
theorem d_PF_through_34 : decode b_PF_through 34 = .ok (.new 93, 3) := by decide +kernel
theorem d_PF_through_37 : decode b_PF_through 37 = .ok (.dup, 1) := by decide +kernel
theorem d_PF_through_38 : decode b_PF_through 38 = .ok (.ldc 138, 2) := by decide +kernel
theorem d_PF_through_40 : decode b_PF_through 40 = .ok (.invokespecial 97, 3) := by decide +kernel
theorem d_PF_through_43 : decode b_PF_through 43 = .ok (.athrow, 1) := by decide +kernel
theorem d_PF_through_44 : decode b_PF_through 44 = .ok (.aload_n 0, 1) := by decide +kernel
theorem d_PF_through_45 : decode b_PF_through 45 = .ok (.getfield 51, 3) := by decide +kernel
theorem d_PF_through_48 : decode b_PF_through 48 = .ok (.getfield 193, 3) := by decide +kernel
theorem d_PF_through_51 : decode b_PF_through 51 = .ok (.iload_n 1, 1) := by decide +kernel
theorem d_PF_through_52 : decode b_PF_through 52 = .ok (.aaload, 1) := by decide +kernel
theorem d_PF_through_53 : decode b_PF_through 53 = .ok (.getfield 203, 3) := by decide +kernel
theorem d_PF_through_56 : decode b_PF_through 56 = .ok (.istore_n 3, 1) := by decide +kernel
theorem d_PF_through_57 : decode b_PF_through 57 = .ok (.aload_n 0, 1) := by decide +kernel
theorem d_PF_through_58 : decode b_PF_through 58 = .ok (.getfield 51, 3) := by decide +kernel
theorem d_PF_through_61 : decode b_PF_through 61 = .ok (.getfield 193, 3) := by decide +kernel
theorem d_PF_through_64 : decode b_PF_through 64 = .ok (.iload_n 1, 1) := by decide +kernel
theorem d_PF_through_65 : decode b_PF_through 65 = .ok (.aaload, 1) := by decide +kernel
theorem d_PF_through_66 : decode b_PF_through 66 = .ok (.iload_n 2, 1) := by decide +kernel
theorem d_PF_through_67 : decode b_PF_through 67 = .ok (.putfield 203, 3) := by decide +kernel
theorem d_PF_through_70 : decode b_PF_through 70 = .ok (.iload_n 3, 1) := by decide +kernel
theorem d_PF_through_71 : decode b_PF_through 71 = .ok (.ireturn, 1) := by decide +kernel
theorem d_PF_shown_0 : decode b_PF_shown 0 = .ok (.aload_n 0, 1) := by decide +kernel
theorem d_PF_shown_1 : decode b_PF_shown 1 = .ok (.getfield 51, 3) := by decide +kernel
theorem d_PF_shown_4 : decode b_PF_shown 4 = .ok (.iload_n 1, 1) := by decide +kernel
theorem d_PF_shown_5 : decode b_PF_shown 5 = .ok (.invokevirtual 180, 3) := by decide +kernel
theorem d_PF_shown_8 : decode b_PF_shown 8 = .ok (.ifCond .ne (13), 3) := by decide +kernel
theorem d_PF_shown_11 : decode b_PF_shown 11 = .ok (.new 93, 3) := by decide +kernel
theorem d_PF_shown_14 : decode b_PF_shown 14 = .ok (.dup, 1) := by decide +kernel
theorem d_PF_shown_15 : decode b_PF_shown 15 = .ok (.ldc 181, 2) := by decide +kernel
theorem d_PF_shown_17 : decode b_PF_shown 17 = .ok (.invokespecial 97, 3) := by decide +kernel
theorem d_PF_shown_20 : decode b_PF_shown 20 = .ok (.athrow, 1) := by decide +kernel
theorem d_PF_shown_21 : decode b_PF_shown 21 = .ok (.iload_n 2, 1) := by decide +kernel
theorem d_PF_shown_22 : decode b_PF_shown 22 = .ok (.ifCond .lt (19), 3) := by decide +kernel
theorem d_PF_shown_25 : decode b_PF_shown 25 = .ok (.iload_n 2, 1) := by decide +kernel
theorem d_PF_shown_26 : decode b_PF_shown 26 = .ok (.bipush (24), 2) := by decide +kernel
theorem d_PF_shown_28 : decode b_PF_shown 28 = .ok (.if_icmp .ge (13), 3) := by decide +kernel
theorem d_PF_shown_31 : decode b_PF_shown 31 = .ok (.iload_n 3, 1) := by decide +kernel
theorem d_PF_shown_32 : decode b_PF_shown 32 = .ok (.ifCond .lt (9), 3) := by decide +kernel
theorem d_PF_shown_35 : decode b_PF_shown 35 = .ok (.iload_n 3, 1) := by decide +kernel
theorem d_PF_shown_36 : decode b_PF_shown 36 = .ok (.bipush (24), 2) := by decide +kernel
theorem d_PF_shown_38 : decode b_PF_shown 38 = .ok (.if_icmp .lt (13), 3) := by decide +kernel
theorem d_PF_shown_41 : decode b_PF_shown 41 = .ok (.new 93, 3) := by decide +kernel
theorem d_PF_shown_44 : decode b_PF_shown 44 = .ok (.dup, 1) := by decide +kernel
theorem d_PF_shown_45 : decode b_PF_shown 45 = .ok (.ldc 206, 2) := by decide +kernel
theorem d_PF_shown_47 : decode b_PF_shown 47 = .ok (.invokespecial 97, 3) := by decide +kernel
theorem d_PF_shown_50 : decode b_PF_shown 50 = .ok (.athrow, 1) := by decide +kernel
theorem d_PF_shown_51 : decode b_PF_shown 51 = .ok (.aload_n 0, 1) := by decide +kernel
theorem d_PF_shown_52 : decode b_PF_shown 52 = .ok (.getfield 51, 3) := by decide +kernel
theorem d_PF_shown_55 : decode b_PF_shown 55 = .ok (.iload_n 1, 1) := by decide +kernel
theorem d_PF_shown_56 : decode b_PF_shown 56 = .ok (.iload_n 2, 1) := by decide +kernel
theorem d_PF_shown_57 : decode b_PF_shown 57 = .ok (.iload_n 3, 1) := by decide +kernel
theorem d_PF_shown_58 : decode b_PF_shown 58 = .ok (.invokevirtual 208, 3) := by decide +kernel
theorem d_PF_shown_61 : decode b_PF_shown 61 = .ok (.ireturn, 1) := by decide +kernel
theorem d_PF_symbol_0 : decode b_PF_symbol 0 = .ok (.aload_n 0, 1) := by decide +kernel
theorem d_PF_symbol_1 : decode b_PF_symbol 1 = .ok (.getfield 51, 3) := by decide +kernel
theorem d_PF_symbol_4 : decode b_PF_symbol 4 = .ok (.iload_n 1, 1) := by decide +kernel
theorem d_PF_symbol_5 : decode b_PF_symbol 5 = .ok (.invokevirtual 180, 3) := by decide +kernel
theorem d_PF_symbol_8 : decode b_PF_symbol 8 = .ok (.ifCond .ne (13), 3) := by decide +kernel
theorem d_PF_symbol_11 : decode b_PF_symbol 11 = .ok (.new 93, 3) := by decide +kernel
theorem d_PF_symbol_14 : decode b_PF_symbol 14 = .ok (.dup, 1) := by decide +kernel
theorem d_PF_symbol_15 : decode b_PF_symbol 15 = .ok (.ldc 181, 2) := by decide +kernel
theorem d_PF_symbol_17 : decode b_PF_symbol 17 = .ok (.invokespecial 97, 3) := by decide +kernel
theorem d_PF_symbol_20 : decode b_PF_symbol 20 = .ok (.athrow, 1) := by decide +kernel
theorem d_PF_symbol_21 : decode b_PF_symbol 21 = .ok (.aload_n 0, 1) := by decide +kernel
theorem d_PF_symbol_22 : decode b_PF_symbol 22 = .ok (.getfield 51, 3) := by decide +kernel
theorem d_PF_symbol_25 : decode b_PF_symbol 25 = .ok (.getfield 193, 3) := by decide +kernel
theorem d_PF_symbol_28 : decode b_PF_symbol 28 = .ok (.iload_n 1, 1) := by decide +kernel
theorem d_PF_symbol_29 : decode b_PF_symbol 29 = .ok (.aaload, 1) := by decide +kernel
theorem d_PF_symbol_30 : decode b_PF_symbol 30 = .ok (.astore 4, 2) := by decide +kernel
theorem d_PF_symbol_32 : decode b_PF_symbol 32 = .ok (.iload_n 2, 1) := by decide +kernel
theorem d_PF_symbol_33 : decode b_PF_symbol 33 = .ok (.ifCond .lt (25), 3) := by decide +kernel
theorem d_PF_symbol_36 : decode b_PF_symbol 36 = .ok (.iload_n 2, 1) := by decide +kernel
theorem d_PF_symbol_37 : decode b_PF_symbol 37 = .ok (.aload 4, 2) := by decide +kernel
theorem d_PF_symbol_39 : decode b_PF_symbol 39 = .ok (.getfield 212, 3) := by decide +kernel
theorem d_PF_symbol_42 : decode b_PF_symbol 42 = .ok (.if_icmp .ge (16), 3) := by decide +kernel
theorem d_PF_symbol_45 : decode b_PF_symbol 45 = .ok (.iload_n 3, 1) := by decide +kernel
theorem d_PF_symbol_46 : decode b_PF_symbol 46 = .ok (.ifCond .lt (12), 3) := by decide +kernel
theorem d_PF_symbol_49 : decode b_PF_symbol 49 = .ok (.iload_n 3, 1) := by decide +kernel
theorem d_PF_symbol_50 : decode b_PF_symbol 50 = .ok (.aload 4, 2) := by decide +kernel
theorem d_PF_symbol_52 : decode b_PF_symbol 52 = .ok (.getfield 215, 3) := by decide +kernel
theorem d_PF_symbol_55 : decode b_PF_symbol 55 = .ok (.if_icmp .lt (13), 3) := by decide +kernel
theorem d_PF_symbol_58 : decode b_PF_symbol 58 = .ok (.new 93, 3) := by decide +kernel
theorem d_PF_symbol_61 : decode b_PF_symbol 61 = .ok (.dup, 1) := by decide +kernel
theorem d_PF_symbol_62 : decode b_PF_symbol 62 = .ok (.ldc 218, 2) := by decide +kernel
theorem d_PF_symbol_64 : decode b_PF_symbol 64 = .ok (.invokespecial 97, 3) := by decide +kernel
theorem d_PF_symbol_67 : decode b_PF_symbol 67 = .ok (.athrow, 1) := by decide +kernel
theorem d_PF_symbol_68 : decode b_PF_symbol 68 = .ok (.aload 4, 2) := by decide +kernel
theorem d_PF_symbol_70 : decode b_PF_symbol 70 = .ok (.iload_n 2, 1) := by decide +kernel
theorem d_PF_symbol_71 : decode b_PF_symbol 71 = .ok (.iload_n 3, 1) := by decide +kernel
theorem d_PF_symbol_72 : decode b_PF_symbol 72 = .ok (.invokevirtual 220, 3) := by decide +kernel
theorem d_PF_symbol_75 : decode b_PF_symbol 75 = .ok (.ireturn, 1) := by decide +kernel
theorem d_PF_when_0 : decode b_PF_when 0 = .ok (.iload_n 1, 1) := by decide +kernel
theorem d_PF_when_1 : decode b_PF_when 1 = .ok (.ifCond .lt (7), 3) := by decide +kernel
theorem d_PF_when_4 : decode b_PF_when 4 = .ok (.iload_n 2, 1) := by decide +kernel
theorem d_PF_when_5 : decode b_PF_when 5 = .ok (.ifCond .ge (13), 3) := by decide +kernel
theorem d_PF_when_8 : decode b_PF_when 8 = .ok (.new 58, 3) := by decide +kernel
theorem d_PF_when_11 : decode b_PF_when 11 = .ok (.dup, 1) := by decide +kernel
theorem d_PF_when_12 : decode b_PF_when 12 = .ok (.ldc 223, 2) := by decide +kernel
theorem d_PF_when_14 : decode b_PF_when 14 = .ok (.invokespecial 62, 3) := by decide +kernel
theorem d_PF_when_17 : decode b_PF_when 17 = .ok (.athrow, 1) := by decide +kernel
theorem d_PF_when_18 : decode b_PF_when 18 = .ok (.aload_n 0, 1) := by decide +kernel
theorem d_PF_when_19 : decode b_PF_when 19 = .ok (.getfield 51, 3) := by decide +kernel
theorem d_PF_when_22 : decode b_PF_when 22 = .ok (.iload_n 1, 1) := by decide +kernel
theorem d_PF_when_23 : decode b_PF_when 23 = .ok (.iload_n 2, 1) := by decide +kernel
theorem d_PF_when_24 : decode b_PF_when 24 = .ok (.invokevirtual 225, 3) := by decide +kernel
theorem d_PF_when_27 : decode b_PF_when 27 = .ok (.ireturn, 1) := by decide +kernel
theorem d_PF_passOf_0 : decode b_PF_passOf 0 = .ok (.iload_n 1, 1) := by decide +kernel
theorem d_PF_passOf_1 : decode b_PF_passOf 1 = .ok (.ifCond .ge (13), 3) := by decide +kernel
theorem d_PF_passOf_4 : decode b_PF_passOf 4 = .ok (.new 58, 3) := by decide +kernel
theorem d_PF_passOf_7 : decode b_PF_passOf 7 = .ok (.dup, 1) := by decide +kernel
theorem d_PF_passOf_8 : decode b_PF_passOf 8 = .ok (.ldc 228, 2) := by decide +kernel
theorem d_PF_passOf_10 : decode b_PF_passOf 10 = .ok (.invokespecial 62, 3) := by decide +kernel
theorem d_PF_passOf_13 : decode b_PF_passOf 13 = .ok (.athrow, 1) := by decide +kernel
theorem d_PF_passOf_14 : decode b_PF_passOf 14 = .ok (.iload_n 1, 1) := by decide +kernel
theorem d_PF_passOf_15 : decode b_PF_passOf 15 = .ok (.invokestatic 230, 3) := by decide +kernel
theorem d_PF_passOf_18 : decode b_PF_passOf 18 = .ok (.ireturn, 1) := by decide +kernel
theorem d_PF_told_0 : decode b_PF_told 0 = .ok (.iload_n 1, 1) := by decide +kernel
theorem d_PF_told_1 : decode b_PF_told 1 = .ok (.tableswitch (75) (0) (4) #[35, 40, 48, 56, 67], 35) := by decide +kernel
theorem d_PF_told_36 : decode b_PF_told 36 = .ok (.aload_n 0, 1) := by decide +kernel
theorem d_PF_told_37 : decode b_PF_told 37 = .ok (.getfield 18, 3) := by decide +kernel
theorem d_PF_told_40 : decode b_PF_told 40 = .ok (.ireturn, 1) := by decide +kernel
theorem d_PF_told_41 : decode b_PF_told 41 = .ok (.aload_n 0, 1) := by decide +kernel
theorem d_PF_told_42 : decode b_PF_told 42 = .ok (.getfield 27, 3) := by decide +kernel
theorem d_PF_told_45 : decode b_PF_told 45 = .ok (.getfield 77, 3) := by decide +kernel
theorem d_PF_told_48 : decode b_PF_told 48 = .ok (.ireturn, 1) := by decide +kernel
theorem d_PF_told_49 : decode b_PF_told 49 = .ok (.aload_n 0, 1) := by decide +kernel
theorem d_PF_told_50 : decode b_PF_told 50 = .ok (.getfield 31, 3) := by decide +kernel
theorem d_PF_told_53 : decode b_PF_told 53 = .ok (.getfield 77, 3) := by decide +kernel
theorem d_PF_told_56 : decode b_PF_told 56 = .ok (.ireturn, 1) := by decide +kernel
theorem d_PF_told_57 : decode b_PF_told 57 = .ok (.aload_n 0, 1) := by decide +kernel
theorem d_PF_told_58 : decode b_PF_told 58 = .ok (.getfield 44, 3) := by decide +kernel
theorem d_PF_told_61 : decode b_PF_told 61 = .ok (.getfield 135, 3) := by decide +kernel
theorem d_PF_told_64 : decode b_PF_told 64 = .ok (.getfield 77, 3) := by decide +kernel
theorem d_PF_told_67 : decode b_PF_told 67 = .ok (.ireturn, 1) := by decide +kernel
theorem d_PF_told_68 : decode b_PF_told 68 = .ok (.aload_n 0, 1) := by decide +kernel
theorem d_PF_told_69 : decode b_PF_told 69 = .ok (.getfield 51, 3) := by decide +kernel
theorem d_PF_told_72 : decode b_PF_told 72 = .ok (.getfield 155, 3) := by decide +kernel
theorem d_PF_told_75 : decode b_PF_told 75 = .ok (.ireturn, 1) := by decide +kernel
theorem d_PF_told_76 : decode b_PF_told 76 = .ok (.iconst (-1), 1) := by decide +kernel
theorem d_PF_told_77 : decode b_PF_told 77 = .ok (.ireturn, 1) := by decide +kernel
theorem d_PF_clear_0 : decode b_PF_clear 0 = .ok (.aload_n 0, 1) := by decide +kernel
theorem d_PF_clear_1 : decode b_PF_clear 1 = .ok (.iconst (0), 1) := by decide +kernel
theorem d_PF_clear_2 : decode b_PF_clear 2 = .ok (.putfield 55, 3) := by decide +kernel
theorem d_PF_clear_5 : decode b_PF_clear 5 = .ok (.aload_n 0, 1) := by decide +kernel
theorem d_PF_clear_6 : decode b_PF_clear 6 = .ok (.getfield 27, 3) := by decide +kernel
theorem d_PF_clear_9 : decode b_PF_clear 9 = .ok (.invokevirtual 132, 3) := by decide +kernel
theorem d_PF_clear_12 : decode b_PF_clear 12 = .ok (.aload_n 0, 1) := by decide +kernel
theorem d_PF_clear_13 : decode b_PF_clear 13 = .ok (.getfield 31, 3) := by decide +kernel
theorem d_PF_clear_16 : decode b_PF_clear 16 = .ok (.invokevirtual 132, 3) := by decide +kernel
theorem d_PF_clear_19 : decode b_PF_clear 19 = .ok (.aload_n 0, 1) := by decide +kernel
theorem d_PF_clear_20 : decode b_PF_clear 20 = .ok (.getfield 37, 3) := by decide +kernel
theorem d_PF_clear_23 : decode b_PF_clear 23 = .ok (.invokevirtual 233, 3) := by decide +kernel
theorem d_PF_clear_26 : decode b_PF_clear 26 = .ok (.aload_n 0, 1) := by decide +kernel
theorem d_PF_clear_27 : decode b_PF_clear 27 = .ok (.getfield 44, 3) := by decide +kernel
theorem d_PF_clear_30 : decode b_PF_clear 30 = .ok (.getfield 135, 3) := by decide +kernel
theorem d_PF_clear_33 : decode b_PF_clear 33 = .ok (.invokevirtual 132, 3) := by decide +kernel
theorem d_PF_clear_36 : decode b_PF_clear 36 = .ok (.aload_n 0, 1) := by decide +kernel
theorem d_PF_clear_37 : decode b_PF_clear 37 = .ok (.getfield 51, 3) := by decide +kernel
theorem d_PF_clear_40 : decode b_PF_clear 40 = .ok (.invokevirtual 236, 3) := by decide +kernel
theorem d_PF_clear_43 : decode b_PF_clear 43 = .ok (.return_, 1) := by decide +kernel
theorem d_PF_isSymbol_0 : decode b_PF_isSymbol 0 = .ok (.iload_n 1, 1) := by decide +kernel
theorem d_PF_isSymbol_1 : decode b_PF_isSymbol 1 = .ok (.ifCond .lt (17), 3) := by decide +kernel
theorem d_PF_isSymbol_4 : decode b_PF_isSymbol 4 = .ok (.iload_n 1, 1) := by decide +kernel
theorem d_PF_isSymbol_5 : decode b_PF_isSymbol 5 = .ok (.iconst (1), 1) := by decide +kernel
theorem d_PF_isSymbol_6 : decode b_PF_isSymbol 6 = .ok (.aload_n 0, 1) := by decide +kernel
theorem d_PF_isSymbol_7 : decode b_PF_isSymbol 7 = .ok (.getfield 18, 3) := by decide +kernel
theorem d_PF_isSymbol_10 : decode b_PF_isSymbol 10 = .ok (.ishl, 1) := by decide +kernel
theorem d_PF_isSymbol_11 : decode b_PF_isSymbol 11 = .ok (.if_icmp .ge (7), 3) := by decide +kernel
theorem d_PF_isSymbol_14 : decode b_PF_isSymbol 14 = .ok (.iconst (1), 1) := by decide +kernel
theorem d_PF_isSymbol_15 : decode b_PF_isSymbol 15 = .ok (.goto (4), 3) := by decide +kernel
theorem d_PF_isSymbol_18 : decode b_PF_isSymbol 18 = .ok (.iconst (0), 1) := by decide +kernel
theorem d_PF_isSymbol_19 : decode b_PF_isSymbol 19 = .ok (.ireturn, 1) := by decide +kernel
theorem d_PF_fits_0 : decode b_PF_fits 0 = .ok (.iload_n 1, 1) := by decide +kernel
theorem d_PF_fits_1 : decode b_PF_fits 1 = .ok (.iconst (1), 1) := by decide +kernel
theorem d_PF_fits_2 : decode b_PF_fits 2 = .ok (.if_icmp .lt (25), 3) := by decide +kernel
theorem d_PF_fits_5 : decode b_PF_fits 5 = .ok (.iload_n 1, 1) := by decide +kernel
theorem d_PF_fits_6 : decode b_PF_fits 6 = .ok (.bipush (24), 2) := by decide +kernel
theorem d_PF_fits_8 : decode b_PF_fits 8 = .ok (.if_icmp .gt (19), 3) := by decide +kernel
theorem d_PF_fits_11 : decode b_PF_fits 11 = .ok (.iload_n 0, 1) := by decide +kernel
theorem d_PF_fits_12 : decode b_PF_fits 12 = .ok (.ifCond .lt (15), 3) := by decide +kernel
theorem d_PF_fits_15 : decode b_PF_fits 15 = .ok (.iload_n 0, 1) := by decide +kernel
theorem d_PF_fits_16 : decode b_PF_fits 16 = .ok (.bipush (24), 2) := by decide +kernel
theorem d_PF_fits_18 : decode b_PF_fits 18 = .ok (.iload_n 1, 1) := by decide +kernel
theorem d_PF_fits_19 : decode b_PF_fits 19 = .ok (.isub, 1) := by decide +kernel
theorem d_PF_fits_20 : decode b_PF_fits 20 = .ok (.if_icmp .gt (7), 3) := by decide +kernel
theorem d_PF_fits_23 : decode b_PF_fits 23 = .ok (.iconst (1), 1) := by decide +kernel
theorem d_PF_fits_24 : decode b_PF_fits 24 = .ok (.goto (4), 3) := by decide +kernel
theorem d_PF_fits_27 : decode b_PF_fits 27 = .ok (.iconst (0), 1) := by decide +kernel
theorem d_PF_fits_28 : decode b_PF_fits 28 = .ok (.ireturn, 1) := by decide +kernel
end
section
theorem d_Mo_init_0 : decode b_Mo_init 0 = .ok (.aload_n 0, 1) := by decide +kernel
theorem d_Mo_init_1 : decode b_Mo_init 1 = .ok (.invokespecial 1, 3) := by decide +kernel
theorem d_Mo_init_4 : decode b_Mo_init 4 = .ok (.aload_n 0, 1) := by decide +kernel
theorem d_Mo_init_5 : decode b_Mo_init 5 = .ok (.sipush (12000), 3) := by decide +kernel
theorem d_Mo_init_8 : decode b_Mo_init 8 = .ok (.newarray .int, 2) := by decide +kernel
theorem d_Mo_init_10 : decode b_Mo_init 10 = .ok (.putfield 7, 3) := by decide +kernel
theorem d_Mo_init_13 : decode b_Mo_init 13 = .ok (.aload_n 0, 1) := by decide +kernel
theorem d_Mo_init_14 : decode b_Mo_init 14 = .ok (.sipush (24000), 3) := by decide +kernel
theorem d_Mo_init_17 : decode b_Mo_init 17 = .ok (.newarray .byte, 2) := by decide +kernel
theorem d_Mo_init_19 : decode b_Mo_init 19 = .ok (.putfield 13, 3) := by decide +kernel
theorem d_Mo_init_22 : decode b_Mo_init 22 = .ok (.aload_n 0, 1) := by decide +kernel
theorem d_Mo_init_23 : decode b_Mo_init 23 = .ok (.iconst (4), 1) := by decide +kernel
theorem d_Mo_init_24 : decode b_Mo_init 24 = .ok (.newarray .int, 2) := by decide +kernel
theorem d_Mo_init_26 : decode b_Mo_init 26 = .ok (.putfield 17, 3) := by decide +kernel
theorem d_Mo_init_29 : decode b_Mo_init 29 = .ok (.aload_n 0, 1) := by decide +kernel
theorem d_Mo_init_30 : decode b_Mo_init 30 = .ok (.sipush (24000), 3) := by decide +kernel
theorem d_Mo_init_33 : decode b_Mo_init 33 = .ok (.newarray .byte, 2) := by decide +kernel
theorem d_Mo_init_35 : decode b_Mo_init 35 = .ok (.putfield 20, 3) := by decide +kernel
theorem d_Mo_init_38 : decode b_Mo_init 38 = .ok (.aload_n 0, 1) := by decide +kernel
theorem d_Mo_init_39 : decode b_Mo_init 39 = .ok (.sipush (12000), 3) := by decide +kernel
theorem d_Mo_init_42 : decode b_Mo_init 42 = .ok (.newarray .int, 2) := by decide +kernel
theorem d_Mo_init_44 : decode b_Mo_init 44 = .ok (.putfield 23, 3) := by decide +kernel
theorem d_Mo_init_47 : decode b_Mo_init 47 = .ok (.aload_n 0, 1) := by decide +kernel
theorem d_Mo_init_48 : decode b_Mo_init 48 = .ok (.sipush (4096), 3) := by decide +kernel
theorem d_Mo_init_51 : decode b_Mo_init 51 = .ok (.newarray .int, 2) := by decide +kernel
theorem d_Mo_init_53 : decode b_Mo_init 53 = .ok (.putfield 26, 3) := by decide +kernel
theorem d_Mo_init_56 : decode b_Mo_init 56 = .ok (.aload_n 0, 1) := by decide +kernel
theorem d_Mo_init_57 : decode b_Mo_init 57 = .ok (.sipush (4096), 3) := by decide +kernel
theorem d_Mo_init_60 : decode b_Mo_init 60 = .ok (.newarray .int, 2) := by decide +kernel
theorem d_Mo_init_62 : decode b_Mo_init 62 = .ok (.putfield 29, 3) := by decide +kernel
theorem d_Mo_init_65 : decode b_Mo_init 65 = .ok (.aload_n 0, 1) := by decide +kernel
theorem d_Mo_init_66 : decode b_Mo_init 66 = .ok (.sipush (4096), 3) := by decide +kernel
theorem d_Mo_init_69 : decode b_Mo_init 69 = .ok (.newarray .int, 2) := by decide +kernel
theorem d_Mo_init_71 : decode b_Mo_init 71 = .ok (.putfield 32, 3) := by decide +kernel
theorem d_Mo_init_74 : decode b_Mo_init 74 = .ok (.aload_n 0, 1) := by decide +kernel
theorem d_Mo_init_75 : decode b_Mo_init 75 = .ok (.sipush (4096), 3) := by decide +kernel
theorem d_Mo_init_78 : decode b_Mo_init 78 = .ok (.newarray .int, 2) := by decide +kernel
theorem d_Mo_init_80 : decode b_Mo_init 80 = .ok (.putfield 35, 3) := by decide +kernel
theorem d_Mo_init_83 : decode b_Mo_init 83 = .ok (.aload_n 0, 1) := by decide +kernel
theorem d_Mo_init_84 : decode b_Mo_init 84 = .ok (.sipush (4096), 3) := by decide +kernel
theorem d_Mo_init_87 : decode b_Mo_init 87 = .ok (.newarray .int, 2) := by decide +kernel
theorem d_Mo_init_89 : decode b_Mo_init 89 = .ok (.putfield 38, 3) := by decide +kernel
theorem d_Mo_init_92 : decode b_Mo_init 92 = .ok (.aload_n 0, 1) := by decide +kernel
theorem d_Mo_init_93 : decode b_Mo_init 93 = .ok (.bipush (12), 2) := by decide +kernel
theorem d_Mo_init_95 : decode b_Mo_init 95 = .ok (.newarray .int, 2) := by decide +kernel
theorem d_Mo_init_97 : decode b_Mo_init 97 = .ok (.putfield 41, 3) := by decide +kernel
theorem d_Mo_init_100 : decode b_Mo_init 100 = .ok (.aload_n 0, 1) := by decide +kernel
theorem d_Mo_init_101 : decode b_Mo_init 101 = .ok (.bipush (12), 2) := by decide +kernel
theorem d_Mo_init_103 : decode b_Mo_init 103 = .ok (.newarray .int, 2) := by decide +kernel
theorem d_Mo_init_105 : decode b_Mo_init 105 = .ok (.putfield 44, 3) := by decide +kernel
theorem d_Mo_init_108 : decode b_Mo_init 108 = .ok (.aload_n 0, 1) := by decide +kernel
theorem d_Mo_init_109 : decode b_Mo_init 109 = .ok (.bipush (12), 2) := by decide +kernel
theorem d_Mo_init_111 : decode b_Mo_init 111 = .ok (.newarray .int, 2) := by decide +kernel
theorem d_Mo_init_113 : decode b_Mo_init 113 = .ok (.putfield 47, 3) := by decide +kernel
theorem d_Mo_init_116 : decode b_Mo_init 116 = .ok (.aload_n 0, 1) := by decide +kernel
theorem d_Mo_init_117 : decode b_Mo_init 117 = .ok (.bipush (12), 2) := by decide +kernel
theorem d_Mo_init_119 : decode b_Mo_init 119 = .ok (.newarray .int, 2) := by decide +kernel
theorem d_Mo_init_121 : decode b_Mo_init 121 = .ok (.putfield 50, 3) := by decide +kernel
theorem d_Mo_init_124 : decode b_Mo_init 124 = .ok (.aload_n 0, 1) := by decide +kernel
theorem d_Mo_init_125 : decode b_Mo_init 125 = .ok (.bipush (12), 2) := by decide +kernel
theorem d_Mo_init_127 : decode b_Mo_init 127 = .ok (.newarray .int, 2) := by decide +kernel
theorem d_Mo_init_129 : decode b_Mo_init 129 = .ok (.putfield 53, 3) := by decide +kernel
theorem d_Mo_init_132 : decode b_Mo_init 132 = .ok (.aload_n 0, 1) := by decide +kernel
theorem d_Mo_init_133 : decode b_Mo_init 133 = .ok (.bipush (12), 2) := by decide +kernel
theorem d_Mo_init_135 : decode b_Mo_init 135 = .ok (.newarray .int, 2) := by decide +kernel
theorem d_Mo_init_137 : decode b_Mo_init 137 = .ok (.putfield 56, 3) := by decide +kernel
theorem d_Mo_init_140 : decode b_Mo_init 140 = .ok (.aload_n 0, 1) := by decide +kernel
theorem d_Mo_init_141 : decode b_Mo_init 141 = .ok (.bipush (12), 2) := by decide +kernel
theorem d_Mo_init_143 : decode b_Mo_init 143 = .ok (.newarray .int, 2) := by decide +kernel
theorem d_Mo_init_145 : decode b_Mo_init 145 = .ok (.putfield 59, 3) := by decide +kernel
theorem d_Mo_init_148 : decode b_Mo_init 148 = .ok (.aload_n 0, 1) := by decide +kernel
theorem d_Mo_init_149 : decode b_Mo_init 149 = .ok (.sipush (6912), 3) := by decide +kernel
theorem d_Mo_init_152 : decode b_Mo_init 152 = .ok (.newarray .int, 2) := by decide +kernel
theorem d_Mo_init_154 : decode b_Mo_init 154 = .ok (.putfield 62, 3) := by decide +kernel
theorem d_Mo_init_157 : decode b_Mo_init 157 = .ok (.aload_n 0, 1) := by decide +kernel
theorem d_Mo_init_158 : decode b_Mo_init 158 = .ok (.sipush (3328), 3) := by decide +kernel
theorem d_Mo_init_161 : decode b_Mo_init 161 = .ok (.newarray .int, 2) := by decide +kernel
theorem d_Mo_init_163 : decode b_Mo_init 163 = .ok (.putfield 65, 3) := by decide +kernel
theorem d_Mo_init_166 : decode b_Mo_init 166 = .ok (.aload_n 0, 1) := by decide +kernel
theorem d_Mo_init_167 : decode b_Mo_init 167 = .ok (.sipush (576), 3) := by decide +kernel
theorem d_Mo_init_170 : decode b_Mo_init 170 = .ok (.newarray .int, 2) := by decide +kernel
theorem d_Mo_init_172 : decode b_Mo_init 172 = .ok (.putfield 68, 3) := by decide +kernel
theorem d_Mo_init_175 : decode b_Mo_init 175 = .ok (.aload_n 0, 1) := by decide +kernel
theorem d_Mo_init_176 : decode b_Mo_init 176 = .ok (.sipush (576), 3) := by decide +kernel
theorem d_Mo_init_179 : decode b_Mo_init 179 = .ok (.newarray .int, 2) := by decide +kernel
theorem d_Mo_init_181 : decode b_Mo_init 181 = .ok (.putfield 71, 3) := by decide +kernel
theorem d_Mo_init_184 : decode b_Mo_init 184 = .ok (.aload_n 0, 1) := by decide +kernel
theorem d_Mo_init_185 : decode b_Mo_init 185 = .ok (.sipush (576), 3) := by decide +kernel
theorem d_Mo_init_188 : decode b_Mo_init 188 = .ok (.newarray .int, 2) := by decide +kernel
theorem d_Mo_init_190 : decode b_Mo_init 190 = .ok (.putfield 74, 3) := by decide +kernel
theorem d_Mo_init_193 : decode b_Mo_init 193 = .ok (.aload_n 0, 1) := by decide +kernel
theorem d_Mo_init_194 : decode b_Mo_init 194 = .ok (.sipush (576), 3) := by decide +kernel
theorem d_Mo_init_197 : decode b_Mo_init 197 = .ok (.newarray .int, 2) := by decide +kernel
theorem d_Mo_init_199 : decode b_Mo_init 199 = .ok (.putfield 77, 3) := by decide +kernel
theorem d_Mo_init_202 : decode b_Mo_init 202 = .ok (.aload_n 0, 1) := by decide +kernel
theorem d_Mo_init_203 : decode b_Mo_init 203 = .ok (.iload_n 1, 1) := by decide +kernel
theorem d_Mo_init_204 : decode b_Mo_init 204 = .ok (.iconst (2), 1) := by decide +kernel
theorem d_Mo_init_205 : decode b_Mo_init 205 = .ok (.if_icmp .ge (7), 3) := by decide +kernel
theorem d_Mo_init_208 : decode b_Mo_init 208 = .ok (.iconst (2), 1) := by decide +kernel
theorem d_Mo_init_209 : decode b_Mo_init 209 = .ok (.goto (15), 3) := by decide +kernel
theorem d_Mo_init_212 : decode b_Mo_init 212 = .ok (.iload_n 1, 1) := by decide +kernel
theorem d_Mo_init_213 : decode b_Mo_init 213 = .ok (.bipush (8), 2) := by decide +kernel
theorem d_Mo_init_215 : decode b_Mo_init 215 = .ok (.if_icmp .le (8), 3) := by decide +kernel
theorem d_Mo_init_218 : decode b_Mo_init 218 = .ok (.bipush (8), 2) := by decide +kernel
theorem d_Mo_init_220 : decode b_Mo_init 220 = .ok (.goto (4), 3) := by decide +kernel
theorem d_Mo_init_223 : decode b_Mo_init 223 = .ok (.iload_n 1, 1) := by decide +kernel
theorem d_Mo_init_224 : decode b_Mo_init 224 = .ok (.putfield 80, 3) := by decide +kernel
theorem d_Mo_init_227 : decode b_Mo_init 227 = .ok (.aload_n 0, 1) := by decide +kernel
theorem d_Mo_init_228 : decode b_Mo_init 228 = .ok (.iconst (1), 1) := by decide +kernel
theorem d_Mo_init_229 : decode b_Mo_init 229 = .ok (.aload_n 0, 1) := by decide +kernel
theorem d_Mo_init_230 : decode b_Mo_init 230 = .ok (.getfield 80, 3) := by decide +kernel
theorem d_Mo_init_233 : decode b_Mo_init 233 = .ok (.ishl, 1) := by decide +kernel
theorem d_Mo_init_234 : decode b_Mo_init 234 = .ok (.putfield 84, 3) := by decide +kernel
theorem d_Mo_init_237 : decode b_Mo_init 237 = .ok (.aload_n 0, 1) := by decide +kernel
theorem d_Mo_init_238 : decode b_Mo_init 238 = .ok (.aload_n 0, 1) := by decide +kernel
theorem d_Mo_init_239 : decode b_Mo_init 239 = .ok (.getfield 84, 3) := by decide +kernel
theorem d_Mo_init_242 : decode b_Mo_init 242 = .ok (.iconst (1), 1) := by decide +kernel
theorem d_Mo_init_243 : decode b_Mo_init 243 = .ok (.iadd, 1) := by decide +kernel
theorem d_Mo_init_244 : decode b_Mo_init 244 = .ok (.putfield 87, 3) := by decide +kernel
theorem d_Mo_init_247 : decode b_Mo_init 247 = .ok (.aload_n 0, 1) := by decide +kernel
theorem d_Mo_init_248 : decode b_Mo_init 248 = .ok (.invokevirtual 90, 3) := by decide +kernel
theorem d_Mo_init_251 : decode b_Mo_init 251 = .ok (.return_, 1) := by decide +kernel
theorem d_Mo_thrown_0 : decode b_Mo_thrown 0 = .ok (.aload_n 0, 1) := by decide +kernel
theorem d_Mo_thrown_1 : decode b_Mo_thrown 1 = .ok (.getfield 92, 3) := by decide +kernel
theorem d_Mo_thrown_4 : decode b_Mo_thrown 4 = .ok (.ireturn, 1) := by decide +kernel
theorem d_Mo_clear_0 : decode b_Mo_clear 0 = .ok (.aload_n 0, 1) := by decide +kernel
theorem d_Mo_clear_1 : decode b_Mo_clear 1 = .ok (.iconst (0), 1) := by decide +kernel
theorem d_Mo_clear_2 : decode b_Mo_clear 2 = .ok (.putfield 92, 3) := by decide +kernel
theorem d_Mo_clear_5 : decode b_Mo_clear 5 = .ok (.aload_n 0, 1) := by decide +kernel
theorem d_Mo_clear_6 : decode b_Mo_clear 6 = .ok (.iconst (0), 1) := by decide +kernel
theorem d_Mo_clear_7 : decode b_Mo_clear 7 = .ok (.putfield 95, 3) := by decide +kernel
theorem d_Mo_clear_10 : decode b_Mo_clear 10 = .ok (.aload_n 0, 1) := by decide +kernel
theorem d_Mo_clear_11 : decode b_Mo_clear 11 = .ok (.iconst (0), 1) := by decide +kernel
theorem d_Mo_clear_12 : decode b_Mo_clear 12 = .ok (.putfield 98, 3) := by decide +kernel
theorem d_Mo_clear_15 : decode b_Mo_clear 15 = .ok (.aload_n 0, 1) := by decide +kernel
theorem d_Mo_clear_16 : decode b_Mo_clear 16 = .ok (.iconst (0), 1) := by decide +kernel
theorem d_Mo_clear_17 : decode b_Mo_clear 17 = .ok (.putfield 101, 3) := by decide +kernel
theorem d_Mo_clear_20 : decode b_Mo_clear 20 = .ok (.iconst (0), 1) := by decide +kernel
theorem d_Mo_clear_21 : decode b_Mo_clear 21 = .ok (.istore_n 1, 1) := by decide +kernel
theorem d_Mo_clear_22 : decode b_Mo_clear 22 = .ok (.iload_n 1, 1) := by decide +kernel
theorem d_Mo_clear_23 : decode b_Mo_clear 23 = .ok (.iconst (4), 1) := by decide +kernel
theorem d_Mo_clear_24 : decode b_Mo_clear 24 = .ok (.if_icmp .ge (16), 3) := by decide +kernel
theorem d_Mo_clear_27 : decode b_Mo_clear 27 = .ok (.aload_n 0, 1) := by decide +kernel
theorem d_Mo_clear_28 : decode b_Mo_clear 28 = .ok (.getfield 17, 3) := by decide +kernel
theorem d_Mo_clear_31 : decode b_Mo_clear 31 = .ok (.iload_n 1, 1) := by decide +kernel
theorem d_Mo_clear_32 : decode b_Mo_clear 32 = .ok (.iconst (0), 1) := by decide +kernel
theorem d_Mo_clear_33 : decode b_Mo_clear 33 = .ok (.iastore, 1) := by decide +kernel
theorem d_Mo_clear_34 : decode b_Mo_clear 34 = .ok (.iinc 1 (1), 3) := by decide +kernel
theorem d_Mo_clear_37 : decode b_Mo_clear 37 = .ok (.goto (-15), 3) := by decide +kernel
theorem d_Mo_clear_40 : decode b_Mo_clear 40 = .ok (.aload_n 0, 1) := by decide +kernel
theorem d_Mo_clear_41 : decode b_Mo_clear 41 = .ok (.iconst (0), 1) := by decide +kernel
theorem d_Mo_clear_42 : decode b_Mo_clear 42 = .ok (.putfield 104, 3) := by decide +kernel
theorem d_Mo_clear_45 : decode b_Mo_clear 45 = .ok (.aload_n 0, 1) := by decide +kernel
theorem d_Mo_clear_46 : decode b_Mo_clear 46 = .ok (.iconst (0), 1) := by decide +kernel
theorem d_Mo_clear_47 : decode b_Mo_clear 47 = .ok (.putfield 107, 3) := by decide +kernel
theorem d_Mo_clear_50 : decode b_Mo_clear 50 = .ok (.aload_n 0, 1) := by decide +kernel
theorem d_Mo_clear_51 : decode b_Mo_clear 51 = .ok (.iconst (0), 1) := by decide +kernel
theorem d_Mo_clear_52 : decode b_Mo_clear 52 = .ok (.putfield 110, 3) := by decide +kernel
theorem d_Mo_clear_55 : decode b_Mo_clear 55 = .ok (.iconst (0), 1) := by decide +kernel
theorem d_Mo_clear_56 : decode b_Mo_clear 56 = .ok (.istore_n 1, 1) := by decide +kernel
theorem d_Mo_clear_57 : decode b_Mo_clear 57 = .ok (.iload_n 1, 1) := by decide +kernel
theorem d_Mo_clear_58 : decode b_Mo_clear 58 = .ok (.sipush (3328), 3) := by decide +kernel
theorem d_Mo_clear_61 : decode b_Mo_clear 61 = .ok (.if_icmp .ge (16), 3) := by decide +kernel
theorem d_Mo_clear_64 : decode b_Mo_clear 64 = .ok (.aload_n 0, 1) := by decide +kernel
theorem d_Mo_clear_65 : decode b_Mo_clear 65 = .ok (.getfield 65, 3) := by decide +kernel
theorem d_Mo_clear_68 : decode b_Mo_clear 68 = .ok (.iload_n 1, 1) := by decide +kernel
theorem d_Mo_clear_69 : decode b_Mo_clear 69 = .ok (.iconst (-1), 1) := by decide +kernel
theorem d_Mo_clear_70 : decode b_Mo_clear 70 = .ok (.iastore, 1) := by decide +kernel
theorem d_Mo_clear_71 : decode b_Mo_clear 71 = .ok (.iinc 1 (1), 3) := by decide +kernel
theorem d_Mo_clear_74 : decode b_Mo_clear 74 = .ok (.goto (-17), 3) := by decide +kernel
theorem d_Mo_clear_77 : decode b_Mo_clear 77 = .ok (.return_, 1) := by decide +kernel
theorem d_Mo_put_0 : decode b_Mo_put 0 = .ok (.aload_n 0, 1) := by decide +kernel
theorem d_Mo_put_1 : decode b_Mo_put 1 = .ok (.iload_n 3, 1) := by decide +kernel
theorem d_Mo_put_2 : decode b_Mo_put 2 = .ok (.iconst (1), 1) := by decide +kernel
theorem d_Mo_put_3 : decode b_Mo_put 3 = .ok (.if_icmp .lt (10), 3) := by decide +kernel
theorem d_Mo_put_6 : decode b_Mo_put 6 = .ok (.iload_n 3, 1) := by decide +kernel
theorem d_Mo_put_7 : decode b_Mo_put 7 = .ok (.sipush (1000), 3) := by decide +kernel
theorem d_Mo_put_10 : decode b_Mo_put 10 = .ok (.if_icmp .le (7), 3) := by decide +kernel
theorem d_Mo_put_13 : decode b_Mo_put 13 = .ok (.iconst (1), 1) := by decide +kernel
theorem d_Mo_put_14 : decode b_Mo_put 14 = .ok (.goto (20), 3) := by decide +kernel
theorem d_Mo_put_17 : decode b_Mo_put 17 = .ok (.aload_n 0, 1) := by decide +kernel
theorem d_Mo_put_18 : decode b_Mo_put 18 = .ok (.getfield 98, 3) := by decide +kernel
theorem d_Mo_put_21 : decode b_Mo_put 21 = .ok (.iload_n 3, 1) := by decide +kernel
theorem d_Mo_put_22 : decode b_Mo_put 22 = .ok (.iadd, 1) := by decide +kernel
theorem d_Mo_put_23 : decode b_Mo_put 23 = .ok (.sipush (12000), 3) := by decide +kernel
theorem d_Mo_put_26 : decode b_Mo_put 26 = .ok (.if_icmp .le (7), 3) := by decide +kernel
theorem d_Mo_put_29 : decode b_Mo_put 29 = .ok (.iconst (2), 1) := by decide +kernel
theorem d_Mo_put_30 : decode b_Mo_put 30 = .ok (.goto (4), 3) := by decide +kernel
theorem d_Mo_put_33 : decode b_Mo_put 33 = .ok (.iconst (0), 1) := by decide +kernel
theorem d_Mo_put_34 : decode b_Mo_put 34 = .ok (.putfield 92, 3) := by decide +kernel
theorem d_Mo_put_37 : decode b_Mo_put 37 = .ok (.aload_n 0, 1) := by decide +kernel
theorem d_Mo_put_38 : decode b_Mo_put 38 = .ok (.getfield 92, 3) := by decide +kernel
theorem d_Mo_put_41 : decode b_Mo_put 41 = .ok (.ifCond .le (5), 3) := by decide +kernel
theorem d_Mo_put_44 : decode b_Mo_put 44 = .ok (.iconst (0), 1) := by decide +kernel
theorem d_Mo_put_45 : decode b_Mo_put 45 = .ok (.ireturn, 1) := by decide +kernel
theorem d_Mo_put_46 : decode b_Mo_put 46 = .ok (.iload_n 1, 1) := by decide +kernel
theorem d_Mo_put_47 : decode b_Mo_put 47 = .ok (.istore 4, 2) := by decide +kernel
theorem d_Mo_put_49 : decode b_Mo_put 49 = .ok (.iconst (0), 1) := by decide +kernel
theorem d_Mo_put_50 : decode b_Mo_put 50 = .ok (.istore 5, 2) := by decide +kernel
theorem d_Mo_put_52 : decode b_Mo_put 52 = .ok (.iload 5, 2) := by decide +kernel
theorem d_Mo_put_54 : decode b_Mo_put 54 = .ok (.iload_n 3, 1) := by decide +kernel
theorem d_Mo_put_55 : decode b_Mo_put 55 = .ok (.if_icmp .ge (43), 3) := by decide +kernel
theorem d_Mo_put_58 : decode b_Mo_put 58 = .ok (.aload_n 0, 1) := by decide +kernel
theorem d_Mo_put_59 : decode b_Mo_put 59 = .ok (.getfield 7, 3) := by decide +kernel
theorem d_Mo_put_62 : decode b_Mo_put 62 = .ok (.aload_n 0, 1) := by decide +kernel
theorem d_Mo_put_63 : decode b_Mo_put 63 = .ok (.getfield 98, 3) := by decide +kernel
theorem d_Mo_put_66 : decode b_Mo_put 66 = .ok (.iload 4, 2) := by decide +kernel
theorem d_Mo_put_68 : decode b_Mo_put 68 = .ok (.aload_n 0, 1) := by decide +kernel
theorem d_Mo_put_69 : decode b_Mo_put 69 = .ok (.getfield 84, 3) := by decide +kernel
theorem d_Mo_put_72 : decode b_Mo_put 72 = .ok (.iconst (1), 1) := by decide +kernel
theorem d_Mo_put_73 : decode b_Mo_put 73 = .ok (.isub, 1) := by decide +kernel
theorem d_Mo_put_74 : decode b_Mo_put 74 = .ok (.iand, 1) := by decide +kernel
theorem d_Mo_put_75 : decode b_Mo_put 75 = .ok (.iastore, 1) := by decide +kernel
theorem d_Mo_put_76 : decode b_Mo_put 76 = .ok (.aload_n 0, 1) := by decide +kernel
theorem d_Mo_put_77 : decode b_Mo_put 77 = .ok (.dup, 1) := by decide +kernel
theorem d_Mo_put_78 : decode b_Mo_put 78 = .ok (.getfield 98, 3) := by decide +kernel
theorem d_Mo_put_81 : decode b_Mo_put 81 = .ok (.iconst (1), 1) := by decide +kernel
theorem d_Mo_put_82 : decode b_Mo_put 82 = .ok (.iadd, 1) := by decide +kernel
theorem d_Mo_put_83 : decode b_Mo_put 83 = .ok (.putfield 98, 3) := by decide +kernel
theorem d_Mo_put_86 : decode b_Mo_put 86 = .ok (.iload 4, 2) := by decide +kernel
theorem d_Mo_put_88 : decode b_Mo_put 88 = .ok (.iload_n 2, 1) := by decide +kernel
theorem d_Mo_put_89 : decode b_Mo_put 89 = .ok (.iadd, 1) := by decide +kernel
theorem d_Mo_put_90 : decode b_Mo_put 90 = .ok (.istore 4, 2) := by decide +kernel
theorem d_Mo_put_92 : decode b_Mo_put 92 = .ok (.iinc 5 (1), 3) := by decide +kernel
theorem d_Mo_put_95 : decode b_Mo_put 95 = .ok (.goto (-43), 3) := by decide +kernel
theorem d_Mo_put_98 : decode b_Mo_put 98 = .ok (.aload_n 0, 1) := by decide +kernel
theorem d_Mo_put_99 : decode b_Mo_put 99 = .ok (.getfield 98, 3) := by decide +kernel
theorem d_Mo_put_102 : decode b_Mo_put 102 = .ok (.ireturn, 1) := by decide +kernel
theorem d_Mo_rule_0 : decode b_Mo_rule 0 = .ok (.aload_n 0, 1) := by decide +kernel
theorem d_Mo_rule_1 : decode b_Mo_rule 1 = .ok (.iload_n 1, 1) := by decide +kernel
theorem d_Mo_rule_2 : decode b_Mo_rule 2 = .ok (.ifCond .lt (8), 3) := by decide +kernel
theorem d_Mo_rule_5 : decode b_Mo_rule 5 = .ok (.iload_n 1, 1) := by decide +kernel
theorem d_Mo_rule_6 : decode b_Mo_rule 6 = .ok (.iconst (2), 1) := by decide +kernel
theorem d_Mo_rule_7 : decode b_Mo_rule 7 = .ok (.if_icmp .le (7), 3) := by decide +kernel
theorem d_Mo_rule_10 : decode b_Mo_rule 10 = .ok (.iconst (1), 1) := by decide +kernel
theorem d_Mo_rule_11 : decode b_Mo_rule 11 = .ok (.goto (4), 3) := by decide +kernel
theorem d_Mo_rule_14 : decode b_Mo_rule 14 = .ok (.iconst (0), 1) := by decide +kernel
theorem d_Mo_rule_15 : decode b_Mo_rule 15 = .ok (.putfield 92, 3) := by decide +kernel
theorem d_Mo_rule_18 : decode b_Mo_rule 18 = .ok (.aload_n 0, 1) := by decide +kernel
theorem d_Mo_rule_19 : decode b_Mo_rule 19 = .ok (.getfield 92, 3) := by decide +kernel
theorem d_Mo_rule_22 : decode b_Mo_rule 22 = .ok (.ifCond .le (5), 3) := by decide +kernel
theorem d_Mo_rule_25 : decode b_Mo_rule 25 = .ok (.iconst (0), 1) := by decide +kernel
theorem d_Mo_rule_26 : decode b_Mo_rule 26 = .ok (.ireturn, 1) := by decide +kernel
theorem d_Mo_rule_27 : decode b_Mo_rule 27 = .ok (.aload_n 0, 1) := by decide +kernel
theorem d_Mo_rule_28 : decode b_Mo_rule 28 = .ok (.getfield 95, 3) := by decide +kernel
theorem d_Mo_rule_31 : decode b_Mo_rule 31 = .ok (.istore_n 2, 1) := by decide +kernel
theorem d_Mo_rule_32 : decode b_Mo_rule 32 = .ok (.aload_n 0, 1) := by decide +kernel
theorem d_Mo_rule_33 : decode b_Mo_rule 33 = .ok (.iload_n 1, 1) := by decide +kernel
theorem d_Mo_rule_34 : decode b_Mo_rule 34 = .ok (.putfield 95, 3) := by decide +kernel
theorem d_Mo_rule_37 : decode b_Mo_rule 37 = .ok (.iload_n 2, 1) := by decide +kernel
theorem d_Mo_rule_38 : decode b_Mo_rule 38 = .ok (.ireturn, 1) := by decide +kernel
theorem d_Mo_begin_0 : decode b_Mo_begin 0 = .ok (.aload_n 0, 1) := by decide +kernel
theorem d_Mo_begin_1 : decode b_Mo_begin 1 = .ok (.aload_n 0, 1) := by decide +kernel
theorem d_Mo_begin_2 : decode b_Mo_begin 2 = .ok (.getfield 87, 3) := by decide +kernel
theorem d_Mo_begin_5 : decode b_Mo_begin 5 = .ok (.iconst (1), 1) := by decide +kernel
theorem d_Mo_begin_6 : decode b_Mo_begin 6 = .ok (.iadd, 1) := by decide +kernel
theorem d_Mo_begin_7 : decode b_Mo_begin 7 = .ok (.putfield 113, 3) := by decide +kernel
theorem d_Mo_begin_10 : decode b_Mo_begin 10 = .ok (.aload_n 0, 1) := by decide +kernel
theorem d_Mo_begin_11 : decode b_Mo_begin 11 = .ok (.aload_n 0, 1) := by decide +kernel
theorem d_Mo_begin_12 : decode b_Mo_begin 12 = .ok (.getfield 80, 3) := by decide +kernel
theorem d_Mo_begin_15 : decode b_Mo_begin 15 = .ok (.iconst (1), 1) := by decide +kernel
theorem d_Mo_begin_16 : decode b_Mo_begin 16 = .ok (.iadd, 1) := by decide +kernel
theorem d_Mo_begin_17 : decode b_Mo_begin 17 = .ok (.putfield 116, 3) := by decide +kernel
theorem d_Mo_begin_20 : decode b_Mo_begin 20 = .ok (.aload_n 0, 1) := by decide +kernel
theorem d_Mo_begin_21 : decode b_Mo_begin 21 = .ok (.iconst (0), 1) := by decide +kernel
theorem d_Mo_begin_22 : decode b_Mo_begin 22 = .ok (.putfield 119, 3) := by decide +kernel
theorem d_Mo_begin_25 : decode b_Mo_begin 25 = .ok (.iconst (0), 1) := by decide +kernel
theorem d_Mo_begin_26 : decode b_Mo_begin 26 = .ok (.istore_n 1, 1) := by decide +kernel
theorem d_Mo_begin_27 : decode b_Mo_begin 27 = .ok (.iload_n 1, 1) := by decide +kernel
theorem d_Mo_begin_28 : decode b_Mo_begin 28 = .ok (.sipush (4096), 3) := by decide +kernel
theorem d_Mo_begin_31 : decode b_Mo_begin 31 = .ok (.if_icmp .ge (16), 3) := by decide +kernel
theorem d_Mo_begin_34 : decode b_Mo_begin 34 = .ok (.aload_n 0, 1) := by decide +kernel
theorem d_Mo_begin_35 : decode b_Mo_begin 35 = .ok (.getfield 35, 3) := by decide +kernel
theorem d_Mo_begin_38 : decode b_Mo_begin 38 = .ok (.iload_n 1, 1) := by decide +kernel
theorem d_Mo_begin_39 : decode b_Mo_begin 39 = .ok (.iconst (-1), 1) := by decide +kernel
theorem d_Mo_begin_40 : decode b_Mo_begin 40 = .ok (.iastore, 1) := by decide +kernel
theorem d_Mo_begin_41 : decode b_Mo_begin 41 = .ok (.iinc 1 (1), 3) := by decide +kernel
theorem d_Mo_begin_44 : decode b_Mo_begin 44 = .ok (.goto (-17), 3) := by decide +kernel
theorem d_Mo_begin_47 : decode b_Mo_begin 47 = .ok (.iconst (0), 1) := by decide +kernel
theorem d_Mo_begin_48 : decode b_Mo_begin 48 = .ok (.istore_n 1, 1) := by decide +kernel
theorem d_Mo_begin_49 : decode b_Mo_begin 49 = .ok (.iload_n 1, 1) := by decide +kernel
theorem d_Mo_begin_50 : decode b_Mo_begin 50 = .ok (.aload_n 0, 1) := by decide +kernel
theorem d_Mo_begin_51 : decode b_Mo_begin 51 = .ok (.getfield 84, 3) := by decide +kernel
theorem d_Mo_begin_54 : decode b_Mo_begin 54 = .ok (.if_icmp .ge (30), 3) := by decide +kernel
theorem d_Mo_begin_57 : decode b_Mo_begin 57 = .ok (.aload_n 0, 1) := by decide +kernel
theorem d_Mo_begin_58 : decode b_Mo_begin 58 = .ok (.getfield 26, 3) := by decide +kernel
theorem d_Mo_begin_61 : decode b_Mo_begin 61 = .ok (.iload_n 1, 1) := by decide +kernel
theorem d_Mo_begin_62 : decode b_Mo_begin 62 = .ok (.iconst (-1), 1) := by decide +kernel
theorem d_Mo_begin_63 : decode b_Mo_begin 63 = .ok (.iastore, 1) := by decide +kernel
theorem d_Mo_begin_64 : decode b_Mo_begin 64 = .ok (.aload_n 0, 1) := by decide +kernel
theorem d_Mo_begin_65 : decode b_Mo_begin 65 = .ok (.getfield 29, 3) := by decide +kernel
theorem d_Mo_begin_68 : decode b_Mo_begin 68 = .ok (.iload_n 1, 1) := by decide +kernel
theorem d_Mo_begin_69 : decode b_Mo_begin 69 = .ok (.iload_n 1, 1) := by decide +kernel
theorem d_Mo_begin_70 : decode b_Mo_begin 70 = .ok (.iastore, 1) := by decide +kernel
theorem d_Mo_begin_71 : decode b_Mo_begin 71 = .ok (.aload_n 0, 1) := by decide +kernel
theorem d_Mo_begin_72 : decode b_Mo_begin 72 = .ok (.getfield 32, 3) := by decide +kernel
theorem d_Mo_begin_75 : decode b_Mo_begin 75 = .ok (.iload_n 1, 1) := by decide +kernel
theorem d_Mo_begin_76 : decode b_Mo_begin 76 = .ok (.iconst (1), 1) := by decide +kernel
theorem d_Mo_begin_77 : decode b_Mo_begin 77 = .ok (.iastore, 1) := by decide +kernel
theorem d_Mo_begin_78 : decode b_Mo_begin 78 = .ok (.iinc 1 (1), 3) := by decide +kernel
theorem d_Mo_begin_81 : decode b_Mo_begin 81 = .ok (.goto (-32), 3) := by decide +kernel
theorem d_Mo_begin_84 : decode b_Mo_begin 84 = .ok (.return_, 1) := by decide +kernel
theorem d_Mo_enter_0 : decode b_Mo_enter 0 = .ok (.aload_n 0, 1) := by decide +kernel
theorem d_Mo_enter_1 : decode b_Mo_enter 1 = .ok (.getfield 113, 3) := by decide +kernel
theorem d_Mo_enter_4 : decode b_Mo_enter 4 = .ok (.sipush (4096), 3) := by decide +kernel
theorem d_Mo_enter_7 : decode b_Mo_enter 7 = .ok (.if_icmp .ge (75), 3) := by decide +kernel
theorem d_Mo_enter_10 : decode b_Mo_enter 10 = .ok (.aload_n 0, 1) := by decide +kernel
theorem d_Mo_enter_11 : decode b_Mo_enter 11 = .ok (.getfield 26, 3) := by decide +kernel
theorem d_Mo_enter_14 : decode b_Mo_enter 14 = .ok (.aload_n 0, 1) := by decide +kernel
theorem d_Mo_enter_15 : decode b_Mo_enter 15 = .ok (.getfield 113, 3) := by decide +kernel
theorem d_Mo_enter_18 : decode b_Mo_enter 18 = .ok (.iload_n 1, 1) := by decide +kernel
theorem d_Mo_enter_19 : decode b_Mo_enter 19 = .ok (.iastore, 1) := by decide +kernel
theorem d_Mo_enter_20 : decode b_Mo_enter 20 = .ok (.aload_n 0, 1) := by decide +kernel
theorem d_Mo_enter_21 : decode b_Mo_enter 21 = .ok (.getfield 29, 3) := by decide +kernel
theorem d_Mo_enter_24 : decode b_Mo_enter 24 = .ok (.aload_n 0, 1) := by decide +kernel
theorem d_Mo_enter_25 : decode b_Mo_enter 25 = .ok (.getfield 113, 3) := by decide +kernel
theorem d_Mo_enter_28 : decode b_Mo_enter 28 = .ok (.iload_n 2, 1) := by decide +kernel
theorem d_Mo_enter_29 : decode b_Mo_enter 29 = .ok (.iastore, 1) := by decide +kernel
theorem d_Mo_enter_30 : decode b_Mo_enter 30 = .ok (.aload_n 0, 1) := by decide +kernel
theorem d_Mo_enter_31 : decode b_Mo_enter 31 = .ok (.getfield 32, 3) := by decide +kernel
theorem d_Mo_enter_34 : decode b_Mo_enter 34 = .ok (.aload_n 0, 1) := by decide +kernel
theorem d_Mo_enter_35 : decode b_Mo_enter 35 = .ok (.getfield 113, 3) := by decide +kernel
theorem d_Mo_enter_38 : decode b_Mo_enter 38 = .ok (.aload_n 0, 1) := by decide +kernel
theorem d_Mo_enter_39 : decode b_Mo_enter 39 = .ok (.getfield 32, 3) := by decide +kernel
theorem d_Mo_enter_42 : decode b_Mo_enter 42 = .ok (.iload_n 1, 1) := by decide +kernel
theorem d_Mo_enter_43 : decode b_Mo_enter 43 = .ok (.iaload, 1) := by decide +kernel
theorem d_Mo_enter_44 : decode b_Mo_enter 44 = .ok (.iconst (1), 1) := by decide +kernel
theorem d_Mo_enter_45 : decode b_Mo_enter 45 = .ok (.iadd, 1) := by decide +kernel
theorem d_Mo_enter_46 : decode b_Mo_enter 46 = .ok (.iastore, 1) := by decide +kernel
theorem d_Mo_enter_47 : decode b_Mo_enter 47 = .ok (.aload_n 0, 1) := by decide +kernel
theorem d_Mo_enter_48 : decode b_Mo_enter 48 = .ok (.getfield 38, 3) := by decide +kernel
theorem d_Mo_enter_51 : decode b_Mo_enter 51 = .ok (.aload_n 0, 1) := by decide +kernel
theorem d_Mo_enter_52 : decode b_Mo_enter 52 = .ok (.getfield 113, 3) := by decide +kernel
theorem d_Mo_enter_55 : decode b_Mo_enter 55 = .ok (.aload_n 0, 1) := by decide +kernel
theorem d_Mo_enter_56 : decode b_Mo_enter 56 = .ok (.getfield 35, 3) := by decide +kernel
theorem d_Mo_enter_59 : decode b_Mo_enter 59 = .ok (.iload_n 1, 1) := by decide +kernel
theorem d_Mo_enter_60 : decode b_Mo_enter 60 = .ok (.iaload, 1) := by decide +kernel
theorem d_Mo_enter_61 : decode b_Mo_enter 61 = .ok (.iastore, 1) := by decide +kernel
theorem d_Mo_enter_62 : decode b_Mo_enter 62 = .ok (.aload_n 0, 1) := by decide +kernel
theorem d_Mo_enter_63 : decode b_Mo_enter 63 = .ok (.getfield 35, 3) := by decide +kernel
theorem d_Mo_enter_66 : decode b_Mo_enter 66 = .ok (.iload_n 1, 1) := by decide +kernel
theorem d_Mo_enter_67 : decode b_Mo_enter 67 = .ok (.aload_n 0, 1) := by decide +kernel
theorem d_Mo_enter_68 : decode b_Mo_enter 68 = .ok (.getfield 113, 3) := by decide +kernel
theorem d_Mo_enter_71 : decode b_Mo_enter 71 = .ok (.iastore, 1) := by decide +kernel
theorem d_Mo_enter_72 : decode b_Mo_enter 72 = .ok (.aload_n 0, 1) := by decide +kernel
theorem d_Mo_enter_73 : decode b_Mo_enter 73 = .ok (.dup, 1) := by decide +kernel
theorem d_Mo_enter_74 : decode b_Mo_enter 74 = .ok (.getfield 113, 3) := by decide +kernel
theorem d_Mo_enter_77 : decode b_Mo_enter 77 = .ok (.iconst (1), 1) := by decide +kernel
theorem d_Mo_enter_78 : decode b_Mo_enter 78 = .ok (.iadd, 1) := by decide +kernel
theorem d_Mo_enter_79 : decode b_Mo_enter 79 = .ok (.putfield 113, 3) := by decide +kernel
theorem d_Mo_enter_82 : decode b_Mo_enter 82 = .ok (.return_, 1) := by decide +kernel
theorem d_Mo_childOf_0 : decode b_Mo_childOf 0 = .ok (.aload_n 0, 1) := by decide +kernel
theorem d_Mo_childOf_1 : decode b_Mo_childOf 1 = .ok (.getfield 35, 3) := by decide +kernel
theorem d_Mo_childOf_4 : decode b_Mo_childOf 4 = .ok (.iload_n 1, 1) := by decide +kernel
theorem d_Mo_childOf_5 : decode b_Mo_childOf 5 = .ok (.iaload, 1) := by decide +kernel
theorem d_Mo_childOf_6 : decode b_Mo_childOf 6 = .ok (.istore_n 3, 1) := by decide +kernel
theorem d_Mo_childOf_7 : decode b_Mo_childOf 7 = .ok (.iload_n 3, 1) := by decide +kernel
theorem d_Mo_childOf_8 : decode b_Mo_childOf 8 = .ok (.ifCond .lt (23), 3) := by decide +kernel
theorem d_Mo_childOf_11 : decode b_Mo_childOf 11 = .ok (.aload_n 0, 1) := by decide +kernel
theorem d_Mo_childOf_12 : decode b_Mo_childOf 12 = .ok (.getfield 29, 3) := by decide +kernel
theorem d_Mo_childOf_15 : decode b_Mo_childOf 15 = .ok (.iload_n 3, 1) := by decide +kernel
theorem d_Mo_childOf_16 : decode b_Mo_childOf 16 = .ok (.iaload, 1) := by decide +kernel
theorem d_Mo_childOf_17 : decode b_Mo_childOf 17 = .ok (.iload_n 2, 1) := by decide +kernel
theorem d_Mo_childOf_18 : decode b_Mo_childOf 18 = .ok (.if_icmp .eq (13), 3) := by decide +kernel
theorem d_Mo_childOf_21 : decode b_Mo_childOf 21 = .ok (.aload_n 0, 1) := by decide +kernel
theorem d_Mo_childOf_22 : decode b_Mo_childOf 22 = .ok (.getfield 38, 3) := by decide +kernel
theorem d_Mo_childOf_25 : decode b_Mo_childOf 25 = .ok (.iload_n 3, 1) := by decide +kernel
theorem d_Mo_childOf_26 : decode b_Mo_childOf 26 = .ok (.iaload, 1) := by decide +kernel
theorem d_Mo_childOf_27 : decode b_Mo_childOf 27 = .ok (.istore_n 3, 1) := by decide +kernel
theorem d_Mo_childOf_28 : decode b_Mo_childOf 28 = .ok (.goto (-21), 3) := by decide +kernel
theorem d_Mo_childOf_31 : decode b_Mo_childOf 31 = .ok (.iload_n 3, 1) := by decide +kernel
theorem d_Mo_childOf_32 : decode b_Mo_childOf 32 = .ok (.ireturn, 1) := by decide +kernel
theorem d_Mo_widen_0 : decode b_Mo_widen 0 = .ok (.aload_n 0, 1) := by decide +kernel
theorem d_Mo_widen_1 : decode b_Mo_widen 1 = .ok (.dup, 1) := by decide +kernel
theorem d_Mo_widen_2 : decode b_Mo_widen 2 = .ok (.getfield 119, 3) := by decide +kernel
theorem d_Mo_widen_5 : decode b_Mo_widen 5 = .ok (.iconst (1), 1) := by decide +kernel
theorem d_Mo_widen_6 : decode b_Mo_widen 6 = .ok (.iadd, 1) := by decide +kernel
theorem d_Mo_widen_7 : decode b_Mo_widen 7 = .ok (.putfield 119, 3) := by decide +kernel
theorem d_Mo_widen_10 : decode b_Mo_widen 10 = .ok (.aload_n 0, 1) := by decide +kernel
theorem d_Mo_widen_11 : decode b_Mo_widen 11 = .ok (.getfield 116, 3) := by decide +kernel
theorem d_Mo_widen_14 : decode b_Mo_widen 14 = .ok (.bipush (12), 2) := by decide +kernel
theorem d_Mo_widen_16 : decode b_Mo_widen 16 = .ok (.if_icmp .ge (31), 3) := by decide +kernel
theorem d_Mo_widen_19 : decode b_Mo_widen 19 = .ok (.aload_n 0, 1) := by decide +kernel
theorem d_Mo_widen_20 : decode b_Mo_widen 20 = .ok (.getfield 87, 3) := by decide +kernel
theorem d_Mo_widen_23 : decode b_Mo_widen 23 = .ok (.aload_n 0, 1) := by decide +kernel
theorem d_Mo_widen_24 : decode b_Mo_widen 24 = .ok (.getfield 119, 3) := by decide +kernel
theorem d_Mo_widen_27 : decode b_Mo_widen 27 = .ok (.iadd, 1) := by decide +kernel
theorem d_Mo_widen_28 : decode b_Mo_widen 28 = .ok (.iconst (1), 1) := by decide +kernel
theorem d_Mo_widen_29 : decode b_Mo_widen 29 = .ok (.aload_n 0, 1) := by decide +kernel
theorem d_Mo_widen_30 : decode b_Mo_widen 30 = .ok (.getfield 116, 3) := by decide +kernel
theorem d_Mo_widen_33 : decode b_Mo_widen 33 = .ok (.ishl, 1) := by decide +kernel
theorem d_Mo_widen_34 : decode b_Mo_widen 34 = .ok (.if_icmp .ne (13), 3) := by decide +kernel
theorem d_Mo_widen_37 : decode b_Mo_widen 37 = .ok (.aload_n 0, 1) := by decide +kernel
theorem d_Mo_widen_38 : decode b_Mo_widen 38 = .ok (.dup, 1) := by decide +kernel
theorem d_Mo_widen_39 : decode b_Mo_widen 39 = .ok (.getfield 116, 3) := by decide +kernel
theorem d_Mo_widen_42 : decode b_Mo_widen 42 = .ok (.iconst (1), 1) := by decide +kernel
theorem d_Mo_widen_43 : decode b_Mo_widen 43 = .ok (.iadd, 1) := by decide +kernel
theorem d_Mo_widen_44 : decode b_Mo_widen 44 = .ok (.putfield 116, 3) := by decide +kernel
theorem d_Mo_widen_47 : decode b_Mo_widen 47 = .ok (.return_, 1) := by decide +kernel
theorem d_Mo_write_0 : decode b_Mo_write 0 = .ok (.iconst (0), 1) := by decide +kernel
theorem d_Mo_write_1 : decode b_Mo_write 1 = .ok (.istore_n 2, 1) := by decide +kernel
theorem d_Mo_write_2 : decode b_Mo_write 2 = .ok (.iload_n 2, 1) := by decide +kernel
theorem d_Mo_write_3 : decode b_Mo_write 3 = .ok (.aload_n 0, 1) := by decide +kernel
theorem d_Mo_write_4 : decode b_Mo_write 4 = .ok (.getfield 116, 3) := by decide +kernel
theorem d_Mo_write_7 : decode b_Mo_write 7 = .ok (.if_icmp .ge (71), 3) := by decide +kernel
theorem d_Mo_write_10 : decode b_Mo_write 10 = .ok (.aload_n 0, 1) := by decide +kernel
theorem d_Mo_write_11 : decode b_Mo_write 11 = .ok (.getfield 122, 3) := by decide +kernel
theorem d_Mo_write_14 : decode b_Mo_write 14 = .ok (.bipush (8), 2) := by decide +kernel
theorem d_Mo_write_16 : decode b_Mo_write 16 = .ok (.idiv, 1) := by decide +kernel
theorem d_Mo_write_17 : decode b_Mo_write 17 = .ok (.istore_n 3, 1) := by decide +kernel
theorem d_Mo_write_18 : decode b_Mo_write 18 = .ok (.aload_n 0, 1) := by decide +kernel
theorem d_Mo_write_19 : decode b_Mo_write 19 = .ok (.getfield 122, 3) := by decide +kernel
theorem d_Mo_write_22 : decode b_Mo_write 22 = .ok (.bipush (8), 2) := by decide +kernel
theorem d_Mo_write_24 : decode b_Mo_write 24 = .ok (.irem, 1) := by decide +kernel
theorem d_Mo_write_25 : decode b_Mo_write 25 = .ok (.ifCond .ne (10), 3) := by decide +kernel
theorem d_Mo_write_28 : decode b_Mo_write 28 = .ok (.aload_n 0, 1) := by decide +kernel
theorem d_Mo_write_29 : decode b_Mo_write 29 = .ok (.getfield 13, 3) := by decide +kernel
theorem d_Mo_write_32 : decode b_Mo_write 32 = .ok (.iload_n 3, 1) := by decide +kernel
theorem d_Mo_write_33 : decode b_Mo_write 33 = .ok (.iconst (0), 1) := by decide +kernel
theorem d_Mo_write_34 : decode b_Mo_write 34 = .ok (.bastore, 1) := by decide +kernel
theorem d_Mo_write_35 : decode b_Mo_write 35 = .ok (.aload_n 0, 1) := by decide +kernel
theorem d_Mo_write_36 : decode b_Mo_write 36 = .ok (.getfield 13, 3) := by decide +kernel
theorem d_Mo_write_39 : decode b_Mo_write 39 = .ok (.iload_n 3, 1) := by decide +kernel
theorem d_Mo_write_40 : decode b_Mo_write 40 = .ok (.aload_n 0, 1) := by decide +kernel
theorem d_Mo_write_41 : decode b_Mo_write 41 = .ok (.getfield 13, 3) := by decide +kernel
theorem d_Mo_write_44 : decode b_Mo_write 44 = .ok (.iload_n 3, 1) := by decide +kernel
theorem d_Mo_write_45 : decode b_Mo_write 45 = .ok (.baload, 1) := by decide +kernel
theorem d_Mo_write_46 : decode b_Mo_write 46 = .ok (.iload_n 1, 1) := by decide +kernel
theorem d_Mo_write_47 : decode b_Mo_write 47 = .ok (.iload_n 2, 1) := by decide +kernel
theorem d_Mo_write_48 : decode b_Mo_write 48 = .ok (.ishr, 1) := by decide +kernel
theorem d_Mo_write_49 : decode b_Mo_write 49 = .ok (.iconst (1), 1) := by decide +kernel
theorem d_Mo_write_50 : decode b_Mo_write 50 = .ok (.iand, 1) := by decide +kernel
theorem d_Mo_write_51 : decode b_Mo_write 51 = .ok (.aload_n 0, 1) := by decide +kernel
theorem d_Mo_write_52 : decode b_Mo_write 52 = .ok (.getfield 122, 3) := by decide +kernel
theorem d_Mo_write_55 : decode b_Mo_write 55 = .ok (.bipush (8), 2) := by decide +kernel
theorem d_Mo_write_57 : decode b_Mo_write 57 = .ok (.irem, 1) := by decide +kernel
theorem d_Mo_write_58 : decode b_Mo_write 58 = .ok (.ishl, 1) := by decide +kernel
theorem d_Mo_write_59 : decode b_Mo_write 59 = .ok (.ior, 1) := by decide +kernel
theorem d_Mo_write_60 : decode b_Mo_write 60 = .ok (.i2b, 1) := by decide +kernel
theorem d_Mo_write_61 : decode b_Mo_write 61 = .ok (.bastore, 1) := by decide +kernel
theorem d_Mo_write_62 : decode b_Mo_write 62 = .ok (.aload_n 0, 1) := by decide +kernel
theorem d_Mo_write_63 : decode b_Mo_write 63 = .ok (.dup, 1) := by decide +kernel
theorem d_Mo_write_64 : decode b_Mo_write 64 = .ok (.getfield 122, 3) := by decide +kernel
theorem d_Mo_write_67 : decode b_Mo_write 67 = .ok (.iconst (1), 1) := by decide +kernel
theorem d_Mo_write_68 : decode b_Mo_write 68 = .ok (.iadd, 1) := by decide +kernel
theorem d_Mo_write_69 : decode b_Mo_write 69 = .ok (.putfield 122, 3) := by decide +kernel
theorem d_Mo_write_72 : decode b_Mo_write 72 = .ok (.iinc 2 (1), 3) := by decide +kernel
theorem d_Mo_write_75 : decode b_Mo_write 75 = .ok (.goto (-73), 3) := by decide +kernel
theorem d_Mo_write_78 : decode b_Mo_write 78 = .ok (.aload_n 0, 1) := by decide +kernel
theorem d_Mo_write_79 : decode b_Mo_write 79 = .ok (.getfield 17, 3) := by decide +kernel
theorem d_Mo_write_82 : decode b_Mo_write 82 = .ok (.iconst (0), 1) := by decide +kernel
theorem d_Mo_write_83 : decode b_Mo_write 83 = .ok (.dup2, 1) := by decide +kernel
theorem d_Mo_write_84 : decode b_Mo_write 84 = .ok (.iaload, 1) := by decide +kernel
theorem d_Mo_write_85 : decode b_Mo_write 85 = .ok (.iconst (1), 1) := by decide +kernel
theorem d_Mo_write_86 : decode b_Mo_write 86 = .ok (.iadd, 1) := by decide +kernel
theorem d_Mo_write_87 : decode b_Mo_write 87 = .ok (.iastore, 1) := by decide +kernel
theorem d_Mo_write_88 : decode b_Mo_write 88 = .ok (.aload_n 0, 1) := by decide +kernel
theorem d_Mo_write_89 : decode b_Mo_write 89 = .ok (.getfield 17, 3) := by decide +kernel
theorem d_Mo_write_92 : decode b_Mo_write 92 = .ok (.iconst (2), 1) := by decide +kernel
theorem d_Mo_write_93 : decode b_Mo_write 93 = .ok (.aload_n 0, 1) := by decide +kernel
theorem d_Mo_write_94 : decode b_Mo_write 94 = .ok (.getfield 116, 3) := by decide +kernel
theorem d_Mo_write_97 : decode b_Mo_write 97 = .ok (.iastore, 1) := by decide +kernel
theorem d_Mo_write_98 : decode b_Mo_write 98 = .ok (.return_, 1) := by decide +kernel
theorem d_Mo_writeClear_0 : decode b_Mo_writeClear 0 = .ok (.aload_n 0, 1) := by decide +kernel
theorem d_Mo_writeClear_1 : decode b_Mo_writeClear 1 = .ok (.aload_n 0, 1) := by decide +kernel
theorem d_Mo_writeClear_2 : decode b_Mo_writeClear 2 = .ok (.getfield 84, 3) := by decide +kernel
theorem d_Mo_writeClear_5 : decode b_Mo_writeClear 5 = .ok (.invokevirtual 125, 3) := by decide +kernel
theorem d_Mo_writeClear_8 : decode b_Mo_writeClear 8 = .ok (.aload_n 0, 1) := by decide +kernel
theorem d_Mo_writeClear_9 : decode b_Mo_writeClear 9 = .ok (.getfield 17, 3) := by decide +kernel
theorem d_Mo_writeClear_12 : decode b_Mo_writeClear 12 = .ok (.iconst (1), 1) := by decide +kernel
theorem d_Mo_writeClear_13 : decode b_Mo_writeClear 13 = .ok (.dup2, 1) := by decide +kernel
theorem d_Mo_writeClear_14 : decode b_Mo_writeClear 14 = .ok (.iaload, 1) := by decide +kernel
theorem d_Mo_writeClear_15 : decode b_Mo_writeClear 15 = .ok (.iconst (1), 1) := by decide +kernel
theorem d_Mo_writeClear_16 : decode b_Mo_writeClear 16 = .ok (.iadd, 1) := by decide +kernel
theorem d_Mo_writeClear_17 : decode b_Mo_writeClear 17 = .ok (.iastore, 1) := by decide +kernel
theorem d_Mo_writeClear_18 : decode b_Mo_writeClear 18 = .ok (.aload_n 0, 1) := by decide +kernel
theorem d_Mo_writeClear_19 : decode b_Mo_writeClear 19 = .ok (.invokevirtual 129, 3) := by decide +kernel
theorem d_Mo_writeClear_22 : decode b_Mo_writeClear 22 = .ok (.return_, 1) := by decide +kernel
theorem d_Mo_encode_0 : decode b_Mo_encode 0 = .ok (.aload_n 0, 1) := by decide +kernel
theorem d_Mo_encode_1 : decode b_Mo_encode 1 = .ok (.iconst (0), 1) := by decide +kernel
theorem d_Mo_encode_2 : decode b_Mo_encode 2 = .ok (.putfield 92, 3) := by decide +kernel
theorem d_Mo_encode_5 : decode b_Mo_encode 5 = .ok (.aload_n 0, 1) := by decide +kernel
theorem d_Mo_encode_6 : decode b_Mo_encode 6 = .ok (.iconst (0), 1) := by decide +kernel
theorem d_Mo_encode_7 : decode b_Mo_encode 7 = .ok (.putfield 122, 3) := by decide +kernel
theorem d_Mo_encode_10 : decode b_Mo_encode 10 = .ok (.iconst (0), 1) := by decide +kernel
theorem d_Mo_encode_11 : decode b_Mo_encode 11 = .ok (.istore_n 1, 1) := by decide +kernel
theorem d_Mo_encode_12 : decode b_Mo_encode 12 = .ok (.iload_n 1, 1) := by decide +kernel
theorem d_Mo_encode_13 : decode b_Mo_encode 13 = .ok (.iconst (4), 1) := by decide +kernel
theorem d_Mo_encode_14 : decode b_Mo_encode 14 = .ok (.if_icmp .ge (16), 3) := by decide +kernel
theorem d_Mo_encode_17 : decode b_Mo_encode 17 = .ok (.aload_n 0, 1) := by decide +kernel
theorem d_Mo_encode_18 : decode b_Mo_encode 18 = .ok (.getfield 17, 3) := by decide +kernel
theorem d_Mo_encode_21 : decode b_Mo_encode 21 = .ok (.iload_n 1, 1) := by decide +kernel
theorem d_Mo_encode_22 : decode b_Mo_encode 22 = .ok (.iconst (0), 1) := by decide +kernel
theorem d_Mo_encode_23 : decode b_Mo_encode 23 = .ok (.iastore, 1) := by decide +kernel
theorem d_Mo_encode_24 : decode b_Mo_encode 24 = .ok (.iinc 1 (1), 3) := by decide +kernel
theorem d_Mo_encode_27 : decode b_Mo_encode 27 = .ok (.goto (-15), 3) := by decide +kernel
theorem d_Mo_encode_30 : decode b_Mo_encode 30 = .ok (.aload_n 0, 1) := by decide +kernel
theorem d_Mo_encode_31 : decode b_Mo_encode 31 = .ok (.invokevirtual 129, 3) := by decide +kernel
theorem d_Mo_encode_34 : decode b_Mo_encode 34 = .ok (.aload_n 0, 1) := by decide +kernel
theorem d_Mo_encode_35 : decode b_Mo_encode 35 = .ok (.invokevirtual 132, 3) := by decide +kernel
theorem d_Mo_encode_38 : decode b_Mo_encode 38 = .ok (.iconst (0), 1) := by decide +kernel
theorem d_Mo_encode_39 : decode b_Mo_encode 39 = .ok (.istore_n 1, 1) := by decide +kernel
theorem d_Mo_encode_40 : decode b_Mo_encode 40 = .ok (.iconst (0), 1) := by decide +kernel
theorem d_Mo_encode_41 : decode b_Mo_encode 41 = .ok (.istore_n 2, 1) := by decide +kernel
theorem d_Mo_encode_42 : decode b_Mo_encode 42 = .ok (.iconst (0), 1) := by decide +kernel
theorem d_Mo_encode_43 : decode b_Mo_encode 43 = .ok (.istore_n 3, 1) := by decide +kernel
theorem d_Mo_encode_44 : decode b_Mo_encode 44 = .ok (.iload_n 1, 1) := by decide +kernel
theorem d_Mo_encode_45 : decode b_Mo_encode 45 = .ok (.aload_n 0, 1) := by decide +kernel
theorem d_Mo_encode_46 : decode b_Mo_encode 46 = .ok (.getfield 98, 3) := by decide +kernel
theorem d_Mo_encode_49 : decode b_Mo_encode 49 = .ok (.if_icmp .ge (242), 3) := by decide +kernel
theorem d_Mo_encode_52 : decode b_Mo_encode 52 = .ok (.aload_n 0, 1) := by decide +kernel
theorem d_Mo_encode_53 : decode b_Mo_encode 53 = .ok (.getfield 113, 3) := by decide +kernel
theorem d_Mo_encode_56 : decode b_Mo_encode 56 = .ok (.sipush (4096), 3) := by decide +kernel
theorem d_Mo_encode_59 : decode b_Mo_encode 59 = .ok (.if_icmp .ne (7), 3) := by decide +kernel
theorem d_Mo_encode_62 : decode b_Mo_encode 62 = .ok (.iconst (1), 1) := by decide +kernel
theorem d_Mo_encode_63 : decode b_Mo_encode 63 = .ok (.goto (4), 3) := by decide +kernel
theorem d_Mo_encode_66 : decode b_Mo_encode 66 = .ok (.iconst (0), 1) := by decide +kernel
theorem d_Mo_encode_67 : decode b_Mo_encode 67 = .ok (.istore 4, 2) := by decide +kernel
theorem d_Mo_encode_69 : decode b_Mo_encode 69 = .ok (.aload_n 0, 1) := by decide +kernel
theorem d_Mo_encode_70 : decode b_Mo_encode 70 = .ok (.getfield 95, 3) := by decide +kernel
theorem d_Mo_encode_73 : decode b_Mo_encode 73 = .ok (.iconst (2), 1) := by decide +kernel
theorem d_Mo_encode_74 : decode b_Mo_encode 74 = .ok (.if_icmp .ne (18), 3) := by decide +kernel
theorem d_Mo_encode_77 : decode b_Mo_encode 77 = .ok (.iload 4, 2) := by decide +kernel
theorem d_Mo_encode_79 : decode b_Mo_encode 79 = .ok (.ifCond .eq (13), 3) := by decide +kernel
theorem d_Mo_encode_82 : decode b_Mo_encode 82 = .ok (.iload_n 2, 1) := by decide +kernel
theorem d_Mo_encode_83 : decode b_Mo_encode 83 = .ok (.bipush (64), 2) := by decide +kernel
theorem d_Mo_encode_85 : decode b_Mo_encode 85 = .ok (.if_icmp .ne (7), 3) := by decide +kernel
theorem d_Mo_encode_88 : decode b_Mo_encode 88 = .ok (.iconst (1), 1) := by decide +kernel
theorem d_Mo_encode_89 : decode b_Mo_encode 89 = .ok (.goto (4), 3) := by decide +kernel
theorem d_Mo_encode_92 : decode b_Mo_encode 92 = .ok (.iconst (0), 1) := by decide +kernel
theorem d_Mo_encode_93 : decode b_Mo_encode 93 = .ok (.istore 5, 2) := by decide +kernel
theorem d_Mo_encode_95 : decode b_Mo_encode 95 = .ok (.aload_n 0, 1) := by decide +kernel
theorem d_Mo_encode_96 : decode b_Mo_encode 96 = .ok (.getfield 95, 3) := by decide +kernel
theorem d_Mo_encode_99 : decode b_Mo_encode 99 = .ok (.ifCond .ne (8), 3) := by decide +kernel
theorem d_Mo_encode_102 : decode b_Mo_encode 102 = .ok (.iload 4, 2) := by decide +kernel
theorem d_Mo_encode_104 : decode b_Mo_encode 104 = .ok (.ifCond .ne (15), 3) := by decide +kernel
theorem d_Mo_encode_107 : decode b_Mo_encode 107 = .ok (.iload 5, 2) := by decide +kernel
theorem d_Mo_encode_109 : decode b_Mo_encode 109 = .ok (.ifCond .eq (17), 3) := by decide +kernel
theorem d_Mo_encode_112 : decode b_Mo_encode 112 = .ok (.iload_n 3, 1) := by decide +kernel
theorem d_Mo_encode_113 : decode b_Mo_encode 113 = .ok (.sipush (256), 3) := by decide +kernel
theorem d_Mo_encode_116 : decode b_Mo_encode 116 = .ok (.if_icmp .ge (10), 3) := by decide +kernel
theorem d_Mo_encode_119 : decode b_Mo_encode 119 = .ok (.aload_n 0, 1) := by decide +kernel
theorem d_Mo_encode_120 : decode b_Mo_encode 120 = .ok (.invokevirtual 132, 3) := by decide +kernel
theorem d_Mo_encode_123 : decode b_Mo_encode 123 = .ok (.iconst (0), 1) := by decide +kernel
theorem d_Mo_encode_124 : decode b_Mo_encode 124 = .ok (.istore 4, 2) := by decide +kernel
theorem d_Mo_encode_126 : decode b_Mo_encode 126 = .ok (.iload 5, 2) := by decide +kernel
theorem d_Mo_encode_128 : decode b_Mo_encode 128 = .ok (.ifCond .ne (8), 3) := by decide +kernel
theorem d_Mo_encode_131 : decode b_Mo_encode 131 = .ok (.iload 4, 2) := by decide +kernel
theorem d_Mo_encode_133 : decode b_Mo_encode 133 = .ok (.ifCond .ne (7), 3) := by decide +kernel
theorem d_Mo_encode_136 : decode b_Mo_encode 136 = .ok (.iconst (0), 1) := by decide +kernel
theorem d_Mo_encode_137 : decode b_Mo_encode 137 = .ok (.istore_n 2, 1) := by decide +kernel
theorem d_Mo_encode_138 : decode b_Mo_encode 138 = .ok (.iconst (0), 1) := by decide +kernel
theorem d_Mo_encode_139 : decode b_Mo_encode 139 = .ok (.istore_n 3, 1) := by decide +kernel
theorem d_Mo_encode_140 : decode b_Mo_encode 140 = .ok (.aload_n 0, 1) := by decide +kernel
theorem d_Mo_encode_141 : decode b_Mo_encode 141 = .ok (.getfield 7, 3) := by decide +kernel
theorem d_Mo_encode_144 : decode b_Mo_encode 144 = .ok (.iload_n 1, 1) := by decide +kernel
theorem d_Mo_encode_145 : decode b_Mo_encode 145 = .ok (.iaload, 1) := by decide +kernel
theorem d_Mo_encode_146 : decode b_Mo_encode 146 = .ok (.istore 6, 2) := by decide +kernel
theorem d_Mo_encode_148 : decode b_Mo_encode 148 = .ok (.iload_n 1, 1) := by decide +kernel
theorem d_Mo_encode_149 : decode b_Mo_encode 149 = .ok (.iconst (1), 1) := by decide +kernel
theorem d_Mo_encode_150 : decode b_Mo_encode 150 = .ok (.iadd, 1) := by decide +kernel
theorem d_Mo_encode_151 : decode b_Mo_encode 151 = .ok (.istore 7, 2) := by decide +kernel
theorem d_Mo_encode_153 : decode b_Mo_encode 153 = .ok (.iload 7, 2) := by decide +kernel
theorem d_Mo_encode_155 : decode b_Mo_encode 155 = .ok (.aload_n 0, 1) := by decide +kernel
theorem d_Mo_encode_156 : decode b_Mo_encode 156 = .ok (.getfield 98, 3) := by decide +kernel
theorem d_Mo_encode_159 : decode b_Mo_encode 159 = .ok (.if_icmp .ge (19), 3) := by decide +kernel
theorem d_Mo_encode_162 : decode b_Mo_encode 162 = .ok (.aload_n 0, 1) := by decide +kernel
theorem d_Mo_encode_163 : decode b_Mo_encode 163 = .ok (.iload 6, 2) := by decide +kernel
theorem d_Mo_encode_165 : decode b_Mo_encode 165 = .ok (.aload_n 0, 1) := by decide +kernel
theorem d_Mo_encode_166 : decode b_Mo_encode 166 = .ok (.getfield 7, 3) := by decide +kernel
theorem d_Mo_encode_169 : decode b_Mo_encode 169 = .ok (.iload 7, 2) := by decide +kernel
theorem d_Mo_encode_171 : decode b_Mo_encode 171 = .ok (.iaload, 1) := by decide +kernel
theorem d_Mo_encode_172 : decode b_Mo_encode 172 = .ok (.invokevirtual 135, 3) := by decide +kernel
theorem d_Mo_encode_175 : decode b_Mo_encode 175 = .ok (.goto (4), 3) := by decide +kernel
theorem d_Mo_encode_178 : decode b_Mo_encode 178 = .ok (.iconst (-1), 1) := by decide +kernel
theorem d_Mo_encode_179 : decode b_Mo_encode 179 = .ok (.istore 8, 2) := by decide +kernel
theorem d_Mo_encode_181 : decode b_Mo_encode 181 = .ok (.iload 8, 2) := by decide +kernel
theorem d_Mo_encode_183 : decode b_Mo_encode 183 = .ok (.ifCond .lt (41), 3) := by decide +kernel
theorem d_Mo_encode_186 : decode b_Mo_encode 186 = .ok (.iload 8, 2) := by decide +kernel
theorem d_Mo_encode_188 : decode b_Mo_encode 188 = .ok (.istore 6, 2) := by decide +kernel
theorem d_Mo_encode_190 : decode b_Mo_encode 190 = .ok (.iinc 7 (1), 3) := by decide +kernel
theorem d_Mo_encode_193 : decode b_Mo_encode 193 = .ok (.iload 7, 2) := by decide +kernel
theorem d_Mo_encode_195 : decode b_Mo_encode 195 = .ok (.aload_n 0, 1) := by decide +kernel
theorem d_Mo_encode_196 : decode b_Mo_encode 196 = .ok (.getfield 98, 3) := by decide +kernel
theorem d_Mo_encode_199 : decode b_Mo_encode 199 = .ok (.if_icmp .ge (19), 3) := by decide +kernel
theorem d_Mo_encode_202 : decode b_Mo_encode 202 = .ok (.aload_n 0, 1) := by decide +kernel
theorem d_Mo_encode_203 : decode b_Mo_encode 203 = .ok (.iload 6, 2) := by decide +kernel
theorem d_Mo_encode_205 : decode b_Mo_encode 205 = .ok (.aload_n 0, 1) := by decide +kernel
theorem d_Mo_encode_206 : decode b_Mo_encode 206 = .ok (.getfield 7, 3) := by decide +kernel
theorem d_Mo_encode_209 : decode b_Mo_encode 209 = .ok (.iload 7, 2) := by decide +kernel
theorem d_Mo_encode_211 : decode b_Mo_encode 211 = .ok (.iaload, 1) := by decide +kernel
theorem d_Mo_encode_212 : decode b_Mo_encode 212 = .ok (.invokevirtual 135, 3) := by decide +kernel
theorem d_Mo_encode_215 : decode b_Mo_encode 215 = .ok (.goto (4), 3) := by decide +kernel
theorem d_Mo_encode_218 : decode b_Mo_encode 218 = .ok (.iconst (-1), 1) := by decide +kernel
theorem d_Mo_encode_219 : decode b_Mo_encode 219 = .ok (.istore 8, 2) := by decide +kernel
theorem d_Mo_encode_221 : decode b_Mo_encode 221 = .ok (.goto (-40), 3) := by decide +kernel
theorem d_Mo_encode_224 : decode b_Mo_encode 224 = .ok (.aload_n 0, 1) := by decide +kernel
theorem d_Mo_encode_225 : decode b_Mo_encode 225 = .ok (.iload 6, 2) := by decide +kernel
theorem d_Mo_encode_227 : decode b_Mo_encode 227 = .ok (.invokevirtual 125, 3) := by decide +kernel
theorem d_Mo_encode_230 : decode b_Mo_encode 230 = .ok (.aload_n 0, 1) := by decide +kernel
theorem d_Mo_encode_231 : decode b_Mo_encode 231 = .ok (.invokevirtual 139, 3) := by decide +kernel
theorem d_Mo_encode_234 : decode b_Mo_encode 234 = .ok (.iload 7, 2) := by decide +kernel
theorem d_Mo_encode_236 : decode b_Mo_encode 236 = .ok (.aload_n 0, 1) := by decide +kernel
theorem d_Mo_encode_237 : decode b_Mo_encode 237 = .ok (.getfield 98, 3) := by decide +kernel
theorem d_Mo_encode_240 : decode b_Mo_encode 240 = .ok (.if_icmp .ge (16), 3) := by decide +kernel
theorem d_Mo_encode_243 : decode b_Mo_encode 243 = .ok (.aload_n 0, 1) := by decide +kernel
theorem d_Mo_encode_244 : decode b_Mo_encode 244 = .ok (.iload 6, 2) := by decide +kernel
theorem d_Mo_encode_246 : decode b_Mo_encode 246 = .ok (.aload_n 0, 1) := by decide +kernel
theorem d_Mo_encode_247 : decode b_Mo_encode 247 = .ok (.getfield 7, 3) := by decide +kernel
theorem d_Mo_encode_250 : decode b_Mo_encode 250 = .ok (.iload 7, 2) := by decide +kernel
theorem d_Mo_encode_252 : decode b_Mo_encode 252 = .ok (.iaload, 1) := by decide +kernel
theorem d_Mo_encode_253 : decode b_Mo_encode 253 = .ok (.invokevirtual 142, 3) := by decide +kernel
theorem d_Mo_encode_256 : decode b_Mo_encode 256 = .ok (.iload_n 2, 1) := by decide +kernel
theorem d_Mo_encode_257 : decode b_Mo_encode 257 = .ok (.iload 4, 2) := by decide +kernel
theorem d_Mo_encode_259 : decode b_Mo_encode 259 = .ok (.ifCond .eq (7), 3) := by decide +kernel
theorem d_Mo_encode_262 : decode b_Mo_encode 262 = .ok (.iconst (1), 1) := by decide +kernel
theorem d_Mo_encode_263 : decode b_Mo_encode 263 = .ok (.goto (4), 3) := by decide +kernel
theorem d_Mo_encode_266 : decode b_Mo_encode 266 = .ok (.iconst (0), 1) := by decide +kernel
theorem d_Mo_encode_267 : decode b_Mo_encode 267 = .ok (.iadd, 1) := by decide +kernel
theorem d_Mo_encode_268 : decode b_Mo_encode 268 = .ok (.istore_n 2, 1) := by decide +kernel
theorem d_Mo_encode_269 : decode b_Mo_encode 269 = .ok (.iload_n 3, 1) := by decide +kernel
theorem d_Mo_encode_270 : decode b_Mo_encode 270 = .ok (.iload 4, 2) := by decide +kernel
theorem d_Mo_encode_272 : decode b_Mo_encode 272 = .ok (.ifCond .eq (10), 3) := by decide +kernel
theorem d_Mo_encode_275 : decode b_Mo_encode 275 = .ok (.iload 7, 2) := by decide +kernel
theorem d_Mo_encode_277 : decode b_Mo_encode 277 = .ok (.iload_n 1, 1) := by decide +kernel
theorem d_Mo_encode_278 : decode b_Mo_encode 278 = .ok (.isub, 1) := by decide +kernel
theorem d_Mo_encode_279 : decode b_Mo_encode 279 = .ok (.goto (4), 3) := by decide +kernel
theorem d_Mo_encode_282 : decode b_Mo_encode 282 = .ok (.iconst (0), 1) := by decide +kernel
theorem d_Mo_encode_283 : decode b_Mo_encode 283 = .ok (.iadd, 1) := by decide +kernel
theorem d_Mo_encode_284 : decode b_Mo_encode 284 = .ok (.istore_n 3, 1) := by decide +kernel
theorem d_Mo_encode_285 : decode b_Mo_encode 285 = .ok (.iload 7, 2) := by decide +kernel
theorem d_Mo_encode_287 : decode b_Mo_encode 287 = .ok (.istore_n 1, 1) := by decide +kernel
theorem d_Mo_encode_288 : decode b_Mo_encode 288 = .ok (.goto (-244), 3) := by decide +kernel
theorem d_Mo_encode_291 : decode b_Mo_encode 291 = .ok (.aload_n 0, 1) := by decide +kernel
theorem d_Mo_encode_292 : decode b_Mo_encode 292 = .ok (.getfield 17, 3) := by decide +kernel
theorem d_Mo_encode_295 : decode b_Mo_encode 295 = .ok (.iconst (3), 1) := by decide +kernel
theorem d_Mo_encode_296 : decode b_Mo_encode 296 = .ok (.aload_n 0, 1) := by decide +kernel
theorem d_Mo_encode_297 : decode b_Mo_encode 297 = .ok (.getfield 113, 3) := by decide +kernel
theorem d_Mo_encode_300 : decode b_Mo_encode 300 = .ok (.aload_n 0, 1) := by decide +kernel
theorem d_Mo_encode_301 : decode b_Mo_encode 301 = .ok (.getfield 87, 3) := by decide +kernel
theorem d_Mo_encode_304 : decode b_Mo_encode 304 = .ok (.isub, 1) := by decide +kernel
theorem d_Mo_encode_305 : decode b_Mo_encode 305 = .ok (.iconst (1), 1) := by decide +kernel
theorem d_Mo_encode_306 : decode b_Mo_encode 306 = .ok (.isub, 1) := by decide +kernel
theorem d_Mo_encode_307 : decode b_Mo_encode 307 = .ok (.iastore, 1) := by decide +kernel
theorem d_Mo_encode_308 : decode b_Mo_encode 308 = .ok (.aload_n 0, 1) := by decide +kernel
theorem d_Mo_encode_309 : decode b_Mo_encode 309 = .ok (.aload_n 0, 1) := by decide +kernel
theorem d_Mo_encode_310 : decode b_Mo_encode 310 = .ok (.getfield 87, 3) := by decide +kernel
theorem d_Mo_encode_313 : decode b_Mo_encode 313 = .ok (.invokevirtual 125, 3) := by decide +kernel
theorem d_Mo_encode_316 : decode b_Mo_encode 316 = .ok (.aload_n 0, 1) := by decide +kernel
theorem d_Mo_encode_317 : decode b_Mo_encode 317 = .ok (.aload_n 0, 1) := by decide +kernel
theorem d_Mo_encode_318 : decode b_Mo_encode 318 = .ok (.getfield 122, 3) := by decide +kernel
theorem d_Mo_encode_321 : decode b_Mo_encode 321 = .ok (.bipush (7), 2) := by decide +kernel
theorem d_Mo_encode_323 : decode b_Mo_encode 323 = .ok (.iadd, 1) := by decide +kernel
theorem d_Mo_encode_324 : decode b_Mo_encode 324 = .ok (.bipush (8), 2) := by decide +kernel
theorem d_Mo_encode_326 : decode b_Mo_encode 326 = .ok (.idiv, 1) := by decide +kernel
theorem d_Mo_encode_327 : decode b_Mo_encode 327 = .ok (.putfield 101, 3) := by decide +kernel
theorem d_Mo_encode_330 : decode b_Mo_encode 330 = .ok (.aload_n 0, 1) := by decide +kernel
theorem d_Mo_encode_331 : decode b_Mo_encode 331 = .ok (.getfield 101, 3) := by decide +kernel
theorem d_Mo_encode_334 : decode b_Mo_encode 334 = .ok (.ireturn, 1) := by decide +kernel
theorem d_Mo_byteAt_0 : decode b_Mo_byteAt 0 = .ok (.aload_n 0, 1) := by decide +kernel
theorem d_Mo_byteAt_1 : decode b_Mo_byteAt 1 = .ok (.iload_n 1, 1) := by decide +kernel
theorem d_Mo_byteAt_2 : decode b_Mo_byteAt 2 = .ok (.ifCond .lt (11), 3) := by decide +kernel
theorem d_Mo_byteAt_5 : decode b_Mo_byteAt 5 = .ok (.iload_n 1, 1) := by decide +kernel
theorem d_Mo_byteAt_6 : decode b_Mo_byteAt 6 = .ok (.aload_n 0, 1) := by decide +kernel
theorem d_Mo_byteAt_7 : decode b_Mo_byteAt 7 = .ok (.getfield 101, 3) := by decide +kernel
theorem d_Mo_byteAt_10 : decode b_Mo_byteAt 10 = .ok (.if_icmp .lt (7), 3) := by decide +kernel
theorem d_Mo_byteAt_13 : decode b_Mo_byteAt 13 = .ok (.iconst (1), 1) := by decide +kernel
theorem d_Mo_byteAt_14 : decode b_Mo_byteAt 14 = .ok (.goto (4), 3) := by decide +kernel
theorem d_Mo_byteAt_17 : decode b_Mo_byteAt 17 = .ok (.iconst (0), 1) := by decide +kernel
theorem d_Mo_byteAt_18 : decode b_Mo_byteAt 18 = .ok (.putfield 92, 3) := by decide +kernel
theorem d_Mo_byteAt_21 : decode b_Mo_byteAt 21 = .ok (.aload_n 0, 1) := by decide +kernel
theorem d_Mo_byteAt_22 : decode b_Mo_byteAt 22 = .ok (.getfield 92, 3) := by decide +kernel
theorem d_Mo_byteAt_25 : decode b_Mo_byteAt 25 = .ok (.ifCond .le (7), 3) := by decide +kernel
theorem d_Mo_byteAt_28 : decode b_Mo_byteAt 28 = .ok (.iconst (0), 1) := by decide +kernel
theorem d_Mo_byteAt_29 : decode b_Mo_byteAt 29 = .ok (.goto (13), 3) := by decide +kernel
theorem d_Mo_byteAt_32 : decode b_Mo_byteAt 32 = .ok (.aload_n 0, 1) := by decide +kernel
theorem d_Mo_byteAt_33 : decode b_Mo_byteAt 33 = .ok (.getfield 13, 3) := by decide +kernel
theorem d_Mo_byteAt_36 : decode b_Mo_byteAt 36 = .ok (.iload_n 1, 1) := by decide +kernel
theorem d_Mo_byteAt_37 : decode b_Mo_byteAt 37 = .ok (.baload, 1) := by decide +kernel
theorem d_Mo_byteAt_38 : decode b_Mo_byteAt 38 = .ok (.sipush (255), 3) := by decide +kernel
theorem d_Mo_byteAt_41 : decode b_Mo_byteAt 41 = .ok (.iand, 1) := by decide +kernel
theorem d_Mo_byteAt_42 : decode b_Mo_byteAt 42 = .ok (.ireturn, 1) := by decide +kernel
theorem d_Mo_coded_0 : decode b_Mo_coded 0 = .ok (.aload_n 0, 1) := by decide +kernel
theorem d_Mo_coded_1 : decode b_Mo_coded 1 = .ok (.iconst (0), 1) := by decide +kernel
theorem d_Mo_coded_2 : decode b_Mo_coded 2 = .ok (.putfield 92, 3) := by decide +kernel
theorem d_Mo_coded_5 : decode b_Mo_coded 5 = .ok (.iload_n 1, 1) := by decide +kernel
theorem d_Mo_coded_6 : decode b_Mo_coded 6 = .ok (.ifCond .lt (8), 3) := by decide +kernel
theorem d_Mo_coded_9 : decode b_Mo_coded 9 = .ok (.iload_n 1, 1) := by decide +kernel
theorem d_Mo_coded_10 : decode b_Mo_coded 10 = .ok (.iconst (3), 1) := by decide +kernel
theorem d_Mo_coded_11 : decode b_Mo_coded 11 = .ok (.if_icmp .le (7), 3) := by decide +kernel
theorem d_Mo_coded_14 : decode b_Mo_coded 14 = .ok (.iconst (-1), 1) := by decide +kernel
theorem d_Mo_coded_15 : decode b_Mo_coded 15 = .ok (.goto (9), 3) := by decide +kernel
theorem d_Mo_coded_18 : decode b_Mo_coded 18 = .ok (.aload_n 0, 1) := by decide +kernel
theorem d_Mo_coded_19 : decode b_Mo_coded 19 = .ok (.getfield 17, 3) := by decide +kernel
theorem d_Mo_coded_22 : decode b_Mo_coded 22 = .ok (.iload_n 1, 1) := by decide +kernel
theorem d_Mo_coded_23 : decode b_Mo_coded 23 = .ok (.iaload, 1) := by decide +kernel
theorem d_Mo_coded_24 : decode b_Mo_coded 24 = .ok (.ireturn, 1) := by decide +kernel
end
section
theorem d_Mo_feed_0 : decode b_Mo_feed 0 = .ok (.aload_n 0, 1) := by decide +kernel
theorem d_Mo_feed_1 : decode b_Mo_feed 1 = .ok (.iload_n 1, 1) := by decide +kernel
theorem d_Mo_feed_2 : decode b_Mo_feed 2 = .ok (.ifCond .lt (10), 3) := by decide +kernel
theorem d_Mo_feed_5 : decode b_Mo_feed 5 = .ok (.iload_n 1, 1) := by decide +kernel
theorem d_Mo_feed_6 : decode b_Mo_feed 6 = .ok (.sipush (255), 3) := by decide +kernel
theorem d_Mo_feed_9 : decode b_Mo_feed 9 = .ok (.if_icmp .le (7), 3) := by decide +kernel
theorem d_Mo_feed_12 : decode b_Mo_feed 12 = .ok (.iconst (1), 1) := by decide +kernel
theorem d_Mo_feed_13 : decode b_Mo_feed 13 = .ok (.goto (18), 3) := by decide +kernel
theorem d_Mo_feed_16 : decode b_Mo_feed 16 = .ok (.aload_n 0, 1) := by decide +kernel
theorem d_Mo_feed_17 : decode b_Mo_feed 17 = .ok (.getfield 104, 3) := by decide +kernel
theorem d_Mo_feed_20 : decode b_Mo_feed 20 = .ok (.sipush (24000), 3) := by decide +kernel
theorem d_Mo_feed_23 : decode b_Mo_feed 23 = .ok (.if_icmp .ne (7), 3) := by decide +kernel
theorem d_Mo_feed_26 : decode b_Mo_feed 26 = .ok (.iconst (2), 1) := by decide +kernel
theorem d_Mo_feed_27 : decode b_Mo_feed 27 = .ok (.goto (4), 3) := by decide +kernel
theorem d_Mo_feed_30 : decode b_Mo_feed 30 = .ok (.iconst (0), 1) := by decide +kernel
theorem d_Mo_feed_31 : decode b_Mo_feed 31 = .ok (.putfield 92, 3) := by decide +kernel
theorem d_Mo_feed_34 : decode b_Mo_feed 34 = .ok (.aload_n 0, 1) := by decide +kernel
theorem d_Mo_feed_35 : decode b_Mo_feed 35 = .ok (.getfield 92, 3) := by decide +kernel
theorem d_Mo_feed_38 : decode b_Mo_feed 38 = .ok (.ifCond .le (5), 3) := by decide +kernel
theorem d_Mo_feed_41 : decode b_Mo_feed 41 = .ok (.iconst (0), 1) := by decide +kernel
theorem d_Mo_feed_42 : decode b_Mo_feed 42 = .ok (.ireturn, 1) := by decide +kernel
theorem d_Mo_feed_43 : decode b_Mo_feed 43 = .ok (.aload_n 0, 1) := by decide +kernel
theorem d_Mo_feed_44 : decode b_Mo_feed 44 = .ok (.getfield 20, 3) := by decide +kernel
theorem d_Mo_feed_47 : decode b_Mo_feed 47 = .ok (.aload_n 0, 1) := by decide +kernel
theorem d_Mo_feed_48 : decode b_Mo_feed 48 = .ok (.getfield 104, 3) := by decide +kernel
theorem d_Mo_feed_51 : decode b_Mo_feed 51 = .ok (.iload_n 1, 1) := by decide +kernel
theorem d_Mo_feed_52 : decode b_Mo_feed 52 = .ok (.i2b, 1) := by decide +kernel
theorem d_Mo_feed_53 : decode b_Mo_feed 53 = .ok (.bastore, 1) := by decide +kernel
theorem d_Mo_feed_54 : decode b_Mo_feed 54 = .ok (.aload_n 0, 1) := by decide +kernel
theorem d_Mo_feed_55 : decode b_Mo_feed 55 = .ok (.dup, 1) := by decide +kernel
theorem d_Mo_feed_56 : decode b_Mo_feed 56 = .ok (.getfield 104, 3) := by decide +kernel
theorem d_Mo_feed_59 : decode b_Mo_feed 59 = .ok (.iconst (1), 1) := by decide +kernel
theorem d_Mo_feed_60 : decode b_Mo_feed 60 = .ok (.iadd, 1) := by decide +kernel
theorem d_Mo_feed_61 : decode b_Mo_feed 61 = .ok (.putfield 104, 3) := by decide +kernel
theorem d_Mo_feed_64 : decode b_Mo_feed 64 = .ok (.aload_n 0, 1) := by decide +kernel
theorem d_Mo_feed_65 : decode b_Mo_feed 65 = .ok (.getfield 104, 3) := by decide +kernel
theorem d_Mo_feed_68 : decode b_Mo_feed 68 = .ok (.ireturn, 1) := by decide +kernel
theorem d_Mo_pass_0 : decode b_Mo_pass 0 = .ok (.iload_n 1, 1) := by decide +kernel
theorem d_Mo_pass_1 : decode b_Mo_pass 1 = .ok (.ifCond .lt (15), 3) := by decide +kernel
theorem d_Mo_pass_4 : decode b_Mo_pass 4 = .ok (.iload_n 1, 1) := by decide +kernel
theorem d_Mo_pass_5 : decode b_Mo_pass 5 = .ok (.aload_n 0, 1) := by decide +kernel
theorem d_Mo_pass_6 : decode b_Mo_pass 6 = .ok (.getfield 101, 3) := by decide +kernel
theorem d_Mo_pass_9 : decode b_Mo_pass 9 = .ok (.if_icmp .ge (7), 3) := by decide +kernel
theorem d_Mo_pass_12 : decode b_Mo_pass 12 = .ok (.iconst (1), 1) := by decide +kernel
theorem d_Mo_pass_13 : decode b_Mo_pass 13 = .ok (.goto (4), 3) := by decide +kernel
theorem d_Mo_pass_16 : decode b_Mo_pass 16 = .ok (.iconst (0), 1) := by decide +kernel
theorem d_Mo_pass_17 : decode b_Mo_pass 17 = .ok (.istore_n 3, 1) := by decide +kernel
theorem d_Mo_pass_18 : decode b_Mo_pass 18 = .ok (.iload_n 3, 1) := by decide +kernel
theorem d_Mo_pass_19 : decode b_Mo_pass 19 = .ok (.ifCond .eq (22), 3) := by decide +kernel
theorem d_Mo_pass_22 : decode b_Mo_pass 22 = .ok (.iload_n 2, 1) := by decide +kernel
theorem d_Mo_pass_23 : decode b_Mo_pass 23 = .ok (.aload_n 0, 1) := by decide +kernel
theorem d_Mo_pass_24 : decode b_Mo_pass 24 = .ok (.getfield 101, 3) := by decide +kernel
theorem d_Mo_pass_27 : decode b_Mo_pass 27 = .ok (.iload_n 1, 1) := by decide +kernel
theorem d_Mo_pass_28 : decode b_Mo_pass 28 = .ok (.isub, 1) := by decide +kernel
theorem d_Mo_pass_29 : decode b_Mo_pass 29 = .ok (.if_icmp .le (12), 3) := by decide +kernel
theorem d_Mo_pass_32 : decode b_Mo_pass 32 = .ok (.aload_n 0, 1) := by decide +kernel
theorem d_Mo_pass_33 : decode b_Mo_pass 33 = .ok (.getfield 101, 3) := by decide +kernel
theorem d_Mo_pass_36 : decode b_Mo_pass 36 = .ok (.iload_n 1, 1) := by decide +kernel
theorem d_Mo_pass_37 : decode b_Mo_pass 37 = .ok (.isub, 1) := by decide +kernel
theorem d_Mo_pass_38 : decode b_Mo_pass 38 = .ok (.goto (4), 3) := by decide +kernel
theorem d_Mo_pass_41 : decode b_Mo_pass 41 = .ok (.iload_n 2, 1) := by decide +kernel
theorem d_Mo_pass_42 : decode b_Mo_pass 42 = .ok (.istore 4, 2) := by decide +kernel
theorem d_Mo_pass_44 : decode b_Mo_pass 44 = .ok (.aload_n 0, 1) := by decide +kernel
theorem d_Mo_pass_45 : decode b_Mo_pass 45 = .ok (.iload_n 3, 1) := by decide +kernel
theorem d_Mo_pass_46 : decode b_Mo_pass 46 = .ok (.ifCond .ne (7), 3) := by decide +kernel
theorem d_Mo_pass_49 : decode b_Mo_pass 49 = .ok (.iconst (1), 1) := by decide +kernel
theorem d_Mo_pass_50 : decode b_Mo_pass 50 = .ok (.goto (29), 3) := by decide +kernel
theorem d_Mo_pass_53 : decode b_Mo_pass 53 = .ok (.iload_n 2, 1) := by decide +kernel
theorem d_Mo_pass_54 : decode b_Mo_pass 54 = .ok (.ifCond .ge (7), 3) := by decide +kernel
theorem d_Mo_pass_57 : decode b_Mo_pass 57 = .ok (.iconst (2), 1) := by decide +kernel
theorem d_Mo_pass_58 : decode b_Mo_pass 58 = .ok (.goto (21), 3) := by decide +kernel
theorem d_Mo_pass_61 : decode b_Mo_pass 61 = .ok (.aload_n 0, 1) := by decide +kernel
theorem d_Mo_pass_62 : decode b_Mo_pass 62 = .ok (.getfield 104, 3) := by decide +kernel
theorem d_Mo_pass_65 : decode b_Mo_pass 65 = .ok (.iload 4, 2) := by decide +kernel
theorem d_Mo_pass_67 : decode b_Mo_pass 67 = .ok (.iadd, 1) := by decide +kernel
theorem d_Mo_pass_68 : decode b_Mo_pass 68 = .ok (.sipush (24000), 3) := by decide +kernel
theorem d_Mo_pass_71 : decode b_Mo_pass 71 = .ok (.if_icmp .le (7), 3) := by decide +kernel
theorem d_Mo_pass_74 : decode b_Mo_pass 74 = .ok (.iconst (3), 1) := by decide +kernel
theorem d_Mo_pass_75 : decode b_Mo_pass 75 = .ok (.goto (4), 3) := by decide +kernel
theorem d_Mo_pass_78 : decode b_Mo_pass 78 = .ok (.iconst (0), 1) := by decide +kernel
theorem d_Mo_pass_79 : decode b_Mo_pass 79 = .ok (.putfield 92, 3) := by decide +kernel
theorem d_Mo_pass_82 : decode b_Mo_pass 82 = .ok (.aload_n 0, 1) := by decide +kernel
theorem d_Mo_pass_83 : decode b_Mo_pass 83 = .ok (.getfield 92, 3) := by decide +kernel
theorem d_Mo_pass_86 : decode b_Mo_pass 86 = .ok (.ifCond .le (5), 3) := by decide +kernel
theorem d_Mo_pass_89 : decode b_Mo_pass 89 = .ok (.iconst (0), 1) := by decide +kernel
theorem d_Mo_pass_90 : decode b_Mo_pass 90 = .ok (.ireturn, 1) := by decide +kernel
theorem d_Mo_pass_91 : decode b_Mo_pass 91 = .ok (.iconst (0), 1) := by decide +kernel
theorem d_Mo_pass_92 : decode b_Mo_pass 92 = .ok (.istore 5, 2) := by decide +kernel
theorem d_Mo_pass_94 : decode b_Mo_pass 94 = .ok (.iload 5, 2) := by decide +kernel
theorem d_Mo_pass_96 : decode b_Mo_pass 96 = .ok (.iload 4, 2) := by decide +kernel
theorem d_Mo_pass_98 : decode b_Mo_pass 98 = .ok (.if_icmp .ge (37), 3) := by decide +kernel
theorem d_Mo_pass_101 : decode b_Mo_pass 101 = .ok (.aload_n 0, 1) := by decide +kernel
theorem d_Mo_pass_102 : decode b_Mo_pass 102 = .ok (.getfield 20, 3) := by decide +kernel
theorem d_Mo_pass_105 : decode b_Mo_pass 105 = .ok (.aload_n 0, 1) := by decide +kernel
theorem d_Mo_pass_106 : decode b_Mo_pass 106 = .ok (.getfield 104, 3) := by decide +kernel
theorem d_Mo_pass_109 : decode b_Mo_pass 109 = .ok (.aload_n 0, 1) := by decide +kernel
theorem d_Mo_pass_110 : decode b_Mo_pass 110 = .ok (.getfield 13, 3) := by decide +kernel
theorem d_Mo_pass_113 : decode b_Mo_pass 113 = .ok (.iload_n 1, 1) := by decide +kernel
theorem d_Mo_pass_114 : decode b_Mo_pass 114 = .ok (.iload 5, 2) := by decide +kernel
theorem d_Mo_pass_116 : decode b_Mo_pass 116 = .ok (.iadd, 1) := by decide +kernel
theorem d_Mo_pass_117 : decode b_Mo_pass 117 = .ok (.baload, 1) := by decide +kernel
theorem d_Mo_pass_118 : decode b_Mo_pass 118 = .ok (.bastore, 1) := by decide +kernel
theorem d_Mo_pass_119 : decode b_Mo_pass 119 = .ok (.aload_n 0, 1) := by decide +kernel
theorem d_Mo_pass_120 : decode b_Mo_pass 120 = .ok (.dup, 1) := by decide +kernel
theorem d_Mo_pass_121 : decode b_Mo_pass 121 = .ok (.getfield 104, 3) := by decide +kernel
theorem d_Mo_pass_124 : decode b_Mo_pass 124 = .ok (.iconst (1), 1) := by decide +kernel
theorem d_Mo_pass_125 : decode b_Mo_pass 125 = .ok (.iadd, 1) := by decide +kernel
theorem d_Mo_pass_126 : decode b_Mo_pass 126 = .ok (.putfield 104, 3) := by decide +kernel
theorem d_Mo_pass_129 : decode b_Mo_pass 129 = .ok (.iinc 5 (1), 3) := by decide +kernel
theorem d_Mo_pass_132 : decode b_Mo_pass 132 = .ok (.goto (-38), 3) := by decide +kernel
theorem d_Mo_pass_135 : decode b_Mo_pass 135 = .ok (.iload 4, 2) := by decide +kernel
theorem d_Mo_pass_137 : decode b_Mo_pass 137 = .ok (.ireturn, 1) := by decide +kernel
theorem d_Mo_nextCode_0 : decode b_Mo_nextCode 0 = .ok (.iconst (0), 1) := by decide +kernel
theorem d_Mo_nextCode_1 : decode b_Mo_nextCode 1 = .ok (.istore_n 1, 1) := by decide +kernel
theorem d_Mo_nextCode_2 : decode b_Mo_nextCode 2 = .ok (.iconst (0), 1) := by decide +kernel
theorem d_Mo_nextCode_3 : decode b_Mo_nextCode 3 = .ok (.istore_n 2, 1) := by decide +kernel
theorem d_Mo_nextCode_4 : decode b_Mo_nextCode 4 = .ok (.iload_n 2, 1) := by decide +kernel
theorem d_Mo_nextCode_5 : decode b_Mo_nextCode 5 = .ok (.aload_n 0, 1) := by decide +kernel
theorem d_Mo_nextCode_6 : decode b_Mo_nextCode 6 = .ok (.getfield 116, 3) := by decide +kernel
theorem d_Mo_nextCode_9 : decode b_Mo_nextCode 9 = .ok (.if_icmp .ge (46), 3) := by decide +kernel
theorem d_Mo_nextCode_12 : decode b_Mo_nextCode 12 = .ok (.iload_n 1, 1) := by decide +kernel
theorem d_Mo_nextCode_13 : decode b_Mo_nextCode 13 = .ok (.aload_n 0, 1) := by decide +kernel
theorem d_Mo_nextCode_14 : decode b_Mo_nextCode 14 = .ok (.getfield 20, 3) := by decide +kernel
theorem d_Mo_nextCode_17 : decode b_Mo_nextCode 17 = .ok (.aload_n 0, 1) := by decide +kernel
theorem d_Mo_nextCode_18 : decode b_Mo_nextCode 18 = .ok (.getfield 122, 3) := by decide +kernel
theorem d_Mo_nextCode_21 : decode b_Mo_nextCode 21 = .ok (.bipush (8), 2) := by decide +kernel
theorem d_Mo_nextCode_23 : decode b_Mo_nextCode 23 = .ok (.idiv, 1) := by decide +kernel
theorem d_Mo_nextCode_24 : decode b_Mo_nextCode 24 = .ok (.baload, 1) := by decide +kernel
theorem d_Mo_nextCode_25 : decode b_Mo_nextCode 25 = .ok (.aload_n 0, 1) := by decide +kernel
theorem d_Mo_nextCode_26 : decode b_Mo_nextCode 26 = .ok (.getfield 122, 3) := by decide +kernel
theorem d_Mo_nextCode_29 : decode b_Mo_nextCode 29 = .ok (.bipush (8), 2) := by decide +kernel
theorem d_Mo_nextCode_31 : decode b_Mo_nextCode 31 = .ok (.irem, 1) := by decide +kernel
theorem d_Mo_nextCode_32 : decode b_Mo_nextCode 32 = .ok (.ishr, 1) := by decide +kernel
theorem d_Mo_nextCode_33 : decode b_Mo_nextCode 33 = .ok (.iconst (1), 1) := by decide +kernel
theorem d_Mo_nextCode_34 : decode b_Mo_nextCode 34 = .ok (.iand, 1) := by decide +kernel
theorem d_Mo_nextCode_35 : decode b_Mo_nextCode 35 = .ok (.iload_n 2, 1) := by decide +kernel
theorem d_Mo_nextCode_36 : decode b_Mo_nextCode 36 = .ok (.ishl, 1) := by decide +kernel
theorem d_Mo_nextCode_37 : decode b_Mo_nextCode 37 = .ok (.ior, 1) := by decide +kernel
theorem d_Mo_nextCode_38 : decode b_Mo_nextCode 38 = .ok (.istore_n 1, 1) := by decide +kernel
theorem d_Mo_nextCode_39 : decode b_Mo_nextCode 39 = .ok (.aload_n 0, 1) := by decide +kernel
theorem d_Mo_nextCode_40 : decode b_Mo_nextCode 40 = .ok (.dup, 1) := by decide +kernel
theorem d_Mo_nextCode_41 : decode b_Mo_nextCode 41 = .ok (.getfield 122, 3) := by decide +kernel
theorem d_Mo_nextCode_44 : decode b_Mo_nextCode 44 = .ok (.iconst (1), 1) := by decide +kernel
theorem d_Mo_nextCode_45 : decode b_Mo_nextCode 45 = .ok (.iadd, 1) := by decide +kernel
theorem d_Mo_nextCode_46 : decode b_Mo_nextCode 46 = .ok (.putfield 122, 3) := by decide +kernel
theorem d_Mo_nextCode_49 : decode b_Mo_nextCode 49 = .ok (.iinc 2 (1), 3) := by decide +kernel
theorem d_Mo_nextCode_52 : decode b_Mo_nextCode 52 = .ok (.goto (-48), 3) := by decide +kernel
theorem d_Mo_nextCode_55 : decode b_Mo_nextCode 55 = .ok (.iload_n 1, 1) := by decide +kernel
theorem d_Mo_nextCode_56 : decode b_Mo_nextCode 56 = .ok (.ireturn, 1) := by decide +kernel
theorem d_Mo_firstOf_0 : decode b_Mo_firstOf 0 = .ok (.iload_n 1, 1) := by decide +kernel
theorem d_Mo_firstOf_1 : decode b_Mo_firstOf 1 = .ok (.istore_n 2, 1) := by decide +kernel
theorem d_Mo_firstOf_2 : decode b_Mo_firstOf 2 = .ok (.aload_n 0, 1) := by decide +kernel
theorem d_Mo_firstOf_3 : decode b_Mo_firstOf 3 = .ok (.getfield 26, 3) := by decide +kernel
theorem d_Mo_firstOf_6 : decode b_Mo_firstOf 6 = .ok (.iload_n 2, 1) := by decide +kernel
theorem d_Mo_firstOf_7 : decode b_Mo_firstOf 7 = .ok (.iaload, 1) := by decide +kernel
theorem d_Mo_firstOf_8 : decode b_Mo_firstOf 8 = .ok (.ifCond .lt (13), 3) := by decide +kernel
theorem d_Mo_firstOf_11 : decode b_Mo_firstOf 11 = .ok (.aload_n 0, 1) := by decide +kernel
theorem d_Mo_firstOf_12 : decode b_Mo_firstOf 12 = .ok (.getfield 26, 3) := by decide +kernel
theorem d_Mo_firstOf_15 : decode b_Mo_firstOf 15 = .ok (.iload_n 2, 1) := by decide +kernel
theorem d_Mo_firstOf_16 : decode b_Mo_firstOf 16 = .ok (.iaload, 1) := by decide +kernel
theorem d_Mo_firstOf_17 : decode b_Mo_firstOf 17 = .ok (.istore_n 2, 1) := by decide +kernel
theorem d_Mo_firstOf_18 : decode b_Mo_firstOf 18 = .ok (.goto (-16), 3) := by decide +kernel
theorem d_Mo_firstOf_21 : decode b_Mo_firstOf 21 = .ok (.aload_n 0, 1) := by decide +kernel
theorem d_Mo_firstOf_22 : decode b_Mo_firstOf 22 = .ok (.getfield 29, 3) := by decide +kernel
theorem d_Mo_firstOf_25 : decode b_Mo_firstOf 25 = .ok (.iload_n 2, 1) := by decide +kernel
theorem d_Mo_firstOf_26 : decode b_Mo_firstOf 26 = .ok (.iaload, 1) := by decide +kernel
theorem d_Mo_firstOf_27 : decode b_Mo_firstOf 27 = .ok (.ireturn, 1) := by decide +kernel
theorem d_Mo_spell_0 : decode b_Mo_spell 0 = .ok (.iload_n 1, 1) := by decide +kernel
theorem d_Mo_spell_1 : decode b_Mo_spell 1 = .ok (.istore_n 2, 1) := by decide +kernel
theorem d_Mo_spell_2 : decode b_Mo_spell 2 = .ok (.aload_n 0, 1) := by decide +kernel
theorem d_Mo_spell_3 : decode b_Mo_spell 3 = .ok (.getfield 107, 3) := by decide +kernel
theorem d_Mo_spell_6 : decode b_Mo_spell 6 = .ok (.aload_n 0, 1) := by decide +kernel
theorem d_Mo_spell_7 : decode b_Mo_spell 7 = .ok (.getfield 32, 3) := by decide +kernel
theorem d_Mo_spell_10 : decode b_Mo_spell 10 = .ok (.iload_n 1, 1) := by decide +kernel
theorem d_Mo_spell_11 : decode b_Mo_spell 11 = .ok (.iaload, 1) := by decide +kernel
theorem d_Mo_spell_12 : decode b_Mo_spell 12 = .ok (.iadd, 1) := by decide +kernel
theorem d_Mo_spell_13 : decode b_Mo_spell 13 = .ok (.iconst (1), 1) := by decide +kernel
theorem d_Mo_spell_14 : decode b_Mo_spell 14 = .ok (.isub, 1) := by decide +kernel
theorem d_Mo_spell_15 : decode b_Mo_spell 15 = .ok (.istore_n 3, 1) := by decide +kernel
theorem d_Mo_spell_16 : decode b_Mo_spell 16 = .ok (.iload_n 3, 1) := by decide +kernel
theorem d_Mo_spell_17 : decode b_Mo_spell 17 = .ok (.aload_n 0, 1) := by decide +kernel
theorem d_Mo_spell_18 : decode b_Mo_spell 18 = .ok (.getfield 107, 3) := by decide +kernel
theorem d_Mo_spell_21 : decode b_Mo_spell 21 = .ok (.if_icmp .lt (28), 3) := by decide +kernel
theorem d_Mo_spell_24 : decode b_Mo_spell 24 = .ok (.aload_n 0, 1) := by decide +kernel
theorem d_Mo_spell_25 : decode b_Mo_spell 25 = .ok (.getfield 23, 3) := by decide +kernel
theorem d_Mo_spell_28 : decode b_Mo_spell 28 = .ok (.iload_n 3, 1) := by decide +kernel
theorem d_Mo_spell_29 : decode b_Mo_spell 29 = .ok (.aload_n 0, 1) := by decide +kernel
theorem d_Mo_spell_30 : decode b_Mo_spell 30 = .ok (.getfield 29, 3) := by decide +kernel
theorem d_Mo_spell_33 : decode b_Mo_spell 33 = .ok (.iload_n 2, 1) := by decide +kernel
theorem d_Mo_spell_34 : decode b_Mo_spell 34 = .ok (.iaload, 1) := by decide +kernel
theorem d_Mo_spell_35 : decode b_Mo_spell 35 = .ok (.iastore, 1) := by decide +kernel
theorem d_Mo_spell_36 : decode b_Mo_spell 36 = .ok (.aload_n 0, 1) := by decide +kernel
theorem d_Mo_spell_37 : decode b_Mo_spell 37 = .ok (.getfield 26, 3) := by decide +kernel
theorem d_Mo_spell_40 : decode b_Mo_spell 40 = .ok (.iload_n 2, 1) := by decide +kernel
theorem d_Mo_spell_41 : decode b_Mo_spell 41 = .ok (.iaload, 1) := by decide +kernel
theorem d_Mo_spell_42 : decode b_Mo_spell 42 = .ok (.istore_n 2, 1) := by decide +kernel
theorem d_Mo_spell_43 : decode b_Mo_spell 43 = .ok (.iinc 3 (-1), 3) := by decide +kernel
theorem d_Mo_spell_46 : decode b_Mo_spell 46 = .ok (.goto (-30), 3) := by decide +kernel
theorem d_Mo_spell_49 : decode b_Mo_spell 49 = .ok (.aload_n 0, 1) := by decide +kernel
theorem d_Mo_spell_50 : decode b_Mo_spell 50 = .ok (.dup, 1) := by decide +kernel
theorem d_Mo_spell_51 : decode b_Mo_spell 51 = .ok (.getfield 107, 3) := by decide +kernel
theorem d_Mo_spell_54 : decode b_Mo_spell 54 = .ok (.aload_n 0, 1) := by decide +kernel
theorem d_Mo_spell_55 : decode b_Mo_spell 55 = .ok (.getfield 32, 3) := by decide +kernel
theorem d_Mo_spell_58 : decode b_Mo_spell 58 = .ok (.iload_n 1, 1) := by decide +kernel
theorem d_Mo_spell_59 : decode b_Mo_spell 59 = .ok (.iaload, 1) := by decide +kernel
theorem d_Mo_spell_60 : decode b_Mo_spell 60 = .ok (.iadd, 1) := by decide +kernel
theorem d_Mo_spell_61 : decode b_Mo_spell 61 = .ok (.putfield 107, 3) := by decide +kernel
theorem d_Mo_spell_64 : decode b_Mo_spell 64 = .ok (.return_, 1) := by decide +kernel
theorem d_Mo_decode_0 : decode b_Mo_decode 0 = .ok (.aload_n 0, 1) := by decide +kernel
theorem d_Mo_decode_1 : decode b_Mo_decode 1 = .ok (.iconst (0), 1) := by decide +kernel
theorem d_Mo_decode_2 : decode b_Mo_decode 2 = .ok (.putfield 92, 3) := by decide +kernel
theorem d_Mo_decode_5 : decode b_Mo_decode 5 = .ok (.aload_n 0, 1) := by decide +kernel
theorem d_Mo_decode_6 : decode b_Mo_decode 6 = .ok (.iconst (0), 1) := by decide +kernel
theorem d_Mo_decode_7 : decode b_Mo_decode 7 = .ok (.putfield 122, 3) := by decide +kernel
theorem d_Mo_decode_10 : decode b_Mo_decode 10 = .ok (.aload_n 0, 1) := by decide +kernel
theorem d_Mo_decode_11 : decode b_Mo_decode 11 = .ok (.iconst (0), 1) := by decide +kernel
theorem d_Mo_decode_12 : decode b_Mo_decode 12 = .ok (.putfield 107, 3) := by decide +kernel
theorem d_Mo_decode_15 : decode b_Mo_decode 15 = .ok (.aload_n 0, 1) := by decide +kernel
theorem d_Mo_decode_16 : decode b_Mo_decode 16 = .ok (.invokevirtual 129, 3) := by decide +kernel
theorem d_Mo_decode_19 : decode b_Mo_decode 19 = .ok (.iconst (-1), 1) := by decide +kernel
theorem d_Mo_decode_20 : decode b_Mo_decode 20 = .ok (.istore_n 1, 1) := by decide +kernel
theorem d_Mo_decode_21 : decode b_Mo_decode 21 = .ok (.iconst (-1), 1) := by decide +kernel
theorem d_Mo_decode_22 : decode b_Mo_decode 22 = .ok (.istore_n 2, 1) := by decide +kernel
theorem d_Mo_decode_23 : decode b_Mo_decode 23 = .ok (.iconst (1), 1) := by decide +kernel
theorem d_Mo_decode_24 : decode b_Mo_decode 24 = .ok (.istore_n 3, 1) := by decide +kernel
theorem d_Mo_decode_25 : decode b_Mo_decode 25 = .ok (.iload_n 3, 1) := by decide +kernel
theorem d_Mo_decode_26 : decode b_Mo_decode 26 = .ok (.ifCond .eq (190), 3) := by decide +kernel
theorem d_Mo_decode_29 : decode b_Mo_decode 29 = .ok (.aload_n 0, 1) := by decide +kernel
theorem d_Mo_decode_30 : decode b_Mo_decode 30 = .ok (.getfield 122, 3) := by decide +kernel
theorem d_Mo_decode_33 : decode b_Mo_decode 33 = .ok (.aload_n 0, 1) := by decide +kernel
theorem d_Mo_decode_34 : decode b_Mo_decode 34 = .ok (.getfield 116, 3) := by decide +kernel
theorem d_Mo_decode_37 : decode b_Mo_decode 37 = .ok (.iadd, 1) := by decide +kernel
theorem d_Mo_decode_38 : decode b_Mo_decode 38 = .ok (.bipush (8), 2) := by decide +kernel
theorem d_Mo_decode_40 : decode b_Mo_decode 40 = .ok (.aload_n 0, 1) := by decide +kernel
theorem d_Mo_decode_41 : decode b_Mo_decode 41 = .ok (.getfield 104, 3) := by decide +kernel
theorem d_Mo_decode_44 : decode b_Mo_decode 44 = .ok (.imul, 1) := by decide +kernel
theorem d_Mo_decode_45 : decode b_Mo_decode 45 = .ok (.if_icmp .gt (171), 3) := by decide +kernel
theorem d_Mo_decode_48 : decode b_Mo_decode 48 = .ok (.aload_n 0, 1) := by decide +kernel
theorem d_Mo_decode_49 : decode b_Mo_decode 49 = .ok (.invokevirtual 146, 3) := by decide +kernel
theorem d_Mo_decode_52 : decode b_Mo_decode 52 = .ok (.istore 4, 2) := by decide +kernel
theorem d_Mo_decode_54 : decode b_Mo_decode 54 = .ok (.iload 4, 2) := by decide +kernel
theorem d_Mo_decode_56 : decode b_Mo_decode 56 = .ok (.aload_n 0, 1) := by decide +kernel
theorem d_Mo_decode_57 : decode b_Mo_decode 57 = .ok (.getfield 84, 3) := by decide +kernel
theorem d_Mo_decode_60 : decode b_Mo_decode 60 = .ok (.if_icmp .ne (12), 3) := by decide +kernel
theorem d_Mo_decode_63 : decode b_Mo_decode 63 = .ok (.aload_n 0, 1) := by decide +kernel
theorem d_Mo_decode_64 : decode b_Mo_decode 64 = .ok (.invokevirtual 129, 3) := by decide +kernel
theorem d_Mo_decode_67 : decode b_Mo_decode 67 = .ok (.iconst (-1), 1) := by decide +kernel
theorem d_Mo_decode_68 : decode b_Mo_decode 68 = .ok (.istore_n 1, 1) := by decide +kernel
theorem d_Mo_decode_69 : decode b_Mo_decode 69 = .ok (.goto (144), 3) := by decide +kernel
theorem d_Mo_decode_72 : decode b_Mo_decode 72 = .ok (.iload 4, 2) := by decide +kernel
theorem d_Mo_decode_74 : decode b_Mo_decode 74 = .ok (.aload_n 0, 1) := by decide +kernel
theorem d_Mo_decode_75 : decode b_Mo_decode 75 = .ok (.getfield 87, 3) := by decide +kernel
theorem d_Mo_decode_78 : decode b_Mo_decode 78 = .ok (.if_icmp .ne (8), 3) := by decide +kernel
theorem d_Mo_decode_81 : decode b_Mo_decode 81 = .ok (.iconst (0), 1) := by decide +kernel
theorem d_Mo_decode_82 : decode b_Mo_decode 82 = .ok (.istore_n 3, 1) := by decide +kernel
theorem d_Mo_decode_83 : decode b_Mo_decode 83 = .ok (.goto (130), 3) := by decide +kernel
theorem d_Mo_decode_86 : decode b_Mo_decode 86 = .ok (.iload 4, 2) := by decide +kernel
theorem d_Mo_decode_88 : decode b_Mo_decode 88 = .ok (.aload_n 0, 1) := by decide +kernel
theorem d_Mo_decode_89 : decode b_Mo_decode 89 = .ok (.getfield 113, 3) := by decide +kernel
theorem d_Mo_decode_92 : decode b_Mo_decode 92 = .ok (.if_icmp .ne (11), 3) := by decide +kernel
theorem d_Mo_decode_95 : decode b_Mo_decode 95 = .ok (.iload_n 1, 1) := by decide +kernel
theorem d_Mo_decode_96 : decode b_Mo_decode 96 = .ok (.ifCond .lt (7), 3) := by decide +kernel
theorem d_Mo_decode_99 : decode b_Mo_decode 99 = .ok (.iconst (1), 1) := by decide +kernel
theorem d_Mo_decode_100 : decode b_Mo_decode 100 = .ok (.goto (4), 3) := by decide +kernel
theorem d_Mo_decode_103 : decode b_Mo_decode 103 = .ok (.iconst (0), 1) := by decide +kernel
theorem d_Mo_decode_104 : decode b_Mo_decode 104 = .ok (.istore 5, 2) := by decide +kernel
theorem d_Mo_decode_106 : decode b_Mo_decode 106 = .ok (.iload 4, 2) := by decide +kernel
theorem d_Mo_decode_108 : decode b_Mo_decode 108 = .ok (.aload_n 0, 1) := by decide +kernel
theorem d_Mo_decode_109 : decode b_Mo_decode 109 = .ok (.getfield 113, 3) := by decide +kernel
theorem d_Mo_decode_112 : decode b_Mo_decode 112 = .ok (.if_icmp .lt (16), 3) := by decide +kernel
theorem d_Mo_decode_115 : decode b_Mo_decode 115 = .ok (.iload 5, 2) := by decide +kernel
theorem d_Mo_decode_117 : decode b_Mo_decode 117 = .ok (.ifCond .ne (11), 3) := by decide +kernel
theorem d_Mo_decode_120 : decode b_Mo_decode 120 = .ok (.iload 4, 2) := by decide +kernel
theorem d_Mo_decode_122 : decode b_Mo_decode 122 = .ok (.istore_n 2, 1) := by decide +kernel
theorem d_Mo_decode_123 : decode b_Mo_decode 123 = .ok (.iconst (0), 1) := by decide +kernel
theorem d_Mo_decode_124 : decode b_Mo_decode 124 = .ok (.istore_n 3, 1) := by decide +kernel
theorem d_Mo_decode_125 : decode b_Mo_decode 125 = .ok (.goto (88), 3) := by decide +kernel
theorem d_Mo_decode_128 : decode b_Mo_decode 128 = .ok (.iload 5, 2) := by decide +kernel
theorem d_Mo_decode_130 : decode b_Mo_decode 130 = .ok (.ifCond .eq (14), 3) := by decide +kernel
theorem d_Mo_decode_133 : decode b_Mo_decode 133 = .ok (.aload_n 0, 1) := by decide +kernel
theorem d_Mo_decode_134 : decode b_Mo_decode 134 = .ok (.getfield 32, 3) := by decide +kernel
theorem d_Mo_decode_137 : decode b_Mo_decode 137 = .ok (.iload_n 1, 1) := by decide +kernel
theorem d_Mo_decode_138 : decode b_Mo_decode 138 = .ok (.iaload, 1) := by decide +kernel
theorem d_Mo_decode_139 : decode b_Mo_decode 139 = .ok (.iconst (1), 1) := by decide +kernel
theorem d_Mo_decode_140 : decode b_Mo_decode 140 = .ok (.iadd, 1) := by decide +kernel
theorem d_Mo_decode_141 : decode b_Mo_decode 141 = .ok (.goto (10), 3) := by decide +kernel
theorem d_Mo_decode_144 : decode b_Mo_decode 144 = .ok (.aload_n 0, 1) := by decide +kernel
theorem d_Mo_decode_145 : decode b_Mo_decode 145 = .ok (.getfield 32, 3) := by decide +kernel
theorem d_Mo_decode_148 : decode b_Mo_decode 148 = .ok (.iload 4, 2) := by decide +kernel
theorem d_Mo_decode_150 : decode b_Mo_decode 150 = .ok (.iaload, 1) := by decide +kernel
theorem d_Mo_decode_151 : decode b_Mo_decode 151 = .ok (.istore 6, 2) := by decide +kernel
theorem d_Mo_decode_153 : decode b_Mo_decode 153 = .ok (.aload_n 0, 1) := by decide +kernel
theorem d_Mo_decode_154 : decode b_Mo_decode 154 = .ok (.getfield 107, 3) := by decide +kernel
theorem d_Mo_decode_157 : decode b_Mo_decode 157 = .ok (.iload 6, 2) := by decide +kernel
theorem d_Mo_decode_159 : decode b_Mo_decode 159 = .ok (.iadd, 1) := by decide +kernel
theorem d_Mo_decode_160 : decode b_Mo_decode 160 = .ok (.sipush (12000), 3) := by decide +kernel
theorem d_Mo_decode_163 : decode b_Mo_decode 163 = .ok (.if_icmp .gt (7), 3) := by decide +kernel
theorem d_Mo_decode_166 : decode b_Mo_decode 166 = .ok (.iconst (1), 1) := by decide +kernel
theorem d_Mo_decode_167 : decode b_Mo_decode 167 = .ok (.goto (4), 3) := by decide +kernel
theorem d_Mo_decode_170 : decode b_Mo_decode 170 = .ok (.iconst (0), 1) := by decide +kernel
theorem d_Mo_decode_171 : decode b_Mo_decode 171 = .ok (.istore_n 3, 1) := by decide +kernel
theorem d_Mo_decode_172 : decode b_Mo_decode 172 = .ok (.iload_n 3, 1) := by decide +kernel
theorem d_Mo_decode_173 : decode b_Mo_decode 173 = .ok (.ifCond .eq (40), 3) := by decide +kernel
theorem d_Mo_decode_176 : decode b_Mo_decode 176 = .ok (.iload_n 1, 1) := by decide +kernel
theorem d_Mo_decode_177 : decode b_Mo_decode 177 = .ok (.ifCond .lt (23), 3) := by decide +kernel
theorem d_Mo_decode_180 : decode b_Mo_decode 180 = .ok (.aload_n 0, 1) := by decide +kernel
theorem d_Mo_decode_181 : decode b_Mo_decode 181 = .ok (.iload_n 1, 1) := by decide +kernel
theorem d_Mo_decode_182 : decode b_Mo_decode 182 = .ok (.aload_n 0, 1) := by decide +kernel
theorem d_Mo_decode_183 : decode b_Mo_decode 183 = .ok (.iload 5, 2) := by decide +kernel
theorem d_Mo_decode_185 : decode b_Mo_decode 185 = .ok (.ifCond .eq (7), 3) := by decide +kernel
theorem d_Mo_decode_188 : decode b_Mo_decode 188 = .ok (.iload_n 1, 1) := by decide +kernel
theorem d_Mo_decode_189 : decode b_Mo_decode 189 = .ok (.goto (5), 3) := by decide +kernel
theorem d_Mo_decode_192 : decode b_Mo_decode 192 = .ok (.iload 4, 2) := by decide +kernel
theorem d_Mo_decode_194 : decode b_Mo_decode 194 = .ok (.invokevirtual 150, 3) := by decide +kernel
theorem d_Mo_decode_197 : decode b_Mo_decode 197 = .ok (.invokevirtual 142, 3) := by decide +kernel
theorem d_Mo_decode_200 : decode b_Mo_decode 200 = .ok (.aload_n 0, 1) := by decide +kernel
theorem d_Mo_decode_201 : decode b_Mo_decode 201 = .ok (.iload 4, 2) := by decide +kernel
theorem d_Mo_decode_203 : decode b_Mo_decode 203 = .ok (.invokevirtual 154, 3) := by decide +kernel
theorem d_Mo_decode_206 : decode b_Mo_decode 206 = .ok (.aload_n 0, 1) := by decide +kernel
theorem d_Mo_decode_207 : decode b_Mo_decode 207 = .ok (.invokevirtual 139, 3) := by decide +kernel
theorem d_Mo_decode_210 : decode b_Mo_decode 210 = .ok (.iload 4, 2) := by decide +kernel
theorem d_Mo_decode_212 : decode b_Mo_decode 212 = .ok (.istore_n 1, 1) := by decide +kernel
theorem d_Mo_decode_213 : decode b_Mo_decode 213 = .ok (.goto (-188), 3) := by decide +kernel
theorem d_Mo_decode_216 : decode b_Mo_decode 216 = .ok (.aload_n 0, 1) := by decide +kernel
theorem d_Mo_decode_217 : decode b_Mo_decode 217 = .ok (.iconst (0), 1) := by decide +kernel
theorem d_Mo_decode_218 : decode b_Mo_decode 218 = .ok (.putfield 104, 3) := by decide +kernel
theorem d_Mo_decode_221 : decode b_Mo_decode 221 = .ok (.iload_n 2, 1) := by decide +kernel
theorem d_Mo_decode_222 : decode b_Mo_decode 222 = .ok (.ifCond .lt (9), 3) := by decide +kernel
theorem d_Mo_decode_225 : decode b_Mo_decode 225 = .ok (.iconst (-1), 1) := by decide +kernel
theorem d_Mo_decode_226 : decode b_Mo_decode 226 = .ok (.iload_n 2, 1) := by decide +kernel
theorem d_Mo_decode_227 : decode b_Mo_decode 227 = .ok (.isub, 1) := by decide +kernel
theorem d_Mo_decode_228 : decode b_Mo_decode 228 = .ok (.goto (7), 3) := by decide +kernel
theorem d_Mo_decode_231 : decode b_Mo_decode 231 = .ok (.aload_n 0, 1) := by decide +kernel
theorem d_Mo_decode_232 : decode b_Mo_decode 232 = .ok (.getfield 107, 3) := by decide +kernel
theorem d_Mo_decode_235 : decode b_Mo_decode 235 = .ok (.ireturn, 1) := by decide +kernel
theorem d_Mo_at_0 : decode b_Mo_at 0 = .ok (.aload_n 0, 1) := by decide +kernel
theorem d_Mo_at_1 : decode b_Mo_at 1 = .ok (.iload_n 1, 1) := by decide +kernel
theorem d_Mo_at_2 : decode b_Mo_at 2 = .ok (.ifCond .lt (11), 3) := by decide +kernel
theorem d_Mo_at_5 : decode b_Mo_at 5 = .ok (.iload_n 1, 1) := by decide +kernel
theorem d_Mo_at_6 : decode b_Mo_at 6 = .ok (.aload_n 0, 1) := by decide +kernel
theorem d_Mo_at_7 : decode b_Mo_at 7 = .ok (.getfield 107, 3) := by decide +kernel
theorem d_Mo_at_10 : decode b_Mo_at 10 = .ok (.if_icmp .lt (7), 3) := by decide +kernel
theorem d_Mo_at_13 : decode b_Mo_at 13 = .ok (.iconst (1), 1) := by decide +kernel
theorem d_Mo_at_14 : decode b_Mo_at 14 = .ok (.goto (4), 3) := by decide +kernel
theorem d_Mo_at_17 : decode b_Mo_at 17 = .ok (.iconst (0), 1) := by decide +kernel
theorem d_Mo_at_18 : decode b_Mo_at 18 = .ok (.putfield 92, 3) := by decide +kernel
theorem d_Mo_at_21 : decode b_Mo_at 21 = .ok (.aload_n 0, 1) := by decide +kernel
theorem d_Mo_at_22 : decode b_Mo_at 22 = .ok (.getfield 92, 3) := by decide +kernel
theorem d_Mo_at_25 : decode b_Mo_at 25 = .ok (.ifCond .le (7), 3) := by decide +kernel
theorem d_Mo_at_28 : decode b_Mo_at 28 = .ok (.iconst (0), 1) := by decide +kernel
theorem d_Mo_at_29 : decode b_Mo_at 29 = .ok (.goto (9), 3) := by decide +kernel
theorem d_Mo_at_32 : decode b_Mo_at 32 = .ok (.aload_n 0, 1) := by decide +kernel
theorem d_Mo_at_33 : decode b_Mo_at 33 = .ok (.getfield 23, 3) := by decide +kernel
theorem d_Mo_at_36 : decode b_Mo_at 36 = .ok (.iload_n 1, 1) := by decide +kernel
theorem d_Mo_at_37 : decode b_Mo_at 37 = .ok (.iaload, 1) := by decide +kernel
theorem d_Mo_at_38 : decode b_Mo_at 38 = .ok (.ireturn, 1) := by decide +kernel
theorem d_Mo_take_0 : decode b_Mo_take 0 = .ok (.aload_n 0, 1) := by decide +kernel
theorem d_Mo_take_1 : decode b_Mo_take 1 = .ok (.iconst (0), 1) := by decide +kernel
theorem d_Mo_take_2 : decode b_Mo_take 2 = .ok (.putfield 92, 3) := by decide +kernel
theorem d_Mo_take_5 : decode b_Mo_take 5 = .ok (.aload_n 0, 1) := by decide +kernel
theorem d_Mo_take_6 : decode b_Mo_take 6 = .ok (.aload_n 0, 1) := by decide +kernel
theorem d_Mo_take_7 : decode b_Mo_take 7 = .ok (.getfield 107, 3) := by decide +kernel
theorem d_Mo_take_10 : decode b_Mo_take 10 = .ok (.putfield 98, 3) := by decide +kernel
theorem d_Mo_take_13 : decode b_Mo_take 13 = .ok (.iconst (0), 1) := by decide +kernel
theorem d_Mo_take_14 : decode b_Mo_take 14 = .ok (.istore_n 1, 1) := by decide +kernel
theorem d_Mo_take_15 : decode b_Mo_take 15 = .ok (.iload_n 1, 1) := by decide +kernel
theorem d_Mo_take_16 : decode b_Mo_take 16 = .ok (.aload_n 0, 1) := by decide +kernel
theorem d_Mo_take_17 : decode b_Mo_take 17 = .ok (.getfield 107, 3) := by decide +kernel
theorem d_Mo_take_20 : decode b_Mo_take 20 = .ok (.if_icmp .ge (21), 3) := by decide +kernel
theorem d_Mo_take_23 : decode b_Mo_take 23 = .ok (.aload_n 0, 1) := by decide +kernel
theorem d_Mo_take_24 : decode b_Mo_take 24 = .ok (.getfield 7, 3) := by decide +kernel
theorem d_Mo_take_27 : decode b_Mo_take 27 = .ok (.iload_n 1, 1) := by decide +kernel
theorem d_Mo_take_28 : decode b_Mo_take 28 = .ok (.aload_n 0, 1) := by decide +kernel
theorem d_Mo_take_29 : decode b_Mo_take 29 = .ok (.getfield 23, 3) := by decide +kernel
theorem d_Mo_take_32 : decode b_Mo_take 32 = .ok (.iload_n 1, 1) := by decide +kernel
theorem d_Mo_take_33 : decode b_Mo_take 33 = .ok (.iaload, 1) := by decide +kernel
theorem d_Mo_take_34 : decode b_Mo_take 34 = .ok (.iastore, 1) := by decide +kernel
theorem d_Mo_take_35 : decode b_Mo_take 35 = .ok (.iinc 1 (1), 3) := by decide +kernel
theorem d_Mo_take_38 : decode b_Mo_take 38 = .ok (.goto (-23), 3) := by decide +kernel
theorem d_Mo_take_41 : decode b_Mo_take 41 = .ok (.aload_n 0, 1) := by decide +kernel
theorem d_Mo_take_42 : decode b_Mo_take 42 = .ok (.getfield 98, 3) := by decide +kernel
theorem d_Mo_take_45 : decode b_Mo_take 45 = .ok (.ireturn, 1) := by decide +kernel
theorem d_Mo_passNumber_0 : decode b_Mo_passNumber 0 = .ok (.iload_n 0, 1) := by decide +kernel
theorem d_Mo_passNumber_1 : decode b_Mo_passNumber 1 = .ok (.bipush (8), 2) := by decide +kernel
theorem d_Mo_passNumber_3 : decode b_Mo_passNumber 3 = .ok (.irem, 1) := by decide +kernel
theorem d_Mo_passNumber_4 : decode b_Mo_passNumber 4 = .ok (.ifCond .ne (7), 3) := by decide +kernel
theorem d_Mo_passNumber_7 : decode b_Mo_passNumber 7 = .ok (.iconst (0), 1) := by decide +kernel
theorem d_Mo_passNumber_8 : decode b_Mo_passNumber 8 = .ok (.goto (27), 3) := by decide +kernel
theorem d_Mo_passNumber_11 : decode b_Mo_passNumber 11 = .ok (.iload_n 0, 1) := by decide +kernel
theorem d_Mo_passNumber_12 : decode b_Mo_passNumber 12 = .ok (.bipush (8), 2) := by decide +kernel
theorem d_Mo_passNumber_14 : decode b_Mo_passNumber 14 = .ok (.irem, 1) := by decide +kernel
theorem d_Mo_passNumber_15 : decode b_Mo_passNumber 15 = .ok (.iconst (4), 1) := by decide +kernel
theorem d_Mo_passNumber_16 : decode b_Mo_passNumber 16 = .ok (.if_icmp .ne (7), 3) := by decide +kernel
theorem d_Mo_passNumber_19 : decode b_Mo_passNumber 19 = .ok (.iconst (1), 1) := by decide +kernel
theorem d_Mo_passNumber_20 : decode b_Mo_passNumber 20 = .ok (.goto (15), 3) := by decide +kernel
theorem d_Mo_passNumber_23 : decode b_Mo_passNumber 23 = .ok (.iload_n 0, 1) := by decide +kernel
theorem d_Mo_passNumber_24 : decode b_Mo_passNumber 24 = .ok (.iconst (4), 1) := by decide +kernel
theorem d_Mo_passNumber_25 : decode b_Mo_passNumber 25 = .ok (.irem, 1) := by decide +kernel
theorem d_Mo_passNumber_26 : decode b_Mo_passNumber 26 = .ok (.iconst (2), 1) := by decide +kernel
theorem d_Mo_passNumber_27 : decode b_Mo_passNumber 27 = .ok (.if_icmp .ne (7), 3) := by decide +kernel
theorem d_Mo_passNumber_30 : decode b_Mo_passNumber 30 = .ok (.iconst (2), 1) := by decide +kernel
theorem d_Mo_passNumber_31 : decode b_Mo_passNumber 31 = .ok (.goto (4), 3) := by decide +kernel
theorem d_Mo_passNumber_34 : decode b_Mo_passNumber 34 = .ok (.iconst (3), 1) := by decide +kernel
theorem d_Mo_passNumber_35 : decode b_Mo_passNumber 35 = .ok (.ireturn, 1) := by decide +kernel
theorem d_Mo_frame_0 : decode b_Mo_frame 0 = .ok (.iload_n 3, 1) := by decide +kernel
theorem d_Mo_frame_1 : decode b_Mo_frame 1 = .ok (.iconst (1), 1) := by decide +kernel
theorem d_Mo_frame_2 : decode b_Mo_frame 2 = .ok (.if_icmp .lt (51), 3) := by decide +kernel
theorem d_Mo_frame_5 : decode b_Mo_frame 5 = .ok (.iload_n 3, 1) := by decide +kernel
theorem d_Mo_frame_6 : decode b_Mo_frame 6 = .ok (.bipush (24), 2) := by decide +kernel
theorem d_Mo_frame_8 : decode b_Mo_frame 8 = .ok (.if_icmp .gt (45), 3) := by decide +kernel
theorem d_Mo_frame_11 : decode b_Mo_frame 11 = .ok (.iload 4, 2) := by decide +kernel
theorem d_Mo_frame_13 : decode b_Mo_frame 13 = .ok (.iconst (1), 1) := by decide +kernel
theorem d_Mo_frame_14 : decode b_Mo_frame 14 = .ok (.if_icmp .lt (39), 3) := by decide +kernel
theorem d_Mo_frame_17 : decode b_Mo_frame 17 = .ok (.iload 4, 2) := by decide +kernel
theorem d_Mo_frame_19 : decode b_Mo_frame 19 = .ok (.bipush (24), 2) := by decide +kernel
theorem d_Mo_frame_21 : decode b_Mo_frame 21 = .ok (.if_icmp .gt (32), 3) := by decide +kernel
theorem d_Mo_frame_24 : decode b_Mo_frame 24 = .ok (.iload_n 1, 1) := by decide +kernel
theorem d_Mo_frame_25 : decode b_Mo_frame 25 = .ok (.ifCond .lt (28), 3) := by decide +kernel
theorem d_Mo_frame_28 : decode b_Mo_frame 28 = .ok (.iload_n 1, 1) := by decide +kernel
theorem d_Mo_frame_29 : decode b_Mo_frame 29 = .ok (.bipush (24), 2) := by decide +kernel
theorem d_Mo_frame_31 : decode b_Mo_frame 31 = .ok (.iload_n 3, 1) := by decide +kernel
theorem d_Mo_frame_32 : decode b_Mo_frame 32 = .ok (.isub, 1) := by decide +kernel
theorem d_Mo_frame_33 : decode b_Mo_frame 33 = .ok (.if_icmp .gt (20), 3) := by decide +kernel
theorem d_Mo_frame_36 : decode b_Mo_frame 36 = .ok (.iload_n 2, 1) := by decide +kernel
theorem d_Mo_frame_37 : decode b_Mo_frame 37 = .ok (.ifCond .lt (16), 3) := by decide +kernel
theorem d_Mo_frame_40 : decode b_Mo_frame 40 = .ok (.iload_n 2, 1) := by decide +kernel
theorem d_Mo_frame_41 : decode b_Mo_frame 41 = .ok (.bipush (24), 2) := by decide +kernel
theorem d_Mo_frame_43 : decode b_Mo_frame 43 = .ok (.iload 4, 2) := by decide +kernel
theorem d_Mo_frame_45 : decode b_Mo_frame 45 = .ok (.isub, 1) := by decide +kernel
theorem d_Mo_frame_46 : decode b_Mo_frame 46 = .ok (.if_icmp .gt (7), 3) := by decide +kernel
theorem d_Mo_frame_49 : decode b_Mo_frame 49 = .ok (.iconst (1), 1) := by decide +kernel
theorem d_Mo_frame_50 : decode b_Mo_frame 50 = .ok (.goto (4), 3) := by decide +kernel
theorem d_Mo_frame_53 : decode b_Mo_frame 53 = .ok (.iconst (0), 1) := by decide +kernel
theorem d_Mo_frame_54 : decode b_Mo_frame 54 = .ok (.istore 8, 2) := by decide +kernel
theorem d_Mo_frame_56 : decode b_Mo_frame 56 = .ok (.iload 8, 2) := by decide +kernel
theorem d_Mo_frame_58 : decode b_Mo_frame 58 = .ok (.ifCond .eq (31), 3) := by decide +kernel
theorem d_Mo_frame_61 : decode b_Mo_frame 61 = .ok (.iload 6, 2) := by decide +kernel
theorem d_Mo_frame_63 : decode b_Mo_frame 63 = .ok (.ifCond .lt (26), 3) := by decide +kernel
theorem d_Mo_frame_66 : decode b_Mo_frame 66 = .ok (.iload 6, 2) := by decide +kernel
theorem d_Mo_frame_68 : decode b_Mo_frame 68 = .ok (.iconst (3), 1) := by decide +kernel
theorem d_Mo_frame_69 : decode b_Mo_frame 69 = .ok (.if_icmp .gt (20), 3) := by decide +kernel
theorem d_Mo_frame_72 : decode b_Mo_frame 72 = .ok (.iload 7, 2) := by decide +kernel
theorem d_Mo_frame_74 : decode b_Mo_frame 74 = .ok (.ifCond .lt (15), 3) := by decide +kernel
theorem d_Mo_frame_77 : decode b_Mo_frame 77 = .ok (.iload 7, 2) := by decide +kernel
theorem d_Mo_frame_79 : decode b_Mo_frame 79 = .ok (.sipush (1000), 3) := by decide +kernel
theorem d_Mo_frame_82 : decode b_Mo_frame 82 = .ok (.if_icmp .gt (7), 3) := by decide +kernel
theorem d_Mo_frame_85 : decode b_Mo_frame 85 = .ok (.iconst (1), 1) := by decide +kernel
theorem d_Mo_frame_86 : decode b_Mo_frame 86 = .ok (.goto (4), 3) := by decide +kernel
theorem d_Mo_frame_89 : decode b_Mo_frame 89 = .ok (.iconst (0), 1) := by decide +kernel
theorem d_Mo_frame_90 : decode b_Mo_frame 90 = .ok (.istore 8, 2) := by decide +kernel
theorem d_Mo_frame_92 : decode b_Mo_frame 92 = .ok (.aload_n 0, 1) := by decide +kernel
theorem d_Mo_frame_93 : decode b_Mo_frame 93 = .ok (.iload 8, 2) := by decide +kernel
theorem d_Mo_frame_95 : decode b_Mo_frame 95 = .ok (.ifCond .ne (7), 3) := by decide +kernel
theorem d_Mo_frame_98 : decode b_Mo_frame 98 = .ok (.iconst (1), 1) := by decide +kernel
theorem d_Mo_frame_99 : decode b_Mo_frame 99 = .ok (.goto (32), 3) := by decide +kernel
theorem d_Mo_frame_102 : decode b_Mo_frame 102 = .ok (.aload_n 0, 1) := by decide +kernel
theorem d_Mo_frame_103 : decode b_Mo_frame 103 = .ok (.getfield 98, 3) := by decide +kernel
theorem d_Mo_frame_106 : decode b_Mo_frame 106 = .ok (.iload_n 3, 1) := by decide +kernel
theorem d_Mo_frame_107 : decode b_Mo_frame 107 = .ok (.iload 4, 2) := by decide +kernel
theorem d_Mo_frame_109 : decode b_Mo_frame 109 = .ok (.imul, 1) := by decide +kernel
theorem d_Mo_frame_110 : decode b_Mo_frame 110 = .ok (.if_icmp .ge (7), 3) := by decide +kernel
theorem d_Mo_frame_113 : decode b_Mo_frame 113 = .ok (.iconst (2), 1) := by decide +kernel
theorem d_Mo_frame_114 : decode b_Mo_frame 114 = .ok (.goto (17), 3) := by decide +kernel
theorem d_Mo_frame_117 : decode b_Mo_frame 117 = .ok (.aload_n 0, 1) := by decide +kernel
theorem d_Mo_frame_118 : decode b_Mo_frame 118 = .ok (.getfield 110, 3) := by decide +kernel
theorem d_Mo_frame_121 : decode b_Mo_frame 121 = .ok (.bipush (12), 2) := by decide +kernel
theorem d_Mo_frame_123 : decode b_Mo_frame 123 = .ok (.if_icmp .ne (7), 3) := by decide +kernel
theorem d_Mo_frame_126 : decode b_Mo_frame 126 = .ok (.iconst (3), 1) := by decide +kernel
theorem d_Mo_frame_127 : decode b_Mo_frame 127 = .ok (.goto (4), 3) := by decide +kernel
theorem d_Mo_frame_130 : decode b_Mo_frame 130 = .ok (.iconst (0), 1) := by decide +kernel
theorem d_Mo_frame_131 : decode b_Mo_frame 131 = .ok (.putfield 92, 3) := by decide +kernel
theorem d_Mo_frame_134 : decode b_Mo_frame 134 = .ok (.aload_n 0, 1) := by decide +kernel
theorem d_Mo_frame_135 : decode b_Mo_frame 135 = .ok (.getfield 92, 3) := by decide +kernel
theorem d_Mo_frame_138 : decode b_Mo_frame 138 = .ok (.ifCond .le (5), 3) := by decide +kernel
theorem d_Mo_frame_141 : decode b_Mo_frame 141 = .ok (.iconst (0), 1) := by decide +kernel
theorem d_Mo_frame_142 : decode b_Mo_frame 142 = .ok (.ireturn, 1) := by decide +kernel
theorem d_Mo_frame_143 : decode b_Mo_frame 143 = .ok (.aload_n 0, 1) := by decide +kernel
theorem d_Mo_frame_144 : decode b_Mo_frame 144 = .ok (.getfield 110, 3) := by decide +kernel
theorem d_Mo_frame_147 : decode b_Mo_frame 147 = .ok (.istore 9, 2) := by decide +kernel
theorem d_Mo_frame_149 : decode b_Mo_frame 149 = .ok (.aload_n 0, 1) := by decide +kernel
theorem d_Mo_frame_150 : decode b_Mo_frame 150 = .ok (.getfield 41, 3) := by decide +kernel
theorem d_Mo_frame_153 : decode b_Mo_frame 153 = .ok (.iload 9, 2) := by decide +kernel
theorem d_Mo_frame_155 : decode b_Mo_frame 155 = .ok (.iload_n 1, 1) := by decide +kernel
theorem d_Mo_frame_156 : decode b_Mo_frame 156 = .ok (.iastore, 1) := by decide +kernel
theorem d_Mo_frame_157 : decode b_Mo_frame 157 = .ok (.aload_n 0, 1) := by decide +kernel
theorem d_Mo_frame_158 : decode b_Mo_frame 158 = .ok (.getfield 44, 3) := by decide +kernel
theorem d_Mo_frame_161 : decode b_Mo_frame 161 = .ok (.iload 9, 2) := by decide +kernel
theorem d_Mo_frame_163 : decode b_Mo_frame 163 = .ok (.iload_n 2, 1) := by decide +kernel
theorem d_Mo_frame_164 : decode b_Mo_frame 164 = .ok (.iastore, 1) := by decide +kernel
theorem d_Mo_frame_165 : decode b_Mo_frame 165 = .ok (.aload_n 0, 1) := by decide +kernel
theorem d_Mo_frame_166 : decode b_Mo_frame 166 = .ok (.getfield 47, 3) := by decide +kernel
theorem d_Mo_frame_169 : decode b_Mo_frame 169 = .ok (.iload 9, 2) := by decide +kernel
theorem d_Mo_frame_171 : decode b_Mo_frame 171 = .ok (.iload_n 3, 1) := by decide +kernel
theorem d_Mo_frame_172 : decode b_Mo_frame 172 = .ok (.iastore, 1) := by decide +kernel
theorem d_Mo_frame_173 : decode b_Mo_frame 173 = .ok (.aload_n 0, 1) := by decide +kernel
theorem d_Mo_frame_174 : decode b_Mo_frame 174 = .ok (.getfield 50, 3) := by decide +kernel
theorem d_Mo_frame_177 : decode b_Mo_frame 177 = .ok (.iload 9, 2) := by decide +kernel
theorem d_Mo_frame_179 : decode b_Mo_frame 179 = .ok (.iload 4, 2) := by decide +kernel
theorem d_Mo_frame_181 : decode b_Mo_frame 181 = .ok (.iastore, 1) := by decide +kernel
theorem d_Mo_frame_182 : decode b_Mo_frame 182 = .ok (.aload_n 0, 1) := by decide +kernel
theorem d_Mo_frame_183 : decode b_Mo_frame 183 = .ok (.getfield 53, 3) := by decide +kernel
theorem d_Mo_frame_186 : decode b_Mo_frame 186 = .ok (.iload 9, 2) := by decide +kernel
theorem d_Mo_frame_188 : decode b_Mo_frame 188 = .ok (.iload 6, 2) := by decide +kernel
theorem d_Mo_frame_190 : decode b_Mo_frame 190 = .ok (.iastore, 1) := by decide +kernel
theorem d_Mo_frame_191 : decode b_Mo_frame 191 = .ok (.aload_n 0, 1) := by decide +kernel
theorem d_Mo_frame_192 : decode b_Mo_frame 192 = .ok (.getfield 56, 3) := by decide +kernel
theorem d_Mo_frame_195 : decode b_Mo_frame 195 = .ok (.iload 9, 2) := by decide +kernel
theorem d_Mo_frame_197 : decode b_Mo_frame 197 = .ok (.iload 7, 2) := by decide +kernel
theorem d_Mo_frame_199 : decode b_Mo_frame 199 = .ok (.iastore, 1) := by decide +kernel
theorem d_Mo_frame_200 : decode b_Mo_frame 200 = .ok (.aload_n 0, 1) := by decide +kernel
theorem d_Mo_frame_201 : decode b_Mo_frame 201 = .ok (.getfield 59, 3) := by decide +kernel
theorem d_Mo_frame_204 : decode b_Mo_frame 204 = .ok (.iload 9, 2) := by decide +kernel
theorem d_Mo_frame_206 : decode b_Mo_frame 206 = .ok (.iconst (-1), 1) := by decide +kernel
theorem d_Mo_frame_207 : decode b_Mo_frame 207 = .ok (.iastore, 1) := by decide +kernel
theorem d_Mo_frame_208 : decode b_Mo_frame 208 = .ok (.iconst (0), 1) := by decide +kernel
theorem d_Mo_frame_209 : decode b_Mo_frame 209 = .ok (.istore 10, 2) := by decide +kernel
theorem d_Mo_frame_211 : decode b_Mo_frame 211 = .ok (.iload 10, 2) := by decide +kernel
theorem d_Mo_frame_213 : decode b_Mo_frame 213 = .ok (.sipush (256), 3) := by decide +kernel
theorem d_Mo_frame_216 : decode b_Mo_frame 216 = .ok (.if_icmp .ge (24), 3) := by decide +kernel
theorem d_Mo_frame_219 : decode b_Mo_frame 219 = .ok (.aload_n 0, 1) := by decide +kernel
theorem d_Mo_frame_220 : decode b_Mo_frame 220 = .ok (.getfield 65, 3) := by decide +kernel
theorem d_Mo_frame_223 : decode b_Mo_frame 223 = .ok (.sipush (256), 3) := by decide +kernel
theorem d_Mo_frame_226 : decode b_Mo_frame 226 = .ok (.iload 9, 2) := by decide +kernel
theorem d_Mo_frame_228 : decode b_Mo_frame 228 = .ok (.imul, 1) := by decide +kernel
theorem d_Mo_frame_229 : decode b_Mo_frame 229 = .ok (.iload 10, 2) := by decide +kernel
theorem d_Mo_frame_231 : decode b_Mo_frame 231 = .ok (.iadd, 1) := by decide +kernel
theorem d_Mo_frame_232 : decode b_Mo_frame 232 = .ok (.iconst (-1), 1) := by decide +kernel
theorem d_Mo_frame_233 : decode b_Mo_frame 233 = .ok (.iastore, 1) := by decide +kernel
theorem d_Mo_frame_234 : decode b_Mo_frame 234 = .ok (.iinc 10 (1), 3) := by decide +kernel
theorem d_Mo_frame_237 : decode b_Mo_frame 237 = .ok (.goto (-26), 3) := by decide +kernel
theorem d_Mo_frame_240 : decode b_Mo_frame 240 = .ok (.iconst (0), 1) := by decide +kernel
theorem d_Mo_frame_241 : decode b_Mo_frame 241 = .ok (.istore 10, 2) := by decide +kernel
theorem d_Mo_frame_243 : decode b_Mo_frame 243 = .ok (.iconst (0), 1) := by decide +kernel
theorem d_Mo_frame_244 : decode b_Mo_frame 244 = .ok (.istore 11, 2) := by decide +kernel
theorem d_Mo_frame_246 : decode b_Mo_frame 246 = .ok (.iload 11, 2) := by decide +kernel
theorem d_Mo_frame_248 : decode b_Mo_frame 248 = .ok (.iconst (4), 1) := by decide +kernel
theorem d_Mo_frame_249 : decode b_Mo_frame 249 = .ok (.if_icmp .ge (93), 3) := by decide +kernel
theorem d_Mo_frame_252 : decode b_Mo_frame 252 = .ok (.iconst (0), 1) := by decide +kernel
theorem d_Mo_frame_253 : decode b_Mo_frame 253 = .ok (.istore 12, 2) := by decide +kernel
theorem d_Mo_frame_255 : decode b_Mo_frame 255 = .ok (.iload 12, 2) := by decide +kernel
theorem d_Mo_frame_257 : decode b_Mo_frame 257 = .ok (.iload 4, 2) := by decide +kernel
theorem d_Mo_frame_259 : decode b_Mo_frame 259 = .ok (.if_icmp .ge (77), 3) := by decide +kernel
theorem d_Mo_frame_262 : decode b_Mo_frame 262 = .ok (.iload 5, 2) := by decide +kernel
theorem d_Mo_frame_264 : decode b_Mo_frame 264 = .ok (.ifCond .eq (16), 3) := by decide +kernel
theorem d_Mo_frame_267 : decode b_Mo_frame 267 = .ok (.iload 12, 2) := by decide +kernel
theorem d_Mo_frame_269 : decode b_Mo_frame 269 = .ok (.invokestatic 157, 3) := by decide +kernel
theorem d_Mo_frame_272 : decode b_Mo_frame 272 = .ok (.iload 11, 2) := by decide +kernel
theorem d_Mo_frame_274 : decode b_Mo_frame 274 = .ok (.if_icmp .ne (56), 3) := by decide +kernel
theorem d_Mo_frame_277 : decode b_Mo_frame 277 = .ok (.goto (8), 3) := by decide +kernel
theorem d_Mo_frame_280 : decode b_Mo_frame 280 = .ok (.iload 11, 2) := by decide +kernel
theorem d_Mo_frame_282 : decode b_Mo_frame 282 = .ok (.ifCond .ne (48), 3) := by decide +kernel
theorem d_Mo_frame_285 : decode b_Mo_frame 285 = .ok (.iconst (0), 1) := by decide +kernel
theorem d_Mo_frame_286 : decode b_Mo_frame 286 = .ok (.istore 13, 2) := by decide +kernel
theorem d_Mo_frame_288 : decode b_Mo_frame 288 = .ok (.iload 13, 2) := by decide +kernel
theorem d_Mo_frame_290 : decode b_Mo_frame 290 = .ok (.iload_n 3, 1) := by decide +kernel
theorem d_Mo_frame_291 : decode b_Mo_frame 291 = .ok (.if_icmp .ge (39), 3) := by decide +kernel
theorem d_Mo_frame_294 : decode b_Mo_frame 294 = .ok (.aload_n 0, 1) := by decide +kernel
theorem d_Mo_frame_295 : decode b_Mo_frame 295 = .ok (.getfield 62, 3) := by decide +kernel
theorem d_Mo_frame_298 : decode b_Mo_frame 298 = .ok (.sipush (576), 3) := by decide +kernel
theorem d_Mo_frame_301 : decode b_Mo_frame 301 = .ok (.iload 9, 2) := by decide +kernel
theorem d_Mo_frame_303 : decode b_Mo_frame 303 = .ok (.imul, 1) := by decide +kernel
theorem d_Mo_frame_304 : decode b_Mo_frame 304 = .ok (.bipush (24), 2) := by decide +kernel
theorem d_Mo_frame_306 : decode b_Mo_frame 306 = .ok (.iload 12, 2) := by decide +kernel
theorem d_Mo_frame_308 : decode b_Mo_frame 308 = .ok (.imul, 1) := by decide +kernel
theorem d_Mo_frame_309 : decode b_Mo_frame 309 = .ok (.iadd, 1) := by decide +kernel
theorem d_Mo_frame_310 : decode b_Mo_frame 310 = .ok (.iload 13, 2) := by decide +kernel
theorem d_Mo_frame_312 : decode b_Mo_frame 312 = .ok (.iadd, 1) := by decide +kernel
theorem d_Mo_frame_313 : decode b_Mo_frame 313 = .ok (.aload_n 0, 1) := by decide +kernel
theorem d_Mo_frame_314 : decode b_Mo_frame 314 = .ok (.getfield 7, 3) := by decide +kernel
theorem d_Mo_frame_317 : decode b_Mo_frame 317 = .ok (.iload 10, 2) := by decide +kernel
theorem d_Mo_frame_319 : decode b_Mo_frame 319 = .ok (.iaload, 1) := by decide +kernel
theorem d_Mo_frame_320 : decode b_Mo_frame 320 = .ok (.iastore, 1) := by decide +kernel
theorem d_Mo_frame_321 : decode b_Mo_frame 321 = .ok (.iinc 10 (1), 3) := by decide +kernel
theorem d_Mo_frame_324 : decode b_Mo_frame 324 = .ok (.iinc 13 (1), 3) := by decide +kernel
theorem d_Mo_frame_327 : decode b_Mo_frame 327 = .ok (.goto (-39), 3) := by decide +kernel
theorem d_Mo_frame_330 : decode b_Mo_frame 330 = .ok (.iinc 12 (1), 3) := by decide +kernel
theorem d_Mo_frame_333 : decode b_Mo_frame 333 = .ok (.goto (-78), 3) := by decide +kernel
theorem d_Mo_frame_336 : decode b_Mo_frame 336 = .ok (.iinc 11 (1), 3) := by decide +kernel
theorem d_Mo_frame_339 : decode b_Mo_frame 339 = .ok (.goto (-93), 3) := by decide +kernel
theorem d_Mo_frame_342 : decode b_Mo_frame 342 = .ok (.aload_n 0, 1) := by decide +kernel
theorem d_Mo_frame_343 : decode b_Mo_frame 343 = .ok (.dup, 1) := by decide +kernel
theorem d_Mo_frame_344 : decode b_Mo_frame 344 = .ok (.getfield 98, 3) := by decide +kernel
theorem d_Mo_frame_347 : decode b_Mo_frame 347 = .ok (.iload 10, 2) := by decide +kernel
theorem d_Mo_frame_349 : decode b_Mo_frame 349 = .ok (.isub, 1) := by decide +kernel
theorem d_Mo_frame_350 : decode b_Mo_frame 350 = .ok (.putfield 98, 3) := by decide +kernel
theorem d_Mo_frame_353 : decode b_Mo_frame 353 = .ok (.iconst (0), 1) := by decide +kernel
theorem d_Mo_frame_354 : decode b_Mo_frame 354 = .ok (.istore 11, 2) := by decide +kernel
theorem d_Mo_frame_356 : decode b_Mo_frame 356 = .ok (.iload 11, 2) := by decide +kernel
theorem d_Mo_frame_358 : decode b_Mo_frame 358 = .ok (.aload_n 0, 1) := by decide +kernel
theorem d_Mo_frame_359 : decode b_Mo_frame 359 = .ok (.getfield 98, 3) := by decide +kernel
theorem d_Mo_frame_362 : decode b_Mo_frame 362 = .ok (.if_icmp .ge (26), 3) := by decide +kernel
theorem d_Mo_frame_365 : decode b_Mo_frame 365 = .ok (.aload_n 0, 1) := by decide +kernel
theorem d_Mo_frame_366 : decode b_Mo_frame 366 = .ok (.getfield 7, 3) := by decide +kernel
theorem d_Mo_frame_369 : decode b_Mo_frame 369 = .ok (.iload 11, 2) := by decide +kernel
theorem d_Mo_frame_371 : decode b_Mo_frame 371 = .ok (.aload_n 0, 1) := by decide +kernel
theorem d_Mo_frame_372 : decode b_Mo_frame 372 = .ok (.getfield 7, 3) := by decide +kernel
theorem d_Mo_frame_375 : decode b_Mo_frame 375 = .ok (.iload 11, 2) := by decide +kernel
theorem d_Mo_frame_377 : decode b_Mo_frame 377 = .ok (.iload 10, 2) := by decide +kernel
theorem d_Mo_frame_379 : decode b_Mo_frame 379 = .ok (.iadd, 1) := by decide +kernel
theorem d_Mo_frame_380 : decode b_Mo_frame 380 = .ok (.iaload, 1) := by decide +kernel
theorem d_Mo_frame_381 : decode b_Mo_frame 381 = .ok (.iastore, 1) := by decide +kernel
theorem d_Mo_frame_382 : decode b_Mo_frame 382 = .ok (.iinc 11 (1), 3) := by decide +kernel
theorem d_Mo_frame_385 : decode b_Mo_frame 385 = .ok (.goto (-29), 3) := by decide +kernel
theorem d_Mo_frame_388 : decode b_Mo_frame 388 = .ok (.aload_n 0, 1) := by decide +kernel
theorem d_Mo_frame_389 : decode b_Mo_frame 389 = .ok (.dup, 1) := by decide +kernel
theorem d_Mo_frame_390 : decode b_Mo_frame 390 = .ok (.getfield 110, 3) := by decide +kernel
theorem d_Mo_frame_393 : decode b_Mo_frame 393 = .ok (.iconst (1), 1) := by decide +kernel
theorem d_Mo_frame_394 : decode b_Mo_frame 394 = .ok (.iadd, 1) := by decide +kernel
theorem d_Mo_frame_395 : decode b_Mo_frame 395 = .ok (.putfield 110, 3) := by decide +kernel
theorem d_Mo_frame_398 : decode b_Mo_frame 398 = .ok (.iload 9, 2) := by decide +kernel
theorem d_Mo_frame_400 : decode b_Mo_frame 400 = .ok (.ireturn, 1) := by decide +kernel
theorem d_Mo_isFrame_0 : decode b_Mo_isFrame 0 = .ok (.iload_n 1, 1) := by decide +kernel
theorem d_Mo_isFrame_1 : decode b_Mo_isFrame 1 = .ok (.ifCond .lt (15), 3) := by decide +kernel
theorem d_Mo_isFrame_4 : decode b_Mo_isFrame 4 = .ok (.iload_n 1, 1) := by decide +kernel
theorem d_Mo_isFrame_5 : decode b_Mo_isFrame 5 = .ok (.aload_n 0, 1) := by decide +kernel
theorem d_Mo_isFrame_6 : decode b_Mo_isFrame 6 = .ok (.getfield 110, 3) := by decide +kernel
theorem d_Mo_isFrame_9 : decode b_Mo_isFrame 9 = .ok (.if_icmp .ge (7), 3) := by decide +kernel
theorem d_Mo_isFrame_12 : decode b_Mo_isFrame 12 = .ok (.iconst (1), 1) := by decide +kernel
theorem d_Mo_isFrame_13 : decode b_Mo_isFrame 13 = .ok (.goto (4), 3) := by decide +kernel
theorem d_Mo_isFrame_16 : decode b_Mo_isFrame 16 = .ok (.iconst (0), 1) := by decide +kernel
theorem d_Mo_isFrame_17 : decode b_Mo_isFrame 17 = .ok (.ireturn, 1) := by decide +kernel
theorem d_Mo_isSymbol_0 : decode b_Mo_isSymbol 0 = .ok (.iload_n 1, 1) := by decide +kernel
theorem d_Mo_isSymbol_1 : decode b_Mo_isSymbol 1 = .ok (.ifCond .lt (15), 3) := by decide +kernel
theorem d_Mo_isSymbol_4 : decode b_Mo_isSymbol 4 = .ok (.iload_n 1, 1) := by decide +kernel
theorem d_Mo_isSymbol_5 : decode b_Mo_isSymbol 5 = .ok (.aload_n 0, 1) := by decide +kernel
theorem d_Mo_isSymbol_6 : decode b_Mo_isSymbol 6 = .ok (.getfield 84, 3) := by decide +kernel
theorem d_Mo_isSymbol_9 : decode b_Mo_isSymbol 9 = .ok (.if_icmp .ge (7), 3) := by decide +kernel
theorem d_Mo_isSymbol_12 : decode b_Mo_isSymbol 12 = .ok (.iconst (1), 1) := by decide +kernel
theorem d_Mo_isSymbol_13 : decode b_Mo_isSymbol 13 = .ok (.goto (4), 3) := by decide +kernel
theorem d_Mo_isSymbol_16 : decode b_Mo_isSymbol 16 = .ok (.iconst (0), 1) := by decide +kernel
theorem d_Mo_isSymbol_17 : decode b_Mo_isSymbol 17 = .ok (.ireturn, 1) := by decide +kernel
theorem d_Mo_colour_0 : decode b_Mo_colour 0 = .ok (.iload_n 1, 1) := by decide +kernel
theorem d_Mo_colour_1 : decode b_Mo_colour 1 = .ok (.iconst (-1), 1) := by decide +kernel
theorem d_Mo_colour_2 : decode b_Mo_colour 2 = .ok (.if_icmp .eq (11), 3) := by decide +kernel
theorem d_Mo_colour_5 : decode b_Mo_colour 5 = .ok (.aload_n 0, 1) := by decide +kernel
theorem d_Mo_colour_6 : decode b_Mo_colour 6 = .ok (.iload_n 1, 1) := by decide +kernel
theorem d_Mo_colour_7 : decode b_Mo_colour 7 = .ok (.invokevirtual 160, 3) := by decide +kernel
theorem d_Mo_colour_10 : decode b_Mo_colour 10 = .ok (.ifCond .eq (15), 3) := by decide +kernel
theorem d_Mo_colour_13 : decode b_Mo_colour 13 = .ok (.aload_n 0, 1) := by decide +kernel
theorem d_Mo_colour_14 : decode b_Mo_colour 14 = .ok (.iload_n 2, 1) := by decide +kernel
theorem d_Mo_colour_15 : decode b_Mo_colour 15 = .ok (.invokevirtual 164, 3) := by decide +kernel
theorem d_Mo_colour_18 : decode b_Mo_colour 18 = .ok (.ifCond .eq (7), 3) := by decide +kernel
theorem d_Mo_colour_21 : decode b_Mo_colour 21 = .ok (.iconst (1), 1) := by decide +kernel
theorem d_Mo_colour_22 : decode b_Mo_colour 22 = .ok (.goto (4), 3) := by decide +kernel
theorem d_Mo_colour_25 : decode b_Mo_colour 25 = .ok (.iconst (0), 1) := by decide +kernel
theorem d_Mo_colour_26 : decode b_Mo_colour 26 = .ok (.istore 4, 2) := by decide +kernel
theorem d_Mo_colour_28 : decode b_Mo_colour 28 = .ok (.aload_n 0, 1) := by decide +kernel
theorem d_Mo_colour_29 : decode b_Mo_colour 29 = .ok (.iload 4, 2) := by decide +kernel
theorem d_Mo_colour_31 : decode b_Mo_colour 31 = .ok (.ifCond .ne (7), 3) := by decide +kernel
theorem d_Mo_colour_34 : decode b_Mo_colour 34 = .ok (.iconst (1), 1) := by decide +kernel
theorem d_Mo_colour_35 : decode b_Mo_colour 35 = .ok (.goto (19), 3) := by decide +kernel
theorem d_Mo_colour_38 : decode b_Mo_colour 38 = .ok (.iload_n 3, 1) := by decide +kernel
theorem d_Mo_colour_39 : decode b_Mo_colour 39 = .ok (.iconst (-1), 1) := by decide +kernel
theorem d_Mo_colour_40 : decode b_Mo_colour 40 = .ok (.if_icmp .lt (9), 3) := by decide +kernel
theorem d_Mo_colour_43 : decode b_Mo_colour 43 = .ok (.iload_n 3, 1) := by decide +kernel
theorem d_Mo_colour_44 : decode b_Mo_colour 44 = .ok (.ldc 167, 2) := by decide +kernel
theorem d_Mo_colour_46 : decode b_Mo_colour 46 = .ok (.if_icmp .le (7), 3) := by decide +kernel
theorem d_Mo_colour_49 : decode b_Mo_colour 49 = .ok (.iconst (2), 1) := by decide +kernel
theorem d_Mo_colour_50 : decode b_Mo_colour 50 = .ok (.goto (4), 3) := by decide +kernel
theorem d_Mo_colour_53 : decode b_Mo_colour 53 = .ok (.iconst (0), 1) := by decide +kernel
theorem d_Mo_colour_54 : decode b_Mo_colour 54 = .ok (.putfield 92, 3) := by decide +kernel
theorem d_Mo_colour_57 : decode b_Mo_colour 57 = .ok (.aload_n 0, 1) := by decide +kernel
theorem d_Mo_colour_58 : decode b_Mo_colour 58 = .ok (.getfield 92, 3) := by decide +kernel
theorem d_Mo_colour_61 : decode b_Mo_colour 61 = .ok (.ifCond .le (5), 3) := by decide +kernel
theorem d_Mo_colour_64 : decode b_Mo_colour 64 = .ok (.iconst (0), 1) := by decide +kernel
theorem d_Mo_colour_65 : decode b_Mo_colour 65 = .ok (.ireturn, 1) := by decide +kernel
theorem d_Mo_colour_66 : decode b_Mo_colour 66 = .ok (.sipush (256), 3) := by decide +kernel
theorem d_Mo_colour_69 : decode b_Mo_colour 69 = .ok (.iload_n 1, 1) := by decide +kernel
theorem d_Mo_colour_70 : decode b_Mo_colour 70 = .ok (.ifCond .ge (8), 3) := by decide +kernel
theorem d_Mo_colour_73 : decode b_Mo_colour 73 = .ok (.bipush (12), 2) := by decide +kernel
theorem d_Mo_colour_75 : decode b_Mo_colour 75 = .ok (.goto (4), 3) := by decide +kernel
theorem d_Mo_colour_78 : decode b_Mo_colour 78 = .ok (.iload_n 1, 1) := by decide +kernel
theorem d_Mo_colour_79 : decode b_Mo_colour 79 = .ok (.imul, 1) := by decide +kernel
theorem d_Mo_colour_80 : decode b_Mo_colour 80 = .ok (.iload_n 2, 1) := by decide +kernel
theorem d_Mo_colour_81 : decode b_Mo_colour 81 = .ok (.iadd, 1) := by decide +kernel
theorem d_Mo_colour_82 : decode b_Mo_colour 82 = .ok (.istore 5, 2) := by decide +kernel
theorem d_Mo_colour_84 : decode b_Mo_colour 84 = .ok (.aload_n 0, 1) := by decide +kernel
theorem d_Mo_colour_85 : decode b_Mo_colour 85 = .ok (.getfield 65, 3) := by decide +kernel
theorem d_Mo_colour_88 : decode b_Mo_colour 88 = .ok (.iload 5, 2) := by decide +kernel
theorem d_Mo_colour_90 : decode b_Mo_colour 90 = .ok (.iaload, 1) := by decide +kernel
theorem d_Mo_colour_91 : decode b_Mo_colour 91 = .ok (.istore 6, 2) := by decide +kernel
theorem d_Mo_colour_93 : decode b_Mo_colour 93 = .ok (.aload_n 0, 1) := by decide +kernel
theorem d_Mo_colour_94 : decode b_Mo_colour 94 = .ok (.getfield 65, 3) := by decide +kernel
theorem d_Mo_colour_97 : decode b_Mo_colour 97 = .ok (.iload 5, 2) := by decide +kernel
theorem d_Mo_colour_99 : decode b_Mo_colour 99 = .ok (.iload_n 3, 1) := by decide +kernel
theorem d_Mo_colour_100 : decode b_Mo_colour 100 = .ok (.iastore, 1) := by decide +kernel
theorem d_Mo_colour_101 : decode b_Mo_colour 101 = .ok (.iload 6, 2) := by decide +kernel
theorem d_Mo_colour_103 : decode b_Mo_colour 103 = .ok (.ireturn, 1) := by decide +kernel
end
section
theorem d_Mo_through_0 : decode b_Mo_through 0 = .ok (.aload_n 0, 1) := by decide +kernel
theorem d_Mo_through_1 : decode b_Mo_through 1 = .ok (.aload_n 0, 1) := by decide +kernel
theorem d_Mo_through_2 : decode b_Mo_through 2 = .ok (.iload_n 1, 1) := by decide +kernel
theorem d_Mo_through_3 : decode b_Mo_through 3 = .ok (.invokevirtual 160, 3) := by decide +kernel
theorem d_Mo_through_6 : decode b_Mo_through 6 = .ok (.ifCond .eq (20), 3) := by decide +kernel
theorem d_Mo_through_9 : decode b_Mo_through 9 = .ok (.iload_n 2, 1) := by decide +kernel
theorem d_Mo_through_10 : decode b_Mo_through 10 = .ok (.iconst (-1), 1) := by decide +kernel
theorem d_Mo_through_11 : decode b_Mo_through 11 = .ok (.if_icmp .eq (11), 3) := by decide +kernel
theorem d_Mo_through_14 : decode b_Mo_through 14 = .ok (.aload_n 0, 1) := by decide +kernel
theorem d_Mo_through_15 : decode b_Mo_through 15 = .ok (.iload_n 2, 1) := by decide +kernel
theorem d_Mo_through_16 : decode b_Mo_through 16 = .ok (.invokevirtual 164, 3) := by decide +kernel
theorem d_Mo_through_19 : decode b_Mo_through 19 = .ok (.ifCond .eq (7), 3) := by decide +kernel
theorem d_Mo_through_22 : decode b_Mo_through 22 = .ok (.iconst (0), 1) := by decide +kernel
theorem d_Mo_through_23 : decode b_Mo_through 23 = .ok (.goto (4), 3) := by decide +kernel
theorem d_Mo_through_26 : decode b_Mo_through 26 = .ok (.iconst (1), 1) := by decide +kernel
theorem d_Mo_through_27 : decode b_Mo_through 27 = .ok (.putfield 92, 3) := by decide +kernel
theorem d_Mo_through_30 : decode b_Mo_through 30 = .ok (.aload_n 0, 1) := by decide +kernel
theorem d_Mo_through_31 : decode b_Mo_through 31 = .ok (.getfield 92, 3) := by decide +kernel
theorem d_Mo_through_34 : decode b_Mo_through 34 = .ok (.ifCond .le (5), 3) := by decide +kernel
theorem d_Mo_through_37 : decode b_Mo_through 37 = .ok (.iconst (0), 1) := by decide +kernel
theorem d_Mo_through_38 : decode b_Mo_through 38 = .ok (.ireturn, 1) := by decide +kernel
theorem d_Mo_through_39 : decode b_Mo_through 39 = .ok (.aload_n 0, 1) := by decide +kernel
theorem d_Mo_through_40 : decode b_Mo_through 40 = .ok (.getfield 59, 3) := by decide +kernel
theorem d_Mo_through_43 : decode b_Mo_through 43 = .ok (.iload_n 1, 1) := by decide +kernel
theorem d_Mo_through_44 : decode b_Mo_through 44 = .ok (.iaload, 1) := by decide +kernel
theorem d_Mo_through_45 : decode b_Mo_through 45 = .ok (.istore_n 3, 1) := by decide +kernel
theorem d_Mo_through_46 : decode b_Mo_through 46 = .ok (.aload_n 0, 1) := by decide +kernel
theorem d_Mo_through_47 : decode b_Mo_through 47 = .ok (.getfield 59, 3) := by decide +kernel
theorem d_Mo_through_50 : decode b_Mo_through 50 = .ok (.iload_n 1, 1) := by decide +kernel
theorem d_Mo_through_51 : decode b_Mo_through 51 = .ok (.iload_n 2, 1) := by decide +kernel
theorem d_Mo_through_52 : decode b_Mo_through 52 = .ok (.iastore, 1) := by decide +kernel
theorem d_Mo_through_53 : decode b_Mo_through 53 = .ok (.iload_n 3, 1) := by decide +kernel
theorem d_Mo_through_54 : decode b_Mo_through 54 = .ok (.ireturn, 1) := by decide +kernel
theorem d_Mo_placeOf_0 : decode b_Mo_placeOf 0 = .ok (.bipush (24), 2) := by decide +kernel
theorem d_Mo_placeOf_2 : decode b_Mo_placeOf 2 = .ok (.aload_n 0, 1) := by decide +kernel
theorem d_Mo_placeOf_3 : decode b_Mo_placeOf 3 = .ok (.getfield 44, 3) := by decide +kernel
theorem d_Mo_placeOf_6 : decode b_Mo_placeOf 6 = .ok (.iload_n 1, 1) := by decide +kernel
theorem d_Mo_placeOf_7 : decode b_Mo_placeOf 7 = .ok (.iaload, 1) := by decide +kernel
theorem d_Mo_placeOf_8 : decode b_Mo_placeOf 8 = .ok (.iload_n 2, 1) := by decide +kernel
theorem d_Mo_placeOf_9 : decode b_Mo_placeOf 9 = .ok (.iadd, 1) := by decide +kernel
theorem d_Mo_placeOf_10 : decode b_Mo_placeOf 10 = .ok (.imul, 1) := by decide +kernel
theorem d_Mo_placeOf_11 : decode b_Mo_placeOf 11 = .ok (.aload_n 0, 1) := by decide +kernel
theorem d_Mo_placeOf_12 : decode b_Mo_placeOf 12 = .ok (.getfield 41, 3) := by decide +kernel
theorem d_Mo_placeOf_15 : decode b_Mo_placeOf 15 = .ok (.iload_n 1, 1) := by decide +kernel
theorem d_Mo_placeOf_16 : decode b_Mo_placeOf 16 = .ok (.iaload, 1) := by decide +kernel
theorem d_Mo_placeOf_17 : decode b_Mo_placeOf 17 = .ok (.iadd, 1) := by decide +kernel
theorem d_Mo_placeOf_18 : decode b_Mo_placeOf 18 = .ok (.iload_n 3, 1) := by decide +kernel
theorem d_Mo_placeOf_19 : decode b_Mo_placeOf 19 = .ok (.iadd, 1) := by decide +kernel
theorem d_Mo_placeOf_20 : decode b_Mo_placeOf 20 = .ok (.ireturn, 1) := by decide +kernel
theorem d_Mo_draw_0 : decode b_Mo_draw 0 = .ok (.iconst (0), 1) := by decide +kernel
theorem d_Mo_draw_1 : decode b_Mo_draw 1 = .ok (.istore_n 2, 1) := by decide +kernel
theorem d_Mo_draw_2 : decode b_Mo_draw 2 = .ok (.iload_n 2, 1) := by decide +kernel
theorem d_Mo_draw_3 : decode b_Mo_draw 3 = .ok (.sipush (576), 3) := by decide +kernel
theorem d_Mo_draw_6 : decode b_Mo_draw 6 = .ok (.if_icmp .ge (33), 3) := by decide +kernel
theorem d_Mo_draw_9 : decode b_Mo_draw 9 = .ok (.aload_n 0, 1) := by decide +kernel
theorem d_Mo_draw_10 : decode b_Mo_draw 10 = .ok (.getfield 74, 3) := by decide +kernel
theorem d_Mo_draw_13 : decode b_Mo_draw 13 = .ok (.iload_n 2, 1) := by decide +kernel
theorem d_Mo_draw_14 : decode b_Mo_draw 14 = .ok (.aload_n 0, 1) := by decide +kernel
theorem d_Mo_draw_15 : decode b_Mo_draw 15 = .ok (.getfield 68, 3) := by decide +kernel
theorem d_Mo_draw_18 : decode b_Mo_draw 18 = .ok (.iload_n 2, 1) := by decide +kernel
theorem d_Mo_draw_19 : decode b_Mo_draw 19 = .ok (.iaload, 1) := by decide +kernel
theorem d_Mo_draw_20 : decode b_Mo_draw 20 = .ok (.iastore, 1) := by decide +kernel
theorem d_Mo_draw_21 : decode b_Mo_draw 21 = .ok (.aload_n 0, 1) := by decide +kernel
theorem d_Mo_draw_22 : decode b_Mo_draw 22 = .ok (.getfield 77, 3) := by decide +kernel
theorem d_Mo_draw_25 : decode b_Mo_draw 25 = .ok (.iload_n 2, 1) := by decide +kernel
theorem d_Mo_draw_26 : decode b_Mo_draw 26 = .ok (.aload_n 0, 1) := by decide +kernel
theorem d_Mo_draw_27 : decode b_Mo_draw 27 = .ok (.getfield 71, 3) := by decide +kernel
theorem d_Mo_draw_30 : decode b_Mo_draw 30 = .ok (.iload_n 2, 1) := by decide +kernel
theorem d_Mo_draw_31 : decode b_Mo_draw 31 = .ok (.iaload, 1) := by decide +kernel
theorem d_Mo_draw_32 : decode b_Mo_draw 32 = .ok (.iastore, 1) := by decide +kernel
theorem d_Mo_draw_33 : decode b_Mo_draw 33 = .ok (.iinc 2 (1), 3) := by decide +kernel
theorem d_Mo_draw_36 : decode b_Mo_draw 36 = .ok (.goto (-34), 3) := by decide +kernel
theorem d_Mo_draw_39 : decode b_Mo_draw 39 = .ok (.iconst (0), 1) := by decide +kernel
theorem d_Mo_draw_40 : decode b_Mo_draw 40 = .ok (.istore_n 2, 1) := by decide +kernel
theorem d_Mo_draw_41 : decode b_Mo_draw 41 = .ok (.iload_n 2, 1) := by decide +kernel
theorem d_Mo_draw_42 : decode b_Mo_draw 42 = .ok (.aload_n 0, 1) := by decide +kernel
theorem d_Mo_draw_43 : decode b_Mo_draw 43 = .ok (.getfield 50, 3) := by decide +kernel
theorem d_Mo_draw_46 : decode b_Mo_draw 46 = .ok (.iload_n 1, 1) := by decide +kernel
theorem d_Mo_draw_47 : decode b_Mo_draw 47 = .ok (.iaload, 1) := by decide +kernel
theorem d_Mo_draw_48 : decode b_Mo_draw 48 = .ok (.if_icmp .ge (84), 3) := by decide +kernel
theorem d_Mo_draw_51 : decode b_Mo_draw 51 = .ok (.iconst (0), 1) := by decide +kernel
theorem d_Mo_draw_52 : decode b_Mo_draw 52 = .ok (.istore_n 3, 1) := by decide +kernel
theorem d_Mo_draw_53 : decode b_Mo_draw 53 = .ok (.iload_n 3, 1) := by decide +kernel
theorem d_Mo_draw_54 : decode b_Mo_draw 54 = .ok (.aload_n 0, 1) := by decide +kernel
theorem d_Mo_draw_55 : decode b_Mo_draw 55 = .ok (.getfield 47, 3) := by decide +kernel
theorem d_Mo_draw_58 : decode b_Mo_draw 58 = .ok (.iload_n 1, 1) := by decide +kernel
theorem d_Mo_draw_59 : decode b_Mo_draw 59 = .ok (.iaload, 1) := by decide +kernel
theorem d_Mo_draw_60 : decode b_Mo_draw 60 = .ok (.if_icmp .ge (66), 3) := by decide +kernel
theorem d_Mo_draw_63 : decode b_Mo_draw 63 = .ok (.aload_n 0, 1) := by decide +kernel
theorem d_Mo_draw_64 : decode b_Mo_draw 64 = .ok (.getfield 62, 3) := by decide +kernel
theorem d_Mo_draw_67 : decode b_Mo_draw 67 = .ok (.sipush (576), 3) := by decide +kernel
theorem d_Mo_draw_70 : decode b_Mo_draw 70 = .ok (.iload_n 1, 1) := by decide +kernel
theorem d_Mo_draw_71 : decode b_Mo_draw 71 = .ok (.imul, 1) := by decide +kernel
theorem d_Mo_draw_72 : decode b_Mo_draw 72 = .ok (.bipush (24), 2) := by decide +kernel
theorem d_Mo_draw_74 : decode b_Mo_draw 74 = .ok (.iload_n 2, 1) := by decide +kernel
theorem d_Mo_draw_75 : decode b_Mo_draw 75 = .ok (.imul, 1) := by decide +kernel
theorem d_Mo_draw_76 : decode b_Mo_draw 76 = .ok (.iadd, 1) := by decide +kernel
theorem d_Mo_draw_77 : decode b_Mo_draw 77 = .ok (.iload_n 3, 1) := by decide +kernel
theorem d_Mo_draw_78 : decode b_Mo_draw 78 = .ok (.iadd, 1) := by decide +kernel
theorem d_Mo_draw_79 : decode b_Mo_draw 79 = .ok (.iaload, 1) := by decide +kernel
theorem d_Mo_draw_80 : decode b_Mo_draw 80 = .ok (.istore 4, 2) := by decide +kernel
theorem d_Mo_draw_82 : decode b_Mo_draw 82 = .ok (.iload 4, 2) := by decide +kernel
theorem d_Mo_draw_84 : decode b_Mo_draw 84 = .ok (.aload_n 0, 1) := by decide +kernel
theorem d_Mo_draw_85 : decode b_Mo_draw 85 = .ok (.getfield 59, 3) := by decide +kernel
theorem d_Mo_draw_88 : decode b_Mo_draw 88 = .ok (.iload_n 1, 1) := by decide +kernel
theorem d_Mo_draw_89 : decode b_Mo_draw 89 = .ok (.iaload, 1) := by decide +kernel
theorem d_Mo_draw_90 : decode b_Mo_draw 90 = .ok (.if_icmp .eq (30), 3) := by decide +kernel
theorem d_Mo_draw_93 : decode b_Mo_draw 93 = .ok (.aload_n 0, 1) := by decide +kernel
theorem d_Mo_draw_94 : decode b_Mo_draw 94 = .ok (.getfield 68, 3) := by decide +kernel
theorem d_Mo_draw_97 : decode b_Mo_draw 97 = .ok (.aload_n 0, 1) := by decide +kernel
theorem d_Mo_draw_98 : decode b_Mo_draw 98 = .ok (.iload_n 1, 1) := by decide +kernel
theorem d_Mo_draw_99 : decode b_Mo_draw 99 = .ok (.iload_n 2, 1) := by decide +kernel
theorem d_Mo_draw_100 : decode b_Mo_draw 100 = .ok (.iload_n 3, 1) := by decide +kernel
theorem d_Mo_draw_101 : decode b_Mo_draw 101 = .ok (.invokevirtual 168, 3) := by decide +kernel
theorem d_Mo_draw_104 : decode b_Mo_draw 104 = .ok (.iload_n 1, 1) := by decide +kernel
theorem d_Mo_draw_105 : decode b_Mo_draw 105 = .ok (.iastore, 1) := by decide +kernel
theorem d_Mo_draw_106 : decode b_Mo_draw 106 = .ok (.aload_n 0, 1) := by decide +kernel
theorem d_Mo_draw_107 : decode b_Mo_draw 107 = .ok (.getfield 71, 3) := by decide +kernel
theorem d_Mo_draw_110 : decode b_Mo_draw 110 = .ok (.aload_n 0, 1) := by decide +kernel
theorem d_Mo_draw_111 : decode b_Mo_draw 111 = .ok (.iload_n 1, 1) := by decide +kernel
theorem d_Mo_draw_112 : decode b_Mo_draw 112 = .ok (.iload_n 2, 1) := by decide +kernel
theorem d_Mo_draw_113 : decode b_Mo_draw 113 = .ok (.iload_n 3, 1) := by decide +kernel
theorem d_Mo_draw_114 : decode b_Mo_draw 114 = .ok (.invokevirtual 168, 3) := by decide +kernel
theorem d_Mo_draw_117 : decode b_Mo_draw 117 = .ok (.iload 4, 2) := by decide +kernel
theorem d_Mo_draw_119 : decode b_Mo_draw 119 = .ok (.iastore, 1) := by decide +kernel
theorem d_Mo_draw_120 : decode b_Mo_draw 120 = .ok (.iinc 3 (1), 3) := by decide +kernel
theorem d_Mo_draw_123 : decode b_Mo_draw 123 = .ok (.goto (-70), 3) := by decide +kernel
theorem d_Mo_draw_126 : decode b_Mo_draw 126 = .ok (.iinc 2 (1), 3) := by decide +kernel
theorem d_Mo_draw_129 : decode b_Mo_draw 129 = .ok (.goto (-88), 3) := by decide +kernel
theorem d_Mo_draw_132 : decode b_Mo_draw 132 = .ok (.return_, 1) := by decide +kernel
theorem d_Mo_takeAway_0 : decode b_Mo_takeAway 0 = .ok (.iconst (0), 1) := by decide +kernel
theorem d_Mo_takeAway_1 : decode b_Mo_takeAway 1 = .ok (.istore_n 2, 1) := by decide +kernel
theorem d_Mo_takeAway_2 : decode b_Mo_takeAway 2 = .ok (.iload_n 2, 1) := by decide +kernel
theorem d_Mo_takeAway_3 : decode b_Mo_takeAway 3 = .ok (.aload_n 0, 1) := by decide +kernel
theorem d_Mo_takeAway_4 : decode b_Mo_takeAway 4 = .ok (.getfield 50, 3) := by decide +kernel
theorem d_Mo_takeAway_7 : decode b_Mo_takeAway 7 = .ok (.iload_n 1, 1) := by decide +kernel
theorem d_Mo_takeAway_8 : decode b_Mo_takeAway 8 = .ok (.iaload, 1) := by decide +kernel
theorem d_Mo_takeAway_9 : decode b_Mo_takeAway 9 = .ok (.if_icmp .ge (102), 3) := by decide +kernel
theorem d_Mo_takeAway_12 : decode b_Mo_takeAway 12 = .ok (.aload_n 0, 1) := by decide +kernel
theorem d_Mo_takeAway_13 : decode b_Mo_takeAway 13 = .ok (.getfield 53, 3) := by decide +kernel
theorem d_Mo_takeAway_16 : decode b_Mo_takeAway 16 = .ok (.iload_n 1, 1) := by decide +kernel
theorem d_Mo_takeAway_17 : decode b_Mo_takeAway 17 = .ok (.iaload, 1) := by decide +kernel
theorem d_Mo_takeAway_18 : decode b_Mo_takeAway 18 = .ok (.iconst (1), 1) := by decide +kernel
theorem d_Mo_takeAway_19 : decode b_Mo_takeAway 19 = .ok (.if_icmp .le (92), 3) := by decide +kernel
theorem d_Mo_takeAway_22 : decode b_Mo_takeAway 22 = .ok (.iconst (0), 1) := by decide +kernel
theorem d_Mo_takeAway_23 : decode b_Mo_takeAway 23 = .ok (.istore_n 3, 1) := by decide +kernel
theorem d_Mo_takeAway_24 : decode b_Mo_takeAway 24 = .ok (.iload_n 3, 1) := by decide +kernel
theorem d_Mo_takeAway_25 : decode b_Mo_takeAway 25 = .ok (.aload_n 0, 1) := by decide +kernel
theorem d_Mo_takeAway_26 : decode b_Mo_takeAway 26 = .ok (.getfield 47, 3) := by decide +kernel
theorem d_Mo_takeAway_29 : decode b_Mo_takeAway 29 = .ok (.iload_n 1, 1) := by decide +kernel
theorem d_Mo_takeAway_30 : decode b_Mo_takeAway 30 = .ok (.iaload, 1) := by decide +kernel
theorem d_Mo_takeAway_31 : decode b_Mo_takeAway 31 = .ok (.if_icmp .ge (74), 3) := by decide +kernel
theorem d_Mo_takeAway_34 : decode b_Mo_takeAway 34 = .ok (.aload_n 0, 1) := by decide +kernel
theorem d_Mo_takeAway_35 : decode b_Mo_takeAway 35 = .ok (.iload_n 1, 1) := by decide +kernel
theorem d_Mo_takeAway_36 : decode b_Mo_takeAway 36 = .ok (.iload_n 2, 1) := by decide +kernel
theorem d_Mo_takeAway_37 : decode b_Mo_takeAway 37 = .ok (.iload_n 3, 1) := by decide +kernel
theorem d_Mo_takeAway_38 : decode b_Mo_takeAway 38 = .ok (.invokevirtual 168, 3) := by decide +kernel
theorem d_Mo_takeAway_41 : decode b_Mo_takeAway 41 = .ok (.istore 4, 2) := by decide +kernel
theorem d_Mo_takeAway_43 : decode b_Mo_takeAway 43 = .ok (.aload_n 0, 1) := by decide +kernel
theorem d_Mo_takeAway_44 : decode b_Mo_takeAway 44 = .ok (.getfield 68, 3) := by decide +kernel
theorem d_Mo_takeAway_47 : decode b_Mo_takeAway 47 = .ok (.iload 4, 2) := by decide +kernel
theorem d_Mo_takeAway_49 : decode b_Mo_takeAway 49 = .ok (.aload_n 0, 1) := by decide +kernel
theorem d_Mo_takeAway_50 : decode b_Mo_takeAway 50 = .ok (.getfield 53, 3) := by decide +kernel
theorem d_Mo_takeAway_53 : decode b_Mo_takeAway 53 = .ok (.iload_n 1, 1) := by decide +kernel
theorem d_Mo_takeAway_54 : decode b_Mo_takeAway 54 = .ok (.iaload, 1) := by decide +kernel
theorem d_Mo_takeAway_55 : decode b_Mo_takeAway 55 = .ok (.iconst (2), 1) := by decide +kernel
theorem d_Mo_takeAway_56 : decode b_Mo_takeAway 56 = .ok (.if_icmp .ne (7), 3) := by decide +kernel
theorem d_Mo_takeAway_59 : decode b_Mo_takeAway 59 = .ok (.iconst (-1), 1) := by decide +kernel
theorem d_Mo_takeAway_60 : decode b_Mo_takeAway 60 = .ok (.goto (10), 3) := by decide +kernel
theorem d_Mo_takeAway_63 : decode b_Mo_takeAway 63 = .ok (.aload_n 0, 1) := by decide +kernel
theorem d_Mo_takeAway_64 : decode b_Mo_takeAway 64 = .ok (.getfield 74, 3) := by decide +kernel
theorem d_Mo_takeAway_67 : decode b_Mo_takeAway 67 = .ok (.iload 4, 2) := by decide +kernel
theorem d_Mo_takeAway_69 : decode b_Mo_takeAway 69 = .ok (.iaload, 1) := by decide +kernel
theorem d_Mo_takeAway_70 : decode b_Mo_takeAway 70 = .ok (.iastore, 1) := by decide +kernel
theorem d_Mo_takeAway_71 : decode b_Mo_takeAway 71 = .ok (.aload_n 0, 1) := by decide +kernel
theorem d_Mo_takeAway_72 : decode b_Mo_takeAway 72 = .ok (.getfield 71, 3) := by decide +kernel
theorem d_Mo_takeAway_75 : decode b_Mo_takeAway 75 = .ok (.iload 4, 2) := by decide +kernel
theorem d_Mo_takeAway_77 : decode b_Mo_takeAway 77 = .ok (.aload_n 0, 1) := by decide +kernel
theorem d_Mo_takeAway_78 : decode b_Mo_takeAway 78 = .ok (.getfield 53, 3) := by decide +kernel
theorem d_Mo_takeAway_81 : decode b_Mo_takeAway 81 = .ok (.iload_n 1, 1) := by decide +kernel
theorem d_Mo_takeAway_82 : decode b_Mo_takeAway 82 = .ok (.iaload, 1) := by decide +kernel
theorem d_Mo_takeAway_83 : decode b_Mo_takeAway 83 = .ok (.iconst (2), 1) := by decide +kernel
theorem d_Mo_takeAway_84 : decode b_Mo_takeAway 84 = .ok (.if_icmp .ne (7), 3) := by decide +kernel
theorem d_Mo_takeAway_87 : decode b_Mo_takeAway 87 = .ok (.iconst (-1), 1) := by decide +kernel
theorem d_Mo_takeAway_88 : decode b_Mo_takeAway 88 = .ok (.goto (10), 3) := by decide +kernel
theorem d_Mo_takeAway_91 : decode b_Mo_takeAway 91 = .ok (.aload_n 0, 1) := by decide +kernel
theorem d_Mo_takeAway_92 : decode b_Mo_takeAway 92 = .ok (.getfield 77, 3) := by decide +kernel
theorem d_Mo_takeAway_95 : decode b_Mo_takeAway 95 = .ok (.iload 4, 2) := by decide +kernel
theorem d_Mo_takeAway_97 : decode b_Mo_takeAway 97 = .ok (.iaload, 1) := by decide +kernel
theorem d_Mo_takeAway_98 : decode b_Mo_takeAway 98 = .ok (.iastore, 1) := by decide +kernel
theorem d_Mo_takeAway_99 : decode b_Mo_takeAway 99 = .ok (.iinc 3 (1), 3) := by decide +kernel
theorem d_Mo_takeAway_102 : decode b_Mo_takeAway 102 = .ok (.goto (-78), 3) := by decide +kernel
theorem d_Mo_takeAway_105 : decode b_Mo_takeAway 105 = .ok (.iinc 2 (1), 3) := by decide +kernel
theorem d_Mo_takeAway_108 : decode b_Mo_takeAway 108 = .ok (.goto (-106), 3) := by decide +kernel
theorem d_Mo_takeAway_111 : decode b_Mo_takeAway 111 = .ok (.return_, 1) := by decide +kernel
theorem d_Mo_shown_0 : decode b_Mo_shown 0 = .ok (.aload_n 0, 1) := by decide +kernel
theorem d_Mo_shown_1 : decode b_Mo_shown 1 = .ok (.aload_n 0, 1) := by decide +kernel
theorem d_Mo_shown_2 : decode b_Mo_shown 2 = .ok (.iload_n 1, 1) := by decide +kernel
theorem d_Mo_shown_3 : decode b_Mo_shown 3 = .ok (.invokevirtual 160, 3) := by decide +kernel
theorem d_Mo_shown_6 : decode b_Mo_shown 6 = .ok (.ifCond .eq (27), 3) := by decide +kernel
theorem d_Mo_shown_9 : decode b_Mo_shown 9 = .ok (.iload_n 2, 1) := by decide +kernel
theorem d_Mo_shown_10 : decode b_Mo_shown 10 = .ok (.ifCond .lt (23), 3) := by decide +kernel
theorem d_Mo_shown_13 : decode b_Mo_shown 13 = .ok (.iload_n 2, 1) := by decide +kernel
theorem d_Mo_shown_14 : decode b_Mo_shown 14 = .ok (.bipush (24), 2) := by decide +kernel
theorem d_Mo_shown_16 : decode b_Mo_shown 16 = .ok (.if_icmp .ge (17), 3) := by decide +kernel
theorem d_Mo_shown_19 : decode b_Mo_shown 19 = .ok (.iload_n 3, 1) := by decide +kernel
theorem d_Mo_shown_20 : decode b_Mo_shown 20 = .ok (.ifCond .lt (13), 3) := by decide +kernel
theorem d_Mo_shown_23 : decode b_Mo_shown 23 = .ok (.iload_n 3, 1) := by decide +kernel
theorem d_Mo_shown_24 : decode b_Mo_shown 24 = .ok (.bipush (24), 2) := by decide +kernel
theorem d_Mo_shown_26 : decode b_Mo_shown 26 = .ok (.if_icmp .ge (7), 3) := by decide +kernel
theorem d_Mo_shown_29 : decode b_Mo_shown 29 = .ok (.iconst (0), 1) := by decide +kernel
theorem d_Mo_shown_30 : decode b_Mo_shown 30 = .ok (.goto (4), 3) := by decide +kernel
theorem d_Mo_shown_33 : decode b_Mo_shown 33 = .ok (.iconst (1), 1) := by decide +kernel
theorem d_Mo_shown_34 : decode b_Mo_shown 34 = .ok (.putfield 92, 3) := by decide +kernel
theorem d_Mo_shown_37 : decode b_Mo_shown 37 = .ok (.aload_n 0, 1) := by decide +kernel
theorem d_Mo_shown_38 : decode b_Mo_shown 38 = .ok (.getfield 92, 3) := by decide +kernel
theorem d_Mo_shown_41 : decode b_Mo_shown 41 = .ok (.ifCond .le (5), 3) := by decide +kernel
theorem d_Mo_shown_44 : decode b_Mo_shown 44 = .ok (.iconst (0), 1) := by decide +kernel
theorem d_Mo_shown_45 : decode b_Mo_shown 45 = .ok (.ireturn, 1) := by decide +kernel
theorem d_Mo_shown_46 : decode b_Mo_shown 46 = .ok (.iconst (0), 1) := by decide +kernel
theorem d_Mo_shown_47 : decode b_Mo_shown 47 = .ok (.istore 4, 2) := by decide +kernel
theorem d_Mo_shown_49 : decode b_Mo_shown 49 = .ok (.iload 4, 2) := by decide +kernel
theorem d_Mo_shown_51 : decode b_Mo_shown 51 = .ok (.sipush (576), 3) := by decide +kernel
theorem d_Mo_shown_54 : decode b_Mo_shown 54 = .ok (.if_icmp .ge (17), 3) := by decide +kernel
theorem d_Mo_shown_57 : decode b_Mo_shown 57 = .ok (.aload_n 0, 1) := by decide +kernel
theorem d_Mo_shown_58 : decode b_Mo_shown 58 = .ok (.getfield 68, 3) := by decide +kernel
theorem d_Mo_shown_61 : decode b_Mo_shown 61 = .ok (.iload 4, 2) := by decide +kernel
theorem d_Mo_shown_63 : decode b_Mo_shown 63 = .ok (.iconst (-1), 1) := by decide +kernel
theorem d_Mo_shown_64 : decode b_Mo_shown 64 = .ok (.iastore, 1) := by decide +kernel
theorem d_Mo_shown_65 : decode b_Mo_shown 65 = .ok (.iinc 4 (1), 3) := by decide +kernel
theorem d_Mo_shown_68 : decode b_Mo_shown 68 = .ok (.goto (-19), 3) := by decide +kernel
theorem d_Mo_shown_71 : decode b_Mo_shown 71 = .ok (.iconst (0), 1) := by decide +kernel
theorem d_Mo_shown_72 : decode b_Mo_shown 72 = .ok (.istore 4, 2) := by decide +kernel
theorem d_Mo_shown_74 : decode b_Mo_shown 74 = .ok (.iload 4, 2) := by decide +kernel
theorem d_Mo_shown_76 : decode b_Mo_shown 76 = .ok (.iload_n 1, 1) := by decide +kernel
theorem d_Mo_shown_77 : decode b_Mo_shown 77 = .ok (.if_icmp .gt (28), 3) := by decide +kernel
theorem d_Mo_shown_80 : decode b_Mo_shown 80 = .ok (.iload 4, 2) := by decide +kernel
theorem d_Mo_shown_82 : decode b_Mo_shown 82 = .ok (.ifCond .le (11), 3) := by decide +kernel
theorem d_Mo_shown_85 : decode b_Mo_shown 85 = .ok (.aload_n 0, 1) := by decide +kernel
theorem d_Mo_shown_86 : decode b_Mo_shown 86 = .ok (.iload 4, 2) := by decide +kernel
theorem d_Mo_shown_88 : decode b_Mo_shown 88 = .ok (.iconst (1), 1) := by decide +kernel
theorem d_Mo_shown_89 : decode b_Mo_shown 89 = .ok (.isub, 1) := by decide +kernel
theorem d_Mo_shown_90 : decode b_Mo_shown 90 = .ok (.invokevirtual 172, 3) := by decide +kernel
theorem d_Mo_shown_93 : decode b_Mo_shown 93 = .ok (.aload_n 0, 1) := by decide +kernel
theorem d_Mo_shown_94 : decode b_Mo_shown 94 = .ok (.iload 4, 2) := by decide +kernel
theorem d_Mo_shown_96 : decode b_Mo_shown 96 = .ok (.invokevirtual 175, 3) := by decide +kernel
theorem d_Mo_shown_99 : decode b_Mo_shown 99 = .ok (.iinc 4 (1), 3) := by decide +kernel
theorem d_Mo_shown_102 : decode b_Mo_shown 102 = .ok (.goto (-28), 3) := by decide +kernel
theorem d_Mo_shown_105 : decode b_Mo_shown 105 = .ok (.aload_n 0, 1) := by decide +kernel
theorem d_Mo_shown_106 : decode b_Mo_shown 106 = .ok (.getfield 68, 3) := by decide +kernel
theorem d_Mo_shown_109 : decode b_Mo_shown 109 = .ok (.bipush (24), 2) := by decide +kernel
theorem d_Mo_shown_111 : decode b_Mo_shown 111 = .ok (.iload_n 3, 1) := by decide +kernel
theorem d_Mo_shown_112 : decode b_Mo_shown 112 = .ok (.imul, 1) := by decide +kernel
theorem d_Mo_shown_113 : decode b_Mo_shown 113 = .ok (.iload_n 2, 1) := by decide +kernel
theorem d_Mo_shown_114 : decode b_Mo_shown 114 = .ok (.iadd, 1) := by decide +kernel
theorem d_Mo_shown_115 : decode b_Mo_shown 115 = .ok (.iaload, 1) := by decide +kernel
theorem d_Mo_shown_116 : decode b_Mo_shown 116 = .ok (.istore 4, 2) := by decide +kernel
theorem d_Mo_shown_118 : decode b_Mo_shown 118 = .ok (.aload_n 0, 1) := by decide +kernel
theorem d_Mo_shown_119 : decode b_Mo_shown 119 = .ok (.getfield 71, 3) := by decide +kernel
theorem d_Mo_shown_122 : decode b_Mo_shown 122 = .ok (.bipush (24), 2) := by decide +kernel
theorem d_Mo_shown_124 : decode b_Mo_shown 124 = .ok (.iload_n 3, 1) := by decide +kernel
theorem d_Mo_shown_125 : decode b_Mo_shown 125 = .ok (.imul, 1) := by decide +kernel
theorem d_Mo_shown_126 : decode b_Mo_shown 126 = .ok (.iload_n 2, 1) := by decide +kernel
theorem d_Mo_shown_127 : decode b_Mo_shown 127 = .ok (.iadd, 1) := by decide +kernel
theorem d_Mo_shown_128 : decode b_Mo_shown 128 = .ok (.iaload, 1) := by decide +kernel
theorem d_Mo_shown_129 : decode b_Mo_shown 129 = .ok (.istore 5, 2) := by decide +kernel
theorem d_Mo_shown_131 : decode b_Mo_shown 131 = .ok (.iload 4, 2) := by decide +kernel
theorem d_Mo_shown_133 : decode b_Mo_shown 133 = .ok (.ifCond .ge (5), 3) := by decide +kernel
theorem d_Mo_shown_136 : decode b_Mo_shown 136 = .ok (.iconst (-1), 1) := by decide +kernel
theorem d_Mo_shown_137 : decode b_Mo_shown 137 = .ok (.ireturn, 1) := by decide +kernel
theorem d_Mo_shown_138 : decode b_Mo_shown 138 = .ok (.aload_n 0, 1) := by decide +kernel
theorem d_Mo_shown_139 : decode b_Mo_shown 139 = .ok (.getfield 65, 3) := by decide +kernel
theorem d_Mo_shown_142 : decode b_Mo_shown 142 = .ok (.sipush (256), 3) := by decide +kernel
theorem d_Mo_shown_145 : decode b_Mo_shown 145 = .ok (.iload 4, 2) := by decide +kernel
theorem d_Mo_shown_147 : decode b_Mo_shown 147 = .ok (.imul, 1) := by decide +kernel
theorem d_Mo_shown_148 : decode b_Mo_shown 148 = .ok (.iload 5, 2) := by decide +kernel
theorem d_Mo_shown_150 : decode b_Mo_shown 150 = .ok (.iadd, 1) := by decide +kernel
theorem d_Mo_shown_151 : decode b_Mo_shown 151 = .ok (.iaload, 1) := by decide +kernel
theorem d_Mo_shown_152 : decode b_Mo_shown 152 = .ok (.istore 6, 2) := by decide +kernel
theorem d_Mo_shown_154 : decode b_Mo_shown 154 = .ok (.iload 6, 2) := by decide +kernel
theorem d_Mo_shown_156 : decode b_Mo_shown 156 = .ok (.ifCond .lt (8), 3) := by decide +kernel
theorem d_Mo_shown_159 : decode b_Mo_shown 159 = .ok (.iload 6, 2) := by decide +kernel
theorem d_Mo_shown_161 : decode b_Mo_shown 161 = .ok (.goto (14), 3) := by decide +kernel
theorem d_Mo_shown_164 : decode b_Mo_shown 164 = .ok (.aload_n 0, 1) := by decide +kernel
theorem d_Mo_shown_165 : decode b_Mo_shown 165 = .ok (.getfield 65, 3) := by decide +kernel
theorem d_Mo_shown_168 : decode b_Mo_shown 168 = .ok (.sipush (3072), 3) := by decide +kernel
theorem d_Mo_shown_171 : decode b_Mo_shown 171 = .ok (.iload 5, 2) := by decide +kernel
theorem d_Mo_shown_173 : decode b_Mo_shown 173 = .ok (.iadd, 1) := by decide +kernel
theorem d_Mo_shown_174 : decode b_Mo_shown 174 = .ok (.iaload, 1) := by decide +kernel
theorem d_Mo_shown_175 : decode b_Mo_shown 175 = .ok (.ireturn, 1) := by decide +kernel
theorem d_Mo_symbol_0 : decode b_Mo_symbol 0 = .ok (.aload_n 0, 1) := by decide +kernel
theorem d_Mo_symbol_1 : decode b_Mo_symbol 1 = .ok (.aload_n 0, 1) := by decide +kernel
theorem d_Mo_symbol_2 : decode b_Mo_symbol 2 = .ok (.iload_n 1, 1) := by decide +kernel
theorem d_Mo_symbol_3 : decode b_Mo_symbol 3 = .ok (.invokevirtual 160, 3) := by decide +kernel
theorem d_Mo_symbol_6 : decode b_Mo_symbol 6 = .ok (.ifCond .eq (35), 3) := by decide +kernel
theorem d_Mo_symbol_9 : decode b_Mo_symbol 9 = .ok (.iload_n 2, 1) := by decide +kernel
theorem d_Mo_symbol_10 : decode b_Mo_symbol 10 = .ok (.ifCond .lt (31), 3) := by decide +kernel
theorem d_Mo_symbol_13 : decode b_Mo_symbol 13 = .ok (.iload_n 2, 1) := by decide +kernel
theorem d_Mo_symbol_14 : decode b_Mo_symbol 14 = .ok (.aload_n 0, 1) := by decide +kernel
theorem d_Mo_symbol_15 : decode b_Mo_symbol 15 = .ok (.getfield 47, 3) := by decide +kernel
theorem d_Mo_symbol_18 : decode b_Mo_symbol 18 = .ok (.iload_n 1, 1) := by decide +kernel
theorem d_Mo_symbol_19 : decode b_Mo_symbol 19 = .ok (.iaload, 1) := by decide +kernel
theorem d_Mo_symbol_20 : decode b_Mo_symbol 20 = .ok (.if_icmp .ge (21), 3) := by decide +kernel
theorem d_Mo_symbol_23 : decode b_Mo_symbol 23 = .ok (.iload_n 3, 1) := by decide +kernel
theorem d_Mo_symbol_24 : decode b_Mo_symbol 24 = .ok (.ifCond .lt (17), 3) := by decide +kernel
theorem d_Mo_symbol_27 : decode b_Mo_symbol 27 = .ok (.iload_n 3, 1) := by decide +kernel
theorem d_Mo_symbol_28 : decode b_Mo_symbol 28 = .ok (.aload_n 0, 1) := by decide +kernel
theorem d_Mo_symbol_29 : decode b_Mo_symbol 29 = .ok (.getfield 50, 3) := by decide +kernel
theorem d_Mo_symbol_32 : decode b_Mo_symbol 32 = .ok (.iload_n 1, 1) := by decide +kernel
theorem d_Mo_symbol_33 : decode b_Mo_symbol 33 = .ok (.iaload, 1) := by decide +kernel
theorem d_Mo_symbol_34 : decode b_Mo_symbol 34 = .ok (.if_icmp .ge (7), 3) := by decide +kernel
theorem d_Mo_symbol_37 : decode b_Mo_symbol 37 = .ok (.iconst (0), 1) := by decide +kernel
theorem d_Mo_symbol_38 : decode b_Mo_symbol 38 = .ok (.goto (4), 3) := by decide +kernel
theorem d_Mo_symbol_41 : decode b_Mo_symbol 41 = .ok (.iconst (1), 1) := by decide +kernel
theorem d_Mo_symbol_42 : decode b_Mo_symbol 42 = .ok (.putfield 92, 3) := by decide +kernel
theorem d_Mo_symbol_45 : decode b_Mo_symbol 45 = .ok (.aload_n 0, 1) := by decide +kernel
theorem d_Mo_symbol_46 : decode b_Mo_symbol 46 = .ok (.getfield 92, 3) := by decide +kernel
theorem d_Mo_symbol_49 : decode b_Mo_symbol 49 = .ok (.ifCond .le (7), 3) := by decide +kernel
theorem d_Mo_symbol_52 : decode b_Mo_symbol 52 = .ok (.iconst (0), 1) := by decide +kernel
theorem d_Mo_symbol_53 : decode b_Mo_symbol 53 = .ok (.goto (20), 3) := by decide +kernel
theorem d_Mo_symbol_56 : decode b_Mo_symbol 56 = .ok (.aload_n 0, 1) := by decide +kernel
theorem d_Mo_symbol_57 : decode b_Mo_symbol 57 = .ok (.getfield 62, 3) := by decide +kernel
theorem d_Mo_symbol_60 : decode b_Mo_symbol 60 = .ok (.sipush (576), 3) := by decide +kernel
theorem d_Mo_symbol_63 : decode b_Mo_symbol 63 = .ok (.iload_n 1, 1) := by decide +kernel
theorem d_Mo_symbol_64 : decode b_Mo_symbol 64 = .ok (.imul, 1) := by decide +kernel
theorem d_Mo_symbol_65 : decode b_Mo_symbol 65 = .ok (.bipush (24), 2) := by decide +kernel
theorem d_Mo_symbol_67 : decode b_Mo_symbol 67 = .ok (.iload_n 3, 1) := by decide +kernel
theorem d_Mo_symbol_68 : decode b_Mo_symbol 68 = .ok (.imul, 1) := by decide +kernel
theorem d_Mo_symbol_69 : decode b_Mo_symbol 69 = .ok (.iadd, 1) := by decide +kernel
theorem d_Mo_symbol_70 : decode b_Mo_symbol 70 = .ok (.iload_n 2, 1) := by decide +kernel
theorem d_Mo_symbol_71 : decode b_Mo_symbol 71 = .ok (.iadd, 1) := by decide +kernel
theorem d_Mo_symbol_72 : decode b_Mo_symbol 72 = .ok (.iaload, 1) := by decide +kernel
theorem d_Mo_symbol_73 : decode b_Mo_symbol 73 = .ok (.ireturn, 1) := by decide +kernel
theorem d_Mo_when_0 : decode b_Mo_when 0 = .ok (.aload_n 0, 1) := by decide +kernel
theorem d_Mo_when_1 : decode b_Mo_when 1 = .ok (.iload_n 1, 1) := by decide +kernel
theorem d_Mo_when_2 : decode b_Mo_when 2 = .ok (.ifCond .lt (7), 3) := by decide +kernel
theorem d_Mo_when_5 : decode b_Mo_when 5 = .ok (.iload_n 2, 1) := by decide +kernel
theorem d_Mo_when_6 : decode b_Mo_when 6 = .ok (.ifCond .ge (7), 3) := by decide +kernel
theorem d_Mo_when_9 : decode b_Mo_when 9 = .ok (.iconst (1), 1) := by decide +kernel
theorem d_Mo_when_10 : decode b_Mo_when 10 = .ok (.goto (4), 3) := by decide +kernel
theorem d_Mo_when_13 : decode b_Mo_when 13 = .ok (.iconst (0), 1) := by decide +kernel
theorem d_Mo_when_14 : decode b_Mo_when 14 = .ok (.putfield 92, 3) := by decide +kernel
theorem d_Mo_when_17 : decode b_Mo_when 17 = .ok (.aload_n 0, 1) := by decide +kernel
theorem d_Mo_when_18 : decode b_Mo_when 18 = .ok (.getfield 92, 3) := by decide +kernel
theorem d_Mo_when_21 : decode b_Mo_when 21 = .ok (.ifCond .le (5), 3) := by decide +kernel
theorem d_Mo_when_24 : decode b_Mo_when 24 = .ok (.iconst (0), 1) := by decide +kernel
theorem d_Mo_when_25 : decode b_Mo_when 25 = .ok (.ireturn, 1) := by decide +kernel
theorem d_Mo_when_26 : decode b_Mo_when 26 = .ok (.lconst 0, 1) := by decide +kernel
theorem d_Mo_when_27 : decode b_Mo_when 27 = .ok (.lstore_n 3, 1) := by decide +kernel
theorem d_Mo_when_28 : decode b_Mo_when 28 = .ok (.iconst (0), 1) := by decide +kernel
theorem d_Mo_when_29 : decode b_Mo_when 29 = .ok (.istore 5, 2) := by decide +kernel
theorem d_Mo_when_31 : decode b_Mo_when 31 = .ok (.iload 5, 2) := by decide +kernel
theorem d_Mo_when_33 : decode b_Mo_when 33 = .ok (.aload_n 0, 1) := by decide +kernel
theorem d_Mo_when_34 : decode b_Mo_when 34 = .ok (.getfield 110, 3) := by decide +kernel
theorem d_Mo_when_37 : decode b_Mo_when 37 = .ok (.if_icmp .ge (20), 3) := by decide +kernel
theorem d_Mo_when_40 : decode b_Mo_when 40 = .ok (.lload_n 3, 1) := by decide +kernel
theorem d_Mo_when_41 : decode b_Mo_when 41 = .ok (.aload_n 0, 1) := by decide +kernel
theorem d_Mo_when_42 : decode b_Mo_when 42 = .ok (.getfield 56, 3) := by decide +kernel
theorem d_Mo_when_45 : decode b_Mo_when 45 = .ok (.iload 5, 2) := by decide +kernel
theorem d_Mo_when_47 : decode b_Mo_when 47 = .ok (.iaload, 1) := by decide +kernel
theorem d_Mo_when_48 : decode b_Mo_when 48 = .ok (.i2l, 1) := by decide +kernel
theorem d_Mo_when_49 : decode b_Mo_when 49 = .ok (.ladd, 1) := by decide +kernel
theorem d_Mo_when_50 : decode b_Mo_when 50 = .ok (.lstore_n 3, 1) := by decide +kernel
theorem d_Mo_when_51 : decode b_Mo_when 51 = .ok (.iinc 5 (1), 3) := by decide +kernel
theorem d_Mo_when_54 : decode b_Mo_when 54 = .ok (.goto (-23), 3) := by decide +kernel
theorem d_Mo_when_57 : decode b_Mo_when 57 = .ok (.aload_n 0, 1) := by decide +kernel
theorem d_Mo_when_58 : decode b_Mo_when 58 = .ok (.getfield 110, 3) := by decide +kernel
theorem d_Mo_when_61 : decode b_Mo_when 61 = .ok (.ifCond .eq (23), 3) := by decide +kernel
theorem d_Mo_when_64 : decode b_Mo_when 64 = .ok (.lload_n 3, 1) := by decide +kernel
theorem d_Mo_when_65 : decode b_Mo_when 65 = .ok (.lconst 0, 1) := by decide +kernel
theorem d_Mo_when_66 : decode b_Mo_when 66 = .ok (.lcmp, 1) := by decide +kernel
theorem d_Mo_when_67 : decode b_Mo_when 67 = .ok (.ifCond .eq (17), 3) := by decide +kernel
theorem d_Mo_when_70 : decode b_Mo_when 70 = .ok (.iload_n 2, 1) := by decide +kernel
theorem d_Mo_when_71 : decode b_Mo_when 71 = .ok (.ifCond .le (20), 3) := by decide +kernel
theorem d_Mo_when_74 : decode b_Mo_when 74 = .ok (.iload_n 1, 1) := by decide +kernel
theorem d_Mo_when_75 : decode b_Mo_when 75 = .ok (.i2l, 1) := by decide +kernel
theorem d_Mo_when_76 : decode b_Mo_when 76 = .ok (.lload_n 3, 1) := by decide +kernel
theorem d_Mo_when_77 : decode b_Mo_when 77 = .ok (.iload_n 2, 1) := by decide +kernel
theorem d_Mo_when_78 : decode b_Mo_when 78 = .ok (.i2l, 1) := by decide +kernel
theorem d_Mo_when_79 : decode b_Mo_when 79 = .ok (.lmul, 1) := by decide +kernel
theorem d_Mo_when_80 : decode b_Mo_when 80 = .ok (.lcmp, 1) := by decide +kernel
theorem d_Mo_when_81 : decode b_Mo_when 81 = .ok (.ifCond .lt (10), 3) := by decide +kernel
theorem d_Mo_when_84 : decode b_Mo_when 84 = .ok (.aload_n 0, 1) := by decide +kernel
theorem d_Mo_when_85 : decode b_Mo_when 85 = .ok (.getfield 110, 3) := by decide +kernel
theorem d_Mo_when_88 : decode b_Mo_when 88 = .ok (.iconst (1), 1) := by decide +kernel
theorem d_Mo_when_89 : decode b_Mo_when 89 = .ok (.isub, 1) := by decide +kernel
theorem d_Mo_when_90 : decode b_Mo_when 90 = .ok (.ireturn, 1) := by decide +kernel
theorem d_Mo_when_91 : decode b_Mo_when 91 = .ok (.iload_n 1, 1) := by decide +kernel
theorem d_Mo_when_92 : decode b_Mo_when 92 = .ok (.i2l, 1) := by decide +kernel
theorem d_Mo_when_93 : decode b_Mo_when 93 = .ok (.lload_n 3, 1) := by decide +kernel
theorem d_Mo_when_94 : decode b_Mo_when 94 = .ok (.lrem, 1) := by decide +kernel
theorem d_Mo_when_95 : decode b_Mo_when 95 = .ok (.lstore 5, 2) := by decide +kernel
theorem d_Mo_when_97 : decode b_Mo_when 97 = .ok (.iconst (0), 1) := by decide +kernel
theorem d_Mo_when_98 : decode b_Mo_when 98 = .ok (.istore 7, 2) := by decide +kernel
theorem d_Mo_when_100 : decode b_Mo_when 100 = .ok (.lload 5, 2) := by decide +kernel
theorem d_Mo_when_102 : decode b_Mo_when 102 = .ok (.aload_n 0, 1) := by decide +kernel
theorem d_Mo_when_103 : decode b_Mo_when 103 = .ok (.getfield 56, 3) := by decide +kernel
theorem d_Mo_when_106 : decode b_Mo_when 106 = .ok (.iload 7, 2) := by decide +kernel
theorem d_Mo_when_108 : decode b_Mo_when 108 = .ok (.iaload, 1) := by decide +kernel
theorem d_Mo_when_109 : decode b_Mo_when 109 = .ok (.i2l, 1) := by decide +kernel
theorem d_Mo_when_110 : decode b_Mo_when 110 = .ok (.lcmp, 1) := by decide +kernel
theorem d_Mo_when_111 : decode b_Mo_when 111 = .ok (.ifCond .lt (22), 3) := by decide +kernel
theorem d_Mo_when_114 : decode b_Mo_when 114 = .ok (.lload 5, 2) := by decide +kernel
theorem d_Mo_when_116 : decode b_Mo_when 116 = .ok (.aload_n 0, 1) := by decide +kernel
theorem d_Mo_when_117 : decode b_Mo_when 117 = .ok (.getfield 56, 3) := by decide +kernel
theorem d_Mo_when_120 : decode b_Mo_when 120 = .ok (.iload 7, 2) := by decide +kernel
theorem d_Mo_when_122 : decode b_Mo_when 122 = .ok (.iaload, 1) := by decide +kernel
theorem d_Mo_when_123 : decode b_Mo_when 123 = .ok (.i2l, 1) := by decide +kernel
theorem d_Mo_when_124 : decode b_Mo_when 124 = .ok (.lsub, 1) := by decide +kernel
theorem d_Mo_when_125 : decode b_Mo_when 125 = .ok (.lstore 5, 2) := by decide +kernel
theorem d_Mo_when_127 : decode b_Mo_when 127 = .ok (.iinc 7 (1), 3) := by decide +kernel
theorem d_Mo_when_130 : decode b_Mo_when 130 = .ok (.goto (-30), 3) := by decide +kernel
theorem d_Mo_when_133 : decode b_Mo_when 133 = .ok (.iload 7, 2) := by decide +kernel
theorem d_Mo_when_135 : decode b_Mo_when 135 = .ok (.ireturn, 1) := by decide +kernel
theorem d_Mo_passOf_0 : decode b_Mo_passOf 0 = .ok (.aload_n 0, 1) := by decide +kernel
theorem d_Mo_passOf_1 : decode b_Mo_passOf 1 = .ok (.iload_n 1, 1) := by decide +kernel
theorem d_Mo_passOf_2 : decode b_Mo_passOf 2 = .ok (.ifCond .ge (7), 3) := by decide +kernel
theorem d_Mo_passOf_5 : decode b_Mo_passOf 5 = .ok (.iconst (1), 1) := by decide +kernel
theorem d_Mo_passOf_6 : decode b_Mo_passOf 6 = .ok (.goto (4), 3) := by decide +kernel
theorem d_Mo_passOf_9 : decode b_Mo_passOf 9 = .ok (.iconst (0), 1) := by decide +kernel
theorem d_Mo_passOf_10 : decode b_Mo_passOf 10 = .ok (.putfield 92, 3) := by decide +kernel
theorem d_Mo_passOf_13 : decode b_Mo_passOf 13 = .ok (.aload_n 0, 1) := by decide +kernel
theorem d_Mo_passOf_14 : decode b_Mo_passOf 14 = .ok (.getfield 92, 3) := by decide +kernel
theorem d_Mo_passOf_17 : decode b_Mo_passOf 17 = .ok (.ifCond .le (7), 3) := by decide +kernel
theorem d_Mo_passOf_20 : decode b_Mo_passOf 20 = .ok (.iconst (0), 1) := by decide +kernel
theorem d_Mo_passOf_21 : decode b_Mo_passOf 21 = .ok (.goto (7), 3) := by decide +kernel
theorem d_Mo_passOf_24 : decode b_Mo_passOf 24 = .ok (.iload_n 1, 1) := by decide +kernel
theorem d_Mo_passOf_25 : decode b_Mo_passOf 25 = .ok (.invokestatic 157, 3) := by decide +kernel
theorem d_Mo_passOf_28 : decode b_Mo_passOf 28 = .ok (.ireturn, 1) := by decide +kernel
theorem d_Mo_told_0 : decode b_Mo_told 0 = .ok (.aload_n 0, 1) := by decide +kernel
theorem d_Mo_told_1 : decode b_Mo_told 1 = .ok (.iconst (0), 1) := by decide +kernel
theorem d_Mo_told_2 : decode b_Mo_told 2 = .ok (.putfield 92, 3) := by decide +kernel
theorem d_Mo_told_5 : decode b_Mo_told 5 = .ok (.iload_n 1, 1) := by decide +kernel
theorem d_Mo_told_6 : decode b_Mo_told 6 = .ok (.tableswitch (59) (0) (4) #[34, 39, 44, 49, 54], 34) := by decide +kernel
theorem d_Mo_told_40 : decode b_Mo_told 40 = .ok (.aload_n 0, 1) := by decide +kernel
theorem d_Mo_told_41 : decode b_Mo_told 41 = .ok (.getfield 80, 3) := by decide +kernel
theorem d_Mo_told_44 : decode b_Mo_told 44 = .ok (.ireturn, 1) := by decide +kernel
theorem d_Mo_told_45 : decode b_Mo_told 45 = .ok (.aload_n 0, 1) := by decide +kernel
theorem d_Mo_told_46 : decode b_Mo_told 46 = .ok (.getfield 98, 3) := by decide +kernel
theorem d_Mo_told_49 : decode b_Mo_told 49 = .ok (.ireturn, 1) := by decide +kernel
theorem d_Mo_told_50 : decode b_Mo_told 50 = .ok (.aload_n 0, 1) := by decide +kernel
theorem d_Mo_told_51 : decode b_Mo_told 51 = .ok (.getfield 104, 3) := by decide +kernel
theorem d_Mo_told_54 : decode b_Mo_told 54 = .ok (.ireturn, 1) := by decide +kernel
theorem d_Mo_told_55 : decode b_Mo_told 55 = .ok (.aload_n 0, 1) := by decide +kernel
theorem d_Mo_told_56 : decode b_Mo_told 56 = .ok (.getfield 107, 3) := by decide +kernel
theorem d_Mo_told_59 : decode b_Mo_told 59 = .ok (.ireturn, 1) := by decide +kernel
theorem d_Mo_told_60 : decode b_Mo_told 60 = .ok (.aload_n 0, 1) := by decide +kernel
theorem d_Mo_told_61 : decode b_Mo_told 61 = .ok (.getfield 110, 3) := by decide +kernel
theorem d_Mo_told_64 : decode b_Mo_told 64 = .ok (.ireturn, 1) := by decide +kernel
theorem d_Mo_told_65 : decode b_Mo_told 65 = .ok (.iconst (-1), 1) := by decide +kernel
theorem d_Mo_told_66 : decode b_Mo_told 66 = .ok (.ireturn, 1) := by decide +kernel
theorem d_Co_init_0 : decode b_Co_init 0 = .ok (.aload_n 0, 1) := by decide +kernel
theorem d_Co_init_1 : decode b_Co_init 1 = .ok (.invokespecial 3, 3) := by decide +kernel
theorem d_Co_init_4 : decode b_Co_init 4 = .ok (.aload_n 0, 1) := by decide +kernel
theorem d_Co_init_5 : decode b_Co_init 5 = .ok (.new 9, 3) := by decide +kernel
theorem d_Co_init_8 : decode b_Co_init 8 = .ok (.dup, 1) := by decide +kernel
theorem d_Co_init_9 : decode b_Co_init 9 = .ok (.sipush (18060), 3) := by decide +kernel
theorem d_Co_init_12 : decode b_Co_init 12 = .ok (.invokespecial 11, 3) := by decide +kernel
theorem d_Co_init_15 : decode b_Co_init 15 = .ok (.putfield 14, 3) := by decide +kernel
theorem d_Co_init_18 : decode b_Co_init 18 = .ok (.aload_n 0, 1) := by decide +kernel
theorem d_Co_init_19 : decode b_Co_init 19 = .ok (.iconst (1), 1) := by decide +kernel
theorem d_Co_init_20 : decode b_Co_init 20 = .ok (.iload_n 1, 1) := by decide +kernel
theorem d_Co_init_21 : decode b_Co_init 21 = .ok (.ishl, 1) := by decide +kernel
theorem d_Co_init_22 : decode b_Co_init 22 = .ok (.putfield 20, 3) := by decide +kernel
theorem d_Co_init_25 : decode b_Co_init 25 = .ok (.aload_n 0, 1) := by decide +kernel
theorem d_Co_init_26 : decode b_Co_init 26 = .ok (.aload_n 0, 1) := by decide +kernel
theorem d_Co_init_27 : decode b_Co_init 27 = .ok (.getfield 20, 3) := by decide +kernel
theorem d_Co_init_30 : decode b_Co_init 30 = .ok (.iconst (1), 1) := by decide +kernel
theorem d_Co_init_31 : decode b_Co_init 31 = .ok (.iadd, 1) := by decide +kernel
theorem d_Co_init_32 : decode b_Co_init 32 = .ok (.putfield 24, 3) := by decide +kernel
theorem d_Co_init_35 : decode b_Co_init 35 = .ok (.aload_n 0, 1) := by decide +kernel
theorem d_Co_init_36 : decode b_Co_init 36 = .ok (.new 27, 3) := by decide +kernel
theorem d_Co_init_39 : decode b_Co_init 39 = .ok (.dup, 1) := by decide +kernel
theorem d_Co_init_40 : decode b_Co_init 40 = .ok (.iload_n 1, 1) := by decide +kernel
theorem d_Co_init_41 : decode b_Co_init 41 = .ok (.invokespecial 29, 3) := by decide +kernel
theorem d_Co_init_44 : decode b_Co_init 44 = .ok (.putfield 30, 3) := by decide +kernel
theorem d_Co_init_47 : decode b_Co_init 47 = .ok (.aload_n 0, 1) := by decide +kernel
theorem d_Co_init_48 : decode b_Co_init 48 = .ok (.new 34, 3) := by decide +kernel
theorem d_Co_init_51 : decode b_Co_init 51 = .ok (.dup, 1) := by decide +kernel
theorem d_Co_init_52 : decode b_Co_init 52 = .ok (.aload_n 0, 1) := by decide +kernel
theorem d_Co_init_53 : decode b_Co_init 53 = .ok (.getfield 24, 3) := by decide +kernel
theorem d_Co_init_56 : decode b_Co_init 56 = .ok (.invokespecial 36, 3) := by decide +kernel
theorem d_Co_init_59 : decode b_Co_init 59 = .ok (.putfield 37, 3) := by decide +kernel
theorem d_Co_init_62 : decode b_Co_init 62 = .ok (.return_, 1) := by decide +kernel
theorem d_Co_forget_0 : decode b_Co_forget 0 = .ok (.aload_n 0, 1) := by decide +kernel
theorem d_Co_forget_1 : decode b_Co_forget 1 = .ok (.getfield 14, 3) := by decide +kernel
theorem d_Co_forget_4 : decode b_Co_forget 4 = .ok (.invokevirtual 41, 3) := by decide +kernel
theorem d_Co_forget_7 : decode b_Co_forget 7 = .ok (.aload_n 0, 1) := by decide +kernel
theorem d_Co_forget_8 : decode b_Co_forget 8 = .ok (.getfield 37, 3) := by decide +kernel
theorem d_Co_forget_11 : decode b_Co_forget 11 = .ok (.invokevirtual 44, 3) := by decide +kernel
theorem d_Co_forget_14 : decode b_Co_forget 14 = .ok (.aload_n 0, 1) := by decide +kernel
theorem d_Co_forget_15 : decode b_Co_forget 15 = .ok (.getfield 30, 3) := by decide +kernel
theorem d_Co_forget_18 : decode b_Co_forget 18 = .ok (.invokevirtual 45, 3) := by decide +kernel
theorem d_Co_forget_21 : decode b_Co_forget 21 = .ok (.aload_n 0, 1) := by decide +kernel
theorem d_Co_forget_22 : decode b_Co_forget 22 = .ok (.iconst (0), 1) := by decide +kernel
theorem d_Co_forget_23 : decode b_Co_forget 23 = .ok (.putfield 48, 3) := by decide +kernel
theorem d_Co_forget_26 : decode b_Co_forget 26 = .ok (.aload_n 0, 1) := by decide +kernel
theorem d_Co_forget_27 : decode b_Co_forget 27 = .ok (.iconst (0), 1) := by decide +kernel
theorem d_Co_forget_28 : decode b_Co_forget 28 = .ok (.putfield 51, 3) := by decide +kernel
theorem d_Co_forget_31 : decode b_Co_forget 31 = .ok (.aload_n 0, 1) := by decide +kernel
theorem d_Co_forget_32 : decode b_Co_forget 32 = .ok (.iconst (0), 1) := by decide +kernel
theorem d_Co_forget_33 : decode b_Co_forget 33 = .ok (.putfield 54, 3) := by decide +kernel
theorem d_Co_forget_36 : decode b_Co_forget 36 = .ok (.aload_n 0, 1) := by decide +kernel
theorem d_Co_forget_37 : decode b_Co_forget 37 = .ok (.iconst (0), 1) := by decide +kernel
theorem d_Co_forget_38 : decode b_Co_forget 38 = .ok (.putfield 57, 3) := by decide +kernel
theorem d_Co_forget_41 : decode b_Co_forget 41 = .ok (.aload_n 0, 1) := by decide +kernel
theorem d_Co_forget_42 : decode b_Co_forget 42 = .ok (.iconst (0), 1) := by decide +kernel
theorem d_Co_forget_43 : decode b_Co_forget 43 = .ok (.putfield 60, 3) := by decide +kernel
theorem d_Co_forget_46 : decode b_Co_forget 46 = .ok (.return_, 1) := by decide +kernel
theorem d_Co_codeRow_0 : decode b_Co_codeRow 0 = .ok (.aload_n 0, 1) := by decide +kernel
theorem d_Co_codeRow_1 : decode b_Co_codeRow 1 = .ok (.invokevirtual 63, 3) := by decide +kernel
theorem d_Co_codeRow_4 : decode b_Co_codeRow 4 = .ok (.aload_n 0, 1) := by decide +kernel
theorem d_Co_codeRow_5 : decode b_Co_codeRow 5 = .ok (.invokevirtual 66, 3) := by decide +kernel
theorem d_Co_codeRow_8 : decode b_Co_codeRow 8 = .ok (.aload_n 1, 1) := by decide +kernel
theorem d_Co_codeRow_9 : decode b_Co_codeRow 9 = .ok (.iconst (0), 1) := by decide +kernel
theorem d_Co_codeRow_10 : decode b_Co_codeRow 10 = .ok (.invokevirtual 69, 3) := by decide +kernel
theorem d_Co_codeRow_13 : decode b_Co_codeRow 13 = .ok (.istore_n 3, 1) := by decide +kernel
theorem d_Co_codeRow_14 : decode b_Co_codeRow 14 = .ok (.iconst (0), 1) := by decide +kernel
theorem d_Co_codeRow_15 : decode b_Co_codeRow 15 = .ok (.istore 4, 2) := by decide +kernel
theorem d_Co_codeRow_17 : decode b_Co_codeRow 17 = .ok (.iconst (1), 1) := by decide +kernel
theorem d_Co_codeRow_18 : decode b_Co_codeRow 18 = .ok (.istore 5, 2) := by decide +kernel
theorem d_Co_codeRow_20 : decode b_Co_codeRow 20 = .ok (.iload 5, 2) := by decide +kernel
theorem d_Co_codeRow_22 : decode b_Co_codeRow 22 = .ok (.aload_n 1, 1) := by decide +kernel
theorem d_Co_codeRow_23 : decode b_Co_codeRow 23 = .ok (.getfield 73, 3) := by decide +kernel
theorem d_Co_codeRow_26 : decode b_Co_codeRow 26 = .ok (.if_icmp .ge (80), 3) := by decide +kernel
theorem d_Co_codeRow_29 : decode b_Co_codeRow 29 = .ok (.aload_n 1, 1) := by decide +kernel
theorem d_Co_codeRow_30 : decode b_Co_codeRow 30 = .ok (.iload 5, 2) := by decide +kernel
theorem d_Co_codeRow_32 : decode b_Co_codeRow 32 = .ok (.invokevirtual 69, 3) := by decide +kernel
theorem d_Co_codeRow_35 : decode b_Co_codeRow 35 = .ok (.istore 6, 2) := by decide +kernel
theorem d_Co_codeRow_37 : decode b_Co_codeRow 37 = .ok (.aload_n 0, 1) := by decide +kernel
theorem d_Co_codeRow_38 : decode b_Co_codeRow 38 = .ok (.getfield 37, 3) := by decide +kernel
theorem d_Co_codeRow_41 : decode b_Co_codeRow 41 = .ok (.iload_n 3, 1) := by decide +kernel
theorem d_Co_codeRow_42 : decode b_Co_codeRow 42 = .ok (.iload 6, 2) := by decide +kernel
theorem d_Co_codeRow_44 : decode b_Co_codeRow 44 = .ok (.invokevirtual 76, 3) := by decide +kernel
theorem d_Co_codeRow_47 : decode b_Co_codeRow 47 = .ok (.istore 7, 2) := by decide +kernel
theorem d_Co_codeRow_49 : decode b_Co_codeRow 49 = .ok (.iload 7, 2) := by decide +kernel
theorem d_Co_codeRow_51 : decode b_Co_codeRow 51 = .ok (.iconst (-1), 1) := by decide +kernel
theorem d_Co_codeRow_52 : decode b_Co_codeRow 52 = .ok (.if_icmp .eq (9), 3) := by decide +kernel
theorem d_Co_codeRow_55 : decode b_Co_codeRow 55 = .ok (.iload 7, 2) := by decide +kernel
theorem d_Co_codeRow_57 : decode b_Co_codeRow 57 = .ok (.istore_n 3, 1) := by decide +kernel
theorem d_Co_codeRow_58 : decode b_Co_codeRow 58 = .ok (.goto (42), 3) := by decide +kernel
theorem d_Co_codeRow_61 : decode b_Co_codeRow 61 = .ok (.aload_n 0, 1) := by decide +kernel
theorem d_Co_codeRow_62 : decode b_Co_codeRow 62 = .ok (.iload_n 3, 1) := by decide +kernel
theorem d_Co_codeRow_63 : decode b_Co_codeRow 63 = .ok (.iload 5, 2) := by decide +kernel
theorem d_Co_codeRow_65 : decode b_Co_codeRow 65 = .ok (.iload 4, 2) := by decide +kernel
theorem d_Co_codeRow_67 : decode b_Co_codeRow 67 = .ok (.isub, 1) := by decide +kernel
theorem d_Co_codeRow_68 : decode b_Co_codeRow 68 = .ok (.invokevirtual 80, 3) := by decide +kernel
theorem d_Co_codeRow_71 : decode b_Co_codeRow 71 = .ok (.aload_n 0, 1) := by decide +kernel
theorem d_Co_codeRow_72 : decode b_Co_codeRow 72 = .ok (.getfield 37, 3) := by decide +kernel
theorem d_Co_codeRow_75 : decode b_Co_codeRow 75 = .ok (.iload_n 3, 1) := by decide +kernel
theorem d_Co_codeRow_76 : decode b_Co_codeRow 76 = .ok (.iload 6, 2) := by decide +kernel
theorem d_Co_codeRow_78 : decode b_Co_codeRow 78 = .ok (.invokevirtual 84, 3) := by decide +kernel
theorem d_Co_codeRow_81 : decode b_Co_codeRow 81 = .ok (.aload_n 0, 1) := by decide +kernel
theorem d_Co_codeRow_82 : decode b_Co_codeRow 82 = .ok (.iload_n 2, 1) := by decide +kernel
theorem d_Co_codeRow_83 : decode b_Co_codeRow 83 = .ok (.invokevirtual 87, 3) := by decide +kernel
theorem d_Co_codeRow_86 : decode b_Co_codeRow 86 = .ok (.ifCond .eq (7), 3) := by decide +kernel
theorem d_Co_codeRow_89 : decode b_Co_codeRow 89 = .ok (.aload_n 0, 1) := by decide +kernel
theorem d_Co_codeRow_90 : decode b_Co_codeRow 90 = .ok (.invokevirtual 66, 3) := by decide +kernel
theorem d_Co_codeRow_93 : decode b_Co_codeRow 93 = .ok (.iload 6, 2) := by decide +kernel
theorem d_Co_codeRow_95 : decode b_Co_codeRow 95 = .ok (.istore_n 3, 1) := by decide +kernel
theorem d_Co_codeRow_96 : decode b_Co_codeRow 96 = .ok (.iload 5, 2) := by decide +kernel
theorem d_Co_codeRow_98 : decode b_Co_codeRow 98 = .ok (.istore 4, 2) := by decide +kernel
theorem d_Co_codeRow_100 : decode b_Co_codeRow 100 = .ok (.iinc 5 (1), 3) := by decide +kernel
theorem d_Co_codeRow_103 : decode b_Co_codeRow 103 = .ok (.goto (-83), 3) := by decide +kernel
theorem d_Co_codeRow_106 : decode b_Co_codeRow 106 = .ok (.aload_n 1, 1) := by decide +kernel
theorem d_Co_codeRow_107 : decode b_Co_codeRow 107 = .ok (.getfield 73, 3) := by decide +kernel
theorem d_Co_codeRow_110 : decode b_Co_codeRow 110 = .ok (.ifCond .le (15), 3) := by decide +kernel
theorem d_Co_codeRow_113 : decode b_Co_codeRow 113 = .ok (.aload_n 0, 1) := by decide +kernel
theorem d_Co_codeRow_114 : decode b_Co_codeRow 114 = .ok (.iload_n 3, 1) := by decide +kernel
theorem d_Co_codeRow_115 : decode b_Co_codeRow 115 = .ok (.aload_n 1, 1) := by decide +kernel
theorem d_Co_codeRow_116 : decode b_Co_codeRow 116 = .ok (.getfield 73, 3) := by decide +kernel
theorem d_Co_codeRow_119 : decode b_Co_codeRow 119 = .ok (.iload 4, 2) := by decide +kernel
theorem d_Co_codeRow_121 : decode b_Co_codeRow 121 = .ok (.isub, 1) := by decide +kernel
theorem d_Co_codeRow_122 : decode b_Co_codeRow 122 = .ok (.invokevirtual 80, 3) := by decide +kernel
theorem d_Co_codeRow_125 : decode b_Co_codeRow 125 = .ok (.aload_n 0, 1) := by decide +kernel
theorem d_Co_codeRow_126 : decode b_Co_codeRow 126 = .ok (.aload_n 0, 1) := by decide +kernel
theorem d_Co_codeRow_127 : decode b_Co_codeRow 127 = .ok (.getfield 24, 3) := by decide +kernel
theorem d_Co_codeRow_130 : decode b_Co_codeRow 130 = .ok (.invokevirtual 91, 3) := by decide +kernel
theorem d_Co_codeRow_133 : decode b_Co_codeRow 133 = .ok (.aload_n 0, 1) := by decide +kernel
theorem d_Co_codeRow_134 : decode b_Co_codeRow 134 = .ok (.invokevirtual 94, 3) := by decide +kernel
theorem d_Co_codeRow_137 : decode b_Co_codeRow 137 = .ok (.return_, 1) := by decide +kernel
theorem d_Co_writeClear_0 : decode b_Co_writeClear 0 = .ok (.aload_n 0, 1) := by decide +kernel
theorem d_Co_writeClear_1 : decode b_Co_writeClear 1 = .ok (.aload_n 0, 1) := by decide +kernel
theorem d_Co_writeClear_2 : decode b_Co_writeClear 2 = .ok (.getfield 20, 3) := by decide +kernel
theorem d_Co_writeClear_5 : decode b_Co_writeClear 5 = .ok (.invokevirtual 91, 3) := by decide +kernel
theorem d_Co_writeClear_8 : decode b_Co_writeClear 8 = .ok (.aload_n 0, 1) := by decide +kernel
theorem d_Co_writeClear_9 : decode b_Co_writeClear 9 = .ok (.dup, 1) := by decide +kernel
theorem d_Co_writeClear_10 : decode b_Co_writeClear 10 = .ok (.getfield 51, 3) := by decide +kernel
theorem d_Co_writeClear_13 : decode b_Co_writeClear 13 = .ok (.iconst (1), 1) := by decide +kernel
theorem d_Co_writeClear_14 : decode b_Co_writeClear 14 = .ok (.iadd, 1) := by decide +kernel
theorem d_Co_writeClear_15 : decode b_Co_writeClear 15 = .ok (.putfield 51, 3) := by decide +kernel
theorem d_Co_writeClear_18 : decode b_Co_writeClear 18 = .ok (.aload_n 0, 1) := by decide +kernel
theorem d_Co_writeClear_19 : decode b_Co_writeClear 19 = .ok (.getfield 37, 3) := by decide +kernel
theorem d_Co_writeClear_22 : decode b_Co_writeClear 22 = .ok (.invokevirtual 44, 3) := by decide +kernel
theorem d_Co_writeClear_25 : decode b_Co_writeClear 25 = .ok (.aload_n 0, 1) := by decide +kernel
theorem d_Co_writeClear_26 : decode b_Co_writeClear 26 = .ok (.getfield 30, 3) := by decide +kernel
theorem d_Co_writeClear_29 : decode b_Co_writeClear 29 = .ok (.invokevirtual 45, 3) := by decide +kernel
theorem d_Co_writeClear_32 : decode b_Co_writeClear 32 = .ok (.aload_n 0, 1) := by decide +kernel
theorem d_Co_writeClear_33 : decode b_Co_writeClear 33 = .ok (.invokevirtual 97, 3) := by decide +kernel
theorem d_Co_writeClear_36 : decode b_Co_writeClear 36 = .ok (.return_, 1) := by decide +kernel
theorem d_Co_writeEntry_0 : decode b_Co_writeEntry 0 = .ok (.aload_n 0, 1) := by decide +kernel
theorem d_Co_writeEntry_1 : decode b_Co_writeEntry 1 = .ok (.iload_n 1, 1) := by decide +kernel
theorem d_Co_writeEntry_2 : decode b_Co_writeEntry 2 = .ok (.invokevirtual 91, 3) := by decide +kernel
theorem d_Co_writeEntry_5 : decode b_Co_writeEntry 5 = .ok (.aload_n 0, 1) := by decide +kernel
theorem d_Co_writeEntry_6 : decode b_Co_writeEntry 6 = .ok (.getfield 30, 3) := by decide +kernel
theorem d_Co_writeEntry_9 : decode b_Co_writeEntry 9 = .ok (.invokevirtual 100, 3) := by decide +kernel
theorem d_Co_writeEntry_12 : decode b_Co_writeEntry 12 = .ok (.aload_n 0, 1) := by decide +kernel
theorem d_Co_writeEntry_13 : decode b_Co_writeEntry 13 = .ok (.getfield 37, 3) := by decide +kernel
theorem d_Co_writeEntry_16 : decode b_Co_writeEntry 16 = .ok (.invokevirtual 103, 3) := by decide +kernel
theorem d_Co_writeEntry_19 : decode b_Co_writeEntry 19 = .ok (.ifCond .eq (23), 3) := by decide +kernel
theorem d_Co_writeEntry_22 : decode b_Co_writeEntry 22 = .ok (.aload_n 0, 1) := by decide +kernel
theorem d_Co_writeEntry_23 : decode b_Co_writeEntry 23 = .ok (.dup, 1) := by decide +kernel
theorem d_Co_writeEntry_24 : decode b_Co_writeEntry 24 = .ok (.getfield 107, 3) := by decide +kernel
theorem d_Co_writeEntry_27 : decode b_Co_writeEntry 27 = .ok (.iconst (1), 1) := by decide +kernel
theorem d_Co_writeEntry_28 : decode b_Co_writeEntry 28 = .ok (.iadd, 1) := by decide +kernel
theorem d_Co_writeEntry_29 : decode b_Co_writeEntry 29 = .ok (.putfield 107, 3) := by decide +kernel
theorem d_Co_writeEntry_32 : decode b_Co_writeEntry 32 = .ok (.aload_n 0, 1) := by decide +kernel
theorem d_Co_writeEntry_33 : decode b_Co_writeEntry 33 = .ok (.dup, 1) := by decide +kernel
theorem d_Co_writeEntry_34 : decode b_Co_writeEntry 34 = .ok (.getfield 110, 3) := by decide +kernel
theorem d_Co_writeEntry_37 : decode b_Co_writeEntry 37 = .ok (.iload_n 2, 1) := by decide +kernel
theorem d_Co_writeEntry_38 : decode b_Co_writeEntry 38 = .ok (.iadd, 1) := by decide +kernel
theorem d_Co_writeEntry_39 : decode b_Co_writeEntry 39 = .ok (.putfield 110, 3) := by decide +kernel
theorem d_Co_writeEntry_42 : decode b_Co_writeEntry 42 = .ok (.return_, 1) := by decide +kernel
theorem d_Co_isClearDue_0 : decode b_Co_isClearDue 0 = .ok (.iload_n 1, 1) := by decide +kernel
theorem d_Co_isClearDue_1 : decode b_Co_isClearDue 1 = .ok (.iconst (1), 1) := by decide +kernel
theorem d_Co_isClearDue_2 : decode b_Co_isClearDue 2 = .ok (.if_icmp .eq (13), 3) := by decide +kernel
theorem d_Co_isClearDue_5 : decode b_Co_isClearDue 5 = .ok (.aload_n 0, 1) := by decide +kernel
theorem d_Co_isClearDue_6 : decode b_Co_isClearDue 6 = .ok (.getfield 37, 3) := by decide +kernel
theorem d_Co_isClearDue_9 : decode b_Co_isClearDue 9 = .ok (.invokevirtual 103, 3) := by decide +kernel
theorem d_Co_isClearDue_12 : decode b_Co_isClearDue 12 = .ok (.ifCond .ne (5), 3) := by decide +kernel
theorem d_Co_isClearDue_15 : decode b_Co_isClearDue 15 = .ok (.iconst (0), 1) := by decide +kernel
theorem d_Co_isClearDue_16 : decode b_Co_isClearDue 16 = .ok (.ireturn, 1) := by decide +kernel
theorem d_Co_isClearDue_17 : decode b_Co_isClearDue 17 = .ok (.iload_n 1, 1) := by decide +kernel
theorem d_Co_isClearDue_18 : decode b_Co_isClearDue 18 = .ok (.ifCond .ne (5), 3) := by decide +kernel
theorem d_Co_isClearDue_21 : decode b_Co_isClearDue 21 = .ok (.iconst (1), 1) := by decide +kernel
theorem d_Co_isClearDue_22 : decode b_Co_isClearDue 22 = .ok (.ireturn, 1) := by decide +kernel
theorem d_Co_isClearDue_23 : decode b_Co_isClearDue 23 = .ok (.aload_n 0, 1) := by decide +kernel
theorem d_Co_isClearDue_24 : decode b_Co_isClearDue 24 = .ok (.getfield 107, 3) := by decide +kernel
theorem d_Co_isClearDue_27 : decode b_Co_isClearDue 27 = .ok (.bipush (64), 2) := by decide +kernel
theorem d_Co_isClearDue_29 : decode b_Co_isClearDue 29 = .ok (.if_icmp .ge (5), 3) := by decide +kernel
theorem d_Co_isClearDue_32 : decode b_Co_isClearDue 32 = .ok (.iconst (0), 1) := by decide +kernel
theorem d_Co_isClearDue_33 : decode b_Co_isClearDue 33 = .ok (.ireturn, 1) := by decide +kernel
theorem d_Co_isClearDue_34 : decode b_Co_isClearDue 34 = .ok (.aload_n 0, 1) := by decide +kernel
theorem d_Co_isClearDue_35 : decode b_Co_isClearDue 35 = .ok (.getfield 110, 3) := by decide +kernel
theorem d_Co_isClearDue_38 : decode b_Co_isClearDue 38 = .ok (.sipush (256), 3) := by decide +kernel
theorem d_Co_isClearDue_41 : decode b_Co_isClearDue 41 = .ok (.if_icmp .ge (7), 3) := by decide +kernel
theorem d_Co_isClearDue_44 : decode b_Co_isClearDue 44 = .ok (.iconst (1), 1) := by decide +kernel
theorem d_Co_isClearDue_45 : decode b_Co_isClearDue 45 = .ok (.goto (4), 3) := by decide +kernel
theorem d_Co_isClearDue_48 : decode b_Co_isClearDue 48 = .ok (.iconst (0), 1) := by decide +kernel
theorem d_Co_isClearDue_49 : decode b_Co_isClearDue 49 = .ok (.istore_n 2, 1) := by decide +kernel
theorem d_Co_isClearDue_50 : decode b_Co_isClearDue 50 = .ok (.aload_n 0, 1) := by decide +kernel
theorem d_Co_isClearDue_51 : decode b_Co_isClearDue 51 = .ok (.invokevirtual 97, 3) := by decide +kernel
theorem d_Co_isClearDue_54 : decode b_Co_isClearDue 54 = .ok (.iload_n 2, 1) := by decide +kernel
theorem d_Co_isClearDue_55 : decode b_Co_isClearDue 55 = .ok (.ireturn, 1) := by decide +kernel
theorem d_Co_startLook_0 : decode b_Co_startLook 0 = .ok (.aload_n 0, 1) := by decide +kernel
theorem d_Co_startLook_1 : decode b_Co_startLook 1 = .ok (.iconst (0), 1) := by decide +kernel
theorem d_Co_startLook_2 : decode b_Co_startLook 2 = .ok (.putfield 107, 3) := by decide +kernel
theorem d_Co_startLook_5 : decode b_Co_startLook 5 = .ok (.aload_n 0, 1) := by decide +kernel
theorem d_Co_startLook_6 : decode b_Co_startLook 6 = .ok (.iconst (0), 1) := by decide +kernel
theorem d_Co_startLook_7 : decode b_Co_startLook 7 = .ok (.putfield 110, 3) := by decide +kernel
theorem d_Co_startLook_10 : decode b_Co_startLook 10 = .ok (.return_, 1) := by decide +kernel
end
section
theorem d_Co_write_0 : decode b_Co_write 0 = .ok (.aload_n 0, 1) := by decide +kernel
theorem d_Co_write_1 : decode b_Co_write 1 = .ok (.dup, 1) := by decide +kernel
theorem d_Co_write_2 : decode b_Co_write 2 = .ok (.getfield 48, 3) := by decide +kernel
theorem d_Co_write_5 : decode b_Co_write 5 = .ok (.iconst (1), 1) := by decide +kernel
theorem d_Co_write_6 : decode b_Co_write 6 = .ok (.iadd, 1) := by decide +kernel
theorem d_Co_write_7 : decode b_Co_write 7 = .ok (.putfield 48, 3) := by decide +kernel
theorem d_Co_write_10 : decode b_Co_write 10 = .ok (.aload_n 0, 1) := by decide +kernel
theorem d_Co_write_11 : decode b_Co_write 11 = .ok (.aload_n 0, 1) := by decide +kernel
theorem d_Co_write_12 : decode b_Co_write 12 = .ok (.getfield 30, 3) := by decide +kernel
theorem d_Co_write_15 : decode b_Co_write 15 = .ok (.getfield 113, 3) := by decide +kernel
theorem d_Co_write_18 : decode b_Co_write 18 = .ok (.putfield 54, 3) := by decide +kernel
theorem d_Co_write_21 : decode b_Co_write 21 = .ok (.aload_n 0, 1) := by decide +kernel
theorem d_Co_write_22 : decode b_Co_write 22 = .ok (.dup, 1) := by decide +kernel
theorem d_Co_write_23 : decode b_Co_write 23 = .ok (.getfield 57, 3) := by decide +kernel
theorem d_Co_write_26 : decode b_Co_write 26 = .ok (.iload_n 1, 1) := by decide +kernel
theorem d_Co_write_27 : decode b_Co_write 27 = .ok (.aload_n 0, 1) := by decide +kernel
theorem d_Co_write_28 : decode b_Co_write 28 = .ok (.getfield 60, 3) := by decide +kernel
theorem d_Co_write_31 : decode b_Co_write 31 = .ok (.ishl, 1) := by decide +kernel
theorem d_Co_write_32 : decode b_Co_write 32 = .ok (.ior, 1) := by decide +kernel
theorem d_Co_write_33 : decode b_Co_write 33 = .ok (.putfield 57, 3) := by decide +kernel
theorem d_Co_write_36 : decode b_Co_write 36 = .ok (.aload_n 0, 1) := by decide +kernel
theorem d_Co_write_37 : decode b_Co_write 37 = .ok (.dup, 1) := by decide +kernel
theorem d_Co_write_38 : decode b_Co_write 38 = .ok (.getfield 60, 3) := by decide +kernel
theorem d_Co_write_41 : decode b_Co_write 41 = .ok (.aload_n 0, 1) := by decide +kernel
theorem d_Co_write_42 : decode b_Co_write 42 = .ok (.getfield 30, 3) := by decide +kernel
theorem d_Co_write_45 : decode b_Co_write 45 = .ok (.getfield 113, 3) := by decide +kernel
theorem d_Co_write_48 : decode b_Co_write 48 = .ok (.iadd, 1) := by decide +kernel
theorem d_Co_write_49 : decode b_Co_write 49 = .ok (.putfield 60, 3) := by decide +kernel
theorem d_Co_write_52 : decode b_Co_write 52 = .ok (.aload_n 0, 1) := by decide +kernel
theorem d_Co_write_53 : decode b_Co_write 53 = .ok (.getfield 60, 3) := by decide +kernel
theorem d_Co_write_56 : decode b_Co_write 56 = .ok (.bipush (8), 2) := by decide +kernel
theorem d_Co_write_58 : decode b_Co_write 58 = .ok (.idiv, 1) := by decide +kernel
theorem d_Co_write_59 : decode b_Co_write 59 = .ok (.istore_n 2, 1) := by decide +kernel
theorem d_Co_write_60 : decode b_Co_write 60 = .ok (.iload_n 2, 1) := by decide +kernel
theorem d_Co_write_61 : decode b_Co_write 61 = .ok (.ifCond .le (46), 3) := by decide +kernel
theorem d_Co_write_64 : decode b_Co_write 64 = .ok (.aload_n 0, 1) := by decide +kernel
theorem d_Co_write_65 : decode b_Co_write 65 = .ok (.getfield 14, 3) := by decide +kernel
theorem d_Co_write_68 : decode b_Co_write 68 = .ok (.aload_n 0, 1) := by decide +kernel
theorem d_Co_write_69 : decode b_Co_write 69 = .ok (.getfield 57, 3) := by decide +kernel
theorem d_Co_write_72 : decode b_Co_write 72 = .ok (.sipush (255), 3) := by decide +kernel
theorem d_Co_write_75 : decode b_Co_write 75 = .ok (.iand, 1) := by decide +kernel
theorem d_Co_write_76 : decode b_Co_write 76 = .ok (.invokevirtual 116, 3) := by decide +kernel
theorem d_Co_write_79 : decode b_Co_write 79 = .ok (.aload_n 0, 1) := by decide +kernel
theorem d_Co_write_80 : decode b_Co_write 80 = .ok (.dup, 1) := by decide +kernel
theorem d_Co_write_81 : decode b_Co_write 81 = .ok (.getfield 57, 3) := by decide +kernel
theorem d_Co_write_84 : decode b_Co_write 84 = .ok (.bipush (8), 2) := by decide +kernel
theorem d_Co_write_86 : decode b_Co_write 86 = .ok (.iushr, 1) := by decide +kernel
theorem d_Co_write_87 : decode b_Co_write 87 = .ok (.putfield 57, 3) := by decide +kernel
theorem d_Co_write_90 : decode b_Co_write 90 = .ok (.aload_n 0, 1) := by decide +kernel
theorem d_Co_write_91 : decode b_Co_write 91 = .ok (.dup, 1) := by decide +kernel
theorem d_Co_write_92 : decode b_Co_write 92 = .ok (.getfield 60, 3) := by decide +kernel
theorem d_Co_write_95 : decode b_Co_write 95 = .ok (.bipush (8), 2) := by decide +kernel
theorem d_Co_write_97 : decode b_Co_write 97 = .ok (.isub, 1) := by decide +kernel
theorem d_Co_write_98 : decode b_Co_write 98 = .ok (.putfield 60, 3) := by decide +kernel
theorem d_Co_write_101 : decode b_Co_write 101 = .ok (.iinc 2 (-1), 3) := by decide +kernel
theorem d_Co_write_104 : decode b_Co_write 104 = .ok (.goto (-44), 3) := by decide +kernel
theorem d_Co_write_107 : decode b_Co_write 107 = .ok (.return_, 1) := by decide +kernel
theorem d_Co_writeRest_0 : decode b_Co_writeRest 0 = .ok (.aload_n 0, 1) := by decide +kernel
theorem d_Co_writeRest_1 : decode b_Co_writeRest 1 = .ok (.getfield 60, 3) := by decide +kernel
theorem d_Co_writeRest_4 : decode b_Co_writeRest 4 = .ok (.ifCond .le (18), 3) := by decide +kernel
theorem d_Co_writeRest_7 : decode b_Co_writeRest 7 = .ok (.aload_n 0, 1) := by decide +kernel
theorem d_Co_writeRest_8 : decode b_Co_writeRest 8 = .ok (.getfield 14, 3) := by decide +kernel
theorem d_Co_writeRest_11 : decode b_Co_writeRest 11 = .ok (.aload_n 0, 1) := by decide +kernel
theorem d_Co_writeRest_12 : decode b_Co_writeRest 12 = .ok (.getfield 57, 3) := by decide +kernel
theorem d_Co_writeRest_15 : decode b_Co_writeRest 15 = .ok (.sipush (255), 3) := by decide +kernel
theorem d_Co_writeRest_18 : decode b_Co_writeRest 18 = .ok (.iand, 1) := by decide +kernel
theorem d_Co_writeRest_19 : decode b_Co_writeRest 19 = .ok (.invokevirtual 116, 3) := by decide +kernel
theorem d_Co_writeRest_22 : decode b_Co_writeRest 22 = .ok (.return_, 1) := by decide +kernel
theorem d_Fr_init_0 : decode b_Fr_init 0 = .ok (.aload_n 0, 1) := by decide +kernel
theorem d_Fr_init_1 : decode b_Fr_init 1 = .ok (.invokespecial 3, 3) := by decide +kernel
theorem d_Fr_init_4 : decode b_Fr_init 4 = .ok (.aload_n 0, 1) := by decide +kernel
theorem d_Fr_init_5 : decode b_Fr_init 5 = .ok (.sipush (576), 3) := by decide +kernel
theorem d_Fr_init_8 : decode b_Fr_init 8 = .ok (.newarray .int, 2) := by decide +kernel
theorem d_Fr_init_10 : decode b_Fr_init 10 = .ok (.putfield 9, 3) := by decide +kernel
theorem d_Fr_init_13 : decode b_Fr_init 13 = .ok (.aload_n 0, 1) := by decide +kernel
theorem d_Fr_init_14 : decode b_Fr_init 14 = .ok (.new 15, 3) := by decide +kernel
theorem d_Fr_init_17 : decode b_Fr_init 17 = .ok (.dup, 1) := by decide +kernel
theorem d_Fr_init_18 : decode b_Fr_init 18 = .ok (.iload_n 1, 1) := by decide +kernel
theorem d_Fr_init_19 : decode b_Fr_init 19 = .ok (.invokespecial 17, 3) := by decide +kernel
theorem d_Fr_init_22 : decode b_Fr_init 22 = .ok (.putfield 20, 3) := by decide +kernel
theorem d_Fr_init_25 : decode b_Fr_init 25 = .ok (.aload_n 0, 1) := by decide +kernel
theorem d_Fr_init_26 : decode b_Fr_init 26 = .ok (.iconst (-1), 1) := by decide +kernel
theorem d_Fr_init_27 : decode b_Fr_init 27 = .ok (.putfield 24, 3) := by decide +kernel
theorem d_Fr_init_30 : decode b_Fr_init 30 = .ok (.return_, 1) := by decide +kernel
theorem d_Fr_passNumber_0 : decode b_Fr_passNumber 0 = .ok (.iload_n 0, 1) := by decide +kernel
theorem d_Fr_passNumber_1 : decode b_Fr_passNumber 1 = .ok (.iconst (1), 1) := by decide +kernel
theorem d_Fr_passNumber_2 : decode b_Fr_passNumber 2 = .ok (.iand, 1) := by decide +kernel
theorem d_Fr_passNumber_3 : decode b_Fr_passNumber 3 = .ok (.ifCond .eq (5), 3) := by decide +kernel
theorem d_Fr_passNumber_6 : decode b_Fr_passNumber 6 = .ok (.iconst (3), 1) := by decide +kernel
theorem d_Fr_passNumber_7 : decode b_Fr_passNumber 7 = .ok (.ireturn, 1) := by decide +kernel
theorem d_Fr_passNumber_8 : decode b_Fr_passNumber 8 = .ok (.iload_n 0, 1) := by decide +kernel
theorem d_Fr_passNumber_9 : decode b_Fr_passNumber 9 = .ok (.iconst (2), 1) := by decide +kernel
theorem d_Fr_passNumber_10 : decode b_Fr_passNumber 10 = .ok (.iand, 1) := by decide +kernel
theorem d_Fr_passNumber_11 : decode b_Fr_passNumber 11 = .ok (.ifCond .eq (5), 3) := by decide +kernel
theorem d_Fr_passNumber_14 : decode b_Fr_passNumber 14 = .ok (.iconst (2), 1) := by decide +kernel
theorem d_Fr_passNumber_15 : decode b_Fr_passNumber 15 = .ok (.ireturn, 1) := by decide +kernel
theorem d_Fr_passNumber_16 : decode b_Fr_passNumber 16 = .ok (.iload_n 0, 1) := by decide +kernel
theorem d_Fr_passNumber_17 : decode b_Fr_passNumber 17 = .ok (.iconst (4), 1) := by decide +kernel
theorem d_Fr_passNumber_18 : decode b_Fr_passNumber 18 = .ok (.iand, 1) := by decide +kernel
theorem d_Fr_passNumber_19 : decode b_Fr_passNumber 19 = .ok (.ifCond .eq (7), 3) := by decide +kernel
theorem d_Fr_passNumber_22 : decode b_Fr_passNumber 22 = .ok (.iconst (1), 1) := by decide +kernel
theorem d_Fr_passNumber_23 : decode b_Fr_passNumber 23 = .ok (.goto (4), 3) := by decide +kernel
theorem d_Fr_passNumber_26 : decode b_Fr_passNumber 26 = .ok (.iconst (0), 1) := by decide +kernel
theorem d_Fr_passNumber_27 : decode b_Fr_passNumber 27 = .ok (.ireturn, 1) := by decide +kernel
theorem d_Fr_forget_0 : decode b_Fr_forget 0 = .ok (.aload_n 0, 1) := by decide +kernel
theorem d_Fr_forget_1 : decode b_Fr_forget 1 = .ok (.getfield 20, 3) := by decide +kernel
theorem d_Fr_forget_4 : decode b_Fr_forget 4 = .ok (.invokevirtual 28, 3) := by decide +kernel
theorem d_Fr_forget_7 : decode b_Fr_forget 7 = .ok (.aload_n 0, 1) := by decide +kernel
theorem d_Fr_forget_8 : decode b_Fr_forget 8 = .ok (.iconst (-1), 1) := by decide +kernel
theorem d_Fr_forget_9 : decode b_Fr_forget 9 = .ok (.putfield 24, 3) := by decide +kernel
theorem d_Fr_forget_12 : decode b_Fr_forget 12 = .ok (.return_, 1) := by decide +kernel
theorem d_Fr_lay_0 : decode b_Fr_lay 0 = .ok (.aload_n 0, 1) := by decide +kernel
theorem d_Fr_lay_1 : decode b_Fr_lay 1 = .ok (.iload_n 1, 1) := by decide +kernel
theorem d_Fr_lay_2 : decode b_Fr_lay 2 = .ok (.putfield 31, 3) := by decide +kernel
theorem d_Fr_lay_5 : decode b_Fr_lay 5 = .ok (.aload_n 0, 1) := by decide +kernel
theorem d_Fr_lay_6 : decode b_Fr_lay 6 = .ok (.iload_n 2, 1) := by decide +kernel
theorem d_Fr_lay_7 : decode b_Fr_lay 7 = .ok (.putfield 34, 3) := by decide +kernel
theorem d_Fr_lay_10 : decode b_Fr_lay 10 = .ok (.aload_n 0, 1) := by decide +kernel
theorem d_Fr_lay_11 : decode b_Fr_lay 11 = .ok (.iload_n 3, 1) := by decide +kernel
theorem d_Fr_lay_12 : decode b_Fr_lay 12 = .ok (.putfield 37, 3) := by decide +kernel
theorem d_Fr_lay_15 : decode b_Fr_lay 15 = .ok (.aload_n 0, 1) := by decide +kernel
theorem d_Fr_lay_16 : decode b_Fr_lay 16 = .ok (.iload 4, 2) := by decide +kernel
theorem d_Fr_lay_18 : decode b_Fr_lay 18 = .ok (.putfield 40, 3) := by decide +kernel
theorem d_Fr_lay_21 : decode b_Fr_lay 21 = .ok (.return_, 1) := by decide +kernel
theorem d_Fr_time_0 : decode b_Fr_time 0 = .ok (.aload_n 0, 1) := by decide +kernel
theorem d_Fr_time_1 : decode b_Fr_time 1 = .ok (.iload_n 1, 1) := by decide +kernel
theorem d_Fr_time_2 : decode b_Fr_time 2 = .ok (.putfield 43, 3) := by decide +kernel
theorem d_Fr_time_5 : decode b_Fr_time 5 = .ok (.aload_n 0, 1) := by decide +kernel
theorem d_Fr_time_6 : decode b_Fr_time 6 = .ok (.iload_n 2, 1) := by decide +kernel
theorem d_Fr_time_7 : decode b_Fr_time 7 = .ok (.putfield 46, 3) := by decide +kernel
theorem d_Fr_time_10 : decode b_Fr_time 10 = .ok (.return_, 1) := by decide +kernel
theorem d_Fr_fill_0 : decode b_Fr_fill 0 = .ok (.iconst (0), 1) := by decide +kernel
theorem d_Fr_fill_1 : decode b_Fr_fill 1 = .ok (.istore_n 3, 1) := by decide +kernel
theorem d_Fr_fill_2 : decode b_Fr_fill 2 = .ok (.iconst (0), 1) := by decide +kernel
theorem d_Fr_fill_3 : decode b_Fr_fill 3 = .ok (.istore 4, 2) := by decide +kernel
theorem d_Fr_fill_5 : decode b_Fr_fill 5 = .ok (.iload 4, 2) := by decide +kernel
theorem d_Fr_fill_7 : decode b_Fr_fill 7 = .ok (.iconst (4), 1) := by decide +kernel
theorem d_Fr_fill_8 : decode b_Fr_fill 8 = .ok (.if_icmp .ge (64), 3) := by decide +kernel
theorem d_Fr_fill_11 : decode b_Fr_fill 11 = .ok (.iconst (0), 1) := by decide +kernel
theorem d_Fr_fill_12 : decode b_Fr_fill 12 = .ok (.istore 5, 2) := by decide +kernel
theorem d_Fr_fill_14 : decode b_Fr_fill 14 = .ok (.iload 5, 2) := by decide +kernel
theorem d_Fr_fill_16 : decode b_Fr_fill 16 = .ok (.aload_n 0, 1) := by decide +kernel
theorem d_Fr_fill_17 : decode b_Fr_fill 17 = .ok (.getfield 40, 3) := by decide +kernel
theorem d_Fr_fill_20 : decode b_Fr_fill 20 = .ok (.if_icmp .ge (46), 3) := by decide +kernel
theorem d_Fr_fill_23 : decode b_Fr_fill 23 = .ok (.iload_n 2, 1) := by decide +kernel
theorem d_Fr_fill_24 : decode b_Fr_fill 24 = .ok (.ifCond .eq (11), 3) := by decide +kernel
theorem d_Fr_fill_27 : decode b_Fr_fill 27 = .ok (.iload 5, 2) := by decide +kernel
theorem d_Fr_fill_29 : decode b_Fr_fill 29 = .ok (.invokestatic 49, 3) := by decide +kernel
theorem d_Fr_fill_32 : decode b_Fr_fill 32 = .ok (.goto (4), 3) := by decide +kernel
theorem d_Fr_fill_35 : decode b_Fr_fill 35 = .ok (.iconst (0), 1) := by decide +kernel
theorem d_Fr_fill_36 : decode b_Fr_fill 36 = .ok (.istore 6, 2) := by decide +kernel
theorem d_Fr_fill_38 : decode b_Fr_fill 38 = .ok (.iload 6, 2) := by decide +kernel
theorem d_Fr_fill_40 : decode b_Fr_fill 40 = .ok (.iload 4, 2) := by decide +kernel
theorem d_Fr_fill_42 : decode b_Fr_fill 42 = .ok (.if_icmp .ne (18), 3) := by decide +kernel
theorem d_Fr_fill_45 : decode b_Fr_fill 45 = .ok (.aload_n 0, 1) := by decide +kernel
theorem d_Fr_fill_46 : decode b_Fr_fill 46 = .ok (.aload_n 1, 1) := by decide +kernel
theorem d_Fr_fill_47 : decode b_Fr_fill 47 = .ok (.iload_n 3, 1) := by decide +kernel
theorem d_Fr_fill_48 : decode b_Fr_fill 48 = .ok (.iload 5, 2) := by decide +kernel
theorem d_Fr_fill_50 : decode b_Fr_fill 50 = .ok (.invokevirtual 53, 3) := by decide +kernel
theorem d_Fr_fill_53 : decode b_Fr_fill 53 = .ok (.iload_n 3, 1) := by decide +kernel
theorem d_Fr_fill_54 : decode b_Fr_fill 54 = .ok (.aload_n 0, 1) := by decide +kernel
theorem d_Fr_fill_55 : decode b_Fr_fill 55 = .ok (.getfield 37, 3) := by decide +kernel
theorem d_Fr_fill_58 : decode b_Fr_fill 58 = .ok (.iadd, 1) := by decide +kernel
theorem d_Fr_fill_59 : decode b_Fr_fill 59 = .ok (.istore_n 3, 1) := by decide +kernel
theorem d_Fr_fill_60 : decode b_Fr_fill 60 = .ok (.iinc 5 (1), 3) := by decide +kernel
theorem d_Fr_fill_63 : decode b_Fr_fill 63 = .ok (.goto (-49), 3) := by decide +kernel
theorem d_Fr_fill_66 : decode b_Fr_fill 66 = .ok (.iinc 4 (1), 3) := by decide +kernel
theorem d_Fr_fill_69 : decode b_Fr_fill 69 = .ok (.goto (-64), 3) := by decide +kernel
theorem d_Fr_fill_72 : decode b_Fr_fill 72 = .ok (.return_, 1) := by decide +kernel
theorem d_Fr_fillLine_0 : decode b_Fr_fillLine 0 = .ok (.iconst (0), 1) := by decide +kernel
theorem d_Fr_fillLine_1 : decode b_Fr_fillLine 1 = .ok (.istore 4, 2) := by decide +kernel
theorem d_Fr_fillLine_3 : decode b_Fr_fillLine 3 = .ok (.iload 4, 2) := by decide +kernel
theorem d_Fr_fillLine_5 : decode b_Fr_fillLine 5 = .ok (.aload_n 0, 1) := by decide +kernel
theorem d_Fr_fillLine_6 : decode b_Fr_fillLine 6 = .ok (.getfield 37, 3) := by decide +kernel
theorem d_Fr_fillLine_9 : decode b_Fr_fillLine 9 = .ok (.if_icmp .ge (50), 3) := by decide +kernel
theorem d_Fr_fillLine_12 : decode b_Fr_fillLine 12 = .ok (.iload_n 3, 1) := by decide +kernel
theorem d_Fr_fillLine_13 : decode b_Fr_fillLine 13 = .ok (.aload_n 0, 1) := by decide +kernel
theorem d_Fr_fillLine_14 : decode b_Fr_fillLine 14 = .ok (.getfield 37, 3) := by decide +kernel
theorem d_Fr_fillLine_17 : decode b_Fr_fillLine 17 = .ok (.imul, 1) := by decide +kernel
theorem d_Fr_fillLine_18 : decode b_Fr_fillLine 18 = .ok (.iload 4, 2) := by decide +kernel
theorem d_Fr_fillLine_20 : decode b_Fr_fillLine 20 = .ok (.iadd, 1) := by decide +kernel
theorem d_Fr_fillLine_21 : decode b_Fr_fillLine 21 = .ok (.istore 5, 2) := by decide +kernel
theorem d_Fr_fillLine_23 : decode b_Fr_fillLine 23 = .ok (.iload 5, 2) := by decide +kernel
theorem d_Fr_fillLine_25 : decode b_Fr_fillLine 25 = .ok (.ifCond .lt (28), 3) := by decide +kernel
theorem d_Fr_fillLine_28 : decode b_Fr_fillLine 28 = .ok (.iload 5, 2) := by decide +kernel
theorem d_Fr_fillLine_30 : decode b_Fr_fillLine 30 = .ok (.aload_n 0, 1) := by decide +kernel
theorem d_Fr_fillLine_31 : decode b_Fr_fillLine 31 = .ok (.getfield 9, 3) := by decide +kernel
theorem d_Fr_fillLine_34 : decode b_Fr_fillLine 34 = .ok (.arraylength, 1) := by decide +kernel
theorem d_Fr_fillLine_35 : decode b_Fr_fillLine 35 = .ok (.if_icmp .ge (18), 3) := by decide +kernel
theorem d_Fr_fillLine_38 : decode b_Fr_fillLine 38 = .ok (.aload_n 0, 1) := by decide +kernel
theorem d_Fr_fillLine_39 : decode b_Fr_fillLine 39 = .ok (.getfield 9, 3) := by decide +kernel
theorem d_Fr_fillLine_42 : decode b_Fr_fillLine 42 = .ok (.iload 5, 2) := by decide +kernel
theorem d_Fr_fillLine_44 : decode b_Fr_fillLine 44 = .ok (.aload_n 1, 1) := by decide +kernel
theorem d_Fr_fillLine_45 : decode b_Fr_fillLine 45 = .ok (.iload_n 2, 1) := by decide +kernel
theorem d_Fr_fillLine_46 : decode b_Fr_fillLine 46 = .ok (.iload 4, 2) := by decide +kernel
theorem d_Fr_fillLine_48 : decode b_Fr_fillLine 48 = .ok (.iadd, 1) := by decide +kernel
theorem d_Fr_fillLine_49 : decode b_Fr_fillLine 49 = .ok (.invokevirtual 57, 3) := by decide +kernel
theorem d_Fr_fillLine_52 : decode b_Fr_fillLine 52 = .ok (.iastore, 1) := by decide +kernel
theorem d_Fr_fillLine_53 : decode b_Fr_fillLine 53 = .ok (.iinc 4 (1), 3) := by decide +kernel
theorem d_Fr_fillLine_56 : decode b_Fr_fillLine 56 = .ok (.goto (-53), 3) := by decide +kernel
theorem d_Fr_fillLine_59 : decode b_Fr_fillLine 59 = .ok (.return_, 1) := by decide +kernel
theorem d_Fr_symbolIn_0 : decode b_Fr_symbolIn 0 = .ok (.iload_n 2, 1) := by decide +kernel
theorem d_Fr_symbolIn_1 : decode b_Fr_symbolIn 1 = .ok (.aload_n 0, 1) := by decide +kernel
theorem d_Fr_symbolIn_2 : decode b_Fr_symbolIn 2 = .ok (.getfield 37, 3) := by decide +kernel
theorem d_Fr_symbolIn_5 : decode b_Fr_symbolIn 5 = .ok (.imul, 1) := by decide +kernel
theorem d_Fr_symbolIn_6 : decode b_Fr_symbolIn 6 = .ok (.iload_n 1, 1) := by decide +kernel
theorem d_Fr_symbolIn_7 : decode b_Fr_symbolIn 7 = .ok (.iadd, 1) := by decide +kernel
theorem d_Fr_symbolIn_8 : decode b_Fr_symbolIn 8 = .ok (.istore_n 3, 1) := by decide +kernel
theorem d_Fr_symbolIn_9 : decode b_Fr_symbolIn 9 = .ok (.iload_n 3, 1) := by decide +kernel
theorem d_Fr_symbolIn_10 : decode b_Fr_symbolIn 10 = .ok (.ifCond .lt (21), 3) := by decide +kernel
theorem d_Fr_symbolIn_13 : decode b_Fr_symbolIn 13 = .ok (.iload_n 3, 1) := by decide +kernel
theorem d_Fr_symbolIn_14 : decode b_Fr_symbolIn 14 = .ok (.aload_n 0, 1) := by decide +kernel
theorem d_Fr_symbolIn_15 : decode b_Fr_symbolIn 15 = .ok (.getfield 9, 3) := by decide +kernel
theorem d_Fr_symbolIn_18 : decode b_Fr_symbolIn 18 = .ok (.arraylength, 1) := by decide +kernel
theorem d_Fr_symbolIn_19 : decode b_Fr_symbolIn 19 = .ok (.if_icmp .ge (12), 3) := by decide +kernel
theorem d_Fr_symbolIn_22 : decode b_Fr_symbolIn 22 = .ok (.aload_n 0, 1) := by decide +kernel
theorem d_Fr_symbolIn_23 : decode b_Fr_symbolIn 23 = .ok (.getfield 9, 3) := by decide +kernel
theorem d_Fr_symbolIn_26 : decode b_Fr_symbolIn 26 = .ok (.iload_n 3, 1) := by decide +kernel
theorem d_Fr_symbolIn_27 : decode b_Fr_symbolIn 27 = .ok (.iaload, 1) := by decide +kernel
theorem d_Fr_symbolIn_28 : decode b_Fr_symbolIn 28 = .ok (.goto (4), 3) := by decide +kernel
theorem d_Fr_symbolIn_31 : decode b_Fr_symbolIn 31 = .ok (.iconst (-1), 1) := by decide +kernel
theorem d_Fr_symbolIn_32 : decode b_Fr_symbolIn 32 = .ok (.ireturn, 1) := by decide +kernel
theorem d_Fr_covers_0 : decode b_Fr_covers 0 = .ok (.iload_n 1, 1) := by decide +kernel
theorem d_Fr_covers_1 : decode b_Fr_covers 1 = .ok (.aload_n 0, 1) := by decide +kernel
theorem d_Fr_covers_2 : decode b_Fr_covers 2 = .ok (.getfield 31, 3) := by decide +kernel
theorem d_Fr_covers_5 : decode b_Fr_covers 5 = .ok (.if_icmp .lt (41), 3) := by decide +kernel
theorem d_Fr_covers_8 : decode b_Fr_covers 8 = .ok (.iload_n 1, 1) := by decide +kernel
theorem d_Fr_covers_9 : decode b_Fr_covers 9 = .ok (.aload_n 0, 1) := by decide +kernel
theorem d_Fr_covers_10 : decode b_Fr_covers 10 = .ok (.getfield 31, 3) := by decide +kernel
theorem d_Fr_covers_13 : decode b_Fr_covers 13 = .ok (.isub, 1) := by decide +kernel
theorem d_Fr_covers_14 : decode b_Fr_covers 14 = .ok (.aload_n 0, 1) := by decide +kernel
theorem d_Fr_covers_15 : decode b_Fr_covers 15 = .ok (.getfield 37, 3) := by decide +kernel
theorem d_Fr_covers_18 : decode b_Fr_covers 18 = .ok (.if_icmp .ge (28), 3) := by decide +kernel
theorem d_Fr_covers_21 : decode b_Fr_covers 21 = .ok (.iload_n 2, 1) := by decide +kernel
theorem d_Fr_covers_22 : decode b_Fr_covers 22 = .ok (.aload_n 0, 1) := by decide +kernel
theorem d_Fr_covers_23 : decode b_Fr_covers 23 = .ok (.getfield 34, 3) := by decide +kernel
theorem d_Fr_covers_26 : decode b_Fr_covers 26 = .ok (.if_icmp .lt (20), 3) := by decide +kernel
theorem d_Fr_covers_29 : decode b_Fr_covers 29 = .ok (.iload_n 2, 1) := by decide +kernel
theorem d_Fr_covers_30 : decode b_Fr_covers 30 = .ok (.aload_n 0, 1) := by decide +kernel
theorem d_Fr_covers_31 : decode b_Fr_covers 31 = .ok (.getfield 34, 3) := by decide +kernel
theorem d_Fr_covers_34 : decode b_Fr_covers 34 = .ok (.isub, 1) := by decide +kernel
theorem d_Fr_covers_35 : decode b_Fr_covers 35 = .ok (.aload_n 0, 1) := by decide +kernel
theorem d_Fr_covers_36 : decode b_Fr_covers 36 = .ok (.getfield 40, 3) := by decide +kernel
theorem d_Fr_covers_39 : decode b_Fr_covers 39 = .ok (.if_icmp .ge (7), 3) := by decide +kernel
theorem d_Fr_covers_42 : decode b_Fr_covers 42 = .ok (.iconst (1), 1) := by decide +kernel
theorem d_Fr_covers_43 : decode b_Fr_covers 43 = .ok (.goto (4), 3) := by decide +kernel
theorem d_Fr_covers_46 : decode b_Fr_covers 46 = .ok (.iconst (0), 1) := by decide +kernel
theorem d_Fr_covers_47 : decode b_Fr_covers 47 = .ok (.ireturn, 1) := by decide +kernel
theorem d_Fr_symbolOn_0 : decode b_Fr_symbolOn 0 = .ok (.aload_n 0, 1) := by decide +kernel
theorem d_Fr_symbolOn_1 : decode b_Fr_symbolOn 1 = .ok (.iload_n 1, 1) := by decide +kernel
theorem d_Fr_symbolOn_2 : decode b_Fr_symbolOn 2 = .ok (.aload_n 0, 1) := by decide +kernel
theorem d_Fr_symbolOn_3 : decode b_Fr_symbolOn 3 = .ok (.getfield 31, 3) := by decide +kernel
theorem d_Fr_symbolOn_6 : decode b_Fr_symbolOn 6 = .ok (.isub, 1) := by decide +kernel
theorem d_Fr_symbolOn_7 : decode b_Fr_symbolOn 7 = .ok (.iload_n 2, 1) := by decide +kernel
theorem d_Fr_symbolOn_8 : decode b_Fr_symbolOn 8 = .ok (.aload_n 0, 1) := by decide +kernel
theorem d_Fr_symbolOn_9 : decode b_Fr_symbolOn 9 = .ok (.getfield 34, 3) := by decide +kernel
theorem d_Fr_symbolOn_12 : decode b_Fr_symbolOn 12 = .ok (.isub, 1) := by decide +kernel
theorem d_Fr_symbolOn_13 : decode b_Fr_symbolOn 13 = .ok (.invokevirtual 62, 3) := by decide +kernel
theorem d_Fr_symbolOn_16 : decode b_Fr_symbolOn 16 = .ok (.ireturn, 1) := by decide +kernel
theorem d_Nu_init_0 : decode b_Nu_init 0 = .ok (.aload_n 0, 1) := by decide +kernel
theorem d_Nu_init_1 : decode b_Nu_init 1 = .ok (.invokespecial 3, 3) := by decide +kernel
theorem d_Nu_init_4 : decode b_Nu_init 4 = .ok (.aload_n 0, 1) := by decide +kernel
theorem d_Nu_init_5 : decode b_Nu_init 5 = .ok (.iload_n 1, 1) := by decide +kernel
theorem d_Nu_init_6 : decode b_Nu_init 6 = .ok (.newarray .int, 2) := by decide +kernel
theorem d_Nu_init_8 : decode b_Nu_init 8 = .ok (.putfield 9, 3) := by decide +kernel
theorem d_Nu_init_11 : decode b_Nu_init 11 = .ok (.return_, 1) := by decide +kernel
theorem d_Nu_has_0 : decode b_Nu_has 0 = .ok (.iload_n 1, 1) := by decide +kernel
theorem d_Nu_has_1 : decode b_Nu_has 1 = .ok (.ifCond .lt (15), 3) := by decide +kernel
theorem d_Nu_has_4 : decode b_Nu_has 4 = .ok (.iload_n 1, 1) := by decide +kernel
theorem d_Nu_has_5 : decode b_Nu_has 5 = .ok (.aload_n 0, 1) := by decide +kernel
theorem d_Nu_has_6 : decode b_Nu_has 6 = .ok (.getfield 15, 3) := by decide +kernel
theorem d_Nu_has_9 : decode b_Nu_has 9 = .ok (.if_icmp .ge (7), 3) := by decide +kernel
theorem d_Nu_has_12 : decode b_Nu_has 12 = .ok (.iconst (1), 1) := by decide +kernel
theorem d_Nu_has_13 : decode b_Nu_has 13 = .ok (.goto (4), 3) := by decide +kernel
theorem d_Nu_has_16 : decode b_Nu_has 16 = .ok (.iconst (0), 1) := by decide +kernel
theorem d_Nu_has_17 : decode b_Nu_has 17 = .ok (.ireturn, 1) := by decide +kernel
theorem d_Nu_get_0 : decode b_Nu_get 0 = .ok (.aload_n 0, 1) := by decide +kernel
theorem d_Nu_get_1 : decode b_Nu_get 1 = .ok (.iload_n 1, 1) := by decide +kernel
theorem d_Nu_get_2 : decode b_Nu_get 2 = .ok (.invokevirtual 19, 3) := by decide +kernel
theorem d_Nu_get_5 : decode b_Nu_get 5 = .ok (.ifCond .eq (12), 3) := by decide +kernel
theorem d_Nu_get_8 : decode b_Nu_get 8 = .ok (.aload_n 0, 1) := by decide +kernel
theorem d_Nu_get_9 : decode b_Nu_get 9 = .ok (.getfield 9, 3) := by decide +kernel
theorem d_Nu_get_12 : decode b_Nu_get 12 = .ok (.iload_n 1, 1) := by decide +kernel
theorem d_Nu_get_13 : decode b_Nu_get 13 = .ok (.iaload, 1) := by decide +kernel
theorem d_Nu_get_14 : decode b_Nu_get 14 = .ok (.goto (4), 3) := by decide +kernel
theorem d_Nu_get_17 : decode b_Nu_get 17 = .ok (.iconst (-1), 1) := by decide +kernel
theorem d_Nu_get_18 : decode b_Nu_get 18 = .ok (.ireturn, 1) := by decide +kernel
theorem d_Nu_room_0 : decode b_Nu_room 0 = .ok (.aload_n 0, 1) := by decide +kernel
theorem d_Nu_room_1 : decode b_Nu_room 1 = .ok (.getfield 9, 3) := by decide +kernel
theorem d_Nu_room_4 : decode b_Nu_room 4 = .ok (.arraylength, 1) := by decide +kernel
theorem d_Nu_room_5 : decode b_Nu_room 5 = .ok (.aload_n 0, 1) := by decide +kernel
theorem d_Nu_room_6 : decode b_Nu_room 6 = .ok (.getfield 15, 3) := by decide +kernel
theorem d_Nu_room_9 : decode b_Nu_room 9 = .ok (.isub, 1) := by decide +kernel
theorem d_Nu_room_10 : decode b_Nu_room 10 = .ok (.ireturn, 1) := by decide +kernel
theorem d_Nu_add_0 : decode b_Nu_add 0 = .ok (.aload_n 0, 1) := by decide +kernel
theorem d_Nu_add_1 : decode b_Nu_add 1 = .ok (.getfield 15, 3) := by decide +kernel
theorem d_Nu_add_4 : decode b_Nu_add 4 = .ok (.aload_n 0, 1) := by decide +kernel
theorem d_Nu_add_5 : decode b_Nu_add 5 = .ok (.getfield 9, 3) := by decide +kernel
theorem d_Nu_add_8 : decode b_Nu_add 8 = .ok (.arraylength, 1) := by decide +kernel
theorem d_Nu_add_9 : decode b_Nu_add 9 = .ok (.if_icmp .ge (23), 3) := by decide +kernel
theorem d_Nu_add_12 : decode b_Nu_add 12 = .ok (.aload_n 0, 1) := by decide +kernel
theorem d_Nu_add_13 : decode b_Nu_add 13 = .ok (.getfield 9, 3) := by decide +kernel
theorem d_Nu_add_16 : decode b_Nu_add 16 = .ok (.aload_n 0, 1) := by decide +kernel
theorem d_Nu_add_17 : decode b_Nu_add 17 = .ok (.getfield 15, 3) := by decide +kernel
theorem d_Nu_add_20 : decode b_Nu_add 20 = .ok (.iload_n 1, 1) := by decide +kernel
theorem d_Nu_add_21 : decode b_Nu_add 21 = .ok (.iastore, 1) := by decide +kernel
theorem d_Nu_add_22 : decode b_Nu_add 22 = .ok (.aload_n 0, 1) := by decide +kernel
theorem d_Nu_add_23 : decode b_Nu_add 23 = .ok (.dup, 1) := by decide +kernel
theorem d_Nu_add_24 : decode b_Nu_add 24 = .ok (.getfield 15, 3) := by decide +kernel
theorem d_Nu_add_27 : decode b_Nu_add 27 = .ok (.iconst (1), 1) := by decide +kernel
theorem d_Nu_add_28 : decode b_Nu_add 28 = .ok (.iadd, 1) := by decide +kernel
theorem d_Nu_add_29 : decode b_Nu_add 29 = .ok (.putfield 15, 3) := by decide +kernel
theorem d_Nu_add_32 : decode b_Nu_add 32 = .ok (.return_, 1) := by decide +kernel
theorem d_Nu_dropFirst_0 : decode b_Nu_dropFirst 0 = .ok (.iload_n 1, 1) := by decide +kernel
theorem d_Nu_dropFirst_1 : decode b_Nu_dropFirst 1 = .ok (.ifCond .lt (40), 3) := by decide +kernel
theorem d_Nu_dropFirst_4 : decode b_Nu_dropFirst 4 = .ok (.iload_n 1, 1) := by decide +kernel
theorem d_Nu_dropFirst_5 : decode b_Nu_dropFirst 5 = .ok (.aload_n 0, 1) := by decide +kernel
theorem d_Nu_dropFirst_6 : decode b_Nu_dropFirst 6 = .ok (.getfield 15, 3) := by decide +kernel
theorem d_Nu_dropFirst_9 : decode b_Nu_dropFirst 9 = .ok (.if_icmp .gt (32), 3) := by decide +kernel
theorem d_Nu_dropFirst_12 : decode b_Nu_dropFirst 12 = .ok (.aload_n 0, 1) := by decide +kernel
theorem d_Nu_dropFirst_13 : decode b_Nu_dropFirst 13 = .ok (.getfield 9, 3) := by decide +kernel
theorem d_Nu_dropFirst_16 : decode b_Nu_dropFirst 16 = .ok (.iload_n 1, 1) := by decide +kernel
theorem d_Nu_dropFirst_17 : decode b_Nu_dropFirst 17 = .ok (.aload_n 0, 1) := by decide +kernel
theorem d_Nu_dropFirst_18 : decode b_Nu_dropFirst 18 = .ok (.getfield 9, 3) := by decide +kernel
theorem d_Nu_dropFirst_21 : decode b_Nu_dropFirst 21 = .ok (.iconst (0), 1) := by decide +kernel
theorem d_Nu_dropFirst_22 : decode b_Nu_dropFirst 22 = .ok (.aload_n 0, 1) := by decide +kernel
theorem d_Nu_dropFirst_23 : decode b_Nu_dropFirst 23 = .ok (.getfield 15, 3) := by decide +kernel
theorem d_Nu_dropFirst_26 : decode b_Nu_dropFirst 26 = .ok (.iload_n 1, 1) := by decide +kernel
theorem d_Nu_dropFirst_27 : decode b_Nu_dropFirst 27 = .ok (.isub, 1) := by decide +kernel
theorem d_Nu_dropFirst_28 : decode b_Nu_dropFirst 28 = .ok (.invokestatic 23, 3) := by decide +kernel
theorem d_Nu_dropFirst_31 : decode b_Nu_dropFirst 31 = .ok (.aload_n 0, 1) := by decide +kernel
theorem d_Nu_dropFirst_32 : decode b_Nu_dropFirst 32 = .ok (.dup, 1) := by decide +kernel
theorem d_Nu_dropFirst_33 : decode b_Nu_dropFirst 33 = .ok (.getfield 15, 3) := by decide +kernel
theorem d_Nu_dropFirst_36 : decode b_Nu_dropFirst 36 = .ok (.iload_n 1, 1) := by decide +kernel
theorem d_Nu_dropFirst_37 : decode b_Nu_dropFirst 37 = .ok (.isub, 1) := by decide +kernel
theorem d_Nu_dropFirst_38 : decode b_Nu_dropFirst 38 = .ok (.putfield 15, 3) := by decide +kernel
theorem d_Nu_dropFirst_41 : decode b_Nu_dropFirst 41 = .ok (.return_, 1) := by decide +kernel
theorem d_Nu_empty_0 : decode b_Nu_empty 0 = .ok (.aload_n 0, 1) := by decide +kernel
theorem d_Nu_empty_1 : decode b_Nu_empty 1 = .ok (.iconst (0), 1) := by decide +kernel
theorem d_Nu_empty_2 : decode b_Nu_empty 2 = .ok (.putfield 15, 3) := by decide +kernel
theorem d_Nu_empty_5 : decode b_Nu_empty 5 = .ok (.return_, 1) := by decide +kernel
theorem d_Pa_init_0 : decode b_Pa_init 0 = .ok (.aload_n 0, 1) := by decide +kernel
theorem d_Pa_init_1 : decode b_Pa_init 1 = .ok (.invokespecial 3, 3) := by decide +kernel
theorem d_Pa_init_4 : decode b_Pa_init 4 = .ok (.aload_n 0, 1) := by decide +kernel
theorem d_Pa_init_5 : decode b_Pa_init 5 = .ok (.iload_n 1, 1) := by decide +kernel
theorem d_Pa_init_6 : decode b_Pa_init 6 = .ok (.newarray .int, 2) := by decide +kernel
theorem d_Pa_init_8 : decode b_Pa_init 8 = .ok (.putfield 9, 3) := by decide +kernel
theorem d_Pa_init_11 : decode b_Pa_init 11 = .ok (.aload_n 0, 1) := by decide +kernel
theorem d_Pa_init_12 : decode b_Pa_init 12 = .ok (.getfield 9, 3) := by decide +kernel
theorem d_Pa_init_15 : decode b_Pa_init 15 = .ok (.iconst (-1), 1) := by decide +kernel
theorem d_Pa_init_16 : decode b_Pa_init 16 = .ok (.invokestatic 15, 3) := by decide +kernel
theorem d_Pa_init_19 : decode b_Pa_init 19 = .ok (.return_, 1) := by decide +kernel
theorem d_Pa_get_0 : decode b_Pa_get 0 = .ok (.iload_n 1, 1) := by decide +kernel
theorem d_Pa_get_1 : decode b_Pa_get 1 = .ok (.ifCond .lt (21), 3) := by decide +kernel
theorem d_Pa_get_4 : decode b_Pa_get 4 = .ok (.iload_n 1, 1) := by decide +kernel
theorem d_Pa_get_5 : decode b_Pa_get 5 = .ok (.aload_n 0, 1) := by decide +kernel
theorem d_Pa_get_6 : decode b_Pa_get 6 = .ok (.getfield 9, 3) := by decide +kernel
theorem d_Pa_get_9 : decode b_Pa_get 9 = .ok (.arraylength, 1) := by decide +kernel
theorem d_Pa_get_10 : decode b_Pa_get 10 = .ok (.if_icmp .ge (12), 3) := by decide +kernel
theorem d_Pa_get_13 : decode b_Pa_get 13 = .ok (.aload_n 0, 1) := by decide +kernel
theorem d_Pa_get_14 : decode b_Pa_get 14 = .ok (.getfield 9, 3) := by decide +kernel
theorem d_Pa_get_17 : decode b_Pa_get 17 = .ok (.iload_n 1, 1) := by decide +kernel
theorem d_Pa_get_18 : decode b_Pa_get 18 = .ok (.iaload, 1) := by decide +kernel
theorem d_Pa_get_19 : decode b_Pa_get 19 = .ok (.goto (4), 3) := by decide +kernel
theorem d_Pa_get_22 : decode b_Pa_get 22 = .ok (.iconst (-1), 1) := by decide +kernel
theorem d_Pa_get_23 : decode b_Pa_get 23 = .ok (.ireturn, 1) := by decide +kernel
theorem d_Pa_change_0 : decode b_Pa_change 0 = .ok (.aload_n 0, 1) := by decide +kernel
theorem d_Pa_change_1 : decode b_Pa_change 1 = .ok (.iload_n 1, 1) := by decide +kernel
theorem d_Pa_change_2 : decode b_Pa_change 2 = .ok (.invokevirtual 21, 3) := by decide +kernel
theorem d_Pa_change_5 : decode b_Pa_change 5 = .ok (.istore_n 3, 1) := by decide +kernel
theorem d_Pa_change_6 : decode b_Pa_change 6 = .ok (.iload_n 1, 1) := by decide +kernel
theorem d_Pa_change_7 : decode b_Pa_change 7 = .ok (.ifCond .lt (19), 3) := by decide +kernel
theorem d_Pa_change_10 : decode b_Pa_change 10 = .ok (.iload_n 1, 1) := by decide +kernel
theorem d_Pa_change_11 : decode b_Pa_change 11 = .ok (.aload_n 0, 1) := by decide +kernel
theorem d_Pa_change_12 : decode b_Pa_change 12 = .ok (.getfield 9, 3) := by decide +kernel
theorem d_Pa_change_15 : decode b_Pa_change 15 = .ok (.arraylength, 1) := by decide +kernel
theorem d_Pa_change_16 : decode b_Pa_change 16 = .ok (.if_icmp .ge (10), 3) := by decide +kernel
theorem d_Pa_change_19 : decode b_Pa_change 19 = .ok (.aload_n 0, 1) := by decide +kernel
theorem d_Pa_change_20 : decode b_Pa_change 20 = .ok (.getfield 9, 3) := by decide +kernel
theorem d_Pa_change_23 : decode b_Pa_change 23 = .ok (.iload_n 1, 1) := by decide +kernel
theorem d_Pa_change_24 : decode b_Pa_change 24 = .ok (.iload_n 2, 1) := by decide +kernel
theorem d_Pa_change_25 : decode b_Pa_change 25 = .ok (.iastore, 1) := by decide +kernel
theorem d_Pa_change_26 : decode b_Pa_change 26 = .ok (.iload_n 3, 1) := by decide +kernel
theorem d_Pa_change_27 : decode b_Pa_change 27 = .ok (.ireturn, 1) := by decide +kernel
theorem d_Pa_forget_0 : decode b_Pa_forget 0 = .ok (.aload_n 0, 1) := by decide +kernel
theorem d_Pa_forget_1 : decode b_Pa_forget 1 = .ok (.getfield 9, 3) := by decide +kernel
theorem d_Pa_forget_4 : decode b_Pa_forget 4 = .ok (.iconst (-1), 1) := by decide +kernel
theorem d_Pa_forget_5 : decode b_Pa_forget 5 = .ok (.invokestatic 15, 3) := by decide +kernel
theorem d_Pa_forget_8 : decode b_Pa_forget 8 = .ok (.return_, 1) := by decide +kernel
theorem d_Re_init_0 : decode b_Re_init 0 = .ok (.aload_n 0, 1) := by decide +kernel
theorem d_Re_init_1 : decode b_Re_init 1 = .ok (.invokespecial 3, 3) := by decide +kernel
theorem d_Re_init_4 : decode b_Re_init 4 = .ok (.aload_n 0, 1) := by decide +kernel
theorem d_Re_init_5 : decode b_Re_init 5 = .ok (.new 9, 3) := by decide +kernel
theorem d_Re_init_8 : decode b_Re_init 8 = .ok (.dup, 1) := by decide +kernel
theorem d_Re_init_9 : decode b_Re_init 9 = .ok (.sipush (12000), 3) := by decide +kernel
theorem d_Re_init_12 : decode b_Re_init 12 = .ok (.invokespecial 11, 3) := by decide +kernel
theorem d_Re_init_15 : decode b_Re_init 15 = .ok (.putfield 14, 3) := by decide +kernel
theorem d_Re_init_18 : decode b_Re_init 18 = .ok (.aload_n 0, 1) := by decide +kernel
theorem d_Re_init_19 : decode b_Re_init 19 = .ok (.sipush (4096), 3) := by decide +kernel
theorem d_Re_init_22 : decode b_Re_init 22 = .ok (.newarray .int, 2) := by decide +kernel
theorem d_Re_init_24 : decode b_Re_init 24 = .ok (.putfield 20, 3) := by decide +kernel
theorem d_Re_init_27 : decode b_Re_init 27 = .ok (.aload_n 0, 1) := by decide +kernel
theorem d_Re_init_28 : decode b_Re_init 28 = .ok (.sipush (4096), 3) := by decide +kernel
theorem d_Re_init_31 : decode b_Re_init 31 = .ok (.newarray .int, 2) := by decide +kernel
theorem d_Re_init_33 : decode b_Re_init 33 = .ok (.putfield 24, 3) := by decide +kernel
theorem d_Re_init_36 : decode b_Re_init 36 = .ok (.aload_n 0, 1) := by decide +kernel
theorem d_Re_init_37 : decode b_Re_init 37 = .ok (.iconst (1), 1) := by decide +kernel
theorem d_Re_init_38 : decode b_Re_init 38 = .ok (.iload_n 1, 1) := by decide +kernel
theorem d_Re_init_39 : decode b_Re_init 39 = .ok (.ishl, 1) := by decide +kernel
theorem d_Re_init_40 : decode b_Re_init 40 = .ok (.putfield 27, 3) := by decide +kernel
theorem d_Re_init_43 : decode b_Re_init 43 = .ok (.aload_n 0, 1) := by decide +kernel
theorem d_Re_init_44 : decode b_Re_init 44 = .ok (.aload_n 0, 1) := by decide +kernel
theorem d_Re_init_45 : decode b_Re_init 45 = .ok (.getfield 27, 3) := by decide +kernel
theorem d_Re_init_48 : decode b_Re_init 48 = .ok (.iconst (1), 1) := by decide +kernel
theorem d_Re_init_49 : decode b_Re_init 49 = .ok (.iadd, 1) := by decide +kernel
theorem d_Re_init_50 : decode b_Re_init 50 = .ok (.putfield 31, 3) := by decide +kernel
theorem d_Re_init_53 : decode b_Re_init 53 = .ok (.aload_n 0, 1) := by decide +kernel
theorem d_Re_init_54 : decode b_Re_init 54 = .ok (.new 34, 3) := by decide +kernel
theorem d_Re_init_57 : decode b_Re_init 57 = .ok (.dup, 1) := by decide +kernel
theorem d_Re_init_58 : decode b_Re_init 58 = .ok (.iload_n 1, 1) := by decide +kernel
theorem d_Re_init_59 : decode b_Re_init 59 = .ok (.invokespecial 36, 3) := by decide +kernel
theorem d_Re_init_62 : decode b_Re_init 62 = .ok (.putfield 37, 3) := by decide +kernel
theorem d_Re_init_65 : decode b_Re_init 65 = .ok (.aload_n 0, 1) := by decide +kernel
theorem d_Re_init_66 : decode b_Re_init 66 = .ok (.aload_n 0, 1) := by decide +kernel
theorem d_Re_init_67 : decode b_Re_init 67 = .ok (.getfield 31, 3) := by decide +kernel
theorem d_Re_init_70 : decode b_Re_init 70 = .ok (.putfield 41, 3) := by decide +kernel
theorem d_Re_init_73 : decode b_Re_init 73 = .ok (.return_, 1) := by decide +kernel
theorem d_Re_readAll_0 : decode b_Re_readAll 0 = .ok (.aload_n 0, 1) := by decide +kernel
theorem d_Re_readAll_1 : decode b_Re_readAll 1 = .ok (.getfield 14, 3) := by decide +kernel
theorem d_Re_readAll_4 : decode b_Re_readAll 4 = .ok (.invokevirtual 44, 3) := by decide +kernel
theorem d_Re_readAll_7 : decode b_Re_readAll 7 = .ok (.aload_n 0, 1) := by decide +kernel
theorem d_Re_readAll_8 : decode b_Re_readAll 8 = .ok (.invokevirtual 47, 3) := by decide +kernel
theorem d_Re_readAll_11 : decode b_Re_readAll 11 = .ok (.aload_n 1, 1) := by decide +kernel
theorem d_Re_readAll_12 : decode b_Re_readAll 12 = .ok (.getfield 50, 3) := by decide +kernel
theorem d_Re_readAll_15 : decode b_Re_readAll 15 = .ok (.bipush (8), 2) := by decide +kernel
theorem d_Re_readAll_17 : decode b_Re_readAll 17 = .ok (.imul, 1) := by decide +kernel
theorem d_Re_readAll_18 : decode b_Re_readAll 18 = .ok (.istore_n 2, 1) := by decide +kernel
theorem d_Re_readAll_19 : decode b_Re_readAll 19 = .ok (.iconst (0), 1) := by decide +kernel
theorem d_Re_readAll_20 : decode b_Re_readAll 20 = .ok (.istore_n 3, 1) := by decide +kernel
theorem d_Re_readAll_21 : decode b_Re_readAll 21 = .ok (.iconst (0), 1) := by decide +kernel
theorem d_Re_readAll_22 : decode b_Re_readAll 22 = .ok (.istore 4, 2) := by decide +kernel
theorem d_Re_readAll_24 : decode b_Re_readAll 24 = .ok (.iload 4, 2) := by decide +kernel
theorem d_Re_readAll_26 : decode b_Re_readAll 26 = .ok (.ldc 53, 2) := by decide +kernel
theorem d_Re_readAll_28 : decode b_Re_readAll 28 = .ok (.if_icmp .ge (92), 3) := by decide +kernel
theorem d_Re_readAll_31 : decode b_Re_readAll 31 = .ok (.iload_n 3, 1) := by decide +kernel
theorem d_Re_readAll_32 : decode b_Re_readAll 32 = .ok (.aload_n 0, 1) := by decide +kernel
theorem d_Re_readAll_33 : decode b_Re_readAll 33 = .ok (.getfield 37, 3) := by decide +kernel
theorem d_Re_readAll_36 : decode b_Re_readAll 36 = .ok (.getfield 54, 3) := by decide +kernel
theorem d_Re_readAll_39 : decode b_Re_readAll 39 = .ok (.iadd, 1) := by decide +kernel
theorem d_Re_readAll_40 : decode b_Re_readAll 40 = .ok (.iload_n 2, 1) := by decide +kernel
theorem d_Re_readAll_41 : decode b_Re_readAll 41 = .ok (.if_icmp .le (5), 3) := by decide +kernel
theorem d_Re_readAll_44 : decode b_Re_readAll 44 = .ok (.iconst (-1), 1) := by decide +kernel
theorem d_Re_readAll_45 : decode b_Re_readAll 45 = .ok (.ireturn, 1) := by decide +kernel
theorem d_Re_readAll_46 : decode b_Re_readAll 46 = .ok (.aload_n 0, 1) := by decide +kernel
theorem d_Re_readAll_47 : decode b_Re_readAll 47 = .ok (.aload_n 1, 1) := by decide +kernel
theorem d_Re_readAll_48 : decode b_Re_readAll 48 = .ok (.iload_n 3, 1) := by decide +kernel
theorem d_Re_readAll_49 : decode b_Re_readAll 49 = .ok (.invokevirtual 57, 3) := by decide +kernel
theorem d_Re_readAll_52 : decode b_Re_readAll 52 = .ok (.istore 5, 2) := by decide +kernel
theorem d_Re_readAll_54 : decode b_Re_readAll 54 = .ok (.iload_n 3, 1) := by decide +kernel
theorem d_Re_readAll_55 : decode b_Re_readAll 55 = .ok (.aload_n 0, 1) := by decide +kernel
theorem d_Re_readAll_56 : decode b_Re_readAll 56 = .ok (.getfield 37, 3) := by decide +kernel
theorem d_Re_readAll_59 : decode b_Re_readAll 59 = .ok (.getfield 54, 3) := by decide +kernel
theorem d_Re_readAll_62 : decode b_Re_readAll 62 = .ok (.iadd, 1) := by decide +kernel
theorem d_Re_readAll_63 : decode b_Re_readAll 63 = .ok (.istore_n 3, 1) := by decide +kernel
theorem d_Re_readAll_64 : decode b_Re_readAll 64 = .ok (.iload 5, 2) := by decide +kernel
theorem d_Re_readAll_66 : decode b_Re_readAll 66 = .ok (.aload_n 0, 1) := by decide +kernel
theorem d_Re_readAll_67 : decode b_Re_readAll 67 = .ok (.getfield 31, 3) := by decide +kernel
theorem d_Re_readAll_70 : decode b_Re_readAll 70 = .ok (.if_icmp .ne (5), 3) := by decide +kernel
theorem d_Re_readAll_73 : decode b_Re_readAll 73 = .ok (.iconst (-1), 1) := by decide +kernel
theorem d_Re_readAll_74 : decode b_Re_readAll 74 = .ok (.ireturn, 1) := by decide +kernel
theorem d_Re_readAll_75 : decode b_Re_readAll 75 = .ok (.iload 5, 2) := by decide +kernel
theorem d_Re_readAll_77 : decode b_Re_readAll 77 = .ok (.aload_n 0, 1) := by decide +kernel
theorem d_Re_readAll_78 : decode b_Re_readAll 78 = .ok (.getfield 27, 3) := by decide +kernel
theorem d_Re_readAll_81 : decode b_Re_readAll 81 = .ok (.if_icmp .ne (10), 3) := by decide +kernel
theorem d_Re_readAll_84 : decode b_Re_readAll 84 = .ok (.aload_n 0, 1) := by decide +kernel
theorem d_Re_readAll_85 : decode b_Re_readAll 85 = .ok (.invokevirtual 47, 3) := by decide +kernel
theorem d_Re_readAll_88 : decode b_Re_readAll 88 = .ok (.goto (26), 3) := by decide +kernel
theorem d_Re_readAll_91 : decode b_Re_readAll 91 = .ok (.iload 5, 2) := by decide +kernel
theorem d_Re_readAll_93 : decode b_Re_readAll 93 = .ok (.aload_n 0, 1) := by decide +kernel
theorem d_Re_readAll_94 : decode b_Re_readAll 94 = .ok (.getfield 41, 3) := by decide +kernel
theorem d_Re_readAll_97 : decode b_Re_readAll 97 = .ok (.if_icmp .le (6), 3) := by decide +kernel
theorem d_Re_readAll_100 : decode b_Re_readAll 100 = .ok (.iload 5, 2) := by decide +kernel
theorem d_Re_readAll_102 : decode b_Re_readAll 102 = .ok (.ireturn, 1) := by decide +kernel
theorem d_Re_readAll_103 : decode b_Re_readAll 103 = .ok (.aload_n 0, 1) := by decide +kernel
theorem d_Re_readAll_104 : decode b_Re_readAll 104 = .ok (.iload 5, 2) := by decide +kernel
theorem d_Re_readAll_106 : decode b_Re_readAll 106 = .ok (.invokevirtual 61, 3) := by decide +kernel
theorem d_Re_readAll_109 : decode b_Re_readAll 109 = .ok (.ifCond .ne (5), 3) := by decide +kernel
theorem d_Re_readAll_112 : decode b_Re_readAll 112 = .ok (.iconst (-1), 1) := by decide +kernel
theorem d_Re_readAll_113 : decode b_Re_readAll 113 = .ok (.ireturn, 1) := by decide +kernel
theorem d_Re_readAll_114 : decode b_Re_readAll 114 = .ok (.iinc 4 (1), 3) := by decide +kernel
theorem d_Re_readAll_117 : decode b_Re_readAll 117 = .ok (.goto (-93), 3) := by decide +kernel
theorem d_Re_readAll_120 : decode b_Re_readAll 120 = .ok (.iconst (-1), 1) := by decide +kernel
theorem d_Re_readAll_121 : decode b_Re_readAll 121 = .ok (.ireturn, 1) := by decide +kernel
theorem d_Re_restart_0 : decode b_Re_restart 0 = .ok (.aload_n 0, 1) := by decide +kernel
theorem d_Re_restart_1 : decode b_Re_restart 1 = .ok (.aload_n 0, 1) := by decide +kernel
theorem d_Re_restart_2 : decode b_Re_restart 2 = .ok (.getfield 31, 3) := by decide +kernel
theorem d_Re_restart_5 : decode b_Re_restart 5 = .ok (.putfield 41, 3) := by decide +kernel
theorem d_Re_restart_8 : decode b_Re_restart 8 = .ok (.aload_n 0, 1) := by decide +kernel
theorem d_Re_restart_9 : decode b_Re_restart 9 = .ok (.getfield 37, 3) := by decide +kernel
theorem d_Re_restart_12 : decode b_Re_restart 12 = .ok (.invokevirtual 65, 3) := by decide +kernel
theorem d_Re_restart_15 : decode b_Re_restart 15 = .ok (.return_, 1) := by decide +kernel
theorem d_Re_codeFrom_0 : decode b_Re_codeFrom 0 = .ok (.iload_n 2, 1) := by decide +kernel
theorem d_Re_codeFrom_1 : decode b_Re_codeFrom 1 = .ok (.iconst (3), 1) := by decide +kernel
theorem d_Re_codeFrom_2 : decode b_Re_codeFrom 2 = .ok (.ishr, 1) := by decide +kernel
theorem d_Re_codeFrom_3 : decode b_Re_codeFrom 3 = .ok (.istore_n 3, 1) := by decide +kernel
theorem d_Re_codeFrom_4 : decode b_Re_codeFrom 4 = .ok (.aload_n 1, 1) := by decide +kernel
theorem d_Re_codeFrom_5 : decode b_Re_codeFrom 5 = .ok (.iload_n 3, 1) := by decide +kernel
theorem d_Re_codeFrom_6 : decode b_Re_codeFrom 6 = .ok (.invokevirtual 66, 3) := by decide +kernel
theorem d_Re_codeFrom_9 : decode b_Re_codeFrom 9 = .ok (.istore 4, 2) := by decide +kernel
theorem d_Re_codeFrom_11 : decode b_Re_codeFrom 11 = .ok (.aload_n 1, 1) := by decide +kernel
theorem d_Re_codeFrom_12 : decode b_Re_codeFrom 12 = .ok (.iload_n 3, 1) := by decide +kernel
theorem d_Re_codeFrom_13 : decode b_Re_codeFrom 13 = .ok (.iconst (1), 1) := by decide +kernel
theorem d_Re_codeFrom_14 : decode b_Re_codeFrom 14 = .ok (.iadd, 1) := by decide +kernel
theorem d_Re_codeFrom_15 : decode b_Re_codeFrom 15 = .ok (.invokevirtual 70, 3) := by decide +kernel
theorem d_Re_codeFrom_18 : decode b_Re_codeFrom 18 = .ok (.ifCond .eq (18), 3) := by decide +kernel
theorem d_Re_codeFrom_21 : decode b_Re_codeFrom 21 = .ok (.iload 4, 2) := by decide +kernel
theorem d_Re_codeFrom_23 : decode b_Re_codeFrom 23 = .ok (.aload_n 1, 1) := by decide +kernel
theorem d_Re_codeFrom_24 : decode b_Re_codeFrom 24 = .ok (.iload_n 3, 1) := by decide +kernel
theorem d_Re_codeFrom_25 : decode b_Re_codeFrom 25 = .ok (.iconst (1), 1) := by decide +kernel
theorem d_Re_codeFrom_26 : decode b_Re_codeFrom 26 = .ok (.iadd, 1) := by decide +kernel
theorem d_Re_codeFrom_27 : decode b_Re_codeFrom 27 = .ok (.invokevirtual 66, 3) := by decide +kernel
theorem d_Re_codeFrom_30 : decode b_Re_codeFrom 30 = .ok (.bipush (8), 2) := by decide +kernel
theorem d_Re_codeFrom_32 : decode b_Re_codeFrom 32 = .ok (.ishl, 1) := by decide +kernel
theorem d_Re_codeFrom_33 : decode b_Re_codeFrom 33 = .ok (.ior, 1) := by decide +kernel
theorem d_Re_codeFrom_34 : decode b_Re_codeFrom 34 = .ok (.istore 4, 2) := by decide +kernel
theorem d_Re_codeFrom_36 : decode b_Re_codeFrom 36 = .ok (.aload_n 1, 1) := by decide +kernel
theorem d_Re_codeFrom_37 : decode b_Re_codeFrom 37 = .ok (.iload_n 3, 1) := by decide +kernel
theorem d_Re_codeFrom_38 : decode b_Re_codeFrom 38 = .ok (.iconst (2), 1) := by decide +kernel
theorem d_Re_codeFrom_39 : decode b_Re_codeFrom 39 = .ok (.iadd, 1) := by decide +kernel
theorem d_Re_codeFrom_40 : decode b_Re_codeFrom 40 = .ok (.invokevirtual 70, 3) := by decide +kernel
theorem d_Re_codeFrom_43 : decode b_Re_codeFrom 43 = .ok (.ifCond .eq (18), 3) := by decide +kernel
theorem d_Re_codeFrom_46 : decode b_Re_codeFrom 46 = .ok (.iload 4, 2) := by decide +kernel
theorem d_Re_codeFrom_48 : decode b_Re_codeFrom 48 = .ok (.aload_n 1, 1) := by decide +kernel
theorem d_Re_codeFrom_49 : decode b_Re_codeFrom 49 = .ok (.iload_n 3, 1) := by decide +kernel
theorem d_Re_codeFrom_50 : decode b_Re_codeFrom 50 = .ok (.iconst (2), 1) := by decide +kernel
theorem d_Re_codeFrom_51 : decode b_Re_codeFrom 51 = .ok (.iadd, 1) := by decide +kernel
theorem d_Re_codeFrom_52 : decode b_Re_codeFrom 52 = .ok (.invokevirtual 66, 3) := by decide +kernel
theorem d_Re_codeFrom_55 : decode b_Re_codeFrom 55 = .ok (.bipush (16), 2) := by decide +kernel
theorem d_Re_codeFrom_57 : decode b_Re_codeFrom 57 = .ok (.ishl, 1) := by decide +kernel
theorem d_Re_codeFrom_58 : decode b_Re_codeFrom 58 = .ok (.ior, 1) := by decide +kernel
theorem d_Re_codeFrom_59 : decode b_Re_codeFrom 59 = .ok (.istore 4, 2) := by decide +kernel
theorem d_Re_codeFrom_61 : decode b_Re_codeFrom 61 = .ok (.iload 4, 2) := by decide +kernel
theorem d_Re_codeFrom_63 : decode b_Re_codeFrom 63 = .ok (.iload_n 2, 1) := by decide +kernel
theorem d_Re_codeFrom_64 : decode b_Re_codeFrom 64 = .ok (.bipush (7), 2) := by decide +kernel
theorem d_Re_codeFrom_66 : decode b_Re_codeFrom 66 = .ok (.iand, 1) := by decide +kernel
theorem d_Re_codeFrom_67 : decode b_Re_codeFrom 67 = .ok (.ishr, 1) := by decide +kernel
theorem d_Re_codeFrom_68 : decode b_Re_codeFrom 68 = .ok (.iconst (1), 1) := by decide +kernel
theorem d_Re_codeFrom_69 : decode b_Re_codeFrom 69 = .ok (.aload_n 0, 1) := by decide +kernel
theorem d_Re_codeFrom_70 : decode b_Re_codeFrom 70 = .ok (.getfield 37, 3) := by decide +kernel
theorem d_Re_codeFrom_73 : decode b_Re_codeFrom 73 = .ok (.getfield 54, 3) := by decide +kernel
theorem d_Re_codeFrom_76 : decode b_Re_codeFrom 76 = .ok (.ishl, 1) := by decide +kernel
theorem d_Re_codeFrom_77 : decode b_Re_codeFrom 77 = .ok (.iconst (1), 1) := by decide +kernel
theorem d_Re_codeFrom_78 : decode b_Re_codeFrom 78 = .ok (.isub, 1) := by decide +kernel
theorem d_Re_codeFrom_79 : decode b_Re_codeFrom 79 = .ok (.iand, 1) := by decide +kernel
theorem d_Re_codeFrom_80 : decode b_Re_codeFrom 80 = .ok (.ireturn, 1) := by decide +kernel
theorem d_Re_copyString_0 : decode b_Re_copyString 0 = .ok (.iload_n 1, 1) := by decide +kernel
theorem d_Re_copyString_1 : decode b_Re_copyString 1 = .ok (.aload_n 0, 1) := by decide +kernel
theorem d_Re_copyString_2 : decode b_Re_copyString 2 = .ok (.getfield 27, 3) := by decide +kernel
theorem d_Re_copyString_5 : decode b_Re_copyString 5 = .ok (.if_icmp .ge (7), 3) := by decide +kernel
theorem d_Re_copyString_8 : decode b_Re_copyString 8 = .ok (.iconst (1), 1) := by decide +kernel
theorem d_Re_copyString_9 : decode b_Re_copyString 9 = .ok (.goto (4), 3) := by decide +kernel
theorem d_Re_copyString_12 : decode b_Re_copyString 12 = .ok (.iconst (0), 1) := by decide +kernel
theorem d_Re_copyString_13 : decode b_Re_copyString 13 = .ok (.istore_n 2, 1) := by decide +kernel
theorem d_Re_copyString_14 : decode b_Re_copyString 14 = .ok (.iload_n 2, 1) := by decide +kernel
theorem d_Re_copyString_15 : decode b_Re_copyString 15 = .ok (.ifCond .eq (7), 3) := by decide +kernel
theorem d_Re_copyString_18 : decode b_Re_copyString 18 = .ok (.iconst (1), 1) := by decide +kernel
theorem d_Re_copyString_19 : decode b_Re_copyString 19 = .ok (.goto (9), 3) := by decide +kernel
theorem d_Re_copyString_22 : decode b_Re_copyString 22 = .ok (.aload_n 0, 1) := by decide +kernel
theorem d_Re_copyString_23 : decode b_Re_copyString 23 = .ok (.getfield 24, 3) := by decide +kernel
theorem d_Re_copyString_26 : decode b_Re_copyString 26 = .ok (.iload_n 1, 1) := by decide +kernel
theorem d_Re_copyString_27 : decode b_Re_copyString 27 = .ok (.iaload, 1) := by decide +kernel
theorem d_Re_copyString_28 : decode b_Re_copyString 28 = .ok (.istore_n 3, 1) := by decide +kernel
theorem d_Re_copyString_29 : decode b_Re_copyString 29 = .ok (.iload_n 3, 1) := by decide +kernel
theorem d_Re_copyString_30 : decode b_Re_copyString 30 = .ok (.aload_n 0, 1) := by decide +kernel
theorem d_Re_copyString_31 : decode b_Re_copyString 31 = .ok (.getfield 14, 3) := by decide +kernel
theorem d_Re_copyString_34 : decode b_Re_copyString 34 = .ok (.invokevirtual 73, 3) := by decide +kernel
theorem d_Re_copyString_37 : decode b_Re_copyString 37 = .ok (.if_icmp .le (5), 3) := by decide +kernel
theorem d_Re_copyString_40 : decode b_Re_copyString 40 = .ok (.iconst (0), 1) := by decide +kernel
theorem d_Re_copyString_41 : decode b_Re_copyString 41 = .ok (.ireturn, 1) := by decide +kernel
theorem d_Re_copyString_42 : decode b_Re_copyString 42 = .ok (.aload_n 0, 1) := by decide +kernel
theorem d_Re_copyString_43 : decode b_Re_copyString 43 = .ok (.getfield 14, 3) := by decide +kernel
theorem d_Re_copyString_46 : decode b_Re_copyString 46 = .ok (.getfield 50, 3) := by decide +kernel
theorem d_Re_copyString_49 : decode b_Re_copyString 49 = .ok (.istore 4, 2) := by decide +kernel
theorem d_Re_copyString_51 : decode b_Re_copyString 51 = .ok (.iload_n 2, 1) := by decide +kernel
theorem d_Re_copyString_52 : decode b_Re_copyString 52 = .ok (.ifCond .eq (14), 3) := by decide +kernel
theorem d_Re_copyString_55 : decode b_Re_copyString 55 = .ok (.aload_n 0, 1) := by decide +kernel
theorem d_Re_copyString_56 : decode b_Re_copyString 56 = .ok (.getfield 14, 3) := by decide +kernel
theorem d_Re_copyString_59 : decode b_Re_copyString 59 = .ok (.iload_n 1, 1) := by decide +kernel
theorem d_Re_copyString_60 : decode b_Re_copyString 60 = .ok (.invokevirtual 77, 3) := by decide +kernel
theorem d_Re_copyString_63 : decode b_Re_copyString 63 = .ok (.goto (41), 3) := by decide +kernel
theorem d_Re_copyString_66 : decode b_Re_copyString 66 = .ok (.iconst (0), 1) := by decide +kernel
theorem d_Re_copyString_67 : decode b_Re_copyString 67 = .ok (.istore 5, 2) := by decide +kernel
theorem d_Re_copyString_69 : decode b_Re_copyString 69 = .ok (.iload 5, 2) := by decide +kernel
theorem d_Re_copyString_71 : decode b_Re_copyString 71 = .ok (.iload_n 3, 1) := by decide +kernel
theorem d_Re_copyString_72 : decode b_Re_copyString 72 = .ok (.if_icmp .ge (32), 3) := by decide +kernel
theorem d_Re_copyString_75 : decode b_Re_copyString 75 = .ok (.aload_n 0, 1) := by decide +kernel
theorem d_Re_copyString_76 : decode b_Re_copyString 76 = .ok (.getfield 14, 3) := by decide +kernel
theorem d_Re_copyString_79 : decode b_Re_copyString 79 = .ok (.aload_n 0, 1) := by decide +kernel
theorem d_Re_copyString_80 : decode b_Re_copyString 80 = .ok (.getfield 14, 3) := by decide +kernel
theorem d_Re_copyString_83 : decode b_Re_copyString 83 = .ok (.aload_n 0, 1) := by decide +kernel
theorem d_Re_copyString_84 : decode b_Re_copyString 84 = .ok (.getfield 20, 3) := by decide +kernel
theorem d_Re_copyString_87 : decode b_Re_copyString 87 = .ok (.iload_n 1, 1) := by decide +kernel
theorem d_Re_copyString_88 : decode b_Re_copyString 88 = .ok (.iaload, 1) := by decide +kernel
theorem d_Re_copyString_89 : decode b_Re_copyString 89 = .ok (.iload 5, 2) := by decide +kernel
theorem d_Re_copyString_91 : decode b_Re_copyString 91 = .ok (.iadd, 1) := by decide +kernel
theorem d_Re_copyString_92 : decode b_Re_copyString 92 = .ok (.invokevirtual 66, 3) := by decide +kernel
theorem d_Re_copyString_95 : decode b_Re_copyString 95 = .ok (.invokevirtual 77, 3) := by decide +kernel
theorem d_Re_copyString_98 : decode b_Re_copyString 98 = .ok (.iinc 5 (1), 3) := by decide +kernel
theorem d_Re_copyString_101 : decode b_Re_copyString 101 = .ok (.goto (-32), 3) := by decide +kernel
theorem d_Re_copyString_104 : decode b_Re_copyString 104 = .ok (.aload_n 0, 1) := by decide +kernel
theorem d_Re_copyString_105 : decode b_Re_copyString 105 = .ok (.getfield 37, 3) := by decide +kernel
theorem d_Re_copyString_108 : decode b_Re_copyString 108 = .ok (.invokevirtual 80, 3) := by decide +kernel
theorem d_Re_copyString_111 : decode b_Re_copyString 111 = .ok (.aload_n 0, 1) := by decide +kernel
theorem d_Re_copyString_112 : decode b_Re_copyString 112 = .ok (.iload 4, 2) := by decide +kernel
theorem d_Re_copyString_114 : decode b_Re_copyString 114 = .ok (.iload_n 3, 1) := by decide +kernel
theorem d_Re_copyString_115 : decode b_Re_copyString 115 = .ok (.iconst (1), 1) := by decide +kernel
theorem d_Re_copyString_116 : decode b_Re_copyString 116 = .ok (.iadd, 1) := by decide +kernel
theorem d_Re_copyString_117 : decode b_Re_copyString 117 = .ok (.invokevirtual 83, 3) := by decide +kernel
theorem d_Re_copyString_120 : decode b_Re_copyString 120 = .ok (.iconst (1), 1) := by decide +kernel
theorem d_Re_copyString_121 : decode b_Re_copyString 121 = .ok (.ireturn, 1) := by decide +kernel
theorem d_Re_addEntry_0 : decode b_Re_addEntry 0 = .ok (.aload_n 0, 1) := by decide +kernel
theorem d_Re_addEntry_1 : decode b_Re_addEntry 1 = .ok (.getfield 41, 3) := by decide +kernel
theorem d_Re_addEntry_4 : decode b_Re_addEntry 4 = .ok (.sipush (4095), 3) := by decide +kernel
theorem d_Re_addEntry_7 : decode b_Re_addEntry 7 = .ok (.if_icmp .ge (33), 3) := by decide +kernel
theorem d_Re_addEntry_10 : decode b_Re_addEntry 10 = .ok (.aload_n 0, 1) := by decide +kernel
theorem d_Re_addEntry_11 : decode b_Re_addEntry 11 = .ok (.dup, 1) := by decide +kernel
theorem d_Re_addEntry_12 : decode b_Re_addEntry 12 = .ok (.getfield 41, 3) := by decide +kernel
theorem d_Re_addEntry_15 : decode b_Re_addEntry 15 = .ok (.iconst (1), 1) := by decide +kernel
theorem d_Re_addEntry_16 : decode b_Re_addEntry 16 = .ok (.iadd, 1) := by decide +kernel
theorem d_Re_addEntry_17 : decode b_Re_addEntry 17 = .ok (.putfield 41, 3) := by decide +kernel
theorem d_Re_addEntry_20 : decode b_Re_addEntry 20 = .ok (.aload_n 0, 1) := by decide +kernel
theorem d_Re_addEntry_21 : decode b_Re_addEntry 21 = .ok (.getfield 20, 3) := by decide +kernel
theorem d_Re_addEntry_24 : decode b_Re_addEntry 24 = .ok (.aload_n 0, 1) := by decide +kernel
theorem d_Re_addEntry_25 : decode b_Re_addEntry 25 = .ok (.getfield 41, 3) := by decide +kernel
theorem d_Re_addEntry_28 : decode b_Re_addEntry 28 = .ok (.iload_n 1, 1) := by decide +kernel
theorem d_Re_addEntry_29 : decode b_Re_addEntry 29 = .ok (.iastore, 1) := by decide +kernel
theorem d_Re_addEntry_30 : decode b_Re_addEntry 30 = .ok (.aload_n 0, 1) := by decide +kernel
theorem d_Re_addEntry_31 : decode b_Re_addEntry 31 = .ok (.getfield 24, 3) := by decide +kernel
theorem d_Re_addEntry_34 : decode b_Re_addEntry 34 = .ok (.aload_n 0, 1) := by decide +kernel
theorem d_Re_addEntry_35 : decode b_Re_addEntry 35 = .ok (.getfield 41, 3) := by decide +kernel
theorem d_Re_addEntry_38 : decode b_Re_addEntry 38 = .ok (.iload_n 2, 1) := by decide +kernel
theorem d_Re_addEntry_39 : decode b_Re_addEntry 39 = .ok (.iastore, 1) := by decide +kernel
theorem d_Re_addEntry_40 : decode b_Re_addEntry 40 = .ok (.return_, 1) := by decide +kernel
theorem d_Sc_init_0 : decode b_Sc_init 0 = .ok (.aload_n 0, 1) := by decide +kernel
theorem d_Sc_init_1 : decode b_Sc_init 1 = .ok (.invokespecial 3, 3) := by decide +kernel
theorem d_Sc_init_4 : decode b_Sc_init 4 = .ok (.aload_n 0, 1) := by decide +kernel
theorem d_Sc_init_5 : decode b_Sc_init 5 = .ok (.bipush (12), 2) := by decide +kernel
theorem d_Sc_init_7 : decode b_Sc_init 7 = .ok (.anewarray 9, 3) := by decide +kernel
theorem d_Sc_init_10 : decode b_Sc_init 10 = .ok (.putfield 11, 3) := by decide +kernel
theorem d_Sc_init_13 : decode b_Sc_init 13 = .ok (.aload_n 0, 1) := by decide +kernel
theorem d_Sc_init_14 : decode b_Sc_init 14 = .ok (.new 17, 3) := by decide +kernel
theorem d_Sc_init_17 : decode b_Sc_init 17 = .ok (.dup, 1) := by decide +kernel
theorem d_Sc_init_18 : decode b_Sc_init 18 = .ok (.iload_n 1, 1) := by decide +kernel
theorem d_Sc_init_19 : decode b_Sc_init 19 = .ok (.invokespecial 19, 3) := by decide +kernel
theorem d_Sc_init_22 : decode b_Sc_init 22 = .ok (.putfield 22, 3) := by decide +kernel
theorem d_Sc_init_25 : decode b_Sc_init 25 = .ok (.iconst (0), 1) := by decide +kernel
theorem d_Sc_init_26 : decode b_Sc_init 26 = .ok (.istore_n 2, 1) := by decide +kernel
theorem d_Sc_init_27 : decode b_Sc_init 27 = .ok (.iload_n 2, 1) := by decide +kernel
theorem d_Sc_init_28 : decode b_Sc_init 28 = .ok (.bipush (12), 2) := by decide +kernel
theorem d_Sc_init_30 : decode b_Sc_init 30 = .ok (.if_icmp .ge (23), 3) := by decide +kernel
theorem d_Sc_init_33 : decode b_Sc_init 33 = .ok (.aload_n 0, 1) := by decide +kernel
theorem d_Sc_init_34 : decode b_Sc_init 34 = .ok (.getfield 11, 3) := by decide +kernel
theorem d_Sc_init_37 : decode b_Sc_init 37 = .ok (.iload_n 2, 1) := by decide +kernel
theorem d_Sc_init_38 : decode b_Sc_init 38 = .ok (.new 9, 3) := by decide +kernel
theorem d_Sc_init_41 : decode b_Sc_init 41 = .ok (.dup, 1) := by decide +kernel
theorem d_Sc_init_42 : decode b_Sc_init 42 = .ok (.iload_n 1, 1) := by decide +kernel
theorem d_Sc_init_43 : decode b_Sc_init 43 = .ok (.invokespecial 26, 3) := by decide +kernel
theorem d_Sc_init_46 : decode b_Sc_init 46 = .ok (.aastore, 1) := by decide +kernel
theorem d_Sc_init_47 : decode b_Sc_init 47 = .ok (.iinc 2 (1), 3) := by decide +kernel
theorem d_Sc_init_50 : decode b_Sc_init 50 = .ok (.goto (-23), 3) := by decide +kernel
theorem d_Sc_init_53 : decode b_Sc_init 53 = .ok (.return_, 1) := by decide +kernel
theorem d_Sc_has_0 : decode b_Sc_has 0 = .ok (.iload_n 1, 1) := by decide +kernel
theorem d_Sc_has_1 : decode b_Sc_has 1 = .ok (.ifCond .lt (15), 3) := by decide +kernel
theorem d_Sc_has_4 : decode b_Sc_has 4 = .ok (.iload_n 1, 1) := by decide +kernel
theorem d_Sc_has_5 : decode b_Sc_has 5 = .ok (.aload_n 0, 1) := by decide +kernel
theorem d_Sc_has_6 : decode b_Sc_has 6 = .ok (.getfield 27, 3) := by decide +kernel
theorem d_Sc_has_9 : decode b_Sc_has 9 = .ok (.if_icmp .ge (7), 3) := by decide +kernel
theorem d_Sc_has_12 : decode b_Sc_has 12 = .ok (.iconst (1), 1) := by decide +kernel
theorem d_Sc_has_13 : decode b_Sc_has 13 = .ok (.goto (4), 3) := by decide +kernel
theorem d_Sc_has_16 : decode b_Sc_has 16 = .ok (.iconst (0), 1) := by decide +kernel
theorem d_Sc_has_17 : decode b_Sc_has 17 = .ok (.ireturn, 1) := by decide +kernel
end
section
theorem d_Sc_addFrame_0 : decode b_Sc_addFrame 0 = .ok (.aload_n 0, 1) := by decide +kernel
theorem d_Sc_addFrame_1 : decode b_Sc_addFrame 1 = .ok (.getfield 27, 3) := by decide +kernel
theorem d_Sc_addFrame_4 : decode b_Sc_addFrame 4 = .ok (.bipush (11), 2) := by decide +kernel
theorem d_Sc_addFrame_6 : decode b_Sc_addFrame 6 = .ok (.invokestatic 31, 3) := by decide +kernel
theorem d_Sc_addFrame_9 : decode b_Sc_addFrame 9 = .ok (.istore_n 1, 1) := by decide +kernel
theorem d_Sc_addFrame_10 : decode b_Sc_addFrame 10 = .ok (.aload_n 0, 1) := by decide +kernel
theorem d_Sc_addFrame_11 : decode b_Sc_addFrame 11 = .ok (.getfield 11, 3) := by decide +kernel
theorem d_Sc_addFrame_14 : decode b_Sc_addFrame 14 = .ok (.iload_n 1, 1) := by decide +kernel
theorem d_Sc_addFrame_15 : decode b_Sc_addFrame 15 = .ok (.aaload, 1) := by decide +kernel
theorem d_Sc_addFrame_16 : decode b_Sc_addFrame 16 = .ok (.invokevirtual 37, 3) := by decide +kernel
theorem d_Sc_addFrame_19 : decode b_Sc_addFrame 19 = .ok (.aload_n 0, 1) := by decide +kernel
theorem d_Sc_addFrame_20 : decode b_Sc_addFrame 20 = .ok (.iload_n 1, 1) := by decide +kernel
theorem d_Sc_addFrame_21 : decode b_Sc_addFrame 21 = .ok (.iconst (1), 1) := by decide +kernel
theorem d_Sc_addFrame_22 : decode b_Sc_addFrame 22 = .ok (.iadd, 1) := by decide +kernel
theorem d_Sc_addFrame_23 : decode b_Sc_addFrame 23 = .ok (.putfield 27, 3) := by decide +kernel
theorem d_Sc_addFrame_26 : decode b_Sc_addFrame 26 = .ok (.aload_n 0, 1) := by decide +kernel
theorem d_Sc_addFrame_27 : decode b_Sc_addFrame 27 = .ok (.getfield 11, 3) := by decide +kernel
theorem d_Sc_addFrame_30 : decode b_Sc_addFrame 30 = .ok (.iload_n 1, 1) := by decide +kernel
theorem d_Sc_addFrame_31 : decode b_Sc_addFrame 31 = .ok (.aaload, 1) := by decide +kernel
theorem d_Sc_addFrame_32 : decode b_Sc_addFrame 32 = .ok (.areturn, 1) := by decide +kernel
theorem d_Sc_forget_0 : decode b_Sc_forget 0 = .ok (.aload_n 0, 1) := by decide +kernel
theorem d_Sc_forget_1 : decode b_Sc_forget 1 = .ok (.iconst (0), 1) := by decide +kernel
theorem d_Sc_forget_2 : decode b_Sc_forget 2 = .ok (.putfield 27, 3) := by decide +kernel
theorem d_Sc_forget_5 : decode b_Sc_forget 5 = .ok (.aload_n 0, 1) := by decide +kernel
theorem d_Sc_forget_6 : decode b_Sc_forget 6 = .ok (.getfield 22, 3) := by decide +kernel
theorem d_Sc_forget_9 : decode b_Sc_forget 9 = .ok (.invokevirtual 40, 3) := by decide +kernel
theorem d_Sc_forget_12 : decode b_Sc_forget 12 = .ok (.return_, 1) := by decide +kernel
theorem d_Sc_colourBehind_0 : decode b_Sc_colourBehind 0 = .ok (.aload_n 0, 1) := by decide +kernel
theorem d_Sc_colourBehind_1 : decode b_Sc_colourBehind 1 = .ok (.iload_n 1, 1) := by decide +kernel
theorem d_Sc_colourBehind_2 : decode b_Sc_colourBehind 2 = .ok (.iload_n 2, 1) := by decide +kernel
theorem d_Sc_colourBehind_3 : decode b_Sc_colourBehind 3 = .ok (.iload_n 3, 1) := by decide +kernel
theorem d_Sc_colourBehind_4 : decode b_Sc_colourBehind 4 = .ok (.invokevirtual 41, 3) := by decide +kernel
theorem d_Sc_colourBehind_7 : decode b_Sc_colourBehind 7 = .ok (.istore 4, 2) := by decide +kernel
theorem d_Sc_colourBehind_9 : decode b_Sc_colourBehind 9 = .ok (.iload 4, 2) := by decide +kernel
theorem d_Sc_colourBehind_11 : decode b_Sc_colourBehind 11 = .ok (.iconst (-1), 1) := by decide +kernel
theorem d_Sc_colourBehind_12 : decode b_Sc_colourBehind 12 = .ok (.if_icmp .ne (5), 3) := by decide +kernel
theorem d_Sc_colourBehind_15 : decode b_Sc_colourBehind 15 = .ok (.iconst (-1), 1) := by decide +kernel
theorem d_Sc_colourBehind_16 : decode b_Sc_colourBehind 16 = .ok (.ireturn, 1) := by decide +kernel
theorem d_Sc_colourBehind_17 : decode b_Sc_colourBehind 17 = .ok (.aload_n 0, 1) := by decide +kernel
theorem d_Sc_colourBehind_18 : decode b_Sc_colourBehind 18 = .ok (.getfield 11, 3) := by decide +kernel
theorem d_Sc_colourBehind_21 : decode b_Sc_colourBehind 21 = .ok (.iload 4, 2) := by decide +kernel
theorem d_Sc_colourBehind_23 : decode b_Sc_colourBehind 23 = .ok (.aaload, 1) := by decide +kernel
theorem d_Sc_colourBehind_24 : decode b_Sc_colourBehind 24 = .ok (.iload_n 2, 1) := by decide +kernel
theorem d_Sc_colourBehind_25 : decode b_Sc_colourBehind 25 = .ok (.iload_n 3, 1) := by decide +kernel
theorem d_Sc_colourBehind_26 : decode b_Sc_colourBehind 26 = .ok (.invokevirtual 45, 3) := by decide +kernel
theorem d_Sc_colourBehind_29 : decode b_Sc_colourBehind 29 = .ok (.istore 5, 2) := by decide +kernel
theorem d_Sc_colourBehind_31 : decode b_Sc_colourBehind 31 = .ok (.aload_n 0, 1) := by decide +kernel
theorem d_Sc_colourBehind_32 : decode b_Sc_colourBehind 32 = .ok (.getfield 11, 3) := by decide +kernel
theorem d_Sc_colourBehind_35 : decode b_Sc_colourBehind 35 = .ok (.iload 4, 2) := by decide +kernel
theorem d_Sc_colourBehind_37 : decode b_Sc_colourBehind 37 = .ok (.aaload, 1) := by decide +kernel
theorem d_Sc_colourBehind_38 : decode b_Sc_colourBehind 38 = .ok (.getfield 48, 3) := by decide +kernel
theorem d_Sc_colourBehind_41 : decode b_Sc_colourBehind 41 = .ok (.iload 5, 2) := by decide +kernel
theorem d_Sc_colourBehind_43 : decode b_Sc_colourBehind 43 = .ok (.invokevirtual 49, 3) := by decide +kernel
theorem d_Sc_colourBehind_46 : decode b_Sc_colourBehind 46 = .ok (.istore 6, 2) := by decide +kernel
theorem d_Sc_colourBehind_48 : decode b_Sc_colourBehind 48 = .ok (.iload 6, 2) := by decide +kernel
theorem d_Sc_colourBehind_50 : decode b_Sc_colourBehind 50 = .ok (.iconst (-1), 1) := by decide +kernel
theorem d_Sc_colourBehind_51 : decode b_Sc_colourBehind 51 = .ok (.if_icmp .eq (8), 3) := by decide +kernel
theorem d_Sc_colourBehind_54 : decode b_Sc_colourBehind 54 = .ok (.iload 6, 2) := by decide +kernel
theorem d_Sc_colourBehind_56 : decode b_Sc_colourBehind 56 = .ok (.goto (12), 3) := by decide +kernel
theorem d_Sc_colourBehind_59 : decode b_Sc_colourBehind 59 = .ok (.aload_n 0, 1) := by decide +kernel
theorem d_Sc_colourBehind_60 : decode b_Sc_colourBehind 60 = .ok (.getfield 22, 3) := by decide +kernel
theorem d_Sc_colourBehind_63 : decode b_Sc_colourBehind 63 = .ok (.iload 5, 2) := by decide +kernel
theorem d_Sc_colourBehind_65 : decode b_Sc_colourBehind 65 = .ok (.invokevirtual 49, 3) := by decide +kernel
theorem d_Sc_colourBehind_68 : decode b_Sc_colourBehind 68 = .ok (.ireturn, 1) := by decide +kernel
theorem d_Sc_sourceBehind_0 : decode b_Sc_sourceBehind 0 = .ok (.iconst (-1), 1) := by decide +kernel
theorem d_Sc_sourceBehind_1 : decode b_Sc_sourceBehind 1 = .ok (.istore 4, 2) := by decide +kernel
theorem d_Sc_sourceBehind_3 : decode b_Sc_sourceBehind 3 = .ok (.iconst (0), 1) := by decide +kernel
theorem d_Sc_sourceBehind_4 : decode b_Sc_sourceBehind 4 = .ok (.istore 5, 2) := by decide +kernel
theorem d_Sc_sourceBehind_6 : decode b_Sc_sourceBehind 6 = .ok (.iload 5, 2) := by decide +kernel
theorem d_Sc_sourceBehind_8 : decode b_Sc_sourceBehind 8 = .ok (.iload_n 1, 1) := by decide +kernel
theorem d_Sc_sourceBehind_9 : decode b_Sc_sourceBehind 9 = .ok (.if_icmp .gt (80), 3) := by decide +kernel
theorem d_Sc_sourceBehind_12 : decode b_Sc_sourceBehind 12 = .ok (.iload 5, 2) := by decide +kernel
theorem d_Sc_sourceBehind_14 : decode b_Sc_sourceBehind 14 = .ok (.aload_n 0, 1) := by decide +kernel
theorem d_Sc_sourceBehind_15 : decode b_Sc_sourceBehind 15 = .ok (.getfield 27, 3) := by decide +kernel
theorem d_Sc_sourceBehind_18 : decode b_Sc_sourceBehind 18 = .ok (.if_icmp .ge (71), 3) := by decide +kernel
theorem d_Sc_sourceBehind_21 : decode b_Sc_sourceBehind 21 = .ok (.aload_n 0, 1) := by decide +kernel
theorem d_Sc_sourceBehind_22 : decode b_Sc_sourceBehind 22 = .ok (.getfield 11, 3) := by decide +kernel
theorem d_Sc_sourceBehind_25 : decode b_Sc_sourceBehind 25 = .ok (.iload 5, 2) := by decide +kernel
theorem d_Sc_sourceBehind_27 : decode b_Sc_sourceBehind 27 = .ok (.aaload, 1) := by decide +kernel
theorem d_Sc_sourceBehind_28 : decode b_Sc_sourceBehind 28 = .ok (.astore 6, 2) := by decide +kernel
theorem d_Sc_sourceBehind_30 : decode b_Sc_sourceBehind 30 = .ok (.aload 6, 2) := by decide +kernel
theorem d_Sc_sourceBehind_32 : decode b_Sc_sourceBehind 32 = .ok (.iload_n 2, 1) := by decide +kernel
theorem d_Sc_sourceBehind_33 : decode b_Sc_sourceBehind 33 = .ok (.iload_n 3, 1) := by decide +kernel
theorem d_Sc_sourceBehind_34 : decode b_Sc_sourceBehind 34 = .ok (.invokevirtual 53, 3) := by decide +kernel
theorem d_Sc_sourceBehind_37 : decode b_Sc_sourceBehind 37 = .ok (.ifCond .eq (46), 3) := by decide +kernel
theorem d_Sc_sourceBehind_40 : decode b_Sc_sourceBehind 40 = .ok (.iload 4, 2) := by decide +kernel
theorem d_Sc_sourceBehind_42 : decode b_Sc_sourceBehind 42 = .ok (.istore 7, 2) := by decide +kernel
theorem d_Sc_sourceBehind_44 : decode b_Sc_sourceBehind 44 = .ok (.aload 6, 2) := by decide +kernel
theorem d_Sc_sourceBehind_46 : decode b_Sc_sourceBehind 46 = .ok (.iload_n 2, 1) := by decide +kernel
theorem d_Sc_sourceBehind_47 : decode b_Sc_sourceBehind 47 = .ok (.iload_n 3, 1) := by decide +kernel
theorem d_Sc_sourceBehind_48 : decode b_Sc_sourceBehind 48 = .ok (.invokevirtual 45, 3) := by decide +kernel
theorem d_Sc_sourceBehind_51 : decode b_Sc_sourceBehind 51 = .ok (.aload 6, 2) := by decide +kernel
theorem d_Sc_sourceBehind_53 : decode b_Sc_sourceBehind 53 = .ok (.getfield 57, 3) := by decide +kernel
theorem d_Sc_sourceBehind_56 : decode b_Sc_sourceBehind 56 = .ok (.if_icmp .eq (7), 3) := by decide +kernel
theorem d_Sc_sourceBehind_59 : decode b_Sc_sourceBehind 59 = .ok (.iload 5, 2) := by decide +kernel
theorem d_Sc_sourceBehind_61 : decode b_Sc_sourceBehind 61 = .ok (.istore 4, 2) := by decide +kernel
theorem d_Sc_sourceBehind_63 : decode b_Sc_sourceBehind 63 = .ok (.iload 5, 2) := by decide +kernel
theorem d_Sc_sourceBehind_65 : decode b_Sc_sourceBehind 65 = .ok (.iload_n 1, 1) := by decide +kernel
theorem d_Sc_sourceBehind_66 : decode b_Sc_sourceBehind 66 = .ok (.if_icmp .ge (17), 3) := by decide +kernel
theorem d_Sc_sourceBehind_69 : decode b_Sc_sourceBehind 69 = .ok (.aload 6, 2) := by decide +kernel
theorem d_Sc_sourceBehind_71 : decode b_Sc_sourceBehind 71 = .ok (.getfield 60, 3) := by decide +kernel
theorem d_Sc_sourceBehind_74 : decode b_Sc_sourceBehind 74 = .ok (.iload 7, 2) := by decide +kernel
theorem d_Sc_sourceBehind_76 : decode b_Sc_sourceBehind 76 = .ok (.iload 4, 2) := by decide +kernel
theorem d_Sc_sourceBehind_78 : decode b_Sc_sourceBehind 78 = .ok (.invokestatic 63, 3) := by decide +kernel
theorem d_Sc_sourceBehind_81 : decode b_Sc_sourceBehind 81 = .ok (.istore 4, 2) := by decide +kernel
theorem d_Sc_sourceBehind_83 : decode b_Sc_sourceBehind 83 = .ok (.iinc 5 (1), 3) := by decide +kernel
theorem d_Sc_sourceBehind_86 : decode b_Sc_sourceBehind 86 = .ok (.goto (-80), 3) := by decide +kernel
theorem d_Sc_sourceBehind_89 : decode b_Sc_sourceBehind 89 = .ok (.iload 4, 2) := by decide +kernel
theorem d_Sc_sourceBehind_91 : decode b_Sc_sourceBehind 91 = .ok (.ireturn, 1) := by decide +kernel
theorem d_Sc_sourceAfter_0 : decode b_Sc_sourceAfter 0 = .ok (.iload_n 0, 1) := by decide +kernel
theorem d_Sc_sourceAfter_1 : decode b_Sc_sourceAfter 1 = .ok (.iconst (2), 1) := by decide +kernel
theorem d_Sc_sourceAfter_2 : decode b_Sc_sourceAfter 2 = .ok (.if_icmp .ne (5), 3) := by decide +kernel
theorem d_Sc_sourceAfter_5 : decode b_Sc_sourceAfter 5 = .ok (.iconst (-1), 1) := by decide +kernel
theorem d_Sc_sourceAfter_6 : decode b_Sc_sourceAfter 6 = .ok (.ireturn, 1) := by decide +kernel
theorem d_Sc_sourceAfter_7 : decode b_Sc_sourceAfter 7 = .ok (.iload_n 0, 1) := by decide +kernel
theorem d_Sc_sourceAfter_8 : decode b_Sc_sourceAfter 8 = .ok (.iconst (3), 1) := by decide +kernel
theorem d_Sc_sourceAfter_9 : decode b_Sc_sourceAfter 9 = .ok (.if_icmp .ne (7), 3) := by decide +kernel
theorem d_Sc_sourceAfter_12 : decode b_Sc_sourceAfter 12 = .ok (.iload_n 1, 1) := by decide +kernel
theorem d_Sc_sourceAfter_13 : decode b_Sc_sourceAfter 13 = .ok (.goto (4), 3) := by decide +kernel
theorem d_Sc_sourceAfter_16 : decode b_Sc_sourceAfter 16 = .ok (.iload_n 2, 1) := by decide +kernel
theorem d_Sc_sourceAfter_17 : decode b_Sc_sourceAfter 17 = .ok (.ireturn, 1) := by decide +kernel
theorem d_Sc_frameAt_0 : decode b_Sc_frameAt 0 = .ok (.aload_n 0, 1) := by decide +kernel
theorem d_Sc_frameAt_1 : decode b_Sc_frameAt 1 = .ok (.getfield 27, 3) := by decide +kernel
theorem d_Sc_frameAt_4 : decode b_Sc_frameAt 4 = .ok (.iconst (1), 1) := by decide +kernel
theorem d_Sc_frameAt_5 : decode b_Sc_frameAt 5 = .ok (.isub, 1) := by decide +kernel
theorem d_Sc_frameAt_6 : decode b_Sc_frameAt 6 = .ok (.istore_n 3, 1) := by decide +kernel
theorem d_Sc_frameAt_7 : decode b_Sc_frameAt 7 = .ok (.iconst (0), 1) := by decide +kernel
theorem d_Sc_frameAt_8 : decode b_Sc_frameAt 8 = .ok (.istore 4, 2) := by decide +kernel
theorem d_Sc_frameAt_10 : decode b_Sc_frameAt 10 = .ok (.iconst (0), 1) := by decide +kernel
theorem d_Sc_frameAt_11 : decode b_Sc_frameAt 11 = .ok (.istore 5, 2) := by decide +kernel
theorem d_Sc_frameAt_13 : decode b_Sc_frameAt 13 = .ok (.iload 5, 2) := by decide +kernel
theorem d_Sc_frameAt_15 : decode b_Sc_frameAt 15 = .ok (.aload_n 0, 1) := by decide +kernel
theorem d_Sc_frameAt_16 : decode b_Sc_frameAt 16 = .ok (.getfield 27, 3) := by decide +kernel
theorem d_Sc_frameAt_19 : decode b_Sc_frameAt 19 = .ok (.if_icmp .ge (24), 3) := by decide +kernel
theorem d_Sc_frameAt_22 : decode b_Sc_frameAt 22 = .ok (.iload 4, 2) := by decide +kernel
theorem d_Sc_frameAt_24 : decode b_Sc_frameAt 24 = .ok (.aload_n 0, 1) := by decide +kernel
theorem d_Sc_frameAt_25 : decode b_Sc_frameAt 25 = .ok (.getfield 11, 3) := by decide +kernel
theorem d_Sc_frameAt_28 : decode b_Sc_frameAt 28 = .ok (.iload 5, 2) := by decide +kernel
theorem d_Sc_frameAt_30 : decode b_Sc_frameAt 30 = .ok (.aaload, 1) := by decide +kernel
theorem d_Sc_frameAt_31 : decode b_Sc_frameAt 31 = .ok (.getfield 66, 3) := by decide +kernel
theorem d_Sc_frameAt_34 : decode b_Sc_frameAt 34 = .ok (.iadd, 1) := by decide +kernel
theorem d_Sc_frameAt_35 : decode b_Sc_frameAt 35 = .ok (.istore 4, 2) := by decide +kernel
theorem d_Sc_frameAt_37 : decode b_Sc_frameAt 37 = .ok (.iinc 5 (1), 3) := by decide +kernel
theorem d_Sc_frameAt_40 : decode b_Sc_frameAt 40 = .ok (.goto (-27), 3) := by decide +kernel
theorem d_Sc_frameAt_43 : decode b_Sc_frameAt 43 = .ok (.iload_n 2, 1) := by decide +kernel
theorem d_Sc_frameAt_44 : decode b_Sc_frameAt 44 = .ok (.ifCond .le (19), 3) := by decide +kernel
theorem d_Sc_frameAt_47 : decode b_Sc_frameAt 47 = .ok (.iload_n 1, 1) := by decide +kernel
theorem d_Sc_frameAt_48 : decode b_Sc_frameAt 48 = .ok (.i2l, 1) := by decide +kernel
theorem d_Sc_frameAt_49 : decode b_Sc_frameAt 49 = .ok (.iload 4, 2) := by decide +kernel
theorem d_Sc_frameAt_51 : decode b_Sc_frameAt 51 = .ok (.i2l, 1) := by decide +kernel
theorem d_Sc_frameAt_52 : decode b_Sc_frameAt 52 = .ok (.iload_n 2, 1) := by decide +kernel
theorem d_Sc_frameAt_53 : decode b_Sc_frameAt 53 = .ok (.i2l, 1) := by decide +kernel
theorem d_Sc_frameAt_54 : decode b_Sc_frameAt 54 = .ok (.lmul, 1) := by decide +kernel
theorem d_Sc_frameAt_55 : decode b_Sc_frameAt 55 = .ok (.lcmp, 1) := by decide +kernel
theorem d_Sc_frameAt_56 : decode b_Sc_frameAt 56 = .ok (.ifCond .lt (7), 3) := by decide +kernel
theorem d_Sc_frameAt_59 : decode b_Sc_frameAt 59 = .ok (.iconst (1), 1) := by decide +kernel
theorem d_Sc_frameAt_60 : decode b_Sc_frameAt 60 = .ok (.goto (4), 3) := by decide +kernel
theorem d_Sc_frameAt_63 : decode b_Sc_frameAt 63 = .ok (.iconst (0), 1) := by decide +kernel
theorem d_Sc_frameAt_64 : decode b_Sc_frameAt 64 = .ok (.istore 5, 2) := by decide +kernel
theorem d_Sc_frameAt_66 : decode b_Sc_frameAt 66 = .ok (.iload 4, 2) := by decide +kernel
theorem d_Sc_frameAt_68 : decode b_Sc_frameAt 68 = .ok (.ifCond .le (8), 3) := by decide +kernel
theorem d_Sc_frameAt_71 : decode b_Sc_frameAt 71 = .ok (.iload 5, 2) := by decide +kernel
theorem d_Sc_frameAt_73 : decode b_Sc_frameAt 73 = .ok (.ifCond .eq (5), 3) := by decide +kernel
theorem d_Sc_frameAt_76 : decode b_Sc_frameAt 76 = .ok (.iload_n 3, 1) := by decide +kernel
theorem d_Sc_frameAt_77 : decode b_Sc_frameAt 77 = .ok (.ireturn, 1) := by decide +kernel
theorem d_Sc_frameAt_78 : decode b_Sc_frameAt 78 = .ok (.iload_n 1, 1) := by decide +kernel
theorem d_Sc_frameAt_79 : decode b_Sc_frameAt 79 = .ok (.iload 4, 2) := by decide +kernel
theorem d_Sc_frameAt_81 : decode b_Sc_frameAt 81 = .ok (.irem, 1) := by decide +kernel
theorem d_Sc_frameAt_82 : decode b_Sc_frameAt 82 = .ok (.istore 6, 2) := by decide +kernel
theorem d_Sc_frameAt_84 : decode b_Sc_frameAt 84 = .ok (.iconst (0), 1) := by decide +kernel
theorem d_Sc_frameAt_85 : decode b_Sc_frameAt 85 = .ok (.istore 7, 2) := by decide +kernel
theorem d_Sc_frameAt_87 : decode b_Sc_frameAt 87 = .ok (.iload 7, 2) := by decide +kernel
theorem d_Sc_frameAt_89 : decode b_Sc_frameAt 89 = .ok (.aload_n 0, 1) := by decide +kernel
theorem d_Sc_frameAt_90 : decode b_Sc_frameAt 90 = .ok (.getfield 27, 3) := by decide +kernel
theorem d_Sc_frameAt_93 : decode b_Sc_frameAt 93 = .ok (.if_icmp .ge (42), 3) := by decide +kernel
theorem d_Sc_frameAt_96 : decode b_Sc_frameAt 96 = .ok (.iload 6, 2) := by decide +kernel
theorem d_Sc_frameAt_98 : decode b_Sc_frameAt 98 = .ok (.aload_n 0, 1) := by decide +kernel
theorem d_Sc_frameAt_99 : decode b_Sc_frameAt 99 = .ok (.getfield 11, 3) := by decide +kernel
theorem d_Sc_frameAt_102 : decode b_Sc_frameAt 102 = .ok (.iload 7, 2) := by decide +kernel
theorem d_Sc_frameAt_104 : decode b_Sc_frameAt 104 = .ok (.aaload, 1) := by decide +kernel
theorem d_Sc_frameAt_105 : decode b_Sc_frameAt 105 = .ok (.getfield 66, 3) := by decide +kernel
theorem d_Sc_frameAt_108 : decode b_Sc_frameAt 108 = .ok (.if_icmp .ge (6), 3) := by decide +kernel
theorem d_Sc_frameAt_111 : decode b_Sc_frameAt 111 = .ok (.iload 7, 2) := by decide +kernel
theorem d_Sc_frameAt_113 : decode b_Sc_frameAt 113 = .ok (.ireturn, 1) := by decide +kernel
theorem d_Sc_frameAt_114 : decode b_Sc_frameAt 114 = .ok (.iload 6, 2) := by decide +kernel
theorem d_Sc_frameAt_116 : decode b_Sc_frameAt 116 = .ok (.aload_n 0, 1) := by decide +kernel
theorem d_Sc_frameAt_117 : decode b_Sc_frameAt 117 = .ok (.getfield 11, 3) := by decide +kernel
theorem d_Sc_frameAt_120 : decode b_Sc_frameAt 120 = .ok (.iload 7, 2) := by decide +kernel
theorem d_Sc_frameAt_122 : decode b_Sc_frameAt 122 = .ok (.aaload, 1) := by decide +kernel
theorem d_Sc_frameAt_123 : decode b_Sc_frameAt 123 = .ok (.getfield 66, 3) := by decide +kernel
theorem d_Sc_frameAt_126 : decode b_Sc_frameAt 126 = .ok (.isub, 1) := by decide +kernel
theorem d_Sc_frameAt_127 : decode b_Sc_frameAt 127 = .ok (.istore 6, 2) := by decide +kernel
theorem d_Sc_frameAt_129 : decode b_Sc_frameAt 129 = .ok (.iinc 7 (1), 3) := by decide +kernel
theorem d_Sc_frameAt_132 : decode b_Sc_frameAt 132 = .ok (.goto (-45), 3) := by decide +kernel
theorem d_Sc_frameAt_135 : decode b_Sc_frameAt 135 = .ok (.iload_n 3, 1) := by decide +kernel
theorem d_Sc_frameAt_136 : decode b_Sc_frameAt 136 = .ok (.ireturn, 1) := by decide +kernel
theorem d_St_init_0 : decode b_St_init 0 = .ok (.aload_n 0, 1) := by decide +kernel
theorem d_St_init_1 : decode b_St_init 1 = .ok (.invokespecial 3, 3) := by decide +kernel
theorem d_St_init_4 : decode b_St_init 4 = .ok (.aload_n 0, 1) := by decide +kernel
theorem d_St_init_5 : decode b_St_init 5 = .ok (.sipush (8192), 3) := by decide +kernel
theorem d_St_init_8 : decode b_St_init 8 = .ok (.newarray .int, 2) := by decide +kernel
theorem d_St_init_10 : decode b_St_init 10 = .ok (.putfield 11, 3) := by decide +kernel
theorem d_St_init_13 : decode b_St_init 13 = .ok (.aload_n 0, 1) := by decide +kernel
theorem d_St_init_14 : decode b_St_init 14 = .ok (.sipush (4096), 3) := by decide +kernel
theorem d_St_init_17 : decode b_St_init 17 = .ok (.newarray .int, 2) := by decide +kernel
theorem d_St_init_19 : decode b_St_init 19 = .ok (.putfield 15, 3) := by decide +kernel
theorem d_St_init_22 : decode b_St_init 22 = .ok (.aload_n 0, 1) := by decide +kernel
theorem d_St_init_23 : decode b_St_init 23 = .ok (.sipush (4096), 3) := by decide +kernel
theorem d_St_init_26 : decode b_St_init 26 = .ok (.newarray .int, 2) := by decide +kernel
theorem d_St_init_28 : decode b_St_init 28 = .ok (.putfield 18, 3) := by decide +kernel
theorem d_St_init_31 : decode b_St_init 31 = .ok (.aload_n 0, 1) := by decide +kernel
theorem d_St_init_32 : decode b_St_init 32 = .ok (.iload_n 1, 1) := by decide +kernel
theorem d_St_init_33 : decode b_St_init 33 = .ok (.putfield 21, 3) := by decide +kernel
theorem d_St_init_36 : decode b_St_init 36 = .ok (.aload_n 0, 1) := by decide +kernel
theorem d_St_init_37 : decode b_St_init 37 = .ok (.iload_n 1, 1) := by decide +kernel
theorem d_St_init_38 : decode b_St_init 38 = .ok (.putfield 25, 3) := by decide +kernel
theorem d_St_init_41 : decode b_St_init 41 = .ok (.return_, 1) := by decide +kernel
theorem d_St_count_0 : decode b_St_count 0 = .ok (.aload_n 0, 1) := by decide +kernel
theorem d_St_count_1 : decode b_St_count 1 = .ok (.getfield 25, 3) := by decide +kernel
theorem d_St_count_4 : decode b_St_count 4 = .ok (.aload_n 0, 1) := by decide +kernel
theorem d_St_count_5 : decode b_St_count 5 = .ok (.getfield 21, 3) := by decide +kernel
theorem d_St_count_8 : decode b_St_count 8 = .ok (.isub, 1) := by decide +kernel
theorem d_St_count_9 : decode b_St_count 9 = .ok (.ireturn, 1) := by decide +kernel
theorem d_St_isFull_0 : decode b_St_isFull 0 = .ok (.aload_n 0, 1) := by decide +kernel
theorem d_St_isFull_1 : decode b_St_isFull 1 = .ok (.getfield 25, 3) := by decide +kernel
theorem d_St_isFull_4 : decode b_St_isFull 4 = .ok (.sipush (4095), 3) := by decide +kernel
theorem d_St_isFull_7 : decode b_St_isFull 7 = .ok (.if_icmp .lt (7), 3) := by decide +kernel
theorem d_St_isFull_10 : decode b_St_isFull 10 = .ok (.iconst (1), 1) := by decide +kernel
theorem d_St_isFull_11 : decode b_St_isFull 11 = .ok (.goto (4), 3) := by decide +kernel
theorem d_St_isFull_14 : decode b_St_isFull 14 = .ok (.iconst (0), 1) := by decide +kernel
theorem d_St_isFull_15 : decode b_St_isFull 15 = .ok (.ireturn, 1) := by decide +kernel
theorem d_St_find_0 : decode b_St_find 0 = .ok (.aload_n 0, 1) := by decide +kernel
theorem d_St_find_1 : decode b_St_find 1 = .ok (.getfield 11, 3) := by decide +kernel
theorem d_St_find_4 : decode b_St_find 4 = .ok (.aload_n 0, 1) := by decide +kernel
theorem d_St_find_5 : decode b_St_find 5 = .ok (.iload_n 1, 1) := by decide +kernel
theorem d_St_find_6 : decode b_St_find 6 = .ok (.iload_n 2, 1) := by decide +kernel
theorem d_St_find_7 : decode b_St_find 7 = .ok (.invokestatic 28, 3) := by decide +kernel
theorem d_St_find_10 : decode b_St_find 10 = .ok (.invokevirtual 32, 3) := by decide +kernel
theorem d_St_find_13 : decode b_St_find 13 = .ok (.iaload, 1) := by decide +kernel
theorem d_St_find_14 : decode b_St_find 14 = .ok (.istore_n 3, 1) := by decide +kernel
theorem d_St_find_15 : decode b_St_find 15 = .ok (.iload_n 3, 1) := by decide +kernel
theorem d_St_find_16 : decode b_St_find 16 = .ok (.ifCond .ne (7), 3) := by decide +kernel
theorem d_St_find_19 : decode b_St_find 19 = .ok (.iconst (-1), 1) := by decide +kernel
theorem d_St_find_20 : decode b_St_find 20 = .ok (.goto (4), 3) := by decide +kernel
theorem d_St_find_23 : decode b_St_find 23 = .ok (.iload_n 3, 1) := by decide +kernel
theorem d_St_find_24 : decode b_St_find 24 = .ok (.ireturn, 1) := by decide +kernel
theorem d_St_add_0 : decode b_St_add 0 = .ok (.aload_n 0, 1) := by decide +kernel
theorem d_St_add_1 : decode b_St_add 1 = .ok (.invokevirtual 36, 3) := by decide +kernel
theorem d_St_add_4 : decode b_St_add 4 = .ok (.ifCond .eq (4), 3) := by decide +kernel
theorem d_St_add_7 : decode b_St_add 7 = .ok (.return_, 1) := by decide +kernel
theorem d_St_add_8 : decode b_St_add 8 = .ok (.iload_n 1, 1) := by decide +kernel
theorem d_St_add_9 : decode b_St_add 9 = .ok (.iload_n 2, 1) := by decide +kernel
theorem d_St_add_10 : decode b_St_add 10 = .ok (.invokestatic 28, 3) := by decide +kernel
theorem d_St_add_13 : decode b_St_add 13 = .ok (.istore_n 3, 1) := by decide +kernel
theorem d_St_add_14 : decode b_St_add 14 = .ok (.aload_n 0, 1) := by decide +kernel
theorem d_St_add_15 : decode b_St_add 15 = .ok (.iload_n 3, 1) := by decide +kernel
theorem d_St_add_16 : decode b_St_add 16 = .ok (.invokevirtual 32, 3) := by decide +kernel
theorem d_St_add_19 : decode b_St_add 19 = .ok (.istore 4, 2) := by decide +kernel
theorem d_St_add_21 : decode b_St_add 21 = .ok (.aload_n 0, 1) := by decide +kernel
theorem d_St_add_22 : decode b_St_add 22 = .ok (.dup, 1) := by decide +kernel
theorem d_St_add_23 : decode b_St_add 23 = .ok (.getfield 25, 3) := by decide +kernel
theorem d_St_add_26 : decode b_St_add 26 = .ok (.iconst (1), 1) := by decide +kernel
theorem d_St_add_27 : decode b_St_add 27 = .ok (.iadd, 1) := by decide +kernel
theorem d_St_add_28 : decode b_St_add 28 = .ok (.putfield 25, 3) := by decide +kernel
theorem d_St_add_31 : decode b_St_add 31 = .ok (.aload_n 0, 1) := by decide +kernel
theorem d_St_add_32 : decode b_St_add 32 = .ok (.getfield 11, 3) := by decide +kernel
theorem d_St_add_35 : decode b_St_add 35 = .ok (.iload 4, 2) := by decide +kernel
theorem d_St_add_37 : decode b_St_add 37 = .ok (.aload_n 0, 1) := by decide +kernel
theorem d_St_add_38 : decode b_St_add 38 = .ok (.getfield 25, 3) := by decide +kernel
theorem d_St_add_41 : decode b_St_add 41 = .ok (.iastore, 1) := by decide +kernel
theorem d_St_add_42 : decode b_St_add 42 = .ok (.aload_n 0, 1) := by decide +kernel
theorem d_St_add_43 : decode b_St_add 43 = .ok (.getfield 15, 3) := by decide +kernel
theorem d_St_add_46 : decode b_St_add 46 = .ok (.aload_n 0, 1) := by decide +kernel
theorem d_St_add_47 : decode b_St_add 47 = .ok (.getfield 25, 3) := by decide +kernel
theorem d_St_add_50 : decode b_St_add 50 = .ok (.iload_n 3, 1) := by decide +kernel
theorem d_St_add_51 : decode b_St_add 51 = .ok (.iastore, 1) := by decide +kernel
theorem d_St_add_52 : decode b_St_add 52 = .ok (.aload_n 0, 1) := by decide +kernel
theorem d_St_add_53 : decode b_St_add 53 = .ok (.getfield 18, 3) := by decide +kernel
theorem d_St_add_56 : decode b_St_add 56 = .ok (.aload_n 0, 1) := by decide +kernel
theorem d_St_add_57 : decode b_St_add 57 = .ok (.getfield 25, 3) := by decide +kernel
theorem d_St_add_60 : decode b_St_add 60 = .ok (.iload 4, 2) := by decide +kernel
theorem d_St_add_62 : decode b_St_add 62 = .ok (.iastore, 1) := by decide +kernel
theorem d_St_add_63 : decode b_St_add 63 = .ok (.return_, 1) := by decide +kernel
theorem d_St_empty_0 : decode b_St_empty 0 = .ok (.aload_n 0, 1) := by decide +kernel
theorem d_St_empty_1 : decode b_St_empty 1 = .ok (.getfield 21, 3) := by decide +kernel
theorem d_St_empty_4 : decode b_St_empty 4 = .ok (.iconst (1), 1) := by decide +kernel
theorem d_St_empty_5 : decode b_St_empty 5 = .ok (.iadd, 1) := by decide +kernel
theorem d_St_empty_6 : decode b_St_empty 6 = .ok (.istore_n 1, 1) := by decide +kernel
theorem d_St_empty_7 : decode b_St_empty 7 = .ok (.iload_n 1, 1) := by decide +kernel
theorem d_St_empty_8 : decode b_St_empty 8 = .ok (.aload_n 0, 1) := by decide +kernel
theorem d_St_empty_9 : decode b_St_empty 9 = .ok (.getfield 25, 3) := by decide +kernel
theorem d_St_empty_12 : decode b_St_empty 12 = .ok (.if_icmp .gt (21), 3) := by decide +kernel
theorem d_St_empty_15 : decode b_St_empty 15 = .ok (.aload_n 0, 1) := by decide +kernel
theorem d_St_empty_16 : decode b_St_empty 16 = .ok (.getfield 11, 3) := by decide +kernel
theorem d_St_empty_19 : decode b_St_empty 19 = .ok (.aload_n 0, 1) := by decide +kernel
theorem d_St_empty_20 : decode b_St_empty 20 = .ok (.getfield 18, 3) := by decide +kernel
theorem d_St_empty_23 : decode b_St_empty 23 = .ok (.iload_n 1, 1) := by decide +kernel
theorem d_St_empty_24 : decode b_St_empty 24 = .ok (.iaload, 1) := by decide +kernel
theorem d_St_empty_25 : decode b_St_empty 25 = .ok (.iconst (0), 1) := by decide +kernel
theorem d_St_empty_26 : decode b_St_empty 26 = .ok (.iastore, 1) := by decide +kernel
theorem d_St_empty_27 : decode b_St_empty 27 = .ok (.iinc 1 (1), 3) := by decide +kernel
theorem d_St_empty_30 : decode b_St_empty 30 = .ok (.goto (-23), 3) := by decide +kernel
theorem d_St_empty_33 : decode b_St_empty 33 = .ok (.aload_n 0, 1) := by decide +kernel
theorem d_St_empty_34 : decode b_St_empty 34 = .ok (.aload_n 0, 1) := by decide +kernel
theorem d_St_empty_35 : decode b_St_empty 35 = .ok (.getfield 21, 3) := by decide +kernel
theorem d_St_empty_38 : decode b_St_empty 38 = .ok (.putfield 25, 3) := by decide +kernel
theorem d_St_empty_41 : decode b_St_empty 41 = .ok (.return_, 1) := by decide +kernel
theorem d_St_keyOf_0 : decode b_St_keyOf 0 = .ok (.iload_n 0, 1) := by decide +kernel
theorem d_St_keyOf_1 : decode b_St_keyOf 1 = .ok (.bipush (8), 2) := by decide +kernel
theorem d_St_keyOf_3 : decode b_St_keyOf 3 = .ok (.ishl, 1) := by decide +kernel
theorem d_St_keyOf_4 : decode b_St_keyOf 4 = .ok (.iload_n 1, 1) := by decide +kernel
theorem d_St_keyOf_5 : decode b_St_keyOf 5 = .ok (.ior, 1) := by decide +kernel
theorem d_St_keyOf_6 : decode b_St_keyOf 6 = .ok (.ireturn, 1) := by decide +kernel
theorem d_St_slotFor_0 : decode b_St_slotFor 0 = .ok (.iload_n 1, 1) := by decide +kernel
theorem d_St_slotFor_1 : decode b_St_slotFor 1 = .ok (.ldc 40, 2) := by decide +kernel
theorem d_St_slotFor_3 : decode b_St_slotFor 3 = .ok (.imul, 1) := by decide +kernel
theorem d_St_slotFor_4 : decode b_St_slotFor 4 = .ok (.bipush (19), 2) := by decide +kernel
theorem d_St_slotFor_6 : decode b_St_slotFor 6 = .ok (.iushr, 1) := by decide +kernel
theorem d_St_slotFor_7 : decode b_St_slotFor 7 = .ok (.istore_n 2, 1) := by decide +kernel
theorem d_St_slotFor_8 : decode b_St_slotFor 8 = .ok (.iconst (0), 1) := by decide +kernel
theorem d_St_slotFor_9 : decode b_St_slotFor 9 = .ok (.istore_n 3, 1) := by decide +kernel
theorem d_St_slotFor_10 : decode b_St_slotFor 10 = .ok (.iload_n 3, 1) := by decide +kernel
theorem d_St_slotFor_11 : decode b_St_slotFor 11 = .ok (.sipush (8192), 3) := by decide +kernel
theorem d_St_slotFor_14 : decode b_St_slotFor 14 = .ok (.if_icmp .ge (43), 3) := by decide +kernel
theorem d_St_slotFor_17 : decode b_St_slotFor 17 = .ok (.aload_n 0, 1) := by decide +kernel
theorem d_St_slotFor_18 : decode b_St_slotFor 18 = .ok (.getfield 11, 3) := by decide +kernel
theorem d_St_slotFor_21 : decode b_St_slotFor 21 = .ok (.iload_n 2, 1) := by decide +kernel
theorem d_St_slotFor_22 : decode b_St_slotFor 22 = .ok (.iaload, 1) := by decide +kernel
theorem d_St_slotFor_23 : decode b_St_slotFor 23 = .ok (.istore 4, 2) := by decide +kernel
theorem d_St_slotFor_25 : decode b_St_slotFor 25 = .ok (.iload 4, 2) := by decide +kernel
theorem d_St_slotFor_27 : decode b_St_slotFor 27 = .ok (.ifCond .eq (14), 3) := by decide +kernel
theorem d_St_slotFor_30 : decode b_St_slotFor 30 = .ok (.aload_n 0, 1) := by decide +kernel
theorem d_St_slotFor_31 : decode b_St_slotFor 31 = .ok (.getfield 15, 3) := by decide +kernel
theorem d_St_slotFor_34 : decode b_St_slotFor 34 = .ok (.iload 4, 2) := by decide +kernel
theorem d_St_slotFor_36 : decode b_St_slotFor 36 = .ok (.iaload, 1) := by decide +kernel
theorem d_St_slotFor_37 : decode b_St_slotFor 37 = .ok (.iload_n 1, 1) := by decide +kernel
theorem d_St_slotFor_38 : decode b_St_slotFor 38 = .ok (.if_icmp .ne (5), 3) := by decide +kernel
theorem d_St_slotFor_41 : decode b_St_slotFor 41 = .ok (.iload_n 2, 1) := by decide +kernel
theorem d_St_slotFor_42 : decode b_St_slotFor 42 = .ok (.ireturn, 1) := by decide +kernel
theorem d_St_slotFor_43 : decode b_St_slotFor 43 = .ok (.iload_n 2, 1) := by decide +kernel
theorem d_St_slotFor_44 : decode b_St_slotFor 44 = .ok (.iconst (1), 1) := by decide +kernel
theorem d_St_slotFor_45 : decode b_St_slotFor 45 = .ok (.iadd, 1) := by decide +kernel
theorem d_St_slotFor_46 : decode b_St_slotFor 46 = .ok (.sipush (8191), 3) := by decide +kernel
theorem d_St_slotFor_49 : decode b_St_slotFor 49 = .ok (.iand, 1) := by decide +kernel
theorem d_St_slotFor_50 : decode b_St_slotFor 50 = .ok (.istore_n 2, 1) := by decide +kernel
theorem d_St_slotFor_51 : decode b_St_slotFor 51 = .ok (.iinc 3 (1), 3) := by decide +kernel
theorem d_St_slotFor_54 : decode b_St_slotFor 54 = .ok (.goto (-44), 3) := by decide +kernel
theorem d_St_slotFor_57 : decode b_St_slotFor 57 = .ok (.iload_n 2, 1) := by decide +kernel
theorem d_St_slotFor_58 : decode b_St_slotFor 58 = .ok (.ireturn, 1) := by decide +kernel
theorem d_Wi_init_0 : decode b_Wi_init 0 = .ok (.aload_n 0, 1) := by decide +kernel
theorem d_Wi_init_1 : decode b_Wi_init 1 = .ok (.invokespecial 3, 3) := by decide +kernel
theorem d_Wi_init_4 : decode b_Wi_init 4 = .ok (.aload_n 0, 1) := by decide +kernel
theorem d_Wi_init_5 : decode b_Wi_init 5 = .ok (.iload_n 1, 1) := by decide +kernel
theorem d_Wi_init_6 : decode b_Wi_init 6 = .ok (.putfield 9, 3) := by decide +kernel
theorem d_Wi_init_9 : decode b_Wi_init 9 = .ok (.aload_n 0, 1) := by decide +kernel
theorem d_Wi_init_10 : decode b_Wi_init 10 = .ok (.iconst (1), 1) := by decide +kernel
theorem d_Wi_init_11 : decode b_Wi_init 11 = .ok (.iload_n 1, 1) := by decide +kernel
theorem d_Wi_init_12 : decode b_Wi_init 12 = .ok (.ishl, 1) := by decide +kernel
theorem d_Wi_init_13 : decode b_Wi_init 13 = .ok (.iconst (1), 1) := by decide +kernel
theorem d_Wi_init_14 : decode b_Wi_init 14 = .ok (.iadd, 1) := by decide +kernel
theorem d_Wi_init_15 : decode b_Wi_init 15 = .ok (.putfield 15, 3) := by decide +kernel
theorem d_Wi_init_18 : decode b_Wi_init 18 = .ok (.aload_n 0, 1) := by decide +kernel
theorem d_Wi_init_19 : decode b_Wi_init 19 = .ok (.iload_n 1, 1) := by decide +kernel
theorem d_Wi_init_20 : decode b_Wi_init 20 = .ok (.iconst (1), 1) := by decide +kernel
theorem d_Wi_init_21 : decode b_Wi_init 21 = .ok (.iadd, 1) := by decide +kernel
theorem d_Wi_init_22 : decode b_Wi_init 22 = .ok (.putfield 18, 3) := by decide +kernel
theorem d_Wi_init_25 : decode b_Wi_init 25 = .ok (.return_, 1) := by decide +kernel
theorem d_Wi_restart_0 : decode b_Wi_restart 0 = .ok (.aload_n 0, 1) := by decide +kernel
theorem d_Wi_restart_1 : decode b_Wi_restart 1 = .ok (.aload_n 0, 1) := by decide +kernel
theorem d_Wi_restart_2 : decode b_Wi_restart 2 = .ok (.getfield 9, 3) := by decide +kernel
theorem d_Wi_restart_5 : decode b_Wi_restart 5 = .ok (.iconst (1), 1) := by decide +kernel
theorem d_Wi_restart_6 : decode b_Wi_restart 6 = .ok (.iadd, 1) := by decide +kernel
theorem d_Wi_restart_7 : decode b_Wi_restart 7 = .ok (.putfield 18, 3) := by decide +kernel
theorem d_Wi_restart_10 : decode b_Wi_restart 10 = .ok (.aload_n 0, 1) := by decide +kernel
theorem d_Wi_restart_11 : decode b_Wi_restart 11 = .ok (.iconst (0), 1) := by decide +kernel
theorem d_Wi_restart_12 : decode b_Wi_restart 12 = .ok (.putfield 21, 3) := by decide +kernel
theorem d_Wi_restart_15 : decode b_Wi_restart 15 = .ok (.return_, 1) := by decide +kernel
theorem d_Wi_behindEntry_0 : decode b_Wi_behindEntry 0 = .ok (.aload_n 0, 1) := by decide +kernel
theorem d_Wi_behindEntry_1 : decode b_Wi_behindEntry 1 = .ok (.dup, 1) := by decide +kernel
theorem d_Wi_behindEntry_2 : decode b_Wi_behindEntry 2 = .ok (.getfield 21, 3) := by decide +kernel
theorem d_Wi_behindEntry_5 : decode b_Wi_behindEntry 5 = .ok (.iconst (1), 1) := by decide +kernel
theorem d_Wi_behindEntry_6 : decode b_Wi_behindEntry 6 = .ok (.iadd, 1) := by decide +kernel
theorem d_Wi_behindEntry_7 : decode b_Wi_behindEntry 7 = .ok (.putfield 21, 3) := by decide +kernel
theorem d_Wi_behindEntry_10 : decode b_Wi_behindEntry 10 = .ok (.aload_n 0, 1) := by decide +kernel
theorem d_Wi_behindEntry_11 : decode b_Wi_behindEntry 11 = .ok (.getfield 18, 3) := by decide +kernel
theorem d_Wi_behindEntry_14 : decode b_Wi_behindEntry 14 = .ok (.bipush (12), 2) := by decide +kernel
theorem d_Wi_behindEntry_16 : decode b_Wi_behindEntry 16 = .ok (.if_icmp .ge (31), 3) := by decide +kernel
theorem d_Wi_behindEntry_19 : decode b_Wi_behindEntry 19 = .ok (.aload_n 0, 1) := by decide +kernel
theorem d_Wi_behindEntry_20 : decode b_Wi_behindEntry 20 = .ok (.getfield 15, 3) := by decide +kernel
theorem d_Wi_behindEntry_23 : decode b_Wi_behindEntry 23 = .ok (.aload_n 0, 1) := by decide +kernel
theorem d_Wi_behindEntry_24 : decode b_Wi_behindEntry 24 = .ok (.getfield 21, 3) := by decide +kernel
theorem d_Wi_behindEntry_27 : decode b_Wi_behindEntry 27 = .ok (.iadd, 1) := by decide +kernel
theorem d_Wi_behindEntry_28 : decode b_Wi_behindEntry 28 = .ok (.iconst (1), 1) := by decide +kernel
theorem d_Wi_behindEntry_29 : decode b_Wi_behindEntry 29 = .ok (.aload_n 0, 1) := by decide +kernel
theorem d_Wi_behindEntry_30 : decode b_Wi_behindEntry 30 = .ok (.getfield 18, 3) := by decide +kernel
theorem d_Wi_behindEntry_33 : decode b_Wi_behindEntry 33 = .ok (.ishl, 1) := by decide +kernel
theorem d_Wi_behindEntry_34 : decode b_Wi_behindEntry 34 = .ok (.if_icmp .ne (13), 3) := by decide +kernel
theorem d_Wi_behindEntry_37 : decode b_Wi_behindEntry 37 = .ok (.aload_n 0, 1) := by decide +kernel
theorem d_Wi_behindEntry_38 : decode b_Wi_behindEntry 38 = .ok (.dup, 1) := by decide +kernel
theorem d_Wi_behindEntry_39 : decode b_Wi_behindEntry 39 = .ok (.getfield 18, 3) := by decide +kernel
theorem d_Wi_behindEntry_42 : decode b_Wi_behindEntry 42 = .ok (.iconst (1), 1) := by decide +kernel
theorem d_Wi_behindEntry_43 : decode b_Wi_behindEntry 43 = .ok (.iadd, 1) := by decide +kernel
theorem d_Wi_behindEntry_44 : decode b_Wi_behindEntry 44 = .ok (.putfield 18, 3) := by decide +kernel
theorem d_Wi_behindEntry_47 : decode b_Wi_behindEntry 47 = .ok (.return_, 1) := by decide +kernel
theorem d_La_cell_0 : decode b_La_cell 0 = .ok (.iload_n 1, 1) := by decide +kernel
theorem d_La_cell_1 : decode b_La_cell 1 = .ok (.aload_n 0, 1) := by decide +kernel
theorem d_La_cell_2 : decode b_La_cell 2 = .ok (.arraylength, 1) := by decide +kernel
theorem d_La_cell_3 : decode b_La_cell 3 = .ok (.if_icmp .ge (9), 3) := by decide +kernel
theorem d_La_cell_6 : decode b_La_cell 6 = .ok (.aload_n 0, 1) := by decide +kernel
theorem d_La_cell_7 : decode b_La_cell 7 = .ok (.iload_n 1, 1) := by decide +kernel
theorem d_La_cell_8 : decode b_La_cell 8 = .ok (.iaload, 1) := by decide +kernel
theorem d_La_cell_9 : decode b_La_cell 9 = .ok (.goto (4), 3) := by decide +kernel
theorem d_La_cell_12 : decode b_La_cell 12 = .ok (.iconst (0), 1) := by decide +kernel
theorem d_La_cell_13 : decode b_La_cell 13 = .ok (.ireturn, 1) := by decide +kernel
theorem d_La_put_0 : decode b_La_put 0 = .ok (.aload 4, 2) := by decide +kernel
theorem d_La_put_2 : decode b_La_put 2 = .ok (.iconst (0), 1) := by decide +kernel
theorem d_La_put_3 : decode b_La_put 3 = .ok (.aload_n 0, 1) := by decide +kernel
theorem d_La_put_4 : decode b_La_put 4 = .ok (.iload_n 1, 1) := by decide +kernel
theorem d_La_put_5 : decode b_La_put 5 = .ok (.iload_n 2, 1) := by decide +kernel
theorem d_La_put_6 : decode b_La_put 6 = .ok (.iload_n 3, 1) := by decide +kernel
theorem d_La_put_7 : decode b_La_put 7 = .ok (.invokevirtual 7, 3) := by decide +kernel
theorem d_La_put_10 : decode b_La_put 10 = .ok (.i2l, 1) := by decide +kernel
theorem d_La_put_11 : decode b_La_put 11 = .ok (.lastore, 1) := by decide +kernel
theorem d_La_put_12 : decode b_La_put 12 = .ok (.goto (11), 3) := by decide +kernel
theorem d_La_put_15 : decode b_La_put 15 = .ok (.astore 5, 2) := by decide +kernel
theorem d_La_put_17 : decode b_La_put 17 = .ok (.iconst (1), 1) := by decide +kernel
theorem d_La_put_18 : decode b_La_put 18 = .ok (.ireturn, 1) := by decide +kernel
theorem d_La_put_19 : decode b_La_put 19 = .ok (.astore 5, 2) := by decide +kernel
theorem d_La_put_21 : decode b_La_put 21 = .ok (.iconst (2), 1) := by decide +kernel
theorem d_La_put_22 : decode b_La_put 22 = .ok (.ireturn, 1) := by decide +kernel
theorem d_La_put_23 : decode b_La_put 23 = .ok (.iconst (0), 1) := by decide +kernel
theorem d_La_put_24 : decode b_La_put 24 = .ok (.ireturn, 1) := by decide +kernel
theorem d_La_rule_0 : decode b_La_rule 0 = .ok (.aload_n 2, 1) := by decide +kernel
theorem d_La_rule_1 : decode b_La_rule 1 = .ok (.iconst (0), 1) := by decide +kernel
theorem d_La_rule_2 : decode b_La_rule 2 = .ok (.aload_n 0, 1) := by decide +kernel
theorem d_La_rule_3 : decode b_La_rule 3 = .ok (.iload_n 1, 1) := by decide +kernel
theorem d_La_rule_4 : decode b_La_rule 4 = .ok (.invokevirtual 17, 3) := by decide +kernel
theorem d_La_rule_7 : decode b_La_rule 7 = .ok (.i2l, 1) := by decide +kernel
theorem d_La_rule_8 : decode b_La_rule 8 = .ok (.lastore, 1) := by decide +kernel
theorem d_La_rule_9 : decode b_La_rule 9 = .ok (.goto (6), 3) := by decide +kernel
theorem d_La_rule_12 : decode b_La_rule 12 = .ok (.astore_n 3, 1) := by decide +kernel
theorem d_La_rule_13 : decode b_La_rule 13 = .ok (.iconst (1), 1) := by decide +kernel
theorem d_La_rule_14 : decode b_La_rule 14 = .ok (.ireturn, 1) := by decide +kernel
theorem d_La_rule_15 : decode b_La_rule 15 = .ok (.iconst (0), 1) := by decide +kernel
theorem d_La_rule_16 : decode b_La_rule 16 = .ok (.ireturn, 1) := by decide +kernel
theorem d_La_byteAt_0 : decode b_La_byteAt 0 = .ok (.aload_n 2, 1) := by decide +kernel
theorem d_La_byteAt_1 : decode b_La_byteAt 1 = .ok (.iconst (0), 1) := by decide +kernel
theorem d_La_byteAt_2 : decode b_La_byteAt 2 = .ok (.aload_n 0, 1) := by decide +kernel
theorem d_La_byteAt_3 : decode b_La_byteAt 3 = .ok (.iload_n 1, 1) := by decide +kernel
theorem d_La_byteAt_4 : decode b_La_byteAt 4 = .ok (.invokevirtual 21, 3) := by decide +kernel
theorem d_La_byteAt_7 : decode b_La_byteAt 7 = .ok (.i2l, 1) := by decide +kernel
theorem d_La_byteAt_8 : decode b_La_byteAt 8 = .ok (.lastore, 1) := by decide +kernel
theorem d_La_byteAt_9 : decode b_La_byteAt 9 = .ok (.goto (6), 3) := by decide +kernel
theorem d_La_byteAt_12 : decode b_La_byteAt 12 = .ok (.astore_n 3, 1) := by decide +kernel
theorem d_La_byteAt_13 : decode b_La_byteAt 13 = .ok (.iconst (1), 1) := by decide +kernel
theorem d_La_byteAt_14 : decode b_La_byteAt 14 = .ok (.ireturn, 1) := by decide +kernel
theorem d_La_byteAt_15 : decode b_La_byteAt 15 = .ok (.iconst (0), 1) := by decide +kernel
theorem d_La_byteAt_16 : decode b_La_byteAt 16 = .ok (.ireturn, 1) := by decide +kernel
theorem d_La_feed_0 : decode b_La_feed 0 = .ok (.aload_n 2, 1) := by decide +kernel
theorem d_La_feed_1 : decode b_La_feed 1 = .ok (.iconst (0), 1) := by decide +kernel
theorem d_La_feed_2 : decode b_La_feed 2 = .ok (.aload_n 0, 1) := by decide +kernel
theorem d_La_feed_3 : decode b_La_feed 3 = .ok (.iload_n 1, 1) := by decide +kernel
theorem d_La_feed_4 : decode b_La_feed 4 = .ok (.invokevirtual 26, 3) := by decide +kernel
theorem d_La_feed_7 : decode b_La_feed 7 = .ok (.i2l, 1) := by decide +kernel
theorem d_La_feed_8 : decode b_La_feed 8 = .ok (.lastore, 1) := by decide +kernel
theorem d_La_feed_9 : decode b_La_feed 9 = .ok (.goto (9), 3) := by decide +kernel
theorem d_La_feed_12 : decode b_La_feed 12 = .ok (.astore_n 3, 1) := by decide +kernel
theorem d_La_feed_13 : decode b_La_feed 13 = .ok (.iconst (1), 1) := by decide +kernel
theorem d_La_feed_14 : decode b_La_feed 14 = .ok (.ireturn, 1) := by decide +kernel
theorem d_La_feed_15 : decode b_La_feed 15 = .ok (.astore_n 3, 1) := by decide +kernel
theorem d_La_feed_16 : decode b_La_feed 16 = .ok (.iconst (2), 1) := by decide +kernel
theorem d_La_feed_17 : decode b_La_feed 17 = .ok (.ireturn, 1) := by decide +kernel
theorem d_La_feed_18 : decode b_La_feed 18 = .ok (.iconst (0), 1) := by decide +kernel
theorem d_La_feed_19 : decode b_La_feed 19 = .ok (.ireturn, 1) := by decide +kernel
theorem d_La_pass_0 : decode b_La_pass 0 = .ok (.aload_n 3, 1) := by decide +kernel
theorem d_La_pass_1 : decode b_La_pass 1 = .ok (.iconst (0), 1) := by decide +kernel
theorem d_La_pass_2 : decode b_La_pass 2 = .ok (.aload_n 0, 1) := by decide +kernel
theorem d_La_pass_3 : decode b_La_pass 3 = .ok (.iload_n 1, 1) := by decide +kernel
theorem d_La_pass_4 : decode b_La_pass 4 = .ok (.iload_n 2, 1) := by decide +kernel
theorem d_La_pass_5 : decode b_La_pass 5 = .ok (.invokevirtual 29, 3) := by decide +kernel
theorem d_La_pass_8 : decode b_La_pass 8 = .ok (.i2l, 1) := by decide +kernel
theorem d_La_pass_9 : decode b_La_pass 9 = .ok (.lastore, 1) := by decide +kernel
theorem d_La_pass_10 : decode b_La_pass 10 = .ok (.goto (15), 3) := by decide +kernel
theorem d_La_pass_13 : decode b_La_pass 13 = .ok (.astore 4, 2) := by decide +kernel
theorem d_La_pass_15 : decode b_La_pass 15 = .ok (.iconst (1), 1) := by decide +kernel
theorem d_La_pass_16 : decode b_La_pass 16 = .ok (.ireturn, 1) := by decide +kernel
theorem d_La_pass_17 : decode b_La_pass 17 = .ok (.astore 4, 2) := by decide +kernel
theorem d_La_pass_19 : decode b_La_pass 19 = .ok (.iconst (2), 1) := by decide +kernel
theorem d_La_pass_20 : decode b_La_pass 20 = .ok (.ireturn, 1) := by decide +kernel
theorem d_La_pass_21 : decode b_La_pass 21 = .ok (.astore 4, 2) := by decide +kernel
theorem d_La_pass_23 : decode b_La_pass 23 = .ok (.iconst (3), 1) := by decide +kernel
theorem d_La_pass_24 : decode b_La_pass 24 = .ok (.ireturn, 1) := by decide +kernel
theorem d_La_pass_25 : decode b_La_pass 25 = .ok (.iconst (0), 1) := by decide +kernel
theorem d_La_pass_26 : decode b_La_pass 26 = .ok (.ireturn, 1) := by decide +kernel
theorem d_La_at_0 : decode b_La_at 0 = .ok (.aload_n 2, 1) := by decide +kernel
theorem d_La_at_1 : decode b_La_at 1 = .ok (.iconst (0), 1) := by decide +kernel
theorem d_La_at_2 : decode b_La_at 2 = .ok (.aload_n 0, 1) := by decide +kernel
theorem d_La_at_3 : decode b_La_at 3 = .ok (.iload_n 1, 1) := by decide +kernel
theorem d_La_at_4 : decode b_La_at 4 = .ok (.invokevirtual 33, 3) := by decide +kernel
theorem d_La_at_7 : decode b_La_at 7 = .ok (.i2l, 1) := by decide +kernel
theorem d_La_at_8 : decode b_La_at 8 = .ok (.lastore, 1) := by decide +kernel
theorem d_La_at_9 : decode b_La_at 9 = .ok (.goto (6), 3) := by decide +kernel
theorem d_La_at_12 : decode b_La_at 12 = .ok (.astore_n 3, 1) := by decide +kernel
theorem d_La_at_13 : decode b_La_at 13 = .ok (.iconst (1), 1) := by decide +kernel
theorem d_La_at_14 : decode b_La_at 14 = .ok (.ireturn, 1) := by decide +kernel
theorem d_La_at_15 : decode b_La_at 15 = .ok (.iconst (0), 1) := by decide +kernel
theorem d_La_at_16 : decode b_La_at 16 = .ok (.ireturn, 1) := by decide +kernel
theorem d_La_frame_0 : decode b_La_frame 0 = .ok (.aload 8, 2) := by decide +kernel
theorem d_La_frame_2 : decode b_La_frame 2 = .ok (.iconst (0), 1) := by decide +kernel
theorem d_La_frame_3 : decode b_La_frame 3 = .ok (.aload_n 0, 1) := by decide +kernel
theorem d_La_frame_4 : decode b_La_frame 4 = .ok (.iload_n 1, 1) := by decide +kernel
theorem d_La_frame_5 : decode b_La_frame 5 = .ok (.iload_n 2, 1) := by decide +kernel
theorem d_La_frame_6 : decode b_La_frame 6 = .ok (.iload_n 3, 1) := by decide +kernel
theorem d_La_frame_7 : decode b_La_frame 7 = .ok (.iload 4, 2) := by decide +kernel
theorem d_La_frame_9 : decode b_La_frame 9 = .ok (.iload 5, 2) := by decide +kernel
theorem d_La_frame_11 : decode b_La_frame 11 = .ok (.iload 6, 2) := by decide +kernel
theorem d_La_frame_13 : decode b_La_frame 13 = .ok (.iload 7, 2) := by decide +kernel
theorem d_La_frame_15 : decode b_La_frame 15 = .ok (.invokevirtual 36, 3) := by decide +kernel
theorem d_La_frame_18 : decode b_La_frame 18 = .ok (.i2l, 1) := by decide +kernel
theorem d_La_frame_19 : decode b_La_frame 19 = .ok (.lastore, 1) := by decide +kernel
theorem d_La_frame_20 : decode b_La_frame 20 = .ok (.goto (15), 3) := by decide +kernel
theorem d_La_frame_23 : decode b_La_frame 23 = .ok (.astore 9, 2) := by decide +kernel
theorem d_La_frame_25 : decode b_La_frame 25 = .ok (.iconst (1), 1) := by decide +kernel
theorem d_La_frame_26 : decode b_La_frame 26 = .ok (.ireturn, 1) := by decide +kernel
theorem d_La_frame_27 : decode b_La_frame 27 = .ok (.astore 9, 2) := by decide +kernel
theorem d_La_frame_29 : decode b_La_frame 29 = .ok (.iconst (2), 1) := by decide +kernel
theorem d_La_frame_30 : decode b_La_frame 30 = .ok (.ireturn, 1) := by decide +kernel
theorem d_La_frame_31 : decode b_La_frame 31 = .ok (.astore 9, 2) := by decide +kernel
theorem d_La_frame_33 : decode b_La_frame 33 = .ok (.iconst (3), 1) := by decide +kernel
theorem d_La_frame_34 : decode b_La_frame 34 = .ok (.ireturn, 1) := by decide +kernel
theorem d_La_frame_35 : decode b_La_frame 35 = .ok (.iconst (0), 1) := by decide +kernel
theorem d_La_frame_36 : decode b_La_frame 36 = .ok (.ireturn, 1) := by decide +kernel
theorem d_La_colour_0 : decode b_La_colour 0 = .ok (.aload 4, 2) := by decide +kernel
theorem d_La_colour_2 : decode b_La_colour 2 = .ok (.iconst (0), 1) := by decide +kernel
theorem d_La_colour_3 : decode b_La_colour 3 = .ok (.aload_n 0, 1) := by decide +kernel
theorem d_La_colour_4 : decode b_La_colour 4 = .ok (.iload_n 1, 1) := by decide +kernel
theorem d_La_colour_5 : decode b_La_colour 5 = .ok (.iload_n 2, 1) := by decide +kernel
theorem d_La_colour_6 : decode b_La_colour 6 = .ok (.iload_n 3, 1) := by decide +kernel
theorem d_La_colour_7 : decode b_La_colour 7 = .ok (.invokevirtual 42, 3) := by decide +kernel
theorem d_La_colour_10 : decode b_La_colour 10 = .ok (.i2l, 1) := by decide +kernel
theorem d_La_colour_11 : decode b_La_colour 11 = .ok (.lastore, 1) := by decide +kernel
theorem d_La_colour_12 : decode b_La_colour 12 = .ok (.goto (11), 3) := by decide +kernel
theorem d_La_colour_15 : decode b_La_colour 15 = .ok (.astore 5, 2) := by decide +kernel
theorem d_La_colour_17 : decode b_La_colour 17 = .ok (.iconst (1), 1) := by decide +kernel
theorem d_La_colour_18 : decode b_La_colour 18 = .ok (.ireturn, 1) := by decide +kernel
theorem d_La_colour_19 : decode b_La_colour 19 = .ok (.astore 5, 2) := by decide +kernel
theorem d_La_colour_21 : decode b_La_colour 21 = .ok (.iconst (2), 1) := by decide +kernel
theorem d_La_colour_22 : decode b_La_colour 22 = .ok (.ireturn, 1) := by decide +kernel
theorem d_La_colour_23 : decode b_La_colour 23 = .ok (.iconst (0), 1) := by decide +kernel
theorem d_La_colour_24 : decode b_La_colour 24 = .ok (.ireturn, 1) := by decide +kernel
theorem d_La_through_0 : decode b_La_through 0 = .ok (.aload_n 3, 1) := by decide +kernel
theorem d_La_through_1 : decode b_La_through 1 = .ok (.iconst (0), 1) := by decide +kernel
theorem d_La_through_2 : decode b_La_through 2 = .ok (.aload_n 0, 1) := by decide +kernel
theorem d_La_through_3 : decode b_La_through 3 = .ok (.iload_n 1, 1) := by decide +kernel
theorem d_La_through_4 : decode b_La_through 4 = .ok (.iload_n 2, 1) := by decide +kernel
theorem d_La_through_5 : decode b_La_through 5 = .ok (.invokevirtual 45, 3) := by decide +kernel
theorem d_La_through_8 : decode b_La_through 8 = .ok (.i2l, 1) := by decide +kernel
theorem d_La_through_9 : decode b_La_through 9 = .ok (.lastore, 1) := by decide +kernel
theorem d_La_through_10 : decode b_La_through 10 = .ok (.goto (7), 3) := by decide +kernel
theorem d_La_through_13 : decode b_La_through 13 = .ok (.astore 4, 2) := by decide +kernel
theorem d_La_through_15 : decode b_La_through 15 = .ok (.iconst (1), 1) := by decide +kernel
theorem d_La_through_16 : decode b_La_through 16 = .ok (.ireturn, 1) := by decide +kernel
theorem d_La_through_17 : decode b_La_through 17 = .ok (.iconst (0), 1) := by decide +kernel
theorem d_La_through_18 : decode b_La_through 18 = .ok (.ireturn, 1) := by decide +kernel
theorem d_La_shown_0 : decode b_La_shown 0 = .ok (.aload 4, 2) := by decide +kernel
theorem d_La_shown_2 : decode b_La_shown 2 = .ok (.iconst (0), 1) := by decide +kernel
theorem d_La_shown_3 : decode b_La_shown 3 = .ok (.aload_n 0, 1) := by decide +kernel
theorem d_La_shown_4 : decode b_La_shown 4 = .ok (.iload_n 1, 1) := by decide +kernel
theorem d_La_shown_5 : decode b_La_shown 5 = .ok (.iload_n 2, 1) := by decide +kernel
theorem d_La_shown_6 : decode b_La_shown 6 = .ok (.iload_n 3, 1) := by decide +kernel
theorem d_La_shown_7 : decode b_La_shown 7 = .ok (.invokevirtual 48, 3) := by decide +kernel
theorem d_La_shown_10 : decode b_La_shown 10 = .ok (.i2l, 1) := by decide +kernel
theorem d_La_shown_11 : decode b_La_shown 11 = .ok (.lastore, 1) := by decide +kernel
theorem d_La_shown_12 : decode b_La_shown 12 = .ok (.goto (7), 3) := by decide +kernel
theorem d_La_shown_15 : decode b_La_shown 15 = .ok (.astore 5, 2) := by decide +kernel
theorem d_La_shown_17 : decode b_La_shown 17 = .ok (.iconst (1), 1) := by decide +kernel
theorem d_La_shown_18 : decode b_La_shown 18 = .ok (.ireturn, 1) := by decide +kernel
theorem d_La_shown_19 : decode b_La_shown 19 = .ok (.iconst (0), 1) := by decide +kernel
theorem d_La_shown_20 : decode b_La_shown 20 = .ok (.ireturn, 1) := by decide +kernel
theorem d_La_symbol_0 : decode b_La_symbol 0 = .ok (.aload 4, 2) := by decide +kernel
theorem d_La_symbol_2 : decode b_La_symbol 2 = .ok (.iconst (0), 1) := by decide +kernel
theorem d_La_symbol_3 : decode b_La_symbol 3 = .ok (.aload_n 0, 1) := by decide +kernel
theorem d_La_symbol_4 : decode b_La_symbol 4 = .ok (.iload_n 1, 1) := by decide +kernel
theorem d_La_symbol_5 : decode b_La_symbol 5 = .ok (.iload_n 2, 1) := by decide +kernel
theorem d_La_symbol_6 : decode b_La_symbol 6 = .ok (.iload_n 3, 1) := by decide +kernel
theorem d_La_symbol_7 : decode b_La_symbol 7 = .ok (.invokevirtual 51, 3) := by decide +kernel
theorem d_La_symbol_10 : decode b_La_symbol 10 = .ok (.i2l, 1) := by decide +kernel
theorem d_La_symbol_11 : decode b_La_symbol 11 = .ok (.lastore, 1) := by decide +kernel
theorem d_La_symbol_12 : decode b_La_symbol 12 = .ok (.goto (7), 3) := by decide +kernel
theorem d_La_symbol_15 : decode b_La_symbol 15 = .ok (.astore 5, 2) := by decide +kernel
theorem d_La_symbol_17 : decode b_La_symbol 17 = .ok (.iconst (1), 1) := by decide +kernel
theorem d_La_symbol_18 : decode b_La_symbol 18 = .ok (.ireturn, 1) := by decide +kernel
theorem d_La_symbol_19 : decode b_La_symbol 19 = .ok (.iconst (0), 1) := by decide +kernel
theorem d_La_symbol_20 : decode b_La_symbol 20 = .ok (.ireturn, 1) := by decide +kernel
theorem d_La_when_0 : decode b_La_when 0 = .ok (.aload_n 3, 1) := by decide +kernel
theorem d_La_when_1 : decode b_La_when 1 = .ok (.iconst (0), 1) := by decide +kernel
theorem d_La_when_2 : decode b_La_when 2 = .ok (.aload_n 0, 1) := by decide +kernel
theorem d_La_when_3 : decode b_La_when 3 = .ok (.iload_n 1, 1) := by decide +kernel
theorem d_La_when_4 : decode b_La_when 4 = .ok (.iload_n 2, 1) := by decide +kernel
theorem d_La_when_5 : decode b_La_when 5 = .ok (.invokevirtual 54, 3) := by decide +kernel
theorem d_La_when_8 : decode b_La_when 8 = .ok (.i2l, 1) := by decide +kernel
theorem d_La_when_9 : decode b_La_when 9 = .ok (.lastore, 1) := by decide +kernel
theorem d_La_when_10 : decode b_La_when 10 = .ok (.goto (7), 3) := by decide +kernel
theorem d_La_when_13 : decode b_La_when 13 = .ok (.astore 4, 2) := by decide +kernel
theorem d_La_when_15 : decode b_La_when 15 = .ok (.iconst (1), 1) := by decide +kernel
theorem d_La_when_16 : decode b_La_when 16 = .ok (.ireturn, 1) := by decide +kernel
theorem d_La_when_17 : decode b_La_when 17 = .ok (.iconst (0), 1) := by decide +kernel
theorem d_La_when_18 : decode b_La_when 18 = .ok (.ireturn, 1) := by decide +kernel
theorem d_La_passOf_0 : decode b_La_passOf 0 = .ok (.aload_n 2, 1) := by decide +kernel
theorem d_La_passOf_1 : decode b_La_passOf 1 = .ok (.iconst (0), 1) := by decide +kernel
theorem d_La_passOf_2 : decode b_La_passOf 2 = .ok (.aload_n 0, 1) := by decide +kernel
theorem d_La_passOf_3 : decode b_La_passOf 3 = .ok (.iload_n 1, 1) := by decide +kernel
theorem d_La_passOf_4 : decode b_La_passOf 4 = .ok (.invokevirtual 57, 3) := by decide +kernel
theorem d_La_passOf_7 : decode b_La_passOf 7 = .ok (.i2l, 1) := by decide +kernel
theorem d_La_passOf_8 : decode b_La_passOf 8 = .ok (.lastore, 1) := by decide +kernel
theorem d_La_passOf_9 : decode b_La_passOf 9 = .ok (.goto (6), 3) := by decide +kernel
theorem d_La_passOf_12 : decode b_La_passOf 12 = .ok (.astore_n 3, 1) := by decide +kernel
theorem d_La_passOf_13 : decode b_La_passOf 13 = .ok (.iconst (1), 1) := by decide +kernel
theorem d_La_passOf_14 : decode b_La_passOf 14 = .ok (.ireturn, 1) := by decide +kernel
theorem d_La_passOf_15 : decode b_La_passOf 15 = .ok (.iconst (0), 1) := by decide +kernel
theorem d_La_passOf_16 : decode b_La_passOf 16 = .ok (.ireturn, 1) := by decide +kernel
theorem d_Ar_fill_0 : decode b_Ar_fill 0 = .ok (.iconst (0), 1) := by decide +kernel
theorem d_Ar_fill_1 : decode b_Ar_fill 1 = .ok (.istore_n 2, 1) := by decide +kernel
theorem d_Ar_fill_2 : decode b_Ar_fill 2 = .ok (.aload_n 0, 1) := by decide +kernel
theorem d_Ar_fill_3 : decode b_Ar_fill 3 = .ok (.arraylength, 1) := by decide +kernel
theorem d_Ar_fill_4 : decode b_Ar_fill 4 = .ok (.istore_n 3, 1) := by decide +kernel
theorem d_Ar_fill_5 : decode b_Ar_fill 5 = .ok (.iload_n 2, 1) := by decide +kernel
theorem d_Ar_fill_6 : decode b_Ar_fill 6 = .ok (.iload_n 3, 1) := by decide +kernel
theorem d_Ar_fill_7 : decode b_Ar_fill 7 = .ok (.if_icmp .ge (13), 3) := by decide +kernel
theorem d_Ar_fill_10 : decode b_Ar_fill 10 = .ok (.aload_n 0, 1) := by decide +kernel
theorem d_Ar_fill_11 : decode b_Ar_fill 11 = .ok (.iload_n 2, 1) := by decide +kernel
theorem d_Ar_fill_12 : decode b_Ar_fill 12 = .ok (.iload_n 1, 1) := by decide +kernel
theorem d_Ar_fill_13 : decode b_Ar_fill 13 = .ok (.iastore, 1) := by decide +kernel
theorem d_Ar_fill_14 : decode b_Ar_fill 14 = .ok (.iinc 2 (1), 3) := by decide +kernel
theorem d_Ar_fill_17 : decode b_Ar_fill 17 = .ok (.goto (-12), 3) := by decide +kernel
theorem d_Ar_fill_20 : decode b_Ar_fill 20 = .ok (.return_, 1) := by decide +kernel
end
section
def T_0 : u_T := fun k => match k with
  | 0 => ("PaletteFrames$Numbers", "items", "[I", true)
  | _ => ("PaletteFrames$Numbers", "size", "I", false)
def t_0 : Nat → FieldType := fun k => match k with
  | 0 => .array .int
  | _ => .int
theorem nm_0 : ∀ a, a < 2 → ∀ b, b < 2 → a ≠ b → (T_0 a).2.1 ≠ (T_0 b).2.1 := by decide +kernel
theorem ty_0 : ∀ k, k < 2 → parseFieldDescriptor (T_0 k).2.2.1 = some (t_0 k) := by decide +kernel
def T_1 : u_T := fun k => match k with
  | 0 => ("PaletteFrames$Width", "symbolBits", "I", true)
  | 1 => ("PaletteFrames$Width", "end", "I", true)
  | 2 => ("PaletteFrames$Width", "bits", "I", false)
  | _ => ("PaletteFrames$Width", "codes", "I", false)
def t_1 : Nat → FieldType := fun k => match k with
  | 0 => .int
  | 1 => .int
  | 2 => .int
  | _ => .int
theorem nm_1 : ∀ a, a < 4 → ∀ b, b < 4 → a ≠ b → (T_1 a).2.1 ≠ (T_1 b).2.1 := by decide +kernel
theorem ty_1 : ∀ k, k < 4 → parseFieldDescriptor (T_1 k).2.2.1 = some (t_1 k) := by decide +kernel
def T_2 : u_T := fun k => match k with
  | 0 => ("PaletteFrames$Strings", "end", "I", true)
  | 1 => ("PaletteFrames$Strings", "slots", "[I", true)
  | 2 => ("PaletteFrames$Strings", "keys", "[I", true)
  | 3 => ("PaletteFrames$Strings", "slotOf", "[I", true)
  | _ => ("PaletteFrames$Strings", "last", "I", false)
def t_2 : Nat → FieldType := fun k => match k with
  | 0 => .int
  | 1 => .array .int
  | 2 => .array .int
  | 3 => .array .int
  | _ => .int
theorem nm_2 : ∀ a, a < 5 → ∀ b, b < 5 → a ≠ b → (T_2 a).2.1 ≠ (T_2 b).2.1 := by decide +kernel
theorem ty_2 : ∀ k, k < 5 → parseFieldDescriptor (T_2 k).2.2.1 = some (t_2 k) := by decide +kernel
def T_3 : u_T := fun k => match k with
  | 0 => ("PaletteFrames$Coder", "clearCode", "I", true)
  | 1 => ("PaletteFrames$Coder", "endCode", "I", true)
  | 2 => ("PaletteFrames$Coder", "width", "LPaletteFrames$Width;", true)
  | 3 => ("PaletteFrames$Coder", "strings", "LPaletteFrames$Strings;", true)
  | 4 => ("PaletteFrames$Coder", "bytes", "LPaletteFrames$Numbers;", true)
  | 5 => ("PaletteFrames$Coder", "codes", "I", false)
  | 6 => ("PaletteFrames$Coder", "clears", "I", false)
  | 7 => ("PaletteFrames$Coder", "lastBits", "I", false)
  | 8 => ("PaletteFrames$Coder", "held", "I", false)
  | 9 => ("PaletteFrames$Coder", "heldBits", "I", false)
  | 10 => ("PaletteFrames$Coder", "lookCodes", "I", false)
  | _ => ("PaletteFrames$Coder", "lookSymbols", "I", false)
def t_3 : Nat → FieldType := fun k => match k with
  | 0 => .int
  | 1 => .int
  | 2 => .object "PaletteFrames$Width"
  | 3 => .object "PaletteFrames$Strings"
  | 4 => .object "PaletteFrames$Numbers"
  | 5 => .int
  | 6 => .int
  | 7 => .int
  | 8 => .int
  | 9 => .int
  | 10 => .int
  | _ => .int
theorem nm_3 : ∀ a, a < 12 → ∀ b, b < 12 → a ≠ b → (T_3 a).2.1 ≠ (T_3 b).2.1 := by decide +kernel
theorem ty_3 : ∀ k, k < 12 → parseFieldDescriptor (T_3 k).2.2.1 = some (t_3 k) := by decide +kernel
def T_4 : u_T := fun k => match k with
  | 0 => ("PaletteFrames$Reader", "clearCode", "I", true)
  | 1 => ("PaletteFrames$Reader", "endCode", "I", true)
  | 2 => ("PaletteFrames$Reader", "width", "LPaletteFrames$Width;", true)
  | 3 => ("PaletteFrames$Reader", "symbols", "LPaletteFrames$Numbers;", true)
  | 4 => ("PaletteFrames$Reader", "begins", "[I", true)
  | 5 => ("PaletteFrames$Reader", "lengths", "[I", true)
  | _ => ("PaletteFrames$Reader", "last", "I", false)
def t_4 : Nat → FieldType := fun k => match k with
  | 0 => .int
  | 1 => .int
  | 2 => .object "PaletteFrames$Width"
  | 3 => .object "PaletteFrames$Numbers"
  | 4 => .array .int
  | 5 => .array .int
  | _ => .int
theorem nm_4 : ∀ a, a < 7 → ∀ b, b < 7 → a ≠ b → (T_4 a).2.1 ≠ (T_4 b).2.1 := by decide +kernel
theorem ty_4 : ∀ k, k < 7 → parseFieldDescriptor (T_4 k).2.2.1 = some (t_4 k) := by decide +kernel
def T_5 : u_T := fun k => match k with
  | _ => ("PaletteFrames$Palette", "colours", "[I", true)
def t_5 : Nat → FieldType := fun k => match k with
  | _ => .array .int
theorem nm_5 : ∀ a, a < 1 → ∀ b, b < 1 → a ≠ b → (T_5 a).2.1 ≠ (T_5 b).2.1 := by decide +kernel
theorem ty_5 : ∀ k, k < 1 → parseFieldDescriptor (T_5 k).2.2.1 = some (t_5 k) := by decide +kernel
def T_6 : u_T := fun k => match k with
  | 0 => ("PaletteFrames$Frame", "symbols", "[I", true)
  | 1 => ("PaletteFrames$Frame", "palette", "LPaletteFrames$Palette;", true)
  | 2 => ("PaletteFrames$Frame", "left", "I", false)
  | 3 => ("PaletteFrames$Frame", "top", "I", false)
  | 4 => ("PaletteFrames$Frame", "width", "I", false)
  | 5 => ("PaletteFrames$Frame", "height", "I", false)
  | 6 => ("PaletteFrames$Frame", "end", "I", false)
  | 7 => ("PaletteFrames$Frame", "delay", "I", false)
  | _ => ("PaletteFrames$Frame", "clearThrough", "I", false)
def t_6 : Nat → FieldType := fun k => match k with
  | 0 => .array .int
  | 1 => .object "PaletteFrames$Palette"
  | 2 => .int
  | 3 => .int
  | 4 => .int
  | 5 => .int
  | 6 => .int
  | 7 => .int
  | _ => .int
theorem nm_6 : ∀ a, a < 9 → ∀ b, b < 9 → a ≠ b → (T_6 a).2.1 ≠ (T_6 b).2.1 := by decide +kernel
theorem ty_6 : ∀ k, k < 9 → parseFieldDescriptor (T_6 k).2.2.1 = some (t_6 k) := by decide +kernel
def T_7 : u_T := fun k => match k with
  | 0 => ("PaletteFrames$Screen", "frames", "[LPaletteFrames$Frame;", true)
  | 1 => ("PaletteFrames$Screen", "palette", "LPaletteFrames$Palette;", true)
  | _ => ("PaletteFrames$Screen", "count", "I", false)
def t_7 : Nat → FieldType := fun k => match k with
  | 0 => .array (.object "PaletteFrames$Frame")
  | 1 => .object "PaletteFrames$Palette"
  | _ => .int
theorem nm_7 : ∀ a, a < 3 → ∀ b, b < 3 → a ≠ b → (T_7 a).2.1 ≠ (T_7 b).2.1 := by decide +kernel
theorem ty_7 : ∀ k, k < 3 → parseFieldDescriptor (T_7 k).2.2.1 = some (t_7 k) := by decide +kernel
def T_8 : u_T := fun k => match k with
  | 0 => ("PaletteFrames", "symbolBits", "I", true)
  | 1 => ("PaletteFrames", "row", "LPaletteFrames$Numbers;", true)
  | 2 => ("PaletteFrames", "waiting", "LPaletteFrames$Numbers;", true)
  | 3 => ("PaletteFrames", "coder", "LPaletteFrames$Coder;", true)
  | 4 => ("PaletteFrames", "reader", "LPaletteFrames$Reader;", true)
  | 5 => ("PaletteFrames", "screen", "LPaletteFrames$Screen;", true)
  | _ => ("PaletteFrames", "rule", "I", false)
def t_8 : Nat → FieldType := fun k => match k with
  | 0 => .int
  | 1 => .object "PaletteFrames$Numbers"
  | 2 => .object "PaletteFrames$Numbers"
  | 3 => .object "PaletteFrames$Coder"
  | 4 => .object "PaletteFrames$Reader"
  | 5 => .object "PaletteFrames$Screen"
  | _ => .int
theorem nm_8 : ∀ a, a < 7 → ∀ b, b < 7 → a ≠ b → (T_8 a).2.1 ≠ (T_8 b).2.1 := by decide +kernel
theorem ty_8 : ∀ k, k < 7 → parseFieldDescriptor (T_8 k).2.2.1 = some (t_8 k) := by decide +kernel
def T_9 : u_T := fun k => match k with
  | 0 => ("PaletteFramesModel", "least", "I", true)
  | 1 => ("PaletteFramesModel", "clear", "I", true)
  | 2 => ("PaletteFramesModel", "end", "I", true)
  | 3 => ("PaletteFramesModel", "code", "I", false)
  | 4 => ("PaletteFramesModel", "rule", "I", false)
  | 5 => ("PaletteFramesModel", "rowSize", "I", false)
  | 6 => ("PaletteFramesModel", "row", "[I", true)
  | 7 => ("PaletteFramesModel", "codedSize", "I", false)
  | 8 => ("PaletteFramesModel", "coded", "[B", true)
  | 9 => ("PaletteFramesModel", "codedTold", "[I", true)
  | 10 => ("PaletteFramesModel", "fedSize", "I", false)
  | 11 => ("PaletteFramesModel", "fed", "[B", true)
  | 12 => ("PaletteFramesModel", "readSize", "I", false)
  | 13 => ("PaletteFramesModel", "read", "[I", true)
  | 14 => ("PaletteFramesModel", "entries", "I", false)
  | 15 => ("PaletteFramesModel", "prefixes", "[I", true)
  | 16 => ("PaletteFramesModel", "lasts", "[I", true)
  | 17 => ("PaletteFramesModel", "lengths", "[I", true)
  | 18 => ("PaletteFramesModel", "children", "[I", true)
  | 19 => ("PaletteFramesModel", "siblings", "[I", true)
  | 20 => ("PaletteFramesModel", "bitAt", "I", false)
  | 21 => ("PaletteFramesModel", "width", "I", false)
  | 22 => ("PaletteFramesModel", "since", "I", false)
  | 23 => ("PaletteFramesModel", "frames", "I", false)
  | 24 => ("PaletteFramesModel", "xs", "[I", true)
  | 25 => ("PaletteFramesModel", "ys", "[I", true)
  | 26 => ("PaletteFramesModel", "widths", "[I", true)
  | 27 => ("PaletteFramesModel", "heights", "[I", true)
  | 28 => ("PaletteFramesModel", "ends", "[I", true)
  | 29 => ("PaletteFramesModel", "delays", "[I", true)
  | 30 => ("PaletteFramesModel", "throughs", "[I", true)
  | 31 => ("PaletteFramesModel", "symbols", "[I", true)
  | 32 => ("PaletteFramesModel", "colours", "[I", true)
  | 33 => ("PaletteFramesModel", "shownFrames", "[I", true)
  | 34 => ("PaletteFramesModel", "shownSymbols", "[I", true)
  | 35 => ("PaletteFramesModel", "keptFrames", "[I", true)
  | _ => ("PaletteFramesModel", "keptSymbols", "[I", true)
def t_9 : Nat → FieldType := fun k => match k with
  | 0 => .int
  | 1 => .int
  | 2 => .int
  | 3 => .int
  | 4 => .int
  | 5 => .int
  | 6 => .array .int
  | 7 => .int
  | 8 => .array .byte
  | 9 => .array .int
  | 10 => .int
  | 11 => .array .byte
  | 12 => .int
  | 13 => .array .int
  | 14 => .int
  | 15 => .array .int
  | 16 => .array .int
  | 17 => .array .int
  | 18 => .array .int
  | 19 => .array .int
  | 20 => .int
  | 21 => .int
  | 22 => .int
  | 23 => .int
  | 24 => .array .int
  | 25 => .array .int
  | 26 => .array .int
  | 27 => .array .int
  | 28 => .array .int
  | 29 => .array .int
  | 30 => .array .int
  | 31 => .array .int
  | 32 => .array .int
  | 33 => .array .int
  | 34 => .array .int
  | 35 => .array .int
  | _ => .array .int
theorem nm_9 : ∀ a, a < 37 → ∀ b, b < 37 → a ≠ b → (T_9 a).2.1 ≠ (T_9 b).2.1 := by decide +kernel
theorem ty_9 : ∀ k, k < 37 → parseFieldDescriptor (T_9 k).2.2.1 = some (t_9 k) := by decide +kernel
/-- the classes of the world, by their places -/
def xCl : List vw_C := [("PaletteFrames$Numbers", T_0, 2), ("PaletteFrames$Width", T_1, 4), ("PaletteFrames$Strings", T_2, 5), ("PaletteFrames$Coder", T_3, 12), ("PaletteFrames$Reader", T_4, 7), ("PaletteFrames$Palette", T_5, 1), ("PaletteFrames$Frame", T_6, 9), ("PaletteFrames$Screen", T_7, 3), ("PaletteFrames", T_8, 7), ("PaletteFramesModel", T_9, 37)]
/-- how many cells the world has, when all is made -/
def xKK : Nat := 96
def xTy (dA : Nat → ClassId) : List (ClassId × FieldType) := [(dA 0, .int), (dA 1, .long), (dA 2, .object "PaletteFrames$Frame"), (dA 3, .byte)]
/-- the words that stay true all through -/
def xGT : List Cond := lw_tbl.filter goodWord
theorem xGT_good : ∀ w ∈ xGT, (w.onTables && w.keeps) = true ∨ ∃ ty, w = .arrayClass ty := fun w h => good_of_word (List.mem_filter.mp h).2
theorem xGT_of {w : Cond} (i : Nat) (h : lw_tbl[i]? = some w) (hg : goodWord w = true) : w ∈ xGT := List.mem_filter.mpr ⟨List.mem_of_getElem? h, hg⟩
def xNT : List Cond := []
def xNW (U : State) : Prop := ∀ w ∈ xNT, va_Nw w U
theorem xNT_tab : ∀ w ∈ xNT, w.onTables = true := fun _ h => by cases h
theorem xNT_warm {s U : State} (_hW : s.WarmedH U.vm) : ∀ w ∈ xNT, va_Nw w s → va_Nw w U := fun _ h => by cases h
end
section
/-! THE ABSTRACT WORLD. Shapes S never change once everything is made: what changes are the numbers F (fields and arrays of ints) and G (arrays of longs). -/
/-- a shape: an array of numbers (its type's place, its length), an array of references, or an object (its class's place; a field is none: a number, or some: a value that stays) -/
abbrev xO : Type := (Nat × Nat) ⊕ ((Nat × List (Option Nat)) ⊕ (Nat × List (Option Value)))
abbrev xF : Type := Nat → Nat → Int32
abbrev xL : Type := Nat → Nat → Int64
/-- where the world begins; the script's address; the array classes; the classes -/
abbrev xG : Type := Nat × Nat × (Nat → ClassId) × va_G
/-- a value of the abstract world as the machine has it: references count from the world's begin; a float stands for the script -/
def xv (g : xG) (v : Value) : Value := match v with
  | .ref i => .ref (g.1 + i)
  | .float _ => .ref g.2.1
  | .int x => .int x
  | .long x => .long x
  | .double x => .double x
  | .null => .null
  | .retAddr x => .retAddr x
theorem xv_cat (g : xG) (v : Value) : (xv g v).category = v.category := by cases v <;> rfl
def xfv (g : xG) (F : xF) (a j : Nat) (o : Option Value) : Value := match o with
  | none => .int (F a j)
  | some v => xv g v
def xfs (g : xG) (F : xF) (a : Nat) (fs : List (Option Value)) : List Value := fs.mapIdx (xfv g F a)
def xrs (g : xG) (rs : List (Option Nat)) : Nat → Option Nat := fun j => (rs.getD j none).map (g.1 + ·)
def xc (g : xG) (F : xF) (G : xL) (k : Nat) (o : xO) : va_E := match o with
  | .inl (t, n) => if t = 1 then .inl (g.2.2.1 t, n, .inr (.inl (G k))) else .inl (g.2.2.1 t, n, .inl (F k))
  | .inr (.inl (t, rs)) => .inl (g.2.2.1 t, rs.length, .inr (.inr (.inr (.inr (xrs g rs)))))
  | .inr (.inr (ci, fs)) => .inr (ci, xfs g F k fs)
def xw (g : xG) (F : xF) (G : xL) (S : List xO) : va_W := S.mapIdx (fun k o => (g.1 + k, xc g F G k o))
def up2 {α : Type} (F : Nat → Nat → α) (a k : Nat) (v : α) : Nat → Nat → α := fun i j => if i = a then (if j = k then v else F i j) else F i j
theorem up2_row {α : Type} (F : Nat → Nat → α) (a k : Nat) (v : α) {i : Nat} (h : i ≠ a) : up2 F a k v i = F i := by
  funext j; simp [up2, h]
theorem up2_eq {α : Type} (F : Nat → Nat → α) (a k : Nat) (v : α) : up2 F a k v a k = v := by simp [up2]
theorem up2_ne {α : Type} (F : Nat → Nat → α) (a k : Nat) (v : α) {i j : Nat} (h : i ≠ a ∨ j ≠ k) : up2 F a k v i j = F i j := by
  unfold up2
  rcases h with h | h
  · simp [h]
  · simp [h]
theorem xw_at (g : xG) (F : xF) (G : xL) (S : List xO) (k : Nat) : (xw g F G S)[k]? = (S[k]?).map (fun o => (g.1 + k, xc g F G k o)) := by
  unfold xw
  rw [List.getElem?_mapIdx]
theorem xw_some {g : xG} {F : xF} {G : xL} {S : List xO} {k : Nat} {o : xO} (h : S[k]? = some o) : (xw g F G S)[k]? = some (g.1 + k, xc g F G k o) := by
  rw [xw_at, h]; rfl
/-- the cells that may change: the world's -/
def xA (g : xG) (q : Nat) : Prop := g.1 ≤ q ∧ q < g.1 + xKK
theorem xw_D (g : xG) (F : xF) (G : xL) {S : List xO} (hl : S.length ≤ xKK) : va_D (xA g) (xw g F G S) := by
  refine ⟨fun i j p q hi hj h => ?_, fun k q hk => ?_⟩
  · rw [xw_at] at hi hj
    cases h1 : S[i]? with
    | none => rw [h1] at hi; cases hi
    | some o =>
      rw [h1] at hi
      cases h2 : S[j]? with
      | none => rw [h2] at hj; cases hj
      | some o2 =>
        rw [h2] at hj
        cases hi; cases hj
        exact Nat.add_left_cancel h
  · rw [xw_at] at hk
    cases h1 : S[k]? with
    | none => rw [h1] at hk; cases hk
    | some o =>
      rw [h1] at hk
      cases hk
      have h2 := (List.getElem?_eq_some_iff.mp h1).1
      show g.1 ≤ g.1 + k ∧ g.1 + k < g.1 + xKK
      exact ⟨Nat.le_add_right _ _, by omega⟩
theorem xfs_at (g : xG) (F : xF) (a : Nat) (fs : List (Option Value)) (k : Nat) : (xfs g F a fs)[k]? = (fs[k]?).map (xfv g F a k) := by
  unfold xfs
  rw [List.getElem?_mapIdx]
theorem xfs_len (g : xG) (F : xF) (a : Nat) (fs : List (Option Value)) : (xfs g F a fs).length = fs.length := by
  unfold xfs
  rw [List.length_mapIdx]
theorem xc_row {g : xG} {F F' : xF} {G G' : xL} {k : Nat} (o : xO) (hF : F' k = F k) (hG : G' k = G k) : xc g F' G' k o = xc g F G k o := by
  rcases o with ⟨t, n⟩ | ⟨t, rs⟩ | ⟨ci, fs⟩
  · simp only [xc, hF, hG]
  · rfl
  · simp only [xc]
    congr 2
    apply List.ext_getElem?
    intro j
    rw [xfs_at, xfs_at]
    cases fs[j]? with
    | none => rfl
    | some o => cases o <;> simp [xfv, hF]
/-- a world in which one cell differs -/
theorem xw_set {g : xG} {F F' : xF} {G G' : xL} {S S' : List xO} {a : Nat} {e : va_E} {o' : xO} (hS : S' = S.set a o') (hl : a < S.length) (he : xc g F' G' a o' = e) (hF : ∀ i, i ≠ a → F' i = F i) (hG : ∀ i, i ≠ a → G' i = G i) : (xw g F G S).set a (g.1 + a, e) = xw g F' G' S' := by
  subst hS
  subst he
  apply List.ext_getElem?
  intro i
  rw [xw_at]
  by_cases h : i = a
  · subst h
    have h1 : i < (xw g F G S).length := by unfold xw; rw [List.length_mapIdx]; exact hl
    rw [List.getElem?_set_self h1, List.getElem?_set_self hl]
    rfl
  · rw [List.getElem?_set_ne (Ne.symm h), List.getElem?_set_ne (Ne.symm h), xw_at]
    cases S[i]? with
    | none => rfl
    | some o => simp only [Option.map_some]; rw [xc_row o (hF i h) (hG i h)]
theorem set_same {α : Type} {S : List α} {a : Nat} {o : α} (h : S[a]? = some o) : S = S.set a o := by
  apply List.ext_getElem?
  intro i
  by_cases hi : i = a
  · subst hi
    rw [List.getElem?_set_self (List.getElem?_eq_some_iff.mp h).1, h]
  · rw [List.getElem?_set_ne (Ne.symm hi)]
/-- a number of an object is another one -/
theorem xw_putF {g : xG} {F : xF} {G : xL} {S : List xO} {a k ci : Nat} {fs : List (Option Value)} (v : Int32) (h : S[a]? = some (.inr (.inr (ci, fs)))) (hf : fs[k]? = some none) : (xw g F G S).set a (g.1 + a, .inr (ci, (xfs g F a fs).set k (.int v))) = xw g (up2 F a k v) G S := by
  refine xw_set (set_same h) (List.getElem?_eq_some_iff.mp h).1 ?_ (fun i hi => up2_row F a k v hi) (fun i _ => rfl)
  simp only [xc]
  congr 2
  apply List.ext_getElem?
  intro j
  have hl : k < (xfs g F a fs).length := by rw [xfs_len]; exact (List.getElem?_eq_some_iff.mp hf).1
  by_cases hj : j = k
  · subst hj
    rw [List.getElem?_set_self hl, xfs_at, hf]
    simp [xfv, up2_eq]
  · rw [List.getElem?_set_ne (Ne.symm hj), xfs_at, xfs_at]
    cases fs[j]? with
    | none => rfl
    | some o => cases o <;> simp [xfv, up2_ne F a k v (Or.inr hj)]
/-- a reference of an object is another one (constructors) -/
theorem xw_putR {g : xG} {F : xF} {G : xL} {S : List xO} {a k ci : Nat} {fs : List (Option Value)} (v : Value) (h : S[a]? = some (.inr (.inr (ci, fs)))) (hf : k < fs.length) : (xw g F G S).set a (g.1 + a, .inr (ci, (xfs g F a fs).set k (xv g v))) = xw g F G (S.set a (.inr (.inr (ci, fs.set k (some v))))) := by
  refine xw_set rfl (List.getElem?_eq_some_iff.mp h).1 ?_ (fun i _ => rfl) (fun i _ => rfl)
  simp only [xc]
  congr 2
  apply List.ext_getElem?
  intro j
  have hl : k < (xfs g F a fs).length := by rw [xfs_len]; exact hf
  by_cases hj : j = k
  · subst hj
    rw [List.getElem?_set_self hl, xfs_at, List.getElem?_set_self hf]
    rfl
  · rw [List.getElem?_set_ne (Ne.symm hj), xfs_at, xfs_at, List.getElem?_set_ne (Ne.symm hj)]
theorem xw_putA {g : xG} {F : xF} {G : xL} {S : List xO} {a n t : Nat} (ht : t ≠ 1) (j : Nat) (v : Int32) (h : S[a]? = some (.inl (t, n))) : (xw g F G S).set a (g.1 + a, .inl (g.2.2.1 t, n, .inl (upd (F a) j v))) = xw g (up2 F a j v) G S := by
  refine xw_set (set_same h) (List.getElem?_eq_some_iff.mp h).1 ?_ (fun i hi => up2_row F a j v hi) (fun i _ => rfl)
  simp only [xc, if_neg ht]
  congr 4
  funext i
  simp [up2, upd]
theorem xw_putL {g : xG} {F : xF} {G : xL} {S : List xO} {a n : Nat} (j : Nat) (v : Int64) (h : S[a]? = some (.inl (1, n))) : (xw g F G S).set a (g.1 + a, .inl (g.2.2.1 1, n, .inr (.inl (vp_updL (G a) j v)))) = xw g F (up2 G a j v) S := by
  refine xw_set (set_same h) (List.getElem?_eq_some_iff.mp h).1 ?_ (fun i _ => rfl) (fun i hi => up2_row G a j v hi)
  simp only [xc, if_pos]
  congr 5
  funext i
  simp [up2, vp_updL]
/-- a whole row of numbers is another one -/
def upR {α : Type} (F : Nat → α) (a : Nat) (f : α) : Nat → α := fun i => if i = a then f else F i
theorem upR_eq {α : Type} (F : Nat → α) (a : Nat) (f : α) : upR F a f a = f := by simp [upR]
theorem upR_ne {α : Type} (F : Nat → α) (a : Nat) (f : α) {i : Nat} (h : i ≠ a) : upR F a f i = F i := by simp [upR, h]
theorem xw_putRow {g : xG} {F : xF} {G : xL} {S : List xO} {a n : Nat} (f : Nat → Int32) (h : S[a]? = some (.inl (0, n))) : (xw g F G S).set a (g.1 + a, .inl (g.2.2.1 0, n, .inl f)) = xw g (upR F a f) G S := by
  refine xw_set (set_same h) (List.getElem?_eq_some_iff.mp h).1 ?_ (fun i hi => upR_ne F a f hi) (fun i _ => rfl)
  simp only [xc, upR_eq]
  rfl
/-- a new cell -/
theorem xw_push (g : xG) (F : xF) (G : xL) (S : List xO) (o : xO) : xw g F G S ++ [(g.1 + S.length, xc g F G S.length o)] = xw g F G (S ++ [o]) := by
  unfold xw
  rw [List.mapIdx_append]
  simp
/-- fresh rows of numbers -/
theorem xw_fresh {g : xG} {F F' : xF} {G G' : xL} {S : List xO} (hF : ∀ i, i < S.length → F' i = F i) (hG : ∀ i, i < S.length → G' i = G i) : xw g F G S = xw g F' G' S := by
  apply List.ext_getElem?
  intro i
  rw [xw_at, xw_at]
  cases h : S[i]? with
  | none => rfl
  | some o =>
    have hi := (List.getElem?_eq_some_iff.mp h).1
    simp only [Option.map_some]
    rw [xc_row o (hF i hi) (hG i hi)]
/-! locals: a list of what is known of each -/
def xlg : List (Option Value) → Nat → Option Value
  | [], _ => none
  | o :: _, 0 => o
  | _ :: r, n + 1 => xlg r n
def xls : List (Option Value) → Nat → Value → List (Option Value)
  | [], _, _ => []
  | _ :: r, 0, v => some v :: r
  | o :: r, n + 1, v => o :: xls r n v
/-- what is stored at k tears no long apart -/
def xl1 (lv : List (Option Value)) (k : Nat) : Bool := match k with
  | 0 => true
  | j + 1 => match xlg lv j with
    | some v => v.category == 1
    | none => true
def xal (g : xG) : Nat → List (Option Value) → List (Nat × Value)
  | _, [] => []
  | i, none :: r => xal g (i + 1) r
  | i, some v :: r => (i, xv g v) :: xal g (i + 1) r
theorem xal_ge {g : xG} : ∀ (lv : List (Option Value)) (i : Nat) (q : Nat × Value), q ∈ xal g i lv → i ≤ q.1
  | [], _, _, h => by simp [xal] at h
  | none :: r, i, q, h => by
    have := xal_ge r (i + 1) q h
    omega
  | some v :: r, i, q, h => by
    rcases List.mem_cons.mp h with h | h
    · subst h; exact Nat.le_refl _
    · have := xal_ge r (i + 1) q h
      omega
theorem xal_get {g : xG} : ∀ (lv : List (Option Value)) (i k : Nat) (v : Value), xlg lv k = some v → (i + k, xv g v) ∈ xal g i lv
  | [], _, _, _, h => by simp [xlg] at h
  | none :: r, i, 0, v, h => by simp [xlg] at h
  | some w :: r, i, 0, v, h => by
    simp only [xlg, Option.some.injEq] at h
    subst h
    exact List.mem_cons_self
  | none :: r, i, k + 1, v, h => by
    have := xal_get (g := g) r (i + 1) k v h
    rw [show i + (k + 1) = i + 1 + k by omega]
    exact this
  | some w :: r, i, k + 1, v, h => by
    have := xal_get (g := g) r (i + 1) k v h
    rw [show i + (k + 1) = i + 1 + k by omega]
    exact List.mem_cons_of_mem _ this
theorem xal_inv {g : xG} : ∀ (lv : List (Option Value)) (i : Nat) (q : Nat × Value), q ∈ xal g i lv → ∃ k v, q = (i + k, xv g v) ∧ xlg lv k = some v
  | [], _, _, h => by simp [xal] at h
  | none :: r, i, q, h => by
    obtain ⟨k, v, h1, h2⟩ := xal_inv r (i + 1) q h
    exact ⟨k + 1, v, by rw [h1]; congr 1; omega, h2⟩
  | some w :: r, i, q, h => by
    rcases List.mem_cons.mp h with h | h
    · exact ⟨0, w, h, rfl⟩
    · obtain ⟨k, v, h1, h2⟩ := xal_inv r (i + 1) q h
      exact ⟨k + 1, v, by rw [h1]; congr 1; omega, h2⟩
theorem xal_put {g : xG} : ∀ (lv : List (Option Value)) (i k : Nat) (v : Value) (q : Nat × Value), q ∈ xal g i (xls lv k v) → q = (i + k, xv g v) ∨ (q ∈ xal g i lv ∧ q.1 ≠ i + k)
  | [], _, _, _, _, h => by simp [xls, xal] at h
  | none :: r, i, 0, v, q, h => by
    rcases List.mem_cons.mp h with h | h
    · exact Or.inl h
    · have := xal_ge r (i + 1) q h
      exact Or.inr ⟨h, by omega⟩
  | some w :: r, i, 0, v, q, h => by
    rcases List.mem_cons.mp h with h | h
    · exact Or.inl h
    · have := xal_ge r (i + 1) q h
      exact Or.inr ⟨List.mem_cons_of_mem _ h, by omega⟩
  | none :: r, i, k + 1, v, q, h => by
    have h1 : q ∈ xal g (i + 1) (xls r k v) := h
    rcases xal_put r (i + 1) k v q h1 with h2 | ⟨h2, h3⟩
    · left; rw [h2]; congr 1; omega
    · right; exact ⟨h2, by omega⟩
  | some w :: r, i, k + 1, v, q, h => by
    rcases List.mem_cons.mp h with h | h
    · right
      subst h
      exact ⟨List.mem_cons_self, by omega⟩
    · have h1 : q ∈ xal g (i + 1) (xls r k v) := h
      rcases xal_put r (i + 1) k v q h1 with h2 | ⟨h2, h3⟩
      · left; rw [h2]; congr 1; omega
      · right; exact ⟨List.mem_cons_of_mem _ h2, by omega⟩
def xl (g : xG) (ls : Array Slot) (nL : Nat) (lv : List (Option Value)) : Prop := lv_has ls nL (xal g 0 lv)
theorem xl.get {g : xG} {ls : Array Slot} {nL : Nat} {lv : List (Option Value)} (h : xl g ls nL lv) {k : Nat} {v : Value} (hk : xlg lv k = some v) : ls[k]? = some (.val (xv g v)) := by
  have := h.2.2 _ (xal_get lv 0 k v hk)
  simpa using this
theorem xl.sub {g : xG} {ls : Array Slot} {nL : Nat} {l l' : List (Nat × Value)} (h : lv_has ls nL l) (hs : ∀ q, q ∈ l' → q ∈ l) : lv_has ls nL l' := ⟨h.1, h.2.1, fun q hq => h.2.2 q (hs q hq)⟩
theorem xl.put {g : xG} {ls' : Array Slot} {nL k : Nat} {lv : List (Option Value)} {v : Value} (hc : xl1 lv k = true) (h : lv_has ls' nL ((k, xv g v) :: (xal g 0 lv).filter (fun q => !(q.1 == k) && !(q.1 + 1 == k && q.2.category == 2)))) : xl g ls' nL (xls lv k v) := by
  refine xl.sub (g := g) h (fun q hq => ?_)
  rcases xal_put lv 0 k v q hq with h1 | ⟨h1, h2⟩
  · rw [h1, Nat.zero_add]; exact List.mem_cons_self
  · refine List.mem_cons_of_mem _ (List.mem_filter.mpr ⟨h1, ?_⟩)
    have h4 : q.1 ≠ k := by omega
    obtain ⟨j, v2, h5, h6⟩ := xal_inv lv 0 q h1
    subst h5
    by_cases h7 : 0 + j + 1 = k
    · subst h7
      have h8 : v2.category = 1 := by
        have := hc
        simp only [xl1, Nat.zero_add, h6, beq_iff_eq] at this
        exact this
      have h9 : (xv g v2).category = 1 := by rw [xv_cat]; exact h8
      simp [h9]
    · have h10 : ¬ j = k := by simpa using h4
      have h11 : ¬ j + 1 = k := by simpa using h7
      simp [h10, h11]
theorem xl.weak {g : xG} {ls : Array Slot} {nL : Nat} {lv lv' : List (Option Value)} (h : xl g ls nL lv) (hs : ∀ k v, xlg lv' k = some v → xlg lv k = some v) : xl g ls nL lv' := by
  refine xl.sub (g := g) h (fun q hq => ?_)
  obtain ⟨k, v, h1, h2⟩ := xal_inv lv' 0 q hq
  have := xal_get (g := g) lv 0 k v (hs k v h2)
  rw [h1]
  exact this
/-- a long is stored -/
def xls2 : List (Option Value) → Nat → Value → List (Option Value)
  | [], _, _ => []
  | [_], 0, v => [some v]
  | _ :: _ :: r, 0, v => some v :: none :: r
  | o :: r, n + 1, v => o :: xls2 r n v
theorem xal_put2 {g : xG} : ∀ (lv : List (Option Value)) (i k : Nat) (v : Value) (q : Nat × Value), q ∈ xal g i (xls2 lv k v) → q = (i + k, xv g v) ∨ (q ∈ xal g i lv ∧ q.1 ≠ i + k ∧ q.1 ≠ i + k + 1)
  | [], _, _, _, _, h => by simp [xls2, xal] at h
  | [o], i, 0, v, q, h => by
    simp [xls2, xal] at h
    exact Or.inl h
  | o :: o2 :: r, i, 0, v, q, h => by
    have h0 : q ∈ (i, xv g v) :: xal g (i + 1 + 1) r := h
    rcases List.mem_cons.mp h0 with hh | hh
    · exact Or.inl hh
    · have h1 := xal_ge r (i + 1 + 1) q hh
      have h2 : q ∈ xal g i (o :: o2 :: r) := by
        have h3 : q ∈ xal g (i + 1) (o2 :: r) := by
          cases o2 with
          | none => exact hh
          | some w => exact List.mem_cons_of_mem _ hh
        cases o with
        | none => exact h3
        | some w => exact List.mem_cons_of_mem _ h3
      exact Or.inr ⟨h2, by omega, by omega⟩
  | none :: r, i, k + 1, v, q, h => by
    have h1 : q ∈ xal g (i + 1) (xls2 r k v) := by
      cases r <;> exact h
    rcases xal_put2 r (i + 1) k v q h1 with h2 | ⟨h2, h3, h4⟩
    · left; rw [h2]; congr 1; omega
    · right; exact ⟨h2, by omega, by omega⟩
  | some w :: r, i, k + 1, v, q, h => by
    have h0 : q ∈ (i, xv g w) :: xal g (i + 1) (xls2 r k v) := by
      cases r <;> exact h
    rcases List.mem_cons.mp h0 with h | h
    · right
      subst h
      exact ⟨List.mem_cons_self, by omega, by omega⟩
    · rcases xal_put2 r (i + 1) k v q h with h2 | ⟨h2, h3, h4⟩
      · left; rw [h2]; congr 1; omega
      · right; exact ⟨List.mem_cons_of_mem _ h2, by omega, by omega⟩
theorem xl.put2 {g : xG} {ls' : Array Slot} {nL k : Nat} {lv : List (Option Value)} {v : Value} (hc : xl1 lv k = true) (h : lv_has ls' nL ((k, xv g v) :: (xal g 0 lv).filter (fun q => !(q.1 == k) && (!(q.1 == k + 1) && !(q.1 + 1 == k && q.2.category == 2))))) : xl g ls' nL (xls2 lv k v) := by
  refine xl.sub (g := g) h (fun q hq => ?_)
  rcases xal_put2 lv 0 k v q hq with h1 | ⟨h1, h2, h3⟩
  · rw [h1, Nat.zero_add]; exact List.mem_cons_self
  · refine List.mem_cons_of_mem _ (List.mem_filter.mpr ⟨h1, ?_⟩)
    obtain ⟨j, v2, h5, h6⟩ := xal_inv lv 0 q h1
    subst h5
    have h10 : ¬ j = k := by simpa using h2
    have h12 : ¬ j = k + 1 := by simpa using h3
    by_cases h7 : j + 1 = k
    · subst h7
      have h8 : v2.category = 1 := by
        have := hc
        simp only [xl1, h6, beq_iff_eq] at this
        exact this
      have h9 : (xv g v2).category = 1 := by rw [xv_cat]; exact h8
      simp [h9, h12]
    · simp [h10, h12, h7]
theorem xTy0 (g : xG) : (xTy g.2.2.1)[0]? = some (g.2.2.1 0, .int) := rfl
theorem xTy1 (g : xG) : (xTy g.2.2.1)[1]? = some (g.2.2.1 1, .long) := rfl
theorem xTy2 (g : xG) : (xTy g.2.2.1)[2]? = some (g.2.2.1 2, .object "PaletteFrames$Frame") := rfl
theorem xTy3 (g : xG) : (xTy g.2.2.1)[3]? = some (g.2.2.1 3, .byte) := rfl
/-- the law's start, as a ghost: what its tables and statics said then; the heap below the world is as it was -/
def xTh (g : xG) (U : State) : Prop := ∃ u0 : State, (∀ w ∈ lw_tbl, w.before #[Value.ref g.2.1] u0 = true) ∧ (Jvm.Cond.and given_1 narrow_1).before #[Value.ref g.2.1] u0 = true ∧ u0.WarmedH U.vm ∧ u0.heap.size = g.1 ∧ ∀ q : Nat, q < g.1 → U.heap[q]? = u0.heap[q]?
theorem xTh.at {g : xG} {u U : State} (hW : u.WarmedH U.vm) (hh : ∀ q : Nat, q < g.1 → U.heap[q]? = u.heap[q]?) (h : xTh g u) : xTh g U := by
  obtain ⟨u0, a1, a2, a3, a4, a5⟩ := h
  exact ⟨u0, a1, a2, State.WarmedH.trans a3 hW, a4, fun q hq => (hh q hq).trans (a5 q hq)⟩
def xK (g : xG) (U : State) : Prop := va_K g.2.2.2 xCl (xTy g.2.2.1) U ∧ xNW U ∧ xTh g U
/-- what a field's link needs of the tables -/
def xFl (own : String) (idx ci k : Nat) : Prop := ∃ q : vw_C, xCl[ci]? = some q ∧ k < q.2.2 ∧ (∀ w ∈ u_ws q.1 q.2.1 q.2.2, w ∈ xGT) ∧ (Cond.fieldLink own idx (q.2.1 k).1 (q.2.1 k).2.1 (q.2.1 k).2.2.1 ∈ xGT ∨ ∃ host, Cond.fieldLinkNest own idx (q.2.1 k).1 (q.2.1 k).2.1 (q.2.1 k).2.2.1 host ∈ xNT)
def xFt (ci : Nat) : Prop := ∃ (q : vw_C) (t0 : Nat → FieldType), xCl[ci]? = some q ∧ (∀ k, k < q.2.2 → parseFieldDescriptor (q.2.1 k).2.2.1 = some (t0 k)) ∧ ∀ a, a < q.2.2 → ∀ b, b < q.2.2 → a ≠ b → (q.2.1 a).2.1 ≠ (q.2.1 b).2.1
def xFI (ci k : Nat) : Prop := ∃ q : vw_C, xCl[ci]? = some q ∧ (q.2.1 k).2.2.2 = false ∧ (q.2.1 k).2.2.1 = "I"
def xFIF (own : String) (idx ci k : Nat) : Prop := ∃ q : vw_C, xCl[ci]? = some q ∧ (q.2.1 k).2.2.2 = true ∧ (q.2.1 k).2.2.1 = "I" ∧ (q.2.1 k).1 = own ∧ Cond.fieldLink own idx (q.2.1 k).1 (q.2.1 k).2.1 (q.2.1 k).2.2.1 ∈ xGT
end
section
section XV
variable {p : Program} {l : Launch} {e : Env} {R : Room} {s : State} {m : MethodId} {args : Array Value} {below : List Frame} {meth : Method} {c : Code} {Q : State → Prop}
variable {cc : ByteArray} {nL : Nat} {own : String} {g : xG} {S : List xO} {F : xF} {G : xL} {cells slots pc : Nat} {lv : List (Option Value)} {st : List Value}
/-- what holds all through a method's run -/
def Cx (p : Program) (s : State) (m : MethodId) (args : Array Value) (meth : Method) (c : Code) (cc : ByteArray) (nL : Nat) (own : String) (g : xG) : Prop :=
  p.tables.exec = Jvm.exec ∧ c.code = cc ∧ c.maxLocals = nL ∧ s.vm.findClass own = some m.cls ∧ (∀ w ∈ xGT, w.before args s = true) ∧ xK g s ∧ meth.locks = false ∧ g.1 ≤ s.heap.size
theorem Cx.x (C : Cx p s m args meth c cc nL own g) : p.tables.exec = Jvm.exec := C.1
theorem Cx.b (C : Cx p s m args meth c cc nL own g) : c.code = cc := C.2.1
theorem Cx.ml (C : Cx p s m args meth c cc nL own g) : c.maxLocals = nL := C.2.2.1
theorem Cx.ow (C : Cx p s m args meth c cc nL own g) : s.vm.findClass own = some m.cls := C.2.2.2.1
theorem Cx.ts (C : Cx p s m args meth c cc nL own g) : ∀ w ∈ xGT, w.before args s = true := C.2.2.2.2.1
theorem Cx.k (C : Cx p s m args meth c cc nL own g) : va_K g.2.2.2 xCl (xTy g.2.2.1) s := C.2.2.2.2.2.1.1
theorem Cx.nw (C : Cx p s m args meth c cc nL own g) : xNW s := C.2.2.2.2.2.1.2.1
theorem Cx.th (C : Cx p s m args meth c cc nL own g) : xTh g s := C.2.2.2.2.2.1.2.2
theorem Cx.kk (C : Cx p s m args meth c cc nL own g) : xK g s := C.2.2.2.2.2.1
theorem Cx.lk (C : Cx p s m args meth c cc nL own g) : meth.locks = false := C.2.2.2.2.2.2.1
theorem Cx.hz (C : Cx p s m args meth c cc nL own g) : g.1 ≤ s.heap.size := C.2.2.2.2.2.2.2
/-- from every heap that holds the abstract world: the machine comes to Q -/
def V (p : Program) (l : Launch) (e : Env) (R : Room) (s : State) (m : MethodId) (args : Array Value) (below : List Frame) (meth : Method) (c : Code) (Q : State → Prop) (nL : Nat) (g : xG) (S : List xO) (F : xF) (G : xL) (cells slots pc : Nat) (lv : List (Option Value)) (st : List Value) : Prop :=
  ∀ (H : Heap) (locs : List Loc) (ls : Array Slot), S.length ≤ xKK → va_P g.2.2.2 xCl (xw g F G S) H → va_S (xA g) s.heap H locs → xl g ls nL lv → W p l e R s m args below meth c H locs cells slots Q (F0 m pc ls (st.map (xv g)))

theorem V.iadd (C : Cx p s m args meth c cc nL own g) {x1 y1 : Int32} (hd : decode cc pc = .ok (.iadd, 1)) (kk : V p l e R s m args below meth c Q nL g S F G cells slots (pc + 1) lv (.int (x1 + y1) :: st)) : V p l e R s m args below meth c Q nL g S F G cells slots pc lv (.int y1 :: .int x1 :: st) := fun H locs ls h1 h2 h3 h4 => lv_iadd C.x C.b hd (kk H locs ls h1 h2 h3 h4)
theorem V.isub (C : Cx p s m args meth c cc nL own g) {x1 y1 : Int32} (hd : decode cc pc = .ok (.isub, 1)) (kk : V p l e R s m args below meth c Q nL g S F G cells slots (pc + 1) lv (.int (x1 - y1) :: st)) : V p l e R s m args below meth c Q nL g S F G cells slots pc lv (.int y1 :: .int x1 :: st) := fun H locs ls h1 h2 h3 h4 => lv_isub C.x C.b hd (kk H locs ls h1 h2 h3 h4)
theorem V.imul (C : Cx p s m args meth c cc nL own g) {x1 y1 : Int32} (hd : decode cc pc = .ok (.imul, 1)) (kk : V p l e R s m args below meth c Q nL g S F G cells slots (pc + 1) lv (.int (x1 * y1) :: st)) : V p l e R s m args below meth c Q nL g S F G cells slots pc lv (.int y1 :: .int x1 :: st) := fun H locs ls h1 h2 h3 h4 => lv_imul C.x C.b hd (kk H locs ls h1 h2 h3 h4)
theorem V.iand (C : Cx p s m args meth c cc nL own g) {x1 y1 : Int32} (hd : decode cc pc = .ok (.iand, 1)) (kk : V p l e R s m args below meth c Q nL g S F G cells slots (pc + 1) lv (.int (x1 &&& y1) :: st)) : V p l e R s m args below meth c Q nL g S F G cells slots pc lv (.int y1 :: .int x1 :: st) := fun H locs ls h1 h2 h3 h4 => lv_iand C.x C.b hd (kk H locs ls h1 h2 h3 h4)
theorem V.ior (C : Cx p s m args meth c cc nL own g) {x1 y1 : Int32} (hd : decode cc pc = .ok (.ior, 1)) (kk : V p l e R s m args below meth c Q nL g S F G cells slots (pc + 1) lv (.int (x1 ||| y1) :: st)) : V p l e R s m args below meth c Q nL g S F G cells slots pc lv (.int y1 :: .int x1 :: st) := fun H locs ls h1 h2 h3 h4 => lv_ior C.x C.b hd (kk H locs ls h1 h2 h3 h4)
theorem V.ixor (C : Cx p s m args meth c cc nL own g) {x1 y1 : Int32} (hd : decode cc pc = .ok (.ixor, 1)) (kk : V p l e R s m args below meth c Q nL g S F G cells slots (pc + 1) lv (.int (x1 ^^^ y1) :: st)) : V p l e R s m args below meth c Q nL g S F G cells slots pc lv (.int y1 :: .int x1 :: st) := fun H locs ls h1 h2 h3 h4 => lv_ixor C.x C.b hd (kk H locs ls h1 h2 h3 h4)
theorem V.ishl (C : Cx p s m args meth c cc nL own g) {x1 y1 : Int32} (hd : decode cc pc = .ok (.ishl, 1)) (kk : V p l e R s m args below meth c Q nL g S F G cells slots (pc + 1) lv (.int (x1 <<< (y1 &&& 31)) :: st)) : V p l e R s m args below meth c Q nL g S F G cells slots pc lv (.int y1 :: .int x1 :: st) := fun H locs ls h1 h2 h3 h4 => lv_ishl C.x C.b hd (kk H locs ls h1 h2 h3 h4)
theorem V.ishr (C : Cx p s m args meth c cc nL own g) {x1 y1 : Int32} (hd : decode cc pc = .ok (.ishr, 1)) (kk : V p l e R s m args below meth c Q nL g S F G cells slots (pc + 1) lv (.int (x1 >>> (y1 &&& 31)) :: st)) : V p l e R s m args below meth c Q nL g S F G cells slots pc lv (.int y1 :: .int x1 :: st) := fun H locs ls h1 h2 h3 h4 => lv_ishr C.x C.b hd (kk H locs ls h1 h2 h3 h4)
theorem V.iushr (C : Cx p s m args meth c cc nL own g) {x1 y1 : Int32} (hd : decode cc pc = .ok (.iushr, 1)) (kk : V p l e R s m args below meth c Q nL g S F G cells slots (pc + 1) lv (.int ((x1.toUInt32 >>> (y1.toUInt32 &&& Int32.toUInt32 31)).toInt32) :: st)) : V p l e R s m args below meth c Q nL g S F G cells slots pc lv (.int y1 :: .int x1 :: st) := fun H locs ls h1 h2 h3 h4 => lv_iushr C.x C.b hd rfl (kk H locs ls h1 h2 h3 h4)
theorem V.idiv (C : Cx p s m args meth c cc nL own g) {x1 y1 : Int32} (hne : ¬ y1 = 0) (hd : decode cc pc = .ok (.idiv, 1)) (kk : V p l e R s m args below meth c Q nL g S F G cells slots (pc + 1) lv (.int (x1 / y1) :: st)) : V p l e R s m args below meth c Q nL g S F G cells slots pc lv (.int y1 :: .int x1 :: st) := fun H locs ls h1 h2 h3 h4 => lv_idiv C.x C.b hd hne (kk H locs ls h1 h2 h3 h4)
theorem V.irem (C : Cx p s m args meth c cc nL own g) {x1 y1 : Int32} (hne : ¬ y1 = 0) (hd : decode cc pc = .ok (.irem, 1)) (kk : V p l e R s m args below meth c Q nL g S F G cells slots (pc + 1) lv (.int (x1 - x1 / y1 * y1) :: st)) : V p l e R s m args below meth c Q nL g S F G cells slots pc lv (.int y1 :: .int x1 :: st) := fun H locs ls h1 h2 h3 h4 => lv_irem C.x C.b hd hne (kk H locs ls h1 h2 h3 h4)
theorem V.lrem (C : Cx p s m args meth c cc nL own g) {x1 y1 : Int64} (hne : ¬ y1 = 0) (hd : decode cc pc = .ok (.lrem, 1)) (kk : V p l e R s m args below meth c Q nL g S F G cells slots (pc + 1) lv (.long (x1 - x1 / y1 * y1) :: st)) : V p l e R s m args below meth c Q nL g S F G cells slots pc lv (.long y1 :: .long x1 :: st) := fun H locs ls h1 h2 h3 h4 => lv_lrem C.x C.b hd hne (kk H locs ls h1 h2 h3 h4)
theorem V.ineg (C : Cx p s m args meth c cc nL own g) {x1 : Int32} (hd : decode cc pc = .ok (.ineg, 1)) (kk : V p l e R s m args below meth c Q nL g S F G cells slots (pc + 1) lv (.int (-x1) :: st)) : V p l e R s m args below meth c Q nL g S F G cells slots pc lv (.int x1 :: st) := fun H locs ls h1 h2 h3 h4 => lv_ineg C.x C.b hd (kk H locs ls h1 h2 h3 h4)
theorem V.ladd (C : Cx p s m args meth c cc nL own g) {x1 y1 : Int64} (hd : decode cc pc = .ok (.ladd, 1)) (kk : V p l e R s m args below meth c Q nL g S F G cells slots (pc + 1) lv (.long (x1 + y1) :: st)) : V p l e R s m args below meth c Q nL g S F G cells slots pc lv (.long y1 :: .long x1 :: st) := fun H locs ls h1 h2 h3 h4 => lv_ladd C.x C.b hd (kk H locs ls h1 h2 h3 h4)
theorem V.lsub (C : Cx p s m args meth c cc nL own g) {x1 y1 : Int64} (hd : decode cc pc = .ok (.lsub, 1)) (kk : V p l e R s m args below meth c Q nL g S F G cells slots (pc + 1) lv (.long (x1 - y1) :: st)) : V p l e R s m args below meth c Q nL g S F G cells slots pc lv (.long y1 :: .long x1 :: st) := fun H locs ls h1 h2 h3 h4 => lv_lsub C.x C.b hd (kk H locs ls h1 h2 h3 h4)
theorem V.lmul (C : Cx p s m args meth c cc nL own g) {x1 y1 : Int64} (hd : decode cc pc = .ok (.lmul, 1)) (kk : V p l e R s m args below meth c Q nL g S F G cells slots (pc + 1) lv (.long (x1 * y1) :: st)) : V p l e R s m args below meth c Q nL g S F G cells slots pc lv (.long y1 :: .long x1 :: st) := fun H locs ls h1 h2 h3 h4 => lv_lmul C.x C.b hd (kk H locs ls h1 h2 h3 h4)
theorem V.land (C : Cx p s m args meth c cc nL own g) {x1 y1 : Int64} (hd : decode cc pc = .ok (.land, 1)) (kk : V p l e R s m args below meth c Q nL g S F G cells slots (pc + 1) lv (.long (x1 &&& y1) :: st)) : V p l e R s m args below meth c Q nL g S F G cells slots pc lv (.long y1 :: .long x1 :: st) := fun H locs ls h1 h2 h3 h4 => lv_land C.x C.b hd (kk H locs ls h1 h2 h3 h4)
theorem V.lor (C : Cx p s m args meth c cc nL own g) {x1 y1 : Int64} (hd : decode cc pc = .ok (.lor, 1)) (kk : V p l e R s m args below meth c Q nL g S F G cells slots (pc + 1) lv (.long (x1 ||| y1) :: st)) : V p l e R s m args below meth c Q nL g S F G cells slots pc lv (.long y1 :: .long x1 :: st) := fun H locs ls h1 h2 h3 h4 => lv_lor C.x C.b hd (kk H locs ls h1 h2 h3 h4)
theorem V.lxor (C : Cx p s m args meth c cc nL own g) {x1 y1 : Int64} (hd : decode cc pc = .ok (.lxor, 1)) (kk : V p l e R s m args below meth c Q nL g S F G cells slots (pc + 1) lv (.long (x1 ^^^ y1) :: st)) : V p l e R s m args below meth c Q nL g S F G cells slots pc lv (.long y1 :: .long x1 :: st) := fun H locs ls h1 h2 h3 h4 => lv_lxor C.x C.b hd (kk H locs ls h1 h2 h3 h4)
theorem V.lcmp (C : Cx p s m args meth c cc nL own g) {x1 y1 : Int64} (hd : decode cc pc = .ok (.lcmp, 1)) (kk : V p l e R s m args below meth c Q nL g S F G cells slots (pc + 1) lv (.int (lg_cmp x1 y1) :: st)) : V p l e R s m args below meth c Q nL g S F G cells slots pc lv (.long y1 :: .long x1 :: st) := fun H locs ls h1 h2 h3 h4 => W.lcmp C.x C.b hd (kk H locs ls h1 h2 h3 h4)
theorem V.i2l (C : Cx p s m args meth c cc nL own g) {x1 : Int32} (hd : decode cc pc = .ok (.i2l, 1)) (kk : V p l e R s m args below meth c Q nL g S F G cells slots (pc + 1) lv (.long x1.toInt64 :: st)) : V p l e R s m args below meth c Q nL g S F G cells slots pc lv (.int x1 :: st) := fun H locs ls h1 h2 h3 h4 => lv_i2l C.x C.b hd rfl (kk H locs ls h1 h2 h3 h4)
theorem V.l2i (C : Cx p s m args meth c cc nL own g) {x1 : Int64} (hd : decode cc pc = .ok (.l2i, 1)) (kk : V p l e R s m args below meth c Q nL g S F G cells slots (pc + 1) lv (.int x1.toInt32 :: st)) : V p l e R s m args below meth c Q nL g S F G cells slots pc lv (.long x1 :: st) := fun H locs ls h1 h2 h3 h4 => lv_l2i C.x C.b hd rfl (kk H locs ls h1 h2 h3 h4)
theorem V.i2b (C : Cx p s m args meth c cc nL own g) {x1 : Int32} (hd : decode cc pc = .ok (.i2b, 1)) (kk : V p l e R s m args below meth c Q nL g S F G cells slots (pc + 1) lv (.int x1.toInt8.toInt32 :: st)) : V p l e R s m args below meth c Q nL g S F G cells slots pc lv (.int x1 :: st) := fun H locs ls h1 h2 h3 h4 => lv_i2b C.x C.b hd rfl (kk H locs ls h1 h2 h3 h4)
theorem V.iconst (C : Cx p s m args meth c cc nL own g) {n : Int} (v : Int32) (hv : Int32.ofInt n = v) (hd : decode cc pc = .ok (.iconst n, 1)) (kk : V p l e R s m args below meth c Q nL g S F G cells slots (pc + 1) lv (.int v :: st)) : V p l e R s m args below meth c Q nL g S F G cells slots pc lv (st) := fun H locs ls h1 h2 h3 h4 => lv_iconst C.x C.b hd hv (kk H locs ls h1 h2 h3 h4)
theorem V.bipush (C : Cx p s m args meth c cc nL own g) {n : Int} (v : Int32) (hv : (Int8.ofInt n).toInt32 = v) (hd : decode cc pc = .ok (.bipush n, 2)) (kk : V p l e R s m args below meth c Q nL g S F G cells slots (pc + 2) lv (.int v :: st)) : V p l e R s m args below meth c Q nL g S F G cells slots pc lv (st) := fun H locs ls h1 h2 h3 h4 => lv_bipush C.x C.b hd hv (kk H locs ls h1 h2 h3 h4)
theorem V.sipush (C : Cx p s m args meth c cc nL own g) {n : Int} (v : Int32) (hv : (Int16.ofInt n).toInt32 = v) (hd : decode cc pc = .ok (.sipush n, 3)) (kk : V p l e R s m args below meth c Q nL g S F G cells slots (pc + 3) lv (.int v :: st)) : V p l e R s m args below meth c Q nL g S F G cells slots pc lv (st) := fun H locs ls h1 h2 h3 h4 => lv_sipush C.x C.b hd hv (kk H locs ls h1 h2 h3 h4)
theorem V.lconst (C : Cx p s m args meth c cc nL own g) {n : Fin 2} (v : Int64) (hv : Int64.ofNat (n : Nat) = v) (hd : decode cc pc = .ok (.lconst n, 1)) (kk : V p l e R s m args below meth c Q nL g S F G cells slots (pc + 1) lv (.long v :: st)) : V p l e R s m args below meth c Q nL g S F G cells slots pc lv (st) := fun H locs ls h1 h2 h3 h4 => lv_lconst C.x C.b hd hv (kk H locs ls h1 h2 h3 h4)
theorem V.ldc (C : Cx p s m args meth c cc nL own g) {idx : Nat} {v : Int32} (hw : Cond.constant own idx v ∈ xGT) (hd : decode cc pc = .ok (.ldc idx, 2)) (kk : V p l e R s m args below meth c Q nL g S F G cells slots (pc + 2) lv (.int v :: st)) : V p l e R s m args below meth c Q nL g S F G cells slots pc lv (st) := fun H locs ls h1 h2 h3 h4 => lv_ldc C.x C.b C.ow (C.ts _ hw) hd (kk H locs ls h1 h2 h3 h4)
theorem V.ldcw (C : Cx p s m args meth c cc nL own g) {idx : Nat} {v : Int32} (hw : Cond.constant own idx v ∈ xGT) (hd : decode cc pc = .ok (.ldc_w idx, 3)) (kk : V p l e R s m args below meth c Q nL g S F G cells slots (pc + 3) lv (.int v :: st)) : V p l e R s m args below meth c Q nL g S F G cells slots pc lv (st) := fun H locs ls h1 h2 h3 h4 => lv_ldcw C.x C.b C.ow (C.ts _ hw) hd (kk H locs ls h1 h2 h3 h4)
theorem V.ldc2 (C : Cx p s m args meth c cc nL own g) {idx : Nat} {v : Int64} (hw : Cond.constantLong own idx v ∈ xGT) (hd : decode cc pc = .ok (.ldc2_w idx, 3)) (kk : V p l e R s m args below meth c Q nL g S F G cells slots (pc + 3) lv (.long v :: st)) : V p l e R s m args below meth c Q nL g S F G cells slots pc lv (st) := fun H locs ls h1 h2 h3 h4 => lv_ldc2 C.x C.b C.ow (C.ts _ hw) hd (kk H locs ls h1 h2 h3 h4)
theorem V.iload_n (C : Cx p s m args meth c cc nL own g) {k : Fin 4} (i : Nat) {v : Int32} (hi : (k : Nat) = i) (hl : xlg lv i = some (.int v)) (hd : decode cc pc = .ok (.iload_n k, 1)) (kk : V p l e R s m args below meth c Q nL g S F G cells slots (pc + 1) lv (.int v :: st)) : V p l e R s m args below meth c Q nL g S F G cells slots pc lv (st) := fun H locs ls h1 h2 h3 h4 => lv_iload_n C.x C.b hd hi (h4.get hl) (kk H locs ls h1 h2 h3 h4)
theorem V.iload (C : Cx p s m args meth c cc nL own g) {i : Nat} {v : Int32} (hl : xlg lv i = some (.int v)) (hd : decode cc pc = .ok (.iload i, 2)) (kk : V p l e R s m args below meth c Q nL g S F G cells slots (pc + 2) lv (.int v :: st)) : V p l e R s m args below meth c Q nL g S F G cells slots pc lv (st) := fun H locs ls h1 h2 h3 h4 => lv_iload C.x C.b hd (h4.get hl) (kk H locs ls h1 h2 h3 h4)
theorem V.aload_n (C : Cx p s m args meth c cc nL own g) {k : Fin 4} (i : Nat) {v : Nat} (hi : (k : Nat) = i) (hl : xlg lv i = some (.ref v)) (hd : decode cc pc = .ok (.aload_n k, 1)) (kk : V p l e R s m args below meth c Q nL g S F G cells slots (pc + 1) lv (.ref v :: st)) : V p l e R s m args below meth c Q nL g S F G cells slots pc lv (st) := fun H locs ls h1 h2 h3 h4 => lv_aload_n C.x C.b hd hi (h4.get hl) (kk H locs ls h1 h2 h3 h4)
theorem V.aload (C : Cx p s m args meth c cc nL own g) {i : Nat} {v : Nat} (hl : xlg lv i = some (.ref v)) (hd : decode cc pc = .ok (.aload i, 2)) (kk : V p l e R s m args below meth c Q nL g S F G cells slots (pc + 2) lv (.ref v :: st)) : V p l e R s m args below meth c Q nL g S F G cells slots pc lv (st) := fun H locs ls h1 h2 h3 h4 => lv_aload C.x C.b hd (h4.get hl) (kk H locs ls h1 h2 h3 h4)
theorem V.lload_n (C : Cx p s m args meth c cc nL own g) {k : Fin 4} (i : Nat) {v : Int64} (hi : (k : Nat) = i) (hl : xlg lv i = some (.long v)) (hd : decode cc pc = .ok (.lload_n k, 1)) (kk : V p l e R s m args below meth c Q nL g S F G cells slots (pc + 1) lv (.long v :: st)) : V p l e R s m args below meth c Q nL g S F G cells slots pc lv (st) := fun H locs ls h1 h2 h3 h4 => lv_lload_n C.x C.b hd hi (h4.get hl) (kk H locs ls h1 h2 h3 h4)
theorem V.lload (C : Cx p s m args meth c cc nL own g) {i : Nat} {v : Int64} (hl : xlg lv i = some (.long v)) (hd : decode cc pc = .ok (.lload i, 2)) (kk : V p l e R s m args below meth c Q nL g S F G cells slots (pc + 2) lv (.long v :: st)) : V p l e R s m args below meth c Q nL g S F G cells slots pc lv (st) := fun H locs ls h1 h2 h3 h4 => lv_lload C.x C.b hd (h4.get hl) (kk H locs ls h1 h2 h3 h4)
theorem V.sload_n (C : Cx p s m args meth c cc nL own g) {k : Fin 4} (i : Nat) {v : UInt32} (hi : (k : Nat) = i) (hl : xlg lv i = some (.float v)) (hd : decode cc pc = .ok (.aload_n k, 1)) (kk : V p l e R s m args below meth c Q nL g S F G cells slots (pc + 1) lv (.float v :: st)) : V p l e R s m args below meth c Q nL g S F G cells slots pc lv (st) := fun H locs ls h1 h2 h3 h4 => lv_aload_n C.x C.b hd hi (h4.get hl) (kk H locs ls h1 h2 h3 h4)
theorem V.sload (C : Cx p s m args meth c cc nL own g) {i : Nat} {v : UInt32} (hl : xlg lv i = some (.float v)) (hd : decode cc pc = .ok (.aload i, 2)) (kk : V p l e R s m args below meth c Q nL g S F G cells slots (pc + 2) lv (.float v :: st)) : V p l e R s m args below meth c Q nL g S F G cells slots pc lv (st) := fun H locs ls h1 h2 h3 h4 => lv_aload C.x C.b hd (h4.get hl) (kk H locs ls h1 h2 h3 h4)
theorem V.dup (C : Cx p s m args meth c cc nL own g) {v : Value} (hv : v.category = 1) (hd : decode cc pc = .ok (.dup, 1)) (kk : V p l e R s m args below meth c Q nL g S F G cells slots (pc + 1) lv (v :: v :: st)) : V p l e R s m args below meth c Q nL g S F G cells slots pc lv (v :: st) := fun H locs ls h1 h2 h3 h4 => lv_dup C.x C.b hd (by rw [xv_cat]; exact hv) (kk H locs ls h1 h2 h3 h4)
theorem V.pop (C : Cx p s m args meth c cc nL own g) {v : Value} (hv : v.category = 1) (hd : decode cc pc = .ok (.pop, 1)) (kk : V p l e R s m args below meth c Q nL g S F G cells slots (pc + 1) lv (st)) : V p l e R s m args below meth c Q nL g S F G cells slots pc lv (v :: st) := fun H locs ls h1 h2 h3 h4 => lv_pop C.x C.b hd (by rw [xv_cat]; exact hv) (kk H locs ls h1 h2 h3 h4)
theorem V.dup_x1 (C : Cx p s m args meth c cc nL own g) {v w : Value} (hv : v.category = 1) (hw : w.category = 1) (hd : decode cc pc = .ok (.dup_x1, 1)) (kk : V p l e R s m args below meth c Q nL g S F G cells slots (pc + 1) lv (v :: w :: v :: st)) : V p l e R s m args below meth c Q nL g S F G cells slots pc lv (v :: w :: st) := fun H locs ls h1 h2 h3 h4 => lv_dup_x1 C.x C.b hd (by rw [xv_cat]; exact hv) (by rw [xv_cat]; exact hw) (kk H locs ls h1 h2 h3 h4)
theorem V.dup_x2 (C : Cx p s m args meth c cc nL own g) {v w u : Value} (hv : v.category = 1) (hw : w.category = 1) (hu : u.category = 1) (hd : decode cc pc = .ok (.dup_x2, 1)) (kk : V p l e R s m args below meth c Q nL g S F G cells slots (pc + 1) lv (v :: w :: u :: v :: st)) : V p l e R s m args below meth c Q nL g S F G cells slots pc lv (v :: w :: u :: st) := fun H locs ls h1 h2 h3 h4 => lv_dup_x2 C.x C.b hd (by rw [xv_cat]; exact hv) (by rw [xv_cat]; exact hw) (by rw [xv_cat]; exact hu) (kk H locs ls h1 h2 h3 h4)
theorem V.dup2 (C : Cx p s m args meth c cc nL own g) {v w : Value} (hv : v.category = 1) (hw : w.category = 1) (hd : decode cc pc = .ok (.dup2, 1)) (kk : V p l e R s m args below meth c Q nL g S F G cells slots (pc + 1) lv (v :: w :: v :: w :: st)) : V p l e R s m args below meth c Q nL g S F G cells slots pc lv (v :: w :: st) := fun H locs ls h1 h2 h3 h4 => lv_dup2_11 C.x C.b hd (by rw [xv_cat]; exact hv) (by rw [xv_cat]; exact hw) (kk H locs ls h1 h2 h3 h4)
theorem V.istore_n (C : Cx p s m args meth c cc nL own g) {k : Fin 4} (i : Nat) (hi : (k : Nat) = i) {v : Int32} (hn : i < nL) (hc : xl1 lv i = true) (hd : decode cc pc = .ok (.istore_n k, 1)) (kk : V p l e R s m args below meth c Q nL g S F G cells slots (pc + 1) (xls lv i (.int v)) st) : V p l e R s m args below meth c Q nL g S F G cells slots pc lv (.int v :: st) := fun H locs ls h1 h2 h3 h4 => lv_istore_n C.x C.b hd hi h4 hn rfl (fun ls2 h5 => kk H locs ls2 h1 h2 h3 (xl.put (v := .int v) hc h5))
theorem V.istore (C : Cx p s m args meth c cc nL own g) {i : Nat} {v : Int32} (hn : i < nL) (hc : xl1 lv i = true) (hd : decode cc pc = .ok (.istore i, 2)) (kk : V p l e R s m args below meth c Q nL g S F G cells slots (pc + 2) (xls lv i (.int v)) st) : V p l e R s m args below meth c Q nL g S F G cells slots pc lv (.int v :: st) := fun H locs ls h1 h2 h3 h4 => lv_istore C.x C.b hd h4 hn rfl (fun ls2 h5 => kk H locs ls2 h1 h2 h3 (xl.put (v := .int v) hc h5))
theorem V.astore_n (C : Cx p s m args meth c cc nL own g) {k : Fin 4} (i : Nat) (hi : (k : Nat) = i) {v : Nat} (hn : i < nL) (hc : xl1 lv i = true) (hd : decode cc pc = .ok (.astore_n k, 1)) (kk : V p l e R s m args below meth c Q nL g S F G cells slots (pc + 1) (xls lv i (.ref v)) st) : V p l e R s m args below meth c Q nL g S F G cells slots pc lv (.ref v :: st) := fun H locs ls h1 h2 h3 h4 => lv_astore_n C.x C.b hd hi h4 hn rfl (fun ls2 h5 => kk H locs ls2 h1 h2 h3 (xl.put (v := .ref v) hc h5))
theorem V.astore (C : Cx p s m args meth c cc nL own g) {i : Nat} {v : Nat} (hn : i < nL) (hc : xl1 lv i = true) (hd : decode cc pc = .ok (.astore i, 2)) (kk : V p l e R s m args below meth c Q nL g S F G cells slots (pc + 2) (xls lv i (.ref v)) st) : V p l e R s m args below meth c Q nL g S F G cells slots pc lv (.ref v :: st) := fun H locs ls h1 h2 h3 h4 => lv_astore C.x C.b hd h4 hn rfl (fun ls2 h5 => kk H locs ls2 h1 h2 h3 (xl.put (v := .ref v) hc h5))
theorem xal_ix {g : xG} : ∀ (lv : List (Option Value)) (i k : Nat) (v : Value), xlg lv k = some v → ∃ j : Nat, (xal g i lv)[j]? = some (i + k, xv g v) := fun lv i k v h => List.getElem?_of_mem (xal_get lv i k v h)
theorem V.iinc (C : Cx p s m args meth c cc nL own g) {i : Nat} {n : Int} {v : Int32} (w : Int32) (hl : xlg lv i = some (.int v)) (hv : Int32.ofInt n = w) (hn : i < nL) (hc : xl1 lv i = true) (hd : decode cc pc = .ok (.iinc i n, 3)) (kk : V p l e R s m args below meth c Q nL g S F G cells slots (pc + 3) (xls lv i (.int (v + w))) st) : V p l e R s m args below meth c Q nL g S F G cells slots pc lv st := by
  intro H locs ls h1 h2 h3 h4
  obtain ⟨j, hj⟩ := xal_ix (g := g) lv 0 i _ hl
  rw [Nat.zero_add] at hj
  exact lv_iinc C.x C.b hd h4 hj (by rw [hv]) hn rfl (fun ls2 h5 => kk H locs ls2 h1 h2 h3 (xl.put (v := .int (v + w)) hc h5))
theorem V.lstore_n (C : Cx p s m args meth c cc nL own g) {k : Fin 4} (i : Nat) (hi : (k : Nat) = i) {v : Int64} (hn : i + 1 < nL) (hc : xl1 lv i = true) (hd : decode cc pc = .ok (.lstore_n k, 1)) (kk : V p l e R s m args below meth c Q nL g S F G cells slots (pc + 1) (xls2 lv i (.long v)) st) : V p l e R s m args below meth c Q nL g S F G cells slots pc lv (.long v :: st) := fun H locs ls h1 h2 h3 h4 => lv_lstore_n C.x C.b hd hi h4 hn rfl (fun ls2 h5 => kk H locs ls2 h1 h2 h3 (xl.put2 (v := .long v) hc h5))
theorem V.lstore (C : Cx p s m args meth c cc nL own g) {i : Nat} {v : Int64} (hn : i + 1 < nL) (hc : xl1 lv i = true) (hd : decode cc pc = .ok (.lstore i, 2)) (kk : V p l e R s m args below meth c Q nL g S F G cells slots (pc + 2) (xls2 lv i (.long v)) st) : V p l e R s m args below meth c Q nL g S F G cells slots pc lv (.long v :: st) := fun H locs ls h1 h2 h3 h4 => lv_lstore C.x C.b hd h4 hn rfl (fun ls2 h5 => kk H locs ls2 h1 h2 h3 (xl.put2 (v := .long v) hc h5))
theorem V.ls0 (C : Cx p s m args meth c cc nL own g) {o0 o1 : Option Value} {r : List (Option Value)} {v : Int64} (hn : 0 + 1 < nL) (hc : xl1 (o0 :: o1 :: r) 0 = true) (hd : decode cc pc = .ok (.lstore_n 0, 1)) (kk : V p l e R s m args below meth c Q nL g S F G cells slots (pc + 1) (some (.long v) :: none :: r) st) : V p l e R s m args below meth c Q nL g S F G cells slots pc (o0 :: o1 :: r) (.long v :: st) := V.lstore_n C 0 rfl hn hc hd kk
theorem V.ls1 (C : Cx p s m args meth c cc nL own g) {o0 o1 o2 : Option Value} {r : List (Option Value)} {v : Int64} (hn : 1 + 1 < nL) (hc : xl1 (o0 :: o1 :: o2 :: r) 1 = true) (hd : decode cc pc = .ok (.lstore_n 1, 1)) (kk : V p l e R s m args below meth c Q nL g S F G cells slots (pc + 1) (o0 :: some (.long v) :: none :: r) st) : V p l e R s m args below meth c Q nL g S F G cells slots pc (o0 :: o1 :: o2 :: r) (.long v :: st) := V.lstore_n C 1 rfl hn hc hd kk
theorem V.ls2 (C : Cx p s m args meth c cc nL own g) {o0 o1 o2 o3 : Option Value} {r : List (Option Value)} {v : Int64} (hn : 2 + 1 < nL) (hc : xl1 (o0 :: o1 :: o2 :: o3 :: r) 2 = true) (hd : decode cc pc = .ok (.lstore_n 2, 1)) (kk : V p l e R s m args below meth c Q nL g S F G cells slots (pc + 1) (o0 :: o1 :: some (.long v) :: none :: r) st) : V p l e R s m args below meth c Q nL g S F G cells slots pc (o0 :: o1 :: o2 :: o3 :: r) (.long v :: st) := V.lstore_n C 2 rfl hn hc hd kk
theorem V.ls3 (C : Cx p s m args meth c cc nL own g) {o0 o1 o2 o3 o4 : Option Value} {r : List (Option Value)} {v : Int64} (hn : 3 + 1 < nL) (hc : xl1 (o0 :: o1 :: o2 :: o3 :: o4 :: r) 3 = true) (hd : decode cc pc = .ok (.lstore_n 3, 1)) (kk : V p l e R s m args below meth c Q nL g S F G cells slots (pc + 1) (o0 :: o1 :: o2 :: some (.long v) :: none :: r) st) : V p l e R s m args below meth c Q nL g S F G cells slots pc (o0 :: o1 :: o2 :: o3 :: o4 :: r) (.long v :: st) := V.lstore_n C 3 rfl hn hc hd kk
theorem V.ls4 (C : Cx p s m args meth c cc nL own g) {o0 o1 o2 o3 o4 o5 : Option Value} {r : List (Option Value)} {v : Int64} (hn : 4 + 1 < nL) (hc : xl1 (o0 :: o1 :: o2 :: o3 :: o4 :: o5 :: r) 4 = true) (hd : decode cc pc = .ok (.lstore 4, 2)) (kk : V p l e R s m args below meth c Q nL g S F G cells slots (pc + 2) (o0 :: o1 :: o2 :: o3 :: some (.long v) :: none :: r) st) : V p l e R s m args below meth c Q nL g S F G cells slots pc (o0 :: o1 :: o2 :: o3 :: o4 :: o5 :: r) (.long v :: st) := V.lstore C hn hc hd kk
theorem V.ls5 (C : Cx p s m args meth c cc nL own g) {o0 o1 o2 o3 o4 o5 o6 : Option Value} {r : List (Option Value)} {v : Int64} (hn : 5 + 1 < nL) (hc : xl1 (o0 :: o1 :: o2 :: o3 :: o4 :: o5 :: o6 :: r) 5 = true) (hd : decode cc pc = .ok (.lstore 5, 2)) (kk : V p l e R s m args below meth c Q nL g S F G cells slots (pc + 2) (o0 :: o1 :: o2 :: o3 :: o4 :: some (.long v) :: none :: r) st) : V p l e R s m args below meth c Q nL g S F G cells slots pc (o0 :: o1 :: o2 :: o3 :: o4 :: o5 :: o6 :: r) (.long v :: st) := V.lstore C hn hc hd kk
theorem V.ls6 (C : Cx p s m args meth c cc nL own g) {o0 o1 o2 o3 o4 o5 o6 o7 : Option Value} {r : List (Option Value)} {v : Int64} (hn : 6 + 1 < nL) (hc : xl1 (o0 :: o1 :: o2 :: o3 :: o4 :: o5 :: o6 :: o7 :: r) 6 = true) (hd : decode cc pc = .ok (.lstore 6, 2)) (kk : V p l e R s m args below meth c Q nL g S F G cells slots (pc + 2) (o0 :: o1 :: o2 :: o3 :: o4 :: o5 :: some (.long v) :: none :: r) st) : V p l e R s m args below meth c Q nL g S F G cells slots pc (o0 :: o1 :: o2 :: o3 :: o4 :: o5 :: o6 :: o7 :: r) (.long v :: st) := V.lstore C hn hc hd kk
theorem V.ls7 (C : Cx p s m args meth c cc nL own g) {o0 o1 o2 o3 o4 o5 o6 o7 o8 : Option Value} {r : List (Option Value)} {v : Int64} (hn : 7 + 1 < nL) (hc : xl1 (o0 :: o1 :: o2 :: o3 :: o4 :: o5 :: o6 :: o7 :: o8 :: r) 7 = true) (hd : decode cc pc = .ok (.lstore 7, 2)) (kk : V p l e R s m args below meth c Q nL g S F G cells slots (pc + 2) (o0 :: o1 :: o2 :: o3 :: o4 :: o5 :: o6 :: some (.long v) :: none :: r) st) : V p l e R s m args below meth c Q nL g S F G cells slots pc (o0 :: o1 :: o2 :: o3 :: o4 :: o5 :: o6 :: o7 :: o8 :: r) (.long v :: st) := V.lstore C hn hc hd kk
theorem V.ls8 (C : Cx p s m args meth c cc nL own g) {o0 o1 o2 o3 o4 o5 o6 o7 o8 o9 : Option Value} {r : List (Option Value)} {v : Int64} (hn : 8 + 1 < nL) (hc : xl1 (o0 :: o1 :: o2 :: o3 :: o4 :: o5 :: o6 :: o7 :: o8 :: o9 :: r) 8 = true) (hd : decode cc pc = .ok (.lstore 8, 2)) (kk : V p l e R s m args below meth c Q nL g S F G cells slots (pc + 2) (o0 :: o1 :: o2 :: o3 :: o4 :: o5 :: o6 :: o7 :: some (.long v) :: none :: r) st) : V p l e R s m args below meth c Q nL g S F G cells slots pc (o0 :: o1 :: o2 :: o3 :: o4 :: o5 :: o6 :: o7 :: o8 :: o9 :: r) (.long v :: st) := V.lstore C hn hc hd kk
theorem V.ls9 (C : Cx p s m args meth c cc nL own g) {o0 o1 o2 o3 o4 o5 o6 o7 o8 o9 o10 : Option Value} {r : List (Option Value)} {v : Int64} (hn : 9 + 1 < nL) (hc : xl1 (o0 :: o1 :: o2 :: o3 :: o4 :: o5 :: o6 :: o7 :: o8 :: o9 :: o10 :: r) 9 = true) (hd : decode cc pc = .ok (.lstore 9, 2)) (kk : V p l e R s m args below meth c Q nL g S F G cells slots (pc + 2) (o0 :: o1 :: o2 :: o3 :: o4 :: o5 :: o6 :: o7 :: o8 :: some (.long v) :: none :: r) st) : V p l e R s m args below meth c Q nL g S F G cells slots pc (o0 :: o1 :: o2 :: o3 :: o4 :: o5 :: o6 :: o7 :: o8 :: o9 :: o10 :: r) (.long v :: st) := V.lstore C hn hc hd kk
theorem V.ls10 (C : Cx p s m args meth c cc nL own g) {o0 o1 o2 o3 o4 o5 o6 o7 o8 o9 o10 o11 : Option Value} {r : List (Option Value)} {v : Int64} (hn : 10 + 1 < nL) (hc : xl1 (o0 :: o1 :: o2 :: o3 :: o4 :: o5 :: o6 :: o7 :: o8 :: o9 :: o10 :: o11 :: r) 10 = true) (hd : decode cc pc = .ok (.lstore 10, 2)) (kk : V p l e R s m args below meth c Q nL g S F G cells slots (pc + 2) (o0 :: o1 :: o2 :: o3 :: o4 :: o5 :: o6 :: o7 :: o8 :: o9 :: some (.long v) :: none :: r) st) : V p l e R s m args below meth c Q nL g S F G cells slots pc (o0 :: o1 :: o2 :: o3 :: o4 :: o5 :: o6 :: o7 :: o8 :: o9 :: o10 :: o11 :: r) (.long v :: st) := V.lstore C hn hc hd kk
theorem V.ls11 (C : Cx p s m args meth c cc nL own g) {o0 o1 o2 o3 o4 o5 o6 o7 o8 o9 o10 o11 o12 : Option Value} {r : List (Option Value)} {v : Int64} (hn : 11 + 1 < nL) (hc : xl1 (o0 :: o1 :: o2 :: o3 :: o4 :: o5 :: o6 :: o7 :: o8 :: o9 :: o10 :: o11 :: o12 :: r) 11 = true) (hd : decode cc pc = .ok (.lstore 11, 2)) (kk : V p l e R s m args below meth c Q nL g S F G cells slots (pc + 2) (o0 :: o1 :: o2 :: o3 :: o4 :: o5 :: o6 :: o7 :: o8 :: o9 :: o10 :: some (.long v) :: none :: r) st) : V p l e R s m args below meth c Q nL g S F G cells slots pc (o0 :: o1 :: o2 :: o3 :: o4 :: o5 :: o6 :: o7 :: o8 :: o9 :: o10 :: o11 :: o12 :: r) (.long v :: st) := V.lstore C hn hc hd kk
theorem V.is0 (C : Cx p s m args meth c cc nL own g) {o0 : Option Value} {r : List (Option Value)} {v : Int32} (hn : 0 < nL) (hc : xl1 (o0 :: r) 0 = true) (hd : decode cc pc = .ok (.istore_n 0, 1)) (kk : V p l e R s m args below meth c Q nL g S F G cells slots (pc + 1) (some (.int v) :: r) st) : V p l e R s m args below meth c Q nL g S F G cells slots pc (o0 :: r) (.int v :: st) := V.istore_n C 0 rfl hn hc hd kk
theorem V.as0 (C : Cx p s m args meth c cc nL own g) {o0 : Option Value} {r : List (Option Value)} {v : Nat} (hn : 0 < nL) (hc : xl1 (o0 :: r) 0 = true) (hd : decode cc pc = .ok (.astore_n 0, 1)) (kk : V p l e R s m args below meth c Q nL g S F G cells slots (pc + 1) (some (.ref v) :: r) st) : V p l e R s m args below meth c Q nL g S F G cells slots pc (o0 :: r) (.ref v :: st) := V.astore_n C 0 rfl hn hc hd kk
theorem V.inc0 (C : Cx p s m args meth c cc nL own g) {r : List (Option Value)} {n : Int} {v : Int32} (w : Int32) (hv : Int32.ofInt n = w) (hn : 0 < nL) (hc : xl1 (some (.int v) :: r) 0 = true) (hd : decode cc pc = .ok (.iinc 0 n, 3)) (kk : V p l e R s m args below meth c Q nL g S F G cells slots (pc + 3) (some (.int (v + w)) :: r) st) : V p l e R s m args below meth c Q nL g S F G cells slots pc (some (.int v) :: r) st := V.iinc C w rfl hv hn hc hd kk
theorem V.is1 (C : Cx p s m args meth c cc nL own g) {o0 o1 : Option Value} {r : List (Option Value)} {v : Int32} (hn : 1 < nL) (hc : xl1 (o0 :: o1 :: r) 1 = true) (hd : decode cc pc = .ok (.istore_n 1, 1)) (kk : V p l e R s m args below meth c Q nL g S F G cells slots (pc + 1) (o0 :: some (.int v) :: r) st) : V p l e R s m args below meth c Q nL g S F G cells slots pc (o0 :: o1 :: r) (.int v :: st) := V.istore_n C 1 rfl hn hc hd kk
theorem V.as1 (C : Cx p s m args meth c cc nL own g) {o0 o1 : Option Value} {r : List (Option Value)} {v : Nat} (hn : 1 < nL) (hc : xl1 (o0 :: o1 :: r) 1 = true) (hd : decode cc pc = .ok (.astore_n 1, 1)) (kk : V p l e R s m args below meth c Q nL g S F G cells slots (pc + 1) (o0 :: some (.ref v) :: r) st) : V p l e R s m args below meth c Q nL g S F G cells slots pc (o0 :: o1 :: r) (.ref v :: st) := V.astore_n C 1 rfl hn hc hd kk
theorem V.inc1 (C : Cx p s m args meth c cc nL own g) {o0 : Option Value} {r : List (Option Value)} {n : Int} {v : Int32} (w : Int32) (hv : Int32.ofInt n = w) (hn : 1 < nL) (hc : xl1 (o0 :: some (.int v) :: r) 1 = true) (hd : decode cc pc = .ok (.iinc 1 n, 3)) (kk : V p l e R s m args below meth c Q nL g S F G cells slots (pc + 3) (o0 :: some (.int (v + w)) :: r) st) : V p l e R s m args below meth c Q nL g S F G cells slots pc (o0 :: some (.int v) :: r) st := V.iinc C w rfl hv hn hc hd kk
theorem V.is2 (C : Cx p s m args meth c cc nL own g) {o0 o1 o2 : Option Value} {r : List (Option Value)} {v : Int32} (hn : 2 < nL) (hc : xl1 (o0 :: o1 :: o2 :: r) 2 = true) (hd : decode cc pc = .ok (.istore_n 2, 1)) (kk : V p l e R s m args below meth c Q nL g S F G cells slots (pc + 1) (o0 :: o1 :: some (.int v) :: r) st) : V p l e R s m args below meth c Q nL g S F G cells slots pc (o0 :: o1 :: o2 :: r) (.int v :: st) := V.istore_n C 2 rfl hn hc hd kk
theorem V.as2 (C : Cx p s m args meth c cc nL own g) {o0 o1 o2 : Option Value} {r : List (Option Value)} {v : Nat} (hn : 2 < nL) (hc : xl1 (o0 :: o1 :: o2 :: r) 2 = true) (hd : decode cc pc = .ok (.astore_n 2, 1)) (kk : V p l e R s m args below meth c Q nL g S F G cells slots (pc + 1) (o0 :: o1 :: some (.ref v) :: r) st) : V p l e R s m args below meth c Q nL g S F G cells slots pc (o0 :: o1 :: o2 :: r) (.ref v :: st) := V.astore_n C 2 rfl hn hc hd kk
theorem V.inc2 (C : Cx p s m args meth c cc nL own g) {o0 o1 : Option Value} {r : List (Option Value)} {n : Int} {v : Int32} (w : Int32) (hv : Int32.ofInt n = w) (hn : 2 < nL) (hc : xl1 (o0 :: o1 :: some (.int v) :: r) 2 = true) (hd : decode cc pc = .ok (.iinc 2 n, 3)) (kk : V p l e R s m args below meth c Q nL g S F G cells slots (pc + 3) (o0 :: o1 :: some (.int (v + w)) :: r) st) : V p l e R s m args below meth c Q nL g S F G cells slots pc (o0 :: o1 :: some (.int v) :: r) st := V.iinc C w rfl hv hn hc hd kk
theorem V.is3 (C : Cx p s m args meth c cc nL own g) {o0 o1 o2 o3 : Option Value} {r : List (Option Value)} {v : Int32} (hn : 3 < nL) (hc : xl1 (o0 :: o1 :: o2 :: o3 :: r) 3 = true) (hd : decode cc pc = .ok (.istore_n 3, 1)) (kk : V p l e R s m args below meth c Q nL g S F G cells slots (pc + 1) (o0 :: o1 :: o2 :: some (.int v) :: r) st) : V p l e R s m args below meth c Q nL g S F G cells slots pc (o0 :: o1 :: o2 :: o3 :: r) (.int v :: st) := V.istore_n C 3 rfl hn hc hd kk
theorem V.as3 (C : Cx p s m args meth c cc nL own g) {o0 o1 o2 o3 : Option Value} {r : List (Option Value)} {v : Nat} (hn : 3 < nL) (hc : xl1 (o0 :: o1 :: o2 :: o3 :: r) 3 = true) (hd : decode cc pc = .ok (.astore_n 3, 1)) (kk : V p l e R s m args below meth c Q nL g S F G cells slots (pc + 1) (o0 :: o1 :: o2 :: some (.ref v) :: r) st) : V p l e R s m args below meth c Q nL g S F G cells slots pc (o0 :: o1 :: o2 :: o3 :: r) (.ref v :: st) := V.astore_n C 3 rfl hn hc hd kk
theorem V.inc3 (C : Cx p s m args meth c cc nL own g) {o0 o1 o2 : Option Value} {r : List (Option Value)} {n : Int} {v : Int32} (w : Int32) (hv : Int32.ofInt n = w) (hn : 3 < nL) (hc : xl1 (o0 :: o1 :: o2 :: some (.int v) :: r) 3 = true) (hd : decode cc pc = .ok (.iinc 3 n, 3)) (kk : V p l e R s m args below meth c Q nL g S F G cells slots (pc + 3) (o0 :: o1 :: o2 :: some (.int (v + w)) :: r) st) : V p l e R s m args below meth c Q nL g S F G cells slots pc (o0 :: o1 :: o2 :: some (.int v) :: r) st := V.iinc C w rfl hv hn hc hd kk
theorem V.is4 (C : Cx p s m args meth c cc nL own g) {o0 o1 o2 o3 o4 : Option Value} {r : List (Option Value)} {v : Int32} (hn : 4 < nL) (hc : xl1 (o0 :: o1 :: o2 :: o3 :: o4 :: r) 4 = true) (hd : decode cc pc = .ok (.istore 4, 2)) (kk : V p l e R s m args below meth c Q nL g S F G cells slots (pc + 2) (o0 :: o1 :: o2 :: o3 :: some (.int v) :: r) st) : V p l e R s m args below meth c Q nL g S F G cells slots pc (o0 :: o1 :: o2 :: o3 :: o4 :: r) (.int v :: st) := V.istore C hn hc hd kk
theorem V.as4 (C : Cx p s m args meth c cc nL own g) {o0 o1 o2 o3 o4 : Option Value} {r : List (Option Value)} {v : Nat} (hn : 4 < nL) (hc : xl1 (o0 :: o1 :: o2 :: o3 :: o4 :: r) 4 = true) (hd : decode cc pc = .ok (.astore 4, 2)) (kk : V p l e R s m args below meth c Q nL g S F G cells slots (pc + 2) (o0 :: o1 :: o2 :: o3 :: some (.ref v) :: r) st) : V p l e R s m args below meth c Q nL g S F G cells slots pc (o0 :: o1 :: o2 :: o3 :: o4 :: r) (.ref v :: st) := V.astore C hn hc hd kk
theorem V.inc4 (C : Cx p s m args meth c cc nL own g) {o0 o1 o2 o3 : Option Value} {r : List (Option Value)} {n : Int} {v : Int32} (w : Int32) (hv : Int32.ofInt n = w) (hn : 4 < nL) (hc : xl1 (o0 :: o1 :: o2 :: o3 :: some (.int v) :: r) 4 = true) (hd : decode cc pc = .ok (.iinc 4 n, 3)) (kk : V p l e R s m args below meth c Q nL g S F G cells slots (pc + 3) (o0 :: o1 :: o2 :: o3 :: some (.int (v + w)) :: r) st) : V p l e R s m args below meth c Q nL g S F G cells slots pc (o0 :: o1 :: o2 :: o3 :: some (.int v) :: r) st := V.iinc C w rfl hv hn hc hd kk
theorem V.is5 (C : Cx p s m args meth c cc nL own g) {o0 o1 o2 o3 o4 o5 : Option Value} {r : List (Option Value)} {v : Int32} (hn : 5 < nL) (hc : xl1 (o0 :: o1 :: o2 :: o3 :: o4 :: o5 :: r) 5 = true) (hd : decode cc pc = .ok (.istore 5, 2)) (kk : V p l e R s m args below meth c Q nL g S F G cells slots (pc + 2) (o0 :: o1 :: o2 :: o3 :: o4 :: some (.int v) :: r) st) : V p l e R s m args below meth c Q nL g S F G cells slots pc (o0 :: o1 :: o2 :: o3 :: o4 :: o5 :: r) (.int v :: st) := V.istore C hn hc hd kk
theorem V.as5 (C : Cx p s m args meth c cc nL own g) {o0 o1 o2 o3 o4 o5 : Option Value} {r : List (Option Value)} {v : Nat} (hn : 5 < nL) (hc : xl1 (o0 :: o1 :: o2 :: o3 :: o4 :: o5 :: r) 5 = true) (hd : decode cc pc = .ok (.astore 5, 2)) (kk : V p l e R s m args below meth c Q nL g S F G cells slots (pc + 2) (o0 :: o1 :: o2 :: o3 :: o4 :: some (.ref v) :: r) st) : V p l e R s m args below meth c Q nL g S F G cells slots pc (o0 :: o1 :: o2 :: o3 :: o4 :: o5 :: r) (.ref v :: st) := V.astore C hn hc hd kk
theorem V.inc5 (C : Cx p s m args meth c cc nL own g) {o0 o1 o2 o3 o4 : Option Value} {r : List (Option Value)} {n : Int} {v : Int32} (w : Int32) (hv : Int32.ofInt n = w) (hn : 5 < nL) (hc : xl1 (o0 :: o1 :: o2 :: o3 :: o4 :: some (.int v) :: r) 5 = true) (hd : decode cc pc = .ok (.iinc 5 n, 3)) (kk : V p l e R s m args below meth c Q nL g S F G cells slots (pc + 3) (o0 :: o1 :: o2 :: o3 :: o4 :: some (.int (v + w)) :: r) st) : V p l e R s m args below meth c Q nL g S F G cells slots pc (o0 :: o1 :: o2 :: o3 :: o4 :: some (.int v) :: r) st := V.iinc C w rfl hv hn hc hd kk
theorem V.is6 (C : Cx p s m args meth c cc nL own g) {o0 o1 o2 o3 o4 o5 o6 : Option Value} {r : List (Option Value)} {v : Int32} (hn : 6 < nL) (hc : xl1 (o0 :: o1 :: o2 :: o3 :: o4 :: o5 :: o6 :: r) 6 = true) (hd : decode cc pc = .ok (.istore 6, 2)) (kk : V p l e R s m args below meth c Q nL g S F G cells slots (pc + 2) (o0 :: o1 :: o2 :: o3 :: o4 :: o5 :: some (.int v) :: r) st) : V p l e R s m args below meth c Q nL g S F G cells slots pc (o0 :: o1 :: o2 :: o3 :: o4 :: o5 :: o6 :: r) (.int v :: st) := V.istore C hn hc hd kk
theorem V.as6 (C : Cx p s m args meth c cc nL own g) {o0 o1 o2 o3 o4 o5 o6 : Option Value} {r : List (Option Value)} {v : Nat} (hn : 6 < nL) (hc : xl1 (o0 :: o1 :: o2 :: o3 :: o4 :: o5 :: o6 :: r) 6 = true) (hd : decode cc pc = .ok (.astore 6, 2)) (kk : V p l e R s m args below meth c Q nL g S F G cells slots (pc + 2) (o0 :: o1 :: o2 :: o3 :: o4 :: o5 :: some (.ref v) :: r) st) : V p l e R s m args below meth c Q nL g S F G cells slots pc (o0 :: o1 :: o2 :: o3 :: o4 :: o5 :: o6 :: r) (.ref v :: st) := V.astore C hn hc hd kk
theorem V.inc6 (C : Cx p s m args meth c cc nL own g) {o0 o1 o2 o3 o4 o5 : Option Value} {r : List (Option Value)} {n : Int} {v : Int32} (w : Int32) (hv : Int32.ofInt n = w) (hn : 6 < nL) (hc : xl1 (o0 :: o1 :: o2 :: o3 :: o4 :: o5 :: some (.int v) :: r) 6 = true) (hd : decode cc pc = .ok (.iinc 6 n, 3)) (kk : V p l e R s m args below meth c Q nL g S F G cells slots (pc + 3) (o0 :: o1 :: o2 :: o3 :: o4 :: o5 :: some (.int (v + w)) :: r) st) : V p l e R s m args below meth c Q nL g S F G cells slots pc (o0 :: o1 :: o2 :: o3 :: o4 :: o5 :: some (.int v) :: r) st := V.iinc C w rfl hv hn hc hd kk
theorem V.is7 (C : Cx p s m args meth c cc nL own g) {o0 o1 o2 o3 o4 o5 o6 o7 : Option Value} {r : List (Option Value)} {v : Int32} (hn : 7 < nL) (hc : xl1 (o0 :: o1 :: o2 :: o3 :: o4 :: o5 :: o6 :: o7 :: r) 7 = true) (hd : decode cc pc = .ok (.istore 7, 2)) (kk : V p l e R s m args below meth c Q nL g S F G cells slots (pc + 2) (o0 :: o1 :: o2 :: o3 :: o4 :: o5 :: o6 :: some (.int v) :: r) st) : V p l e R s m args below meth c Q nL g S F G cells slots pc (o0 :: o1 :: o2 :: o3 :: o4 :: o5 :: o6 :: o7 :: r) (.int v :: st) := V.istore C hn hc hd kk
theorem V.as7 (C : Cx p s m args meth c cc nL own g) {o0 o1 o2 o3 o4 o5 o6 o7 : Option Value} {r : List (Option Value)} {v : Nat} (hn : 7 < nL) (hc : xl1 (o0 :: o1 :: o2 :: o3 :: o4 :: o5 :: o6 :: o7 :: r) 7 = true) (hd : decode cc pc = .ok (.astore 7, 2)) (kk : V p l e R s m args below meth c Q nL g S F G cells slots (pc + 2) (o0 :: o1 :: o2 :: o3 :: o4 :: o5 :: o6 :: some (.ref v) :: r) st) : V p l e R s m args below meth c Q nL g S F G cells slots pc (o0 :: o1 :: o2 :: o3 :: o4 :: o5 :: o6 :: o7 :: r) (.ref v :: st) := V.astore C hn hc hd kk
theorem V.inc7 (C : Cx p s m args meth c cc nL own g) {o0 o1 o2 o3 o4 o5 o6 : Option Value} {r : List (Option Value)} {n : Int} {v : Int32} (w : Int32) (hv : Int32.ofInt n = w) (hn : 7 < nL) (hc : xl1 (o0 :: o1 :: o2 :: o3 :: o4 :: o5 :: o6 :: some (.int v) :: r) 7 = true) (hd : decode cc pc = .ok (.iinc 7 n, 3)) (kk : V p l e R s m args below meth c Q nL g S F G cells slots (pc + 3) (o0 :: o1 :: o2 :: o3 :: o4 :: o5 :: o6 :: some (.int (v + w)) :: r) st) : V p l e R s m args below meth c Q nL g S F G cells slots pc (o0 :: o1 :: o2 :: o3 :: o4 :: o5 :: o6 :: some (.int v) :: r) st := V.iinc C w rfl hv hn hc hd kk
theorem V.is8 (C : Cx p s m args meth c cc nL own g) {o0 o1 o2 o3 o4 o5 o6 o7 o8 : Option Value} {r : List (Option Value)} {v : Int32} (hn : 8 < nL) (hc : xl1 (o0 :: o1 :: o2 :: o3 :: o4 :: o5 :: o6 :: o7 :: o8 :: r) 8 = true) (hd : decode cc pc = .ok (.istore 8, 2)) (kk : V p l e R s m args below meth c Q nL g S F G cells slots (pc + 2) (o0 :: o1 :: o2 :: o3 :: o4 :: o5 :: o6 :: o7 :: some (.int v) :: r) st) : V p l e R s m args below meth c Q nL g S F G cells slots pc (o0 :: o1 :: o2 :: o3 :: o4 :: o5 :: o6 :: o7 :: o8 :: r) (.int v :: st) := V.istore C hn hc hd kk
theorem V.as8 (C : Cx p s m args meth c cc nL own g) {o0 o1 o2 o3 o4 o5 o6 o7 o8 : Option Value} {r : List (Option Value)} {v : Nat} (hn : 8 < nL) (hc : xl1 (o0 :: o1 :: o2 :: o3 :: o4 :: o5 :: o6 :: o7 :: o8 :: r) 8 = true) (hd : decode cc pc = .ok (.astore 8, 2)) (kk : V p l e R s m args below meth c Q nL g S F G cells slots (pc + 2) (o0 :: o1 :: o2 :: o3 :: o4 :: o5 :: o6 :: o7 :: some (.ref v) :: r) st) : V p l e R s m args below meth c Q nL g S F G cells slots pc (o0 :: o1 :: o2 :: o3 :: o4 :: o5 :: o6 :: o7 :: o8 :: r) (.ref v :: st) := V.astore C hn hc hd kk
theorem V.inc8 (C : Cx p s m args meth c cc nL own g) {o0 o1 o2 o3 o4 o5 o6 o7 : Option Value} {r : List (Option Value)} {n : Int} {v : Int32} (w : Int32) (hv : Int32.ofInt n = w) (hn : 8 < nL) (hc : xl1 (o0 :: o1 :: o2 :: o3 :: o4 :: o5 :: o6 :: o7 :: some (.int v) :: r) 8 = true) (hd : decode cc pc = .ok (.iinc 8 n, 3)) (kk : V p l e R s m args below meth c Q nL g S F G cells slots (pc + 3) (o0 :: o1 :: o2 :: o3 :: o4 :: o5 :: o6 :: o7 :: some (.int (v + w)) :: r) st) : V p l e R s m args below meth c Q nL g S F G cells slots pc (o0 :: o1 :: o2 :: o3 :: o4 :: o5 :: o6 :: o7 :: some (.int v) :: r) st := V.iinc C w rfl hv hn hc hd kk
theorem V.is9 (C : Cx p s m args meth c cc nL own g) {o0 o1 o2 o3 o4 o5 o6 o7 o8 o9 : Option Value} {r : List (Option Value)} {v : Int32} (hn : 9 < nL) (hc : xl1 (o0 :: o1 :: o2 :: o3 :: o4 :: o5 :: o6 :: o7 :: o8 :: o9 :: r) 9 = true) (hd : decode cc pc = .ok (.istore 9, 2)) (kk : V p l e R s m args below meth c Q nL g S F G cells slots (pc + 2) (o0 :: o1 :: o2 :: o3 :: o4 :: o5 :: o6 :: o7 :: o8 :: some (.int v) :: r) st) : V p l e R s m args below meth c Q nL g S F G cells slots pc (o0 :: o1 :: o2 :: o3 :: o4 :: o5 :: o6 :: o7 :: o8 :: o9 :: r) (.int v :: st) := V.istore C hn hc hd kk
theorem V.as9 (C : Cx p s m args meth c cc nL own g) {o0 o1 o2 o3 o4 o5 o6 o7 o8 o9 : Option Value} {r : List (Option Value)} {v : Nat} (hn : 9 < nL) (hc : xl1 (o0 :: o1 :: o2 :: o3 :: o4 :: o5 :: o6 :: o7 :: o8 :: o9 :: r) 9 = true) (hd : decode cc pc = .ok (.astore 9, 2)) (kk : V p l e R s m args below meth c Q nL g S F G cells slots (pc + 2) (o0 :: o1 :: o2 :: o3 :: o4 :: o5 :: o6 :: o7 :: o8 :: some (.ref v) :: r) st) : V p l e R s m args below meth c Q nL g S F G cells slots pc (o0 :: o1 :: o2 :: o3 :: o4 :: o5 :: o6 :: o7 :: o8 :: o9 :: r) (.ref v :: st) := V.astore C hn hc hd kk
theorem V.inc9 (C : Cx p s m args meth c cc nL own g) {o0 o1 o2 o3 o4 o5 o6 o7 o8 : Option Value} {r : List (Option Value)} {n : Int} {v : Int32} (w : Int32) (hv : Int32.ofInt n = w) (hn : 9 < nL) (hc : xl1 (o0 :: o1 :: o2 :: o3 :: o4 :: o5 :: o6 :: o7 :: o8 :: some (.int v) :: r) 9 = true) (hd : decode cc pc = .ok (.iinc 9 n, 3)) (kk : V p l e R s m args below meth c Q nL g S F G cells slots (pc + 3) (o0 :: o1 :: o2 :: o3 :: o4 :: o5 :: o6 :: o7 :: o8 :: some (.int (v + w)) :: r) st) : V p l e R s m args below meth c Q nL g S F G cells slots pc (o0 :: o1 :: o2 :: o3 :: o4 :: o5 :: o6 :: o7 :: o8 :: some (.int v) :: r) st := V.iinc C w rfl hv hn hc hd kk
theorem V.is10 (C : Cx p s m args meth c cc nL own g) {o0 o1 o2 o3 o4 o5 o6 o7 o8 o9 o10 : Option Value} {r : List (Option Value)} {v : Int32} (hn : 10 < nL) (hc : xl1 (o0 :: o1 :: o2 :: o3 :: o4 :: o5 :: o6 :: o7 :: o8 :: o9 :: o10 :: r) 10 = true) (hd : decode cc pc = .ok (.istore 10, 2)) (kk : V p l e R s m args below meth c Q nL g S F G cells slots (pc + 2) (o0 :: o1 :: o2 :: o3 :: o4 :: o5 :: o6 :: o7 :: o8 :: o9 :: some (.int v) :: r) st) : V p l e R s m args below meth c Q nL g S F G cells slots pc (o0 :: o1 :: o2 :: o3 :: o4 :: o5 :: o6 :: o7 :: o8 :: o9 :: o10 :: r) (.int v :: st) := V.istore C hn hc hd kk
theorem V.as10 (C : Cx p s m args meth c cc nL own g) {o0 o1 o2 o3 o4 o5 o6 o7 o8 o9 o10 : Option Value} {r : List (Option Value)} {v : Nat} (hn : 10 < nL) (hc : xl1 (o0 :: o1 :: o2 :: o3 :: o4 :: o5 :: o6 :: o7 :: o8 :: o9 :: o10 :: r) 10 = true) (hd : decode cc pc = .ok (.astore 10, 2)) (kk : V p l e R s m args below meth c Q nL g S F G cells slots (pc + 2) (o0 :: o1 :: o2 :: o3 :: o4 :: o5 :: o6 :: o7 :: o8 :: o9 :: some (.ref v) :: r) st) : V p l e R s m args below meth c Q nL g S F G cells slots pc (o0 :: o1 :: o2 :: o3 :: o4 :: o5 :: o6 :: o7 :: o8 :: o9 :: o10 :: r) (.ref v :: st) := V.astore C hn hc hd kk
theorem V.inc10 (C : Cx p s m args meth c cc nL own g) {o0 o1 o2 o3 o4 o5 o6 o7 o8 o9 : Option Value} {r : List (Option Value)} {n : Int} {v : Int32} (w : Int32) (hv : Int32.ofInt n = w) (hn : 10 < nL) (hc : xl1 (o0 :: o1 :: o2 :: o3 :: o4 :: o5 :: o6 :: o7 :: o8 :: o9 :: some (.int v) :: r) 10 = true) (hd : decode cc pc = .ok (.iinc 10 n, 3)) (kk : V p l e R s m args below meth c Q nL g S F G cells slots (pc + 3) (o0 :: o1 :: o2 :: o3 :: o4 :: o5 :: o6 :: o7 :: o8 :: o9 :: some (.int (v + w)) :: r) st) : V p l e R s m args below meth c Q nL g S F G cells slots pc (o0 :: o1 :: o2 :: o3 :: o4 :: o5 :: o6 :: o7 :: o8 :: o9 :: some (.int v) :: r) st := V.iinc C w rfl hv hn hc hd kk
theorem V.is11 (C : Cx p s m args meth c cc nL own g) {o0 o1 o2 o3 o4 o5 o6 o7 o8 o9 o10 o11 : Option Value} {r : List (Option Value)} {v : Int32} (hn : 11 < nL) (hc : xl1 (o0 :: o1 :: o2 :: o3 :: o4 :: o5 :: o6 :: o7 :: o8 :: o9 :: o10 :: o11 :: r) 11 = true) (hd : decode cc pc = .ok (.istore 11, 2)) (kk : V p l e R s m args below meth c Q nL g S F G cells slots (pc + 2) (o0 :: o1 :: o2 :: o3 :: o4 :: o5 :: o6 :: o7 :: o8 :: o9 :: o10 :: some (.int v) :: r) st) : V p l e R s m args below meth c Q nL g S F G cells slots pc (o0 :: o1 :: o2 :: o3 :: o4 :: o5 :: o6 :: o7 :: o8 :: o9 :: o10 :: o11 :: r) (.int v :: st) := V.istore C hn hc hd kk
theorem V.as11 (C : Cx p s m args meth c cc nL own g) {o0 o1 o2 o3 o4 o5 o6 o7 o8 o9 o10 o11 : Option Value} {r : List (Option Value)} {v : Nat} (hn : 11 < nL) (hc : xl1 (o0 :: o1 :: o2 :: o3 :: o4 :: o5 :: o6 :: o7 :: o8 :: o9 :: o10 :: o11 :: r) 11 = true) (hd : decode cc pc = .ok (.astore 11, 2)) (kk : V p l e R s m args below meth c Q nL g S F G cells slots (pc + 2) (o0 :: o1 :: o2 :: o3 :: o4 :: o5 :: o6 :: o7 :: o8 :: o9 :: o10 :: some (.ref v) :: r) st) : V p l e R s m args below meth c Q nL g S F G cells slots pc (o0 :: o1 :: o2 :: o3 :: o4 :: o5 :: o6 :: o7 :: o8 :: o9 :: o10 :: o11 :: r) (.ref v :: st) := V.astore C hn hc hd kk
theorem V.inc11 (C : Cx p s m args meth c cc nL own g) {o0 o1 o2 o3 o4 o5 o6 o7 o8 o9 o10 : Option Value} {r : List (Option Value)} {n : Int} {v : Int32} (w : Int32) (hv : Int32.ofInt n = w) (hn : 11 < nL) (hc : xl1 (o0 :: o1 :: o2 :: o3 :: o4 :: o5 :: o6 :: o7 :: o8 :: o9 :: o10 :: some (.int v) :: r) 11 = true) (hd : decode cc pc = .ok (.iinc 11 n, 3)) (kk : V p l e R s m args below meth c Q nL g S F G cells slots (pc + 3) (o0 :: o1 :: o2 :: o3 :: o4 :: o5 :: o6 :: o7 :: o8 :: o9 :: o10 :: some (.int (v + w)) :: r) st) : V p l e R s m args below meth c Q nL g S F G cells slots pc (o0 :: o1 :: o2 :: o3 :: o4 :: o5 :: o6 :: o7 :: o8 :: o9 :: o10 :: some (.int v) :: r) st := V.iinc C w rfl hv hn hc hd kk
theorem V.is12 (C : Cx p s m args meth c cc nL own g) {o0 o1 o2 o3 o4 o5 o6 o7 o8 o9 o10 o11 o12 : Option Value} {r : List (Option Value)} {v : Int32} (hn : 12 < nL) (hc : xl1 (o0 :: o1 :: o2 :: o3 :: o4 :: o5 :: o6 :: o7 :: o8 :: o9 :: o10 :: o11 :: o12 :: r) 12 = true) (hd : decode cc pc = .ok (.istore 12, 2)) (kk : V p l e R s m args below meth c Q nL g S F G cells slots (pc + 2) (o0 :: o1 :: o2 :: o3 :: o4 :: o5 :: o6 :: o7 :: o8 :: o9 :: o10 :: o11 :: some (.int v) :: r) st) : V p l e R s m args below meth c Q nL g S F G cells slots pc (o0 :: o1 :: o2 :: o3 :: o4 :: o5 :: o6 :: o7 :: o8 :: o9 :: o10 :: o11 :: o12 :: r) (.int v :: st) := V.istore C hn hc hd kk
theorem V.as12 (C : Cx p s m args meth c cc nL own g) {o0 o1 o2 o3 o4 o5 o6 o7 o8 o9 o10 o11 o12 : Option Value} {r : List (Option Value)} {v : Nat} (hn : 12 < nL) (hc : xl1 (o0 :: o1 :: o2 :: o3 :: o4 :: o5 :: o6 :: o7 :: o8 :: o9 :: o10 :: o11 :: o12 :: r) 12 = true) (hd : decode cc pc = .ok (.astore 12, 2)) (kk : V p l e R s m args below meth c Q nL g S F G cells slots (pc + 2) (o0 :: o1 :: o2 :: o3 :: o4 :: o5 :: o6 :: o7 :: o8 :: o9 :: o10 :: o11 :: some (.ref v) :: r) st) : V p l e R s m args below meth c Q nL g S F G cells slots pc (o0 :: o1 :: o2 :: o3 :: o4 :: o5 :: o6 :: o7 :: o8 :: o9 :: o10 :: o11 :: o12 :: r) (.ref v :: st) := V.astore C hn hc hd kk
theorem V.inc12 (C : Cx p s m args meth c cc nL own g) {o0 o1 o2 o3 o4 o5 o6 o7 o8 o9 o10 o11 : Option Value} {r : List (Option Value)} {n : Int} {v : Int32} (w : Int32) (hv : Int32.ofInt n = w) (hn : 12 < nL) (hc : xl1 (o0 :: o1 :: o2 :: o3 :: o4 :: o5 :: o6 :: o7 :: o8 :: o9 :: o10 :: o11 :: some (.int v) :: r) 12 = true) (hd : decode cc pc = .ok (.iinc 12 n, 3)) (kk : V p l e R s m args below meth c Q nL g S F G cells slots (pc + 3) (o0 :: o1 :: o2 :: o3 :: o4 :: o5 :: o6 :: o7 :: o8 :: o9 :: o10 :: o11 :: some (.int (v + w)) :: r) st) : V p l e R s m args below meth c Q nL g S F G cells slots pc (o0 :: o1 :: o2 :: o3 :: o4 :: o5 :: o6 :: o7 :: o8 :: o9 :: o10 :: o11 :: some (.int v) :: r) st := V.iinc C w rfl hv hn hc hd kk
theorem V.is13 (C : Cx p s m args meth c cc nL own g) {o0 o1 o2 o3 o4 o5 o6 o7 o8 o9 o10 o11 o12 o13 : Option Value} {r : List (Option Value)} {v : Int32} (hn : 13 < nL) (hc : xl1 (o0 :: o1 :: o2 :: o3 :: o4 :: o5 :: o6 :: o7 :: o8 :: o9 :: o10 :: o11 :: o12 :: o13 :: r) 13 = true) (hd : decode cc pc = .ok (.istore 13, 2)) (kk : V p l e R s m args below meth c Q nL g S F G cells slots (pc + 2) (o0 :: o1 :: o2 :: o3 :: o4 :: o5 :: o6 :: o7 :: o8 :: o9 :: o10 :: o11 :: o12 :: some (.int v) :: r) st) : V p l e R s m args below meth c Q nL g S F G cells slots pc (o0 :: o1 :: o2 :: o3 :: o4 :: o5 :: o6 :: o7 :: o8 :: o9 :: o10 :: o11 :: o12 :: o13 :: r) (.int v :: st) := V.istore C hn hc hd kk
theorem V.as13 (C : Cx p s m args meth c cc nL own g) {o0 o1 o2 o3 o4 o5 o6 o7 o8 o9 o10 o11 o12 o13 : Option Value} {r : List (Option Value)} {v : Nat} (hn : 13 < nL) (hc : xl1 (o0 :: o1 :: o2 :: o3 :: o4 :: o5 :: o6 :: o7 :: o8 :: o9 :: o10 :: o11 :: o12 :: o13 :: r) 13 = true) (hd : decode cc pc = .ok (.astore 13, 2)) (kk : V p l e R s m args below meth c Q nL g S F G cells slots (pc + 2) (o0 :: o1 :: o2 :: o3 :: o4 :: o5 :: o6 :: o7 :: o8 :: o9 :: o10 :: o11 :: o12 :: some (.ref v) :: r) st) : V p l e R s m args below meth c Q nL g S F G cells slots pc (o0 :: o1 :: o2 :: o3 :: o4 :: o5 :: o6 :: o7 :: o8 :: o9 :: o10 :: o11 :: o12 :: o13 :: r) (.ref v :: st) := V.astore C hn hc hd kk
theorem V.inc13 (C : Cx p s m args meth c cc nL own g) {o0 o1 o2 o3 o4 o5 o6 o7 o8 o9 o10 o11 o12 : Option Value} {r : List (Option Value)} {n : Int} {v : Int32} (w : Int32) (hv : Int32.ofInt n = w) (hn : 13 < nL) (hc : xl1 (o0 :: o1 :: o2 :: o3 :: o4 :: o5 :: o6 :: o7 :: o8 :: o9 :: o10 :: o11 :: o12 :: some (.int v) :: r) 13 = true) (hd : decode cc pc = .ok (.iinc 13 n, 3)) (kk : V p l e R s m args below meth c Q nL g S F G cells slots (pc + 3) (o0 :: o1 :: o2 :: o3 :: o4 :: o5 :: o6 :: o7 :: o8 :: o9 :: o10 :: o11 :: o12 :: some (.int (v + w)) :: r) st) : V p l e R s m args below meth c Q nL g S F G cells slots pc (o0 :: o1 :: o2 :: o3 :: o4 :: o5 :: o6 :: o7 :: o8 :: o9 :: o10 :: o11 :: o12 :: some (.int v) :: r) st := V.iinc C w rfl hv hn hc hd kk
theorem V.is14 (C : Cx p s m args meth c cc nL own g) {o0 o1 o2 o3 o4 o5 o6 o7 o8 o9 o10 o11 o12 o13 o14 : Option Value} {r : List (Option Value)} {v : Int32} (hn : 14 < nL) (hc : xl1 (o0 :: o1 :: o2 :: o3 :: o4 :: o5 :: o6 :: o7 :: o8 :: o9 :: o10 :: o11 :: o12 :: o13 :: o14 :: r) 14 = true) (hd : decode cc pc = .ok (.istore 14, 2)) (kk : V p l e R s m args below meth c Q nL g S F G cells slots (pc + 2) (o0 :: o1 :: o2 :: o3 :: o4 :: o5 :: o6 :: o7 :: o8 :: o9 :: o10 :: o11 :: o12 :: o13 :: some (.int v) :: r) st) : V p l e R s m args below meth c Q nL g S F G cells slots pc (o0 :: o1 :: o2 :: o3 :: o4 :: o5 :: o6 :: o7 :: o8 :: o9 :: o10 :: o11 :: o12 :: o13 :: o14 :: r) (.int v :: st) := V.istore C hn hc hd kk
theorem V.as14 (C : Cx p s m args meth c cc nL own g) {o0 o1 o2 o3 o4 o5 o6 o7 o8 o9 o10 o11 o12 o13 o14 : Option Value} {r : List (Option Value)} {v : Nat} (hn : 14 < nL) (hc : xl1 (o0 :: o1 :: o2 :: o3 :: o4 :: o5 :: o6 :: o7 :: o8 :: o9 :: o10 :: o11 :: o12 :: o13 :: o14 :: r) 14 = true) (hd : decode cc pc = .ok (.astore 14, 2)) (kk : V p l e R s m args below meth c Q nL g S F G cells slots (pc + 2) (o0 :: o1 :: o2 :: o3 :: o4 :: o5 :: o6 :: o7 :: o8 :: o9 :: o10 :: o11 :: o12 :: o13 :: some (.ref v) :: r) st) : V p l e R s m args below meth c Q nL g S F G cells slots pc (o0 :: o1 :: o2 :: o3 :: o4 :: o5 :: o6 :: o7 :: o8 :: o9 :: o10 :: o11 :: o12 :: o13 :: o14 :: r) (.ref v :: st) := V.astore C hn hc hd kk
theorem V.inc14 (C : Cx p s m args meth c cc nL own g) {o0 o1 o2 o3 o4 o5 o6 o7 o8 o9 o10 o11 o12 o13 : Option Value} {r : List (Option Value)} {n : Int} {v : Int32} (w : Int32) (hv : Int32.ofInt n = w) (hn : 14 < nL) (hc : xl1 (o0 :: o1 :: o2 :: o3 :: o4 :: o5 :: o6 :: o7 :: o8 :: o9 :: o10 :: o11 :: o12 :: o13 :: some (.int v) :: r) 14 = true) (hd : decode cc pc = .ok (.iinc 14 n, 3)) (kk : V p l e R s m args below meth c Q nL g S F G cells slots (pc + 3) (o0 :: o1 :: o2 :: o3 :: o4 :: o5 :: o6 :: o7 :: o8 :: o9 :: o10 :: o11 :: o12 :: o13 :: some (.int (v + w)) :: r) st) : V p l e R s m args below meth c Q nL g S F G cells slots pc (o0 :: o1 :: o2 :: o3 :: o4 :: o5 :: o6 :: o7 :: o8 :: o9 :: o10 :: o11 :: o12 :: o13 :: some (.int v) :: r) st := V.iinc C w rfl hv hn hc hd kk
theorem V.is15 (C : Cx p s m args meth c cc nL own g) {o0 o1 o2 o3 o4 o5 o6 o7 o8 o9 o10 o11 o12 o13 o14 o15 : Option Value} {r : List (Option Value)} {v : Int32} (hn : 15 < nL) (hc : xl1 (o0 :: o1 :: o2 :: o3 :: o4 :: o5 :: o6 :: o7 :: o8 :: o9 :: o10 :: o11 :: o12 :: o13 :: o14 :: o15 :: r) 15 = true) (hd : decode cc pc = .ok (.istore 15, 2)) (kk : V p l e R s m args below meth c Q nL g S F G cells slots (pc + 2) (o0 :: o1 :: o2 :: o3 :: o4 :: o5 :: o6 :: o7 :: o8 :: o9 :: o10 :: o11 :: o12 :: o13 :: o14 :: some (.int v) :: r) st) : V p l e R s m args below meth c Q nL g S F G cells slots pc (o0 :: o1 :: o2 :: o3 :: o4 :: o5 :: o6 :: o7 :: o8 :: o9 :: o10 :: o11 :: o12 :: o13 :: o14 :: o15 :: r) (.int v :: st) := V.istore C hn hc hd kk
theorem V.as15 (C : Cx p s m args meth c cc nL own g) {o0 o1 o2 o3 o4 o5 o6 o7 o8 o9 o10 o11 o12 o13 o14 o15 : Option Value} {r : List (Option Value)} {v : Nat} (hn : 15 < nL) (hc : xl1 (o0 :: o1 :: o2 :: o3 :: o4 :: o5 :: o6 :: o7 :: o8 :: o9 :: o10 :: o11 :: o12 :: o13 :: o14 :: o15 :: r) 15 = true) (hd : decode cc pc = .ok (.astore 15, 2)) (kk : V p l e R s m args below meth c Q nL g S F G cells slots (pc + 2) (o0 :: o1 :: o2 :: o3 :: o4 :: o5 :: o6 :: o7 :: o8 :: o9 :: o10 :: o11 :: o12 :: o13 :: o14 :: some (.ref v) :: r) st) : V p l e R s m args below meth c Q nL g S F G cells slots pc (o0 :: o1 :: o2 :: o3 :: o4 :: o5 :: o6 :: o7 :: o8 :: o9 :: o10 :: o11 :: o12 :: o13 :: o14 :: o15 :: r) (.ref v :: st) := V.astore C hn hc hd kk
theorem V.inc15 (C : Cx p s m args meth c cc nL own g) {o0 o1 o2 o3 o4 o5 o6 o7 o8 o9 o10 o11 o12 o13 o14 : Option Value} {r : List (Option Value)} {n : Int} {v : Int32} (w : Int32) (hv : Int32.ofInt n = w) (hn : 15 < nL) (hc : xl1 (o0 :: o1 :: o2 :: o3 :: o4 :: o5 :: o6 :: o7 :: o8 :: o9 :: o10 :: o11 :: o12 :: o13 :: o14 :: some (.int v) :: r) 15 = true) (hd : decode cc pc = .ok (.iinc 15 n, 3)) (kk : V p l e R s m args below meth c Q nL g S F G cells slots (pc + 3) (o0 :: o1 :: o2 :: o3 :: o4 :: o5 :: o6 :: o7 :: o8 :: o9 :: o10 :: o11 :: o12 :: o13 :: o14 :: some (.int (v + w)) :: r) st) : V p l e R s m args below meth c Q nL g S F G cells slots pc (o0 :: o1 :: o2 :: o3 :: o4 :: o5 :: o6 :: o7 :: o8 :: o9 :: o10 :: o11 :: o12 :: o13 :: o14 :: some (.int v) :: r) st := V.iinc C w rfl hv hn hc hd kk
theorem V.is16 (C : Cx p s m args meth c cc nL own g) {o0 o1 o2 o3 o4 o5 o6 o7 o8 o9 o10 o11 o12 o13 o14 o15 o16 : Option Value} {r : List (Option Value)} {v : Int32} (hn : 16 < nL) (hc : xl1 (o0 :: o1 :: o2 :: o3 :: o4 :: o5 :: o6 :: o7 :: o8 :: o9 :: o10 :: o11 :: o12 :: o13 :: o14 :: o15 :: o16 :: r) 16 = true) (hd : decode cc pc = .ok (.istore 16, 2)) (kk : V p l e R s m args below meth c Q nL g S F G cells slots (pc + 2) (o0 :: o1 :: o2 :: o3 :: o4 :: o5 :: o6 :: o7 :: o8 :: o9 :: o10 :: o11 :: o12 :: o13 :: o14 :: o15 :: some (.int v) :: r) st) : V p l e R s m args below meth c Q nL g S F G cells slots pc (o0 :: o1 :: o2 :: o3 :: o4 :: o5 :: o6 :: o7 :: o8 :: o9 :: o10 :: o11 :: o12 :: o13 :: o14 :: o15 :: o16 :: r) (.int v :: st) := V.istore C hn hc hd kk
theorem V.as16 (C : Cx p s m args meth c cc nL own g) {o0 o1 o2 o3 o4 o5 o6 o7 o8 o9 o10 o11 o12 o13 o14 o15 o16 : Option Value} {r : List (Option Value)} {v : Nat} (hn : 16 < nL) (hc : xl1 (o0 :: o1 :: o2 :: o3 :: o4 :: o5 :: o6 :: o7 :: o8 :: o9 :: o10 :: o11 :: o12 :: o13 :: o14 :: o15 :: o16 :: r) 16 = true) (hd : decode cc pc = .ok (.astore 16, 2)) (kk : V p l e R s m args below meth c Q nL g S F G cells slots (pc + 2) (o0 :: o1 :: o2 :: o3 :: o4 :: o5 :: o6 :: o7 :: o8 :: o9 :: o10 :: o11 :: o12 :: o13 :: o14 :: o15 :: some (.ref v) :: r) st) : V p l e R s m args below meth c Q nL g S F G cells slots pc (o0 :: o1 :: o2 :: o3 :: o4 :: o5 :: o6 :: o7 :: o8 :: o9 :: o10 :: o11 :: o12 :: o13 :: o14 :: o15 :: o16 :: r) (.ref v :: st) := V.astore C hn hc hd kk
theorem V.inc16 (C : Cx p s m args meth c cc nL own g) {o0 o1 o2 o3 o4 o5 o6 o7 o8 o9 o10 o11 o12 o13 o14 o15 : Option Value} {r : List (Option Value)} {n : Int} {v : Int32} (w : Int32) (hv : Int32.ofInt n = w) (hn : 16 < nL) (hc : xl1 (o0 :: o1 :: o2 :: o3 :: o4 :: o5 :: o6 :: o7 :: o8 :: o9 :: o10 :: o11 :: o12 :: o13 :: o14 :: o15 :: some (.int v) :: r) 16 = true) (hd : decode cc pc = .ok (.iinc 16 n, 3)) (kk : V p l e R s m args below meth c Q nL g S F G cells slots (pc + 3) (o0 :: o1 :: o2 :: o3 :: o4 :: o5 :: o6 :: o7 :: o8 :: o9 :: o10 :: o11 :: o12 :: o13 :: o14 :: o15 :: some (.int (v + w)) :: r) st) : V p l e R s m args below meth c Q nL g S F G cells slots pc (o0 :: o1 :: o2 :: o3 :: o4 :: o5 :: o6 :: o7 :: o8 :: o9 :: o10 :: o11 :: o12 :: o13 :: o14 :: o15 :: some (.int v) :: r) st := V.iinc C w rfl hv hn hc hd kk
theorem V.is17 (C : Cx p s m args meth c cc nL own g) {o0 o1 o2 o3 o4 o5 o6 o7 o8 o9 o10 o11 o12 o13 o14 o15 o16 o17 : Option Value} {r : List (Option Value)} {v : Int32} (hn : 17 < nL) (hc : xl1 (o0 :: o1 :: o2 :: o3 :: o4 :: o5 :: o6 :: o7 :: o8 :: o9 :: o10 :: o11 :: o12 :: o13 :: o14 :: o15 :: o16 :: o17 :: r) 17 = true) (hd : decode cc pc = .ok (.istore 17, 2)) (kk : V p l e R s m args below meth c Q nL g S F G cells slots (pc + 2) (o0 :: o1 :: o2 :: o3 :: o4 :: o5 :: o6 :: o7 :: o8 :: o9 :: o10 :: o11 :: o12 :: o13 :: o14 :: o15 :: o16 :: some (.int v) :: r) st) : V p l e R s m args below meth c Q nL g S F G cells slots pc (o0 :: o1 :: o2 :: o3 :: o4 :: o5 :: o6 :: o7 :: o8 :: o9 :: o10 :: o11 :: o12 :: o13 :: o14 :: o15 :: o16 :: o17 :: r) (.int v :: st) := V.istore C hn hc hd kk
theorem V.as17 (C : Cx p s m args meth c cc nL own g) {o0 o1 o2 o3 o4 o5 o6 o7 o8 o9 o10 o11 o12 o13 o14 o15 o16 o17 : Option Value} {r : List (Option Value)} {v : Nat} (hn : 17 < nL) (hc : xl1 (o0 :: o1 :: o2 :: o3 :: o4 :: o5 :: o6 :: o7 :: o8 :: o9 :: o10 :: o11 :: o12 :: o13 :: o14 :: o15 :: o16 :: o17 :: r) 17 = true) (hd : decode cc pc = .ok (.astore 17, 2)) (kk : V p l e R s m args below meth c Q nL g S F G cells slots (pc + 2) (o0 :: o1 :: o2 :: o3 :: o4 :: o5 :: o6 :: o7 :: o8 :: o9 :: o10 :: o11 :: o12 :: o13 :: o14 :: o15 :: o16 :: some (.ref v) :: r) st) : V p l e R s m args below meth c Q nL g S F G cells slots pc (o0 :: o1 :: o2 :: o3 :: o4 :: o5 :: o6 :: o7 :: o8 :: o9 :: o10 :: o11 :: o12 :: o13 :: o14 :: o15 :: o16 :: o17 :: r) (.ref v :: st) := V.astore C hn hc hd kk
theorem V.inc17 (C : Cx p s m args meth c cc nL own g) {o0 o1 o2 o3 o4 o5 o6 o7 o8 o9 o10 o11 o12 o13 o14 o15 o16 : Option Value} {r : List (Option Value)} {n : Int} {v : Int32} (w : Int32) (hv : Int32.ofInt n = w) (hn : 17 < nL) (hc : xl1 (o0 :: o1 :: o2 :: o3 :: o4 :: o5 :: o6 :: o7 :: o8 :: o9 :: o10 :: o11 :: o12 :: o13 :: o14 :: o15 :: o16 :: some (.int v) :: r) 17 = true) (hd : decode cc pc = .ok (.iinc 17 n, 3)) (kk : V p l e R s m args below meth c Q nL g S F G cells slots (pc + 3) (o0 :: o1 :: o2 :: o3 :: o4 :: o5 :: o6 :: o7 :: o8 :: o9 :: o10 :: o11 :: o12 :: o13 :: o14 :: o15 :: o16 :: some (.int (v + w)) :: r) st) : V p l e R s m args below meth c Q nL g S F G cells slots pc (o0 :: o1 :: o2 :: o3 :: o4 :: o5 :: o6 :: o7 :: o8 :: o9 :: o10 :: o11 :: o12 :: o13 :: o14 :: o15 :: o16 :: some (.int v) :: r) st := V.iinc C w rfl hv hn hc hd kk
theorem V.is18 (C : Cx p s m args meth c cc nL own g) {o0 o1 o2 o3 o4 o5 o6 o7 o8 o9 o10 o11 o12 o13 o14 o15 o16 o17 o18 : Option Value} {r : List (Option Value)} {v : Int32} (hn : 18 < nL) (hc : xl1 (o0 :: o1 :: o2 :: o3 :: o4 :: o5 :: o6 :: o7 :: o8 :: o9 :: o10 :: o11 :: o12 :: o13 :: o14 :: o15 :: o16 :: o17 :: o18 :: r) 18 = true) (hd : decode cc pc = .ok (.istore 18, 2)) (kk : V p l e R s m args below meth c Q nL g S F G cells slots (pc + 2) (o0 :: o1 :: o2 :: o3 :: o4 :: o5 :: o6 :: o7 :: o8 :: o9 :: o10 :: o11 :: o12 :: o13 :: o14 :: o15 :: o16 :: o17 :: some (.int v) :: r) st) : V p l e R s m args below meth c Q nL g S F G cells slots pc (o0 :: o1 :: o2 :: o3 :: o4 :: o5 :: o6 :: o7 :: o8 :: o9 :: o10 :: o11 :: o12 :: o13 :: o14 :: o15 :: o16 :: o17 :: o18 :: r) (.int v :: st) := V.istore C hn hc hd kk
theorem V.as18 (C : Cx p s m args meth c cc nL own g) {o0 o1 o2 o3 o4 o5 o6 o7 o8 o9 o10 o11 o12 o13 o14 o15 o16 o17 o18 : Option Value} {r : List (Option Value)} {v : Nat} (hn : 18 < nL) (hc : xl1 (o0 :: o1 :: o2 :: o3 :: o4 :: o5 :: o6 :: o7 :: o8 :: o9 :: o10 :: o11 :: o12 :: o13 :: o14 :: o15 :: o16 :: o17 :: o18 :: r) 18 = true) (hd : decode cc pc = .ok (.astore 18, 2)) (kk : V p l e R s m args below meth c Q nL g S F G cells slots (pc + 2) (o0 :: o1 :: o2 :: o3 :: o4 :: o5 :: o6 :: o7 :: o8 :: o9 :: o10 :: o11 :: o12 :: o13 :: o14 :: o15 :: o16 :: o17 :: some (.ref v) :: r) st) : V p l e R s m args below meth c Q nL g S F G cells slots pc (o0 :: o1 :: o2 :: o3 :: o4 :: o5 :: o6 :: o7 :: o8 :: o9 :: o10 :: o11 :: o12 :: o13 :: o14 :: o15 :: o16 :: o17 :: o18 :: r) (.ref v :: st) := V.astore C hn hc hd kk
theorem V.inc18 (C : Cx p s m args meth c cc nL own g) {o0 o1 o2 o3 o4 o5 o6 o7 o8 o9 o10 o11 o12 o13 o14 o15 o16 o17 : Option Value} {r : List (Option Value)} {n : Int} {v : Int32} (w : Int32) (hv : Int32.ofInt n = w) (hn : 18 < nL) (hc : xl1 (o0 :: o1 :: o2 :: o3 :: o4 :: o5 :: o6 :: o7 :: o8 :: o9 :: o10 :: o11 :: o12 :: o13 :: o14 :: o15 :: o16 :: o17 :: some (.int v) :: r) 18 = true) (hd : decode cc pc = .ok (.iinc 18 n, 3)) (kk : V p l e R s m args below meth c Q nL g S F G cells slots (pc + 3) (o0 :: o1 :: o2 :: o3 :: o4 :: o5 :: o6 :: o7 :: o8 :: o9 :: o10 :: o11 :: o12 :: o13 :: o14 :: o15 :: o16 :: o17 :: some (.int (v + w)) :: r) st) : V p l e R s m args below meth c Q nL g S F G cells slots pc (o0 :: o1 :: o2 :: o3 :: o4 :: o5 :: o6 :: o7 :: o8 :: o9 :: o10 :: o11 :: o12 :: o13 :: o14 :: o15 :: o16 :: o17 :: some (.int v) :: r) st := V.iinc C w rfl hv hn hc hd kk
theorem V.is19 (C : Cx p s m args meth c cc nL own g) {o0 o1 o2 o3 o4 o5 o6 o7 o8 o9 o10 o11 o12 o13 o14 o15 o16 o17 o18 o19 : Option Value} {r : List (Option Value)} {v : Int32} (hn : 19 < nL) (hc : xl1 (o0 :: o1 :: o2 :: o3 :: o4 :: o5 :: o6 :: o7 :: o8 :: o9 :: o10 :: o11 :: o12 :: o13 :: o14 :: o15 :: o16 :: o17 :: o18 :: o19 :: r) 19 = true) (hd : decode cc pc = .ok (.istore 19, 2)) (kk : V p l e R s m args below meth c Q nL g S F G cells slots (pc + 2) (o0 :: o1 :: o2 :: o3 :: o4 :: o5 :: o6 :: o7 :: o8 :: o9 :: o10 :: o11 :: o12 :: o13 :: o14 :: o15 :: o16 :: o17 :: o18 :: some (.int v) :: r) st) : V p l e R s m args below meth c Q nL g S F G cells slots pc (o0 :: o1 :: o2 :: o3 :: o4 :: o5 :: o6 :: o7 :: o8 :: o9 :: o10 :: o11 :: o12 :: o13 :: o14 :: o15 :: o16 :: o17 :: o18 :: o19 :: r) (.int v :: st) := V.istore C hn hc hd kk
theorem V.as19 (C : Cx p s m args meth c cc nL own g) {o0 o1 o2 o3 o4 o5 o6 o7 o8 o9 o10 o11 o12 o13 o14 o15 o16 o17 o18 o19 : Option Value} {r : List (Option Value)} {v : Nat} (hn : 19 < nL) (hc : xl1 (o0 :: o1 :: o2 :: o3 :: o4 :: o5 :: o6 :: o7 :: o8 :: o9 :: o10 :: o11 :: o12 :: o13 :: o14 :: o15 :: o16 :: o17 :: o18 :: o19 :: r) 19 = true) (hd : decode cc pc = .ok (.astore 19, 2)) (kk : V p l e R s m args below meth c Q nL g S F G cells slots (pc + 2) (o0 :: o1 :: o2 :: o3 :: o4 :: o5 :: o6 :: o7 :: o8 :: o9 :: o10 :: o11 :: o12 :: o13 :: o14 :: o15 :: o16 :: o17 :: o18 :: some (.ref v) :: r) st) : V p l e R s m args below meth c Q nL g S F G cells slots pc (o0 :: o1 :: o2 :: o3 :: o4 :: o5 :: o6 :: o7 :: o8 :: o9 :: o10 :: o11 :: o12 :: o13 :: o14 :: o15 :: o16 :: o17 :: o18 :: o19 :: r) (.ref v :: st) := V.astore C hn hc hd kk
theorem V.inc19 (C : Cx p s m args meth c cc nL own g) {o0 o1 o2 o3 o4 o5 o6 o7 o8 o9 o10 o11 o12 o13 o14 o15 o16 o17 o18 : Option Value} {r : List (Option Value)} {n : Int} {v : Int32} (w : Int32) (hv : Int32.ofInt n = w) (hn : 19 < nL) (hc : xl1 (o0 :: o1 :: o2 :: o3 :: o4 :: o5 :: o6 :: o7 :: o8 :: o9 :: o10 :: o11 :: o12 :: o13 :: o14 :: o15 :: o16 :: o17 :: o18 :: some (.int v) :: r) 19 = true) (hd : decode cc pc = .ok (.iinc 19 n, 3)) (kk : V p l e R s m args below meth c Q nL g S F G cells slots (pc + 3) (o0 :: o1 :: o2 :: o3 :: o4 :: o5 :: o6 :: o7 :: o8 :: o9 :: o10 :: o11 :: o12 :: o13 :: o14 :: o15 :: o16 :: o17 :: o18 :: some (.int (v + w)) :: r) st) : V p l e R s m args below meth c Q nL g S F G cells slots pc (o0 :: o1 :: o2 :: o3 :: o4 :: o5 :: o6 :: o7 :: o8 :: o9 :: o10 :: o11 :: o12 :: o13 :: o14 :: o15 :: o16 :: o17 :: o18 :: some (.int v) :: r) st := V.iinc C w rfl hv hn hc hd kk
theorem V.is20 (C : Cx p s m args meth c cc nL own g) {o0 o1 o2 o3 o4 o5 o6 o7 o8 o9 o10 o11 o12 o13 o14 o15 o16 o17 o18 o19 o20 : Option Value} {r : List (Option Value)} {v : Int32} (hn : 20 < nL) (hc : xl1 (o0 :: o1 :: o2 :: o3 :: o4 :: o5 :: o6 :: o7 :: o8 :: o9 :: o10 :: o11 :: o12 :: o13 :: o14 :: o15 :: o16 :: o17 :: o18 :: o19 :: o20 :: r) 20 = true) (hd : decode cc pc = .ok (.istore 20, 2)) (kk : V p l e R s m args below meth c Q nL g S F G cells slots (pc + 2) (o0 :: o1 :: o2 :: o3 :: o4 :: o5 :: o6 :: o7 :: o8 :: o9 :: o10 :: o11 :: o12 :: o13 :: o14 :: o15 :: o16 :: o17 :: o18 :: o19 :: some (.int v) :: r) st) : V p l e R s m args below meth c Q nL g S F G cells slots pc (o0 :: o1 :: o2 :: o3 :: o4 :: o5 :: o6 :: o7 :: o8 :: o9 :: o10 :: o11 :: o12 :: o13 :: o14 :: o15 :: o16 :: o17 :: o18 :: o19 :: o20 :: r) (.int v :: st) := V.istore C hn hc hd kk
theorem V.as20 (C : Cx p s m args meth c cc nL own g) {o0 o1 o2 o3 o4 o5 o6 o7 o8 o9 o10 o11 o12 o13 o14 o15 o16 o17 o18 o19 o20 : Option Value} {r : List (Option Value)} {v : Nat} (hn : 20 < nL) (hc : xl1 (o0 :: o1 :: o2 :: o3 :: o4 :: o5 :: o6 :: o7 :: o8 :: o9 :: o10 :: o11 :: o12 :: o13 :: o14 :: o15 :: o16 :: o17 :: o18 :: o19 :: o20 :: r) 20 = true) (hd : decode cc pc = .ok (.astore 20, 2)) (kk : V p l e R s m args below meth c Q nL g S F G cells slots (pc + 2) (o0 :: o1 :: o2 :: o3 :: o4 :: o5 :: o6 :: o7 :: o8 :: o9 :: o10 :: o11 :: o12 :: o13 :: o14 :: o15 :: o16 :: o17 :: o18 :: o19 :: some (.ref v) :: r) st) : V p l e R s m args below meth c Q nL g S F G cells slots pc (o0 :: o1 :: o2 :: o3 :: o4 :: o5 :: o6 :: o7 :: o8 :: o9 :: o10 :: o11 :: o12 :: o13 :: o14 :: o15 :: o16 :: o17 :: o18 :: o19 :: o20 :: r) (.ref v :: st) := V.astore C hn hc hd kk
theorem V.inc20 (C : Cx p s m args meth c cc nL own g) {o0 o1 o2 o3 o4 o5 o6 o7 o8 o9 o10 o11 o12 o13 o14 o15 o16 o17 o18 o19 : Option Value} {r : List (Option Value)} {n : Int} {v : Int32} (w : Int32) (hv : Int32.ofInt n = w) (hn : 20 < nL) (hc : xl1 (o0 :: o1 :: o2 :: o3 :: o4 :: o5 :: o6 :: o7 :: o8 :: o9 :: o10 :: o11 :: o12 :: o13 :: o14 :: o15 :: o16 :: o17 :: o18 :: o19 :: some (.int v) :: r) 20 = true) (hd : decode cc pc = .ok (.iinc 20 n, 3)) (kk : V p l e R s m args below meth c Q nL g S F G cells slots (pc + 3) (o0 :: o1 :: o2 :: o3 :: o4 :: o5 :: o6 :: o7 :: o8 :: o9 :: o10 :: o11 :: o12 :: o13 :: o14 :: o15 :: o16 :: o17 :: o18 :: o19 :: some (.int (v + w)) :: r) st) : V p l e R s m args below meth c Q nL g S F G cells slots pc (o0 :: o1 :: o2 :: o3 :: o4 :: o5 :: o6 :: o7 :: o8 :: o9 :: o10 :: o11 :: o12 :: o13 :: o14 :: o15 :: o16 :: o17 :: o18 :: o19 :: some (.int v) :: r) st := V.iinc C w rfl hv hn hc hd kk
theorem V.is21 (C : Cx p s m args meth c cc nL own g) {o0 o1 o2 o3 o4 o5 o6 o7 o8 o9 o10 o11 o12 o13 o14 o15 o16 o17 o18 o19 o20 o21 : Option Value} {r : List (Option Value)} {v : Int32} (hn : 21 < nL) (hc : xl1 (o0 :: o1 :: o2 :: o3 :: o4 :: o5 :: o6 :: o7 :: o8 :: o9 :: o10 :: o11 :: o12 :: o13 :: o14 :: o15 :: o16 :: o17 :: o18 :: o19 :: o20 :: o21 :: r) 21 = true) (hd : decode cc pc = .ok (.istore 21, 2)) (kk : V p l e R s m args below meth c Q nL g S F G cells slots (pc + 2) (o0 :: o1 :: o2 :: o3 :: o4 :: o5 :: o6 :: o7 :: o8 :: o9 :: o10 :: o11 :: o12 :: o13 :: o14 :: o15 :: o16 :: o17 :: o18 :: o19 :: o20 :: some (.int v) :: r) st) : V p l e R s m args below meth c Q nL g S F G cells slots pc (o0 :: o1 :: o2 :: o3 :: o4 :: o5 :: o6 :: o7 :: o8 :: o9 :: o10 :: o11 :: o12 :: o13 :: o14 :: o15 :: o16 :: o17 :: o18 :: o19 :: o20 :: o21 :: r) (.int v :: st) := V.istore C hn hc hd kk
theorem V.as21 (C : Cx p s m args meth c cc nL own g) {o0 o1 o2 o3 o4 o5 o6 o7 o8 o9 o10 o11 o12 o13 o14 o15 o16 o17 o18 o19 o20 o21 : Option Value} {r : List (Option Value)} {v : Nat} (hn : 21 < nL) (hc : xl1 (o0 :: o1 :: o2 :: o3 :: o4 :: o5 :: o6 :: o7 :: o8 :: o9 :: o10 :: o11 :: o12 :: o13 :: o14 :: o15 :: o16 :: o17 :: o18 :: o19 :: o20 :: o21 :: r) 21 = true) (hd : decode cc pc = .ok (.astore 21, 2)) (kk : V p l e R s m args below meth c Q nL g S F G cells slots (pc + 2) (o0 :: o1 :: o2 :: o3 :: o4 :: o5 :: o6 :: o7 :: o8 :: o9 :: o10 :: o11 :: o12 :: o13 :: o14 :: o15 :: o16 :: o17 :: o18 :: o19 :: o20 :: some (.ref v) :: r) st) : V p l e R s m args below meth c Q nL g S F G cells slots pc (o0 :: o1 :: o2 :: o3 :: o4 :: o5 :: o6 :: o7 :: o8 :: o9 :: o10 :: o11 :: o12 :: o13 :: o14 :: o15 :: o16 :: o17 :: o18 :: o19 :: o20 :: o21 :: r) (.ref v :: st) := V.astore C hn hc hd kk
theorem V.inc21 (C : Cx p s m args meth c cc nL own g) {o0 o1 o2 o3 o4 o5 o6 o7 o8 o9 o10 o11 o12 o13 o14 o15 o16 o17 o18 o19 o20 : Option Value} {r : List (Option Value)} {n : Int} {v : Int32} (w : Int32) (hv : Int32.ofInt n = w) (hn : 21 < nL) (hc : xl1 (o0 :: o1 :: o2 :: o3 :: o4 :: o5 :: o6 :: o7 :: o8 :: o9 :: o10 :: o11 :: o12 :: o13 :: o14 :: o15 :: o16 :: o17 :: o18 :: o19 :: o20 :: some (.int v) :: r) 21 = true) (hd : decode cc pc = .ok (.iinc 21 n, 3)) (kk : V p l e R s m args below meth c Q nL g S F G cells slots (pc + 3) (o0 :: o1 :: o2 :: o3 :: o4 :: o5 :: o6 :: o7 :: o8 :: o9 :: o10 :: o11 :: o12 :: o13 :: o14 :: o15 :: o16 :: o17 :: o18 :: o19 :: o20 :: some (.int (v + w)) :: r) st) : V p l e R s m args below meth c Q nL g S F G cells slots pc (o0 :: o1 :: o2 :: o3 :: o4 :: o5 :: o6 :: o7 :: o8 :: o9 :: o10 :: o11 :: o12 :: o13 :: o14 :: o15 :: o16 :: o17 :: o18 :: o19 :: o20 :: some (.int v) :: r) st := V.iinc C w rfl hv hn hc hd kk
theorem V.is22 (C : Cx p s m args meth c cc nL own g) {o0 o1 o2 o3 o4 o5 o6 o7 o8 o9 o10 o11 o12 o13 o14 o15 o16 o17 o18 o19 o20 o21 o22 : Option Value} {r : List (Option Value)} {v : Int32} (hn : 22 < nL) (hc : xl1 (o0 :: o1 :: o2 :: o3 :: o4 :: o5 :: o6 :: o7 :: o8 :: o9 :: o10 :: o11 :: o12 :: o13 :: o14 :: o15 :: o16 :: o17 :: o18 :: o19 :: o20 :: o21 :: o22 :: r) 22 = true) (hd : decode cc pc = .ok (.istore 22, 2)) (kk : V p l e R s m args below meth c Q nL g S F G cells slots (pc + 2) (o0 :: o1 :: o2 :: o3 :: o4 :: o5 :: o6 :: o7 :: o8 :: o9 :: o10 :: o11 :: o12 :: o13 :: o14 :: o15 :: o16 :: o17 :: o18 :: o19 :: o20 :: o21 :: some (.int v) :: r) st) : V p l e R s m args below meth c Q nL g S F G cells slots pc (o0 :: o1 :: o2 :: o3 :: o4 :: o5 :: o6 :: o7 :: o8 :: o9 :: o10 :: o11 :: o12 :: o13 :: o14 :: o15 :: o16 :: o17 :: o18 :: o19 :: o20 :: o21 :: o22 :: r) (.int v :: st) := V.istore C hn hc hd kk
theorem V.as22 (C : Cx p s m args meth c cc nL own g) {o0 o1 o2 o3 o4 o5 o6 o7 o8 o9 o10 o11 o12 o13 o14 o15 o16 o17 o18 o19 o20 o21 o22 : Option Value} {r : List (Option Value)} {v : Nat} (hn : 22 < nL) (hc : xl1 (o0 :: o1 :: o2 :: o3 :: o4 :: o5 :: o6 :: o7 :: o8 :: o9 :: o10 :: o11 :: o12 :: o13 :: o14 :: o15 :: o16 :: o17 :: o18 :: o19 :: o20 :: o21 :: o22 :: r) 22 = true) (hd : decode cc pc = .ok (.astore 22, 2)) (kk : V p l e R s m args below meth c Q nL g S F G cells slots (pc + 2) (o0 :: o1 :: o2 :: o3 :: o4 :: o5 :: o6 :: o7 :: o8 :: o9 :: o10 :: o11 :: o12 :: o13 :: o14 :: o15 :: o16 :: o17 :: o18 :: o19 :: o20 :: o21 :: some (.ref v) :: r) st) : V p l e R s m args below meth c Q nL g S F G cells slots pc (o0 :: o1 :: o2 :: o3 :: o4 :: o5 :: o6 :: o7 :: o8 :: o9 :: o10 :: o11 :: o12 :: o13 :: o14 :: o15 :: o16 :: o17 :: o18 :: o19 :: o20 :: o21 :: o22 :: r) (.ref v :: st) := V.astore C hn hc hd kk
theorem V.inc22 (C : Cx p s m args meth c cc nL own g) {o0 o1 o2 o3 o4 o5 o6 o7 o8 o9 o10 o11 o12 o13 o14 o15 o16 o17 o18 o19 o20 o21 : Option Value} {r : List (Option Value)} {n : Int} {v : Int32} (w : Int32) (hv : Int32.ofInt n = w) (hn : 22 < nL) (hc : xl1 (o0 :: o1 :: o2 :: o3 :: o4 :: o5 :: o6 :: o7 :: o8 :: o9 :: o10 :: o11 :: o12 :: o13 :: o14 :: o15 :: o16 :: o17 :: o18 :: o19 :: o20 :: o21 :: some (.int v) :: r) 22 = true) (hd : decode cc pc = .ok (.iinc 22 n, 3)) (kk : V p l e R s m args below meth c Q nL g S F G cells slots (pc + 3) (o0 :: o1 :: o2 :: o3 :: o4 :: o5 :: o6 :: o7 :: o8 :: o9 :: o10 :: o11 :: o12 :: o13 :: o14 :: o15 :: o16 :: o17 :: o18 :: o19 :: o20 :: o21 :: some (.int (v + w)) :: r) st) : V p l e R s m args below meth c Q nL g S F G cells slots pc (o0 :: o1 :: o2 :: o3 :: o4 :: o5 :: o6 :: o7 :: o8 :: o9 :: o10 :: o11 :: o12 :: o13 :: o14 :: o15 :: o16 :: o17 :: o18 :: o19 :: o20 :: o21 :: some (.int v) :: r) st := V.iinc C w rfl hv hn hc hd kk
theorem V.is23 (C : Cx p s m args meth c cc nL own g) {o0 o1 o2 o3 o4 o5 o6 o7 o8 o9 o10 o11 o12 o13 o14 o15 o16 o17 o18 o19 o20 o21 o22 o23 : Option Value} {r : List (Option Value)} {v : Int32} (hn : 23 < nL) (hc : xl1 (o0 :: o1 :: o2 :: o3 :: o4 :: o5 :: o6 :: o7 :: o8 :: o9 :: o10 :: o11 :: o12 :: o13 :: o14 :: o15 :: o16 :: o17 :: o18 :: o19 :: o20 :: o21 :: o22 :: o23 :: r) 23 = true) (hd : decode cc pc = .ok (.istore 23, 2)) (kk : V p l e R s m args below meth c Q nL g S F G cells slots (pc + 2) (o0 :: o1 :: o2 :: o3 :: o4 :: o5 :: o6 :: o7 :: o8 :: o9 :: o10 :: o11 :: o12 :: o13 :: o14 :: o15 :: o16 :: o17 :: o18 :: o19 :: o20 :: o21 :: o22 :: some (.int v) :: r) st) : V p l e R s m args below meth c Q nL g S F G cells slots pc (o0 :: o1 :: o2 :: o3 :: o4 :: o5 :: o6 :: o7 :: o8 :: o9 :: o10 :: o11 :: o12 :: o13 :: o14 :: o15 :: o16 :: o17 :: o18 :: o19 :: o20 :: o21 :: o22 :: o23 :: r) (.int v :: st) := V.istore C hn hc hd kk
theorem V.as23 (C : Cx p s m args meth c cc nL own g) {o0 o1 o2 o3 o4 o5 o6 o7 o8 o9 o10 o11 o12 o13 o14 o15 o16 o17 o18 o19 o20 o21 o22 o23 : Option Value} {r : List (Option Value)} {v : Nat} (hn : 23 < nL) (hc : xl1 (o0 :: o1 :: o2 :: o3 :: o4 :: o5 :: o6 :: o7 :: o8 :: o9 :: o10 :: o11 :: o12 :: o13 :: o14 :: o15 :: o16 :: o17 :: o18 :: o19 :: o20 :: o21 :: o22 :: o23 :: r) 23 = true) (hd : decode cc pc = .ok (.astore 23, 2)) (kk : V p l e R s m args below meth c Q nL g S F G cells slots (pc + 2) (o0 :: o1 :: o2 :: o3 :: o4 :: o5 :: o6 :: o7 :: o8 :: o9 :: o10 :: o11 :: o12 :: o13 :: o14 :: o15 :: o16 :: o17 :: o18 :: o19 :: o20 :: o21 :: o22 :: some (.ref v) :: r) st) : V p l e R s m args below meth c Q nL g S F G cells slots pc (o0 :: o1 :: o2 :: o3 :: o4 :: o5 :: o6 :: o7 :: o8 :: o9 :: o10 :: o11 :: o12 :: o13 :: o14 :: o15 :: o16 :: o17 :: o18 :: o19 :: o20 :: o21 :: o22 :: o23 :: r) (.ref v :: st) := V.astore C hn hc hd kk
theorem V.inc23 (C : Cx p s m args meth c cc nL own g) {o0 o1 o2 o3 o4 o5 o6 o7 o8 o9 o10 o11 o12 o13 o14 o15 o16 o17 o18 o19 o20 o21 o22 : Option Value} {r : List (Option Value)} {n : Int} {v : Int32} (w : Int32) (hv : Int32.ofInt n = w) (hn : 23 < nL) (hc : xl1 (o0 :: o1 :: o2 :: o3 :: o4 :: o5 :: o6 :: o7 :: o8 :: o9 :: o10 :: o11 :: o12 :: o13 :: o14 :: o15 :: o16 :: o17 :: o18 :: o19 :: o20 :: o21 :: o22 :: some (.int v) :: r) 23 = true) (hd : decode cc pc = .ok (.iinc 23 n, 3)) (kk : V p l e R s m args below meth c Q nL g S F G cells slots (pc + 3) (o0 :: o1 :: o2 :: o3 :: o4 :: o5 :: o6 :: o7 :: o8 :: o9 :: o10 :: o11 :: o12 :: o13 :: o14 :: o15 :: o16 :: o17 :: o18 :: o19 :: o20 :: o21 :: o22 :: some (.int (v + w)) :: r) st) : V p l e R s m args below meth c Q nL g S F G cells slots pc (o0 :: o1 :: o2 :: o3 :: o4 :: o5 :: o6 :: o7 :: o8 :: o9 :: o10 :: o11 :: o12 :: o13 :: o14 :: o15 :: o16 :: o17 :: o18 :: o19 :: o20 :: o21 :: o22 :: some (.int v) :: r) st := V.iinc C w rfl hv hn hc hd kk
theorem V.is24 (C : Cx p s m args meth c cc nL own g) {o0 o1 o2 o3 o4 o5 o6 o7 o8 o9 o10 o11 o12 o13 o14 o15 o16 o17 o18 o19 o20 o21 o22 o23 o24 : Option Value} {r : List (Option Value)} {v : Int32} (hn : 24 < nL) (hc : xl1 (o0 :: o1 :: o2 :: o3 :: o4 :: o5 :: o6 :: o7 :: o8 :: o9 :: o10 :: o11 :: o12 :: o13 :: o14 :: o15 :: o16 :: o17 :: o18 :: o19 :: o20 :: o21 :: o22 :: o23 :: o24 :: r) 24 = true) (hd : decode cc pc = .ok (.istore 24, 2)) (kk : V p l e R s m args below meth c Q nL g S F G cells slots (pc + 2) (o0 :: o1 :: o2 :: o3 :: o4 :: o5 :: o6 :: o7 :: o8 :: o9 :: o10 :: o11 :: o12 :: o13 :: o14 :: o15 :: o16 :: o17 :: o18 :: o19 :: o20 :: o21 :: o22 :: o23 :: some (.int v) :: r) st) : V p l e R s m args below meth c Q nL g S F G cells slots pc (o0 :: o1 :: o2 :: o3 :: o4 :: o5 :: o6 :: o7 :: o8 :: o9 :: o10 :: o11 :: o12 :: o13 :: o14 :: o15 :: o16 :: o17 :: o18 :: o19 :: o20 :: o21 :: o22 :: o23 :: o24 :: r) (.int v :: st) := V.istore C hn hc hd kk
theorem V.as24 (C : Cx p s m args meth c cc nL own g) {o0 o1 o2 o3 o4 o5 o6 o7 o8 o9 o10 o11 o12 o13 o14 o15 o16 o17 o18 o19 o20 o21 o22 o23 o24 : Option Value} {r : List (Option Value)} {v : Nat} (hn : 24 < nL) (hc : xl1 (o0 :: o1 :: o2 :: o3 :: o4 :: o5 :: o6 :: o7 :: o8 :: o9 :: o10 :: o11 :: o12 :: o13 :: o14 :: o15 :: o16 :: o17 :: o18 :: o19 :: o20 :: o21 :: o22 :: o23 :: o24 :: r) 24 = true) (hd : decode cc pc = .ok (.astore 24, 2)) (kk : V p l e R s m args below meth c Q nL g S F G cells slots (pc + 2) (o0 :: o1 :: o2 :: o3 :: o4 :: o5 :: o6 :: o7 :: o8 :: o9 :: o10 :: o11 :: o12 :: o13 :: o14 :: o15 :: o16 :: o17 :: o18 :: o19 :: o20 :: o21 :: o22 :: o23 :: some (.ref v) :: r) st) : V p l e R s m args below meth c Q nL g S F G cells slots pc (o0 :: o1 :: o2 :: o3 :: o4 :: o5 :: o6 :: o7 :: o8 :: o9 :: o10 :: o11 :: o12 :: o13 :: o14 :: o15 :: o16 :: o17 :: o18 :: o19 :: o20 :: o21 :: o22 :: o23 :: o24 :: r) (.ref v :: st) := V.astore C hn hc hd kk
theorem V.inc24 (C : Cx p s m args meth c cc nL own g) {o0 o1 o2 o3 o4 o5 o6 o7 o8 o9 o10 o11 o12 o13 o14 o15 o16 o17 o18 o19 o20 o21 o22 o23 : Option Value} {r : List (Option Value)} {n : Int} {v : Int32} (w : Int32) (hv : Int32.ofInt n = w) (hn : 24 < nL) (hc : xl1 (o0 :: o1 :: o2 :: o3 :: o4 :: o5 :: o6 :: o7 :: o8 :: o9 :: o10 :: o11 :: o12 :: o13 :: o14 :: o15 :: o16 :: o17 :: o18 :: o19 :: o20 :: o21 :: o22 :: o23 :: some (.int v) :: r) 24 = true) (hd : decode cc pc = .ok (.iinc 24 n, 3)) (kk : V p l e R s m args below meth c Q nL g S F G cells slots (pc + 3) (o0 :: o1 :: o2 :: o3 :: o4 :: o5 :: o6 :: o7 :: o8 :: o9 :: o10 :: o11 :: o12 :: o13 :: o14 :: o15 :: o16 :: o17 :: o18 :: o19 :: o20 :: o21 :: o22 :: o23 :: some (.int (v + w)) :: r) st) : V p l e R s m args below meth c Q nL g S F G cells slots pc (o0 :: o1 :: o2 :: o3 :: o4 :: o5 :: o6 :: o7 :: o8 :: o9 :: o10 :: o11 :: o12 :: o13 :: o14 :: o15 :: o16 :: o17 :: o18 :: o19 :: o20 :: o21 :: o22 :: o23 :: some (.int v) :: r) st := V.iinc C w rfl hv hn hc hd kk
theorem V.is25 (C : Cx p s m args meth c cc nL own g) {o0 o1 o2 o3 o4 o5 o6 o7 o8 o9 o10 o11 o12 o13 o14 o15 o16 o17 o18 o19 o20 o21 o22 o23 o24 o25 : Option Value} {r : List (Option Value)} {v : Int32} (hn : 25 < nL) (hc : xl1 (o0 :: o1 :: o2 :: o3 :: o4 :: o5 :: o6 :: o7 :: o8 :: o9 :: o10 :: o11 :: o12 :: o13 :: o14 :: o15 :: o16 :: o17 :: o18 :: o19 :: o20 :: o21 :: o22 :: o23 :: o24 :: o25 :: r) 25 = true) (hd : decode cc pc = .ok (.istore 25, 2)) (kk : V p l e R s m args below meth c Q nL g S F G cells slots (pc + 2) (o0 :: o1 :: o2 :: o3 :: o4 :: o5 :: o6 :: o7 :: o8 :: o9 :: o10 :: o11 :: o12 :: o13 :: o14 :: o15 :: o16 :: o17 :: o18 :: o19 :: o20 :: o21 :: o22 :: o23 :: o24 :: some (.int v) :: r) st) : V p l e R s m args below meth c Q nL g S F G cells slots pc (o0 :: o1 :: o2 :: o3 :: o4 :: o5 :: o6 :: o7 :: o8 :: o9 :: o10 :: o11 :: o12 :: o13 :: o14 :: o15 :: o16 :: o17 :: o18 :: o19 :: o20 :: o21 :: o22 :: o23 :: o24 :: o25 :: r) (.int v :: st) := V.istore C hn hc hd kk
theorem V.as25 (C : Cx p s m args meth c cc nL own g) {o0 o1 o2 o3 o4 o5 o6 o7 o8 o9 o10 o11 o12 o13 o14 o15 o16 o17 o18 o19 o20 o21 o22 o23 o24 o25 : Option Value} {r : List (Option Value)} {v : Nat} (hn : 25 < nL) (hc : xl1 (o0 :: o1 :: o2 :: o3 :: o4 :: o5 :: o6 :: o7 :: o8 :: o9 :: o10 :: o11 :: o12 :: o13 :: o14 :: o15 :: o16 :: o17 :: o18 :: o19 :: o20 :: o21 :: o22 :: o23 :: o24 :: o25 :: r) 25 = true) (hd : decode cc pc = .ok (.astore 25, 2)) (kk : V p l e R s m args below meth c Q nL g S F G cells slots (pc + 2) (o0 :: o1 :: o2 :: o3 :: o4 :: o5 :: o6 :: o7 :: o8 :: o9 :: o10 :: o11 :: o12 :: o13 :: o14 :: o15 :: o16 :: o17 :: o18 :: o19 :: o20 :: o21 :: o22 :: o23 :: o24 :: some (.ref v) :: r) st) : V p l e R s m args below meth c Q nL g S F G cells slots pc (o0 :: o1 :: o2 :: o3 :: o4 :: o5 :: o6 :: o7 :: o8 :: o9 :: o10 :: o11 :: o12 :: o13 :: o14 :: o15 :: o16 :: o17 :: o18 :: o19 :: o20 :: o21 :: o22 :: o23 :: o24 :: o25 :: r) (.ref v :: st) := V.astore C hn hc hd kk
theorem V.inc25 (C : Cx p s m args meth c cc nL own g) {o0 o1 o2 o3 o4 o5 o6 o7 o8 o9 o10 o11 o12 o13 o14 o15 o16 o17 o18 o19 o20 o21 o22 o23 o24 : Option Value} {r : List (Option Value)} {n : Int} {v : Int32} (w : Int32) (hv : Int32.ofInt n = w) (hn : 25 < nL) (hc : xl1 (o0 :: o1 :: o2 :: o3 :: o4 :: o5 :: o6 :: o7 :: o8 :: o9 :: o10 :: o11 :: o12 :: o13 :: o14 :: o15 :: o16 :: o17 :: o18 :: o19 :: o20 :: o21 :: o22 :: o23 :: o24 :: some (.int v) :: r) 25 = true) (hd : decode cc pc = .ok (.iinc 25 n, 3)) (kk : V p l e R s m args below meth c Q nL g S F G cells slots (pc + 3) (o0 :: o1 :: o2 :: o3 :: o4 :: o5 :: o6 :: o7 :: o8 :: o9 :: o10 :: o11 :: o12 :: o13 :: o14 :: o15 :: o16 :: o17 :: o18 :: o19 :: o20 :: o21 :: o22 :: o23 :: o24 :: some (.int (v + w)) :: r) st) : V p l e R s m args below meth c Q nL g S F G cells slots pc (o0 :: o1 :: o2 :: o3 :: o4 :: o5 :: o6 :: o7 :: o8 :: o9 :: o10 :: o11 :: o12 :: o13 :: o14 :: o15 :: o16 :: o17 :: o18 :: o19 :: o20 :: o21 :: o22 :: o23 :: o24 :: some (.int v) :: r) st := V.iinc C w rfl hv hn hc hd kk
theorem V.if_eq (C : Cx p s m args meth c cc nL own g) {x1 : Int32} {off : Int} (tgt : Nat) (ht : (pc : Int) + off = (tgt : Int)) (hd : decode cc pc = .ok (.ifCond .eq off, 3)) (kt : x1 = 0 → V p l e R s m args below meth c Q nL g S F G cells slots tgt lv st) (kf : ¬ x1 = 0 → V p l e R s m args below meth c Q nL g S F G cells slots (pc + 3) lv st) : V p l e R s m args below meth c Q nL g S F G cells slots pc lv (.int x1 :: st) := fun H locs ls h1 h2 h3 h4 => lv_if_eq C.x C.b hd ht (fun q => kt q H locs ls h1 h2 h3 h4) (fun q => kf q H locs ls h1 h2 h3 h4)
theorem V.if_ne (C : Cx p s m args meth c cc nL own g) {x1 : Int32} {off : Int} (tgt : Nat) (ht : (pc : Int) + off = (tgt : Int)) (hd : decode cc pc = .ok (.ifCond .ne off, 3)) (kt : ¬ x1 = 0 → V p l e R s m args below meth c Q nL g S F G cells slots tgt lv st) (kf : x1 = 0 → V p l e R s m args below meth c Q nL g S F G cells slots (pc + 3) lv st) : V p l e R s m args below meth c Q nL g S F G cells slots pc lv (.int x1 :: st) := fun H locs ls h1 h2 h3 h4 => lv_if_ne C.x C.b hd ht (fun q => kt q H locs ls h1 h2 h3 h4) (fun q => kf q H locs ls h1 h2 h3 h4)
theorem V.if_lt (C : Cx p s m args meth c cc nL own g) {x1 : Int32} {off : Int} (tgt : Nat) (ht : (pc : Int) + off = (tgt : Int)) (hd : decode cc pc = .ok (.ifCond .lt off, 3)) (kt : x1 < 0 → V p l e R s m args below meth c Q nL g S F G cells slots tgt lv st) (kf : ¬ x1 < 0 → V p l e R s m args below meth c Q nL g S F G cells slots (pc + 3) lv st) : V p l e R s m args below meth c Q nL g S F G cells slots pc lv (.int x1 :: st) := fun H locs ls h1 h2 h3 h4 => lv_if_lt C.x C.b hd ht (fun q => kt q H locs ls h1 h2 h3 h4) (fun q => kf q H locs ls h1 h2 h3 h4)
theorem V.if_ge (C : Cx p s m args meth c cc nL own g) {x1 : Int32} {off : Int} (tgt : Nat) (ht : (pc : Int) + off = (tgt : Int)) (hd : decode cc pc = .ok (.ifCond .ge off, 3)) (kt : 0 ≤ x1 → V p l e R s m args below meth c Q nL g S F G cells slots tgt lv st) (kf : ¬ 0 ≤ x1 → V p l e R s m args below meth c Q nL g S F G cells slots (pc + 3) lv st) : V p l e R s m args below meth c Q nL g S F G cells slots pc lv (.int x1 :: st) := fun H locs ls h1 h2 h3 h4 => lv_if_ge C.x C.b hd ht (fun q => kt q H locs ls h1 h2 h3 h4) (fun q => kf q H locs ls h1 h2 h3 h4)
theorem V.if_gt (C : Cx p s m args meth c cc nL own g) {x1 : Int32} {off : Int} (tgt : Nat) (ht : (pc : Int) + off = (tgt : Int)) (hd : decode cc pc = .ok (.ifCond .gt off, 3)) (kt : 0 < x1 → V p l e R s m args below meth c Q nL g S F G cells slots tgt lv st) (kf : ¬ 0 < x1 → V p l e R s m args below meth c Q nL g S F G cells slots (pc + 3) lv st) : V p l e R s m args below meth c Q nL g S F G cells slots pc lv (.int x1 :: st) := fun H locs ls h1 h2 h3 h4 => lv_if_gt C.x C.b hd ht (fun q => kt q H locs ls h1 h2 h3 h4) (fun q => kf q H locs ls h1 h2 h3 h4)
theorem V.if_le (C : Cx p s m args meth c cc nL own g) {x1 : Int32} {off : Int} (tgt : Nat) (ht : (pc : Int) + off = (tgt : Int)) (hd : decode cc pc = .ok (.ifCond .le off, 3)) (kt : x1 ≤ 0 → V p l e R s m args below meth c Q nL g S F G cells slots tgt lv st) (kf : ¬ x1 ≤ 0 → V p l e R s m args below meth c Q nL g S F G cells slots (pc + 3) lv st) : V p l e R s m args below meth c Q nL g S F G cells slots pc lv (.int x1 :: st) := fun H locs ls h1 h2 h3 h4 => lv_if_le C.x C.b hd ht (fun q => kt q H locs ls h1 h2 h3 h4) (fun q => kf q H locs ls h1 h2 h3 h4)
theorem V.icmp_eq (C : Cx p s m args meth c cc nL own g) {x1 y1 : Int32} {off : Int} (tgt : Nat) (ht : (pc : Int) + off = (tgt : Int)) (hd : decode cc pc = .ok (.if_icmp .eq off, 3)) (kt : x1 = y1 → V p l e R s m args below meth c Q nL g S F G cells slots tgt lv st) (kf : ¬ x1 = y1 → V p l e R s m args below meth c Q nL g S F G cells slots (pc + 3) lv st) : V p l e R s m args below meth c Q nL g S F G cells slots pc lv (.int y1 :: .int x1 :: st) := fun H locs ls h1 h2 h3 h4 => lv_icmp_eq C.x C.b hd ht (fun q => kt q H locs ls h1 h2 h3 h4) (fun q => kf q H locs ls h1 h2 h3 h4)
theorem V.icmp_ne (C : Cx p s m args meth c cc nL own g) {x1 y1 : Int32} {off : Int} (tgt : Nat) (ht : (pc : Int) + off = (tgt : Int)) (hd : decode cc pc = .ok (.if_icmp .ne off, 3)) (kt : ¬ x1 = y1 → V p l e R s m args below meth c Q nL g S F G cells slots tgt lv st) (kf : x1 = y1 → V p l e R s m args below meth c Q nL g S F G cells slots (pc + 3) lv st) : V p l e R s m args below meth c Q nL g S F G cells slots pc lv (.int y1 :: .int x1 :: st) := fun H locs ls h1 h2 h3 h4 => lv_icmp_ne C.x C.b hd ht (fun q => kt q H locs ls h1 h2 h3 h4) (fun q => kf q H locs ls h1 h2 h3 h4)
theorem V.icmp_lt (C : Cx p s m args meth c cc nL own g) {x1 y1 : Int32} {off : Int} (tgt : Nat) (ht : (pc : Int) + off = (tgt : Int)) (hd : decode cc pc = .ok (.if_icmp .lt off, 3)) (kt : x1 < y1 → V p l e R s m args below meth c Q nL g S F G cells slots tgt lv st) (kf : ¬ x1 < y1 → V p l e R s m args below meth c Q nL g S F G cells slots (pc + 3) lv st) : V p l e R s m args below meth c Q nL g S F G cells slots pc lv (.int y1 :: .int x1 :: st) := fun H locs ls h1 h2 h3 h4 => lv_icmp_lt C.x C.b hd ht (fun q => kt q H locs ls h1 h2 h3 h4) (fun q => kf q H locs ls h1 h2 h3 h4)
theorem V.icmp_ge (C : Cx p s m args meth c cc nL own g) {x1 y1 : Int32} {off : Int} (tgt : Nat) (ht : (pc : Int) + off = (tgt : Int)) (hd : decode cc pc = .ok (.if_icmp .ge off, 3)) (kt : y1 ≤ x1 → V p l e R s m args below meth c Q nL g S F G cells slots tgt lv st) (kf : ¬ y1 ≤ x1 → V p l e R s m args below meth c Q nL g S F G cells slots (pc + 3) lv st) : V p l e R s m args below meth c Q nL g S F G cells slots pc lv (.int y1 :: .int x1 :: st) := fun H locs ls h1 h2 h3 h4 => lv_icmp_ge C.x C.b hd ht (fun q => kt q H locs ls h1 h2 h3 h4) (fun q => kf q H locs ls h1 h2 h3 h4)
theorem V.icmp_gt (C : Cx p s m args meth c cc nL own g) {x1 y1 : Int32} {off : Int} (tgt : Nat) (ht : (pc : Int) + off = (tgt : Int)) (hd : decode cc pc = .ok (.if_icmp .gt off, 3)) (kt : y1 < x1 → V p l e R s m args below meth c Q nL g S F G cells slots tgt lv st) (kf : ¬ y1 < x1 → V p l e R s m args below meth c Q nL g S F G cells slots (pc + 3) lv st) : V p l e R s m args below meth c Q nL g S F G cells slots pc lv (.int y1 :: .int x1 :: st) := fun H locs ls h1 h2 h3 h4 => lv_icmp_gt C.x C.b hd ht (fun q => kt q H locs ls h1 h2 h3 h4) (fun q => kf q H locs ls h1 h2 h3 h4)
theorem V.icmp_le (C : Cx p s m args meth c cc nL own g) {x1 y1 : Int32} {off : Int} (tgt : Nat) (ht : (pc : Int) + off = (tgt : Int)) (hd : decode cc pc = .ok (.if_icmp .le off, 3)) (kt : x1 ≤ y1 → V p l e R s m args below meth c Q nL g S F G cells slots tgt lv st) (kf : ¬ x1 ≤ y1 → V p l e R s m args below meth c Q nL g S F G cells slots (pc + 3) lv st) : V p l e R s m args below meth c Q nL g S F G cells slots pc lv (.int y1 :: .int x1 :: st) := fun H locs ls h1 h2 h3 h4 => lv_icmp_le C.x C.b hd ht (fun q => kt q H locs ls h1 h2 h3 h4) (fun q => kf q H locs ls h1 h2 h3 h4)
theorem V.goto (C : Cx p s m args meth c cc nL own g) {off : Int} (tgt : Nat) (ht : (pc : Int) + off = (tgt : Int)) (hd : decode cc pc = .ok (.goto off, 3)) (kk : V p l e R s m args below meth c Q nL g S F G cells slots tgt lv st) : V p l e R s m args below meth c Q nL g S F G cells slots pc lv st := fun H locs ls h1 h2 h3 h4 => lv_goto C.x C.b hd ht (kk H locs ls h1 h2 h3 h4)
theorem V.tableIn (C : Cx p s m args meth c cc nL own g) {dflt lo hi : Int} {offs : Array Int} {len : Nat} {x1 : Int32} {off : Int} (tgt : Nat) (g1 : ¬ x1.toInt < lo) (g2 : ¬ hi < x1.toInt) (ho : offs[(x1.toInt - lo).toNat]? = some off) (ht : (pc : Int) + off = (tgt : Int)) (hd : decode cc pc = .ok (.tableswitch dflt lo hi offs, len)) (kk : V p l e R s m args below meth c Q nL g S F G cells slots tgt lv st) : V p l e R s m args below meth c Q nL g S F G cells slots pc lv (.int x1 :: st) := fun H locs ls h1 h2 h3 h4 => lv_tableIn C.x C.b hd g1 g2 ho ht (kk H locs ls h1 h2 h3 h4)
theorem V.tableOut (C : Cx p s m args meth c cc nL own g) {dflt lo hi : Int} {offs : Array Int} {len : Nat} {x1 : Int32} (tgt : Nat) (g1 : x1.toInt < lo ∨ hi < x1.toInt) (ht : (pc : Int) + dflt = (tgt : Int)) (hd : decode cc pc = .ok (.tableswitch dflt lo hi offs, len)) (kk : V p l e R s m args below meth c Q nL g S F G cells slots tgt lv st) : V p l e R s m args below meth c Q nL g S F G cells slots pc lv (.int x1 :: st) := fun H locs ls h1 h2 h3 h4 => lv_tableOut C.x C.b hd g1 ht (kk H locs ls h1 h2 h3 h4)
theorem V.topi {v : Int32} (kk : ∀ y : Int32, y = v → V p l e R s m args below meth c Q nL g S F G cells slots pc lv (.int y :: st)) : V p l e R s m args below meth c Q nL g S F G cells slots pc lv (.int v :: st) := kk v rfl
theorem V.top {v w : Int32} (hv : v = w) (kk : V p l e R s m args below meth c Q nL g S F G cells slots pc lv (.int w :: st)) : V p l e R s m args below meth c Q nL g S F G cells slots pc lv (.int v :: st) := hv ▸ kk
theorem V.weak {lv2 : List (Option Value)} (hw : ∀ k v, xlg lv2 k = some v → xlg lv k = some v) (kk : V p l e R s m args below meth c Q nL g S F G cells slots pc lv2 st) : V p l e R s m args below meth c Q nL g S F G cells slots pc lv st := fun H locs ls h1 h2 h3 h4 => kk H locs ls h1 h2 h3 (h4.weak hw)
theorem V.pcE {pc2 : Nat} (h : pc2 = pc) (kk : V p l e R s m args below meth c Q nL g S F G cells slots pc2 lv st) : V p l e R s m args below meth c Q nL g S F G cells slots pc lv st := h ▸ kk
theorem V.wide (k n : Nat) (hk : cells ≤ k) (hn : slots ≤ n) (kk : V p l e R s m args below meth c Q nL g S F G k n pc lv st) : V p l e R s m args below meth c Q nL g S F G cells slots pc lv st := fun H locs ls h1 h2 h3 h4 => W.widen hk hn (kk H locs ls h1 h2 h3 h4)
theorem V.getI (C : Cx p s m args meth c cc nL own g) {idx ci k a : Nat} {fs : List (Option Value)} (hl : xFl own idx ci k) (hS : S[a]? = some (.inr (.inr (ci, fs)))) (hv : fs[k]? = some none) (hd : decode cc pc = .ok (.getfield idx, 3)) (kk : V p l e R s m args below meth c Q nL g S F G cells slots (pc + 3) lv (.int (F a k) :: st)) : V p l e R s m args below meth c Q nL g S F G cells slots pc lv (.ref a :: st) := by
  intro H locs ls h1 h2 h3 h4
  obtain ⟨⟨Cn, T, N⟩, hc, hk, hin, hlink⟩ := hl
  have hv2 : (xfs g F a fs)[k]? = some (.int (F a k)) := by rw [xfs_at, hv]; rfl
  rcases hlink with hlink | ⟨host, hlink⟩
  · exact va_get C.x C.b C.ts hin C.ow C.k h2 a (xw_some hS) hc k hk (C.ts _ hlink) (fun _ h => h) hv2 hd (kk H locs ls h1 h2 h3 h4)
  · exact va_getN C.x C.b C.ts hin C.ow C.k h2 a (xw_some hS) hc k hk (va_Nw.use rfl (C.nw _ hlink)) (fun _ h => h) hv2 hd (kk H locs ls h1 h2 h3 h4)
theorem V.getR (C : Cx p s m args meth c cc nL own g) {idx ci k a : Nat} {fs : List (Option Value)} {v : Value} (hl : xFl own idx ci k) (hS : S[a]? = some (.inr (.inr (ci, fs)))) (hv : fs[k]? = some (some v)) (hd : decode cc pc = .ok (.getfield idx, 3)) (kk : V p l e R s m args below meth c Q nL g S F G cells slots (pc + 3) lv (v :: st)) : V p l e R s m args below meth c Q nL g S F G cells slots pc lv (.ref a :: st) := by
  intro H locs ls h1 h2 h3 h4
  obtain ⟨⟨Cn, T, N⟩, hc, hk, hin, hlink⟩ := hl
  have hv2 : (xfs g F a fs)[k]? = some (xv g v) := by rw [xfs_at, hv]; rfl
  rcases hlink with hlink | ⟨host, hlink⟩
  · exact va_get C.x C.b C.ts hin C.ow C.k h2 a (xw_some hS) hc k hk (C.ts _ hlink) (fun _ h => h) hv2 hd (kk H locs ls h1 h2 h3 h4)
  · exact va_getN C.x C.b C.ts hin C.ow C.k h2 a (xw_some hS) hc k hk (va_Nw.use rfl (C.nw _ hlink)) (fun _ h => h) hv2 hd (kk H locs ls h1 h2 h3 h4)
theorem V.putI (C : Cx p s m args meth c cc nL own g) {idx ci k a : Nat} {fs : List (Option Value)} {v : Int32} (hl : xFl own idx ci k) (ht : xFt ci) (hI : xFI ci k) (hS : S[a]? = some (.inr (.inr (ci, fs)))) (hv : fs[k]? = some none) (hd : decode cc pc = .ok (.putfield idx, 3)) (kk : V p l e R s m args below meth c Q nL g S (up2 F a k v) G cells slots (pc + 3) lv st) : V p l e R s m args below meth c Q nL g S F G cells slots pc lv (.int v :: .ref a :: st) := by
  intro H locs ls h1 h2 h3 h4
  obtain ⟨⟨Cn, T, N⟩, hc, hk, hin, hlink⟩ := hl
  obtain ⟨⟨Cn1, T1, N1⟩, t0, hc1, hty, hnm⟩ := ht
  cases hc.symm.trans hc1
  obtain ⟨⟨Cn2, T2, N2⟩, hc2, hfin, hdesc⟩ := hI
  cases hc.symm.trans hc2
  have hl2 : k < (xfs g F a fs).length := by rw [xfs_len]; exact (List.getElem?_eq_some_iff.mp hv).1
  have kk2 : ∀ (H1 : Heap) (locs1 : List Loc), va_P g.2.2.2 xCl ((xw g F G S).set a (g.1 + a, .inr (ci, (xfs g F a fs).set k (.int v)))) H1 → va_D (xA g) ((xw g F G S).set a (g.1 + a, .inr (ci, (xfs g F a fs).set k (.int v)))) → va_S (xA g) s.heap H1 locs1 → W p l e R s m args below meth c H1 locs1 cells slots Q (F0 m (pc + 3) ls (st.map (xv g))) := fun H1 locs1 q1 _ q2 => kk H1 locs1 ls h1 (by rw [← xw_putF v hS hv]; exact q1) q2 h4
  rcases hlink with hlink | ⟨host, hlink⟩
  · exact va_put (ty := .int) C.x C.b C.ts hin t0 hty hnm C.ow C.k h2 (xw_D g F G h1) h3 a (xw_some hS) hc k hk (C.ts _ hlink) (fun _ h => h) hfin (by rw [hdesc]; decide +kernel) rfl rfl hl2 hd kk2
  · exact va_putN (ty := .int) C.x C.b C.ts hin t0 hty hnm C.ow C.k h2 (xw_D g F G h1) h3 a (xw_some hS) hc k hk (va_Nw.use rfl (C.nw _ hlink)) (fun _ h => h) hfin (by rw [hdesc]; decide +kernel) rfl rfl hl2 hd kk2
/-- a final number, in a constructor -/
theorem V.putIF (C : Cx p s m args meth c cc nL own g) {idx ci k a : Nat} {fs : List (Option Value)} {v : Int32} (hmn : meth.name = "<init>") (hl : xFl own idx ci k) (ht : xFt ci) (hI : xFIF own idx ci k) (hS : S[a]? = some (.inr (.inr (ci, fs)))) (hv : fs[k]? = some none) (hd : decode cc pc = .ok (.putfield idx, 3)) (kk : V p l e R s m args below meth c Q nL g S (up2 F a k v) G cells slots (pc + 3) lv st) : V p l e R s m args below meth c Q nL g S F G cells slots pc lv (.int v :: .ref a :: st) := by
  intro H locs ls h1 h2 h3 h4
  obtain ⟨⟨Cn, T, N⟩, hc, hk, hin, hlink⟩ := hl
  obtain ⟨⟨Cn1, T1, N1⟩, t0, hc1, hty, hnm⟩ := ht
  cases hc.symm.trans hc1
  obtain ⟨⟨Cn2, T2, N2⟩, hc2, hfin, hdesc, hdecl, hlink⟩ := hI
  cases hc.symm.trans hc2
  have hl2 : k < (xfs g F a fs).length := by rw [xfs_len]; exact (List.getElem?_eq_some_iff.mp hv).1
  exact va_putF (ty := .int) C.x C.b C.ts hin t0 hty hnm C.ow C.k h2 (xw_D g F G h1) h3 a (xw_some hS) hc k hk (C.ts _ hlink) (fun _ h => h) hfin hmn hdecl (by rw [hdesc]; decide +kernel) rfl rfl hl2 hd (fun H1 locs1 q1 _ q2 => kk H1 locs1 ls h1 (by rw [← xw_putF v hS hv]; exact q1) q2 h4)
theorem V.iald (C : Cx p s m args meth c cc nL own g) {a n : Nat} {j : Int32} (hS : S[a]? = some (.inl (0, n))) (hin : vp_in j n) (hd : decode cc pc = .ok (.iaload, 1)) (kk : V p l e R s m args below meth c Q nL g S F G cells slots (pc + 1) lv (.int (F a j.toNatClampNeg) :: st)) : V p l e R s m args below meth c Q nL g S F G cells slots pc lv (.int j :: .ref a :: st) := fun H locs ls h1 h2 h3 h4 => va_iald C.x C.b C.k h2 a 0 (xw_some hS) (xTy0 g) hin hd (kk H locs ls h1 h2 h3 h4)
theorem V.bald (C : Cx p s m args meth c cc nL own g) {a n : Nat} {j : Int32} (hS : S[a]? = some (.inl (3, n))) (hin : vp_in j n) (hd : decode cc pc = .ok (.baload, 1)) (kk : V p l e R s m args below meth c Q nL g S F G cells slots (pc + 1) lv (.int (F a j.toNatClampNeg) :: st)) : V p l e R s m args below meth c Q nL g S F G cells slots pc lv (.int j :: .ref a :: st) := fun H locs ls h1 h2 h3 h4 => va_bald C.x C.b C.k h2 a 3 (xw_some hS) (xTy3 g) hin hd (kk H locs ls h1 h2 h3 h4)
theorem V.aald (C : Cx p s m args meth c cc nL own g) {a t : Nat} {rs : List (Option Nat)} {j : Int32} {q : Nat} {Cn : String} (hS : S[a]? = some (.inr (.inl (t, rs)))) (ht : (xTy g.2.2.1)[t]? = some (g.2.2.1 t, .object Cn)) (hin : vp_in j rs.length) (hq : rs.getD j.toNatClampNeg none = some q) (hd : decode cc pc = .ok (.aaload, 1)) (kk : V p l e R s m args below meth c Q nL g S F G cells slots (pc + 1) lv (.ref q :: st)) : V p l e R s m args below meth c Q nL g S F G cells slots pc lv (.int j :: .ref a :: st) := by
  intro H locs ls h1 h2 h3 h4
  have hq2 : xrs g rs j.toNatClampNeg = some (g.1 + q) := by simp only [xrs, hq, Option.map_some]
  refine va_aldq C.x C.b C.k h2 a t (xw_some hS) ht hin hd ?_
  rw [hq2]
  exact (kk H locs ls h1 h2 h3 h4)
theorem V.alen (C : Cx p s m args meth c cc nL own g) {a n : Nat} (hS : S[a]? = some (.inl (0, n))) (hd : decode cc pc = .ok (.arraylength, 1)) (kk : V p l e R s m args below meth c Q nL g S F G cells slots (pc + 1) lv (.int (nI n) :: st)) : V p l e R s m args below meth c Q nL g S F G cells slots pc lv (.ref a :: st) := fun H locs ls h1 h2 h3 h4 => va_alen C.x C.b C.k h2 a 0 (xw_some hS) (xTy0 g) rfl hd (kk H locs ls h1 h2 h3 h4)
end XV
end
section
section XV2
variable {p : Program} {l : Launch} {e : Env} {R : Room} {s : State} {m : MethodId} {args : Array Value} {below : List Frame} {meth : Method} {c : Code} {Q : State → Prop}
variable {cc : ByteArray} {nL : Nat} {own : String} {g : xG} {S : List xO} {F : xF} {G : xL} {cells slots pc : Nat} {lv : List (Option Value)} {st : List Value}
theorem xw_size {H : Heap} (h : va_P g.2.2.2 xCl (xw g F G S) H) (hg : g.1 ≤ H.size) : g.1 + S.length ≤ H.size := by
  cases hn : S.length with
  | zero => exact hg
  | succ n =>
    have hl : n < S.length := by omega
    have h1 : S[n]? = some S[n] := List.getElem?_eq_getElem hl
    have h2 := (h n _ (xw_some h1)).lt
    have h3 : g.1 + n < H.size := h2
    omega
theorem W.sized {H : Heap} {locs : List Loc} {gf : JFrame} (k : H.size ≤ s.heap.size + cells → W p l e R s m args below meth c H locs cells slots Q gf) : W p l e R s m args below meth c H locs cells slots Q gf := fun T hT X => k (by rw [← hT]; exact X.heapSize) T hT X
theorem V.iast (C : Cx p s m args meth c cc nL own g) {a n : Nat} {j v : Int32} (hS : S[a]? = some (.inl (0, n))) (hin : vp_in j n) (hd : decode cc pc = .ok (.iastore, 1)) (kk : V p l e R s m args below meth c Q nL g S (up2 F a j.toNatClampNeg v) G cells slots (pc + 1) lv st) : V p l e R s m args below meth c Q nL g S F G cells slots pc lv (.int v :: .int j :: .ref a :: st) := fun H locs ls h1 h2 h3 h4 =>
  va_iast C.x C.b C.k h2 (xw_D g F G h1) h3 a 0 (xw_some hS) (xTy0 g) hin hd (fun H1 locs1 q1 _ q2 => kk H1 locs1 ls h1 (by rw [← xw_putA (by decide) _ v hS]; exact q1) q2 h4)
theorem V.bast (C : Cx p s m args meth c cc nL own g) {a n : Nat} {j v : Int32} (hS : S[a]? = some (.inl (3, n))) (hin : vp_in j n) (hd : decode cc pc = .ok (.bastore, 1)) (kk : V p l e R s m args below meth c Q nL g S (up2 F a j.toNatClampNeg (vp_nar .byte v)) G cells slots (pc + 1) lv st) : V p l e R s m args below meth c Q nL g S F G cells slots pc lv (.int v :: .int j :: .ref a :: st) := fun H locs ls h1 h2 h3 h4 =>
  va_bast C.x C.b C.k h2 (xw_D g F G h1) h3 a 3 (xw_some hS) (xTy3 g) hin hd (fun H1 locs1 q1 _ q2 => kk H1 locs1 ls h1 (by rw [← xw_putA (by decide) _ (vp_nar .byte v) hS]; exact q1) q2 h4)
theorem V.last (C : Cx p s m args meth c cc nL own g) {a n : Nat} {j : Int32} {v : Int64} (hS : S[a]? = some (.inl (1, n))) (hin : vp_in j n) (hd : decode cc pc = .ok (.lastore, 1)) (kk : V p l e R s m args below meth c Q nL g S F (up2 G a j.toNatClampNeg v) cells slots (pc + 1) lv st) : V p l e R s m args below meth c Q nL g S F G cells slots pc lv (.long v :: .int j :: .ref a :: st) := fun H locs ls h1 h2 h3 h4 =>
  va_last C.x C.b C.k h2 (xw_D g F G h1) h3 a 1 (xw_some hS) (xTy1 g) hin hd (fun H1 locs1 q1 _ q2 => kk H1 locs1 ls h1 (by rw [← xw_putL _ v hS]; exact q1) q2 h4)
theorem V.lald (C : Cx p s m args meth c cc nL own g) {a n : Nat} {j : Int32} (hS : S[a]? = some (.inl (1, n))) (hin : vp_in j n) (hd : decode cc pc = .ok (.laload, 1)) (kk : V p l e R s m args below meth c Q nL g S F G cells slots (pc + 1) lv (.long (G a j.toNatClampNeg) :: st)) : V p l e R s m args below meth c Q nL g S F G cells slots pc lv (.int j :: .ref a :: st) := fun H locs ls h1 h2 h3 h4 =>
  va_lald C.x C.b C.k h2 a 1 (xw_some hS) (xTy1 g) hin hd (kk H locs ls h1 h2 h3 h4)
/-- the script -/
theorem V.sld (C : Cx p s m args meth c cc nL own g) {L : Nat} {xs : Nat → Int32} {j : Int32} {u : UInt32} (hX : va_X g.2.1 L xs s s.heap) (hbl : g.2.1 < s.heap.size) (hbg : g.2.1 < g.1) (hin : vp_in j L) (hd : decode cc pc = .ok (.iaload, 1)) (kk : V p l e R s m args below meth c Q nL g S F G cells slots (pc + 1) lv (.int (xs j.toNatClampNeg) :: st)) : V p l e R s m args below meth c Q nL g S F G cells slots pc lv (.int j :: .float u :: st) := fun H locs ls h1 h2 h3 h4 =>
  va_sld (A := xA g) C.x C.b hX hbl (fun q => absurd q.1 (Nat.not_le.mpr hbg)) h3 hin hd (kk H locs ls h1 h2 h3 h4)
theorem V.slen (C : Cx p s m args meth c cc nL own g) {L : Nat} {xs : Nat → Int32} {u : UInt32} (hX : va_X g.2.1 L xs s s.heap) (hbl : g.2.1 < s.heap.size) (hbg : g.2.1 < g.1) (hd : decode cc pc = .ok (.arraylength, 1)) (kk : V p l e R s m args below meth c Q nL g S F G cells slots (pc + 1) lv (.int (nI L) :: st)) : V p l e R s m args below meth c Q nL g S F G cells slots pc lv (.float u :: st) := fun H locs ls h1 h2 h3 h4 =>
  va_slen (A := xA g) C.x C.b hX hbl (fun q => absurd q.1 (Nat.not_le.mpr hbg)) h3 hd (kk H locs ls h1 h2 h3 h4)
def xd0 (o : Option Value) : Value := match o with
  | none => .int 0
  | some v => v
/-- a new object -/
theorem V.new (C : Cx p s m args meth c cc nL own g) {idx ci : Nat} {Cn : String} {T : u_T} {N : Nat} (fs : List (Option Value)) (hz : s.heap.size + cells = g.1 + S.length) (hKK : S.length + 1 ≤ xKK) (hc : xCl[ci]? = some (Cn, T, N)) (t0 : Nat → FieldType) (hty : ∀ k, k < N → parseFieldDescriptor (T k).2.2.1 = some (t0 k)) (hin : ∀ w ∈ u_ws Cn T N, w ∈ xGT)
    (hw : Cond.classLink own idx Cn ∈ xGT ∧ Cond.instantiable Cn N ∈ xGT ∧ Cond.initialized Cn ∈ xGT) (hdef : ∀ j, j < N → defaultValue (t0 j) = xd0 (fs.getD j (some .null))) (hnull : ∀ o ∈ fs, o = none ∨ o = some .null) (hR : cells + 1 ≤ R.cells ∧ slots + N ≤ R.slots) (hd : decode cc pc = .ok (.new idx, 3))
    (kk : V p l e R s m args below meth c Q nL g (S ++ [.inr (.inr (ci, fs))]) (upR F S.length (fun _ => 0)) G (cells + 1) (slots + N) (pc + 3) lv (.ref S.length :: st)) : V p l e R s m args below meth c Q nL g S F G cells slots pc lv st := by
  intro H locs ls h1 h2 h3 h4
  refine W.sized (fun hle => ?_)
  have hge : g.1 + S.length ≤ H.size := xw_size h2 (Nat.le_trans C.hz h3.1)
  have hH : H.size = g.1 + S.length := by omega
  have hKn := C.k.1 ci _ hc
  refine W.newcK C.x C.b C.ow (C.ts _ hw.1) (C.ts _ hw.2.1) (C.ts _ hw.2.2) rfl hd hR.1 hR.2 hKn.2.1 hH (fun H1 kC hkC e1 z1 o1 => ?_)
  have hk : ∀ (k : Nat) (q : Nat × va_E), (xw g F G S)[k]? = some q → H1[q.1]? = H[q.1]? := fun k q hq => o1 q.1 (by have := (h2 k q hq).lt; omega)
  refine kk H1 locs ls (by rw [List.length_append]; exact hKK) ?_ ⟨by have := h3.1; omega, fun q q1 q2 => (o1 q (by have := h3.1; omega)).trans (h3.2.1 q q1 q2), h3.2.2⟩ h4
  rw [← xw_push, ← xw_fresh (g := g) (F := F) (F' := upR F S.length (fun _ => 0)) (G := G) (G' := G) (S := S) (fun i hi => upR_ne F _ _ (Nat.ne_of_lt hi)) (fun i _ => rfl)]
  refine (h2.kept hk).app (fun k q hq => ?_)
  have hz2 : k < 1 := (List.getElem?_eq_some_iff.mp hq).1
  rw [show k = 0 by omega] at hq
  cases hq
  refine ⟨_, hc, (u_born t0 C.ts hin hKn hkC e1 hty).to (fun j hj => ?_)⟩
  rw [hdef j hj]
  unfold vp_V
  rw [List.getD_eq_getElem?_getD, List.getD_eq_getElem?_getD, xfs_at]
  cases hf : fs[j]? with
  | none => rfl
  | some o =>
    rcases hnull o (List.mem_of_getElem? hf) with h | h
    · subst h; simp [xfv, xd0, upR_eq]
    · subst h; rfl
theorem xK_arr0 (hK : va_K g.2.2.2 xCl (xTy g.2.2.1) s) {cA : ClassId} (h : s.vm.findClass ("[" ++ FieldType.int.toString) = some cA) : cA = g.2.2.1 0 := by
  have h1 := (hK.2 0 _ (xTy0 g)).2
  exact Option.some.inj (h.symm.trans h1)
theorem xK_arr1 (hK : va_K g.2.2.2 xCl (xTy g.2.2.1) s) {cA : ClassId} (h : s.vm.findClass ("[" ++ FieldType.long.toString) = some cA) : cA = g.2.2.1 1 := by
  have h1 := (hK.2 1 _ (xTy1 g)).2
  exact Option.some.inj (h.symm.trans h1)
/-- a new row of ints -/
theorem V.newI (C : Cx p s m args meth c cc nL own g) {n : Int32} (N : Nat) (hz : s.heap.size + cells = g.1 + S.length) (hKK : S.length + 1 ≤ xKK) (hw : Cond.arrayClass .int ∈ xGT) (hn : ¬ n < 0) (hN : n.toNatClampNeg = N) (hb : N * 4 ≤ 536870912) (hR : cells + 1 ≤ R.cells ∧ slots + N ≤ R.slots) (hd : decode cc pc = .ok (.newarray .int, 2))
    (kk : V p l e R s m args below meth c Q nL g (S ++ [.inl (0, N)]) (upR F S.length (fun _ => 0)) G (cells + 1) (slots + N) (pc + 2) lv (.ref S.length :: st)) : V p l e R s m args below meth c Q nL g S F G cells slots pc lv (.int n :: st) := by
  intro H locs ls h1 h2 h3 h4
  refine W.sized (fun hle => ?_)
  have hge : g.1 + S.length ≤ H.size := xw_size h2 (Nat.le_trans C.hz h3.1)
  have hH : H.size = g.1 + S.length := by omega
  refine va_newaK C.x C.b (atype := .int) (C.ts _ hw) rfl hd rfl hn hN hb hR.1 hR.2 hH (fun H1 cA e1 z1 o1 hAr hNm => ?_)
  have hcA : cA = g.2.2.1 0 := xK_arr0 C.k hNm
  have hk : ∀ (k : Nat) (q : Nat × va_E), (xw g F G S)[k]? = some q → H1[q.1]? = H[q.1]? := fun k q hq => o1 q.1 (by have := (h2 k q hq).lt; omega)
  refine kk H1 locs ls (by rw [List.length_append]; exact hKK) ?_ ⟨by have := h3.1; omega, fun q q1 q2 => (o1 q (by have := h3.1; omega)).trans (h3.2.1 q q1 q2), h3.2.2⟩ h4
  rw [← xw_push, ← xw_fresh (g := g) (F := F) (F' := upR F S.length (fun _ => 0)) (G := G) (G' := G) (S := S) (fun i hi => upR_ne F _ _ (Nat.ne_of_lt hi)) (fun i _ => rfl)]
  refine (h2.kept hk).app (fun k q hq => ?_)
  have hz2 : k < 1 := (List.getElem?_eq_some_iff.mp hq).1
  rw [show k = 0 by omega] at hq
  cases hq
  show H1[g.1 + S.length]? = some (vp_cell _ _)
  rw [e1, hcA]
  simp only [upR_eq]
  rfl
/-- a new row of longs -/
theorem V.newL (C : Cx p s m args meth c cc nL own g) {n : Int32} (N : Nat) (hz : s.heap.size + cells = g.1 + S.length) (hKK : S.length + 1 ≤ xKK) (hw : Cond.arrayClass .long ∈ xGT) (hn : ¬ n < 0) (hN : n.toNatClampNeg = N) (hb : N * 8 ≤ 536870912) (hR : cells + 1 ≤ R.cells ∧ slots + N ≤ R.slots) (hd : decode cc pc = .ok (.newarray .long, 2))
    (kk : V p l e R s m args below meth c Q nL g (S ++ [.inl (1, N)]) F (upR G S.length (fun _ => 0)) (cells + 1) (slots + N) (pc + 2) lv (.ref S.length :: st)) : V p l e R s m args below meth c Q nL g S F G cells slots pc lv (.int n :: st) := by
  intro H locs ls h1 h2 h3 h4
  refine W.sized (fun hle => ?_)
  have hge : g.1 + S.length ≤ H.size := xw_size h2 (Nat.le_trans C.hz h3.1)
  have hH : H.size = g.1 + S.length := by omega
  refine va_newaK C.x C.b (atype := .long) (C.ts _ hw) rfl hd rfl hn hN hb hR.1 hR.2 hH (fun H1 cA e1 z1 o1 hAr hNm => ?_)
  have hcA : cA = g.2.2.1 1 := xK_arr1 C.k hNm
  have hk : ∀ (k : Nat) (q : Nat × va_E), (xw g F G S)[k]? = some q → H1[q.1]? = H[q.1]? := fun k q hq => o1 q.1 (by have := (h2 k q hq).lt; omega)
  refine kk H1 locs ls (by rw [List.length_append]; exact hKK) ?_ ⟨by have := h3.1; omega, fun q q1 q2 => (o1 q (by have := h3.1; omega)).trans (h3.2.1 q q1 q2), h3.2.2⟩ h4
  rw [← xw_push, ← xw_fresh (g := g) (F := F) (F' := F) (G := G) (G' := upR G S.length (fun _ => 0)) (S := S) (fun i _ => rfl) (fun i hi => upR_ne G _ _ (Nat.ne_of_lt hi))]
  refine (h2.kept hk).app (fun k q hq => ?_)
  have hz2 : k < 1 := (List.getElem?_eq_some_iff.mp hq).1
  rw [show k = 0 by omega] at hq
  cases hq
  show H1[g.1 + S.length]? = some (vp_cell _ _)
  rw [e1, hcA]
  simp only [upR_eq]
  rfl
/-- Object's constructor -/
theorem V.objInit (C : Cx p s m args meth c cc nL own g) {idx a : Nat} (hw : Cond.methodLink own idx Lib.objectInit ∈ xGT ∧ Cond.instanceMethod Lib.objectInit ∈ xGT ∧ Cond.code Lib.objectInit ⟨#[0xb1]⟩ 1 none ∈ xGT) (hR : 1 ≤ R.frames ∧ (st.map fun v => v.category).sum + 12 ≤ R.locals) (hd : decode cc pc = .ok (.invokespecial idx, 3)) (kk : V p l e R s m args below meth c Q nL g S F G cells slots (pc + 3) lv st) : V p l e R s m args below meth c Q nL g S F G cells slots pc lv (.ref a :: st) := by
  intro H locs ls h1 h2 h3 h4
  have hcat : ((st.map (xv g)).map fun v => v.category).sum = (st.map fun v => v.category).sum := by
    rw [List.map_map]; congr 1; apply List.map_congr_left; intro v _; exact xv_cat g v
  refine W.objInit C.x C.b C.ow (C.ts _ hw.1) (C.ts _ hw.2.1) (C.ts _ hw.2.2) rfl (by rw [C.ml]; exact h4.1) rfl hd hR.1 ?_ (kk H locs ls h1 h2 h3 h4)
  show 2 * 0 + ((st.map (xv g)).map fun v => v.category).sum + 12 ≤ R.locals
  rw [hcat]
  have := hR.2
  omega
theorem xcatS (g : xG) (st : List Value) : ((st.map (xv g)).map fun v => v.category).sum = (st.map fun v => v.category).sum := by
  rw [List.map_map]; congr 1; apply List.map_congr_left; intro v _; exact xv_cat g v
def xmx (a b : Int32) : Int32 := if a < b then b else a
def xmn (a b : Int32) : Int32 := if b < a then b else a
theorem V.mmax (C : Cx p s m args meth c cc nL own g) {idx : Nat} {a b : Int32} (hw : Cond.methodLink own idx Lib.Math.max.name ∈ xGT ∧ Cond.static Lib.Math.max.name ∈ xGT ∧ Cond.initialized "java/lang/Math" ∈ xGT ∧ Cond.code Lib.Math.max.name Lib.Math.max.code 2 (some .int) ∈ xGT) (hR : 1 ≤ R.frames ∧ (st.map fun v => v.category).sum + 13 ≤ R.locals ∧ cells ≤ R.cells ∧ slots ≤ R.slots) (hd : decode cc pc = .ok (.invokestatic idx, 3)) (kk : V p l e R s m args below meth c Q nL g S F G cells slots (pc + 3) lv (.int (xmx a b) :: st)) : V p l e R s m args below meth c Q nL g S F G cells slots pc lv (.int b :: .int a :: st) := fun H locs ls h1 h2 h3 h4 =>
  va_mmax C.x C.b (C.ml.trans h4.1.symm) C.ow (C.ts _ hw.1) (C.ts _ hw.2.1) (C.ts _ hw.2.2.1) (C.ts _ hw.2.2.2) hR.1 (by rw [xcatS]; exact hR.2.1) hR.2.2.1 hR.2.2.2 hd (kk H locs ls h1 h2 h3 h4)
theorem V.mmin (C : Cx p s m args meth c cc nL own g) {idx : Nat} {a b : Int32} (hw : Cond.methodLink own idx Lib.Math.min.name ∈ xGT ∧ Cond.static Lib.Math.min.name ∈ xGT ∧ Cond.initialized "java/lang/Math" ∈ xGT ∧ Cond.code Lib.Math.min.name Lib.Math.min.code 2 (some .int) ∈ xGT) (hR : 1 ≤ R.frames ∧ (st.map fun v => v.category).sum + 13 ≤ R.locals ∧ cells ≤ R.cells ∧ slots ≤ R.slots) (hd : decode cc pc = .ok (.invokestatic idx, 3)) (kk : V p l e R s m args below meth c Q nL g S F G cells slots (pc + 3) lv (.int (xmn a b) :: st)) : V p l e R s m args below meth c Q nL g S F G cells slots pc lv (.int b :: .int a :: st) := fun H locs ls h1 h2 h3 h4 =>
  va_mmin C.x C.b (C.ml.trans h4.1.symm) C.ow (C.ts _ hw.1) (C.ts _ hw.2.1) (C.ts _ hw.2.2.1) (C.ts _ hw.2.2.2) hR.1 (by rw [xcatS]; exact hR.2.1) hR.2.2.1 hR.2.2.2 hd (kk H locs ls h1 h2 h3 h4)
/-- System.arraycopy in one row -/
theorem V.copy (C : Cx p s m args meth c cc nL own g) {idx a n0 : Nat} {sp dp n : Int32} (hw : Cond.methodLink own idx arraycopyName ∈ xGT ∧ Cond.native arraycopyName ∈ xGT ∧ Cond.static arraycopyName ∈ xGT ∧ Cond.initialized "java/lang/System" ∈ xGT) (hS : S[a]? = some (.inl (0, n0))) (g1 : ¬ sp < 0) (g2 : ¬ dp < 0) (g3 : ¬ n < 0) (g4 : sp.toNatClampNeg + n.toNatClampNeg ≤ n0) (g5 : dp.toNatClampNeg + n.toNatClampNeg ≤ n0)
    (hR : 1 ≤ R.frames ∧ (st.map fun v => v.category).sum + (nativeFrameWords "java/lang/System" "arraycopy" 5 + 11) ≤ R.locals) (hd : decode cc pc = .ok (.invokestatic idx, 3)) (kk : V p l e R s m args below meth c Q nL g S (upR F a (va_cpy (F a) (F a) sp.toNatClampNeg dp.toNatClampNeg n.toNatClampNeg)) G cells slots (pc + 3) lv st) : V p l e R s m args below meth c Q nL g S F G cells slots pc lv (.int n :: .int dp :: .ref a :: .int sp :: .ref a :: st) := fun H locs ls h1 h2 h3 h4 =>
  va_copyi (ty := .int) C.x C.b (C.ml.trans h4.1.symm) C.ow (C.ts _ hw.1) (C.ts _ hw.2.1) (C.ts _ hw.2.2.1) (C.ts _ hw.2.2.2) C.k h2 (xw_D g F G h1) h3 a a 0 0 (xw_some hS) (xw_some hS) (xTy0 g) (xTy0 g) rfl g1 g2 g3 g4 g5 (fun _ _ => rfl) hR.1 (by rw [xcatS]; exact hR.2) hd (fun H1 locs1 q1 _ q2 => kk H1 locs1 ls h1 (by rw [← xw_putRow _ hS]; exact q1) q2 h4)
/-! contracts -/
def xWs (y : MethodName) (cc : ByteArray) (maxL : Nat) (ret : Option FieldType) : List Cond := .code y cc maxL ret :: xGT
def xRm (d lc mc ms : Nat) : Room := { frames := d, cells := mc, slots := ms, locals := lc }
def xPc (g : xG) (S : List xO) (F : xF) (G : xL) (x : Nat) (As : List Value) : Array Value → State → Prop := fun a U => a = (As.map (xv g)).toArray ∧ (x = 0 → U.heap.size = g.1 + S.length) ∧ g.1 ≤ U.heap.size ∧ va_P g.2.2.2 xCl (xw g F G S) U.heap ∧ S.length ≤ xKK ∧ xK g U
def xQc (g : xG) (S : List xO) (F : xF) (G : xL) (r : Option Value) : Array Value → State → Outcome → State → Prop := fun _ st o t => o = .returned (r.map (xv g)) ∧ S.length ≤ xKK ∧ va_P g.2.2.2 xCl (xw g F G S) t.heap ∧ va_F (xA g) st t
/-- y with arguments As, in the world S F G, answers r; the world is S2 F2 G2 then; mc new cells of ms slots; it nests d deep; x = 0: the heap ends where the world ends (constructors) -/
def CT (l : Launch) (g : xG) (d lc mc ms : Nat) (y : MethodName) (cc : ByteArray) (maxL : Nat) (ret : Option FieldType) (x : Nat) (As : List Value) (S : List xO) (F : xF) (G : xL) (r : Option Value) (S2 : List xO) (F2 : xF) (G2 : xL) : Prop :=
  Met l y (xWs y cc maxL ret) (xRm d lc mc ms) (xPc g S F G x As) (xQc g S2 F2 G2 r) mc ms (xA g)
abbrev xMQ (g : xG) (below : List Frame) (args : Array Value) (s : State) (mc ms : Nat) (S : List xO) (F : xF) (G : xL) (r : Option Value) : State → Prop := MQ below (xQc g S F G r) args s mc ms (xA g)
theorem CT.of {l : Launch} {g : xG} {d lc mc ms : Nat} {y : MethodName} {cc : ByteArray} {maxL : Nat} {ret : Option FieldType} {x : Nat} {As : List Value} {S S2 : List xO} {F F2 : xF} {G G2 : xL} {r : Option Value} (lv0 : List (Option Value)) (hy : plainName y.cls = true) (hlen : (lg_sl (As.map (xv g))).length ≤ maxL) (hlv : xal g 0 lv0 = lv_args 0 (As.map (xv g)))
    (body : ∀ (p : Program) (e : Env) (s : State) (m : MethodId) (args : Array Value) (below : List Frame) (meth : Method) (c : Code), Cx p s m args meth c cc maxL y.cls g → meth.sig.returnType = ret → meth.name = y.name → (x = 0 → s.heap.size = g.1 + S.length) →
      V p l e (xRm d lc mc ms) s m args below meth c (xMQ g below args s mc ms S2 F2 G2 r) maxL g S F G 0 0 0 lv0 []) : CT l g d lc mc ms y cc maxL ret x As S F G r S2 F2 G2 := by
  refine Met.ofW (cc := cc) (maxL := maxL) (ret := ret) hy rfl ?_
  intro p e s m args below meth c s₁ B hml hv
  obtain ⟨rfl, hx, hz, hP, hl0, hK⟩ := hv
  have hts : ∀ w ∈ xGT, w.before _ s = true := fun w hw => atoms_spec (ws := xWs y cc maxL ret) B.pre w (List.mem_cons_of_mem _ hw)
  have C : Cx p s m ((As.map (xv g)).toArray) meth c cc maxL y.cls g := ⟨B.exec, B.bytes, hml, findClass_of_methodNamed B.named, hts, hK, B.notSynchronized, hz⟩
  have hl := lv_entry (As.map (xv g)) (n := maxL) hlen
  rw [lg_entry_eq]
  exact body p e s m _ below meth c C B.returns (name_of_methodNamed B.named B.method).1 hx s.heap [] _ hl0 hP va_S.rf (by unfold xl; rw [hlv]; exact hl)
/-- ends -/
theorem V.iret (C : Cx p s m args meth c cc nL own g) {S2 : List xO} {F2 : xF} {G2 : xL} {v r : Int32} (hr : meth.sig.returnType = some .int) (hd : decode cc pc = .ok (.ireturn, 1)) (e0 : v = r) (e1 : F = F2) (e2 : G = G2) (e3 : S = S2) : V p l e R s m args below meth c (xMQ g below args s cells slots S2 F2 G2 (some (.int r))) nL g S F G cells slots pc lv [.int v] := by
  subst e0; subst e1; subst e2; subst e3
  intro H locs ls h1 h2 h3 h4
  exact W.iret C.x C.b hr (fun t ht hW => ⟨rfl, h1, by rw [ht]; exact h2, h3.F ht⟩) h3.2.2 hd C.lk
theorem V.zret (C : Cx p s m args meth c cc nL own g) {S2 : List xO} {F2 : xF} {G2 : xL} {v r : Int32} (hr : meth.sig.returnType = some .boolean) (hn : narrow .boolean (.int v) = .int v) (hd : decode cc pc = .ok (.ireturn, 1)) (e0 : v = r) (e1 : F = F2) (e2 : G = G2) (e3 : S = S2) : V p l e R s m args below meth c (xMQ g below args s cells slots S2 F2 G2 (some (.int r))) nL g S F G cells slots pc lv [.int v] := by
  subst e0; subst e1; subst e2; subst e3
  intro H locs ls h1 h2 h3 h4
  exact W.zret C.x C.b hr hn (fun t ht hW => ⟨rfl, h1, by rw [ht]; exact h2, h3.F ht⟩) h3.2.2 hd C.lk
theorem V.vret (C : Cx p s m args meth c cc nL own g) {S2 : List xO} {F2 : xF} {G2 : xL} (hr : meth.sig.returnType = none) (hd : decode cc pc = .ok (.return_, 1)) (e1 : F = F2) (e2 : G = G2) (e3 : S = S2) : V p l e R s m args below meth c (xMQ g below args s cells slots S2 F2 G2 none) nL g S F G cells slots pc lv [] := by
  subst e1; subst e2; subst e3
  intro H locs ls h1 h2 h3 h4
  exact W.vret C.x C.b hr (fun t ht hW => ⟨rfl, h1, by rw [ht]; exact h2, h3.F ht⟩) h3.2.2 hd C.lk
theorem V.aret (C : Cx p s m args meth c cc nL own g) {S2 : List xO} {F2 : xF} {G2 : xL} {a r : Nat} {Cn : String} (hr : meth.sig.returnType = some (.object Cn)) (hd : decode cc pc = .ok (.areturn, 1)) (e0 : a = r) (e1 : F = F2) (e2 : G = G2) (e3 : S = S2) : V p l e R s m args below meth c (xMQ g below args s cells slots S2 F2 G2 (some (.ref r))) nL g S F G cells slots pc lv [.ref a] := by
  subst e0; subst e1; subst e2; subst e3
  intro H locs ls h1 h2 h3 h4
  exact W.aret C.x C.b hr (Or.inl ⟨_, rfl⟩) (Or.inr ⟨_, rfl⟩) (fun t ht hW => ⟨rfl, h1, by rw [ht]; exact h2, h3.F ht⟩) h3.2.2 hd C.lk
theorem xPc_blind {x : Nat} {As : List Value} : FrameBlind (xPc g S F G x As) := by
  intro a U gg mk h
  obtain ⟨q0, q1, q2, q3, q5, q4⟩ := h
  exact ⟨q0, q1, q2, q3, q5, va_K.moved (u := U) (U := U.calling gg mk a) (Vm.Alike.refl U.vm) q4.1, fun w hw => va_Nw.same (u := U) (U := U.calling gg mk a) (xNT_tab w hw) rfl (q4.2.1 w hw), by obtain ⟨u0, a1, a2, a3, a4, a5⟩ := q4.2.2; exact ⟨u0, a1, a2, a3, a4, a5⟩⟩
theorem xK.warm {u U : State} (hW : u.WarmedH U.vm) (hh : ∀ q : Nat, q < g.1 → U.heap[q]? = u.heap[q]?) (h : xK g u) : xK g U := ⟨va_K.moved hW.alike h.1, fun w hw => xNT_warm hW w hw (h.2.1 w hw), h.2.2.at hW hh⟩
theorem va_S.low {H0 H : Heap} {locs : List Loc} (h : va_S (xA g) H0 H locs) (hg : g.1 ≤ H0.size) : ∀ q : Nat, q < g.1 → H[q]? = H0[q]? := fun q hq => h.2.1 q (Nat.lt_of_lt_of_le hq hg) (fun z => absurd z.1 (Nat.not_le.mpr hq))
/-- behind a call -/
theorem V.ofRun (C : Cx p s m args meth c cc nL own g) {mc ms : Nat} {rest st0 : List Value} {r : Option Value} {S2 : List xO} {F2 : xF} {G2 : xL} {a : Array Value}
    (hr : ∀ (H : Heap) (locs : List Loc) (ls : Array Slot), S.length ≤ xKK → va_P g.2.2.2 xCl (xw g F G S) H → va_S (xA g) s.heap H locs → xl g ls nL lv → H.size ≤ s.heap.size + cells → va_Run p l e R s m args below meth c H locs cells slots mc ms (F0 m pc ls (st0.map (xv g))) (rest.map (xv g)) (xQc g S2 F2 G2 r a) (xA g))
    (kk : V p l e R s m args below meth c Q nL g S2 F2 G2 (cells + mc) (slots + ms) (pc + 3) lv (r.toList ++ rest)) : V p l e R s m args below meth c Q nL g S F G cells slots pc lv st0 := by
  intro H locs ls h1 h2 h3 h4 T hT X
  obtain ⟨v, st₀, t, T2, L, q0, X2, hL, e1, e2, ⟨hv, hl2, hP2, hF2⟩, go⟩ := hr H locs ls h1 h2 h3 h4 (by rw [← hT]; exact X.heapSize) T hT X
  cases hv
  rw [va_F, q0] at hF2
  obtain ⟨t2, a1, b1⟩ := kk T2.heap (locs ++ L) ls hl2 (by rw [e1]; exact hP2) ⟨Nat.le_trans h3.1 (by rw [e1]; exact hF2.1), fun q z1 z2 => by rw [e1, hF2.2 q (Nat.lt_of_lt_of_le z1 h3.1) z2]; exact h3.2.1 q z1 z2, fun q hq => by
      rcases List.mem_append.mp hq with z | z
      · exact h3.2.2 q z
      · exact hL q z⟩ h4 T2 rfl X2
  refine ⟨t2, go t2 ?_, b1⟩
  have : (r.map (xv g)).toList ++ rest.map (xv g) = (r.toList ++ rest).map (xv g) := by cases r <;> simp
  rw [this]
  exact a1
/-- what a call of y needs of the tables: its link (own or a nest mate's), its code -/
def xMl (own : String) (idx : Nat) (y : MethodName) (cc : ByteArray) (maxL : Nat) (ret : Option FieldType) (n : Nat) : Prop :=
  (Cond.methodLink own idx y ∈ xGT ∨ ∃ host, Cond.methodLinkNest own idx y host ∈ xNT) ∧ Cond.code y cc maxL ret ∈ xGT ∧ Cond.initialized y.cls ∈ xGT ∧ (y.cls ≠ "java/lang/invoke/MethodHandle" ∧ y.cls ≠ "java/lang/invoke/VarHandle" ∧ (parseMethodDescriptor y.desc).map (fun d => d.parameters.length) = some n)
theorem xGood {y : MethodName} {cc : ByteArray} {maxL : Nat} {ret : Option FieldType} (h : Cond.code y cc maxL ret ∈ xGT) : GoodIn xGT (xWs y cc maxL ret) := by
  intro w hw
  rcases List.mem_cons.mp hw with h1 | h1
  · subst h1; exact ⟨h, xGT_good _ h⟩
  · exact ⟨h1, xGT_good _ h1⟩
theorem xPc_at (C : Cx p s m args meth c cc nL own g) {H : Heap} {locs : List Loc} {x : Nat} {As : List Value} (h1 : S.length ≤ xKK) (h2 : va_P g.2.2.2 xCl (xw g F G S) H) (h3 : va_S (xA g) s.heap H locs) (hz : x = 0 → s.heap.size + cells = g.1 + S.length) (hle : H.size ≤ s.heap.size + cells) (U : State) (hU : U.heap = H) (hW : s.WarmedH U.vm) : xPc g S F G x As (As.map (xv g)).toArray U := by
  have hge : g.1 + S.length ≤ H.size := xw_size h2 (Nat.le_trans C.hz h3.1)
  exact ⟨rfl, fun q => by rw [hU]; have := hz q; omega, by rw [hU]; exact Nat.le_trans C.hz h3.1, by rw [hU]; exact h2, h1, C.kk.warm hW (fun q hq => by rw [hU]; exact h3.low C.hz q hq)⟩
/-- an instance method of an object of its own class -/
theorem V.cV (C : Cx p s m args meth c cc nL own g) {d lc mc ms idx maxL n ci a x : Nat} {y : MethodName} {bytes : ByteArray} {ret : Option FieldType} {As rest : List Value} {r : Option Value} {S2 : List xO} {F2 : xF} {G2 : xL} {fs : List (Option Value)} {T : u_T} {N : Nat}
    (hM : CT l g d lc mc ms y bytes maxL ret x (.ref a :: As) S F G r S2 F2 G2) (hm : xMl own idx y bytes maxL ret n) (hv : Cond.instanceMethod y ∈ xGT ∧ Cond.selects y.cls y y ∈ xGT) (hS : S[a]? = some (.inr (.inr (ci, fs)))) (hc : xCl[ci]? = some (y.cls, T, N)) (hn : As.length = n) (hst : st = As.reverse ++ .ref a :: rest) (hz : x = 0 → s.heap.size + cells = g.1 + S.length)
    (hR : d + 1 ≤ R.frames ∧ 8 + (maxL + 11) + lc ≤ R.locals ∧ cells + mc ≤ R.cells ∧ slots + ms ≤ R.slots) (hcat : (rest.map fun v => v.category).sum ≤ 8) (hd : decode cc pc = .ok (.invokevirtual idx, 3))
    (kk : V p l e R s m args below meth c Q nL g S2 F2 G2 (cells + mc) (slots + ms) (pc + 3) lv (r.toList ++ rest)) : V p l e R s m args below meth c Q nL g S F G cells slots pc lv st := by
  obtain ⟨hlink, hcode, hini, hy⟩ := hm
  refine V.ofRun (a := ((Value.ref a :: As).map (xv g)).toArray) C (fun H locs ls h1 h2 h3 h4 hle => ?_) kk
  have hrm : 2 * (F0 m pc ls (st.map (xv g))).monitorRoom + ((rest.map (xv g)).map fun v => v.category).sum ≤ 8 := lv_room (by rw [xcatS]; exact hcat)
  have hpre : PreV s H y.cls (g.1 + a) (xPc g S F G x (.ref a :: As)) (As.map (xv g)) := ⟨xPc_blind, va_recv (q := (y.cls, T, N)) C.k h2 hc (xw_some hS), fun U hU hW => xPc_at (As := .ref a :: As) C h1 h2 h3 hz hle U hU hW⟩
  have hst2 : (F0 m pc ls (st.map (xv g))).stack = (As.map (xv g)).reverse ++ .ref (g.1 + a) :: rest.map (xv g) := by
    rw [hst]; simp [xv]
  rcases hlink with hlink | ⟨host, hlink⟩
  · exact va_runV ⟨C.x, C.b, C.ml, C.ow, C.ts⟩ hM ⟨callB_of n C.ts (xGood hcode) rfl rfl rfl (C.ts _ hini) (C.ts _ hlink) hy ⟨hR.1, hR.2.1⟩, C.ts _ hv.1, C.ts _ hv.2⟩ hpre rfl (by rw [List.length_map]; exact hn) h4.1 hst2 hrm hd ⟨hR.2.2.1, hR.2.2.2⟩
  · exact va_runVN ⟨C.x, C.b, C.ml, C.ow, C.ts⟩ hM ⟨va_cnB n C.ts (xGood hcode) rfl rfl rfl (C.nw _ hlink) (C.ts _ hini) hy ⟨hR.1, hR.2.1⟩, C.ts _ hv.1, C.ts _ hv.2⟩ hpre rfl (by rw [List.length_map]; exact hn) h4.1 hst2 hrm hd ⟨hR.2.2.1, hR.2.2.2⟩
/-- a static method -/
theorem V.cS (C : Cx p s m args meth c cc nL own g) {d lc mc ms idx maxL n x : Nat} {y : MethodName} {bytes : ByteArray} {ret : Option FieldType} {As rest : List Value} {r : Option Value} {S2 : List xO} {F2 : xF} {G2 : xL}
    (hM : CT l g d lc mc ms y bytes maxL ret x As S F G r S2 F2 G2) (hm : xMl own idx y bytes maxL ret n) (hv : Cond.static y ∈ xGT) (hn : As.length = n) (hst : st = As.reverse ++ rest) (hz : x = 0 → s.heap.size + cells = g.1 + S.length)
    (hR : d + 1 ≤ R.frames ∧ 8 + (maxL + 11) + lc ≤ R.locals ∧ cells + mc ≤ R.cells ∧ slots + ms ≤ R.slots) (hcat : (rest.map fun v => v.category).sum ≤ 8) (hd : decode cc pc = .ok (.invokestatic idx, 3))
    (kk : V p l e R s m args below meth c Q nL g S2 F2 G2 (cells + mc) (slots + ms) (pc + 3) lv (r.toList ++ rest)) : V p l e R s m args below meth c Q nL g S F G cells slots pc lv st := by
  obtain ⟨hlink, hcode, hini, hy⟩ := hm
  refine V.ofRun (a := (As.map (xv g)).toArray) C (fun H locs ls h1 h2 h3 h4 hle => ?_) kk
  have hrm : 2 * (F0 m pc ls (st.map (xv g))).monitorRoom + ((rest.map (xv g)).map fun v => v.category).sum ≤ 8 := lv_room (by rw [xcatS]; exact hcat)
  have hpre : PreS s H (xPc g S F G x As) (As.map (xv g)) := ⟨xPc_blind, fun U hU hW => xPc_at (As := As) C h1 h2 h3 hz hle U hU hW⟩
  have hst2 : (F0 m pc ls (st.map (xv g))).stack = (As.map (xv g)).reverse ++ rest.map (xv g) := by
    rw [hst]; simp
  rcases hlink with hlink | ⟨host, hlink⟩
  · exact va_runS ⟨C.x, C.b, C.ml, C.ow, C.ts⟩ hM ⟨callB_of n C.ts (xGood hcode) rfl rfl rfl (C.ts _ hini) (C.ts _ hlink) hy ⟨hR.1, hR.2.1⟩, C.ts _ hv⟩ hpre rfl (by rw [List.length_map]; exact hn) h4.1 hst2 hrm hd ⟨hR.2.2.1, hR.2.2.2⟩
  · exact va_runSN ⟨C.x, C.b, C.ml, C.ow, C.ts⟩ hM ⟨va_cnB n C.ts (xGood hcode) rfl rfl rfl (C.nw _ hlink) (C.ts _ hini) hy ⟨hR.1, hR.2.1⟩, C.ts _ hv, trivial⟩ hpre rfl (by rw [List.length_map]; exact hn) h4.1 hst2 hrm hd ⟨hR.2.2.1, hR.2.2.2⟩
/-- a constructor -/
theorem V.cI (C : Cx p s m args meth c cc nL own g) {d lc mc ms idx maxL n a x : Nat} {y : MethodName} {bytes : ByteArray} {As rest : List Value} {S2 : List xO} {F2 : xF} {G2 : xL}
    (hM : CT l g d lc mc ms y bytes maxL none x (.ref a :: As) S F G none S2 F2 G2) (hm : xMl own idx y bytes maxL none n) (hv : Cond.instanceMethod y ∈ xGT) (hy1 : y.name = "<init>") (hn : As.length = n) (hst : st = As.reverse ++ .ref a :: rest) (hz : x = 0 → s.heap.size + cells = g.1 + S.length)
    (hR : d + 1 ≤ R.frames ∧ 8 + (maxL + 11) + lc ≤ R.locals ∧ cells + mc ≤ R.cells ∧ slots + ms ≤ R.slots) (hcat : (rest.map fun v => v.category).sum ≤ 8) (hd : decode cc pc = .ok (.invokespecial idx, 3))
    (kk : V p l e R s m args below meth c Q nL g S2 F2 G2 (cells + mc) (slots + ms) (pc + 3) lv rest) : V p l e R s m args below meth c Q nL g S F G cells slots pc lv st := by
  obtain ⟨hlink, hcode, hini, hy⟩ := hm
  refine V.ofRun (a := ((Value.ref a :: As).map (xv g)).toArray) (r := none) C (fun H locs ls h1 h2 h3 h4 hle => ?_) kk
  have hrm : 2 * (F0 m pc ls (st.map (xv g))).monitorRoom + ((rest.map (xv g)).map fun v => v.category).sum ≤ 8 := lv_room (by rw [xcatS]; exact hcat)
  have hpre : PreS s H (xPc g S F G x (.ref a :: As)) (.ref (g.1 + a) :: As.map (xv g)) := ⟨xPc_blind, fun U hU hW => xPc_at (As := .ref a :: As) C h1 h2 h3 hz hle U hU hW⟩
  have hst2 : (F0 m pc ls (st.map (xv g))).stack = (As.map (xv g)).reverse ++ .ref (g.1 + a) :: rest.map (xv g) := by
    rw [hst]; simp [xv]
  rcases hlink with hlink | ⟨host, hlink⟩
  · exact va_runI ⟨C.x, C.b, C.ml, C.ow, C.ts⟩ hM ⟨callB_of n C.ts (xGood hcode) rfl rfl rfl (C.ts _ hini) (C.ts _ hlink) hy ⟨hR.1, hR.2.1⟩, hy1, C.ts _ hv⟩ hpre rfl (by rw [List.length_map]; exact hn) h4.1 hst2 hrm hd ⟨hR.2.2.1, hR.2.2.2⟩
  · exact va_runIN ⟨C.x, C.b, C.ml, C.ow, C.ts⟩ hM ⟨va_cnB n C.ts (xGood hcode) rfl rfl rfl (C.nw _ hlink) (C.ts _ hini) hy ⟨hR.1, hR.2.1⟩, hy1, C.ts _ hv⟩ hpre rfl (by rw [List.length_map]; exact hn) h4.1 hst2 hrm hd ⟨hR.2.2.1, hR.2.2.2⟩
end XV2
end
section
/-! the operations of the pure functions, and their rows: what fails (a wrong index, another class) is none -/
def gI (S : List xO) (ci a k : Nat) (F : xF) : Option Int32 := match S[a]? with
  | some (.inr (.inr (c, fs))) => if c = ci then (match fs[k]? with
    | some none => some (F a k)
    | _ => none) else none
  | _ => none
def gR (S : List xO) (ci a k : Nat) : Option Nat := match S[a]? with
  | some (.inr (.inr (c, fs))) => if c = ci then (match fs[k]? with
    | some (some (.ref q)) => some q
    | _ => none) else none
  | _ => none
def pI (S : List xO) (ci a k : Nat) (v : Int32) (F : xF) : Option xF := match S[a]? with
  | some (.inr (.inr (c, fs))) => if c = ci then (match fs[k]? with
    | some none => some (up2 F a k v)
    | _ => none) else none
  | _ => none
def aG (S : List xO) (a : Nat) (j : Int32) (F : xF) : Option Int32 := match S[a]? with
  | some (.inl (0, n)) => if 0 ≤ j.toInt ∧ j.toInt < n then some (F a j.toNatClampNeg) else none
  | _ => none
def aP (S : List xO) (a : Nat) (j v : Int32) (F : xF) : Option xF := match S[a]? with
  | some (.inl (0, n)) => if 0 ≤ j.toInt ∧ j.toInt < n then some (up2 F a j.toNatClampNeg v) else none
  | _ => none
def bG (S : List xO) (a : Nat) (j : Int32) (F : xF) : Option Int32 := match S[a]? with
  | some (.inl (3, n)) => if 0 ≤ j.toInt ∧ j.toInt < n then some (F a j.toNatClampNeg) else none
  | _ => none
def bP (S : List xO) (a : Nat) (j v : Int32) (F : xF) : Option xF := match S[a]? with
  | some (.inl (3, n)) => if 0 ≤ j.toInt ∧ j.toInt < n then some (up2 F a j.toNatClampNeg (vp_nar .byte v)) else none
  | _ => none
def aN (S : List xO) (a : Nat) : Option Int32 := match S[a]? with
  | some (.inl (0, n)) => some (nI n)
  | _ => none
def rG (S : List xO) (a : Nat) (j : Int32) : Option Nat := match S[a]? with
  | some (.inr (.inl (t, rs))) => if t = 2 ∧ 0 ≤ j.toInt ∧ j.toInt < rs.length then rs.getD j.toNatClampNeg none else none
  | _ => none
def aC (S : List xO) (a : Nat) (sp dp n : Int32) (F : xF) : Option xF := match S[a]? with
  | some (.inl (0, n0)) => if 0 ≤ sp.toInt ∧ 0 ≤ dp.toInt ∧ 0 ≤ n.toInt ∧ sp.toInt + n.toInt ≤ n0 ∧ dp.toInt + n.toInt ≤ n0 then some (upR F a (va_cpy (F a) (F a) sp.toNatClampNeg dp.toNatClampNeg n.toNatClampNeg)) else none
  | _ => none
def xcl {α : Type} (S : List xO) (ci a : Nat) (o : Option α) : Option α := match S[a]? with
  | some (.inr (.inr (c, _))) => if c = ci then o else none
  | _ => none
section XOP
variable {S : List xO} {F F1 : xF} {ci a k : Nat} {v j : Int32}
theorem gI_spec (h : gI S ci a k F = some v) : ∃ fs, S[a]? = some (.inr (.inr (ci, fs))) ∧ fs[k]? = some none ∧ F a k = v := by
  unfold gI at h
  split at h
  · split at h
    · rename_i c fs hS hc
      subst hc
      split at h
      · rename_i hf
        exact ⟨fs, hS, hf, Option.some.inj h⟩
      · cases h
    · cases h
  · cases h
theorem gI_of {fs : List (Option Value)} (hS : S[a]? = some (.inr (.inr (ci, fs)))) (hf : fs[k]? = some none) : gI S ci a k F = some (F a k) := by
  unfold gI; rw [hS]; simp [hf]
theorem gR_spec {q : Nat} (h : gR S ci a k = some q) : ∃ fs, S[a]? = some (.inr (.inr (ci, fs))) ∧ fs[k]? = some (some (.ref q)) := by
  unfold gR at h
  split at h
  · split at h
    · rename_i c fs hS hc
      subst hc
      split at h
      · rename_i q2 hf
        cases h
        exact ⟨fs, hS, hf⟩
      · cases h
    · cases h
  · cases h
theorem gR_of {q : Nat} {fs : List (Option Value)} (hS : S[a]? = some (.inr (.inr (ci, fs)))) (hf : fs[k]? = some (some (.ref q))) : gR S ci a k = some q := by
  unfold gR; rw [hS]; simp [hf]
theorem pI_spec (h : pI S ci a k v F = some F1) : ∃ fs, S[a]? = some (.inr (.inr (ci, fs))) ∧ fs[k]? = some none ∧ up2 F a k v = F1 := by
  unfold pI at h
  split at h
  · split at h
    · rename_i c fs hS hc
      subst hc
      split at h
      · rename_i hf
        exact ⟨fs, hS, hf, Option.some.inj h⟩
      · cases h
    · cases h
  · cases h
theorem pI_of {fs : List (Option Value)} (hS : S[a]? = some (.inr (.inr (ci, fs)))) (hf : fs[k]? = some none) : pI S ci a k v F = some (up2 F a k v) := by
  unfold pI; rw [hS]; simp [hf]
theorem aG_spec (h : aG S a j F = some v) : ∃ n, S[a]? = some (.inl (0, n)) ∧ vp_in j n ∧ F a j.toNatClampNeg = v := by
  unfold aG at h
  split at h
  · rename_i n hS
    split at h
    · rename_i hj
      exact ⟨n, hS, vp_in_iff.mpr hj, Option.some.inj h⟩
    · cases h
  · cases h
theorem aG_of {n : Nat} (hS : S[a]? = some (.inl (0, n))) (hj : 0 ≤ j.toInt ∧ j.toInt < n) : aG S a j F = some (F a j.toNatClampNeg) := by
  unfold aG; rw [hS]; simp [hj]
theorem aP_spec (h : aP S a j v F = some F1) : ∃ n, S[a]? = some (.inl (0, n)) ∧ vp_in j n ∧ up2 F a j.toNatClampNeg v = F1 := by
  unfold aP at h
  split at h
  · rename_i n hS
    split at h
    · rename_i hj
      exact ⟨n, hS, vp_in_iff.mpr hj, Option.some.inj h⟩
    · cases h
  · cases h
theorem aP_of {n : Nat} (hS : S[a]? = some (.inl (0, n))) (hj : 0 ≤ j.toInt ∧ j.toInt < n) : aP S a j v F = some (up2 F a j.toNatClampNeg v) := by
  unfold aP; rw [hS]; simp [hj]
theorem bG_spec (h : bG S a j F = some v) : ∃ n, S[a]? = some (.inl (3, n)) ∧ vp_in j n ∧ F a j.toNatClampNeg = v := by
  unfold bG at h
  split at h
  · rename_i n hS
    split at h
    · rename_i hj
      exact ⟨n, hS, vp_in_iff.mpr hj, Option.some.inj h⟩
    · cases h
  · cases h
theorem bG_of {n : Nat} (hS : S[a]? = some (.inl (3, n))) (hj : 0 ≤ j.toInt ∧ j.toInt < n) : bG S a j F = some (F a j.toNatClampNeg) := by
  unfold bG; rw [hS]; simp [hj]
theorem bP_spec (h : bP S a j v F = some F1) : ∃ n, S[a]? = some (.inl (3, n)) ∧ vp_in j n ∧ up2 F a j.toNatClampNeg (vp_nar .byte v) = F1 := by
  unfold bP at h
  split at h
  · rename_i n hS
    split at h
    · rename_i hj
      exact ⟨n, hS, vp_in_iff.mpr hj, Option.some.inj h⟩
    · cases h
  · cases h
theorem bP_of {n : Nat} (hS : S[a]? = some (.inl (3, n))) (hj : 0 ≤ j.toInt ∧ j.toInt < n) : bP S a j v F = some (up2 F a j.toNatClampNeg (vp_nar .byte v)) := by
  unfold bP; rw [hS]; simp [hj]
theorem aN_spec (h : aN S a = some v) : ∃ n, S[a]? = some (.inl (0, n)) ∧ nI n = v := by
  unfold aN at h
  split at h
  · rename_i n hS
    exact ⟨n, hS, Option.some.inj h⟩
  · cases h
theorem aN_of {n : Nat} (hS : S[a]? = some (.inl (0, n))) : aN S a = some (nI n) := by
  simp [aN, hS]
theorem rG_spec {q : Nat} (h : rG S a j = some q) : ∃ rs : List (Option Nat), S[a]? = some (.inr (.inl (2, rs))) ∧ vp_in j rs.length ∧ rs.getD j.toNatClampNeg none = some q := by
  unfold rG at h
  split at h
  · rename_i t rs hS
    split at h
    · rename_i hj
      obtain ⟨h1, h2⟩ := hj
      subst h1
      exact ⟨rs, hS, vp_in_iff.mpr h2, h⟩
    · cases h
  · cases h
theorem xcl_spec {α : Type} {o : Option α} {x : α} (h : xcl S ci a o = some x) : (∃ fs, S[a]? = some (.inr (.inr (ci, fs)))) ∧ o = some x := by
  unfold xcl at h
  split at h
  · rename_i c fs hS
    split at h
    · rename_i hc
      subst hc
      exact ⟨⟨fs, hS⟩, h⟩
    · cases h
  · cases h
theorem xcl_of {α : Type} {o : Option α} {fs : List (Option Value)} (hS : S[a]? = some (.inr (.inr (ci, fs)))) : xcl S ci a o = o := by
  unfold xcl; rw [hS]; simp
theorem aC_spec {sp dp n : Int32} (h : aC S a sp dp n F = some F1) : ∃ n0, S[a]? = some (.inl (0, n0)) ∧ ¬ sp < 0 ∧ ¬ dp < 0 ∧ ¬ n < 0 ∧ sp.toNatClampNeg + n.toNatClampNeg ≤ n0 ∧ dp.toNatClampNeg + n.toNatClampNeg ≤ n0 ∧ upR F a (va_cpy (F a) (F a) sp.toNatClampNeg dp.toNatClampNeg n.toNatClampNeg) = F1 := by
  unfold aC at h
  split at h
  · rename_i n0 hS
    split at h
    · rename_i hj
      obtain ⟨h1, h2, h3, h4, h5⟩ := hj
      refine ⟨n0, hS, ?_, ?_, ?_, ?_, ?_, Option.some.inj h⟩
      · rw [Int32.lt_iff_toInt_lt, Int32.toInt_zero]; omega
      · rw [Int32.lt_iff_toInt_lt, Int32.toInt_zero]; omega
      · rw [Int32.lt_iff_toInt_lt, Int32.toInt_zero]; omega
      · show sp.toInt.toNat + n.toInt.toNat ≤ n0; omega
      · show dp.toInt.toNat + n.toInt.toNat ≤ n0; omega
    · cases h
  · cases h
end XOP
def xsub : List (Option Value) → List (Option Value) → Prop
  | [], _ => True
  | none :: r2, [] => xsub r2 []
  | none :: r2, _ :: r => xsub r2 r
  | some _ :: _, [] => False
  | some v :: r2, o :: r => o = some v ∧ xsub r2 r
theorem xsub_spec : ∀ {lv2 lv : List (Option Value)}, xsub lv2 lv → ∀ (k : Nat) (v : Value), xlg lv2 k = some v → xlg lv k = some v
  | [], _, _, k, v, h => by simp [xlg] at h
  | none :: r2, [], hs, 0, v, h => by simp [xlg] at h
  | none :: r2, [], hs, k + 1, v, h => by
    have := xsub_spec (lv2 := r2) (lv := []) hs k v h
    simp [xlg] at this
  | none :: r2, o :: r, hs, 0, v, h => by simp [xlg] at h
  | none :: r2, o :: r, hs, k + 1, v, h => xsub_spec (lv2 := r2) (lv := r) hs k v h
  | some w :: r2, [], hs, k, v, h => by cases hs
  | some w :: r2, o :: r, hs, 0, v, h => by
    obtain ⟨h1, -⟩ := hs
    have h2 : w = v := by simpa [xlg] using h
    rw [← h2]
    exact h1
  | some w :: r2, o :: r, hs, k + 1, v, h => xsub_spec (lv2 := r2) (lv := r) hs.2 k v h
section XV3
variable {p : Program} {l : Launch} {e : Env} {R : Room} {s : State} {m : MethodId} {args : Array Value} {below : List Frame} {meth : Method} {c : Code} {Q : State → Prop}
variable {cc : ByteArray} {nL : Nat} {own : String} {g : xG} {S : List xO} {F F1 : xF} {G : xL} {cells slots pc : Nat} {lv : List (Option Value)} {st : List Value} {idx ci a k : Nat} {v j : Int32}
theorem V.xgetI (C : Cx p s m args meth c cc nL own g) (hl : xFl own idx ci k) (h : gI S ci a k F = some v) (hd : decode cc pc = .ok (.getfield idx, 3)) (kk : V p l e R s m args below meth c Q nL g S F G cells slots (pc + 3) lv (.int v :: st)) : V p l e R s m args below meth c Q nL g S F G cells slots pc lv (.ref a :: st) := by
  obtain ⟨fs, h1, h2, h3⟩ := gI_spec h
  subst h3
  exact V.getI C hl h1 h2 hd kk
theorem V.xgetR (C : Cx p s m args meth c cc nL own g) {q : Nat} (hl : xFl own idx ci k) (h : gR S ci a k = some q) (hd : decode cc pc = .ok (.getfield idx, 3)) (kk : V p l e R s m args below meth c Q nL g S F G cells slots (pc + 3) lv (.ref q :: st)) : V p l e R s m args below meth c Q nL g S F G cells slots pc lv (.ref a :: st) := by
  obtain ⟨fs, h1, h2⟩ := gR_spec h
  exact V.getR C hl h1 h2 hd kk
theorem V.xputI (C : Cx p s m args meth c cc nL own g) (hl : xFl own idx ci k) (ht : xFt ci) (hI : xFI ci k) (h : pI S ci a k v F = some F1) (hd : decode cc pc = .ok (.putfield idx, 3)) (kk : V p l e R s m args below meth c Q nL g S F1 G cells slots (pc + 3) lv st) : V p l e R s m args below meth c Q nL g S F G cells slots pc lv (.int v :: .ref a :: st) := by
  obtain ⟨fs, h1, h2, h3⟩ := pI_spec h
  subst h3
  exact V.putI C hl ht hI h1 h2 hd kk
theorem V.xiald (C : Cx p s m args meth c cc nL own g) (h : aG S a j F = some v) (hd : decode cc pc = .ok (.iaload, 1)) (kk : V p l e R s m args below meth c Q nL g S F G cells slots (pc + 1) lv (.int v :: st)) : V p l e R s m args below meth c Q nL g S F G cells slots pc lv (.int j :: .ref a :: st) := by
  obtain ⟨n, h1, h2, h3⟩ := aG_spec h
  subst h3
  exact V.iald C h1 h2 hd kk
theorem V.xiast (C : Cx p s m args meth c cc nL own g) (h : aP S a j v F = some F1) (hd : decode cc pc = .ok (.iastore, 1)) (kk : V p l e R s m args below meth c Q nL g S F1 G cells slots (pc + 1) lv st) : V p l e R s m args below meth c Q nL g S F G cells slots pc lv (.int v :: .int j :: .ref a :: st) := by
  obtain ⟨n, h1, h2, h3⟩ := aP_spec h
  subst h3
  exact V.iast C h1 h2 hd kk
theorem V.xbald (C : Cx p s m args meth c cc nL own g) (h : bG S a j F = some v) (hd : decode cc pc = .ok (.baload, 1)) (kk : V p l e R s m args below meth c Q nL g S F G cells slots (pc + 1) lv (.int v :: st)) : V p l e R s m args below meth c Q nL g S F G cells slots pc lv (.int j :: .ref a :: st) := by
  obtain ⟨n, h1, h2, h3⟩ := bG_spec h
  subst h3
  exact V.bald C h1 h2 hd kk
theorem V.xbast (C : Cx p s m args meth c cc nL own g) (h : bP S a j v F = some F1) (hd : decode cc pc = .ok (.bastore, 1)) (kk : V p l e R s m args below meth c Q nL g S F1 G cells slots (pc + 1) lv st) : V p l e R s m args below meth c Q nL g S F G cells slots pc lv (.int v :: .int j :: .ref a :: st) := by
  obtain ⟨n, h1, h2, h3⟩ := bP_spec h
  subst h3
  exact V.bast C h1 h2 hd kk
theorem V.xalen (C : Cx p s m args meth c cc nL own g) (h : aN S a = some v) (hd : decode cc pc = .ok (.arraylength, 1)) (kk : V p l e R s m args below meth c Q nL g S F G cells slots (pc + 1) lv (.int v :: st)) : V p l e R s m args below meth c Q nL g S F G cells slots pc lv (.ref a :: st) := by
  obtain ⟨n, h1, h2⟩ := aN_spec h
  subst h2
  exact V.alen C h1 hd kk
theorem V.xaald (C : Cx p s m args meth c cc nL own g) {q : Nat} (h : rG S a j = some q) (hd : decode cc pc = .ok (.aaload, 1)) (kk : V p l e R s m args below meth c Q nL g S F G cells slots (pc + 1) lv (.ref q :: st)) : V p l e R s m args below meth c Q nL g S F G cells slots pc lv (.int j :: .ref a :: st) := by
  obtain ⟨rs, h1, h2, h3⟩ := rG_spec h
  exact V.aald C h1 (xTy2 g) h2 h3 hd kk
theorem V.xcopy (C : Cx p s m args meth c cc nL own g) {sp dp n : Int32} (hw : Cond.methodLink own idx arraycopyName ∈ xGT ∧ Cond.native arraycopyName ∈ xGT ∧ Cond.static arraycopyName ∈ xGT ∧ Cond.initialized "java/lang/System" ∈ xGT) (h : aC S a sp dp n F = some F1) (hR : 1 ≤ R.frames ∧ (st.map fun v => v.category).sum + (nativeFrameWords "java/lang/System" "arraycopy" 5 + 11) ≤ R.locals) (hd : decode cc pc = .ok (.invokestatic idx, 3)) (kk : V p l e R s m args below meth c Q nL g S F1 G cells slots (pc + 3) lv st) : V p l e R s m args below meth c Q nL g S F G cells slots pc lv (.int n :: .int dp :: .ref a :: .int sp :: .ref a :: st) := by
  obtain ⟨n0, h1, h2, h3, h4, h5, h6, h7⟩ := aC_spec h
  subst h7
  exact V.copy C hw h1 h2 h3 h4 h5 h6 hR hd kk
/-- calls, with the answer on the stack, and without -/
def xCv (own : String) (idx : Nat) (y : MethodName) (cc : ByteArray) (maxL : Nat) (ret : Option FieldType) (n ci : Nat) : Prop := xMl own idx y cc maxL ret n ∧ (Cond.instanceMethod y ∈ xGT ∧ Cond.selects y.cls y y ∈ xGT) ∧ ∃ (T : u_T) (N : Nat), xCl[ci]? = some (y.cls, T, N)
def xCs (own : String) (idx : Nat) (y : MethodName) (cc : ByteArray) (maxL : Nat) (ret : Option FieldType) (n : Nat) : Prop := xMl own idx y cc maxL ret n ∧ Cond.static y ∈ xGT
variable {d lc maxL n : Nat} {y : MethodName} {bytes : ByteArray} {ret : Option FieldType} {As rest : List Value} {r : Value} {F2 : xF} {fs : List (Option Value)}
theorem V.cVr (C : Cx p s m args meth c cc nL own g) (hM : CT l g d lc 0 0 y bytes maxL ret 1 (.ref a :: As) S F G (some r) S F2 G) (hm : xCv own idx y bytes maxL ret n ci) (hS : S[a]? = some (.inr (.inr (ci, fs)))) (hn : As.length = n) (hst : st = As.reverse ++ .ref a :: rest) (hR : d + 1 ≤ R.frames ∧ 8 + (maxL + 11) + lc ≤ R.locals ∧ cells + 0 ≤ R.cells ∧ slots + 0 ≤ R.slots) (hcat : (rest.map fun v => v.category).sum ≤ 8) (hd : decode cc pc = .ok (.invokevirtual idx, 3))
    (kk : V p l e R s m args below meth c Q nL g S F2 G cells slots (pc + 3) lv (r :: rest)) : V p l e R s m args below meth c Q nL g S F G cells slots pc lv st := by
  obtain ⟨h1, h2, T, N, h3⟩ := hm
  exact V.cV C hM h1 h2 hS h3 hn hst (fun q => absurd q (by decide)) hR hcat hd kk
theorem V.cVv (C : Cx p s m args meth c cc nL own g) (hM : CT l g d lc 0 0 y bytes maxL ret 1 (.ref a :: As) S F G none S F2 G) (hm : xCv own idx y bytes maxL ret n ci) (hS : S[a]? = some (.inr (.inr (ci, fs)))) (hn : As.length = n) (hst : st = As.reverse ++ .ref a :: rest) (hR : d + 1 ≤ R.frames ∧ 8 + (maxL + 11) + lc ≤ R.locals ∧ cells + 0 ≤ R.cells ∧ slots + 0 ≤ R.slots) (hcat : (rest.map fun v => v.category).sum ≤ 8) (hd : decode cc pc = .ok (.invokevirtual idx, 3))
    (kk : V p l e R s m args below meth c Q nL g S F2 G cells slots (pc + 3) lv rest) : V p l e R s m args below meth c Q nL g S F G cells slots pc lv st := by
  obtain ⟨h1, h2, T, N, h3⟩ := hm
  exact V.cV C hM h1 h2 hS h3 hn hst (fun q => absurd q (by decide)) hR hcat hd kk
theorem V.cSr (C : Cx p s m args meth c cc nL own g) (hM : CT l g d lc 0 0 y bytes maxL ret 1 As S F G (some r) S F2 G) (hm : xCs own idx y bytes maxL ret n) (hn : As.length = n) (hst : st = As.reverse ++ rest) (hR : d + 1 ≤ R.frames ∧ 8 + (maxL + 11) + lc ≤ R.locals ∧ cells + 0 ≤ R.cells ∧ slots + 0 ≤ R.slots) (hcat : (rest.map fun v => v.category).sum ≤ 8) (hd : decode cc pc = .ok (.invokestatic idx, 3))
    (kk : V p l e R s m args below meth c Q nL g S F2 G cells slots (pc + 3) lv (r :: rest)) : V p l e R s m args below meth c Q nL g S F G cells slots pc lv st := V.cS C hM hm.1 hm.2 hn hst (fun q => absurd q (by decide)) hR hcat hd kk
theorem V.cSv (C : Cx p s m args meth c cc nL own g) (hM : CT l g d lc 0 0 y bytes maxL ret 1 As S F G none S F2 G) (hm : xCs own idx y bytes maxL ret n) (hn : As.length = n) (hst : st = As.reverse ++ rest) (hR : d + 1 ≤ R.frames ∧ 8 + (maxL + 11) + lc ≤ R.locals ∧ cells + 0 ≤ R.cells ∧ slots + 0 ≤ R.slots) (hcat : (rest.map fun v => v.category).sum ≤ 8) (hd : decode cc pc = .ok (.invokestatic idx, 3))
    (kk : V p l e R s m args below meth c Q nL g S F2 G cells slots (pc + 3) lv rest) : V p l e R s m args below meth c Q nL g S F G cells slots pc lv st := V.cS C hM hm.1 hm.2 hn hst (fun q => absurd q (by decide)) hR hcat hd kk
end XV3
end
section
theorem iw_0 : ∀ w ∈ u_ws "PaletteFrames$Numbers" T_0 2, w ∈ xGT := by decide +kernel
theorem iw_1 : ∀ w ∈ u_ws "PaletteFrames$Width" T_1 4, w ∈ xGT := by decide +kernel
theorem iw_2 : ∀ w ∈ u_ws "PaletteFrames$Strings" T_2 5, w ∈ xGT := by decide +kernel
theorem iw_3 : ∀ w ∈ u_ws "PaletteFrames$Coder" T_3 12, w ∈ xGT := by decide +kernel
theorem iw_4 : ∀ w ∈ u_ws "PaletteFrames$Reader" T_4 7, w ∈ xGT := by decide +kernel
theorem iw_5 : ∀ w ∈ u_ws "PaletteFrames$Palette" T_5 1, w ∈ xGT := by decide +kernel
theorem iw_6 : ∀ w ∈ u_ws "PaletteFrames$Frame" T_6 9, w ∈ xGT := by decide +kernel
theorem iw_7 : ∀ w ∈ u_ws "PaletteFrames$Screen" T_7 3, w ∈ xGT := by decide +kernel
theorem iw_8 : ∀ w ∈ u_ws "PaletteFrames" T_8 7, w ∈ xGT := by decide +kernel
theorem iw_9 : ∀ w ∈ u_ws "PaletteFramesModel" T_9 37, w ∈ xGT := by decide +kernel
theorem gw_0 : Cond.selects "PaletteFrames$Coder" ⟨"PaletteFrames$Coder", "writeClear", "()V"⟩ ⟨"PaletteFrames$Coder", "writeClear", "()V"⟩ ∈ xGT := xGT_of 0 (by decide +kernel) (by decide +kernel)
theorem gw_1 : Cond.selects "PaletteFrames$Coder" ⟨"PaletteFrames$Coder", "write", "(I)V"⟩ ⟨"PaletteFrames$Coder", "write", "(I)V"⟩ ∈ xGT := xGT_of 1 (by decide +kernel) (by decide +kernel)
theorem gw_2 : Cond.selects "PaletteFrames$Coder" ⟨"PaletteFrames$Coder", "startLook", "()V"⟩ ⟨"PaletteFrames$Coder", "startLook", "()V"⟩ ∈ xGT := xGT_of 2 (by decide +kernel) (by decide +kernel)
theorem gw_3 : Cond.selects "PaletteFrames$Strings" ⟨"PaletteFrames$Strings", "slotFor", "(I)I"⟩ ⟨"PaletteFrames$Strings", "slotFor", "(I)I"⟩ ∈ xGT := xGT_of 3 (by decide +kernel) (by decide +kernel)
theorem gw_4 : Cond.selects "PaletteFrames$Coder" ⟨"PaletteFrames$Coder", "writeEntry", "(II)V"⟩ ⟨"PaletteFrames$Coder", "writeEntry", "(II)V"⟩ ∈ xGT := xGT_of 4 (by decide +kernel) (by decide +kernel)
theorem gw_5 : Cond.selects "PaletteFrames$Coder" ⟨"PaletteFrames$Coder", "isClearDue", "(I)Z"⟩ ⟨"PaletteFrames$Coder", "isClearDue", "(I)Z"⟩ ∈ xGT := xGT_of 5 (by decide +kernel) (by decide +kernel)
theorem gw_6 : Cond.selects "PaletteFrames$Coder" ⟨"PaletteFrames$Coder", "writeRest", "()V"⟩ ⟨"PaletteFrames$Coder", "writeRest", "()V"⟩ ∈ xGT := xGT_of 6 (by decide +kernel) (by decide +kernel)
theorem gw_7 : Cond.selects "PaletteFrames$Reader" ⟨"PaletteFrames$Reader", "restart", "()V"⟩ ⟨"PaletteFrames$Reader", "restart", "()V"⟩ ∈ xGT := xGT_of 7 (by decide +kernel) (by decide +kernel)
theorem gw_8 : Cond.selects "PaletteFrames$Reader" ⟨"PaletteFrames$Reader", "codeFrom", "(LPaletteFrames$Numbers;I)I"⟩ ⟨"PaletteFrames$Reader", "codeFrom", "(LPaletteFrames$Numbers;I)I"⟩ ∈ xGT := xGT_of 8 (by decide +kernel) (by decide +kernel)
theorem gw_9 : Cond.selects "PaletteFrames$Reader" ⟨"PaletteFrames$Reader", "copyString", "(I)Z"⟩ ⟨"PaletteFrames$Reader", "copyString", "(I)Z"⟩ ∈ xGT := xGT_of 9 (by decide +kernel) (by decide +kernel)
theorem gw_10 : Cond.selects "PaletteFrames$Reader" ⟨"PaletteFrames$Reader", "addEntry", "(II)V"⟩ ⟨"PaletteFrames$Reader", "addEntry", "(II)V"⟩ ∈ xGT := xGT_of 10 (by decide +kernel) (by decide +kernel)
theorem gw_12 : Cond.selects "PaletteFrames$Frame" ⟨"PaletteFrames$Frame", "fillLine", "(LPaletteFrames$Numbers;II)V"⟩ ⟨"PaletteFrames$Frame", "fillLine", "(LPaletteFrames$Numbers;II)V"⟩ ∈ xGT := xGT_of 12 (by decide +kernel) (by decide +kernel)
theorem gw_13 : Cond.selects "PaletteFrames" ⟨"PaletteFrames", "isSymbol", "(I)Z"⟩ ⟨"PaletteFrames", "isSymbol", "(I)Z"⟩ ∈ xGT := xGT_of 13 (by decide +kernel) (by decide +kernel)
theorem gw_14 : Cond.selects "PaletteFrames$Screen" ⟨"PaletteFrames$Screen", "sourceBehind", "(III)I"⟩ ⟨"PaletteFrames$Screen", "sourceBehind", "(III)I"⟩ ∈ xGT := xGT_of 14 (by decide +kernel) (by decide +kernel)
theorem gw_15 : Cond.selects "PaletteFramesModel" ⟨"PaletteFramesModel", "begin", "()V"⟩ ⟨"PaletteFramesModel", "begin", "()V"⟩ ∈ xGT := xGT_of 15 (by decide +kernel) (by decide +kernel)
theorem gw_16 : Cond.selects "PaletteFramesModel" ⟨"PaletteFramesModel", "writeClear", "()V"⟩ ⟨"PaletteFramesModel", "writeClear", "()V"⟩ ∈ xGT := xGT_of 16 (by decide +kernel) (by decide +kernel)
theorem gw_17 : Cond.selects "PaletteFramesModel" ⟨"PaletteFramesModel", "write", "(I)V"⟩ ⟨"PaletteFramesModel", "write", "(I)V"⟩ ∈ xGT := xGT_of 17 (by decide +kernel) (by decide +kernel)
theorem gw_18 : Cond.selects "PaletteFramesModel" ⟨"PaletteFramesModel", "childOf", "(II)I"⟩ ⟨"PaletteFramesModel", "childOf", "(II)I"⟩ ∈ xGT := xGT_of 18 (by decide +kernel) (by decide +kernel)
theorem gw_19 : Cond.selects "PaletteFramesModel" ⟨"PaletteFramesModel", "widen", "()V"⟩ ⟨"PaletteFramesModel", "widen", "()V"⟩ ∈ xGT := xGT_of 19 (by decide +kernel) (by decide +kernel)
theorem gw_20 : Cond.selects "PaletteFramesModel" ⟨"PaletteFramesModel", "enter", "(II)V"⟩ ⟨"PaletteFramesModel", "enter", "(II)V"⟩ ∈ xGT := xGT_of 20 (by decide +kernel) (by decide +kernel)
theorem gw_21 : Cond.selects "PaletteFramesModel" ⟨"PaletteFramesModel", "nextCode", "()I"⟩ ⟨"PaletteFramesModel", "nextCode", "()I"⟩ ∈ xGT := xGT_of 21 (by decide +kernel) (by decide +kernel)
theorem gw_22 : Cond.selects "PaletteFramesModel" ⟨"PaletteFramesModel", "firstOf", "(I)I"⟩ ⟨"PaletteFramesModel", "firstOf", "(I)I"⟩ ∈ xGT := xGT_of 22 (by decide +kernel) (by decide +kernel)
theorem gw_23 : Cond.selects "PaletteFramesModel" ⟨"PaletteFramesModel", "spell", "(I)V"⟩ ⟨"PaletteFramesModel", "spell", "(I)V"⟩ ∈ xGT := xGT_of 23 (by decide +kernel) (by decide +kernel)
theorem gw_24 : Cond.selects "PaletteFramesModel" ⟨"PaletteFramesModel", "isFrame", "(I)Z"⟩ ⟨"PaletteFramesModel", "isFrame", "(I)Z"⟩ ∈ xGT := xGT_of 24 (by decide +kernel) (by decide +kernel)
theorem gw_25 : Cond.selects "PaletteFramesModel" ⟨"PaletteFramesModel", "isSymbol", "(I)Z"⟩ ⟨"PaletteFramesModel", "isSymbol", "(I)Z"⟩ ∈ xGT := xGT_of 25 (by decide +kernel) (by decide +kernel)
theorem gw_26 : Cond.selects "PaletteFramesModel" ⟨"PaletteFramesModel", "takeAway", "(I)V"⟩ ⟨"PaletteFramesModel", "takeAway", "(I)V"⟩ ∈ xGT := xGT_of 26 (by decide +kernel) (by decide +kernel)
theorem gw_27 : Cond.selects "PaletteFramesModel" ⟨"PaletteFramesModel", "placeOf", "(III)I"⟩ ⟨"PaletteFramesModel", "placeOf", "(III)I"⟩ ∈ xGT := xGT_of 27 (by decide +kernel) (by decide +kernel)
theorem gw_28 : Cond.selects "PaletteFramesModel" ⟨"PaletteFramesModel", "draw", "(I)V"⟩ ⟨"PaletteFramesModel", "draw", "(I)V"⟩ ∈ xGT := xGT_of 28 (by decide +kernel) (by decide +kernel)
theorem gw_30 : Cond.initialized "PaletteFrames" ∈ xGT := xGT_of 30 (by decide +kernel) (by decide +kernel)
theorem gw_31 : Cond.initialized "java/lang/Math" ∈ xGT := xGT_of 31 (by decide +kernel) (by decide +kernel)
theorem gw_32 : Cond.initialized "PaletteFrames$Numbers" ∈ xGT := xGT_of 32 (by decide +kernel) (by decide +kernel)
theorem gw_33 : Cond.initialized "PaletteFrames$Coder" ∈ xGT := xGT_of 33 (by decide +kernel) (by decide +kernel)
theorem gw_34 : Cond.initialized "PaletteFrames$Width" ∈ xGT := xGT_of 34 (by decide +kernel) (by decide +kernel)
theorem gw_35 : Cond.initialized "PaletteFrames$Strings" ∈ xGT := xGT_of 35 (by decide +kernel) (by decide +kernel)
theorem gw_36 : Cond.initialized "PaletteFrames$Reader" ∈ xGT := xGT_of 36 (by decide +kernel) (by decide +kernel)
theorem gw_37 : Cond.initialized "PaletteFrames$Screen" ∈ xGT := xGT_of 37 (by decide +kernel) (by decide +kernel)
theorem gw_38 : Cond.initialized "PaletteFrames$Palette" ∈ xGT := xGT_of 38 (by decide +kernel) (by decide +kernel)
theorem gw_39 : Cond.initialized "java/util/Arrays" ∈ xGT := xGT_of 39 (by decide +kernel) (by decide +kernel)
theorem gw_40 : Cond.initialized "PaletteFrames$Frame" ∈ xGT := xGT_of 40 (by decide +kernel) (by decide +kernel)
theorem gw_41 : Cond.initialized "PaletteFramesModel" ∈ xGT := xGT_of 41 (by decide +kernel) (by decide +kernel)
theorem gw_45 : Cond.initialized "java/lang/IllegalArgumentException" ∈ xGT := xGT_of 45 (by decide +kernel) (by decide +kernel)
theorem gw_46 : Cond.initialized "java/lang/UnsupportedOperationException" ∈ xGT := xGT_of 46 (by decide +kernel) (by decide +kernel)
theorem gw_47 : Cond.initialized "java/lang/IndexOutOfBoundsException" ∈ xGT := xGT_of 47 (by decide +kernel) (by decide +kernel)
theorem gw_48 : Cond.initialized "java/lang/IllegalStateException" ∈ xGT := xGT_of 48 (by decide +kernel) (by decide +kernel)
theorem gw_49 : Cond.initialized "java/lang/System" ∈ xGT := xGT_of 49 (by decide +kernel) (by decide +kernel)
theorem gw_58 : Cond.methodLink "PaletteFrames" 9 ⟨"java/lang/Math", "min", "(II)I"⟩ ∈ xGT := xGT_of 58 (by decide +kernel) (by decide +kernel)
theorem gw_59 : Cond.static ⟨"java/lang/Math", "min", "(II)I"⟩ ∈ xGT := xGT_of 59 (by decide +kernel) (by decide +kernel)
theorem gw_70 : Cond.fieldLink "PaletteFrames$Numbers" 9 "PaletteFrames$Numbers" "items" "[I" ∈ xGT := xGT_of 70 (by decide +kernel) (by decide +kernel)
theorem gw_71 : Cond.fieldLink "PaletteFrames$Numbers" 15 "PaletteFrames$Numbers" "size" "I" ∈ xGT := xGT_of 71 (by decide +kernel) (by decide +kernel)
theorem gw_72 : Cond.fieldLink "PaletteFrames$Reader" 50 "PaletteFrames$Numbers" "size" "I" ∈ xGT := xGT_of 72 (by decide +kernel) (by decide +kernel)
theorem gw_73 : Cond.fieldLink "PaletteFrames" 77 "PaletteFrames$Numbers" "size" "I" ∈ xGT := xGT_of 73 (by decide +kernel) (by decide +kernel)
theorem gw_74 : Cond.fieldLink "PaletteFrames$Coder" 73 "PaletteFrames$Numbers" "size" "I" ∈ xGT := xGT_of 74 (by decide +kernel) (by decide +kernel)
theorem gw_95 : Cond.fieldLink "PaletteFrames$Width" 9 "PaletteFrames$Width" "symbolBits" "I" ∈ xGT := xGT_of 95 (by decide +kernel) (by decide +kernel)
theorem gw_96 : Cond.fieldLink "PaletteFrames$Width" 15 "PaletteFrames$Width" "end" "I" ∈ xGT := xGT_of 96 (by decide +kernel) (by decide +kernel)
theorem gw_97 : Cond.fieldLink "PaletteFrames$Width" 18 "PaletteFrames$Width" "bits" "I" ∈ xGT := xGT_of 97 (by decide +kernel) (by decide +kernel)
theorem gw_98 : Cond.fieldLink "PaletteFrames$Reader" 54 "PaletteFrames$Width" "bits" "I" ∈ xGT := xGT_of 98 (by decide +kernel) (by decide +kernel)
theorem gw_99 : Cond.fieldLink "PaletteFrames$Coder" 113 "PaletteFrames$Width" "bits" "I" ∈ xGT := xGT_of 99 (by decide +kernel) (by decide +kernel)
theorem gw_100 : Cond.fieldLink "PaletteFrames$Width" 21 "PaletteFrames$Width" "codes" "I" ∈ xGT := xGT_of 100 (by decide +kernel) (by decide +kernel)
theorem gw_116 : Cond.fieldLink "PaletteFrames$Strings" 21 "PaletteFrames$Strings" "end" "I" ∈ xGT := xGT_of 116 (by decide +kernel) (by decide +kernel)
theorem gw_117 : Cond.fieldLink "PaletteFrames$Strings" 11 "PaletteFrames$Strings" "slots" "[I" ∈ xGT := xGT_of 117 (by decide +kernel) (by decide +kernel)
theorem gw_118 : Cond.fieldLink "PaletteFrames$Strings" 15 "PaletteFrames$Strings" "keys" "[I" ∈ xGT := xGT_of 118 (by decide +kernel) (by decide +kernel)
theorem gw_119 : Cond.fieldLink "PaletteFrames$Strings" 18 "PaletteFrames$Strings" "slotOf" "[I" ∈ xGT := xGT_of 119 (by decide +kernel) (by decide +kernel)
theorem gw_120 : Cond.fieldLink "PaletteFrames$Strings" 25 "PaletteFrames$Strings" "last" "I" ∈ xGT := xGT_of 120 (by decide +kernel) (by decide +kernel)
theorem gw_132 : Cond.fieldLink "PaletteFrames$Coder" 20 "PaletteFrames$Coder" "clearCode" "I" ∈ xGT := xGT_of 132 (by decide +kernel) (by decide +kernel)
theorem gw_133 : Cond.fieldLink "PaletteFrames$Coder" 24 "PaletteFrames$Coder" "endCode" "I" ∈ xGT := xGT_of 133 (by decide +kernel) (by decide +kernel)
theorem gw_134 : Cond.fieldLink "PaletteFrames$Coder" 30 "PaletteFrames$Coder" "width" "LPaletteFrames$Width;" ∈ xGT := xGT_of 134 (by decide +kernel) (by decide +kernel)
theorem gw_135 : Cond.fieldLink "PaletteFrames$Coder" 37 "PaletteFrames$Coder" "strings" "LPaletteFrames$Strings;" ∈ xGT := xGT_of 135 (by decide +kernel) (by decide +kernel)
theorem gw_136 : Cond.fieldLink "PaletteFrames" 111 "PaletteFrames$Coder" "strings" "LPaletteFrames$Strings;" ∈ xGT := xGT_of 136 (by decide +kernel) (by decide +kernel)
theorem gw_137 : Cond.fieldLink "PaletteFrames$Coder" 14 "PaletteFrames$Coder" "bytes" "LPaletteFrames$Numbers;" ∈ xGT := xGT_of 137 (by decide +kernel) (by decide +kernel)
theorem gw_138 : Cond.fieldLink "PaletteFrames" 86 "PaletteFrames$Coder" "bytes" "LPaletteFrames$Numbers;" ∈ xGT := xGT_of 138 (by decide +kernel) (by decide +kernel)
theorem gw_139 : Cond.fieldLink "PaletteFrames$Coder" 48 "PaletteFrames$Coder" "codes" "I" ∈ xGT := xGT_of 139 (by decide +kernel) (by decide +kernel)
theorem gw_140 : Cond.fieldLink "PaletteFrames" 102 "PaletteFrames$Coder" "codes" "I" ∈ xGT := xGT_of 140 (by decide +kernel) (by decide +kernel)
theorem gw_141 : Cond.fieldLink "PaletteFrames$Coder" 51 "PaletteFrames$Coder" "clears" "I" ∈ xGT := xGT_of 141 (by decide +kernel) (by decide +kernel)
theorem gw_142 : Cond.fieldLink "PaletteFrames" 105 "PaletteFrames$Coder" "clears" "I" ∈ xGT := xGT_of 142 (by decide +kernel) (by decide +kernel)
theorem gw_143 : Cond.fieldLink "PaletteFrames$Coder" 54 "PaletteFrames$Coder" "lastBits" "I" ∈ xGT := xGT_of 143 (by decide +kernel) (by decide +kernel)
theorem gw_144 : Cond.fieldLink "PaletteFrames" 108 "PaletteFrames$Coder" "lastBits" "I" ∈ xGT := xGT_of 144 (by decide +kernel) (by decide +kernel)
theorem gw_145 : Cond.fieldLink "PaletteFrames$Coder" 57 "PaletteFrames$Coder" "held" "I" ∈ xGT := xGT_of 145 (by decide +kernel) (by decide +kernel)
theorem gw_146 : Cond.fieldLink "PaletteFrames$Coder" 60 "PaletteFrames$Coder" "heldBits" "I" ∈ xGT := xGT_of 146 (by decide +kernel) (by decide +kernel)
theorem gw_147 : Cond.fieldLink "PaletteFrames$Coder" 107 "PaletteFrames$Coder" "lookCodes" "I" ∈ xGT := xGT_of 147 (by decide +kernel) (by decide +kernel)
theorem gw_148 : Cond.fieldLink "PaletteFrames$Coder" 110 "PaletteFrames$Coder" "lookSymbols" "I" ∈ xGT := xGT_of 148 (by decide +kernel) (by decide +kernel)
theorem gw_184 : Cond.fieldLink "PaletteFrames$Reader" 27 "PaletteFrames$Reader" "clearCode" "I" ∈ xGT := xGT_of 184 (by decide +kernel) (by decide +kernel)
theorem gw_185 : Cond.fieldLink "PaletteFrames$Reader" 31 "PaletteFrames$Reader" "endCode" "I" ∈ xGT := xGT_of 185 (by decide +kernel) (by decide +kernel)
theorem gw_186 : Cond.fieldLink "PaletteFrames$Reader" 37 "PaletteFrames$Reader" "width" "LPaletteFrames$Width;" ∈ xGT := xGT_of 186 (by decide +kernel) (by decide +kernel)
theorem gw_187 : Cond.fieldLink "PaletteFrames$Reader" 14 "PaletteFrames$Reader" "symbols" "LPaletteFrames$Numbers;" ∈ xGT := xGT_of 187 (by decide +kernel) (by decide +kernel)
theorem gw_188 : Cond.fieldLink "PaletteFrames" 135 "PaletteFrames$Reader" "symbols" "LPaletteFrames$Numbers;" ∈ xGT := xGT_of 188 (by decide +kernel) (by decide +kernel)
theorem gw_189 : Cond.fieldLink "PaletteFrames$Reader" 20 "PaletteFrames$Reader" "begins" "[I" ∈ xGT := xGT_of 189 (by decide +kernel) (by decide +kernel)
theorem gw_190 : Cond.fieldLink "PaletteFrames$Reader" 24 "PaletteFrames$Reader" "lengths" "[I" ∈ xGT := xGT_of 190 (by decide +kernel) (by decide +kernel)
theorem gw_191 : Cond.fieldLink "PaletteFrames$Reader" 41 "PaletteFrames$Reader" "last" "I" ∈ xGT := xGT_of 191 (by decide +kernel) (by decide +kernel)
theorem gw_221 : Cond.methodLink "PaletteFrames$Palette" 15 ⟨"java/util/Arrays", "fill", "([II)V"⟩ ∈ xGT := xGT_of 221 (by decide +kernel) (by decide +kernel)
theorem gw_222 : Cond.static ⟨"java/util/Arrays", "fill", "([II)V"⟩ ∈ xGT := xGT_of 222 (by decide +kernel) (by decide +kernel)
theorem gw_223 : Cond.code ⟨"java/util/Arrays", "fill", "([II)V"⟩ prog_22_method_103_code 4 none ∈ xGT := xGT_of 223 (by decide +kernel) (by decide +kernel)
theorem gw_224 : Cond.fieldLink "PaletteFrames$Palette" 9 "PaletteFrames$Palette" "colours" "[I" ∈ xGT := xGT_of 224 (by decide +kernel) (by decide +kernel)
theorem gw_235 : Cond.fieldLink "PaletteFrames$Frame" 9 "PaletteFrames$Frame" "symbols" "[I" ∈ xGT := xGT_of 235 (by decide +kernel) (by decide +kernel)
theorem gw_236 : Cond.fieldLink "PaletteFrames$Frame" 20 "PaletteFrames$Frame" "palette" "LPaletteFrames$Palette;" ∈ xGT := xGT_of 236 (by decide +kernel) (by decide +kernel)
theorem gw_237 : Cond.fieldLink "PaletteFrames$Screen" 48 "PaletteFrames$Frame" "palette" "LPaletteFrames$Palette;" ∈ xGT := xGT_of 237 (by decide +kernel) (by decide +kernel)
theorem gw_238 : Cond.fieldLink "PaletteFrames" 197 "PaletteFrames$Frame" "palette" "LPaletteFrames$Palette;" ∈ xGT := xGT_of 238 (by decide +kernel) (by decide +kernel)
theorem gw_239 : Cond.fieldLink "PaletteFrames$Frame" 31 "PaletteFrames$Frame" "left" "I" ∈ xGT := xGT_of 239 (by decide +kernel) (by decide +kernel)
theorem gw_240 : Cond.fieldLink "PaletteFrames$Frame" 34 "PaletteFrames$Frame" "top" "I" ∈ xGT := xGT_of 240 (by decide +kernel) (by decide +kernel)
theorem gw_241 : Cond.fieldLink "PaletteFrames$Frame" 37 "PaletteFrames$Frame" "width" "I" ∈ xGT := xGT_of 241 (by decide +kernel) (by decide +kernel)
theorem gw_242 : Cond.fieldLink "PaletteFrames" 212 "PaletteFrames$Frame" "width" "I" ∈ xGT := xGT_of 242 (by decide +kernel) (by decide +kernel)
theorem gw_243 : Cond.fieldLink "PaletteFrames$Frame" 40 "PaletteFrames$Frame" "height" "I" ∈ xGT := xGT_of 243 (by decide +kernel) (by decide +kernel)
theorem gw_244 : Cond.fieldLink "PaletteFrames" 215 "PaletteFrames$Frame" "height" "I" ∈ xGT := xGT_of 244 (by decide +kernel) (by decide +kernel)
theorem gw_245 : Cond.fieldLink "PaletteFrames$Frame" 43 "PaletteFrames$Frame" "end" "I" ∈ xGT := xGT_of 245 (by decide +kernel) (by decide +kernel)
theorem gw_246 : Cond.fieldLink "PaletteFrames$Screen" 60 "PaletteFrames$Frame" "end" "I" ∈ xGT := xGT_of 246 (by decide +kernel) (by decide +kernel)
theorem gw_247 : Cond.fieldLink "PaletteFrames$Frame" 46 "PaletteFrames$Frame" "delay" "I" ∈ xGT := xGT_of 247 (by decide +kernel) (by decide +kernel)
theorem gw_248 : Cond.fieldLink "PaletteFrames$Screen" 66 "PaletteFrames$Frame" "delay" "I" ∈ xGT := xGT_of 248 (by decide +kernel) (by decide +kernel)
theorem gw_249 : Cond.fieldLink "PaletteFrames$Frame" 24 "PaletteFrames$Frame" "clearThrough" "I" ∈ xGT := xGT_of 249 (by decide +kernel) (by decide +kernel)
theorem gw_250 : Cond.fieldLink "PaletteFrames$Screen" 57 "PaletteFrames$Frame" "clearThrough" "I" ∈ xGT := xGT_of 250 (by decide +kernel) (by decide +kernel)
theorem gw_251 : Cond.fieldLink "PaletteFrames" 203 "PaletteFrames$Frame" "clearThrough" "I" ∈ xGT := xGT_of 251 (by decide +kernel) (by decide +kernel)
theorem gw_271 : Cond.fieldLink "PaletteFrames$Screen" 11 "PaletteFrames$Screen" "frames" "[LPaletteFrames$Frame;" ∈ xGT := xGT_of 271 (by decide +kernel) (by decide +kernel)
theorem gw_272 : Cond.fieldLink "PaletteFrames" 193 "PaletteFrames$Screen" "frames" "[LPaletteFrames$Frame;" ∈ xGT := xGT_of 272 (by decide +kernel) (by decide +kernel)
theorem gw_273 : Cond.fieldLink "PaletteFrames$Screen" 22 "PaletteFrames$Screen" "palette" "LPaletteFrames$Palette;" ∈ xGT := xGT_of 273 (by decide +kernel) (by decide +kernel)
theorem gw_274 : Cond.fieldLink "PaletteFrames" 189 "PaletteFrames$Screen" "palette" "LPaletteFrames$Palette;" ∈ xGT := xGT_of 274 (by decide +kernel) (by decide +kernel)
theorem gw_275 : Cond.fieldLink "PaletteFrames$Screen" 27 "PaletteFrames$Screen" "count" "I" ∈ xGT := xGT_of 275 (by decide +kernel) (by decide +kernel)
theorem gw_276 : Cond.fieldLink "PaletteFrames" 155 "PaletteFrames$Screen" "count" "I" ∈ xGT := xGT_of 276 (by decide +kernel) (by decide +kernel)
theorem gw_284 : Cond.fieldLink "PaletteFrames" 18 "PaletteFrames" "symbolBits" "I" ∈ xGT := xGT_of 284 (by decide +kernel) (by decide +kernel)
theorem gw_285 : Cond.fieldLink "PaletteFrames" 27 "PaletteFrames" "row" "LPaletteFrames$Numbers;" ∈ xGT := xGT_of 285 (by decide +kernel) (by decide +kernel)
theorem gw_286 : Cond.fieldLink "PaletteFrames" 31 "PaletteFrames" "waiting" "LPaletteFrames$Numbers;" ∈ xGT := xGT_of 286 (by decide +kernel) (by decide +kernel)
theorem gw_287 : Cond.fieldLink "PaletteFrames" 37 "PaletteFrames" "coder" "LPaletteFrames$Coder;" ∈ xGT := xGT_of 287 (by decide +kernel) (by decide +kernel)
theorem gw_288 : Cond.fieldLink "PaletteFrames" 44 "PaletteFrames" "reader" "LPaletteFrames$Reader;" ∈ xGT := xGT_of 288 (by decide +kernel) (by decide +kernel)
theorem gw_289 : Cond.fieldLink "PaletteFrames" 51 "PaletteFrames" "screen" "LPaletteFrames$Screen;" ∈ xGT := xGT_of 289 (by decide +kernel) (by decide +kernel)
theorem gw_290 : Cond.fieldLink "PaletteFrames" 55 "PaletteFrames" "rule" "I" ∈ xGT := xGT_of 290 (by decide +kernel) (by decide +kernel)
theorem gw_310 : Cond.methodLink "PaletteFrames" 82 ⟨"PaletteFrames$Coder", "codeRow", "(LPaletteFrames$Numbers;I)V"⟩ ∈ xGT := xGT_of 310 (by decide +kernel) (by decide +kernel)
theorem gw_311 : Cond.instanceMethod ⟨"PaletteFrames$Coder", "codeRow", "(LPaletteFrames$Numbers;I)V"⟩ ∈ xGT := xGT_of 311 (by decide +kernel) (by decide +kernel)
theorem gw_312 : Cond.selects "PaletteFrames$Coder" ⟨"PaletteFrames$Coder", "codeRow", "(LPaletteFrames$Numbers;I)V"⟩ ⟨"PaletteFrames$Coder", "codeRow", "(LPaletteFrames$Numbers;I)V"⟩ ∈ xGT := xGT_of 312 (by decide +kernel) (by decide +kernel)
theorem gw_313 : Cond.code ⟨"PaletteFrames$Coder", "codeRow", "(LPaletteFrames$Numbers;I)V"⟩ prog_2_method_3_code 8 none ∈ xGT := xGT_of 313 (by decide +kernel) (by decide +kernel)
theorem gw_314 : Cond.methodLink "PaletteFrames$Coder" 63 ⟨"PaletteFrames$Coder", "forget", "()V"⟩ ∈ xGT := xGT_of 314 (by decide +kernel) (by decide +kernel)
theorem gw_315 : Cond.instanceMethod ⟨"PaletteFrames$Coder", "forget", "()V"⟩ ∈ xGT := xGT_of 315 (by decide +kernel) (by decide +kernel)
theorem gw_316 : Cond.selects "PaletteFrames$Coder" ⟨"PaletteFrames$Coder", "forget", "()V"⟩ ⟨"PaletteFrames$Coder", "forget", "()V"⟩ ∈ xGT := xGT_of 316 (by decide +kernel) (by decide +kernel)
theorem gw_317 : Cond.code ⟨"PaletteFrames$Coder", "forget", "()V"⟩ prog_2_method_2_code 1 none ∈ xGT := xGT_of 317 (by decide +kernel) (by decide +kernel)
theorem gw_318 : Cond.methodLink "PaletteFrames$Coder" 41 ⟨"PaletteFrames$Numbers", "empty", "()V"⟩ ∈ xGT := xGT_of 318 (by decide +kernel) (by decide +kernel)
theorem gw_319 : Cond.instanceMethod ⟨"PaletteFrames$Numbers", "empty", "()V"⟩ ∈ xGT := xGT_of 319 (by decide +kernel) (by decide +kernel)
theorem gw_320 : Cond.selects "PaletteFrames$Numbers" ⟨"PaletteFrames$Numbers", "empty", "()V"⟩ ⟨"PaletteFrames$Numbers", "empty", "()V"⟩ ∈ xGT := xGT_of 320 (by decide +kernel) (by decide +kernel)
theorem gw_321 : Cond.code ⟨"PaletteFrames$Numbers", "empty", "()V"⟩ prog_4_method_7_code 1 none ∈ xGT := xGT_of 321 (by decide +kernel) (by decide +kernel)
theorem gw_322 : Cond.methodLink "PaletteFrames$Coder" 44 ⟨"PaletteFrames$Strings", "empty", "()V"⟩ ∈ xGT := xGT_of 322 (by decide +kernel) (by decide +kernel)
theorem gw_323 : Cond.instanceMethod ⟨"PaletteFrames$Strings", "empty", "()V"⟩ ∈ xGT := xGT_of 323 (by decide +kernel) (by decide +kernel)
theorem gw_324 : Cond.selects "PaletteFrames$Strings" ⟨"PaletteFrames$Strings", "empty", "()V"⟩ ⟨"PaletteFrames$Strings", "empty", "()V"⟩ ∈ xGT := xGT_of 324 (by decide +kernel) (by decide +kernel)
theorem gw_325 : Cond.code ⟨"PaletteFrames$Strings", "empty", "()V"⟩ prog_8_method_6_code 2 none ∈ xGT := xGT_of 325 (by decide +kernel) (by decide +kernel)
theorem gw_326 : Cond.methodLink "PaletteFrames$Coder" 45 ⟨"PaletteFrames$Width", "restart", "()V"⟩ ∈ xGT := xGT_of 326 (by decide +kernel) (by decide +kernel)
theorem gw_327 : Cond.instanceMethod ⟨"PaletteFrames$Width", "restart", "()V"⟩ ∈ xGT := xGT_of 327 (by decide +kernel) (by decide +kernel)
theorem gw_328 : Cond.selects "PaletteFrames$Width" ⟨"PaletteFrames$Width", "restart", "()V"⟩ ⟨"PaletteFrames$Width", "restart", "()V"⟩ ∈ xGT := xGT_of 328 (by decide +kernel) (by decide +kernel)
theorem gw_329 : Cond.code ⟨"PaletteFrames$Width", "restart", "()V"⟩ prog_9_method_2_code 1 none ∈ xGT := xGT_of 329 (by decide +kernel) (by decide +kernel)
theorem gw_330 : Cond.methodLink "PaletteFrames$Coder" 66 ⟨"PaletteFrames$Coder", "writeClear", "()V"⟩ ∈ xGT := xGT_of 330 (by decide +kernel) (by decide +kernel)
theorem gw_332 : Cond.instanceMethod ⟨"PaletteFrames$Coder", "writeClear", "()V"⟩ ∈ xGT := xGT_of 332 (by decide +kernel) (by decide +kernel)
theorem gw_333 : Cond.code ⟨"PaletteFrames$Coder", "writeClear", "()V"⟩ prog_2_method_4_code 1 none ∈ xGT := xGT_of 333 (by decide +kernel) (by decide +kernel)
theorem gw_334 : Cond.methodLink "PaletteFrames$Coder" 91 ⟨"PaletteFrames$Coder", "write", "(I)V"⟩ ∈ xGT := xGT_of 334 (by decide +kernel) (by decide +kernel)
theorem gw_336 : Cond.instanceMethod ⟨"PaletteFrames$Coder", "write", "(I)V"⟩ ∈ xGT := xGT_of 336 (by decide +kernel) (by decide +kernel)
theorem gw_337 : Cond.code ⟨"PaletteFrames$Coder", "write", "(I)V"⟩ prog_2_method_8_code 3 none ∈ xGT := xGT_of 337 (by decide +kernel) (by decide +kernel)
theorem gw_338 : Cond.methodLink "PaletteFrames$Coder" 116 ⟨"PaletteFrames$Numbers", "add", "(I)V"⟩ ∈ xGT := xGT_of 338 (by decide +kernel) (by decide +kernel)
theorem gw_339 : Cond.instanceMethod ⟨"PaletteFrames$Numbers", "add", "(I)V"⟩ ∈ xGT := xGT_of 339 (by decide +kernel) (by decide +kernel)
theorem gw_340 : Cond.selects "PaletteFrames$Numbers" ⟨"PaletteFrames$Numbers", "add", "(I)V"⟩ ⟨"PaletteFrames$Numbers", "add", "(I)V"⟩ ∈ xGT := xGT_of 340 (by decide +kernel) (by decide +kernel)
theorem gw_341 : Cond.code ⟨"PaletteFrames$Numbers", "add", "(I)V"⟩ prog_4_method_5_code 2 none ∈ xGT := xGT_of 341 (by decide +kernel) (by decide +kernel)
theorem gw_342 : Cond.methodLink "PaletteFrames$Coder" 97 ⟨"PaletteFrames$Coder", "startLook", "()V"⟩ ∈ xGT := xGT_of 342 (by decide +kernel) (by decide +kernel)
theorem gw_344 : Cond.instanceMethod ⟨"PaletteFrames$Coder", "startLook", "()V"⟩ ∈ xGT := xGT_of 344 (by decide +kernel) (by decide +kernel)
theorem gw_345 : Cond.code ⟨"PaletteFrames$Coder", "startLook", "()V"⟩ prog_2_method_7_code 1 none ∈ xGT := xGT_of 345 (by decide +kernel) (by decide +kernel)
theorem gw_346 : Cond.methodLink "PaletteFrames$Coder" 69 ⟨"PaletteFrames$Numbers", "get", "(I)I"⟩ ∈ xGT := xGT_of 346 (by decide +kernel) (by decide +kernel)
theorem gw_347 : Cond.instanceMethod ⟨"PaletteFrames$Numbers", "get", "(I)I"⟩ ∈ xGT := xGT_of 347 (by decide +kernel) (by decide +kernel)
theorem gw_348 : Cond.selects "PaletteFrames$Numbers" ⟨"PaletteFrames$Numbers", "get", "(I)I"⟩ ⟨"PaletteFrames$Numbers", "get", "(I)I"⟩ ∈ xGT := xGT_of 348 (by decide +kernel) (by decide +kernel)
theorem gw_349 : Cond.code ⟨"PaletteFrames$Numbers", "get", "(I)I"⟩ prog_4_method_3_code 2 (some .int) ∈ xGT := xGT_of 349 (by decide +kernel) (by decide +kernel)
theorem gw_350 : Cond.methodLink "PaletteFrames$Numbers" 19 ⟨"PaletteFrames$Numbers", "has", "(I)Z"⟩ ∈ xGT := xGT_of 350 (by decide +kernel) (by decide +kernel)
theorem gw_351 : Cond.instanceMethod ⟨"PaletteFrames$Numbers", "has", "(I)Z"⟩ ∈ xGT := xGT_of 351 (by decide +kernel) (by decide +kernel)
theorem gw_352 : Cond.selects "PaletteFrames$Numbers" ⟨"PaletteFrames$Numbers", "has", "(I)Z"⟩ ⟨"PaletteFrames$Numbers", "has", "(I)Z"⟩ ∈ xGT := xGT_of 352 (by decide +kernel) (by decide +kernel)
theorem gw_353 : Cond.code ⟨"PaletteFrames$Numbers", "has", "(I)Z"⟩ prog_4_method_2_code 2 (some .boolean) ∈ xGT := xGT_of 353 (by decide +kernel) (by decide +kernel)
theorem gw_354 : Cond.methodLink "PaletteFrames$Coder" 76 ⟨"PaletteFrames$Strings", "find", "(II)I"⟩ ∈ xGT := xGT_of 354 (by decide +kernel) (by decide +kernel)
theorem gw_355 : Cond.instanceMethod ⟨"PaletteFrames$Strings", "find", "(II)I"⟩ ∈ xGT := xGT_of 355 (by decide +kernel) (by decide +kernel)
theorem gw_356 : Cond.selects "PaletteFrames$Strings" ⟨"PaletteFrames$Strings", "find", "(II)I"⟩ ⟨"PaletteFrames$Strings", "find", "(II)I"⟩ ∈ xGT := xGT_of 356 (by decide +kernel) (by decide +kernel)
theorem gw_357 : Cond.code ⟨"PaletteFrames$Strings", "find", "(II)I"⟩ prog_8_method_4_code 4 (some .int) ∈ xGT := xGT_of 357 (by decide +kernel) (by decide +kernel)
theorem gw_358 : Cond.methodLink "PaletteFrames$Strings" 28 ⟨"PaletteFrames$Strings", "keyOf", "(II)I"⟩ ∈ xGT := xGT_of 358 (by decide +kernel) (by decide +kernel)
theorem gw_359 : Cond.static ⟨"PaletteFrames$Strings", "keyOf", "(II)I"⟩ ∈ xGT := xGT_of 359 (by decide +kernel) (by decide +kernel)
theorem gw_360 : Cond.code ⟨"PaletteFrames$Strings", "keyOf", "(II)I"⟩ prog_8_method_7_code 2 (some .int) ∈ xGT := xGT_of 360 (by decide +kernel) (by decide +kernel)
theorem gw_361 : Cond.methodLink "PaletteFrames$Strings" 32 ⟨"PaletteFrames$Strings", "slotFor", "(I)I"⟩ ∈ xGT := xGT_of 361 (by decide +kernel) (by decide +kernel)
theorem gw_363 : Cond.instanceMethod ⟨"PaletteFrames$Strings", "slotFor", "(I)I"⟩ ∈ xGT := xGT_of 363 (by decide +kernel) (by decide +kernel)
theorem gw_364 : Cond.code ⟨"PaletteFrames$Strings", "slotFor", "(I)I"⟩ prog_8_method_8_code 5 (some .int) ∈ xGT := xGT_of 364 (by decide +kernel) (by decide +kernel)
theorem gw_366 : Cond.methodLink "PaletteFrames$Coder" 80 ⟨"PaletteFrames$Coder", "writeEntry", "(II)V"⟩ ∈ xGT := xGT_of 366 (by decide +kernel) (by decide +kernel)
theorem gw_368 : Cond.instanceMethod ⟨"PaletteFrames$Coder", "writeEntry", "(II)V"⟩ ∈ xGT := xGT_of 368 (by decide +kernel) (by decide +kernel)
theorem gw_369 : Cond.code ⟨"PaletteFrames$Coder", "writeEntry", "(II)V"⟩ prog_2_method_5_code 3 none ∈ xGT := xGT_of 369 (by decide +kernel) (by decide +kernel)
theorem gw_370 : Cond.methodLink "PaletteFrames$Coder" 100 ⟨"PaletteFrames$Width", "behindEntry", "()V"⟩ ∈ xGT := xGT_of 370 (by decide +kernel) (by decide +kernel)
theorem gw_371 : Cond.instanceMethod ⟨"PaletteFrames$Width", "behindEntry", "()V"⟩ ∈ xGT := xGT_of 371 (by decide +kernel) (by decide +kernel)
theorem gw_372 : Cond.selects "PaletteFrames$Width" ⟨"PaletteFrames$Width", "behindEntry", "()V"⟩ ⟨"PaletteFrames$Width", "behindEntry", "()V"⟩ ∈ xGT := xGT_of 372 (by decide +kernel) (by decide +kernel)
theorem gw_373 : Cond.code ⟨"PaletteFrames$Width", "behindEntry", "()V"⟩ prog_9_method_3_code 1 none ∈ xGT := xGT_of 373 (by decide +kernel) (by decide +kernel)
theorem gw_374 : Cond.methodLink "PaletteFrames$Coder" 103 ⟨"PaletteFrames$Strings", "isFull", "()Z"⟩ ∈ xGT := xGT_of 374 (by decide +kernel) (by decide +kernel)
theorem gw_375 : Cond.instanceMethod ⟨"PaletteFrames$Strings", "isFull", "()Z"⟩ ∈ xGT := xGT_of 375 (by decide +kernel) (by decide +kernel)
theorem gw_376 : Cond.selects "PaletteFrames$Strings" ⟨"PaletteFrames$Strings", "isFull", "()Z"⟩ ⟨"PaletteFrames$Strings", "isFull", "()Z"⟩ ∈ xGT := xGT_of 376 (by decide +kernel) (by decide +kernel)
theorem gw_377 : Cond.code ⟨"PaletteFrames$Strings", "isFull", "()Z"⟩ prog_8_method_3_code 1 (some .boolean) ∈ xGT := xGT_of 377 (by decide +kernel) (by decide +kernel)
theorem gw_378 : Cond.methodLink "PaletteFrames$Coder" 84 ⟨"PaletteFrames$Strings", "add", "(II)V"⟩ ∈ xGT := xGT_of 378 (by decide +kernel) (by decide +kernel)
theorem gw_379 : Cond.instanceMethod ⟨"PaletteFrames$Strings", "add", "(II)V"⟩ ∈ xGT := xGT_of 379 (by decide +kernel) (by decide +kernel)
theorem gw_380 : Cond.selects "PaletteFrames$Strings" ⟨"PaletteFrames$Strings", "add", "(II)V"⟩ ⟨"PaletteFrames$Strings", "add", "(II)V"⟩ ∈ xGT := xGT_of 380 (by decide +kernel) (by decide +kernel)
theorem gw_381 : Cond.code ⟨"PaletteFrames$Strings", "add", "(II)V"⟩ prog_8_method_5_code 5 none ∈ xGT := xGT_of 381 (by decide +kernel) (by decide +kernel)
theorem gw_382 : Cond.methodLink "PaletteFrames$Strings" 36 ⟨"PaletteFrames$Strings", "isFull", "()Z"⟩ ∈ xGT := xGT_of 382 (by decide +kernel) (by decide +kernel)
theorem gw_383 : Cond.methodLink "PaletteFrames$Coder" 87 ⟨"PaletteFrames$Coder", "isClearDue", "(I)Z"⟩ ∈ xGT := xGT_of 383 (by decide +kernel) (by decide +kernel)
theorem gw_385 : Cond.instanceMethod ⟨"PaletteFrames$Coder", "isClearDue", "(I)Z"⟩ ∈ xGT := xGT_of 385 (by decide +kernel) (by decide +kernel)
theorem gw_386 : Cond.code ⟨"PaletteFrames$Coder", "isClearDue", "(I)Z"⟩ prog_2_method_6_code 3 (some .boolean) ∈ xGT := xGT_of 386 (by decide +kernel) (by decide +kernel)
theorem gw_387 : Cond.methodLink "PaletteFrames$Coder" 94 ⟨"PaletteFrames$Coder", "writeRest", "()V"⟩ ∈ xGT := xGT_of 387 (by decide +kernel) (by decide +kernel)
theorem gw_389 : Cond.instanceMethod ⟨"PaletteFrames$Coder", "writeRest", "()V"⟩ ∈ xGT := xGT_of 389 (by decide +kernel) (by decide +kernel)
theorem gw_390 : Cond.code ⟨"PaletteFrames$Coder", "writeRest", "()V"⟩ prog_2_method_9_code 1 none ∈ xGT := xGT_of 390 (by decide +kernel) (by decide +kernel)
theorem gw_395 : Cond.methodLink "PaletteFrames" 115 ⟨"PaletteFrames$Strings", "count", "()I"⟩ ∈ xGT := xGT_of 395 (by decide +kernel) (by decide +kernel)
theorem gw_396 : Cond.instanceMethod ⟨"PaletteFrames$Strings", "count", "()I"⟩ ∈ xGT := xGT_of 396 (by decide +kernel) (by decide +kernel)
theorem gw_397 : Cond.selects "PaletteFrames$Strings" ⟨"PaletteFrames$Strings", "count", "()I"⟩ ⟨"PaletteFrames$Strings", "count", "()I"⟩ ∈ xGT := xGT_of 397 (by decide +kernel) (by decide +kernel)
theorem gw_398 : Cond.code ⟨"PaletteFrames$Strings", "count", "()I"⟩ prog_8_method_2_code 1 (some .int) ∈ xGT := xGT_of 398 (by decide +kernel) (by decide +kernel)
theorem gw_403 : Cond.methodLink "PaletteFrames" 128 ⟨"PaletteFrames$Reader", "readAll", "(LPaletteFrames$Numbers;)I"⟩ ∈ xGT := xGT_of 403 (by decide +kernel) (by decide +kernel)
theorem gw_404 : Cond.instanceMethod ⟨"PaletteFrames$Reader", "readAll", "(LPaletteFrames$Numbers;)I"⟩ ∈ xGT := xGT_of 404 (by decide +kernel) (by decide +kernel)
theorem gw_405 : Cond.selects "PaletteFrames$Reader" ⟨"PaletteFrames$Reader", "readAll", "(LPaletteFrames$Numbers;)I"⟩ ⟨"PaletteFrames$Reader", "readAll", "(LPaletteFrames$Numbers;)I"⟩ ∈ xGT := xGT_of 405 (by decide +kernel) (by decide +kernel)
theorem gw_406 : Cond.code ⟨"PaletteFrames$Reader", "readAll", "(LPaletteFrames$Numbers;)I"⟩ prog_6_method_2_code 6 (some .int) ∈ xGT := xGT_of 406 (by decide +kernel) (by decide +kernel)
theorem gw_407 : Cond.methodLink "PaletteFrames$Reader" 44 ⟨"PaletteFrames$Numbers", "empty", "()V"⟩ ∈ xGT := xGT_of 407 (by decide +kernel) (by decide +kernel)
theorem gw_408 : Cond.methodLink "PaletteFrames$Reader" 47 ⟨"PaletteFrames$Reader", "restart", "()V"⟩ ∈ xGT := xGT_of 408 (by decide +kernel) (by decide +kernel)
theorem gw_410 : Cond.instanceMethod ⟨"PaletteFrames$Reader", "restart", "()V"⟩ ∈ xGT := xGT_of 410 (by decide +kernel) (by decide +kernel)
theorem gw_411 : Cond.code ⟨"PaletteFrames$Reader", "restart", "()V"⟩ prog_6_method_3_code 1 none ∈ xGT := xGT_of 411 (by decide +kernel) (by decide +kernel)
theorem gw_412 : Cond.methodLink "PaletteFrames$Reader" 65 ⟨"PaletteFrames$Width", "restart", "()V"⟩ ∈ xGT := xGT_of 412 (by decide +kernel) (by decide +kernel)
theorem gw_414 : Cond.methodLink "PaletteFrames$Reader" 57 ⟨"PaletteFrames$Reader", "codeFrom", "(LPaletteFrames$Numbers;I)I"⟩ ∈ xGT := xGT_of 414 (by decide +kernel) (by decide +kernel)
theorem gw_416 : Cond.instanceMethod ⟨"PaletteFrames$Reader", "codeFrom", "(LPaletteFrames$Numbers;I)I"⟩ ∈ xGT := xGT_of 416 (by decide +kernel) (by decide +kernel)
theorem gw_417 : Cond.code ⟨"PaletteFrames$Reader", "codeFrom", "(LPaletteFrames$Numbers;I)I"⟩ prog_6_method_4_code 5 (some .int) ∈ xGT := xGT_of 417 (by decide +kernel) (by decide +kernel)
theorem gw_418 : Cond.methodLink "PaletteFrames$Reader" 66 ⟨"PaletteFrames$Numbers", "get", "(I)I"⟩ ∈ xGT := xGT_of 418 (by decide +kernel) (by decide +kernel)
theorem gw_419 : Cond.methodLink "PaletteFrames$Reader" 70 ⟨"PaletteFrames$Numbers", "has", "(I)Z"⟩ ∈ xGT := xGT_of 419 (by decide +kernel) (by decide +kernel)
theorem gw_420 : Cond.methodLink "PaletteFrames$Reader" 61 ⟨"PaletteFrames$Reader", "copyString", "(I)Z"⟩ ∈ xGT := xGT_of 420 (by decide +kernel) (by decide +kernel)
theorem gw_422 : Cond.instanceMethod ⟨"PaletteFrames$Reader", "copyString", "(I)Z"⟩ ∈ xGT := xGT_of 422 (by decide +kernel) (by decide +kernel)
theorem gw_423 : Cond.code ⟨"PaletteFrames$Reader", "copyString", "(I)Z"⟩ prog_6_method_5_code 6 (some .boolean) ∈ xGT := xGT_of 423 (by decide +kernel) (by decide +kernel)
theorem gw_424 : Cond.methodLink "PaletteFrames$Reader" 73 ⟨"PaletteFrames$Numbers", "room", "()I"⟩ ∈ xGT := xGT_of 424 (by decide +kernel) (by decide +kernel)
theorem gw_425 : Cond.instanceMethod ⟨"PaletteFrames$Numbers", "room", "()I"⟩ ∈ xGT := xGT_of 425 (by decide +kernel) (by decide +kernel)
theorem gw_426 : Cond.selects "PaletteFrames$Numbers" ⟨"PaletteFrames$Numbers", "room", "()I"⟩ ⟨"PaletteFrames$Numbers", "room", "()I"⟩ ∈ xGT := xGT_of 426 (by decide +kernel) (by decide +kernel)
theorem gw_427 : Cond.code ⟨"PaletteFrames$Numbers", "room", "()I"⟩ prog_4_method_4_code 1 (some .int) ∈ xGT := xGT_of 427 (by decide +kernel) (by decide +kernel)
theorem gw_428 : Cond.methodLink "PaletteFrames$Reader" 77 ⟨"PaletteFrames$Numbers", "add", "(I)V"⟩ ∈ xGT := xGT_of 428 (by decide +kernel) (by decide +kernel)
theorem gw_429 : Cond.methodLink "PaletteFrames$Reader" 80 ⟨"PaletteFrames$Width", "behindEntry", "()V"⟩ ∈ xGT := xGT_of 429 (by decide +kernel) (by decide +kernel)
theorem gw_430 : Cond.methodLink "PaletteFrames$Reader" 83 ⟨"PaletteFrames$Reader", "addEntry", "(II)V"⟩ ∈ xGT := xGT_of 430 (by decide +kernel) (by decide +kernel)
theorem gw_432 : Cond.instanceMethod ⟨"PaletteFrames$Reader", "addEntry", "(II)V"⟩ ∈ xGT := xGT_of 432 (by decide +kernel) (by decide +kernel)
theorem gw_433 : Cond.code ⟨"PaletteFrames$Reader", "addEntry", "(II)V"⟩ prog_6_method_6_code 3 none ∈ xGT := xGT_of 433 (by decide +kernel) (by decide +kernel)
theorem gw_434 : Cond.methodLink "PaletteFrames" 132 ⟨"PaletteFrames$Numbers", "empty", "()V"⟩ ∈ xGT := xGT_of 434 (by decide +kernel) (by decide +kernel)
theorem gw_439 : Cond.methodLink "PaletteFrames" 98 ⟨"PaletteFrames$Numbers", "get", "(I)I"⟩ ∈ xGT := xGT_of 439 (by decide +kernel) (by decide +kernel)
theorem gw_440 : Cond.methodLink "PaletteFrames" 74 ⟨"PaletteFrames$Numbers", "add", "(I)V"⟩ ∈ xGT := xGT_of 440 (by decide +kernel) (by decide +kernel)
theorem gw_449 : Cond.methodLink "PaletteFrames" 233 ⟨"PaletteFrames$Coder", "forget", "()V"⟩ ∈ xGT := xGT_of 449 (by decide +kernel) (by decide +kernel)
theorem gw_450 : Cond.methodLink "PaletteFrames" 236 ⟨"PaletteFrames$Screen", "forget", "()V"⟩ ∈ xGT := xGT_of 450 (by decide +kernel) (by decide +kernel)
theorem gw_451 : Cond.instanceMethod ⟨"PaletteFrames$Screen", "forget", "()V"⟩ ∈ xGT := xGT_of 451 (by decide +kernel) (by decide +kernel)
theorem gw_452 : Cond.selects "PaletteFrames$Screen" ⟨"PaletteFrames$Screen", "forget", "()V"⟩ ⟨"PaletteFrames$Screen", "forget", "()V"⟩ ∈ xGT := xGT_of 452 (by decide +kernel) (by decide +kernel)
theorem gw_453 : Cond.code ⟨"PaletteFrames$Screen", "forget", "()V"⟩ prog_7_method_4_code 1 none ∈ xGT := xGT_of 453 (by decide +kernel) (by decide +kernel)
theorem gw_454 : Cond.methodLink "PaletteFrames$Screen" 40 ⟨"PaletteFrames$Palette", "forget", "()V"⟩ ∈ xGT := xGT_of 454 (by decide +kernel) (by decide +kernel)
theorem gw_455 : Cond.instanceMethod ⟨"PaletteFrames$Palette", "forget", "()V"⟩ ∈ xGT := xGT_of 455 (by decide +kernel) (by decide +kernel)
theorem gw_456 : Cond.selects "PaletteFrames$Palette" ⟨"PaletteFrames$Palette", "forget", "()V"⟩ ⟨"PaletteFrames$Palette", "forget", "()V"⟩ ∈ xGT := xGT_of 456 (by decide +kernel) (by decide +kernel)
theorem gw_457 : Cond.code ⟨"PaletteFrames$Palette", "forget", "()V"⟩ prog_5_method_4_code 1 none ∈ xGT := xGT_of 457 (by decide +kernel) (by decide +kernel)
theorem gw_464 : Cond.classLink "PaletteFramesLaw" 13 "java/lang/IllegalArgumentException" ∈ xGT := xGT_of 464 (by decide +kernel) (by decide +kernel)
theorem gw_465 : Cond.classLink "PaletteFramesLaw" 15 "java/lang/UnsupportedOperationException" ∈ xGT := xGT_of 465 (by decide +kernel) (by decide +kernel)
theorem gw_466 : Cond.methodLink "PaletteFramesLaw" 7 ⟨"PaletteFrames", "put", "(III)I"⟩ ∈ xGT := xGT_of 466 (by decide +kernel) (by decide +kernel)
theorem gw_467 : Cond.instanceMethod ⟨"PaletteFrames", "put", "(III)I"⟩ ∈ xGT := xGT_of 467 (by decide +kernel) (by decide +kernel)
theorem gw_468 : Cond.selects "PaletteFrames" ⟨"PaletteFrames", "put", "(III)I"⟩ ⟨"PaletteFrames", "put", "(III)I"⟩ ∈ xGT := xGT_of 468 (by decide +kernel) (by decide +kernel)
theorem gw_469 : Cond.code ⟨"PaletteFrames", "put", "(III)I"⟩ prog_1_method_2_code 7 (some .int) ∈ xGT := xGT_of 469 (by decide +kernel) (by decide +kernel)
theorem gw_470 : Cond.classLink "PaletteFrames" 58 "java/lang/IllegalArgumentException" ∈ xGT := xGT_of 470 (by decide +kernel) (by decide +kernel)
theorem gw_471 : Cond.instantiable "java/lang/IllegalArgumentException" 6 ∈ xGT := xGT_of 471 (by decide +kernel) (by decide +kernel)
theorem gw_539 : Cond.methodLink "PaletteFrames" 65 ⟨"PaletteFrames$Numbers", "room", "()I"⟩ ∈ xGT := xGT_of 539 (by decide +kernel) (by decide +kernel)
theorem gw_540 : Cond.classLink "PaletteFrames" 69 "java/lang/UnsupportedOperationException" ∈ xGT := xGT_of 540 (by decide +kernel) (by decide +kernel)
theorem gw_541 : Cond.instantiable "java/lang/UnsupportedOperationException" 6 ∈ xGT := xGT_of 541 (by decide +kernel) (by decide +kernel)
theorem gw_559 : Cond.methodLink "PaletteFramesLaw" 17 ⟨"PaletteFrames", "rule", "(I)I"⟩ ∈ xGT := xGT_of 559 (by decide +kernel) (by decide +kernel)
theorem gw_560 : Cond.instanceMethod ⟨"PaletteFrames", "rule", "(I)I"⟩ ∈ xGT := xGT_of 560 (by decide +kernel) (by decide +kernel)
theorem gw_561 : Cond.selects "PaletteFrames" ⟨"PaletteFrames", "rule", "(I)I"⟩ ⟨"PaletteFrames", "rule", "(I)I"⟩ ∈ xGT := xGT_of 561 (by decide +kernel) (by decide +kernel)
theorem gw_562 : Cond.code ⟨"PaletteFrames", "rule", "(I)I"⟩ prog_1_method_3_code 3 (some .int) ∈ xGT := xGT_of 562 (by decide +kernel) (by decide +kernel)
theorem gw_567 : Cond.classLink "PaletteFramesLaw" 24 "java/lang/IndexOutOfBoundsException" ∈ xGT := xGT_of 567 (by decide +kernel) (by decide +kernel)
theorem gw_568 : Cond.methodLink "PaletteFramesLaw" 21 ⟨"PaletteFrames", "byteAt", "(I)I"⟩ ∈ xGT := xGT_of 568 (by decide +kernel) (by decide +kernel)
theorem gw_569 : Cond.instanceMethod ⟨"PaletteFrames", "byteAt", "(I)I"⟩ ∈ xGT := xGT_of 569 (by decide +kernel) (by decide +kernel)
theorem gw_570 : Cond.selects "PaletteFrames" ⟨"PaletteFrames", "byteAt", "(I)I"⟩ ⟨"PaletteFrames", "byteAt", "(I)I"⟩ ∈ xGT := xGT_of 570 (by decide +kernel) (by decide +kernel)
theorem gw_571 : Cond.code ⟨"PaletteFrames", "byteAt", "(I)I"⟩ prog_1_method_5_code 2 (some .int) ∈ xGT := xGT_of 571 (by decide +kernel) (by decide +kernel)
theorem gw_572 : Cond.methodLink "PaletteFrames" 89 ⟨"PaletteFrames$Numbers", "has", "(I)Z"⟩ ∈ xGT := xGT_of 572 (by decide +kernel) (by decide +kernel)
theorem gw_573 : Cond.classLink "PaletteFrames" 93 "java/lang/IndexOutOfBoundsException" ∈ xGT := xGT_of 573 (by decide +kernel) (by decide +kernel)
theorem gw_574 : Cond.instantiable "java/lang/IndexOutOfBoundsException" 6 ∈ xGT := xGT_of 574 (by decide +kernel) (by decide +kernel)
theorem gw_592 : Cond.methodLink "PaletteFramesLaw" 26 ⟨"PaletteFrames", "feed", "(I)I"⟩ ∈ xGT := xGT_of 592 (by decide +kernel) (by decide +kernel)
theorem gw_593 : Cond.instanceMethod ⟨"PaletteFrames", "feed", "(I)I"⟩ ∈ xGT := xGT_of 593 (by decide +kernel) (by decide +kernel)
theorem gw_594 : Cond.selects "PaletteFrames" ⟨"PaletteFrames", "feed", "(I)I"⟩ ⟨"PaletteFrames", "feed", "(I)I"⟩ ∈ xGT := xGT_of 594 (by decide +kernel) (by decide +kernel)
theorem gw_595 : Cond.code ⟨"PaletteFrames", "feed", "(I)I"⟩ prog_1_method_7_code 2 (some .int) ∈ xGT := xGT_of 595 (by decide +kernel) (by decide +kernel)
theorem gw_601 : Cond.methodLink "PaletteFramesLaw" 29 ⟨"PaletteFrames", "pass", "(II)I"⟩ ∈ xGT := xGT_of 601 (by decide +kernel) (by decide +kernel)
theorem gw_602 : Cond.instanceMethod ⟨"PaletteFrames", "pass", "(II)I"⟩ ∈ xGT := xGT_of 602 (by decide +kernel) (by decide +kernel)
theorem gw_603 : Cond.selects "PaletteFrames" ⟨"PaletteFrames", "pass", "(II)I"⟩ ⟨"PaletteFrames", "pass", "(II)I"⟩ ∈ xGT := xGT_of 603 (by decide +kernel) (by decide +kernel)
theorem gw_604 : Cond.code ⟨"PaletteFrames", "pass", "(II)I"⟩ prog_1_method_8_code 5 (some .int) ∈ xGT := xGT_of 604 (by decide +kernel) (by decide +kernel)
theorem gw_610 : Cond.methodLink "PaletteFramesLaw" 33 ⟨"PaletteFrames", "at", "(I)I"⟩ ∈ xGT := xGT_of 610 (by decide +kernel) (by decide +kernel)
theorem gw_611 : Cond.instanceMethod ⟨"PaletteFrames", "at", "(I)I"⟩ ∈ xGT := xGT_of 611 (by decide +kernel) (by decide +kernel)
theorem gw_612 : Cond.selects "PaletteFrames" ⟨"PaletteFrames", "at", "(I)I"⟩ ⟨"PaletteFrames", "at", "(I)I"⟩ ∈ xGT := xGT_of 612 (by decide +kernel) (by decide +kernel)
theorem gw_613 : Cond.code ⟨"PaletteFrames", "at", "(I)I"⟩ prog_1_method_10_code 2 (some .int) ∈ xGT := xGT_of 613 (by decide +kernel) (by decide +kernel)
theorem gw_618 : Cond.classLink "PaletteFramesLaw" 40 "java/lang/IllegalStateException" ∈ xGT := xGT_of 618 (by decide +kernel) (by decide +kernel)
theorem gw_619 : Cond.methodLink "PaletteFramesLaw" 36 ⟨"PaletteFrames", "frame", "(IIIIZII)I"⟩ ∈ xGT := xGT_of 619 (by decide +kernel) (by decide +kernel)
theorem gw_620 : Cond.instanceMethod ⟨"PaletteFrames", "frame", "(IIIIZII)I"⟩ ∈ xGT := xGT_of 620 (by decide +kernel) (by decide +kernel)
theorem gw_621 : Cond.selects "PaletteFrames" ⟨"PaletteFrames", "frame", "(IIIIZII)I"⟩ ⟨"PaletteFrames", "frame", "(IIIIZII)I"⟩ ∈ xGT := xGT_of 621 (by decide +kernel) (by decide +kernel)
theorem gw_622 : Cond.code ⟨"PaletteFrames", "frame", "(IIIIZII)I"⟩ prog_1_method_12_code 9 (some .int) ∈ xGT := xGT_of 622 (by decide +kernel) (by decide +kernel)
theorem gw_623 : Cond.methodLink "PaletteFrames" 140 ⟨"PaletteFrames", "fits", "(II)Z"⟩ ∈ xGT := xGT_of 623 (by decide +kernel) (by decide +kernel)
theorem gw_624 : Cond.static ⟨"PaletteFrames", "fits", "(II)Z"⟩ ∈ xGT := xGT_of 624 (by decide +kernel) (by decide +kernel)
theorem gw_625 : Cond.code ⟨"PaletteFrames", "fits", "(II)Z"⟩ prog_1_method_22_code 2 (some .boolean) ∈ xGT := xGT_of 625 (by decide +kernel) (by decide +kernel)
theorem gw_629 : Cond.classLink "PaletteFrames" 150 "java/lang/IllegalStateException" ∈ xGT := xGT_of 629 (by decide +kernel) (by decide +kernel)
theorem gw_630 : Cond.instantiable "java/lang/IllegalStateException" 6 ∈ xGT := xGT_of 630 (by decide +kernel) (by decide +kernel)
theorem gw_646 : Cond.methodLink "PaletteFrames" 159 ⟨"PaletteFrames$Screen", "addFrame", "()LPaletteFrames$Frame;"⟩ ∈ xGT := xGT_of 646 (by decide +kernel) (by decide +kernel)
theorem gw_647 : Cond.instanceMethod ⟨"PaletteFrames$Screen", "addFrame", "()LPaletteFrames$Frame;"⟩ ∈ xGT := xGT_of 647 (by decide +kernel) (by decide +kernel)
theorem gw_648 : Cond.selects "PaletteFrames$Screen" ⟨"PaletteFrames$Screen", "addFrame", "()LPaletteFrames$Frame;"⟩ ⟨"PaletteFrames$Screen", "addFrame", "()LPaletteFrames$Frame;"⟩ ∈ xGT := xGT_of 648 (by decide +kernel) (by decide +kernel)
theorem gw_649 : Cond.code ⟨"PaletteFrames$Screen", "addFrame", "()LPaletteFrames$Frame;"⟩ prog_7_method_3_code 2 (some (.object "PaletteFrames$Frame")) ∈ xGT := xGT_of 649 (by decide +kernel) (by decide +kernel)
theorem gw_650 : Cond.methodLink "PaletteFrames$Screen" 31 ⟨"java/lang/Math", "min", "(II)I"⟩ ∈ xGT := xGT_of 650 (by decide +kernel) (by decide +kernel)
theorem gw_651 : Cond.methodLink "PaletteFrames$Screen" 37 ⟨"PaletteFrames$Frame", "forget", "()V"⟩ ∈ xGT := xGT_of 651 (by decide +kernel) (by decide +kernel)
theorem gw_652 : Cond.instanceMethod ⟨"PaletteFrames$Frame", "forget", "()V"⟩ ∈ xGT := xGT_of 652 (by decide +kernel) (by decide +kernel)
theorem gw_653 : Cond.selects "PaletteFrames$Frame" ⟨"PaletteFrames$Frame", "forget", "()V"⟩ ⟨"PaletteFrames$Frame", "forget", "()V"⟩ ∈ xGT := xGT_of 653 (by decide +kernel) (by decide +kernel)
theorem gw_654 : Cond.code ⟨"PaletteFrames$Frame", "forget", "()V"⟩ prog_3_method_3_code 1 none ∈ xGT := xGT_of 654 (by decide +kernel) (by decide +kernel)
theorem gw_655 : Cond.methodLink "PaletteFrames$Frame" 28 ⟨"PaletteFrames$Palette", "forget", "()V"⟩ ∈ xGT := xGT_of 655 (by decide +kernel) (by decide +kernel)
theorem gw_656 : Cond.methodLink "PaletteFrames" 163 ⟨"PaletteFrames$Frame", "lay", "(IIII)V"⟩ ∈ xGT := xGT_of 656 (by decide +kernel) (by decide +kernel)
theorem gw_657 : Cond.instanceMethod ⟨"PaletteFrames$Frame", "lay", "(IIII)V"⟩ ∈ xGT := xGT_of 657 (by decide +kernel) (by decide +kernel)
theorem gw_658 : Cond.selects "PaletteFrames$Frame" ⟨"PaletteFrames$Frame", "lay", "(IIII)V"⟩ ⟨"PaletteFrames$Frame", "lay", "(IIII)V"⟩ ∈ xGT := xGT_of 658 (by decide +kernel) (by decide +kernel)
theorem gw_659 : Cond.code ⟨"PaletteFrames$Frame", "lay", "(IIII)V"⟩ prog_3_method_4_code 5 none ∈ xGT := xGT_of 659 (by decide +kernel) (by decide +kernel)
theorem gw_660 : Cond.methodLink "PaletteFrames" 169 ⟨"PaletteFrames$Frame", "time", "(II)V"⟩ ∈ xGT := xGT_of 660 (by decide +kernel) (by decide +kernel)
theorem gw_661 : Cond.instanceMethod ⟨"PaletteFrames$Frame", "time", "(II)V"⟩ ∈ xGT := xGT_of 661 (by decide +kernel) (by decide +kernel)
theorem gw_662 : Cond.selects "PaletteFrames$Frame" ⟨"PaletteFrames$Frame", "time", "(II)V"⟩ ⟨"PaletteFrames$Frame", "time", "(II)V"⟩ ∈ xGT := xGT_of 662 (by decide +kernel) (by decide +kernel)
theorem gw_663 : Cond.code ⟨"PaletteFrames$Frame", "time", "(II)V"⟩ prog_3_method_5_code 3 none ∈ xGT := xGT_of 663 (by decide +kernel) (by decide +kernel)
theorem gw_664 : Cond.methodLink "PaletteFrames" 173 ⟨"PaletteFrames$Frame", "fill", "(LPaletteFrames$Numbers;Z)V"⟩ ∈ xGT := xGT_of 664 (by decide +kernel) (by decide +kernel)
theorem gw_665 : Cond.instanceMethod ⟨"PaletteFrames$Frame", "fill", "(LPaletteFrames$Numbers;Z)V"⟩ ∈ xGT := xGT_of 665 (by decide +kernel) (by decide +kernel)
theorem gw_666 : Cond.selects "PaletteFrames$Frame" ⟨"PaletteFrames$Frame", "fill", "(LPaletteFrames$Numbers;Z)V"⟩ ⟨"PaletteFrames$Frame", "fill", "(LPaletteFrames$Numbers;Z)V"⟩ ∈ xGT := xGT_of 666 (by decide +kernel) (by decide +kernel)
theorem gw_667 : Cond.code ⟨"PaletteFrames$Frame", "fill", "(LPaletteFrames$Numbers;Z)V"⟩ prog_3_method_6_code 7 none ∈ xGT := xGT_of 667 (by decide +kernel) (by decide +kernel)
theorem gw_668 : Cond.methodLink "PaletteFrames$Frame" 49 ⟨"PaletteFrames$Frame", "passNumber", "(I)I"⟩ ∈ xGT := xGT_of 668 (by decide +kernel) (by decide +kernel)
theorem gw_669 : Cond.static ⟨"PaletteFrames$Frame", "passNumber", "(I)I"⟩ ∈ xGT := xGT_of 669 (by decide +kernel) (by decide +kernel)
theorem gw_670 : Cond.code ⟨"PaletteFrames$Frame", "passNumber", "(I)I"⟩ prog_3_method_2_code 1 (some .int) ∈ xGT := xGT_of 670 (by decide +kernel) (by decide +kernel)
theorem gw_671 : Cond.methodLink "PaletteFrames$Frame" 53 ⟨"PaletteFrames$Frame", "fillLine", "(LPaletteFrames$Numbers;II)V"⟩ ∈ xGT := xGT_of 671 (by decide +kernel) (by decide +kernel)
theorem gw_673 : Cond.instanceMethod ⟨"PaletteFrames$Frame", "fillLine", "(LPaletteFrames$Numbers;II)V"⟩ ∈ xGT := xGT_of 673 (by decide +kernel) (by decide +kernel)
theorem gw_674 : Cond.code ⟨"PaletteFrames$Frame", "fillLine", "(LPaletteFrames$Numbers;II)V"⟩ prog_3_method_7_code 6 none ∈ xGT := xGT_of 674 (by decide +kernel) (by decide +kernel)
theorem gw_675 : Cond.methodLink "PaletteFrames$Frame" 57 ⟨"PaletteFrames$Numbers", "get", "(I)I"⟩ ∈ xGT := xGT_of 675 (by decide +kernel) (by decide +kernel)
theorem gw_676 : Cond.methodLink "PaletteFrames" 177 ⟨"PaletteFrames$Numbers", "dropFirst", "(I)V"⟩ ∈ xGT := xGT_of 676 (by decide +kernel) (by decide +kernel)
theorem gw_677 : Cond.instanceMethod ⟨"PaletteFrames$Numbers", "dropFirst", "(I)V"⟩ ∈ xGT := xGT_of 677 (by decide +kernel) (by decide +kernel)
theorem gw_678 : Cond.selects "PaletteFrames$Numbers" ⟨"PaletteFrames$Numbers", "dropFirst", "(I)V"⟩ ⟨"PaletteFrames$Numbers", "dropFirst", "(I)V"⟩ ∈ xGT := xGT_of 678 (by decide +kernel) (by decide +kernel)
theorem gw_679 : Cond.code ⟨"PaletteFrames$Numbers", "dropFirst", "(I)V"⟩ prog_4_method_6_code 2 none ∈ xGT := xGT_of 679 (by decide +kernel) (by decide +kernel)
theorem gw_680 : Cond.methodLink "PaletteFrames$Numbers" 23 ⟨"java/lang/System", "arraycopy", "(Ljava/lang/Object;ILjava/lang/Object;II)V"⟩ ∈ xGT := xGT_of 680 (by decide +kernel) (by decide +kernel)
theorem gw_681 : Cond.static ⟨"java/lang/System", "arraycopy", "(Ljava/lang/Object;ILjava/lang/Object;II)V"⟩ ∈ xGT := xGT_of 681 (by decide +kernel) (by decide +kernel)
theorem gw_682 : Cond.native ⟨"java/lang/System", "arraycopy", "(Ljava/lang/Object;ILjava/lang/Object;II)V"⟩ ∈ xGT := xGT_of 682 (by decide +kernel) (by decide +kernel)
theorem gw_686 : Cond.methodLink "PaletteFramesLaw" 42 ⟨"PaletteFrames", "colour", "(III)I"⟩ ∈ xGT := xGT_of 686 (by decide +kernel) (by decide +kernel)
theorem gw_687 : Cond.instanceMethod ⟨"PaletteFrames", "colour", "(III)I"⟩ ∈ xGT := xGT_of 687 (by decide +kernel) (by decide +kernel)
theorem gw_688 : Cond.selects "PaletteFrames" ⟨"PaletteFrames", "colour", "(III)I"⟩ ⟨"PaletteFrames", "colour", "(III)I"⟩ ∈ xGT := xGT_of 688 (by decide +kernel) (by decide +kernel)
theorem gw_689 : Cond.code ⟨"PaletteFrames", "colour", "(III)I"⟩ prog_1_method_13_code 5 (some .int) ∈ xGT := xGT_of 689 (by decide +kernel) (by decide +kernel)
theorem gw_690 : Cond.methodLink "PaletteFrames" 180 ⟨"PaletteFrames$Screen", "has", "(I)Z"⟩ ∈ xGT := xGT_of 690 (by decide +kernel) (by decide +kernel)
theorem gw_691 : Cond.instanceMethod ⟨"PaletteFrames$Screen", "has", "(I)Z"⟩ ∈ xGT := xGT_of 691 (by decide +kernel) (by decide +kernel)
theorem gw_692 : Cond.selects "PaletteFrames$Screen" ⟨"PaletteFrames$Screen", "has", "(I)Z"⟩ ⟨"PaletteFrames$Screen", "has", "(I)Z"⟩ ∈ xGT := xGT_of 692 (by decide +kernel) (by decide +kernel)
theorem gw_693 : Cond.code ⟨"PaletteFrames$Screen", "has", "(I)Z"⟩ prog_7_method_2_code 2 (some .boolean) ∈ xGT := xGT_of 693 (by decide +kernel) (by decide +kernel)
theorem gw_695 : Cond.methodLink "PaletteFrames" 183 ⟨"PaletteFrames", "isSymbol", "(I)Z"⟩ ∈ xGT := xGT_of 695 (by decide +kernel) (by decide +kernel)
theorem gw_697 : Cond.instanceMethod ⟨"PaletteFrames", "isSymbol", "(I)Z"⟩ ∈ xGT := xGT_of 697 (by decide +kernel) (by decide +kernel)
theorem gw_698 : Cond.code ⟨"PaletteFrames", "isSymbol", "(I)Z"⟩ prog_1_method_21_code 2 (some .boolean) ∈ xGT := xGT_of 698 (by decide +kernel) (by decide +kernel)
theorem gw_701 : Cond.methodLink "PaletteFrames" 198 ⟨"PaletteFrames$Palette", "change", "(II)I"⟩ ∈ xGT := xGT_of 701 (by decide +kernel) (by decide +kernel)
theorem gw_702 : Cond.instanceMethod ⟨"PaletteFrames$Palette", "change", "(II)I"⟩ ∈ xGT := xGT_of 702 (by decide +kernel) (by decide +kernel)
theorem gw_703 : Cond.selects "PaletteFrames$Palette" ⟨"PaletteFrames$Palette", "change", "(II)I"⟩ ⟨"PaletteFrames$Palette", "change", "(II)I"⟩ ∈ xGT := xGT_of 703 (by decide +kernel) (by decide +kernel)
theorem gw_704 : Cond.code ⟨"PaletteFrames$Palette", "change", "(II)I"⟩ prog_5_method_3_code 4 (some .int) ∈ xGT := xGT_of 704 (by decide +kernel) (by decide +kernel)
theorem gw_705 : Cond.methodLink "PaletteFrames$Palette" 21 ⟨"PaletteFrames$Palette", "get", "(I)I"⟩ ∈ xGT := xGT_of 705 (by decide +kernel) (by decide +kernel)
theorem gw_706 : Cond.instanceMethod ⟨"PaletteFrames$Palette", "get", "(I)I"⟩ ∈ xGT := xGT_of 706 (by decide +kernel) (by decide +kernel)
theorem gw_707 : Cond.selects "PaletteFrames$Palette" ⟨"PaletteFrames$Palette", "get", "(I)I"⟩ ⟨"PaletteFrames$Palette", "get", "(I)I"⟩ ∈ xGT := xGT_of 707 (by decide +kernel) (by decide +kernel)
theorem gw_708 : Cond.code ⟨"PaletteFrames$Palette", "get", "(I)I"⟩ prog_5_method_2_code 2 (some .int) ∈ xGT := xGT_of 708 (by decide +kernel) (by decide +kernel)
theorem gw_712 : Cond.methodLink "PaletteFramesLaw" 45 ⟨"PaletteFrames", "through", "(II)I"⟩ ∈ xGT := xGT_of 712 (by decide +kernel) (by decide +kernel)
theorem gw_713 : Cond.instanceMethod ⟨"PaletteFrames", "through", "(II)I"⟩ ∈ xGT := xGT_of 713 (by decide +kernel) (by decide +kernel)
theorem gw_714 : Cond.selects "PaletteFrames" ⟨"PaletteFrames", "through", "(II)I"⟩ ⟨"PaletteFrames", "through", "(II)I"⟩ ∈ xGT := xGT_of 714 (by decide +kernel) (by decide +kernel)
theorem gw_715 : Cond.code ⟨"PaletteFrames", "through", "(II)I"⟩ prog_1_method_14_code 4 (some .int) ∈ xGT := xGT_of 715 (by decide +kernel) (by decide +kernel)
theorem gw_719 : Cond.methodLink "PaletteFramesLaw" 48 ⟨"PaletteFrames", "shown", "(III)I"⟩ ∈ xGT := xGT_of 719 (by decide +kernel) (by decide +kernel)
theorem gw_720 : Cond.instanceMethod ⟨"PaletteFrames", "shown", "(III)I"⟩ ∈ xGT := xGT_of 720 (by decide +kernel) (by decide +kernel)
theorem gw_721 : Cond.selects "PaletteFrames" ⟨"PaletteFrames", "shown", "(III)I"⟩ ⟨"PaletteFrames", "shown", "(III)I"⟩ ∈ xGT := xGT_of 721 (by decide +kernel) (by decide +kernel)
theorem gw_722 : Cond.code ⟨"PaletteFrames", "shown", "(III)I"⟩ prog_1_method_15_code 4 (some .int) ∈ xGT := xGT_of 722 (by decide +kernel) (by decide +kernel)
theorem gw_724 : Cond.methodLink "PaletteFrames" 208 ⟨"PaletteFrames$Screen", "colourBehind", "(III)I"⟩ ∈ xGT := xGT_of 724 (by decide +kernel) (by decide +kernel)
theorem gw_725 : Cond.instanceMethod ⟨"PaletteFrames$Screen", "colourBehind", "(III)I"⟩ ∈ xGT := xGT_of 725 (by decide +kernel) (by decide +kernel)
theorem gw_726 : Cond.selects "PaletteFrames$Screen" ⟨"PaletteFrames$Screen", "colourBehind", "(III)I"⟩ ⟨"PaletteFrames$Screen", "colourBehind", "(III)I"⟩ ∈ xGT := xGT_of 726 (by decide +kernel) (by decide +kernel)
theorem gw_727 : Cond.code ⟨"PaletteFrames$Screen", "colourBehind", "(III)I"⟩ prog_7_method_5_code 7 (some .int) ∈ xGT := xGT_of 727 (by decide +kernel) (by decide +kernel)
theorem gw_728 : Cond.methodLink "PaletteFrames$Screen" 41 ⟨"PaletteFrames$Screen", "sourceBehind", "(III)I"⟩ ∈ xGT := xGT_of 728 (by decide +kernel) (by decide +kernel)
theorem gw_730 : Cond.instanceMethod ⟨"PaletteFrames$Screen", "sourceBehind", "(III)I"⟩ ∈ xGT := xGT_of 730 (by decide +kernel) (by decide +kernel)
theorem gw_731 : Cond.code ⟨"PaletteFrames$Screen", "sourceBehind", "(III)I"⟩ prog_7_method_6_code 8 (some .int) ∈ xGT := xGT_of 731 (by decide +kernel) (by decide +kernel)
theorem gw_732 : Cond.methodLink "PaletteFrames$Screen" 53 ⟨"PaletteFrames$Frame", "covers", "(II)Z"⟩ ∈ xGT := xGT_of 732 (by decide +kernel) (by decide +kernel)
theorem gw_733 : Cond.instanceMethod ⟨"PaletteFrames$Frame", "covers", "(II)Z"⟩ ∈ xGT := xGT_of 733 (by decide +kernel) (by decide +kernel)
theorem gw_734 : Cond.selects "PaletteFrames$Frame" ⟨"PaletteFrames$Frame", "covers", "(II)Z"⟩ ⟨"PaletteFrames$Frame", "covers", "(II)Z"⟩ ∈ xGT := xGT_of 734 (by decide +kernel) (by decide +kernel)
theorem gw_735 : Cond.code ⟨"PaletteFrames$Frame", "covers", "(II)Z"⟩ prog_3_method_9_code 3 (some .boolean) ∈ xGT := xGT_of 735 (by decide +kernel) (by decide +kernel)
theorem gw_736 : Cond.methodLink "PaletteFrames$Screen" 45 ⟨"PaletteFrames$Frame", "symbolOn", "(II)I"⟩ ∈ xGT := xGT_of 736 (by decide +kernel) (by decide +kernel)
theorem gw_737 : Cond.instanceMethod ⟨"PaletteFrames$Frame", "symbolOn", "(II)I"⟩ ∈ xGT := xGT_of 737 (by decide +kernel) (by decide +kernel)
theorem gw_738 : Cond.selects "PaletteFrames$Frame" ⟨"PaletteFrames$Frame", "symbolOn", "(II)I"⟩ ⟨"PaletteFrames$Frame", "symbolOn", "(II)I"⟩ ∈ xGT := xGT_of 738 (by decide +kernel) (by decide +kernel)
theorem gw_739 : Cond.code ⟨"PaletteFrames$Frame", "symbolOn", "(II)I"⟩ prog_3_method_10_code 3 (some .int) ∈ xGT := xGT_of 739 (by decide +kernel) (by decide +kernel)
theorem gw_740 : Cond.methodLink "PaletteFrames$Frame" 62 ⟨"PaletteFrames$Frame", "symbolIn", "(II)I"⟩ ∈ xGT := xGT_of 740 (by decide +kernel) (by decide +kernel)
theorem gw_741 : Cond.instanceMethod ⟨"PaletteFrames$Frame", "symbolIn", "(II)I"⟩ ∈ xGT := xGT_of 741 (by decide +kernel) (by decide +kernel)
theorem gw_742 : Cond.selects "PaletteFrames$Frame" ⟨"PaletteFrames$Frame", "symbolIn", "(II)I"⟩ ⟨"PaletteFrames$Frame", "symbolIn", "(II)I"⟩ ∈ xGT := xGT_of 742 (by decide +kernel) (by decide +kernel)
theorem gw_743 : Cond.code ⟨"PaletteFrames$Frame", "symbolIn", "(II)I"⟩ prog_3_method_8_code 4 (some .int) ∈ xGT := xGT_of 743 (by decide +kernel) (by decide +kernel)
theorem gw_744 : Cond.methodLink "PaletteFrames$Screen" 63 ⟨"PaletteFrames$Screen", "sourceAfter", "(III)I"⟩ ∈ xGT := xGT_of 744 (by decide +kernel) (by decide +kernel)
theorem gw_745 : Cond.static ⟨"PaletteFrames$Screen", "sourceAfter", "(III)I"⟩ ∈ xGT := xGT_of 745 (by decide +kernel) (by decide +kernel)
theorem gw_746 : Cond.code ⟨"PaletteFrames$Screen", "sourceAfter", "(III)I"⟩ prog_7_method_7_code 3 (some .int) ∈ xGT := xGT_of 746 (by decide +kernel) (by decide +kernel)
theorem gw_747 : Cond.methodLink "PaletteFrames$Screen" 49 ⟨"PaletteFrames$Palette", "get", "(I)I"⟩ ∈ xGT := xGT_of 747 (by decide +kernel) (by decide +kernel)
theorem gw_751 : Cond.methodLink "PaletteFramesLaw" 51 ⟨"PaletteFrames", "symbol", "(III)I"⟩ ∈ xGT := xGT_of 751 (by decide +kernel) (by decide +kernel)
theorem gw_752 : Cond.instanceMethod ⟨"PaletteFrames", "symbol", "(III)I"⟩ ∈ xGT := xGT_of 752 (by decide +kernel) (by decide +kernel)
theorem gw_753 : Cond.selects "PaletteFrames" ⟨"PaletteFrames", "symbol", "(III)I"⟩ ⟨"PaletteFrames", "symbol", "(III)I"⟩ ∈ xGT := xGT_of 753 (by decide +kernel) (by decide +kernel)
theorem gw_754 : Cond.code ⟨"PaletteFrames", "symbol", "(III)I"⟩ prog_1_method_16_code 5 (some .int) ∈ xGT := xGT_of 754 (by decide +kernel) (by decide +kernel)
theorem gw_756 : Cond.methodLink "PaletteFrames" 220 ⟨"PaletteFrames$Frame", "symbolIn", "(II)I"⟩ ∈ xGT := xGT_of 756 (by decide +kernel) (by decide +kernel)
theorem gw_760 : Cond.methodLink "PaletteFramesLaw" 54 ⟨"PaletteFrames", "when", "(II)I"⟩ ∈ xGT := xGT_of 760 (by decide +kernel) (by decide +kernel)
theorem gw_761 : Cond.instanceMethod ⟨"PaletteFrames", "when", "(II)I"⟩ ∈ xGT := xGT_of 761 (by decide +kernel) (by decide +kernel)
theorem gw_762 : Cond.selects "PaletteFrames" ⟨"PaletteFrames", "when", "(II)I"⟩ ⟨"PaletteFrames", "when", "(II)I"⟩ ∈ xGT := xGT_of 762 (by decide +kernel) (by decide +kernel)
theorem gw_763 : Cond.code ⟨"PaletteFrames", "when", "(II)I"⟩ prog_1_method_17_code 3 (some .int) ∈ xGT := xGT_of 763 (by decide +kernel) (by decide +kernel)
theorem gw_765 : Cond.methodLink "PaletteFrames" 225 ⟨"PaletteFrames$Screen", "frameAt", "(II)I"⟩ ∈ xGT := xGT_of 765 (by decide +kernel) (by decide +kernel)
theorem gw_766 : Cond.instanceMethod ⟨"PaletteFrames$Screen", "frameAt", "(II)I"⟩ ∈ xGT := xGT_of 766 (by decide +kernel) (by decide +kernel)
theorem gw_767 : Cond.selects "PaletteFrames$Screen" ⟨"PaletteFrames$Screen", "frameAt", "(II)I"⟩ ⟨"PaletteFrames$Screen", "frameAt", "(II)I"⟩ ∈ xGT := xGT_of 767 (by decide +kernel) (by decide +kernel)
theorem gw_768 : Cond.code ⟨"PaletteFrames$Screen", "frameAt", "(II)I"⟩ prog_7_method_8_code 8 (some .int) ∈ xGT := xGT_of 768 (by decide +kernel) (by decide +kernel)
theorem gw_772 : Cond.methodLink "PaletteFramesLaw" 57 ⟨"PaletteFrames", "passOf", "(I)I"⟩ ∈ xGT := xGT_of 772 (by decide +kernel) (by decide +kernel)
theorem gw_773 : Cond.instanceMethod ⟨"PaletteFrames", "passOf", "(I)I"⟩ ∈ xGT := xGT_of 773 (by decide +kernel) (by decide +kernel)
theorem gw_774 : Cond.selects "PaletteFrames" ⟨"PaletteFrames", "passOf", "(I)I"⟩ ⟨"PaletteFrames", "passOf", "(I)I"⟩ ∈ xGT := xGT_of 774 (by decide +kernel) (by decide +kernel)
theorem gw_775 : Cond.code ⟨"PaletteFrames", "passOf", "(I)I"⟩ prog_1_method_18_code 2 (some .int) ∈ xGT := xGT_of 775 (by decide +kernel) (by decide +kernel)
theorem gw_777 : Cond.methodLink "PaletteFrames" 230 ⟨"PaletteFrames$Frame", "passNumber", "(I)I"⟩ ∈ xGT := xGT_of 777 (by decide +kernel) (by decide +kernel)
theorem gw_788 : Cond.fieldLink "PaletteFramesModel" 80 "PaletteFramesModel" "least" "I" ∈ xGT := xGT_of 788 (by decide +kernel) (by decide +kernel)
theorem gw_789 : Cond.fieldLink "PaletteFramesModel" 84 "PaletteFramesModel" "clear" "I" ∈ xGT := xGT_of 789 (by decide +kernel) (by decide +kernel)
theorem gw_790 : Cond.fieldLink "PaletteFramesModel" 87 "PaletteFramesModel" "end" "I" ∈ xGT := xGT_of 790 (by decide +kernel) (by decide +kernel)
theorem gw_791 : Cond.fieldLink "PaletteFramesModel" 92 "PaletteFramesModel" "code" "I" ∈ xGT := xGT_of 791 (by decide +kernel) (by decide +kernel)
theorem gw_792 : Cond.fieldLink "PaletteFramesModel" 95 "PaletteFramesModel" "rule" "I" ∈ xGT := xGT_of 792 (by decide +kernel) (by decide +kernel)
theorem gw_793 : Cond.fieldLink "PaletteFramesModel" 98 "PaletteFramesModel" "rowSize" "I" ∈ xGT := xGT_of 793 (by decide +kernel) (by decide +kernel)
theorem gw_794 : Cond.fieldLink "PaletteFramesModel" 7 "PaletteFramesModel" "row" "[I" ∈ xGT := xGT_of 794 (by decide +kernel) (by decide +kernel)
theorem gw_795 : Cond.fieldLink "PaletteFramesModel" 101 "PaletteFramesModel" "codedSize" "I" ∈ xGT := xGT_of 795 (by decide +kernel) (by decide +kernel)
theorem gw_796 : Cond.fieldLink "PaletteFramesModel" 13 "PaletteFramesModel" "coded" "[B" ∈ xGT := xGT_of 796 (by decide +kernel) (by decide +kernel)
theorem gw_797 : Cond.fieldLink "PaletteFramesModel" 17 "PaletteFramesModel" "codedTold" "[I" ∈ xGT := xGT_of 797 (by decide +kernel) (by decide +kernel)
theorem gw_798 : Cond.fieldLink "PaletteFramesModel" 104 "PaletteFramesModel" "fedSize" "I" ∈ xGT := xGT_of 798 (by decide +kernel) (by decide +kernel)
theorem gw_799 : Cond.fieldLink "PaletteFramesModel" 20 "PaletteFramesModel" "fed" "[B" ∈ xGT := xGT_of 799 (by decide +kernel) (by decide +kernel)
theorem gw_800 : Cond.fieldLink "PaletteFramesModel" 107 "PaletteFramesModel" "readSize" "I" ∈ xGT := xGT_of 800 (by decide +kernel) (by decide +kernel)
theorem gw_801 : Cond.fieldLink "PaletteFramesModel" 23 "PaletteFramesModel" "read" "[I" ∈ xGT := xGT_of 801 (by decide +kernel) (by decide +kernel)
theorem gw_802 : Cond.fieldLink "PaletteFramesModel" 113 "PaletteFramesModel" "entries" "I" ∈ xGT := xGT_of 802 (by decide +kernel) (by decide +kernel)
theorem gw_803 : Cond.fieldLink "PaletteFramesModel" 26 "PaletteFramesModel" "prefixes" "[I" ∈ xGT := xGT_of 803 (by decide +kernel) (by decide +kernel)
theorem gw_804 : Cond.fieldLink "PaletteFramesModel" 29 "PaletteFramesModel" "lasts" "[I" ∈ xGT := xGT_of 804 (by decide +kernel) (by decide +kernel)
theorem gw_805 : Cond.fieldLink "PaletteFramesModel" 32 "PaletteFramesModel" "lengths" "[I" ∈ xGT := xGT_of 805 (by decide +kernel) (by decide +kernel)
theorem gw_806 : Cond.fieldLink "PaletteFramesModel" 35 "PaletteFramesModel" "children" "[I" ∈ xGT := xGT_of 806 (by decide +kernel) (by decide +kernel)
theorem gw_807 : Cond.fieldLink "PaletteFramesModel" 38 "PaletteFramesModel" "siblings" "[I" ∈ xGT := xGT_of 807 (by decide +kernel) (by decide +kernel)
theorem gw_808 : Cond.fieldLink "PaletteFramesModel" 122 "PaletteFramesModel" "bitAt" "I" ∈ xGT := xGT_of 808 (by decide +kernel) (by decide +kernel)
theorem gw_809 : Cond.fieldLink "PaletteFramesModel" 116 "PaletteFramesModel" "width" "I" ∈ xGT := xGT_of 809 (by decide +kernel) (by decide +kernel)
theorem gw_810 : Cond.fieldLink "PaletteFramesModel" 119 "PaletteFramesModel" "since" "I" ∈ xGT := xGT_of 810 (by decide +kernel) (by decide +kernel)
theorem gw_811 : Cond.fieldLink "PaletteFramesModel" 110 "PaletteFramesModel" "frames" "I" ∈ xGT := xGT_of 811 (by decide +kernel) (by decide +kernel)
theorem gw_812 : Cond.fieldLink "PaletteFramesModel" 41 "PaletteFramesModel" "xs" "[I" ∈ xGT := xGT_of 812 (by decide +kernel) (by decide +kernel)
theorem gw_813 : Cond.fieldLink "PaletteFramesModel" 44 "PaletteFramesModel" "ys" "[I" ∈ xGT := xGT_of 813 (by decide +kernel) (by decide +kernel)
theorem gw_814 : Cond.fieldLink "PaletteFramesModel" 47 "PaletteFramesModel" "widths" "[I" ∈ xGT := xGT_of 814 (by decide +kernel) (by decide +kernel)
theorem gw_815 : Cond.fieldLink "PaletteFramesModel" 50 "PaletteFramesModel" "heights" "[I" ∈ xGT := xGT_of 815 (by decide +kernel) (by decide +kernel)
theorem gw_816 : Cond.fieldLink "PaletteFramesModel" 53 "PaletteFramesModel" "ends" "[I" ∈ xGT := xGT_of 816 (by decide +kernel) (by decide +kernel)
theorem gw_817 : Cond.fieldLink "PaletteFramesModel" 56 "PaletteFramesModel" "delays" "[I" ∈ xGT := xGT_of 817 (by decide +kernel) (by decide +kernel)
theorem gw_818 : Cond.fieldLink "PaletteFramesModel" 59 "PaletteFramesModel" "throughs" "[I" ∈ xGT := xGT_of 818 (by decide +kernel) (by decide +kernel)
theorem gw_819 : Cond.fieldLink "PaletteFramesModel" 62 "PaletteFramesModel" "symbols" "[I" ∈ xGT := xGT_of 819 (by decide +kernel) (by decide +kernel)
theorem gw_820 : Cond.fieldLink "PaletteFramesModel" 65 "PaletteFramesModel" "colours" "[I" ∈ xGT := xGT_of 820 (by decide +kernel) (by decide +kernel)
theorem gw_821 : Cond.fieldLink "PaletteFramesModel" 68 "PaletteFramesModel" "shownFrames" "[I" ∈ xGT := xGT_of 821 (by decide +kernel) (by decide +kernel)
theorem gw_822 : Cond.fieldLink "PaletteFramesModel" 71 "PaletteFramesModel" "shownSymbols" "[I" ∈ xGT := xGT_of 822 (by decide +kernel) (by decide +kernel)
theorem gw_823 : Cond.fieldLink "PaletteFramesModel" 74 "PaletteFramesModel" "keptFrames" "[I" ∈ xGT := xGT_of 823 (by decide +kernel) (by decide +kernel)
theorem gw_824 : Cond.fieldLink "PaletteFramesModel" 77 "PaletteFramesModel" "keptSymbols" "[I" ∈ xGT := xGT_of 824 (by decide +kernel) (by decide +kernel)
theorem gw_917 : Cond.methodLink "PaletteFramesModel" 129 ⟨"PaletteFramesModel", "begin", "()V"⟩ ∈ xGT := xGT_of 917 (by decide +kernel) (by decide +kernel)
theorem gw_919 : Cond.instanceMethod ⟨"PaletteFramesModel", "begin", "()V"⟩ ∈ xGT := xGT_of 919 (by decide +kernel) (by decide +kernel)
theorem gw_920 : Cond.code ⟨"PaletteFramesModel", "begin", "()V"⟩ prog_11_method_6_code 2 none ∈ xGT := xGT_of 920 (by decide +kernel) (by decide +kernel)
theorem gw_921 : Cond.methodLink "PaletteFramesModel" 132 ⟨"PaletteFramesModel", "writeClear", "()V"⟩ ∈ xGT := xGT_of 921 (by decide +kernel) (by decide +kernel)
theorem gw_923 : Cond.instanceMethod ⟨"PaletteFramesModel", "writeClear", "()V"⟩ ∈ xGT := xGT_of 923 (by decide +kernel) (by decide +kernel)
theorem gw_924 : Cond.code ⟨"PaletteFramesModel", "writeClear", "()V"⟩ prog_11_method_11_code 1 none ∈ xGT := xGT_of 924 (by decide +kernel) (by decide +kernel)
theorem gw_925 : Cond.methodLink "PaletteFramesModel" 125 ⟨"PaletteFramesModel", "write", "(I)V"⟩ ∈ xGT := xGT_of 925 (by decide +kernel) (by decide +kernel)
theorem gw_927 : Cond.instanceMethod ⟨"PaletteFramesModel", "write", "(I)V"⟩ ∈ xGT := xGT_of 927 (by decide +kernel) (by decide +kernel)
theorem gw_928 : Cond.code ⟨"PaletteFramesModel", "write", "(I)V"⟩ prog_11_method_10_code 4 none ∈ xGT := xGT_of 928 (by decide +kernel) (by decide +kernel)
theorem gw_929 : Cond.methodLink "PaletteFramesModel" 135 ⟨"PaletteFramesModel", "childOf", "(II)I"⟩ ∈ xGT := xGT_of 929 (by decide +kernel) (by decide +kernel)
theorem gw_931 : Cond.instanceMethod ⟨"PaletteFramesModel", "childOf", "(II)I"⟩ ∈ xGT := xGT_of 931 (by decide +kernel) (by decide +kernel)
theorem gw_932 : Cond.code ⟨"PaletteFramesModel", "childOf", "(II)I"⟩ prog_11_method_8_code 4 (some .int) ∈ xGT := xGT_of 932 (by decide +kernel) (by decide +kernel)
theorem gw_933 : Cond.methodLink "PaletteFramesModel" 139 ⟨"PaletteFramesModel", "widen", "()V"⟩ ∈ xGT := xGT_of 933 (by decide +kernel) (by decide +kernel)
theorem gw_935 : Cond.instanceMethod ⟨"PaletteFramesModel", "widen", "()V"⟩ ∈ xGT := xGT_of 935 (by decide +kernel) (by decide +kernel)
theorem gw_936 : Cond.code ⟨"PaletteFramesModel", "widen", "()V"⟩ prog_11_method_9_code 1 none ∈ xGT := xGT_of 936 (by decide +kernel) (by decide +kernel)
theorem gw_937 : Cond.methodLink "PaletteFramesModel" 142 ⟨"PaletteFramesModel", "enter", "(II)V"⟩ ∈ xGT := xGT_of 937 (by decide +kernel) (by decide +kernel)
theorem gw_939 : Cond.instanceMethod ⟨"PaletteFramesModel", "enter", "(II)V"⟩ ∈ xGT := xGT_of 939 (by decide +kernel) (by decide +kernel)
theorem gw_940 : Cond.code ⟨"PaletteFramesModel", "enter", "(II)V"⟩ prog_11_method_7_code 3 none ∈ xGT := xGT_of 940 (by decide +kernel) (by decide +kernel)
theorem gw_961 : Cond.methodLink "PaletteFramesModel" 146 ⟨"PaletteFramesModel", "nextCode", "()I"⟩ ∈ xGT := xGT_of 961 (by decide +kernel) (by decide +kernel)
theorem gw_963 : Cond.instanceMethod ⟨"PaletteFramesModel", "nextCode", "()I"⟩ ∈ xGT := xGT_of 963 (by decide +kernel) (by decide +kernel)
theorem gw_964 : Cond.code ⟨"PaletteFramesModel", "nextCode", "()I"⟩ prog_11_method_17_code 3 (some .int) ∈ xGT := xGT_of 964 (by decide +kernel) (by decide +kernel)
theorem gw_965 : Cond.methodLink "PaletteFramesModel" 150 ⟨"PaletteFramesModel", "firstOf", "(I)I"⟩ ∈ xGT := xGT_of 965 (by decide +kernel) (by decide +kernel)
theorem gw_967 : Cond.instanceMethod ⟨"PaletteFramesModel", "firstOf", "(I)I"⟩ ∈ xGT := xGT_of 967 (by decide +kernel) (by decide +kernel)
theorem gw_968 : Cond.code ⟨"PaletteFramesModel", "firstOf", "(I)I"⟩ prog_11_method_18_code 3 (some .int) ∈ xGT := xGT_of 968 (by decide +kernel) (by decide +kernel)
theorem gw_969 : Cond.methodLink "PaletteFramesModel" 154 ⟨"PaletteFramesModel", "spell", "(I)V"⟩ ∈ xGT := xGT_of 969 (by decide +kernel) (by decide +kernel)
theorem gw_971 : Cond.instanceMethod ⟨"PaletteFramesModel", "spell", "(I)V"⟩ ∈ xGT := xGT_of 971 (by decide +kernel) (by decide +kernel)
theorem gw_972 : Cond.code ⟨"PaletteFramesModel", "spell", "(I)V"⟩ prog_11_method_19_code 4 none ∈ xGT := xGT_of 972 (by decide +kernel) (by decide +kernel)
theorem gw_985 : Cond.methodLink "PaletteFramesModel" 157 ⟨"PaletteFramesModel", "passNumber", "(I)I"⟩ ∈ xGT := xGT_of 985 (by decide +kernel) (by decide +kernel)
theorem gw_986 : Cond.static ⟨"PaletteFramesModel", "passNumber", "(I)I"⟩ ∈ xGT := xGT_of 986 (by decide +kernel) (by decide +kernel)
theorem gw_987 : Cond.code ⟨"PaletteFramesModel", "passNumber", "(I)I"⟩ prog_11_method_23_code 1 (some .int) ∈ xGT := xGT_of 987 (by decide +kernel) (by decide +kernel)
theorem gw_992 : Cond.methodLink "PaletteFramesModel" 160 ⟨"PaletteFramesModel", "isFrame", "(I)Z"⟩ ∈ xGT := xGT_of 992 (by decide +kernel) (by decide +kernel)
theorem gw_994 : Cond.instanceMethod ⟨"PaletteFramesModel", "isFrame", "(I)Z"⟩ ∈ xGT := xGT_of 994 (by decide +kernel) (by decide +kernel)
theorem gw_995 : Cond.code ⟨"PaletteFramesModel", "isFrame", "(I)Z"⟩ prog_11_method_25_code 2 (some .boolean) ∈ xGT := xGT_of 995 (by decide +kernel) (by decide +kernel)
theorem gw_996 : Cond.methodLink "PaletteFramesModel" 164 ⟨"PaletteFramesModel", "isSymbol", "(I)Z"⟩ ∈ xGT := xGT_of 996 (by decide +kernel) (by decide +kernel)
theorem gw_998 : Cond.instanceMethod ⟨"PaletteFramesModel", "isSymbol", "(I)Z"⟩ ∈ xGT := xGT_of 998 (by decide +kernel) (by decide +kernel)
theorem gw_999 : Cond.code ⟨"PaletteFramesModel", "isSymbol", "(I)Z"⟩ prog_11_method_26_code 2 (some .boolean) ∈ xGT := xGT_of 999 (by decide +kernel) (by decide +kernel)
theorem gw_1009 : Cond.methodLink "PaletteFramesModel" 172 ⟨"PaletteFramesModel", "takeAway", "(I)V"⟩ ∈ xGT := xGT_of 1009 (by decide +kernel) (by decide +kernel)
theorem gw_1011 : Cond.instanceMethod ⟨"PaletteFramesModel", "takeAway", "(I)V"⟩ ∈ xGT := xGT_of 1011 (by decide +kernel) (by decide +kernel)
theorem gw_1012 : Cond.code ⟨"PaletteFramesModel", "takeAway", "(I)V"⟩ prog_11_method_31_code 5 none ∈ xGT := xGT_of 1012 (by decide +kernel) (by decide +kernel)
theorem gw_1013 : Cond.methodLink "PaletteFramesModel" 168 ⟨"PaletteFramesModel", "placeOf", "(III)I"⟩ ∈ xGT := xGT_of 1013 (by decide +kernel) (by decide +kernel)
theorem gw_1015 : Cond.instanceMethod ⟨"PaletteFramesModel", "placeOf", "(III)I"⟩ ∈ xGT := xGT_of 1015 (by decide +kernel) (by decide +kernel)
theorem gw_1016 : Cond.code ⟨"PaletteFramesModel", "placeOf", "(III)I"⟩ prog_11_method_29_code 4 (some .int) ∈ xGT := xGT_of 1016 (by decide +kernel) (by decide +kernel)
theorem gw_1017 : Cond.methodLink "PaletteFramesModel" 175 ⟨"PaletteFramesModel", "draw", "(I)V"⟩ ∈ xGT := xGT_of 1017 (by decide +kernel) (by decide +kernel)
theorem gw_1019 : Cond.instanceMethod ⟨"PaletteFramesModel", "draw", "(I)V"⟩ ∈ xGT := xGT_of 1019 (by decide +kernel) (by decide +kernel)
theorem gw_1020 : Cond.code ⟨"PaletteFramesModel", "draw", "(I)V"⟩ prog_11_method_30_code 5 none ∈ xGT := xGT_of 1020 (by decide +kernel) (by decide +kernel)
end
section
theorem fl_Co_107 : xFl "PaletteFrames$Coder" 107 3 10 := ⟨("PaletteFrames$Coder", T_3, 12), rfl, by decide, iw_3, Or.inl gw_147⟩
theorem fl_Co_110 : xFl "PaletteFrames$Coder" 110 3 11 := ⟨("PaletteFrames$Coder", T_3, 12), rfl, by decide, iw_3, Or.inl gw_148⟩
theorem fl_Co_113 : xFl "PaletteFrames$Coder" 113 1 2 := ⟨("PaletteFrames$Width", T_1, 4), rfl, by decide, iw_1, Or.inl gw_99⟩
theorem fl_Co_14 : xFl "PaletteFrames$Coder" 14 3 4 := ⟨("PaletteFrames$Coder", T_3, 12), rfl, by decide, iw_3, Or.inl gw_137⟩
theorem fl_Co_20 : xFl "PaletteFrames$Coder" 20 3 0 := ⟨("PaletteFrames$Coder", T_3, 12), rfl, by decide, iw_3, Or.inl gw_132⟩
theorem fl_Co_24 : xFl "PaletteFrames$Coder" 24 3 1 := ⟨("PaletteFrames$Coder", T_3, 12), rfl, by decide, iw_3, Or.inl gw_133⟩
theorem fl_Co_30 : xFl "PaletteFrames$Coder" 30 3 2 := ⟨("PaletteFrames$Coder", T_3, 12), rfl, by decide, iw_3, Or.inl gw_134⟩
theorem fl_Co_37 : xFl "PaletteFrames$Coder" 37 3 3 := ⟨("PaletteFrames$Coder", T_3, 12), rfl, by decide, iw_3, Or.inl gw_135⟩
theorem fl_Co_48 : xFl "PaletteFrames$Coder" 48 3 5 := ⟨("PaletteFrames$Coder", T_3, 12), rfl, by decide, iw_3, Or.inl gw_139⟩
theorem fl_Co_51 : xFl "PaletteFrames$Coder" 51 3 6 := ⟨("PaletteFrames$Coder", T_3, 12), rfl, by decide, iw_3, Or.inl gw_141⟩
theorem fl_Co_54 : xFl "PaletteFrames$Coder" 54 3 7 := ⟨("PaletteFrames$Coder", T_3, 12), rfl, by decide, iw_3, Or.inl gw_143⟩
theorem fl_Co_57 : xFl "PaletteFrames$Coder" 57 3 8 := ⟨("PaletteFrames$Coder", T_3, 12), rfl, by decide, iw_3, Or.inl gw_145⟩
theorem fl_Co_60 : xFl "PaletteFrames$Coder" 60 3 9 := ⟨("PaletteFrames$Coder", T_3, 12), rfl, by decide, iw_3, Or.inl gw_146⟩
theorem fl_Co_73 : xFl "PaletteFrames$Coder" 73 0 1 := ⟨("PaletteFrames$Numbers", T_0, 2), rfl, by decide, iw_0, Or.inl gw_74⟩
theorem fl_Fr_20 : xFl "PaletteFrames$Frame" 20 6 1 := ⟨("PaletteFrames$Frame", T_6, 9), rfl, by decide, iw_6, Or.inl gw_236⟩
theorem fl_Fr_24 : xFl "PaletteFrames$Frame" 24 6 8 := ⟨("PaletteFrames$Frame", T_6, 9), rfl, by decide, iw_6, Or.inl gw_249⟩
theorem fl_Fr_31 : xFl "PaletteFrames$Frame" 31 6 2 := ⟨("PaletteFrames$Frame", T_6, 9), rfl, by decide, iw_6, Or.inl gw_239⟩
theorem fl_Fr_34 : xFl "PaletteFrames$Frame" 34 6 3 := ⟨("PaletteFrames$Frame", T_6, 9), rfl, by decide, iw_6, Or.inl gw_240⟩
theorem fl_Fr_37 : xFl "PaletteFrames$Frame" 37 6 4 := ⟨("PaletteFrames$Frame", T_6, 9), rfl, by decide, iw_6, Or.inl gw_241⟩
theorem fl_Fr_40 : xFl "PaletteFrames$Frame" 40 6 5 := ⟨("PaletteFrames$Frame", T_6, 9), rfl, by decide, iw_6, Or.inl gw_243⟩
theorem fl_Fr_43 : xFl "PaletteFrames$Frame" 43 6 6 := ⟨("PaletteFrames$Frame", T_6, 9), rfl, by decide, iw_6, Or.inl gw_245⟩
theorem fl_Fr_46 : xFl "PaletteFrames$Frame" 46 6 7 := ⟨("PaletteFrames$Frame", T_6, 9), rfl, by decide, iw_6, Or.inl gw_247⟩
theorem fl_Fr_9 : xFl "PaletteFrames$Frame" 9 6 0 := ⟨("PaletteFrames$Frame", T_6, 9), rfl, by decide, iw_6, Or.inl gw_235⟩
theorem fl_Mo_101 : xFl "PaletteFramesModel" 101 9 7 := ⟨("PaletteFramesModel", T_9, 37), rfl, by decide, iw_9, Or.inl gw_795⟩
theorem fl_Mo_104 : xFl "PaletteFramesModel" 104 9 10 := ⟨("PaletteFramesModel", T_9, 37), rfl, by decide, iw_9, Or.inl gw_798⟩
theorem fl_Mo_107 : xFl "PaletteFramesModel" 107 9 12 := ⟨("PaletteFramesModel", T_9, 37), rfl, by decide, iw_9, Or.inl gw_800⟩
theorem fl_Mo_110 : xFl "PaletteFramesModel" 110 9 23 := ⟨("PaletteFramesModel", T_9, 37), rfl, by decide, iw_9, Or.inl gw_811⟩
theorem fl_Mo_113 : xFl "PaletteFramesModel" 113 9 14 := ⟨("PaletteFramesModel", T_9, 37), rfl, by decide, iw_9, Or.inl gw_802⟩
theorem fl_Mo_116 : xFl "PaletteFramesModel" 116 9 21 := ⟨("PaletteFramesModel", T_9, 37), rfl, by decide, iw_9, Or.inl gw_809⟩
theorem fl_Mo_119 : xFl "PaletteFramesModel" 119 9 22 := ⟨("PaletteFramesModel", T_9, 37), rfl, by decide, iw_9, Or.inl gw_810⟩
theorem fl_Mo_122 : xFl "PaletteFramesModel" 122 9 20 := ⟨("PaletteFramesModel", T_9, 37), rfl, by decide, iw_9, Or.inl gw_808⟩
theorem fl_Mo_13 : xFl "PaletteFramesModel" 13 9 8 := ⟨("PaletteFramesModel", T_9, 37), rfl, by decide, iw_9, Or.inl gw_796⟩
theorem fl_Mo_17 : xFl "PaletteFramesModel" 17 9 9 := ⟨("PaletteFramesModel", T_9, 37), rfl, by decide, iw_9, Or.inl gw_797⟩
theorem fl_Mo_20 : xFl "PaletteFramesModel" 20 9 11 := ⟨("PaletteFramesModel", T_9, 37), rfl, by decide, iw_9, Or.inl gw_799⟩
theorem fl_Mo_23 : xFl "PaletteFramesModel" 23 9 13 := ⟨("PaletteFramesModel", T_9, 37), rfl, by decide, iw_9, Or.inl gw_801⟩
theorem fl_Mo_26 : xFl "PaletteFramesModel" 26 9 15 := ⟨("PaletteFramesModel", T_9, 37), rfl, by decide, iw_9, Or.inl gw_803⟩
theorem fl_Mo_29 : xFl "PaletteFramesModel" 29 9 16 := ⟨("PaletteFramesModel", T_9, 37), rfl, by decide, iw_9, Or.inl gw_804⟩
theorem fl_Mo_32 : xFl "PaletteFramesModel" 32 9 17 := ⟨("PaletteFramesModel", T_9, 37), rfl, by decide, iw_9, Or.inl gw_805⟩
theorem fl_Mo_35 : xFl "PaletteFramesModel" 35 9 18 := ⟨("PaletteFramesModel", T_9, 37), rfl, by decide, iw_9, Or.inl gw_806⟩
theorem fl_Mo_38 : xFl "PaletteFramesModel" 38 9 19 := ⟨("PaletteFramesModel", T_9, 37), rfl, by decide, iw_9, Or.inl gw_807⟩
theorem fl_Mo_41 : xFl "PaletteFramesModel" 41 9 24 := ⟨("PaletteFramesModel", T_9, 37), rfl, by decide, iw_9, Or.inl gw_812⟩
theorem fl_Mo_44 : xFl "PaletteFramesModel" 44 9 25 := ⟨("PaletteFramesModel", T_9, 37), rfl, by decide, iw_9, Or.inl gw_813⟩
theorem fl_Mo_47 : xFl "PaletteFramesModel" 47 9 26 := ⟨("PaletteFramesModel", T_9, 37), rfl, by decide, iw_9, Or.inl gw_814⟩
theorem fl_Mo_50 : xFl "PaletteFramesModel" 50 9 27 := ⟨("PaletteFramesModel", T_9, 37), rfl, by decide, iw_9, Or.inl gw_815⟩
theorem fl_Mo_53 : xFl "PaletteFramesModel" 53 9 28 := ⟨("PaletteFramesModel", T_9, 37), rfl, by decide, iw_9, Or.inl gw_816⟩
theorem fl_Mo_56 : xFl "PaletteFramesModel" 56 9 29 := ⟨("PaletteFramesModel", T_9, 37), rfl, by decide, iw_9, Or.inl gw_817⟩
theorem fl_Mo_59 : xFl "PaletteFramesModel" 59 9 30 := ⟨("PaletteFramesModel", T_9, 37), rfl, by decide, iw_9, Or.inl gw_818⟩
theorem fl_Mo_62 : xFl "PaletteFramesModel" 62 9 31 := ⟨("PaletteFramesModel", T_9, 37), rfl, by decide, iw_9, Or.inl gw_819⟩
theorem fl_Mo_65 : xFl "PaletteFramesModel" 65 9 32 := ⟨("PaletteFramesModel", T_9, 37), rfl, by decide, iw_9, Or.inl gw_820⟩
theorem fl_Mo_68 : xFl "PaletteFramesModel" 68 9 33 := ⟨("PaletteFramesModel", T_9, 37), rfl, by decide, iw_9, Or.inl gw_821⟩
theorem fl_Mo_7 : xFl "PaletteFramesModel" 7 9 6 := ⟨("PaletteFramesModel", T_9, 37), rfl, by decide, iw_9, Or.inl gw_794⟩
theorem fl_Mo_71 : xFl "PaletteFramesModel" 71 9 34 := ⟨("PaletteFramesModel", T_9, 37), rfl, by decide, iw_9, Or.inl gw_822⟩
theorem fl_Mo_74 : xFl "PaletteFramesModel" 74 9 35 := ⟨("PaletteFramesModel", T_9, 37), rfl, by decide, iw_9, Or.inl gw_823⟩
theorem fl_Mo_77 : xFl "PaletteFramesModel" 77 9 36 := ⟨("PaletteFramesModel", T_9, 37), rfl, by decide, iw_9, Or.inl gw_824⟩
theorem fl_Mo_80 : xFl "PaletteFramesModel" 80 9 0 := ⟨("PaletteFramesModel", T_9, 37), rfl, by decide, iw_9, Or.inl gw_788⟩
theorem fl_Mo_84 : xFl "PaletteFramesModel" 84 9 1 := ⟨("PaletteFramesModel", T_9, 37), rfl, by decide, iw_9, Or.inl gw_789⟩
theorem fl_Mo_87 : xFl "PaletteFramesModel" 87 9 2 := ⟨("PaletteFramesModel", T_9, 37), rfl, by decide, iw_9, Or.inl gw_790⟩
theorem fl_Mo_92 : xFl "PaletteFramesModel" 92 9 3 := ⟨("PaletteFramesModel", T_9, 37), rfl, by decide, iw_9, Or.inl gw_791⟩
theorem fl_Mo_95 : xFl "PaletteFramesModel" 95 9 4 := ⟨("PaletteFramesModel", T_9, 37), rfl, by decide, iw_9, Or.inl gw_792⟩
theorem fl_Mo_98 : xFl "PaletteFramesModel" 98 9 5 := ⟨("PaletteFramesModel", T_9, 37), rfl, by decide, iw_9, Or.inl gw_793⟩
theorem fl_Nu_15 : xFl "PaletteFrames$Numbers" 15 0 1 := ⟨("PaletteFrames$Numbers", T_0, 2), rfl, by decide, iw_0, Or.inl gw_71⟩
theorem fl_Nu_9 : xFl "PaletteFrames$Numbers" 9 0 0 := ⟨("PaletteFrames$Numbers", T_0, 2), rfl, by decide, iw_0, Or.inl gw_70⟩
theorem fl_PF_102 : xFl "PaletteFrames" 102 3 5 := ⟨("PaletteFrames$Coder", T_3, 12), rfl, by decide, iw_3, Or.inl gw_140⟩
theorem fl_PF_105 : xFl "PaletteFrames" 105 3 6 := ⟨("PaletteFrames$Coder", T_3, 12), rfl, by decide, iw_3, Or.inl gw_142⟩
theorem fl_PF_108 : xFl "PaletteFrames" 108 3 7 := ⟨("PaletteFrames$Coder", T_3, 12), rfl, by decide, iw_3, Or.inl gw_144⟩
theorem fl_PF_111 : xFl "PaletteFrames" 111 3 3 := ⟨("PaletteFrames$Coder", T_3, 12), rfl, by decide, iw_3, Or.inl gw_136⟩
theorem fl_PF_135 : xFl "PaletteFrames" 135 4 3 := ⟨("PaletteFrames$Reader", T_4, 7), rfl, by decide, iw_4, Or.inl gw_188⟩
theorem fl_PF_155 : xFl "PaletteFrames" 155 7 2 := ⟨("PaletteFrames$Screen", T_7, 3), rfl, by decide, iw_7, Or.inl gw_276⟩
theorem fl_PF_18 : xFl "PaletteFrames" 18 8 0 := ⟨("PaletteFrames", T_8, 7), rfl, by decide, iw_8, Or.inl gw_284⟩
theorem fl_PF_189 : xFl "PaletteFrames" 189 7 1 := ⟨("PaletteFrames$Screen", T_7, 3), rfl, by decide, iw_7, Or.inl gw_274⟩
theorem fl_PF_193 : xFl "PaletteFrames" 193 7 0 := ⟨("PaletteFrames$Screen", T_7, 3), rfl, by decide, iw_7, Or.inl gw_272⟩
theorem fl_PF_197 : xFl "PaletteFrames" 197 6 1 := ⟨("PaletteFrames$Frame", T_6, 9), rfl, by decide, iw_6, Or.inl gw_238⟩
theorem fl_PF_203 : xFl "PaletteFrames" 203 6 8 := ⟨("PaletteFrames$Frame", T_6, 9), rfl, by decide, iw_6, Or.inl gw_251⟩
theorem fl_PF_212 : xFl "PaletteFrames" 212 6 4 := ⟨("PaletteFrames$Frame", T_6, 9), rfl, by decide, iw_6, Or.inl gw_242⟩
theorem fl_PF_215 : xFl "PaletteFrames" 215 6 5 := ⟨("PaletteFrames$Frame", T_6, 9), rfl, by decide, iw_6, Or.inl gw_244⟩
theorem fl_PF_27 : xFl "PaletteFrames" 27 8 1 := ⟨("PaletteFrames", T_8, 7), rfl, by decide, iw_8, Or.inl gw_285⟩
theorem fl_PF_31 : xFl "PaletteFrames" 31 8 2 := ⟨("PaletteFrames", T_8, 7), rfl, by decide, iw_8, Or.inl gw_286⟩
theorem fl_PF_37 : xFl "PaletteFrames" 37 8 3 := ⟨("PaletteFrames", T_8, 7), rfl, by decide, iw_8, Or.inl gw_287⟩
theorem fl_PF_44 : xFl "PaletteFrames" 44 8 4 := ⟨("PaletteFrames", T_8, 7), rfl, by decide, iw_8, Or.inl gw_288⟩
theorem fl_PF_51 : xFl "PaletteFrames" 51 8 5 := ⟨("PaletteFrames", T_8, 7), rfl, by decide, iw_8, Or.inl gw_289⟩
theorem fl_PF_55 : xFl "PaletteFrames" 55 8 6 := ⟨("PaletteFrames", T_8, 7), rfl, by decide, iw_8, Or.inl gw_290⟩
theorem fl_PF_77 : xFl "PaletteFrames" 77 0 1 := ⟨("PaletteFrames$Numbers", T_0, 2), rfl, by decide, iw_0, Or.inl gw_73⟩
theorem fl_PF_86 : xFl "PaletteFrames" 86 3 4 := ⟨("PaletteFrames$Coder", T_3, 12), rfl, by decide, iw_3, Or.inl gw_138⟩
theorem fl_Pa_9 : xFl "PaletteFrames$Palette" 9 5 0 := ⟨("PaletteFrames$Palette", T_5, 1), rfl, by decide, iw_5, Or.inl gw_224⟩
theorem fl_Re_14 : xFl "PaletteFrames$Reader" 14 4 3 := ⟨("PaletteFrames$Reader", T_4, 7), rfl, by decide, iw_4, Or.inl gw_187⟩
theorem fl_Re_20 : xFl "PaletteFrames$Reader" 20 4 4 := ⟨("PaletteFrames$Reader", T_4, 7), rfl, by decide, iw_4, Or.inl gw_189⟩
theorem fl_Re_24 : xFl "PaletteFrames$Reader" 24 4 5 := ⟨("PaletteFrames$Reader", T_4, 7), rfl, by decide, iw_4, Or.inl gw_190⟩
theorem fl_Re_27 : xFl "PaletteFrames$Reader" 27 4 0 := ⟨("PaletteFrames$Reader", T_4, 7), rfl, by decide, iw_4, Or.inl gw_184⟩
theorem fl_Re_31 : xFl "PaletteFrames$Reader" 31 4 1 := ⟨("PaletteFrames$Reader", T_4, 7), rfl, by decide, iw_4, Or.inl gw_185⟩
theorem fl_Re_37 : xFl "PaletteFrames$Reader" 37 4 2 := ⟨("PaletteFrames$Reader", T_4, 7), rfl, by decide, iw_4, Or.inl gw_186⟩
theorem fl_Re_41 : xFl "PaletteFrames$Reader" 41 4 6 := ⟨("PaletteFrames$Reader", T_4, 7), rfl, by decide, iw_4, Or.inl gw_191⟩
theorem fl_Re_50 : xFl "PaletteFrames$Reader" 50 0 1 := ⟨("PaletteFrames$Numbers", T_0, 2), rfl, by decide, iw_0, Or.inl gw_72⟩
theorem fl_Re_54 : xFl "PaletteFrames$Reader" 54 1 2 := ⟨("PaletteFrames$Width", T_1, 4), rfl, by decide, iw_1, Or.inl gw_98⟩
theorem fl_Sc_11 : xFl "PaletteFrames$Screen" 11 7 0 := ⟨("PaletteFrames$Screen", T_7, 3), rfl, by decide, iw_7, Or.inl gw_271⟩
theorem fl_Sc_22 : xFl "PaletteFrames$Screen" 22 7 1 := ⟨("PaletteFrames$Screen", T_7, 3), rfl, by decide, iw_7, Or.inl gw_273⟩
theorem fl_Sc_27 : xFl "PaletteFrames$Screen" 27 7 2 := ⟨("PaletteFrames$Screen", T_7, 3), rfl, by decide, iw_7, Or.inl gw_275⟩
theorem fl_Sc_48 : xFl "PaletteFrames$Screen" 48 6 1 := ⟨("PaletteFrames$Frame", T_6, 9), rfl, by decide, iw_6, Or.inl gw_237⟩
theorem fl_Sc_57 : xFl "PaletteFrames$Screen" 57 6 8 := ⟨("PaletteFrames$Frame", T_6, 9), rfl, by decide, iw_6, Or.inl gw_250⟩
theorem fl_Sc_60 : xFl "PaletteFrames$Screen" 60 6 6 := ⟨("PaletteFrames$Frame", T_6, 9), rfl, by decide, iw_6, Or.inl gw_246⟩
theorem fl_Sc_66 : xFl "PaletteFrames$Screen" 66 6 7 := ⟨("PaletteFrames$Frame", T_6, 9), rfl, by decide, iw_6, Or.inl gw_248⟩
theorem fl_St_11 : xFl "PaletteFrames$Strings" 11 2 1 := ⟨("PaletteFrames$Strings", T_2, 5), rfl, by decide, iw_2, Or.inl gw_117⟩
theorem fl_St_15 : xFl "PaletteFrames$Strings" 15 2 2 := ⟨("PaletteFrames$Strings", T_2, 5), rfl, by decide, iw_2, Or.inl gw_118⟩
theorem fl_St_18 : xFl "PaletteFrames$Strings" 18 2 3 := ⟨("PaletteFrames$Strings", T_2, 5), rfl, by decide, iw_2, Or.inl gw_119⟩
theorem fl_St_21 : xFl "PaletteFrames$Strings" 21 2 0 := ⟨("PaletteFrames$Strings", T_2, 5), rfl, by decide, iw_2, Or.inl gw_116⟩
theorem fl_St_25 : xFl "PaletteFrames$Strings" 25 2 4 := ⟨("PaletteFrames$Strings", T_2, 5), rfl, by decide, iw_2, Or.inl gw_120⟩
theorem fl_Wi_15 : xFl "PaletteFrames$Width" 15 1 1 := ⟨("PaletteFrames$Width", T_1, 4), rfl, by decide, iw_1, Or.inl gw_96⟩
theorem fl_Wi_18 : xFl "PaletteFrames$Width" 18 1 2 := ⟨("PaletteFrames$Width", T_1, 4), rfl, by decide, iw_1, Or.inl gw_97⟩
theorem fl_Wi_21 : xFl "PaletteFrames$Width" 21 1 3 := ⟨("PaletteFrames$Width", T_1, 4), rfl, by decide, iw_1, Or.inl gw_100⟩
theorem fl_Wi_9 : xFl "PaletteFrames$Width" 9 1 0 := ⟨("PaletteFrames$Width", T_1, 4), rfl, by decide, iw_1, Or.inl gw_95⟩
theorem ft_3 : xFt 3 := ⟨("PaletteFrames$Coder", T_3, 12), t_3, rfl, ty_3, nm_3⟩
theorem ft_1 : xFt 1 := ⟨("PaletteFrames$Width", T_1, 4), t_1, rfl, ty_1, nm_1⟩
theorem ft_0 : xFt 0 := ⟨("PaletteFrames$Numbers", T_0, 2), t_0, rfl, ty_0, nm_0⟩
theorem ft_6 : xFt 6 := ⟨("PaletteFrames$Frame", T_6, 9), t_6, rfl, ty_6, nm_6⟩
theorem ft_9 : xFt 9 := ⟨("PaletteFramesModel", T_9, 37), t_9, rfl, ty_9, nm_9⟩
theorem ft_4 : xFt 4 := ⟨("PaletteFrames$Reader", T_4, 7), t_4, rfl, ty_4, nm_4⟩
theorem ft_7 : xFt 7 := ⟨("PaletteFrames$Screen", T_7, 3), t_7, rfl, ty_7, nm_7⟩
theorem ft_8 : xFt 8 := ⟨("PaletteFrames", T_8, 7), t_8, rfl, ty_8, nm_8⟩
theorem ft_5 : xFt 5 := ⟨("PaletteFrames$Palette", T_5, 1), t_5, rfl, ty_5, nm_5⟩
theorem ft_2 : xFt 2 := ⟨("PaletteFrames$Strings", T_2, 5), t_2, rfl, ty_2, nm_2⟩
theorem fi_3_10 : xFI 3 10 := ⟨("PaletteFrames$Coder", T_3, 12), rfl, rfl, rfl⟩
theorem fi_3_11 : xFI 3 11 := ⟨("PaletteFrames$Coder", T_3, 12), rfl, rfl, rfl⟩
theorem fi_1_2 : xFI 1 2 := ⟨("PaletteFrames$Width", T_1, 4), rfl, rfl, rfl⟩
theorem fi_3_5 : xFI 3 5 := ⟨("PaletteFrames$Coder", T_3, 12), rfl, rfl, rfl⟩
theorem fi_3_6 : xFI 3 6 := ⟨("PaletteFrames$Coder", T_3, 12), rfl, rfl, rfl⟩
theorem fi_3_7 : xFI 3 7 := ⟨("PaletteFrames$Coder", T_3, 12), rfl, rfl, rfl⟩
theorem fi_3_8 : xFI 3 8 := ⟨("PaletteFrames$Coder", T_3, 12), rfl, rfl, rfl⟩
theorem fi_3_9 : xFI 3 9 := ⟨("PaletteFrames$Coder", T_3, 12), rfl, rfl, rfl⟩
theorem fi_0_1 : xFI 0 1 := ⟨("PaletteFrames$Numbers", T_0, 2), rfl, rfl, rfl⟩
theorem fi_6_8 : xFI 6 8 := ⟨("PaletteFrames$Frame", T_6, 9), rfl, rfl, rfl⟩
theorem fi_6_2 : xFI 6 2 := ⟨("PaletteFrames$Frame", T_6, 9), rfl, rfl, rfl⟩
theorem fi_6_3 : xFI 6 3 := ⟨("PaletteFrames$Frame", T_6, 9), rfl, rfl, rfl⟩
theorem fi_6_4 : xFI 6 4 := ⟨("PaletteFrames$Frame", T_6, 9), rfl, rfl, rfl⟩
theorem fi_6_5 : xFI 6 5 := ⟨("PaletteFrames$Frame", T_6, 9), rfl, rfl, rfl⟩
theorem fi_6_6 : xFI 6 6 := ⟨("PaletteFrames$Frame", T_6, 9), rfl, rfl, rfl⟩
theorem fi_6_7 : xFI 6 7 := ⟨("PaletteFrames$Frame", T_6, 9), rfl, rfl, rfl⟩
theorem fi_9_7 : xFI 9 7 := ⟨("PaletteFramesModel", T_9, 37), rfl, rfl, rfl⟩
theorem fi_9_10 : xFI 9 10 := ⟨("PaletteFramesModel", T_9, 37), rfl, rfl, rfl⟩
theorem fi_9_12 : xFI 9 12 := ⟨("PaletteFramesModel", T_9, 37), rfl, rfl, rfl⟩
theorem fi_9_23 : xFI 9 23 := ⟨("PaletteFramesModel", T_9, 37), rfl, rfl, rfl⟩
theorem fi_9_14 : xFI 9 14 := ⟨("PaletteFramesModel", T_9, 37), rfl, rfl, rfl⟩
theorem fi_9_21 : xFI 9 21 := ⟨("PaletteFramesModel", T_9, 37), rfl, rfl, rfl⟩
theorem fi_9_22 : xFI 9 22 := ⟨("PaletteFramesModel", T_9, 37), rfl, rfl, rfl⟩
theorem fi_9_20 : xFI 9 20 := ⟨("PaletteFramesModel", T_9, 37), rfl, rfl, rfl⟩
theorem fi_9_3 : xFI 9 3 := ⟨("PaletteFramesModel", T_9, 37), rfl, rfl, rfl⟩
theorem fi_9_4 : xFI 9 4 := ⟨("PaletteFramesModel", T_9, 37), rfl, rfl, rfl⟩
theorem fi_9_5 : xFI 9 5 := ⟨("PaletteFramesModel", T_9, 37), rfl, rfl, rfl⟩
theorem fi_7_2 : xFI 7 2 := ⟨("PaletteFrames$Screen", T_7, 3), rfl, rfl, rfl⟩
theorem fi_8_6 : xFI 8 6 := ⟨("PaletteFrames", T_8, 7), rfl, rfl, rfl⟩
theorem fi_4_6 : xFI 4 6 := ⟨("PaletteFrames$Reader", T_4, 7), rfl, rfl, rfl⟩
theorem fi_2_4 : xFI 2 4 := ⟨("PaletteFrames$Strings", T_2, 5), rfl, rfl, rfl⟩
theorem fi_1_3 : xFI 1 3 := ⟨("PaletteFrames$Width", T_1, 4), rfl, rfl, rfl⟩
theorem ml_Co_100 : xCv "PaletteFrames$Coder" 100 y_Wi_behindEntry b_Wi_behindEntry 1 none 0 1 := ⟨⟨Or.inl gw_370, gw_373, gw_34, by decide +kernel⟩, ⟨gw_371, gw_372⟩, T_1, 4, rfl⟩
theorem ml_Co_103 : xCv "PaletteFrames$Coder" 103 y_St_isFull b_St_isFull 1 (some .boolean) 0 2 := ⟨⟨Or.inl gw_374, gw_377, gw_35, by decide +kernel⟩, ⟨gw_375, gw_376⟩, T_2, 5, rfl⟩
theorem ml_Co_116 : xCv "PaletteFrames$Coder" 116 y_Nu_add b_Nu_add 2 none 1 0 := ⟨⟨Or.inl gw_338, gw_341, gw_32, by decide +kernel⟩, ⟨gw_339, gw_340⟩, T_0, 2, rfl⟩
theorem ml_Co_41 : xCv "PaletteFrames$Coder" 41 y_Nu_empty b_Nu_empty 1 none 0 0 := ⟨⟨Or.inl gw_318, gw_321, gw_32, by decide +kernel⟩, ⟨gw_319, gw_320⟩, T_0, 2, rfl⟩
theorem ml_Co_44 : xCv "PaletteFrames$Coder" 44 y_St_empty b_St_empty 2 none 0 2 := ⟨⟨Or.inl gw_322, gw_325, gw_35, by decide +kernel⟩, ⟨gw_323, gw_324⟩, T_2, 5, rfl⟩
theorem ml_Co_45 : xCv "PaletteFrames$Coder" 45 y_Wi_restart b_Wi_restart 1 none 0 1 := ⟨⟨Or.inl gw_326, gw_329, gw_34, by decide +kernel⟩, ⟨gw_327, gw_328⟩, T_1, 4, rfl⟩
theorem ml_Co_63 : xCv "PaletteFrames$Coder" 63 y_Co_forget b_Co_forget 1 none 0 3 := ⟨⟨Or.inl gw_314, gw_317, gw_33, by decide +kernel⟩, ⟨gw_315, gw_316⟩, T_3, 12, rfl⟩
theorem ml_Co_66 : xCv "PaletteFrames$Coder" 66 y_Co_writeClear b_Co_writeClear 1 none 0 3 := ⟨⟨Or.inl gw_330, gw_333, gw_33, by decide +kernel⟩, ⟨gw_332, gw_0⟩, T_3, 12, rfl⟩
theorem ml_Co_69 : xCv "PaletteFrames$Coder" 69 y_Nu_get b_Nu_get 2 (some .int) 1 0 := ⟨⟨Or.inl gw_346, gw_349, gw_32, by decide +kernel⟩, ⟨gw_347, gw_348⟩, T_0, 2, rfl⟩
theorem ml_Co_76 : xCv "PaletteFrames$Coder" 76 y_St_find b_St_find 4 (some .int) 2 2 := ⟨⟨Or.inl gw_354, gw_357, gw_35, by decide +kernel⟩, ⟨gw_355, gw_356⟩, T_2, 5, rfl⟩
theorem ml_Co_80 : xCv "PaletteFrames$Coder" 80 y_Co_writeEntry b_Co_writeEntry 3 none 2 3 := ⟨⟨Or.inl gw_366, gw_369, gw_33, by decide +kernel⟩, ⟨gw_368, gw_4⟩, T_3, 12, rfl⟩
theorem ml_Co_84 : xCv "PaletteFrames$Coder" 84 y_St_add b_St_add 5 none 2 2 := ⟨⟨Or.inl gw_378, gw_381, gw_35, by decide +kernel⟩, ⟨gw_379, gw_380⟩, T_2, 5, rfl⟩
theorem ml_Co_87 : xCv "PaletteFrames$Coder" 87 y_Co_isClearDue b_Co_isClearDue 3 (some .boolean) 1 3 := ⟨⟨Or.inl gw_383, gw_386, gw_33, by decide +kernel⟩, ⟨gw_385, gw_5⟩, T_3, 12, rfl⟩
theorem ml_Co_91 : xCv "PaletteFrames$Coder" 91 y_Co_write b_Co_write 3 none 1 3 := ⟨⟨Or.inl gw_334, gw_337, gw_33, by decide +kernel⟩, ⟨gw_336, gw_1⟩, T_3, 12, rfl⟩
theorem ml_Co_94 : xCv "PaletteFrames$Coder" 94 y_Co_writeRest b_Co_writeRest 1 none 0 3 := ⟨⟨Or.inl gw_387, gw_390, gw_33, by decide +kernel⟩, ⟨gw_389, gw_6⟩, T_3, 12, rfl⟩
theorem ml_Co_97 : xCv "PaletteFrames$Coder" 97 y_Co_startLook b_Co_startLook 1 none 0 3 := ⟨⟨Or.inl gw_342, gw_345, gw_33, by decide +kernel⟩, ⟨gw_344, gw_2⟩, T_3, 12, rfl⟩
theorem ml_Fr_28 : xCv "PaletteFrames$Frame" 28 y_Pa_forget b_Pa_forget 1 none 0 5 := ⟨⟨Or.inl gw_655, gw_457, gw_38, by decide +kernel⟩, ⟨gw_455, gw_456⟩, T_5, 1, rfl⟩
theorem ml_Fr_49 : xCs "PaletteFrames$Frame" 49 y_Fr_passNumber b_Fr_passNumber 1 (some .int) 1 := ⟨⟨Or.inl gw_668, gw_670, gw_40, by decide +kernel⟩, gw_669⟩
theorem ml_Fr_53 : xCv "PaletteFrames$Frame" 53 y_Fr_fillLine b_Fr_fillLine 6 none 3 6 := ⟨⟨Or.inl gw_671, gw_674, gw_40, by decide +kernel⟩, ⟨gw_673, gw_12⟩, T_6, 9, rfl⟩
theorem ml_Fr_57 : xCv "PaletteFrames$Frame" 57 y_Nu_get b_Nu_get 2 (some .int) 1 0 := ⟨⟨Or.inl gw_675, gw_349, gw_32, by decide +kernel⟩, ⟨gw_347, gw_348⟩, T_0, 2, rfl⟩
theorem ml_Fr_62 : xCv "PaletteFrames$Frame" 62 y_Fr_symbolIn b_Fr_symbolIn 4 (some .int) 2 6 := ⟨⟨Or.inl gw_740, gw_743, gw_40, by decide +kernel⟩, ⟨gw_741, gw_742⟩, T_6, 9, rfl⟩
theorem ml_Mo_125 : xCv "PaletteFramesModel" 125 y_Mo_write b_Mo_write 4 none 1 9 := ⟨⟨Or.inl gw_925, gw_928, gw_41, by decide +kernel⟩, ⟨gw_927, gw_17⟩, T_9, 37, rfl⟩
theorem ml_Mo_129 : xCv "PaletteFramesModel" 129 y_Mo_begin b_Mo_begin 2 none 0 9 := ⟨⟨Or.inl gw_917, gw_920, gw_41, by decide +kernel⟩, ⟨gw_919, gw_15⟩, T_9, 37, rfl⟩
theorem ml_Mo_132 : xCv "PaletteFramesModel" 132 y_Mo_writeClear b_Mo_writeClear 1 none 0 9 := ⟨⟨Or.inl gw_921, gw_924, gw_41, by decide +kernel⟩, ⟨gw_923, gw_16⟩, T_9, 37, rfl⟩
theorem ml_Mo_135 : xCv "PaletteFramesModel" 135 y_Mo_childOf b_Mo_childOf 4 (some .int) 2 9 := ⟨⟨Or.inl gw_929, gw_932, gw_41, by decide +kernel⟩, ⟨gw_931, gw_18⟩, T_9, 37, rfl⟩
theorem ml_Mo_139 : xCv "PaletteFramesModel" 139 y_Mo_widen b_Mo_widen 1 none 0 9 := ⟨⟨Or.inl gw_933, gw_936, gw_41, by decide +kernel⟩, ⟨gw_935, gw_19⟩, T_9, 37, rfl⟩
theorem ml_Mo_142 : xCv "PaletteFramesModel" 142 y_Mo_enter b_Mo_enter 3 none 2 9 := ⟨⟨Or.inl gw_937, gw_940, gw_41, by decide +kernel⟩, ⟨gw_939, gw_20⟩, T_9, 37, rfl⟩
theorem ml_Mo_146 : xCv "PaletteFramesModel" 146 y_Mo_nextCode b_Mo_nextCode 3 (some .int) 0 9 := ⟨⟨Or.inl gw_961, gw_964, gw_41, by decide +kernel⟩, ⟨gw_963, gw_21⟩, T_9, 37, rfl⟩
theorem ml_Mo_150 : xCv "PaletteFramesModel" 150 y_Mo_firstOf b_Mo_firstOf 3 (some .int) 1 9 := ⟨⟨Or.inl gw_965, gw_968, gw_41, by decide +kernel⟩, ⟨gw_967, gw_22⟩, T_9, 37, rfl⟩
theorem ml_Mo_154 : xCv "PaletteFramesModel" 154 y_Mo_spell b_Mo_spell 4 none 1 9 := ⟨⟨Or.inl gw_969, gw_972, gw_41, by decide +kernel⟩, ⟨gw_971, gw_23⟩, T_9, 37, rfl⟩
theorem ml_Mo_157 : xCs "PaletteFramesModel" 157 y_Mo_passNumber b_Mo_passNumber 1 (some .int) 1 := ⟨⟨Or.inl gw_985, gw_987, gw_41, by decide +kernel⟩, gw_986⟩
theorem ml_Mo_160 : xCv "PaletteFramesModel" 160 y_Mo_isFrame b_Mo_isFrame 2 (some .boolean) 1 9 := ⟨⟨Or.inl gw_992, gw_995, gw_41, by decide +kernel⟩, ⟨gw_994, gw_24⟩, T_9, 37, rfl⟩
theorem ml_Mo_164 : xCv "PaletteFramesModel" 164 y_Mo_isSymbol b_Mo_isSymbol 2 (some .boolean) 1 9 := ⟨⟨Or.inl gw_996, gw_999, gw_41, by decide +kernel⟩, ⟨gw_998, gw_25⟩, T_9, 37, rfl⟩
theorem ml_Mo_168 : xCv "PaletteFramesModel" 168 y_Mo_placeOf b_Mo_placeOf 4 (some .int) 3 9 := ⟨⟨Or.inl gw_1013, gw_1016, gw_41, by decide +kernel⟩, ⟨gw_1015, gw_27⟩, T_9, 37, rfl⟩
theorem ml_Mo_172 : xCv "PaletteFramesModel" 172 y_Mo_takeAway b_Mo_takeAway 5 none 1 9 := ⟨⟨Or.inl gw_1009, gw_1012, gw_41, by decide +kernel⟩, ⟨gw_1011, gw_26⟩, T_9, 37, rfl⟩
theorem ml_Mo_175 : xCv "PaletteFramesModel" 175 y_Mo_draw b_Mo_draw 5 none 1 9 := ⟨⟨Or.inl gw_1017, gw_1020, gw_41, by decide +kernel⟩, ⟨gw_1019, gw_28⟩, T_9, 37, rfl⟩
theorem ml_Nu_19 : xCv "PaletteFrames$Numbers" 19 y_Nu_has b_Nu_has 2 (some .boolean) 1 0 := ⟨⟨Or.inl gw_350, gw_353, gw_32, by decide +kernel⟩, ⟨gw_351, gw_352⟩, T_0, 2, rfl⟩
theorem ml_PF_115 : xCv "PaletteFrames" 115 y_St_count b_St_count 1 (some .int) 0 2 := ⟨⟨Or.inl gw_395, gw_398, gw_35, by decide +kernel⟩, ⟨gw_396, gw_397⟩, T_2, 5, rfl⟩
theorem ml_PF_128 : xCv "PaletteFrames" 128 y_Re_readAll b_Re_readAll 6 (some .int) 1 4 := ⟨⟨Or.inl gw_403, gw_406, gw_36, by decide +kernel⟩, ⟨gw_404, gw_405⟩, T_4, 7, rfl⟩
theorem ml_PF_132 : xCv "PaletteFrames" 132 y_Nu_empty b_Nu_empty 1 none 0 0 := ⟨⟨Or.inl gw_434, gw_321, gw_32, by decide +kernel⟩, ⟨gw_319, gw_320⟩, T_0, 2, rfl⟩
theorem ml_PF_140 : xCs "PaletteFrames" 140 y_PF_fits b_PF_fits 2 (some .boolean) 2 := ⟨⟨Or.inl gw_623, gw_625, gw_30, by decide +kernel⟩, gw_624⟩
theorem ml_PF_159 : xCv "PaletteFrames" 159 y_Sc_addFrame b_Sc_addFrame 2 (some (.object "PaletteFrames$Frame")) 0 7 := ⟨⟨Or.inl gw_646, gw_649, gw_37, by decide +kernel⟩, ⟨gw_647, gw_648⟩, T_7, 3, rfl⟩
theorem ml_PF_163 : xCv "PaletteFrames" 163 y_Fr_lay b_Fr_lay 5 none 4 6 := ⟨⟨Or.inl gw_656, gw_659, gw_40, by decide +kernel⟩, ⟨gw_657, gw_658⟩, T_6, 9, rfl⟩
theorem ml_PF_169 : xCv "PaletteFrames" 169 y_Fr_time b_Fr_time 3 none 2 6 := ⟨⟨Or.inl gw_660, gw_663, gw_40, by decide +kernel⟩, ⟨gw_661, gw_662⟩, T_6, 9, rfl⟩
theorem ml_PF_173 : xCv "PaletteFrames" 173 y_Fr_fill b_Fr_fill 7 none 2 6 := ⟨⟨Or.inl gw_664, gw_667, gw_40, by decide +kernel⟩, ⟨gw_665, gw_666⟩, T_6, 9, rfl⟩
theorem ml_PF_177 : xCv "PaletteFrames" 177 y_Nu_dropFirst b_Nu_dropFirst 2 none 1 0 := ⟨⟨Or.inl gw_676, gw_679, gw_32, by decide +kernel⟩, ⟨gw_677, gw_678⟩, T_0, 2, rfl⟩
theorem ml_PF_180 : xCv "PaletteFrames" 180 y_Sc_has b_Sc_has 2 (some .boolean) 1 7 := ⟨⟨Or.inl gw_690, gw_693, gw_37, by decide +kernel⟩, ⟨gw_691, gw_692⟩, T_7, 3, rfl⟩
theorem ml_PF_183 : xCv "PaletteFrames" 183 y_PF_isSymbol b_PF_isSymbol 2 (some .boolean) 1 8 := ⟨⟨Or.inl gw_695, gw_698, gw_30, by decide +kernel⟩, ⟨gw_697, gw_13⟩, T_8, 7, rfl⟩
theorem ml_PF_198 : xCv "PaletteFrames" 198 y_Pa_change b_Pa_change 4 (some .int) 2 5 := ⟨⟨Or.inl gw_701, gw_704, gw_38, by decide +kernel⟩, ⟨gw_702, gw_703⟩, T_5, 1, rfl⟩
theorem ml_PF_208 : xCv "PaletteFrames" 208 y_Sc_colourBehind b_Sc_colourBehind 7 (some .int) 3 7 := ⟨⟨Or.inl gw_724, gw_727, gw_37, by decide +kernel⟩, ⟨gw_725, gw_726⟩, T_7, 3, rfl⟩
theorem ml_PF_220 : xCv "PaletteFrames" 220 y_Fr_symbolIn b_Fr_symbolIn 4 (some .int) 2 6 := ⟨⟨Or.inl gw_756, gw_743, gw_40, by decide +kernel⟩, ⟨gw_741, gw_742⟩, T_6, 9, rfl⟩
theorem ml_PF_225 : xCv "PaletteFrames" 225 y_Sc_frameAt b_Sc_frameAt 8 (some .int) 2 7 := ⟨⟨Or.inl gw_765, gw_768, gw_37, by decide +kernel⟩, ⟨gw_766, gw_767⟩, T_7, 3, rfl⟩
theorem ml_PF_230 : xCs "PaletteFrames" 230 y_Fr_passNumber b_Fr_passNumber 1 (some .int) 1 := ⟨⟨Or.inl gw_777, gw_670, gw_40, by decide +kernel⟩, gw_669⟩
theorem ml_PF_233 : xCv "PaletteFrames" 233 y_Co_forget b_Co_forget 1 none 0 3 := ⟨⟨Or.inl gw_449, gw_317, gw_33, by decide +kernel⟩, ⟨gw_315, gw_316⟩, T_3, 12, rfl⟩
theorem ml_PF_236 : xCv "PaletteFrames" 236 y_Sc_forget b_Sc_forget 1 none 0 7 := ⟨⟨Or.inl gw_450, gw_453, gw_37, by decide +kernel⟩, ⟨gw_451, gw_452⟩, T_7, 3, rfl⟩
theorem ml_PF_65 : xCv "PaletteFrames" 65 y_Nu_room b_Nu_room 1 (some .int) 0 0 := ⟨⟨Or.inl gw_539, gw_427, gw_32, by decide +kernel⟩, ⟨gw_425, gw_426⟩, T_0, 2, rfl⟩
theorem ml_PF_74 : xCv "PaletteFrames" 74 y_Nu_add b_Nu_add 2 none 1 0 := ⟨⟨Or.inl gw_440, gw_341, gw_32, by decide +kernel⟩, ⟨gw_339, gw_340⟩, T_0, 2, rfl⟩
theorem ml_PF_82 : xCv "PaletteFrames" 82 y_Co_codeRow b_Co_codeRow 8 none 2 3 := ⟨⟨Or.inl gw_310, gw_313, gw_33, by decide +kernel⟩, ⟨gw_311, gw_312⟩, T_3, 12, rfl⟩
theorem ml_PF_89 : xCv "PaletteFrames" 89 y_Nu_has b_Nu_has 2 (some .boolean) 1 0 := ⟨⟨Or.inl gw_572, gw_353, gw_32, by decide +kernel⟩, ⟨gw_351, gw_352⟩, T_0, 2, rfl⟩
theorem ml_PF_98 : xCv "PaletteFrames" 98 y_Nu_get b_Nu_get 2 (some .int) 1 0 := ⟨⟨Or.inl gw_439, gw_349, gw_32, by decide +kernel⟩, ⟨gw_347, gw_348⟩, T_0, 2, rfl⟩
theorem ml_Pa_15 : xCs "PaletteFrames$Palette" 15 y_Ar_fill b_Ar_fill 4 none 2 := ⟨⟨Or.inl gw_221, gw_223, gw_39, by decide +kernel⟩, gw_222⟩
theorem ml_Pa_21 : xCv "PaletteFrames$Palette" 21 y_Pa_get b_Pa_get 2 (some .int) 1 5 := ⟨⟨Or.inl gw_705, gw_708, gw_38, by decide +kernel⟩, ⟨gw_706, gw_707⟩, T_5, 1, rfl⟩
theorem ml_Re_44 : xCv "PaletteFrames$Reader" 44 y_Nu_empty b_Nu_empty 1 none 0 0 := ⟨⟨Or.inl gw_407, gw_321, gw_32, by decide +kernel⟩, ⟨gw_319, gw_320⟩, T_0, 2, rfl⟩
theorem ml_Re_47 : xCv "PaletteFrames$Reader" 47 y_Re_restart b_Re_restart 1 none 0 4 := ⟨⟨Or.inl gw_408, gw_411, gw_36, by decide +kernel⟩, ⟨gw_410, gw_7⟩, T_4, 7, rfl⟩
theorem ml_Re_57 : xCv "PaletteFrames$Reader" 57 y_Re_codeFrom b_Re_codeFrom 5 (some .int) 2 4 := ⟨⟨Or.inl gw_414, gw_417, gw_36, by decide +kernel⟩, ⟨gw_416, gw_8⟩, T_4, 7, rfl⟩
theorem ml_Re_61 : xCv "PaletteFrames$Reader" 61 y_Re_copyString b_Re_copyString 6 (some .boolean) 1 4 := ⟨⟨Or.inl gw_420, gw_423, gw_36, by decide +kernel⟩, ⟨gw_422, gw_9⟩, T_4, 7, rfl⟩
theorem ml_Re_65 : xCv "PaletteFrames$Reader" 65 y_Wi_restart b_Wi_restart 1 none 0 1 := ⟨⟨Or.inl gw_412, gw_329, gw_34, by decide +kernel⟩, ⟨gw_327, gw_328⟩, T_1, 4, rfl⟩
theorem ml_Re_66 : xCv "PaletteFrames$Reader" 66 y_Nu_get b_Nu_get 2 (some .int) 1 0 := ⟨⟨Or.inl gw_418, gw_349, gw_32, by decide +kernel⟩, ⟨gw_347, gw_348⟩, T_0, 2, rfl⟩
theorem ml_Re_70 : xCv "PaletteFrames$Reader" 70 y_Nu_has b_Nu_has 2 (some .boolean) 1 0 := ⟨⟨Or.inl gw_419, gw_353, gw_32, by decide +kernel⟩, ⟨gw_351, gw_352⟩, T_0, 2, rfl⟩
theorem ml_Re_73 : xCv "PaletteFrames$Reader" 73 y_Nu_room b_Nu_room 1 (some .int) 0 0 := ⟨⟨Or.inl gw_424, gw_427, gw_32, by decide +kernel⟩, ⟨gw_425, gw_426⟩, T_0, 2, rfl⟩
theorem ml_Re_77 : xCv "PaletteFrames$Reader" 77 y_Nu_add b_Nu_add 2 none 1 0 := ⟨⟨Or.inl gw_428, gw_341, gw_32, by decide +kernel⟩, ⟨gw_339, gw_340⟩, T_0, 2, rfl⟩
theorem ml_Re_80 : xCv "PaletteFrames$Reader" 80 y_Wi_behindEntry b_Wi_behindEntry 1 none 0 1 := ⟨⟨Or.inl gw_429, gw_373, gw_34, by decide +kernel⟩, ⟨gw_371, gw_372⟩, T_1, 4, rfl⟩
theorem ml_Re_83 : xCv "PaletteFrames$Reader" 83 y_Re_addEntry b_Re_addEntry 3 none 2 4 := ⟨⟨Or.inl gw_430, gw_433, gw_36, by decide +kernel⟩, ⟨gw_432, gw_10⟩, T_4, 7, rfl⟩
theorem ml_Sc_37 : xCv "PaletteFrames$Screen" 37 y_Fr_forget b_Fr_forget 1 none 0 6 := ⟨⟨Or.inl gw_651, gw_654, gw_40, by decide +kernel⟩, ⟨gw_652, gw_653⟩, T_6, 9, rfl⟩
theorem ml_Sc_40 : xCv "PaletteFrames$Screen" 40 y_Pa_forget b_Pa_forget 1 none 0 5 := ⟨⟨Or.inl gw_454, gw_457, gw_38, by decide +kernel⟩, ⟨gw_455, gw_456⟩, T_5, 1, rfl⟩
theorem ml_Sc_41 : xCv "PaletteFrames$Screen" 41 y_Sc_sourceBehind b_Sc_sourceBehind 8 (some .int) 3 7 := ⟨⟨Or.inl gw_728, gw_731, gw_37, by decide +kernel⟩, ⟨gw_730, gw_14⟩, T_7, 3, rfl⟩
theorem ml_Sc_45 : xCv "PaletteFrames$Screen" 45 y_Fr_symbolOn b_Fr_symbolOn 3 (some .int) 2 6 := ⟨⟨Or.inl gw_736, gw_739, gw_40, by decide +kernel⟩, ⟨gw_737, gw_738⟩, T_6, 9, rfl⟩
theorem ml_Sc_49 : xCv "PaletteFrames$Screen" 49 y_Pa_get b_Pa_get 2 (some .int) 1 5 := ⟨⟨Or.inl gw_747, gw_708, gw_38, by decide +kernel⟩, ⟨gw_706, gw_707⟩, T_5, 1, rfl⟩
theorem ml_Sc_53 : xCv "PaletteFrames$Screen" 53 y_Fr_covers b_Fr_covers 3 (some .boolean) 2 6 := ⟨⟨Or.inl gw_732, gw_735, gw_40, by decide +kernel⟩, ⟨gw_733, gw_734⟩, T_6, 9, rfl⟩
theorem ml_Sc_63 : xCs "PaletteFrames$Screen" 63 y_Sc_sourceAfter b_Sc_sourceAfter 3 (some .int) 3 := ⟨⟨Or.inl gw_744, gw_746, gw_37, by decide +kernel⟩, gw_745⟩
theorem ml_St_28 : xCs "PaletteFrames$Strings" 28 y_St_keyOf b_St_keyOf 2 (some .int) 2 := ⟨⟨Or.inl gw_358, gw_360, gw_35, by decide +kernel⟩, gw_359⟩
theorem ml_St_32 : xCv "PaletteFrames$Strings" 32 y_St_slotFor b_St_slotFor 5 (some .int) 1 2 := ⟨⟨Or.inl gw_361, gw_364, gw_35, by decide +kernel⟩, ⟨gw_363, gw_3⟩, T_2, 5, rfl⟩
theorem ml_St_36 : xCv "PaletteFrames$Strings" 36 y_St_isFull b_St_isFull 1 (some .boolean) 0 2 := ⟨⟨Or.inl gw_382, gw_377, gw_35, by decide +kernel⟩, ⟨gw_375, gw_376⟩, T_2, 5, rfl⟩
theorem mw_Nu_23 : Cond.methodLink "PaletteFrames$Numbers" 23 arraycopyName ∈ xGT ∧ Cond.native arraycopyName ∈ xGT ∧ Cond.static arraycopyName ∈ xGT ∧ Cond.initialized "java/lang/System" ∈ xGT := ⟨gw_680, gw_682, gw_681, gw_49⟩
theorem mw_PF_9 : Cond.methodLink "PaletteFrames" 9 Lib.Math.min.name ∈ xGT ∧ Cond.static Lib.Math.min.name ∈ xGT ∧ Cond.initialized "java/lang/Math" ∈ xGT ∧ Cond.code Lib.Math.min.name Lib.Math.min.code 2 (some .int) ∈ xGT := ⟨gw_58, gw_59, gw_31, xGT_of 60 (by decide +kernel) (by decide +kernel)⟩
theorem mw_Sc_31 : Cond.methodLink "PaletteFrames$Screen" 31 Lib.Math.min.name ∈ xGT ∧ Cond.static Lib.Math.min.name ∈ xGT ∧ Cond.initialized "java/lang/Math" ∈ xGT ∧ Cond.code Lib.Math.min.name Lib.Math.min.code 2 (some .int) ∈ xGT := ⟨gw_650, gw_59, gw_31, xGT_of 60 (by decide +kernel) (by decide +kernel)⟩
end
section
/-! throws: the new exception, its constructor's chain, the throw -/
section XE
variable {p : Program} {l : Launch} {e : Env} {R : Room} {s : State} {m : MethodId} {args : Array Value} {below : List Frame} {meth : Method} {c : Code}
variable {cc : ByteArray} {nL : Nat} {own : String} {g : xG} {S : List xO} {F : xF} {G : xL} {cells slots pc : Nat} {lv : List (Option Value)} {st : List Value}
def xWk (w : Cond) : Bool := match w with
  | .declares _ => true
  | .castable _ _ => true
  | w => w.keeps
theorem xWk_ok {w : Cond} (h : xWk w = true) (s : State) (h2 : w.onTables = true) : w.warmOk s := by
  cases w <;> first | exact trivial | exact h | (simp [Cond.onTables] at h2; done) | (simp [xWk, Cond.keeps, Cond.steady] at h; done)
theorem xTh.word {U : State} {w : Cond} {A : Array Value} (h : xTh g U) (hw : w ∈ lw_tbl) (ht : w.onTables = true) (hk : xWk w = true) : w.before A U = true := by
  obtain ⟨u0, a1, a2, a3, a4, a5⟩ := h
  have h1 := Cond.before_warmed a3 w (xWk_ok hk u0 ht) (a1 w hw)
  exact va_tabs ht (show (u0.setVm U.vm).vm = U.vm from rfl) h1
theorem xTh.laysStatic {U : State} {O f d : String} {A : Array Value} (h : xTh g U) (hw : Cond.laysStatic O f d ∈ lw_tbl) : (Cond.laysStatic O f d).before A U = true := by
  obtain ⟨u0, a1, a2, a3, a4, a5⟩ := h
  have h1 := Cond.before_warmed a3 (Cond.laysStatic O f d) rfl (a1 _ hw)
  obtain ⟨c, k, i, fd, a, cell, hc, hf, hst, hsta, hcell, hiss, hcls, hlt, hty⟩ := Cond.laysStatic_spec h1
  have hlt2 : a < g.1 := by rw [← a4]; exact (Array.getElem?_eq_some_iff.mp hcell).1
  have hcell2 : U.heap[a]? = some cell := (a5 a hlt2).trans hcell
  have hc2 : U.vm.findClass O = some c := hc
  have hf2 : U.fieldFound? O f d = some (c, k, i, fd) := hf
  simp [Cond.before, Cond.holds, Cond.value, hc2, hf2, hst, hsta, hcell2, hiss, hcls, hlt, hty]
theorem xTh.isRef {U : State} {O f d : String} {A : Array Value} (h : xTh g U) (hw : Cond.isRef (.static O f d) ∈ flatC (Jvm.Cond.and given_1 narrow_1)) : (Cond.isRef (.static O f d)).before A U = true := by
  obtain ⟨u0, a1, a2, a3, a4, a5⟩ := h
  have h0 := flat_of_before _ a2 _ hw
  have h1 := Cond.before_warmed a3 (Cond.isRef (.static O f d)) rfl h0
  have key : ∀ v, (Term.static O f d).eval #[Value.ref g.2.1] (u0.setVm U.vm) none [] (u0.setVm U.vm) = some v → (Term.static O f d).eval A U none [] U = some v := by
    intro v hv
    simp only [Term.eval] at hv ⊢
    cases hf : (u0.setVm U.vm).fieldNamed? O f d true with
    | none => rw [hf] at hv; cases hv
    | some x =>
      obtain ⟨c1, k1, sl⟩ := x
      have hf2 : U.fieldNamed? O f d true = some (c1, k1, sl) := hf
      rw [hf] at hv
      rw [hf2]
      cases hs : k1.statics with
      | none => simp [hs] at hv
      | some a =>
        cases hcell : u0.heap[a]? with
        | none =>
          have hcell1 : (u0.setVm U.vm).heap[a]? = none := hcell
          simp [hs, hcell] at hv
        | some cell =>
          have hcell1 : (u0.setVm U.vm).heap[a]? = some cell := hcell
          have hlt2 : a < g.1 := by rw [← a4]; exact (Array.getElem?_eq_some_iff.mp hcell).1
          have hcell2 : U.heap[a]? = some cell := (a5 a hlt2).trans hcell
          simp [hs, hcell] at hv
          simp [hs, hcell2]
          exact hv
  simp only [Cond.before, Cond.holds, Cond.value] at h1 ⊢
  cases hv : (Term.static O f d).eval #[Value.ref g.2.1] (u0.setVm U.vm) none [] (u0.setVm U.vm) with
  | none => rw [hv] at h1; simp at h1
  | some v =>
    rw [hv] at h1
    rw [key v hv]
    exact h1
/-- the same walk, as if the method had begun in the heap that it stands in now -/
theorem xrebase {T : State} {locs : List Loc} (X : Stand p l e R s m args below meth c T locs cells slots) (hc : cells ≤ R.cells) (hs : slots ≤ R.slots) :
    Stand p l e { R with cells := R.cells - cells, slots := R.slots - slots } { s with heap := T.heap, slotsUsed := T.slotsUsed } m args below meth c T [] 0 0 := by
  have hroom := X.room
  have h1 := X.heapSize
  have h2 := X.used
  have h3 := X.book
  simp only [State.hasRoom, Bool.and_eq_true, decide_eq_true_eq] at hroom
  obtain ⟨⟨⟨⟨r1, r2⟩, r3⟩, r4⟩, r5⟩ := hroom
  refine ⟨X.admits, X.cas, X.clock, X.frames, ?_, X.hears, X.method, X.code, X.here, X.tail, X.warmed, X.limits, X.bytes, ?_⟩
  · simp only [State.hasRoom, Bool.and_eq_true, decide_eq_true_eq]
    refine ⟨⟨⟨⟨r1, r2⟩, ?_⟩, ?_⟩, ?_⟩
    · show T.heap.size + (R.cells - cells) ≤ _
      omega
    · show T.slotsUsed + (R.slots - slots) ≤ _
      omega
    · exact h3
  · have e1 := X.same.1
    refine ⟨?_, Nat.le_refl _, Nat.le_refl _, ?_, ?_, fun a cl ha => ⟨cl, ha, rfl, rfl, fun i _ => rfl⟩⟩
    · exact e1
    · show T.slotsUsed = T.slotsUsed + ((T.heap.toList.drop T.heap.size).map _).sum
      rw [List.drop_of_length_le (by simp)]
      simp
    · show ((T.heap.toList.drop T.heap.size).map _).sum ≤ 0
      rw [List.drop_of_length_le (by simp)]
      simp
/-- the classes that are thrown, by their numbers -/
def xE (k : Nat) : String := match k with
  | 1 => "java/lang/IllegalArgumentException"
  | 2 => "java/lang/UnsupportedOperationException"
  | 3 => "java/lang/IndexOutOfBoundsException"
  | _ => "java/lang/IllegalStateException"
def xEn : List String := ["java/lang/RuntimeException", "java/lang/Exception"]
/-- what a throw needs of the words: the class's link, the text's, the constructor's -/
def xThr (own : String) (ixn ixs ixc : Nat) (X tx : String) : Prop :=
  (Cond.classLink own ixn X ∈ xGT ∧ Cond.instantiable X 6 ∈ xGT ∧ Cond.initialized X ∈ xGT) ∧ Cond.stringRef own ixs tx ∈ lw_tbl ∧ Bundle.fit X = true ∧ (∀ w ∈ Bundle.ownAtoms own ixc X xEn, (w ∈ lw_tbl ∧ w.onTables = true ∧ xWk w = true) ∨ (∃ O f d, w = Cond.laysStatic O f d ∧ w ∈ lw_tbl) ∨ ∃ O f d, w = Cond.isRef (.static O f d) ∧ w ∈ flatC (Jvm.Cond.and given_1 narrow_1))
def xAt (w : Cond) : Bool := match w with
  | .laysStatic O f d => decide (Cond.laysStatic O f d ∈ lw_tbl)
  | .isRef (.static O f d) => decide (Cond.isRef (.static O f d) ∈ flatC (Jvm.Cond.and given_1 narrow_1))
  | w => decide (w ∈ lw_tbl) && (w.onTables && xWk w)
theorem xThr_at {ixc : Nat} {X : String} (h : (Bundle.ownAtoms own ixc X xEn).all xAt = true) : ∀ w ∈ Bundle.ownAtoms own ixc X xEn, (w ∈ lw_tbl ∧ w.onTables = true ∧ xWk w = true) ∨ (∃ O f d, w = Cond.laysStatic O f d ∧ w ∈ lw_tbl) ∨ ∃ O f d, w = Cond.isRef (.static O f d) ∧ w ∈ flatC (Jvm.Cond.and given_1 narrow_1) := by
  intro w hw
  have h1 := List.all_eq_true.mp h w hw
  unfold xAt at h1
  split at h1
  · exact Or.inr (Or.inl ⟨_, _, _, rfl, of_decide_eq_true h1⟩)
  · exact Or.inr (Or.inr ⟨_, _, _, rfl, of_decide_eq_true h1⟩)
  · simp only [Bool.and_eq_true, decide_eq_true_eq] at h1
    exact Or.inl ⟨h1.1, h1.2.1, h1.2.2⟩
theorem xTh.atoms {U : State} {A : Array Value} {ixn ixs ixc : Nat} {X tx : String} (h : xTh g U) (hx : xThr own ixn ixs ixc X tx) : ∀ w ∈ Bundle.ownAtoms own ixc X xEn, w.before A U = true := by
  intro w hw
  rcases hx.2.2.2 w hw with ⟨h1, h2, h3⟩ | ⟨O, f, d, rfl, h1⟩ | ⟨O, f, d, rfl, h1⟩
  · exact h.word h1 h2 h3
  · exact h.laysStatic h1
  · exact h.isRef h1
/-- the text's place -/
theorem xTh.string {U : State} {ixs : Nat} {tx : String} {cur : ClassId} (h : xTh g U) (hw : Cond.stringRef own ixs tx ∈ lw_tbl) (hown : U.vm.findClass own = some cur) : ∃ a, vk_R own ixs tx a U := by
  obtain ⟨u0, a1, a2, a3, a4, a5⟩ := h
  have h0 := a1 _ hw
  have hown0 : u0.vm.findClass own = some cur := by rw [← a3.alike.findClass]; exact hown
  obtain ⟨k, cf, i, a, -, -, -, -, -, h1⟩ := Cond.stringRef_spec hown0 h0
  exact ⟨a, vk_R.warm a3 (vk_R.of (A := #[]) (by
    have := h0
    simp only [Cond.before, Cond.holds, Cond.value] at this ⊢
    exact this) (by rw [Term.string_eval_of_vm (args := #[]) (rfl : u0.vm = u0.vm)]; exact h1))⟩
/-- a method that throws: the world is as it was or as F says, the exception is a new cell -/
def xMX (g : xG) (below : List Frame) (s : State) (S : List xO) (F : xF) (G : xL) (X : String) : State → Prop := fun t =>
  ∃ a, t.status = .running ∧ Ended t below (.threw a) ∧ s.heap.size ≤ a ∧ s.WarmedH t.vm ∧ (∃ L, s.sameButNew ({ t with vm := s.vm } : State) L 1 6 ∧ ∀ q ∈ L, xA g q.base) ∧ va_P g.2.2.2 xCl (xw g F G S) t.heap ∧ va_F (xA g) s t ∧ ∃ ce : Cell, t.heap[a]? = some ce ∧ ce.vm = .none ∧ s.vm.findClass X = some ce.cls
theorem xkept {s1 t : State} {k n : Nat} (h : s1.sameButNew t [] k n) {q : Nat} {cell : Cell} (hq : s1.heap[q]? = some cell) : t.heap[q]? = some cell := by
  obtain ⟨c2, h1, h2, h3, h4⟩ := h.2.2.2.2.2 q cell hq
  rw [h1]
  congr 1
  rw [h2]
  have : c2.slots = cell.slots := by
    apply Array.ext_getElem?
    intro i
    exact h4 i (by simp)
  rw [this]
set_option maxHeartbeats 4000000 in
theorem V.thr (C : Cx p s m args meth c cc nL own g) (hfl : l.flags = flags0) (hne : c.exceptionTable.isEmpty = true) {ixn ixs ixc : Nat} {X tx : String} (hx : xThr own ixn ixs ixc X tx) (hR : 6 ≤ R.frames ∧ (st.map fun v => v.category).sum + 82 ≤ R.locals ∧ 1 ≤ R.cells ∧ 6 ≤ R.slots)
    (d0 : decode cc pc = .ok (.new ixn, 3)) (d1 : decode cc (pc + 3) = .ok (.dup, 1)) (d2 : decode cc (pc + 3 + 1) = .ok (.ldc ixs, 2)) (d3 : decode cc (pc + 3 + 1 + 2) = .ok (.invokespecial ixc, 3)) (d4 : decode cc (pc + 3 + 1 + 2 + 3) = .ok (.athrow, 1)) :
    V p l e R s m args below meth c (xMX g below s S F G X) nL g S F G 0 0 pc lv st := by
  intro H locs ls h1 h2 h3 h4 T hT X1
  have X2 := xrebase X1 (Nat.zero_le _) (Nat.zero_le _)
  generalize hs1 : ({ s with heap := T.heap, slotsUsed := T.slotsUsed } : State) = s1 at X2
  have hvm : s.vm = s1.vm := by rw [← hs1]
  have hheap : s1.heap = T.heap := by rw [← hs1]
  have hth : xTh g s1 := by
    refine C.th.at ?_ (fun q hq => by rw [hheap, hT]; exact h3.low C.hz q hq)
    rw [← hvm]
    exact State.WarmedH.refl s
  have hown1 : s1.vm.findClass own = some m.cls := by rw [← hvm]; exact C.ow
  have hg : ∀ w ∈ xGT, w.onTables = true → w.before args s1 = true := fun w hw ht => va_tabs ht hvm (C.ts w hw)
  obtain ⟨⟨w1, w2, w3⟩, hstr, hfit, -⟩ := id hx
  obtain ⟨qs, hqs⟩ := hth.string (own := own) hstr hown1
  have hat := hth.atoms (A := args) hx
  have hcl := Cond.instantiable_spec (hg _ w2 rfl)
  obtain ⟨cX, kX, hfc, hkX, -⟩ := hcl
  have htr : e.platform.stackTraces = false := by
    rw [X1.admits.platform]
    show l.stackTraces = false
    unfold Launch.stackTraces
    rw [hfl]
    decide +kernel
  have key : W p l e { R with cells := R.cells - 0, slots := R.slots - 0 } s1 m args below meth c T.heap [] 0 0 (fun U => U.status = .running ∧ Ended U below (.threw T.heap.size) ∧ s1.WarmedH U.vm ∧ s1.sameButNew ({ U with vm := s1.vm } : State) [] 1 6 ∧ ∃ ce : Cell, U.heap[T.heap.size]? = some ce ∧ ce.vm = .none ∧ s1.vm.findClass X = some ce.cls) (F0 m pc ls (st.map (xv g))) := by
    refine W.newcK C.x C.b hown1 (hg _ w1 rfl) (hg _ w2 rfl) (hg _ w3 rfl) rfl d0 (by show 0 + 1 ≤ R.cells - 0; omega) (by show 0 + 6 ≤ R.slots - 0; omega) hfc rfl (fun H1 kC hkC e1 z1 o1 => ?_)
    cases hkX.symm.trans hkC
    refine lv_dup C.x C.b d1 rfl ?_
    refine va_ldcS C.x C.b hown1 hqs d2 ?_
    intro W1 hW1 XW
    have hcell : W1.heap[T.heap.size]? = some (freshCell cX kX) := by rw [hW1]; exact e1
    obtain ⟨U, u1, u2, u3, u4, u5, ce, u6, u7⟩ := XW.ctorThrowS C.x htr hown1 hfit (names := xEn) (by decide +kernel) hat (fun _ hq => by cases hq) hfc hkX hcell (by rw [hheap]; exact Nat.le_refl _) (msg := .ref qs) rfl (g := F0 m (pc + 3 + 1 + 2) ls (.ref qs :: .ref T.heap.size :: .ref T.heap.size :: st.map (xv g))) rfl (h4.1.trans C.ml.symm) rfl rfl rfl (by rw [C.b]; exact d3) (by rw [C.b]; exact d4) (fun x hx2 => by
      have : c.exceptionTable.toList = [] := by simpa using hne
      rw [this] at hx2; cases hx2) (by show 2 + 3 < R.frames; omega) (by
      show 2 * 0 + ((Value.ref T.heap.size :: st.map (xv g)).map fun v => v.category).sum + (13 * (2 + 1) + 42) ≤ R.locals
      rw [List.map_cons, List.sum_cons, xcatS]
      show 2 * 0 + (1 + _) + _ ≤ _
      omega) C.lk
    exact ⟨U, u1, u2, u3, u4, u5, ce, u6, u7.vm, u7.cls⟩
  obtain ⟨U, st1, u1, u2, u3, u4, ce, u5, u6, u7⟩ := key T rfl X2
  have hkeep : ∀ (q : Nat) (cell : Cell), T.heap[q]? = some cell → U.heap[q]? = some cell := fun q cell hq => xkept u4 (by rw [hheap]; exact hq)
  refine ⟨U, st1, T.heap.size, u1, u2, by rw [hT]; exact h3.1, ?_, ⟨locs, ?_, h3.2.2⟩, ?_, ?_, ce, u5, u6, by rw [hvm]; exact u7⟩
  · rw [← hs1] at u3
    exact u3
  · have e3 : ∀ Fr : List Frame, (T.setVm s.vm).setFrames Fr = ({ s.setFrames Fr with heap := T.heap, slotsUsed := T.slotsUsed } : State) := fun Fr => by
      have e2 := X1.same.1
      calc (T.setVm s.vm).setFrames Fr = ({ s.setFrames (T.setVm s.vm).frames with heap := T.heap, slotsUsed := T.slotsUsed } : State).setFrames Fr := congrArg (fun z => State.setFrames z Fr) e2
        _ = ({ (s.setFrames (T.setVm s.vm).frames).setFrames Fr with heap := T.heap, slotsUsed := T.slotsUsed } : State) := rfl
        _ = _ := by rw [State.setFrames_setFrames]
    have h5 : (T.setVm s.vm).sameButNew ({ U with vm := s.vm } : State) [] 1 6 := by
      rw [← hs1] at u4
      refine ⟨?_, u4.2.1, u4.2.2.1, u4.2.2.2.1, u4.2.2.2.2.1, u4.2.2.2.2.2⟩
      rw [e3]
      exact u4.1
    have h6 := X1.same.trans h5
    rw [List.append_nil] at h6
    exact h6
  · refine h2.kept (fun k q hq => ?_)
    have hl : q.1 < T.heap.size := by rw [hT]; exact (h2 k q hq).lt
    have hcellq : T.heap[q.1]? = some T.heap[q.1] := Array.getElem?_eq_getElem hl
    rw [hkeep _ _ hcellq, ← hT, hcellq]
  · refine ⟨?_, fun q hq hn => ?_⟩
    · have a1 := h3.1
      have a2 := u4.2.1
      rw [hheap, hT] at a2
      exact Nat.le_trans a1 a2
    · have hl : q < T.heap.size := by rw [hT]; exact Nat.lt_of_lt_of_le hq h3.1
      have hcellq : T.heap[q]? = some T.heap[q] := Array.getElem?_eq_getElem hl
      rw [hkeep _ _ hcellq, ← hcellq, hT]
      exact h3.2.1 q hq hn
/-- y with arguments As, in the world S F G, throws an exception of the class X; the world is S F2 G then -/
def CX (l : Launch) (g : xG) (d lc : Nat) (y : MethodName) (cc : ByteArray) (maxL : Nat) (ret : Option FieldType) (As : List Value) (S : List xO) (F : xF) (G : xL) (k : Nat) (F2 : xF) : Prop :=
  MetFree l y (headSpec (xWs y cc maxL ret) (xRm d lc 1 6)) (xPc g S F G 1 As) (fun _ _ _ _ _ => True) (fun _ st o t => ∃ a, o = .threw a ∧ st.heap.size ≤ a ∧ st.WarmedH t.vm ∧ (∃ L, st.sameButNew ({ t with vm := st.vm } : State) L 1 6 ∧ ∀ q ∈ L, xA g q.base) ∧ va_P g.2.2.2 xCl (xw g F2 G S) t.heap ∧ va_F (xA g) st t ∧ ∃ ce : Cell, t.heap[a]? = some ce ∧ ce.vm = .none ∧ st.vm.findClass (xE k) = some ce.cls)
theorem CX.of {d lc : Nat} {y : MethodName} {maxL : Nat} {ret : Option FieldType} {As : List Value} {F2 : xF} {k : Nat} (lv0 : List (Option Value)) (hy : plainName y.cls = true) (hlen : (lg_sl (As.map (xv g))).length ≤ maxL) (hlv : xal g 0 lv0 = lv_args 0 (As.map (xv g)))
    (body : ∀ (p : Program) (e : Env) (s : State) (m : MethodId) (args : Array Value) (below : List Frame) (meth : Method) (c : Code), Cx p s m args meth c cc maxL y.cls g → meth.sig.returnType = ret → meth.name = y.name → c.exceptionTable.isEmpty = true →
      V p l e (xRm d lc 1 6) s m args below meth c (xMX g below s S F2 G (xE k)) maxL g S F G 0 0 0 lv0 []) : CX l g d lc y cc maxL ret As S F G k F2 := by
  refine MetFree.of_bodyS (code := cc) (maxLocals := maxL) (ret := ret) hy ?_ ?_
  · intro args s m h hn
    obtain ⟨meth, c, h1, h2, h3, h4, h5, h6, -, -⟩ := Cond.code_spec hn (atoms_spec (ws := xWs y cc maxL ret) h _ List.mem_cons_self)
    exact ⟨meth, c, h1, h2, h3, h4, h5, h6⟩
  · intro p e s m args below meth c s₁ B hml hv _
    obtain ⟨rfl, hx, hz, hP, hl0, hK⟩ := hv
    have hws := atoms_spec (ws := xWs y cc maxL ret) B.pre
    have hts : ∀ w ∈ xGT, w.before _ s = true := fun w hw => hws w (List.mem_cons_of_mem _ hw)
    have C : Cx p s m ((As.map (xv g)).toArray) meth c cc maxL y.cls g := ⟨B.exec, B.bytes, hml, findClass_of_methodNamed B.named, hts, hK, B.notSynchronized, hz⟩
    have hl := lv_entry (As.map (xv g)) (n := maxL) hlen
    have hh0 : s₁.heap = s.heap := by rw [B.state]; rfl
    have hne := B.noHandlers (hws _ List.mem_cons_self)
    have key : W p l e (xRm d lc 1 6) s m ((As.map (xv g)).toArray) below meth c s.heap [] 0 0 (xMX g below s S F2 G (xE k)) (entryFrame m (As.map (xv g)).toArray maxL) := by
      rw [lg_entry_eq]
      exact body p e s m _ below meth c C B.returns (name_of_methodNamed B.named B.method).1 hne s.heap [] _ hl0 hP va_S.rf (by unfold xl; rw [hlv]; exact hl)
    obtain ⟨t, a1, a, b1, b2, b0, b3, b4, b5, b6, b7⟩ := key s₁ hh0 (Stand.of_body B)
    exact ⟨t, .threw a, a1, b1, b2, a, rfl, b0, b3, b4, b5, b6, b7⟩
end XE
end
section
theorem xat_PF_73 : (Bundle.ownAtoms "PaletteFrames" 73 "java/lang/UnsupportedOperationException" xEn).all xAt = true := by decide +kernel
theorem xat_PF_62 : (Bundle.ownAtoms "PaletteFrames" 62 "java/lang/IllegalArgumentException" xEn).all xAt = true := by decide +kernel
theorem xat_PF_97 : (Bundle.ownAtoms "PaletteFrames" 97 "java/lang/IndexOutOfBoundsException" xEn).all xAt = true := by decide +kernel
theorem xat_PF_154 : (Bundle.ownAtoms "PaletteFrames" 154 "java/lang/IllegalStateException" xEn).all xAt = true := by decide +kernel
theorem xw_PF_107_157 : xThr "PaletteFrames" 69 157 73 "java/lang/UnsupportedOperationException" "there are 12 frames" := ⟨⟨gw_540, gw_541, gw_46⟩, List.mem_of_getElem? (i := 645) (by decide +kernel), by decide +kernel, xThr_at xat_PF_73⟩
theorem xw_PF_11_120 : xThr "PaletteFrames" 58 120 62 "java/lang/IllegalArgumentException" "the byte is not 0 .. 255" := ⟨⟨gw_470, gw_471, gw_45⟩, List.mem_of_getElem? (i := 596) (by decide +kernel), by decide +kernel, xThr_at xat_PF_62⟩
theorem xw_PF_11_181 : xThr "PaletteFrames" 93 181 97 "java/lang/IndexOutOfBoundsException" "no such frame" := ⟨⟨gw_573, gw_574, gw_47⟩, List.mem_of_getElem? (i := 694) (by decide +kernel), by decide +kernel, xThr_at xat_PF_97⟩
theorem xw_PF_12_60 : xThr "PaletteFrames" 58 60 62 "java/lang/IllegalArgumentException" "n is not 1 .. 1000" := ⟨⟨gw_470, gw_471, gw_45⟩, List.mem_of_getElem? (i := 512) (by decide +kernel), by decide +kernel, xThr_at xat_PF_62⟩
theorem xw_PF_14_138 : xThr "PaletteFrames" 93 138 97 "java/lang/IndexOutOfBoundsException" "no such symbol" := ⟨⟨gw_573, gw_574, gw_47⟩, List.mem_of_getElem? (i := 614) (by decide +kernel), by decide +kernel, xThr_at xat_PF_97⟩
theorem xw_PF_14_95 : xThr "PaletteFrames" 93 95 97 "java/lang/IndexOutOfBoundsException" "no such byte" := ⟨⟨gw_573, gw_574, gw_47⟩, List.mem_of_getElem? (i := 582) (by decide +kernel), by decide +kernel, xThr_at xat_PF_97⟩
theorem xw_PF_16_181 : xThr "PaletteFrames" 93 181 97 "java/lang/IndexOutOfBoundsException" "no such frame" := ⟨⟨gw_573, gw_574, gw_47⟩, List.mem_of_getElem? (i := 694) (by decide +kernel), by decide +kernel, xThr_at xat_PF_97⟩
theorem xw_PF_17_144 : xThr "PaletteFrames" 58 144 62 "java/lang/IllegalArgumentException" "the frame is not on the screen" := ⟨⟨gw_470, gw_471, gw_45⟩, List.mem_of_getElem? (i := 626) (by decide +kernel), by decide +kernel, xThr_at xat_PF_62⟩
theorem xw_PF_28_124 : xThr "PaletteFrames" 58 124 62 "java/lang/IllegalArgumentException" "n is below 0" := ⟨⟨gw_470, gw_471, gw_45⟩, List.mem_of_getElem? (i := 605) (by decide +kernel), by decide +kernel, xThr_at xat_PF_62⟩
theorem xw_PF_32_122 : xThr "PaletteFrames" 69 122 73 "java/lang/UnsupportedOperationException" "24000 bytes wait" := ⟨⟨gw_540, gw_541, gw_46⟩, List.mem_of_getElem? (i := 597) (by decide +kernel), by decide +kernel, xThr_at xat_PF_73⟩
theorem xw_PF_33_71 : xThr "PaletteFrames" 69 71 73 "java/lang/UnsupportedOperationException" "more than 12000 symbols" := ⟨⟨gw_540, gw_541, gw_46⟩, List.mem_of_getElem? (i := 549) (by decide +kernel), by decide +kernel, xThr_at xat_PF_73⟩
theorem xw_PF_34_138 : xThr "PaletteFrames" 93 138 97 "java/lang/IndexOutOfBoundsException" "no such symbol" := ⟨⟨gw_573, gw_574, gw_47⟩, List.mem_of_getElem? (i := 614) (by decide +kernel), by decide +kernel, xThr_at xat_PF_97⟩
theorem xw_PF_38_146 : xThr "PaletteFrames" 58 146 62 "java/lang/IllegalArgumentException" "the end is not 0 .. 3" := ⟨⟨gw_470, gw_471, gw_45⟩, List.mem_of_getElem? (i := 627) (by decide +kernel), by decide +kernel, xThr_at xat_PF_62⟩
theorem xw_PF_41_206 : xThr "PaletteFrames" 93 206 97 "java/lang/IndexOutOfBoundsException" "no such place on the screen" := ⟨⟨gw_573, gw_574, gw_47⟩, List.mem_of_getElem? (i := 723) (by decide +kernel), by decide +kernel, xThr_at xat_PF_97⟩
theorem xw_PF_4_228 : xThr "PaletteFrames" 58 228 62 "java/lang/IllegalArgumentException" "the row is below 0" := ⟨⟨gw_470, gw_471, gw_45⟩, List.mem_of_getElem? (i := 776) (by decide +kernel), by decide +kernel, xThr_at xat_PF_62⟩
theorem xw_PF_55_187 : xThr "PaletteFrames" 58 187 62 "java/lang/IllegalArgumentException" "no such colour" := ⟨⟨gw_470, gw_471, gw_45⟩, List.mem_of_getElem? (i := 700) (by decide +kernel), by decide +kernel, xThr_at xat_PF_62⟩
theorem xw_PF_58_218 : xThr "PaletteFrames" 93 218 97 "java/lang/IndexOutOfBoundsException" "no such place of the frame" := ⟨⟨gw_573, gw_574, gw_47⟩, List.mem_of_getElem? (i := 755) (by decide +kernel), by decide +kernel, xThr_at xat_PF_97⟩
theorem xw_PF_61_148 : xThr "PaletteFrames" 58 148 62 "java/lang/IllegalArgumentException" "the delay is not 0 .. 1000" := ⟨⟨gw_470, gw_471, gw_45⟩, List.mem_of_getElem? (i := 628) (by decide +kernel), by decide +kernel, xThr_at xat_PF_62⟩
theorem xw_PF_66_126 : xThr "PaletteFrames" 69 126 73 "java/lang/UnsupportedOperationException" "more than 24000 bytes would wait" := ⟨⟨gw_540, gw_541, gw_46⟩, List.mem_of_getElem? (i := 606) (by decide +kernel), by decide +kernel, xThr_at xat_PF_73⟩
theorem xw_PF_85_152 : xThr "PaletteFrames" 150 152 154 "java/lang/IllegalStateException" "the row has too few symbols" := ⟨⟨gw_629, gw_630, gw_48⟩, List.mem_of_getElem? (i := 638) (by decide +kernel), by decide +kernel, xThr_at xat_PF_154⟩
theorem xw_PF_8_223 : xThr "PaletteFrames" 58 223 62 "java/lang/IllegalArgumentException" "the time or the times are below 0" := ⟨⟨gw_470, gw_471, gw_45⟩, List.mem_of_getElem? (i := 764) (by decide +kernel), by decide +kernel, xThr_at xat_PF_62⟩
theorem xw_PF_9_80 : xThr "PaletteFrames" 58 80 62 "java/lang/IllegalArgumentException" "the rule is not 0 .. 2" := ⟨⟨gw_470, gw_471, gw_45⟩, List.mem_of_getElem? (i := 563) (by decide +kernel), by decide +kernel, xThr_at xat_PF_62⟩
end
section
/-! a call that throws, caught by a row of the caller's own table -/
section XCA
theorem xgo_row {Q : Handler → Pre} {E : CtlPost} {e : Env} {d : Bool} {acts : List Action} {s : State} {f : JFrame} {a : Addr} {y : ExceptionTableEntry} {t : List ExceptionTableEntry} {cT : ClassId} {cell : Cell} (hy : covers y f.pc = true) (h0 : y.catchType ≠ 0)
    (hl : s.vm.ClassLinks e.platform f.method.cls y.catchType cT) (hcell : s.heap[a]? = some cell) (hobj : ∀ k, cell.vm ≠ .statics k) (hk : ∃ k, s.vm.classes[cell.cls]? = some k) (hc : ∃ k, s.vm.classes[cT]? = some k) :
    (s.vm.assignable cell.cls cT = true → (wp (findHandler.go f a (y :: t)) Q E e d acts s ↔ Q (.found y.handlerPc) d acts (s.setVm (s.vm.noted f.method.cls y.catchType (.cls cT))))) ∧
    (s.vm.assignable cell.cls cT = false → (wp (findHandler.go f a (y :: t)) Q E e d acts s ↔ wp (findHandler.go f a t) Q E e d acts (s.setVm (s.vm.noted f.method.cls y.catchType (.cls cT))))) := by
  simp only [covers] at hy
  obtain ⟨w1, w2⟩ := (resolveClass_links e.toSetting hl).op (op := VmOp.resolveClass f.method.cls y.catchType) rfl
  have hal : s.vm.Alike (s.vm.noted f.method.cls y.catchType (.cls cT)) := (Vm.Alike.refl s.vm).noted _ _ _
  obtain ⟨k1, hk1⟩ := hk
  obtain ⟨k2, hk2⟩ := hc
  obtain ⟨k3, hk3, -⟩ := hal.2.2 _ _ hk1
  obtain ⟨k4, hk4, -⟩ := hal.2.2 _ _ hk2
  refine ⟨fun h => ?_, fun h => ?_⟩
  · have h2 : (s.vm.noted f.method.cls y.catchType (.cls cT)).assignable cell.cls cT = true := by rw [hal.assignable]; exact h
    simp [findHandler.go, hy, h0, w1, w2, hcell, hobj, hk3, hk4, h2, VmOp.dirties, VmOp.acts]
  · have h2 : (s.vm.noted f.method.cls y.catchType (.cls cT)).assignable cell.cls cT = false := by rw [hal.assignable]; exact h
    simp [findHandler.go, hy, h0, w1, w2, hcell, hobj, hk3, hk4, h2, VmOp.dirties, VmOp.acts]
/-- a row of the table, and whether it takes the class -/
def xRow (pl : Platform) (s0 : State) (own tc : ClassId) (pc : Nat) (b : Bool) (y : ExceptionTableEntry) : Prop := covers y pc = true ∧ y.catchType ≠ 0 ∧ ∃ cT, s0.vm.ClassLinks pl own y.catchType cT ∧ s0.vm.assignable tc cT = b
theorem xgo {e : Env} {s0 : State} {f : JFrame} {a : Addr} {cell : Cell} (hobj : ∀ k, cell.vm ≠ .statics k) (hk0 : ∃ k, s0.vm.classes[cell.cls]? = some k) {y : ExceptionTableEntry} {rest : List ExceptionTableEntry} (hy : xRow e.platform s0 f.method.cls cell.cls f.pc true y) :
    ∀ (pre : List ExceptionTableEntry) (U : State), s0.WarmedH U.vm → U.heap[a]? = some cell → (∀ z ∈ pre, xRow e.platform s0 f.method.cls cell.cls f.pc false z) →
      ∃ vm2, s0.WarmedH vm2 ∧ ∀ (Q : Handler → Pre) (E : CtlPost) (d : Bool) (acts : List Action), wp (findHandler.go f a (pre ++ y :: rest)) Q E e d acts U ↔ Q (.found y.handlerPc) d acts (U.setVm vm2) := by
  obtain ⟨k0, hk0⟩ := hk0
  intro pre
  induction pre with
  | nil =>
    intro U hW hcell _
    obtain ⟨k1, hk1, -⟩ := hW.alike.2.2 _ _ hk0
    obtain ⟨h1, h2, cT, hl, hfit⟩ := hy
    obtain ⟨dk, _, _, kt, hd, _, _, _, _, hkt, _, hopen⟩ := hl.here
    obtain ⟨k2, hk2, -⟩ := hW.alike.2.2 _ _ hkt
    refine ⟨_, hW.noted hd hopen (State.rightAt_cls hl), fun Q E d acts => ?_⟩
    exact (xgo_row h1 h2 (hW.classLinks hl) hcell hobj ⟨k1, hk1⟩ ⟨k2, hk2⟩).1 (by rw [hW.alike.assignable]; exact hfit)
  | cons z zs ih =>
    intro U hW hcell hz
    obtain ⟨k1, hk1, -⟩ := hW.alike.2.2 _ _ hk0
    obtain ⟨h1, h2, cT, hl, hfit⟩ := hz z List.mem_cons_self
    obtain ⟨dk, _, _, kt, hd, _, _, _, _, hkt, _, hopen⟩ := hl.here
    obtain ⟨k2, hk2, -⟩ := hW.alike.2.2 _ _ hkt
    have hW2 := hW.noted hd hopen (State.rightAt_cls hl)
    obtain ⟨vm2, hW3, h3⟩ := ih (U.setVm (U.vm.noted f.method.cls z.catchType (.cls cT))) hW2 hcell (fun q hq => hz q (List.mem_cons_of_mem _ hq))
    refine ⟨vm2, hW3, fun Q E d acts => ?_⟩
    rw [List.cons_append, (xgo_row h1 h2 (hW.classLinks hl) hcell hobj ⟨k1, hk1⟩ ⟨k2, hk2⟩).2 (by rw [hW.alike.assignable]; exact hfit)]
    exact h3 Q E d acts
theorem xcaught {tb : Tables} {e : Env} {s target : State} {gf : JFrame} {c : Code} {below : List Frame} {a : Addr} (h : At s gf.method c below) {pc : Nat} {vm2 : Vm}
    (hfind : ∀ (Q : Handler → Pre) (E : CtlPost) (d : Bool) (acts : List Action), wp (findHandler gf a) Q E e d acts ((s.setTop gf).pushFrame (.throwing a)) ↔ Q (.found pc) d acts (((s.setTop gf).pushFrame (.throwing a)).setVm vm2))
    (hrest : Steps tb e below ((s.setVm vm2).setTop { gf with pc := pc, stack := [.ref a] }) target) : Steps tb e below ((s.setTop gf).pushFrame (.throwing a)) target := by
  obtain ⟨hgo, hw⟩ := h.throwing a
  refine Steps.head hgo hw ?_
  rw [stepThread_throwing (frames_entered h.top _)]
  have key : (stepThrowing e ((s.setTop gf).pushFrame (.throwing a)) a (.java gf :: s.frames.tail)).Is ((((s.setTop gf).pushFrame (.throwing a)).setVm vm2).setFrames (.java { gf with pc := pc, stack := [.ref a] } :: s.frames.tail)) [] := by
    simp only [stepThrowing, searchFrame, vmDo]
    generalize hr : Sem.go _ e false [] ((s.setTop gf).pushFrame (.throwing a)) = res
    obtain ⟨as, rfl, ha⟩ := Sem.eq_ok_of hr (a := Handler.found pc) (s' := ((s.setTop gf).pushFrame (.throwing a)).setVm vm2) (acts' := []) (by simp [hfind _ _ _ _])
    exact ⟨rfl, ha⟩
  rw [key.1]
  obtain ⟨g₀, hg⟩ := Option.isSome_iff_exists.mp h.top
  obtain ⟨r, hr⟩ := State.topJava?_eq_some.mp hg
  have hr2 : (s.setVm vm2).frames = .java g₀ :: r := hr
  rw [State.setTop_of_frames _ hr2] at hrest
  have e1 : (((s.setTop gf).pushFrame (.throwing a)).setVm vm2).setFrames (.java { gf with pc := pc, stack := [.ref a] } :: s.frames.tail) = (s.setVm vm2).setFrames (.java { gf with pc := pc, stack := [.ref a] } :: r) := by
    rw [State.pushFrame, State.setTop_of_frames _ hr, hr]
    show (((s.setFrames _).setFrames _).setVm vm2).setFrames _ = _
    rw [State.setFrames_setFrames]
    show ((s.setVm vm2).setFrames _).setFrames _ = _
    rw [State.setFrames_setFrames]
    rfl
  rw [e1]
  exact hrest
end XCA
section XCB
variable {p : Program} {l : Launch} {e : Env} {R : Room} {s : State} {m : MethodId} {args : Array Value} {below : List Frame} {meth : Method} {c : Code} {Q : State → Prop}
variable {cc : ByteArray} {nL : Nat} {own : String} {g : xG} {S : List xO} {F : xF} {G : xL} {cells slots pc : Nat} {lv : List (Option Value)} {st : List Value}
/-- the caller's table: rows as the word has them; the rows ahead don't take the class, the last one does -/
def xCat (own X : String) (hh : List (Nat × Nat × Nat × Nat)) (pc hp : Nat) : Prop :=
  ∃ (pre : List (Nat × Nat × Nat × Nat)) (z : Nat × Nat × Nat × Nat) (rest : List (Nat × Nat × Nat × Nat)), hh = pre ++ z :: rest ∧ z.2.2.1 = hp ∧
    (z.1 ≤ pc ∧ pc < z.2.1) ∧ z.2.2.2 ≠ 0 ∧ (∃ nm, Cond.classLink own z.2.2.2 nm ∈ xGT ∧ Cond.castable X nm ∈ lw_tbl) ∧
    ∀ q ∈ pre, (q.1 ≤ pc ∧ pc < q.2.1) ∧ q.2.2.2 ≠ 0 ∧ ∃ nm, Cond.classLink own q.2.2.2 nm ∈ xGT ∧ Cond.not (.castable X nm) ∈ flatC (Jvm.Cond.and given_1 narrow_1)
theorem xTh.notCast {U : State} {A : Array Value} {X Y : String} (h : xTh g U) (hw : Cond.not (.castable X Y) ∈ flatC (Jvm.Cond.and given_1 narrow_1)) : (Cond.not (.castable X Y)).before A U = true := by
  obtain ⟨u0, a1, a2, a3, a4, a5⟩ := h
  have h0 := flat_of_before _ a2 _ hw
  have h1 := Cond.castAtom_setVm a3.alike (Cond.not (.castable X Y)) rfl h0
  simp only [Cond.before, Cond.holds, Cond.value] at h1 ⊢
  exact h1
set_option maxHeartbeats 4000000 in
/-- an instance method throws, and a row of the caller's table takes it -/
theorem V.cX (C : Cx p s m args meth c cc nL own g) {hh : List (Nat × Nat × Nat × Nat)} (htab : c.exceptionTable.toList.map (fun h => (h.startPc, h.endPc, h.handlerPc, h.catchType)) = hh) {d lc idx maxL n ci a k hp : Nat} {y : MethodName} {bytes : ByteArray} {ret : Option FieldType} {As rest : List Value} {F2 : xF} {fs : List (Option Value)}
    (hM : CX l g d lc y bytes maxL ret (.ref a :: As) S F G k F2) (hm : xCv own idx y bytes maxL ret n ci) (hcat9 : xCat own (xE k) hh pc hp) (hinst : Cond.initialized (xE k) ∈ xGT) (hS : S[a]? = some (.inr (.inr (ci, fs)))) (hn : As.length = n) (hst : st = As.reverse ++ .ref a :: rest)
    (hR : d + 1 ≤ R.frames ∧ 8 + (maxL + 11) + lc ≤ R.locals ∧ cells + 1 ≤ R.cells ∧ slots + 6 ≤ R.slots) (hcat : (rest.map fun v => v.category).sum ≤ 8) (hd : decode cc pc = .ok (.invokevirtual idx, 3))
    (kk : ∀ j, V p l e R s m args below meth c Q nL g S F2 G (cells + 1) (slots + 6) hp lv [.ref j]) : V p l e R s m args below meth c Q nL g S F G cells slots pc lv st := by
  intro H locs ls h1 h2 h3 h4 T hT X
  obtain ⟨⟨hlink, hcode, hini, hy⟩, ⟨hv1, hv2⟩, Tt, Nn, hc⟩ := hm
  have hlink : Cond.methodLink own idx y ∈ xGT := by
    rcases hlink with h | ⟨host, h⟩
    · exact h
    · cases h
  obtain ⟨cellB, hcB, hoB, hclB⟩ := va_recv (q := (y.cls, Tt, Nn)) C.k h2 hc (xw_some hS)
  obtain ⟨mk, methM, hnamed, hmethM, hstM, habM⟩ := Cond.instanceMethod_spec (C.ts _ hv1)
  obtain ⟨methM', cM, hmethM', hcM, -, hlM, -, -, -, hsigM⟩ := Cond.code_spec hnamed (C.ts _ hcode)
  cases hmethM.symm.trans hmethM'
  obtain ⟨c2, r2, m2, q1, q2, q3, q4, kP, hkP, hkPi⟩ := Cond.selects_spec (C.ts _ hv2)
  cases hclB.symm.trans q1
  cases (State.methodFound?_of_named hnamed ⟨hy.1, hy.2.1⟩).symm.trans q2
  cases hnamed.symm.trans q3
  have hselP : selectMethod e.platform s.vm cellB.cls mk = .method mk := by rw [Launch.admits_selectMethod X.admits]; exact q4
  have hlen : (As.map (xv g)).length = methM.sig.parameters.length := by
    have h9 := hy.2.2
    rw [hsigM] at h9
    rw [List.length_map, hn]
    exact (Option.some.inj h9).symm
  have hst2 : (F0 m pc ls (st.map (xv g))).stack = (As.map (xv g)).reverse ++ .ref (g.1 + a) :: rest.map (xv g) := by
    rw [hst]; simp [xv]
  obtain ⟨vm₁, X₁, hstep₁⟩ := X.invokevirtual C.x C.ow (C.ts _ hlink) hnamed hmethM hstM hkP hkPi ⟨hy.1, hy.2.1⟩ (a := g.1 + a) (cell := cellB) (by rw [hT]; exact hcB)
    (fun z h => by rw [h] at hoB; cases hoB) hselP hmethM habM hkP hkPi (g := F0 m pc ls (st.map (xv g))) rfl (argsL := As.map (xv g)) (rest := rest.map (xv g)) hlen hst2 (by rw [C.b]; exact hd)
  -- the callee
  generalize hgr : (F0 m pc ls (rest.map (xv g)) : JFrame) = gr
  have hgr1 : gr.method = m := by rw [← hgr]
  have hgr2 : gr.pc = pc := by rw [← hgr]
  have hws : ∀ w ∈ xWs y bytes maxL ret, ∀ (a' : Array Value) (U : State), s.WarmedH U.vm → w.before a' U = true := pay_in C.ts (xGood hcode)
  have hn1 : (T.setVm vm₁).methodNamed? y = some mk := X₁.named hnamed
  obtain ⟨kY, hkY, -⟩ := className_of_methodNamed hn1
  have hinitY : kY.init = .initialized := Cond.initialized_spec (findClass_of_methodNamed hn1) hkY (word_at (a' := args) (U := T.setVm vm₁) X₁.warmed (Or.inl (by first | rfl | simp [Cond.onTables, Cond.keeps, Cond.steady])) (C.ts _ hini))
  have hAt : At (T.setVm vm₁) gr.method c below := by rw [hgr1]; exact X₁.here
  have hmY : (T.setVm vm₁).vm.method? mk = some methM := by
    have := X₁.warmed.alike.method? mk
    rw [this]; exact hmethM
  have happ : (headSpec (xWs y bytes maxL ret) (xRm d lc 1 6)).appliesLoose y e.platform ((T.setVm vm₁).calling gr mk ((Value.ref a :: As).map (xv g)).toArray) = true :=
    Spec.appliesLoose_calling (g := gr) hAt (by rw [hgr2, C.b]; exact hd) hn1 hkY hinitY
      (X₁.room_calling (g := gr) (R' := xRm d lc 1 6) (by rw [← hgr]; exact h4.1.trans C.ml.symm) hmY hcM hR.1 (by
        rw [hlM, ← hgr]
        show 2 * 0 + ((rest.map (xv g)).map fun v => v.category).sum + (maxL + 11) + lc ≤ R.locals
        rw [xcatS]
        have := hR.2.1
        omega) hR.2.2.1 hR.2.2.2) (atoms_intro fun w hw => hws w hw _ _ X₁.warmed)
  have hle : H.size ≤ s.heap.size + cells := by rw [← hT]; exact X.heapSize
  have hpc0 := xPc_at (x := 1) (As := .ref a :: As) C h1 h2 h3 (fun q => absurd q (by decide)) hle (T.setVm vm₁) hT X₁.warmed
  have hpc := xPc_blind _ _ gr mk hpc0
  obtain ⟨mid, hmid⟩ := hAt.above
  have hfr : ((T.setVm vm₁).setTop gr).frames = (.java gr :: mid) ++ below := by rw [State.frames_setTop' gr hAt.top, hmid]; rfl
  obtain ⟨o, s₂, hsteps, -, hend, a9, rfl, hsz9, hW₂, ⟨L, hsame, hL⟩, hP₂, hF₂, ce, hce, hvm9, hcls9⟩ := Steps.callFree hM p X.admits X.cas X.clock (acts := []) hfr happ hpc trivial
  have hend2 : s₂.frames = .throwing a9 :: .java gr :: (T.setVm vm₁).frames.tail := by
    have h9 : s₂.frames = .throwing a9 :: ((T.setVm vm₁).setTop gr).frames := hend
    rw [h9, State.frames_setTop' gr hAt.top]
  have hsz9 : T.heap.size ≤ a9 := hsz9
  have hW9 : (T.setVm vm₁).WarmedH s₂.vm := hW₂
  have hcls9 : vm₁.findClass (xE k) = some ce.cls := hcls9
  have hF9 : T.heap.size ≤ s₂.heap.size ∧ ∀ q : Nat, q < T.heap.size → ¬ xA g q → s₂.heap[q]? = T.heap[q]? := hF₂
  have hsame : ((T.setVm vm₁).calling gr mk ((Value.ref a :: As).map (xv g)).toArray).sameButNew ({ s₂ with vm := ((T.setVm vm₁).calling gr mk ((Value.ref a :: As).map (xv g)).toArray).vm } : State) L 1 6 := hsame
  obtain ⟨e2, w2, w3, w4, w5, w6⟩ := id hsame
  have e3 : s₂ = ({ ((T.setVm vm₁).calling gr mk ((Value.ref a :: As).map (xv g)).toArray).setFrames s₂.frames with heap := s₂.heap, slotsUsed := s₂.slotsUsed } : State).setVm s₂.vm := by
    have h9 : s₂ = ({ s₂ with vm := ((T.setVm vm₁).calling gr mk ((Value.ref a :: As).map (xv g)).toArray).vm } : State).setVm s₂.vm := rfl
    rw [e2] at h9
    exact h9
  obtain ⟨g₀, hg0⟩ := Option.isSome_iff_exists.mp hAt.top
  obtain ⟨r, hr⟩ := State.topJava?_eq_some.mp hg0
  generalize hT2 : ({ (T.setVm vm₁) with heap := s₂.heap, slotsUsed := s₂.slotsUsed } : State).setVm s₂.vm = T2
  have hr2 : T2.frames = .java g₀ :: r := by rw [← hT2]; exact hr
  have hs₂ : s₂ = (T2.setTop gr).pushFrame (.throwing a9) := by
    refine e3.trans ?_
    rw [hend2, State.calling_eq hAt.top, State.setFrames_setFrames, State.pushFrame, State.frames_setTop _ hr2, State.setTop_of_frames _ hr2, State.setFrames_setFrames, hr, ← hT2]
    rfl
  have hsame2 : (T.setVm vm₁).sameButNew ({ (T.setVm vm₁) with heap := s₂.heap, slotsUsed := s₂.slotsUsed } : State) L 1 6 := by
    refine ⟨?_, w2, w3, w4, w5, w6⟩
    obtain ⟨t9, ht9, -⟩ := State.frames_cons hr
    show ({ (T.setVm vm₁) with heap := s₂.heap, slotsUsed := s₂.slotsUsed } : State) = { (T.setVm vm₁).setFrames (T.setVm vm₁).frames with heap := s₂.heap, slotsUsed := s₂.slotsUsed }
    rw [State.setFrames_self ht9]
  have X2 : Stand p l e R s m args below meth c T2 (locs ++ L) (cells + 1) (slots + 6) := by
    rw [← hT2]
    exact ⟨X₁.admits, X₁.cas, X₁.clock, X₁.frames, X₁.room, X₁.hears, X₁.method, X₁.code, (X₁.here.setHeapUsed s₂.heap s₂.slotsUsed).setVm hW9.alike, X₁.tail, State.WarmedH.trans X₁.warmed hW9, X₁.limits, X₁.bytes, X₁.same.trans (hsame2.setVm s.vm)⟩
  have hh2 : T2.heap = s₂.heap := by rw [← hT2]; rfl
  have hcX : s.vm.findClass (xE k) = some ce.cls := by rw [← X₁.warmed.alike.findClass]; exact hcls9
  have hpl : e.platform.magicAccessors = ({} : Platform).magicAccessors := by rw [X.admits.platform]
  -- the rows
  obtain ⟨pre, z, rst, hsp, hz1, hz2, hz3, ⟨nm, hnm1, hnm2⟩, hpre9⟩ := hcat9
  rw [hsp] at htab
  obtain ⟨preE, l2, hE1, hE2, hE3⟩ := List.map_eq_append_iff.mp htab
  obtain ⟨zE, rstE, hE4, hE5, hE6⟩ := List.map_eq_cons_iff.mp hE3
  have hcov : ∀ y9 : ExceptionTableEntry, y9.startPc ≤ pc ∧ pc < y9.endPc → covers y9 pc = true := fun y9 h9 => by simp [covers, h9.1, h9.2]
  have hzrow : xRow e.platform s gr.method.cls ce.cls gr.pc true zE := by
    rw [hgr1, hgr2]
    rw [← hE5] at hz2 hz3 hnm1
    obtain ⟨cT, hcT, hclk⟩ := Cond.classLink_spec C.ow (C.ts _ hnm1) e.platform hpl
    obtain ⟨c5, t5, v1, v2, v3⟩ := Cond.castable_spec (C.th.word (A := args) hnm2 rfl rfl)
    cases hcX.symm.trans v1
    cases hcT.symm.trans v2
    exact ⟨hcov zE hz2, hz3, cT, hclk, v3⟩
  have hprow : ∀ q ∈ preE, xRow e.platform s gr.method.cls ce.cls gr.pc false q := by
    intro q hq
    rw [hgr1, hgr2]
    have hq2 : (q.startPc, q.endPc, q.handlerPc, q.catchType) ∈ pre := by rw [← hE2]; exact List.mem_map_of_mem hq
    obtain ⟨b1, b2, nm9, b3, b4⟩ := hpre9 _ hq2
    obtain ⟨cT, hcT, hclk⟩ := Cond.classLink_spec C.ow (C.ts _ b3) e.platform hpl
    have hno := Cond.holds_not_iff.mp (C.th.notCast (A := args) b4)
    simp only [Cond.value, hcX, hcT] at hno
    exact ⟨hcov q b1, b2, cT, hclk, Option.some.inj hno⟩
  have hobj : ∀ k9, ce.vm ≠ .statics k9 := fun k9 h9 => by rw [hvm9] at h9; cases h9
  obtain ⟨vm2, hW2, hfind⟩ := xgo (e := e) (s0 := s) (f := gr) (a := a9) hobj (Vm.classAt_of_findClass hcX) (y := zE) (rest := rstE) hzrow preE ((T2.setTop gr).pushFrame (.throwing a9)) X2.warmed (by
    show T2.heap[a9]? = some ce
    rw [hh2]; exact hce) hprow
  have hle9 : g.1 ≤ a9 := by
    have h7 := C.hz
    have h6 := h3.1
    rw [← hT] at h6
    omega
  have hS2 : va_S (xA g) s.heap s₂.heap (locs ++ L) := by
    rw [hT] at hF9
    refine ⟨Nat.le_trans h3.1 hF9.1, fun q z1 z2 => by rw [hF9.2 q (Nat.lt_of_lt_of_le z1 h3.1) z2]; exact h3.2.1 q z1 z2, fun q hq => ?_⟩
    rcases List.mem_append.mp hq with z | z
    · exact h3.2.2 q z
    · exact hL q z
  obtain ⟨t, a1, b1⟩ := kk (a9 - g.1) s₂.heap (locs ++ L) ls h1 hP₂ hS2 h4 (T2.setVm vm2) hh2 (X2.noted hW2)
  refine ⟨t, hstep₁ _ fun acts => ?_, b1⟩
  rw [doInvoke_state]
  have hgr9 : ({ F0 m pc ls (st.map (xv g)) with stack := rest.map (xv g) } : JFrame) = gr := hgr
  rw [hgr9]
  refine Steps.trans hsteps ?_
  rw [hs₂]
  have hAt2 : At T2 gr.method c below := by rw [hgr1]; exact X2.here
  refine xcaught (pc := zE.handlerPc) (vm2 := vm2) hAt2 (fun Q9 E9 d9 acts9 => ?_) ?_
  · rw [W.findHandler_eq (meth := meth) (code := c) (by rw [hgr1]; exact X2.method') X.code, hE1, hE4]
    exact hfind Q9 E9 d9 acts9
  · have hpcE : zE.handlerPc = hp := by rw [← hz1, ← hE5]
    rw [hpcE, ← hgr]
    have e9 : ([Value.ref (a9 - g.1)]).map (xv g) = [Value.ref a9] := by
      show [Value.ref (g.1 + (a9 - g.1))] = _
      rw [Nat.add_sub_cancel' hle9]
    rw [e9] at a1
    exact a1
end XCB
end
section
/-! making: the shapes grow -/
def nO (S : List xO) (ci : Nat) (fs : List (Option Value)) (F : xF) : Option (List xO × xF × Nat) := if S.length + 1 ≤ xKK then some (S ++ [.inr (.inr (ci, fs))], upR F S.length (fun _ => 0), S.length) else none
def nA (S : List xO) (t lim : Nat) (n : Int32) (F : xF) : Option (List xO × xF × Nat) := if S.length + 1 ≤ xKK ∧ 0 ≤ n.toInt ∧ n.toInt ≤ lim then some (S ++ [.inl (t, n.toNatClampNeg)], upR F S.length (fun _ => 0), S.length) else none
def nQ (S : List xO) (lim : Nat) (n : Int32) : Option (List xO × Nat) := if S.length + 1 ≤ xKK ∧ 0 ≤ n.toInt ∧ n.toInt ≤ lim then some (S ++ [.inr (.inl (2, List.replicate n.toNatClampNeg none))], S.length) else none
def pR (S : List xO) (ci a k q : Nat) : Option (List xO) := match S[a]? with
  | some (.inr (.inr (c, fs))) => if c = ci ∧ k < fs.length then some (S.set a (.inr (.inr (ci, fs.set k (some (.ref q)))))) else none
  | _ => none
def rP (S : List xO) (a : Nat) (j : Int32) (ci q : Nat) : Option (List xO) := match S[a]? with
  | some (.inr (.inl (t, rs))) => if t = 2 ∧ 0 ≤ j.toInt ∧ j.toInt < rs.length then xcl S ci q (some (S.set a (.inr (.inl (2, rs.set j.toNatClampNeg (some q)))))) else none
  | _ => none
section XCT
variable {p : Program} {l : Launch} {e : Env} {R : Room} {s : State} {m : MethodId} {args : Array Value} {below : List Frame} {meth : Method} {c : Code} {Q : State → Prop}
variable {cc : ByteArray} {nL : Nat} {own : String} {g : xG} {S S1 : List xO} {F F1 : xF} {G : xL} {cells slots pc : Nat} {lv : List (Option Value)} {st : List Value} {idx ci a k q : Nat}
theorem nO_spec {fs : List (Option Value)} (h : nO S ci fs F = some (S1, F1, q)) : S.length + 1 ≤ xKK ∧ S1 = S ++ [.inr (.inr (ci, fs))] ∧ F1 = upR F S.length (fun _ => 0) ∧ q = S.length := by
  unfold nO at h
  split at h
  · rename_i h1
    simp only [Option.some.injEq, Prod.mk.injEq] at h
    exact ⟨h1, h.1.symm, h.2.1.symm, h.2.2.symm⟩
  · cases h
theorem nO_len {fs : List (Option Value)} (h : nO S ci fs F = some (S1, F1, q)) : S1.length = S.length + 1 := by
  rw [(nO_spec h).2.1]; simp
theorem nA_spec {t lim : Nat} {n : Int32} (h : nA S t lim n F = some (S1, F1, q)) : (S.length + 1 ≤ xKK ∧ 0 ≤ n.toInt ∧ n.toInt ≤ lim) ∧ S1 = S ++ [.inl (t, n.toNatClampNeg)] ∧ F1 = upR F S.length (fun _ => 0) ∧ q = S.length := by
  unfold nA at h
  split at h
  · rename_i h1
    simp only [Option.some.injEq, Prod.mk.injEq] at h
    exact ⟨h1, h.1.symm, h.2.1.symm, h.2.2.symm⟩
  · cases h
theorem nA_len {t lim : Nat} {n : Int32} (h : nA S t lim n F = some (S1, F1, q)) : S1.length = S.length + 1 := by
  rw [(nA_spec h).2.1]; simp
theorem nQ_spec {lim : Nat} {n : Int32} (h : nQ S lim n = some (S1, q)) : (S.length + 1 ≤ xKK ∧ 0 ≤ n.toInt ∧ n.toInt ≤ lim) ∧ S1 = S ++ [.inr (.inl (2, List.replicate n.toNatClampNeg none))] ∧ q = S.length := by
  unfold nQ at h
  split at h
  · rename_i h1
    simp only [Option.some.injEq, Prod.mk.injEq] at h
    exact ⟨h1, h.1.symm, h.2.symm⟩
  · cases h
theorem nQ_len {lim : Nat} {n : Int32} (h : nQ S lim n = some (S1, q)) : S1.length = S.length + 1 := by
  rw [(nQ_spec h).2.1]; simp
theorem pR_spec (h : pR S ci a k q = some S1) : ∃ fs, S[a]? = some (.inr (.inr (ci, fs))) ∧ k < fs.length ∧ S1 = S.set a (.inr (.inr (ci, fs.set k (some (.ref q))))) := by
  unfold pR at h
  split at h
  · rename_i c fs hS
    split at h
    · rename_i h1
      obtain ⟨h1, h2⟩ := h1
      subst h1
      exact ⟨fs, hS, h2, (Option.some.inj h).symm⟩
    · cases h
  · cases h
theorem pR_len (h : pR S ci a k q = some S1) : S1.length = S.length := by
  obtain ⟨fs, -, -, h1⟩ := pR_spec h
  rw [h1]; simp
theorem rP_spec {j : Int32} (h : rP S a j ci q = some S1) : ∃ (rs : List (Option Nat)) (fs : List (Option Value)), S[a]? = some (.inr (.inl (2, rs))) ∧ vp_in j rs.length ∧ S[q]? = some (.inr (.inr (ci, fs))) ∧ S1 = S.set a (.inr (.inl (2, rs.set j.toNatClampNeg (some q)))) := by
  unfold rP at h
  split at h
  · rename_i t rs hS
    split at h
    · rename_i h1
      obtain ⟨h1, h2⟩ := h1
      subst h1
      obtain ⟨⟨fs, h3⟩, h4⟩ := xcl_spec h
      exact ⟨rs, fs, hS, vp_in_iff.mpr h2, h3, (Option.some.inj h4).symm⟩
    · cases h
  · cases h
theorem rP_len {j : Int32} (h : rP S a j ci q = some S1) : S1.length = S.length := by
  obtain ⟨rs, fs, -, -, -, h1⟩ := rP_spec h
  rw [h1]; simp
/-- a final reference, in a constructor -/
def xFRF (own : String) (idx ci k : Nat) : Prop := ∃ (w : vw_C) (ty : FieldType), xCl[ci]? = some w ∧ (w.2.1 k).2.2.2 = true ∧ parseFieldDescriptor (w.2.1 k).2.2.1 = some ty ∧ (∀ b : Nat, narrow ty (.ref b) = .ref b ∧ fits ty (.ref b) = true) ∧ (w.2.1 k).1 = own ∧ Cond.fieldLink own idx (w.2.1 k).1 (w.2.1 k).2.1 (w.2.1 k).2.2.1 ∈ xGT
theorem V.xputRF (C : Cx p s m args meth c cc nL own g) (hmn : meth.name = "<init>") (hl : xFl own idx ci k) (ht : xFt ci) (hI : xFRF own idx ci k) (h : pR S ci a k q = some S1) (hd : decode cc pc = .ok (.putfield idx, 3)) (kk : V p l e R s m args below meth c Q nL g S1 F G cells slots (pc + 3) lv st) : V p l e R s m args below meth c Q nL g S F G cells slots pc lv (.ref q :: .ref a :: st) := by
  intro H locs ls h1 h2 h3 h4
  obtain ⟨fs, hS, hk2, rfl⟩ := pR_spec h
  obtain ⟨⟨Cn, T, N⟩, hc, hk, hin, -⟩ := hl
  obtain ⟨⟨Cn1, T1, N1⟩, t0, hc1, hty, hnm⟩ := ht
  cases hc.symm.trans hc1
  obtain ⟨⟨Cn2, T2, N2⟩, ty, hc2, hfin, hdesc, hrf, hdecl, hlink⟩ := hI
  cases hc.symm.trans hc2
  have hl2 : k < (xfs g F a fs).length := by rw [xfs_len]; exact hk2
  exact va_putF (ty := ty) (v := .ref (g.1 + q)) C.x C.b C.ts hin t0 hty hnm C.ow C.k h2 (xw_D g F G h1) h3 a (xw_some hS) hc k hk (C.ts _ hlink) (fun _ h => h) hfin hmn hdecl hdesc (hrf _).1 (hrf _).2 hl2 hd (fun H1 locs1 q1 _ q2 => kk H1 locs1 ls (by rw [List.length_set]; exact h1) (by rw [← xw_putR (.ref q) hS hk2]; exact q1) q2 h4)
theorem V.xputIF (C : Cx p s m args meth c cc nL own g) {v : Int32} (hmn : meth.name = "<init>") (hl : xFl own idx ci k) (ht : xFt ci) (hI : xFIF own idx ci k) (h : pI S ci a k v F = some F1) (hd : decode cc pc = .ok (.putfield idx, 3)) (kk : V p l e R s m args below meth c Q nL g S F1 G cells slots (pc + 3) lv st) : V p l e R s m args below meth c Q nL g S F G cells slots pc lv (.int v :: .ref a :: st) := by
  obtain ⟨fs, h1, h2, h3⟩ := pI_spec h
  subst h3
  exact V.putIF C hmn hl ht hI h1 h2 hd kk
/-- what a new object needs of the tables -/
def xNO (own : String) (idx ci N : Nat) (fs : List (Option Value)) : Prop := ∃ (Cn : String) (T : u_T) (t0 : Nat → FieldType), xCl[ci]? = some (Cn, T, N) ∧ (∀ k, k < N → parseFieldDescriptor (T k).2.2.1 = some (t0 k)) ∧ (∀ w ∈ u_ws Cn T N, w ∈ xGT) ∧ (Cond.classLink own idx Cn ∈ xGT ∧ Cond.instantiable Cn N ∈ xGT ∧ Cond.initialized Cn ∈ xGT) ∧ (∀ j, j < N → defaultValue (t0 j) = xd0 (fs.getD j (some .null))) ∧ ∀ o ∈ fs, o = none ∨ o = some .null
theorem V.xnewO (C : Cx p s m args meth c cc nL own g) {N : Nat} {fs : List (Option Value)} (hz : s.heap.size + cells = g.1 + S.length) (hw : xNO own idx ci N fs) (h : nO S ci fs F = some (S1, F1, q)) (hR : cells + 1 ≤ R.cells ∧ slots + N ≤ R.slots) (hd : decode cc pc = .ok (.new idx, 3)) (kk : V p l e R s m args below meth c Q nL g S1 F1 G (cells + 1) (slots + N) (pc + 3) lv (.ref q :: st)) : V p l e R s m args below meth c Q nL g S F G cells slots pc lv st := by
  obtain ⟨h1, rfl, rfl, rfl⟩ := nO_spec h
  obtain ⟨Cn, T, t0, w1, w2, w3, w4, w5, w6⟩ := hw
  exact V.new C fs hz h1 w1 t0 w2 w3 w4 w5 w6 hR hd kk
theorem V.xnewI (C : Cx p s m args meth c cc nL own g) {lim : Nat} {n : Int32} (hz : s.heap.size + cells = g.1 + S.length) (hw : Cond.arrayClass .int ∈ xGT) (hlim : lim ≤ 100000) (h : nA S 0 lim n F = some (S1, F1, q)) (hR : cells + 1 ≤ R.cells ∧ slots + lim ≤ R.slots) (hd : decode cc pc = .ok (.newarray .int, 2)) (kk : V p l e R s m args below meth c Q nL g S1 F1 G (cells + 1) (slots + lim) (pc + 2) lv (.ref q :: st)) : V p l e R s m args below meth c Q nL g S F G cells slots pc lv (.int n :: st) := by
  obtain ⟨⟨h1, h2, h3⟩, rfl, rfl, rfl⟩ := nA_spec h
  have h4 : n.toNatClampNeg ≤ lim := by show n.toInt.toNat ≤ lim; omega
  exact V.newI C n.toNatClampNeg hz h1 hw (by rw [Int32.lt_iff_toInt_lt, Int32.toInt_zero]; omega) rfl (by omega) ⟨hR.1, by omega⟩ hd (V.wide _ _ (Nat.le_refl _) (by omega) kk)
theorem xK_arr3 (hK : va_K g.2.2.2 xCl (xTy g.2.2.1) s) {cA : ClassId} (h : s.vm.findClass ("[" ++ FieldType.byte.toString) = some cA) : cA = g.2.2.1 3 := by
  have h1 := (hK.2 3 _ (xTy3 g)).2
  exact Option.some.inj (h.symm.trans h1)
theorem V.newB (C : Cx p s m args meth c cc nL own g) {n : Int32} (N : Nat) (hz : s.heap.size + cells = g.1 + S.length) (hKK : S.length + 1 ≤ xKK) (hw : Cond.arrayClass .byte ∈ xGT) (hn : ¬ n < 0) (hN : n.toNatClampNeg = N) (hb : N * 1 ≤ 536870912) (hR : cells + 1 ≤ R.cells ∧ slots + N ≤ R.slots) (hd : decode cc pc = .ok (.newarray .byte, 2))
    (kk : V p l e R s m args below meth c Q nL g (S ++ [.inl (3, N)]) (upR F S.length (fun _ => 0)) G (cells + 1) (slots + N) (pc + 2) lv (.ref S.length :: st)) : V p l e R s m args below meth c Q nL g S F G cells slots pc lv (.int n :: st) := by
  intro H locs ls h1 h2 h3 h4
  refine W.sized (fun hle => ?_)
  have hge : g.1 + S.length ≤ H.size := xw_size h2 (Nat.le_trans C.hz h3.1)
  have hH : H.size = g.1 + S.length := by omega
  refine va_newaK C.x C.b (atype := .byte) (C.ts _ hw) rfl hd rfl hn hN hb hR.1 hR.2 hH (fun H1 cA e1 z1 o1 hAr hNm => ?_)
  have hcA : cA = g.2.2.1 3 := xK_arr3 C.k hNm
  have hk : ∀ (k : Nat) (q : Nat × va_E), (xw g F G S)[k]? = some q → H1[q.1]? = H[q.1]? := fun k q hq => o1 q.1 (by have := (h2 k q hq).lt; omega)
  refine kk H1 locs ls (by rw [List.length_append]; exact hKK) ?_ ⟨by have := h3.1; omega, fun q q1 q2 => (o1 q (by have := h3.1; omega)).trans (h3.2.1 q q1 q2), h3.2.2⟩ h4
  rw [← xw_push, ← xw_fresh (g := g) (F := F) (F' := upR F S.length (fun _ => 0)) (G := G) (G' := G) (S := S) (fun i hi => upR_ne F _ _ (Nat.ne_of_lt hi)) (fun i _ => rfl)]
  refine (h2.kept hk).app (fun k q hq => ?_)
  have hz2 : k < 1 := (List.getElem?_eq_some_iff.mp hq).1
  rw [show k = 0 by omega] at hq
  cases hq
  show H1[g.1 + S.length]? = some (vp_cell _ _)
  rw [e1, hcA]
  simp only [upR_eq]
  rfl
theorem V.xnewB (C : Cx p s m args meth c cc nL own g) {lim : Nat} {n : Int32} (hz : s.heap.size + cells = g.1 + S.length) (hw : Cond.arrayClass .byte ∈ xGT) (hlim : lim ≤ 100000) (h : nA S 3 lim n F = some (S1, F1, q)) (hR : cells + 1 ≤ R.cells ∧ slots + lim ≤ R.slots) (hd : decode cc pc = .ok (.newarray .byte, 2)) (kk : V p l e R s m args below meth c Q nL g S1 F1 G (cells + 1) (slots + lim) (pc + 2) lv (.ref q :: st)) : V p l e R s m args below meth c Q nL g S F G cells slots pc lv (.int n :: st) := by
  obtain ⟨⟨h1, h2, h3⟩, rfl, rfl, rfl⟩ := nA_spec h
  have h4 : n.toNatClampNeg ≤ lim := by show n.toInt.toNat ≤ lim; omega
  exact V.newB C n.toNatClampNeg hz h1 hw (by rw [Int32.lt_iff_toInt_lt, Int32.toInt_zero]; omega) rfl (by omega) ⟨hR.1, by omega⟩ hd (V.wide _ _ (Nat.le_refl _) (by omega) kk)
theorem xrs_set {rs : List (Option Nat)} {j : Nat} (hj : j < rs.length) (q : Nat) : xrs g (rs.set j (some q)) = va_up (xrs g rs) j (some (g.1 + q)) := by
  funext i
  unfold xrs va_up
  rw [List.getD_eq_getElem?_getD, List.getD_eq_getElem?_getD]
  by_cases h : i = j
  · subst h
    rw [List.getElem?_set_self hj]
    simp
  · rw [List.getElem?_set_ne (Ne.symm h), if_neg h]
theorem V.xaast (C : Cx p s m args meth c cc nL own g) {j : Int32} {T : u_T} {N : Nat} (hc : xCl[ci]? = some ("PaletteFrames$Frame", T, N)) (h : rP S a j ci q = some S1) (hd : decode cc pc = .ok (.aastore, 1)) (kk : V p l e R s m args below meth c Q nL g S1 F G cells slots (pc + 1) lv st) : V p l e R s m args below meth c Q nL g S F G cells slots pc lv (.ref q :: .int j :: .ref a :: st) := by
  intro H locs ls h1 h2 h3 h4
  obtain ⟨rs, fs, hS, hin, hq, rfl⟩ := rP_spec h
  have hlt : j.toNatClampNeg < rs.length := Nat.not_le.mp fun z => hin (Or.inr z)
  refine va_astq (r := ("PaletteFrames$Frame", T, N)) C.x C.b C.k h2 (xw_D g F G h1) h3 a 2 q ci (xw_some hS) (xTy2 g) (xw_some hq) hc hin hd (fun H1 locs1 q1 _ q2 => kk H1 locs1 ls (by rw [List.length_set]; exact h1) ?_ q2 h4)
  have e1 : (xw g F G S).set a (g.1 + a, .inl (g.2.2.1 2, rs.length, .inr (.inr (.inr (.inr (va_up (xrs g rs) j.toNatClampNeg (some (g.1 + q)))))))) = xw g F G (S.set a (.inr (.inl (2, rs.set j.toNatClampNeg (some q))))) := by
    refine xw_set rfl (List.getElem?_eq_some_iff.mp hS).1 ?_ (fun i _ => rfl) (fun i _ => rfl)
    simp only [xc, List.length_set]
    rw [xrs_set hlt]
  rw [← e1]
  exact q1
theorem V.xnewQ (C : Cx p s m args meth c cc nL own g) {lim : Nat} {n : Int32} (hz : s.heap.size + cells = g.1 + S.length) (hw : Cond.classLink own idx "PaletteFrames$Frame" ∈ xGT ∧ Cond.arrayOver (.object "PaletteFrames$Frame") ∈ lw_tbl) (hlim : lim ≤ 100000) (h : nQ S lim n = some (S1, q)) (hR : cells + 1 ≤ R.cells ∧ slots + lim ≤ R.slots) (hd : decode cc pc = .ok (.anewarray idx, 3)) (kk : V p l e R s m args below meth c Q nL g S1 F G (cells + 1) (slots + lim) (pc + 3) lv (.ref q :: st)) : V p l e R s m args below meth c Q nL g S F G cells slots pc lv (.int n :: st) := by
  obtain ⟨⟨hKK, g2, g3⟩, rfl, rfl⟩ := nQ_spec h
  have hle4 : n.toNatClampNeg ≤ lim := by show n.toInt.toNat ≤ lim; omega
  intro H locs ls h1 h2 h3 h4
  refine W.sized (fun hle => ?_)
  have hge : g.1 + S.length ≤ H.size := xw_size h2 (Nat.le_trans C.hz h3.1)
  have hH : H.size = g.1 + S.length := by omega
  have hover : (Cond.arrayOver (.object "PaletteFrames$Frame")).before args s = true := by
    obtain ⟨u0, a1, a2, a3, a4, a5⟩ := C.th
    exact va_AO.use (va_AO.moved a3.alike (va_AO.of (a1 _ hw.2)))
  refine W.anew C.x C.b C.ow (C.ts _ hw.1) hover rfl hd rfl (by rw [Int32.lt_iff_toInt_lt, Int32.toInt_zero]; omega) (by omega) hR.1 (by omega) fun cA kA comp f1 f2 f3 f4 => ?_
  have hcA : cA = g.2.2.1 2 := by
    obtain ⟨kA2, comp2, -, -, -, h9⟩ := (C.k.2 2 _ (xTy2 g)).2
    exact Option.some.inj (f1.symm.trans h9)
  generalize hH1 : H.push ({ cls := cA, slots := Array.replicate n.toNatClampNeg .null, vm := .none } : Cell) = H1
  have z1 : H1.size = H.size + 1 := by rw [← hH1, Array.size_push]
  have e1 : H1[H.size]? = some (arrV cA n.toNatClampNeg (fun _ => .null)) := by rw [← hH1, Array.getElem?_push_size, ← arrV_new]
  have o1 : ∀ q : Nat, q < H.size → H1[q]? = H[q]? := fun q hq => by rw [← hH1, Array.getElem?_push, if_neg (Nat.ne_of_lt hq)]
  have hk : ∀ (k : Nat) (q : Nat × va_E), (xw g F G S)[k]? = some q → H1[q.1]? = H[q.1]? := fun k q hq => o1 q.1 (h2 k q hq).lt
  rw [hH]
  refine W.widen (k := cells + 1) (n := slots + lim) (Nat.le_refl _) (by omega) ?_
  refine kk H1 locs ls (by rw [List.length_append]; exact hKK) ?_ ⟨by have := h3.1; omega, fun q q1 q2 => (o1 q (by have := h3.1; omega)).trans (h3.2.1 q q1 q2), h3.2.2⟩ h4
  rw [← xw_push]
  refine (h2.kept hk).app (fun k q hq => ?_)
  have hz2 : k < 1 := (List.getElem?_eq_some_iff.mp hq).1
  rw [show k = 0 by omega] at hq
  cases hq
  show H1[g.1 + S.length]? = some (vp_cell _ _)
  rw [← hH, e1, hcA, vp_cell_q, List.length_replicate]
  congr 2
  funext i
  unfold xrs
  rw [List.getD_eq_getElem?_getD, List.getElem?_replicate]
  split <;> rfl
end XCT
end
