section
-- ===== PART A: goes FIRST, ahead of the names: the tables' words, and 'selects' of the private methods out of them =====
/-- a private method of a class that the tables say can be made, by its rows of tables_1 -/
def lw_okq (q : MethodName × Nat) : Prop := (q.1.cls ≠ "java/lang/invoke/MethodHandle" ∧ q.1.cls ≠ "java/lang/invoke/VarHandle") ∧ Cond.instantiable q.1.cls q.2 ∈ tables_1 ∧ Cond.privateMethod q.1 ∈ tables_1 ∧ Cond.instanceMethod q.1 ∈ tables_1
theorem lw_p0 : lw_okq (⟨"PaletteFrames$Coder", "writeClear", "()V"⟩, 12) := ⟨⟨by decide +kernel, by decide +kernel⟩, List.mem_of_getElem? (i := 53) (by decide +kernel), List.mem_of_getElem? (i := 302) (by decide +kernel), List.mem_of_getElem? (i := 303) (by decide +kernel)⟩
theorem lw_p1 : lw_okq (⟨"PaletteFrames$Coder", "write", "(I)V"⟩, 12) := ⟨⟨by decide +kernel, by decide +kernel⟩, List.mem_of_getElem? (i := 53) (by decide +kernel), List.mem_of_getElem? (i := 306) (by decide +kernel), List.mem_of_getElem? (i := 307) (by decide +kernel)⟩
theorem lw_p2 : lw_okq (⟨"PaletteFrames$Coder", "startLook", "()V"⟩, 12) := ⟨⟨by decide +kernel, by decide +kernel⟩, List.mem_of_getElem? (i := 53) (by decide +kernel), List.mem_of_getElem? (i := 314) (by decide +kernel), List.mem_of_getElem? (i := 315) (by decide +kernel)⟩
theorem lw_p3 : lw_okq (⟨"PaletteFrames$Strings", "slotFor", "(I)I"⟩, 5) := ⟨⟨by decide +kernel, by decide +kernel⟩, List.mem_of_getElem? (i := 82) (by decide +kernel), List.mem_of_getElem? (i := 333) (by decide +kernel), List.mem_of_getElem? (i := 334) (by decide +kernel)⟩
theorem lw_p4 : lw_okq (⟨"PaletteFrames$Coder", "writeEntry", "(II)V"⟩, 12) := ⟨⟨by decide +kernel, by decide +kernel⟩, List.mem_of_getElem? (i := 53) (by decide +kernel), List.mem_of_getElem? (i := 338) (by decide +kernel), List.mem_of_getElem? (i := 339) (by decide +kernel)⟩
theorem lw_p5 : lw_okq (⟨"PaletteFrames$Coder", "isClearDue", "(I)Z"⟩, 12) := ⟨⟨by decide +kernel, by decide +kernel⟩, List.mem_of_getElem? (i := 53) (by decide +kernel), List.mem_of_getElem? (i := 355) (by decide +kernel), List.mem_of_getElem? (i := 356) (by decide +kernel)⟩
theorem lw_p6 : lw_okq (⟨"PaletteFrames$Coder", "writeRest", "()V"⟩, 12) := ⟨⟨by decide +kernel, by decide +kernel⟩, List.mem_of_getElem? (i := 53) (by decide +kernel), List.mem_of_getElem? (i := 359) (by decide +kernel), List.mem_of_getElem? (i := 360) (by decide +kernel)⟩
theorem lw_p7 : lw_okq (⟨"PaletteFrames$Reader", "restart", "()V"⟩, 7) := ⟨⟨by decide +kernel, by decide +kernel⟩, List.mem_of_getElem? (i := 146) (by decide +kernel), List.mem_of_getElem? (i := 380) (by decide +kernel), List.mem_of_getElem? (i := 381) (by decide +kernel)⟩
theorem lw_p8 : lw_okq (⟨"PaletteFrames$Reader", "codeFrom", "(LPaletteFrames$Numbers;I)I"⟩, 7) := ⟨⟨by decide +kernel, by decide +kernel⟩, List.mem_of_getElem? (i := 146) (by decide +kernel), List.mem_of_getElem? (i := 386) (by decide +kernel), List.mem_of_getElem? (i := 387) (by decide +kernel)⟩
theorem lw_p9 : lw_okq (⟨"PaletteFrames$Reader", "copyString", "(I)Z"⟩, 7) := ⟨⟨by decide +kernel, by decide +kernel⟩, List.mem_of_getElem? (i := 146) (by decide +kernel), List.mem_of_getElem? (i := 392) (by decide +kernel), List.mem_of_getElem? (i := 393) (by decide +kernel)⟩
theorem lw_p10 : lw_okq (⟨"PaletteFrames$Reader", "addEntry", "(II)V"⟩, 7) := ⟨⟨by decide +kernel, by decide +kernel⟩, List.mem_of_getElem? (i := 146) (by decide +kernel), List.mem_of_getElem? (i := 402) (by decide +kernel), List.mem_of_getElem? (i := 403) (by decide +kernel)⟩
theorem lw_p11 : lw_okq (⟨"java/lang/Throwable", "fillInStackTrace", "(I)Ljava/lang/Throwable;"⟩, 6) := ⟨⟨by decide +kernel, by decide +kernel⟩, List.mem_of_getElem? (i := 481) (by decide +kernel), List.mem_of_getElem? (i := 479) (by decide +kernel), List.mem_of_getElem? (i := 480) (by decide +kernel)⟩
theorem lw_p12 : lw_okq (⟨"PaletteFrames$Frame", "fillLine", "(LPaletteFrames$Numbers;II)V"⟩, 9) := ⟨⟨by decide +kernel, by decide +kernel⟩, List.mem_of_getElem? (i := 199) (by decide +kernel), List.mem_of_getElem? (i := 643) (by decide +kernel), List.mem_of_getElem? (i := 644) (by decide +kernel)⟩
theorem lw_p13 : lw_okq (⟨"PaletteFrames", "isSymbol", "(I)Z"⟩, 7) := ⟨⟨by decide +kernel, by decide +kernel⟩, List.mem_of_getElem? (i := 22) (by decide +kernel), List.mem_of_getElem? (i := 667) (by decide +kernel), List.mem_of_getElem? (i := 668) (by decide +kernel)⟩
theorem lw_p14 : lw_okq (⟨"PaletteFrames$Screen", "sourceBehind", "(III)I"⟩, 3) := ⟨⟨by decide +kernel, by decide +kernel⟩, List.mem_of_getElem? (i := 179) (by decide +kernel), List.mem_of_getElem? (i := 700) (by decide +kernel), List.mem_of_getElem? (i := 701) (by decide +kernel)⟩
theorem lw_p15 : lw_okq (⟨"PaletteFramesModel", "begin", "()V"⟩, 37) := ⟨⟨by decide +kernel, by decide +kernel⟩, List.mem_of_getElem? (i := 750) (by decide +kernel), List.mem_of_getElem? (i := 889) (by decide +kernel), List.mem_of_getElem? (i := 890) (by decide +kernel)⟩
def lw_privs_1 : List (MethodName × Nat) := [(⟨"PaletteFrames$Coder", "writeClear", "()V"⟩, 12), (⟨"PaletteFrames$Coder", "write", "(I)V"⟩, 12), (⟨"PaletteFrames$Coder", "startLook", "()V"⟩, 12), (⟨"PaletteFrames$Strings", "slotFor", "(I)I"⟩, 5), (⟨"PaletteFrames$Coder", "writeEntry", "(II)V"⟩, 12), (⟨"PaletteFrames$Coder", "isClearDue", "(I)Z"⟩, 12), (⟨"PaletteFrames$Coder", "writeRest", "()V"⟩, 12), (⟨"PaletteFrames$Reader", "restart", "()V"⟩, 7), (⟨"PaletteFrames$Reader", "codeFrom", "(LPaletteFrames$Numbers;I)I"⟩, 7), (⟨"PaletteFrames$Reader", "copyString", "(I)Z"⟩, 7), (⟨"PaletteFrames$Reader", "addEntry", "(II)V"⟩, 7), (⟨"java/lang/Throwable", "fillInStackTrace", "(I)Ljava/lang/Throwable;"⟩, 6), (⟨"PaletteFrames$Frame", "fillLine", "(LPaletteFrames$Numbers;II)V"⟩, 9), (⟨"PaletteFrames", "isSymbol", "(I)Z"⟩, 7), (⟨"PaletteFrames$Screen", "sourceBehind", "(III)I"⟩, 3), (⟨"PaletteFramesModel", "begin", "()V"⟩, 37)]
theorem lw_r1 : ∀ q ∈ lw_privs_1, lw_okq q := List.forall_mem_cons.mpr ⟨lw_p0, List.forall_mem_cons.mpr ⟨lw_p1, List.forall_mem_cons.mpr ⟨lw_p2, List.forall_mem_cons.mpr ⟨lw_p3, List.forall_mem_cons.mpr ⟨lw_p4, List.forall_mem_cons.mpr ⟨lw_p5, List.forall_mem_cons.mpr ⟨lw_p6, List.forall_mem_cons.mpr ⟨lw_p7, List.forall_mem_cons.mpr ⟨lw_p8, List.forall_mem_cons.mpr ⟨lw_p9, List.forall_mem_cons.mpr ⟨lw_p10, List.forall_mem_cons.mpr ⟨lw_p11, List.forall_mem_cons.mpr ⟨lw_p12, List.forall_mem_cons.mpr ⟨lw_p13, List.forall_mem_cons.mpr ⟨lw_p14, List.forall_mem_cons.mpr ⟨lw_p15, fun _ h => absurd h List.not_mem_nil⟩⟩⟩⟩⟩⟩⟩⟩⟩⟩⟩⟩⟩⟩⟩⟩
theorem lw_p16 : lw_okq (⟨"PaletteFramesModel", "writeClear", "()V"⟩, 37) := ⟨⟨by decide +kernel, by decide +kernel⟩, List.mem_of_getElem? (i := 750) (by decide +kernel), List.mem_of_getElem? (i := 893) (by decide +kernel), List.mem_of_getElem? (i := 894) (by decide +kernel)⟩
theorem lw_p17 : lw_okq (⟨"PaletteFramesModel", "write", "(I)V"⟩, 37) := ⟨⟨by decide +kernel, by decide +kernel⟩, List.mem_of_getElem? (i := 750) (by decide +kernel), List.mem_of_getElem? (i := 897) (by decide +kernel), List.mem_of_getElem? (i := 898) (by decide +kernel)⟩
theorem lw_p18 : lw_okq (⟨"PaletteFramesModel", "childOf", "(II)I"⟩, 37) := ⟨⟨by decide +kernel, by decide +kernel⟩, List.mem_of_getElem? (i := 750) (by decide +kernel), List.mem_of_getElem? (i := 901) (by decide +kernel), List.mem_of_getElem? (i := 902) (by decide +kernel)⟩
theorem lw_p19 : lw_okq (⟨"PaletteFramesModel", "widen", "()V"⟩, 37) := ⟨⟨by decide +kernel, by decide +kernel⟩, List.mem_of_getElem? (i := 750) (by decide +kernel), List.mem_of_getElem? (i := 905) (by decide +kernel), List.mem_of_getElem? (i := 906) (by decide +kernel)⟩
theorem lw_p20 : lw_okq (⟨"PaletteFramesModel", "enter", "(II)V"⟩, 37) := ⟨⟨by decide +kernel, by decide +kernel⟩, List.mem_of_getElem? (i := 750) (by decide +kernel), List.mem_of_getElem? (i := 909) (by decide +kernel), List.mem_of_getElem? (i := 910) (by decide +kernel)⟩
theorem lw_p21 : lw_okq (⟨"PaletteFramesModel", "nextCode", "()I"⟩, 37) := ⟨⟨by decide +kernel, by decide +kernel⟩, List.mem_of_getElem? (i := 750) (by decide +kernel), List.mem_of_getElem? (i := 933) (by decide +kernel), List.mem_of_getElem? (i := 934) (by decide +kernel)⟩
theorem lw_p22 : lw_okq (⟨"PaletteFramesModel", "firstOf", "(I)I"⟩, 37) := ⟨⟨by decide +kernel, by decide +kernel⟩, List.mem_of_getElem? (i := 750) (by decide +kernel), List.mem_of_getElem? (i := 937) (by decide +kernel), List.mem_of_getElem? (i := 938) (by decide +kernel)⟩
theorem lw_p23 : lw_okq (⟨"PaletteFramesModel", "spell", "(I)V"⟩, 37) := ⟨⟨by decide +kernel, by decide +kernel⟩, List.mem_of_getElem? (i := 750) (by decide +kernel), List.mem_of_getElem? (i := 941) (by decide +kernel), List.mem_of_getElem? (i := 942) (by decide +kernel)⟩
theorem lw_p24 : lw_okq (⟨"PaletteFramesModel", "isFrame", "(I)Z"⟩, 37) := ⟨⟨by decide +kernel, by decide +kernel⟩, List.mem_of_getElem? (i := 750) (by decide +kernel), List.mem_of_getElem? (i := 964) (by decide +kernel), List.mem_of_getElem? (i := 965) (by decide +kernel)⟩
theorem lw_p25 : lw_okq (⟨"PaletteFramesModel", "isSymbol", "(I)Z"⟩, 37) := ⟨⟨by decide +kernel, by decide +kernel⟩, List.mem_of_getElem? (i := 750) (by decide +kernel), List.mem_of_getElem? (i := 968) (by decide +kernel), List.mem_of_getElem? (i := 969) (by decide +kernel)⟩
theorem lw_p26 : lw_okq (⟨"PaletteFramesModel", "takeAway", "(I)V"⟩, 37) := ⟨⟨by decide +kernel, by decide +kernel⟩, List.mem_of_getElem? (i := 750) (by decide +kernel), List.mem_of_getElem? (i := 981) (by decide +kernel), List.mem_of_getElem? (i := 982) (by decide +kernel)⟩
theorem lw_p27 : lw_okq (⟨"PaletteFramesModel", "placeOf", "(III)I"⟩, 37) := ⟨⟨by decide +kernel, by decide +kernel⟩, List.mem_of_getElem? (i := 750) (by decide +kernel), List.mem_of_getElem? (i := 985) (by decide +kernel), List.mem_of_getElem? (i := 986) (by decide +kernel)⟩
theorem lw_p28 : lw_okq (⟨"PaletteFramesModel", "draw", "(I)V"⟩, 37) := ⟨⟨by decide +kernel, by decide +kernel⟩, List.mem_of_getElem? (i := 750) (by decide +kernel), List.mem_of_getElem? (i := 989) (by decide +kernel), List.mem_of_getElem? (i := 990) (by decide +kernel)⟩
def lw_privs_2 : List (MethodName × Nat) := [(⟨"PaletteFramesModel", "writeClear", "()V"⟩, 37), (⟨"PaletteFramesModel", "write", "(I)V"⟩, 37), (⟨"PaletteFramesModel", "childOf", "(II)I"⟩, 37), (⟨"PaletteFramesModel", "widen", "()V"⟩, 37), (⟨"PaletteFramesModel", "enter", "(II)V"⟩, 37), (⟨"PaletteFramesModel", "nextCode", "()I"⟩, 37), (⟨"PaletteFramesModel", "firstOf", "(I)I"⟩, 37), (⟨"PaletteFramesModel", "spell", "(I)V"⟩, 37), (⟨"PaletteFramesModel", "isFrame", "(I)Z"⟩, 37), (⟨"PaletteFramesModel", "isSymbol", "(I)Z"⟩, 37), (⟨"PaletteFramesModel", "takeAway", "(I)V"⟩, 37), (⟨"PaletteFramesModel", "placeOf", "(III)I"⟩, 37), (⟨"PaletteFramesModel", "draw", "(I)V"⟩, 37)]
theorem lw_r2 : ∀ q ∈ lw_privs_2, lw_okq q := List.forall_mem_cons.mpr ⟨lw_p16, List.forall_mem_cons.mpr ⟨lw_p17, List.forall_mem_cons.mpr ⟨lw_p18, List.forall_mem_cons.mpr ⟨lw_p19, List.forall_mem_cons.mpr ⟨lw_p20, List.forall_mem_cons.mpr ⟨lw_p21, List.forall_mem_cons.mpr ⟨lw_p22, List.forall_mem_cons.mpr ⟨lw_p23, List.forall_mem_cons.mpr ⟨lw_p24, List.forall_mem_cons.mpr ⟨lw_p25, List.forall_mem_cons.mpr ⟨lw_p26, List.forall_mem_cons.mpr ⟨lw_p27, List.forall_mem_cons.mpr ⟨lw_p28, fun _ h => absurd h List.not_mem_nil⟩⟩⟩⟩⟩⟩⟩⟩⟩⟩⟩⟩⟩
def lw_privs : List (MethodName × Nat) := lw_privs_1 ++ (lw_privs_2)
def lw_tbl : List Cond := k2_sels lw_privs ++ tables_1
theorem lw_privs_ok : ∀ q ∈ lw_privs, lw_okq q := by
  show ∀ q ∈ lw_privs_1 ++ (lw_privs_2), lw_okq q
  exact List.forall_mem_append.mpr ⟨lw_r1, lw_r2⟩
end
section
abbrev b_PF_init : ByteArray := prog_1_method_1_code
def y_PF_init : MethodName := ⟨"PaletteFrames", "<init>", "(I)V"⟩
abbrev b_PF_put : ByteArray := prog_1_method_2_code
def y_PF_put : MethodName := ⟨"PaletteFrames", "put", "(III)I"⟩
abbrev b_PF_rule : ByteArray := prog_1_method_3_code
def y_PF_rule : MethodName := ⟨"PaletteFrames", "rule", "(I)I"⟩
abbrev b_PF_encode : ByteArray := prog_1_method_4_code
def y_PF_encode : MethodName := ⟨"PaletteFrames", "encode", "()I"⟩
abbrev b_PF_byteAt : ByteArray := prog_1_method_5_code
def y_PF_byteAt : MethodName := ⟨"PaletteFrames", "byteAt", "(I)I"⟩
abbrev b_PF_coded : ByteArray := prog_1_method_6_code
def y_PF_coded : MethodName := ⟨"PaletteFrames", "coded", "(I)I"⟩
abbrev b_PF_feed : ByteArray := prog_1_method_7_code
def y_PF_feed : MethodName := ⟨"PaletteFrames", "feed", "(I)I"⟩
abbrev b_PF_pass : ByteArray := prog_1_method_8_code
def y_PF_pass : MethodName := ⟨"PaletteFrames", "pass", "(II)I"⟩
abbrev b_PF_decode : ByteArray := prog_1_method_9_code
def y_PF_decode : MethodName := ⟨"PaletteFrames", "decode", "()I"⟩
abbrev b_PF_at : ByteArray := prog_1_method_10_code
def y_PF_at : MethodName := ⟨"PaletteFrames", "at", "(I)I"⟩
abbrev b_PF_take : ByteArray := prog_1_method_11_code
def y_PF_take : MethodName := ⟨"PaletteFrames", "take", "()I"⟩
abbrev b_PF_frame : ByteArray := prog_1_method_12_code
def y_PF_frame : MethodName := ⟨"PaletteFrames", "frame", "(IIIIZII)I"⟩
abbrev b_PF_colour : ByteArray := prog_1_method_13_code
def y_PF_colour : MethodName := ⟨"PaletteFrames", "colour", "(III)I"⟩
abbrev b_PF_through : ByteArray := prog_1_method_14_code
def y_PF_through : MethodName := ⟨"PaletteFrames", "through", "(II)I"⟩
abbrev b_PF_shown : ByteArray := prog_1_method_15_code
def y_PF_shown : MethodName := ⟨"PaletteFrames", "shown", "(III)I"⟩
abbrev b_PF_symbol : ByteArray := prog_1_method_16_code
def y_PF_symbol : MethodName := ⟨"PaletteFrames", "symbol", "(III)I"⟩
abbrev b_PF_when : ByteArray := prog_1_method_17_code
def y_PF_when : MethodName := ⟨"PaletteFrames", "when", "(II)I"⟩
abbrev b_PF_passOf : ByteArray := prog_1_method_18_code
def y_PF_passOf : MethodName := ⟨"PaletteFrames", "passOf", "(I)I"⟩
abbrev b_PF_told : ByteArray := prog_1_method_19_code
def y_PF_told : MethodName := ⟨"PaletteFrames", "told", "(I)I"⟩
abbrev b_PF_clear : ByteArray := prog_1_method_20_code
def y_PF_clear : MethodName := ⟨"PaletteFrames", "clear", "()V"⟩
abbrev b_PF_isSymbol : ByteArray := prog_1_method_21_code
def y_PF_isSymbol : MethodName := ⟨"PaletteFrames", "isSymbol", "(I)Z"⟩
abbrev b_PF_fits : ByteArray := prog_1_method_22_code
def y_PF_fits : MethodName := ⟨"PaletteFrames", "fits", "(II)Z"⟩
abbrev b_Mo_init : ByteArray := prog_11_method_1_code
def y_Mo_init : MethodName := ⟨"PaletteFramesModel", "<init>", "(I)V"⟩
abbrev b_Mo_thrown : ByteArray := prog_11_method_2_code
def y_Mo_thrown : MethodName := ⟨"PaletteFramesModel", "thrown", "()I"⟩
abbrev b_Mo_clear : ByteArray := prog_11_method_3_code
def y_Mo_clear : MethodName := ⟨"PaletteFramesModel", "clear", "()V"⟩
abbrev b_Mo_put : ByteArray := prog_11_method_4_code
def y_Mo_put : MethodName := ⟨"PaletteFramesModel", "put", "(III)I"⟩
abbrev b_Mo_rule : ByteArray := prog_11_method_5_code
def y_Mo_rule : MethodName := ⟨"PaletteFramesModel", "rule", "(I)I"⟩
abbrev b_Mo_begin : ByteArray := prog_11_method_6_code
def y_Mo_begin : MethodName := ⟨"PaletteFramesModel", "begin", "()V"⟩
abbrev b_Mo_enter : ByteArray := prog_11_method_7_code
def y_Mo_enter : MethodName := ⟨"PaletteFramesModel", "enter", "(II)V"⟩
abbrev b_Mo_childOf : ByteArray := prog_11_method_8_code
def y_Mo_childOf : MethodName := ⟨"PaletteFramesModel", "childOf", "(II)I"⟩
abbrev b_Mo_widen : ByteArray := prog_11_method_9_code
def y_Mo_widen : MethodName := ⟨"PaletteFramesModel", "widen", "()V"⟩
abbrev b_Mo_write : ByteArray := prog_11_method_10_code
def y_Mo_write : MethodName := ⟨"PaletteFramesModel", "write", "(I)V"⟩
abbrev b_Mo_writeClear : ByteArray := prog_11_method_11_code
def y_Mo_writeClear : MethodName := ⟨"PaletteFramesModel", "writeClear", "()V"⟩
abbrev b_Mo_encode : ByteArray := prog_11_method_12_code
def y_Mo_encode : MethodName := ⟨"PaletteFramesModel", "encode", "()I"⟩
abbrev b_Mo_byteAt : ByteArray := prog_11_method_13_code
def y_Mo_byteAt : MethodName := ⟨"PaletteFramesModel", "byteAt", "(I)I"⟩
abbrev b_Mo_coded : ByteArray := prog_11_method_14_code
def y_Mo_coded : MethodName := ⟨"PaletteFramesModel", "coded", "(I)I"⟩
abbrev b_Mo_feed : ByteArray := prog_11_method_15_code
def y_Mo_feed : MethodName := ⟨"PaletteFramesModel", "feed", "(I)I"⟩
abbrev b_Mo_pass : ByteArray := prog_11_method_16_code
def y_Mo_pass : MethodName := ⟨"PaletteFramesModel", "pass", "(II)I"⟩
abbrev b_Mo_nextCode : ByteArray := prog_11_method_17_code
def y_Mo_nextCode : MethodName := ⟨"PaletteFramesModel", "nextCode", "()I"⟩
abbrev b_Mo_firstOf : ByteArray := prog_11_method_18_code
def y_Mo_firstOf : MethodName := ⟨"PaletteFramesModel", "firstOf", "(I)I"⟩
abbrev b_Mo_spell : ByteArray := prog_11_method_19_code
def y_Mo_spell : MethodName := ⟨"PaletteFramesModel", "spell", "(I)V"⟩
abbrev b_Mo_decode : ByteArray := prog_11_method_20_code
def y_Mo_decode : MethodName := ⟨"PaletteFramesModel", "decode", "()I"⟩
abbrev b_Mo_at : ByteArray := prog_11_method_21_code
def y_Mo_at : MethodName := ⟨"PaletteFramesModel", "at", "(I)I"⟩
abbrev b_Mo_take : ByteArray := prog_11_method_22_code
def y_Mo_take : MethodName := ⟨"PaletteFramesModel", "take", "()I"⟩
abbrev b_Mo_passNumber : ByteArray := prog_11_method_23_code
def y_Mo_passNumber : MethodName := ⟨"PaletteFramesModel", "passNumber", "(I)I"⟩
abbrev b_Mo_frame : ByteArray := prog_11_method_24_code
def y_Mo_frame : MethodName := ⟨"PaletteFramesModel", "frame", "(IIIIZII)I"⟩
abbrev b_Mo_isFrame : ByteArray := prog_11_method_25_code
def y_Mo_isFrame : MethodName := ⟨"PaletteFramesModel", "isFrame", "(I)Z"⟩
abbrev b_Mo_isSymbol : ByteArray := prog_11_method_26_code
def y_Mo_isSymbol : MethodName := ⟨"PaletteFramesModel", "isSymbol", "(I)Z"⟩
abbrev b_Mo_colour : ByteArray := prog_11_method_27_code
def y_Mo_colour : MethodName := ⟨"PaletteFramesModel", "colour", "(III)I"⟩
abbrev b_Mo_through : ByteArray := prog_11_method_28_code
def y_Mo_through : MethodName := ⟨"PaletteFramesModel", "through", "(II)I"⟩
abbrev b_Mo_placeOf : ByteArray := prog_11_method_29_code
def y_Mo_placeOf : MethodName := ⟨"PaletteFramesModel", "placeOf", "(III)I"⟩
abbrev b_Mo_draw : ByteArray := prog_11_method_30_code
def y_Mo_draw : MethodName := ⟨"PaletteFramesModel", "draw", "(I)V"⟩
abbrev b_Mo_takeAway : ByteArray := prog_11_method_31_code
def y_Mo_takeAway : MethodName := ⟨"PaletteFramesModel", "takeAway", "(I)V"⟩
abbrev b_Mo_shown : ByteArray := prog_11_method_32_code
def y_Mo_shown : MethodName := ⟨"PaletteFramesModel", "shown", "(III)I"⟩
abbrev b_Mo_symbol : ByteArray := prog_11_method_33_code
def y_Mo_symbol : MethodName := ⟨"PaletteFramesModel", "symbol", "(III)I"⟩
abbrev b_Mo_when : ByteArray := prog_11_method_34_code
def y_Mo_when : MethodName := ⟨"PaletteFramesModel", "when", "(II)I"⟩
abbrev b_Mo_passOf : ByteArray := prog_11_method_35_code
def y_Mo_passOf : MethodName := ⟨"PaletteFramesModel", "passOf", "(I)I"⟩
abbrev b_Mo_told : ByteArray := prog_11_method_36_code
def y_Mo_told : MethodName := ⟨"PaletteFramesModel", "told", "(I)I"⟩
abbrev b_Co_init : ByteArray := prog_2_method_1_code
def y_Co_init : MethodName := ⟨"PaletteFrames$Coder", "<init>", "(I)V"⟩
abbrev b_Co_forget : ByteArray := prog_2_method_2_code
def y_Co_forget : MethodName := ⟨"PaletteFrames$Coder", "forget", "()V"⟩
abbrev b_Co_codeRow : ByteArray := prog_2_method_3_code
def y_Co_codeRow : MethodName := ⟨"PaletteFrames$Coder", "codeRow", "(LPaletteFrames$Numbers;I)V"⟩
abbrev b_Co_writeClear : ByteArray := prog_2_method_4_code
def y_Co_writeClear : MethodName := ⟨"PaletteFrames$Coder", "writeClear", "()V"⟩
abbrev b_Co_writeEntry : ByteArray := prog_2_method_5_code
def y_Co_writeEntry : MethodName := ⟨"PaletteFrames$Coder", "writeEntry", "(II)V"⟩
abbrev b_Co_isClearDue : ByteArray := prog_2_method_6_code
def y_Co_isClearDue : MethodName := ⟨"PaletteFrames$Coder", "isClearDue", "(I)Z"⟩
abbrev b_Co_startLook : ByteArray := prog_2_method_7_code
def y_Co_startLook : MethodName := ⟨"PaletteFrames$Coder", "startLook", "()V"⟩
abbrev b_Co_write : ByteArray := prog_2_method_8_code
def y_Co_write : MethodName := ⟨"PaletteFrames$Coder", "write", "(I)V"⟩
abbrev b_Co_writeRest : ByteArray := prog_2_method_9_code
def y_Co_writeRest : MethodName := ⟨"PaletteFrames$Coder", "writeRest", "()V"⟩
abbrev b_Fr_init : ByteArray := prog_3_method_1_code
def y_Fr_init : MethodName := ⟨"PaletteFrames$Frame", "<init>", "(I)V"⟩
abbrev b_Fr_passNumber : ByteArray := prog_3_method_2_code
def y_Fr_passNumber : MethodName := ⟨"PaletteFrames$Frame", "passNumber", "(I)I"⟩
abbrev b_Fr_forget : ByteArray := prog_3_method_3_code
def y_Fr_forget : MethodName := ⟨"PaletteFrames$Frame", "forget", "()V"⟩
abbrev b_Fr_lay : ByteArray := prog_3_method_4_code
def y_Fr_lay : MethodName := ⟨"PaletteFrames$Frame", "lay", "(IIII)V"⟩
abbrev b_Fr_time : ByteArray := prog_3_method_5_code
def y_Fr_time : MethodName := ⟨"PaletteFrames$Frame", "time", "(II)V"⟩
abbrev b_Fr_fill : ByteArray := prog_3_method_6_code
def y_Fr_fill : MethodName := ⟨"PaletteFrames$Frame", "fill", "(LPaletteFrames$Numbers;Z)V"⟩
abbrev b_Fr_fillLine : ByteArray := prog_3_method_7_code
def y_Fr_fillLine : MethodName := ⟨"PaletteFrames$Frame", "fillLine", "(LPaletteFrames$Numbers;II)V"⟩
abbrev b_Fr_symbolIn : ByteArray := prog_3_method_8_code
def y_Fr_symbolIn : MethodName := ⟨"PaletteFrames$Frame", "symbolIn", "(II)I"⟩
abbrev b_Fr_covers : ByteArray := prog_3_method_9_code
def y_Fr_covers : MethodName := ⟨"PaletteFrames$Frame", "covers", "(II)Z"⟩
abbrev b_Fr_symbolOn : ByteArray := prog_3_method_10_code
def y_Fr_symbolOn : MethodName := ⟨"PaletteFrames$Frame", "symbolOn", "(II)I"⟩
abbrev b_Nu_init : ByteArray := prog_4_method_1_code
def y_Nu_init : MethodName := ⟨"PaletteFrames$Numbers", "<init>", "(I)V"⟩
abbrev b_Nu_has : ByteArray := prog_4_method_2_code
def y_Nu_has : MethodName := ⟨"PaletteFrames$Numbers", "has", "(I)Z"⟩
abbrev b_Nu_get : ByteArray := prog_4_method_3_code
def y_Nu_get : MethodName := ⟨"PaletteFrames$Numbers", "get", "(I)I"⟩
abbrev b_Nu_room : ByteArray := prog_4_method_4_code
def y_Nu_room : MethodName := ⟨"PaletteFrames$Numbers", "room", "()I"⟩
abbrev b_Nu_add : ByteArray := prog_4_method_5_code
def y_Nu_add : MethodName := ⟨"PaletteFrames$Numbers", "add", "(I)V"⟩
abbrev b_Nu_dropFirst : ByteArray := prog_4_method_6_code
def y_Nu_dropFirst : MethodName := ⟨"PaletteFrames$Numbers", "dropFirst", "(I)V"⟩
abbrev b_Nu_empty : ByteArray := prog_4_method_7_code
def y_Nu_empty : MethodName := ⟨"PaletteFrames$Numbers", "empty", "()V"⟩
abbrev b_Pa_init : ByteArray := prog_5_method_1_code
def y_Pa_init : MethodName := ⟨"PaletteFrames$Palette", "<init>", "(I)V"⟩
abbrev b_Pa_get : ByteArray := prog_5_method_2_code
def y_Pa_get : MethodName := ⟨"PaletteFrames$Palette", "get", "(I)I"⟩
abbrev b_Pa_change : ByteArray := prog_5_method_3_code
def y_Pa_change : MethodName := ⟨"PaletteFrames$Palette", "change", "(II)I"⟩
abbrev b_Pa_forget : ByteArray := prog_5_method_4_code
def y_Pa_forget : MethodName := ⟨"PaletteFrames$Palette", "forget", "()V"⟩
abbrev b_Re_init : ByteArray := prog_6_method_1_code
def y_Re_init : MethodName := ⟨"PaletteFrames$Reader", "<init>", "(I)V"⟩
abbrev b_Re_readAll : ByteArray := prog_6_method_2_code
def y_Re_readAll : MethodName := ⟨"PaletteFrames$Reader", "readAll", "(LPaletteFrames$Numbers;)I"⟩
abbrev b_Re_restart : ByteArray := prog_6_method_3_code
def y_Re_restart : MethodName := ⟨"PaletteFrames$Reader", "restart", "()V"⟩
abbrev b_Re_codeFrom : ByteArray := prog_6_method_4_code
def y_Re_codeFrom : MethodName := ⟨"PaletteFrames$Reader", "codeFrom", "(LPaletteFrames$Numbers;I)I"⟩
abbrev b_Re_copyString : ByteArray := prog_6_method_5_code
def y_Re_copyString : MethodName := ⟨"PaletteFrames$Reader", "copyString", "(I)Z"⟩
abbrev b_Re_addEntry : ByteArray := prog_6_method_6_code
def y_Re_addEntry : MethodName := ⟨"PaletteFrames$Reader", "addEntry", "(II)V"⟩
abbrev b_Sc_init : ByteArray := prog_7_method_1_code
def y_Sc_init : MethodName := ⟨"PaletteFrames$Screen", "<init>", "(I)V"⟩
abbrev b_Sc_has : ByteArray := prog_7_method_2_code
def y_Sc_has : MethodName := ⟨"PaletteFrames$Screen", "has", "(I)Z"⟩
abbrev b_Sc_addFrame : ByteArray := prog_7_method_3_code
def y_Sc_addFrame : MethodName := ⟨"PaletteFrames$Screen", "addFrame", "()LPaletteFrames$Frame;"⟩
abbrev b_Sc_forget : ByteArray := prog_7_method_4_code
def y_Sc_forget : MethodName := ⟨"PaletteFrames$Screen", "forget", "()V"⟩
abbrev b_Sc_colourBehind : ByteArray := prog_7_method_5_code
def y_Sc_colourBehind : MethodName := ⟨"PaletteFrames$Screen", "colourBehind", "(III)I"⟩
abbrev b_Sc_sourceBehind : ByteArray := prog_7_method_6_code
def y_Sc_sourceBehind : MethodName := ⟨"PaletteFrames$Screen", "sourceBehind", "(III)I"⟩
abbrev b_Sc_sourceAfter : ByteArray := prog_7_method_7_code
def y_Sc_sourceAfter : MethodName := ⟨"PaletteFrames$Screen", "sourceAfter", "(III)I"⟩
abbrev b_Sc_frameAt : ByteArray := prog_7_method_8_code
def y_Sc_frameAt : MethodName := ⟨"PaletteFrames$Screen", "frameAt", "(II)I"⟩
abbrev b_St_init : ByteArray := prog_8_method_1_code
def y_St_init : MethodName := ⟨"PaletteFrames$Strings", "<init>", "(I)V"⟩
abbrev b_St_count : ByteArray := prog_8_method_2_code
def y_St_count : MethodName := ⟨"PaletteFrames$Strings", "count", "()I"⟩
abbrev b_St_isFull : ByteArray := prog_8_method_3_code
def y_St_isFull : MethodName := ⟨"PaletteFrames$Strings", "isFull", "()Z"⟩
abbrev b_St_find : ByteArray := prog_8_method_4_code
def y_St_find : MethodName := ⟨"PaletteFrames$Strings", "find", "(II)I"⟩
abbrev b_St_add : ByteArray := prog_8_method_5_code
def y_St_add : MethodName := ⟨"PaletteFrames$Strings", "add", "(II)V"⟩
abbrev b_St_empty : ByteArray := prog_8_method_6_code
def y_St_empty : MethodName := ⟨"PaletteFrames$Strings", "empty", "()V"⟩
abbrev b_St_keyOf : ByteArray := prog_8_method_7_code
def y_St_keyOf : MethodName := ⟨"PaletteFrames$Strings", "keyOf", "(II)I"⟩
abbrev b_St_slotFor : ByteArray := prog_8_method_8_code
def y_St_slotFor : MethodName := ⟨"PaletteFrames$Strings", "slotFor", "(I)I"⟩
abbrev b_Wi_init : ByteArray := prog_9_method_1_code
def y_Wi_init : MethodName := ⟨"PaletteFrames$Width", "<init>", "(I)V"⟩
abbrev b_Wi_restart : ByteArray := prog_9_method_2_code
def y_Wi_restart : MethodName := ⟨"PaletteFrames$Width", "restart", "()V"⟩
abbrev b_Wi_behindEntry : ByteArray := prog_9_method_3_code
def y_Wi_behindEntry : MethodName := ⟨"PaletteFrames$Width", "behindEntry", "()V"⟩
abbrev b_La_cell : ByteArray := method_2_code
def y_La_cell : MethodName := ⟨"PaletteFramesLaw", "cell", "([II)I"⟩
abbrev b_La_put : ByteArray := method_3_code
def y_La_put : MethodName := ⟨"PaletteFramesLaw", "put", "(LPaletteFrames;III[J)I"⟩
abbrev b_La_rule : ByteArray := method_4_code
def y_La_rule : MethodName := ⟨"PaletteFramesLaw", "rule", "(LPaletteFrames;I[J)I"⟩
abbrev b_La_byteAt : ByteArray := method_5_code
def y_La_byteAt : MethodName := ⟨"PaletteFramesLaw", "byteAt", "(LPaletteFrames;I[J)I"⟩
abbrev b_La_feed : ByteArray := method_6_code
def y_La_feed : MethodName := ⟨"PaletteFramesLaw", "feed", "(LPaletteFrames;I[J)I"⟩
abbrev b_La_pass : ByteArray := method_7_code
def y_La_pass : MethodName := ⟨"PaletteFramesLaw", "pass", "(LPaletteFrames;II[J)I"⟩
abbrev b_La_at : ByteArray := method_8_code
def y_La_at : MethodName := ⟨"PaletteFramesLaw", "at", "(LPaletteFrames;I[J)I"⟩
abbrev b_La_frame : ByteArray := method_9_code
def y_La_frame : MethodName := ⟨"PaletteFramesLaw", "frame", "(LPaletteFrames;IIIIZII[J)I"⟩
abbrev b_La_colour : ByteArray := method_10_code
def y_La_colour : MethodName := ⟨"PaletteFramesLaw", "colour", "(LPaletteFrames;III[J)I"⟩
abbrev b_La_through : ByteArray := method_11_code
def y_La_through : MethodName := ⟨"PaletteFramesLaw", "through", "(LPaletteFrames;II[J)I"⟩
abbrev b_La_shown : ByteArray := method_12_code
def y_La_shown : MethodName := ⟨"PaletteFramesLaw", "shown", "(LPaletteFrames;III[J)I"⟩
abbrev b_La_symbol : ByteArray := method_13_code
def y_La_symbol : MethodName := ⟨"PaletteFramesLaw", "symbol", "(LPaletteFrames;III[J)I"⟩
abbrev b_La_when : ByteArray := method_14_code
def y_La_when : MethodName := ⟨"PaletteFramesLaw", "when", "(LPaletteFrames;II[J)I"⟩
abbrev b_La_passOf : ByteArray := method_15_code
def y_La_passOf : MethodName := ⟨"PaletteFramesLaw", "passOf", "(LPaletteFrames;I[J)I"⟩
abbrev b_Ar_fill : ByteArray := prog_22_method_103_code
def y_Ar_fill : MethodName := ⟨"java/util/Arrays", "fill", "([II)V"⟩
end
section
def T_0 : u_T := fun k => match k with
  | 0 => ("PaletteFrames$Numbers", "items", "[I", true)
  | _ => ("PaletteFrames$Numbers", "size", "I", false)
def t_0 : Nat → FieldType := fun k => match k with
  | 0 => .array .int
  | _ => .int
theorem nm_0 : ∀ a, a < 2 → ∀ b, b < 2 → a ≠ b → (T_0 a).2.1 ≠ (T_0 b).2.1 := by decide +kernel
theorem ty_0 : ∀ k, k < 2 → parseFieldDescriptor (T_0 k).2.2.1 = some (t_0 k) := by decide +kernel
def T_1 : u_T := fun k => match k with
  | 0 => ("PaletteFrames$Width", "symbolBits", "I", true)
  | 1 => ("PaletteFrames$Width", "end", "I", true)
  | 2 => ("PaletteFrames$Width", "bits", "I", false)
  | _ => ("PaletteFrames$Width", "codes", "I", false)
def t_1 : Nat → FieldType := fun k => match k with
  | 0 => .int
  | 1 => .int
  | 2 => .int
  | _ => .int
theorem nm_1 : ∀ a, a < 4 → ∀ b, b < 4 → a ≠ b → (T_1 a).2.1 ≠ (T_1 b).2.1 := by decide +kernel
theorem ty_1 : ∀ k, k < 4 → parseFieldDescriptor (T_1 k).2.2.1 = some (t_1 k) := by decide +kernel
def T_2 : u_T := fun k => match k with
  | 0 => ("PaletteFrames$Strings", "end", "I", true)
  | 1 => ("PaletteFrames$Strings", "slots", "[I", true)
  | 2 => ("PaletteFrames$Strings", "keys", "[I", true)
  | 3 => ("PaletteFrames$Strings", "slotOf", "[I", true)
  | _ => ("PaletteFrames$Strings", "last", "I", false)
def t_2 : Nat → FieldType := fun k => match k with
  | 0 => .int
  | 1 => .array .int
  | 2 => .array .int
  | 3 => .array .int
  | _ => .int
theorem nm_2 : ∀ a, a < 5 → ∀ b, b < 5 → a ≠ b → (T_2 a).2.1 ≠ (T_2 b).2.1 := by decide +kernel
theorem ty_2 : ∀ k, k < 5 → parseFieldDescriptor (T_2 k).2.2.1 = some (t_2 k) := by decide +kernel
def T_3 : u_T := fun k => match k with
  | 0 => ("PaletteFrames$Coder", "clearCode", "I", true)
  | 1 => ("PaletteFrames$Coder", "endCode", "I", true)
  | 2 => ("PaletteFrames$Coder", "width", "LPaletteFrames$Width;", true)
  | 3 => ("PaletteFrames$Coder", "strings", "LPaletteFrames$Strings;", true)
  | 4 => ("PaletteFrames$Coder", "bytes", "LPaletteFrames$Numbers;", true)
  | 5 => ("PaletteFrames$Coder", "codes", "I", false)
  | 6 => ("PaletteFrames$Coder", "clears", "I", false)
  | 7 => ("PaletteFrames$Coder", "lastBits", "I", false)
  | 8 => ("PaletteFrames$Coder", "held", "I", false)
  | 9 => ("PaletteFrames$Coder", "heldBits", "I", false)
  | 10 => ("PaletteFrames$Coder", "lookCodes", "I", false)
  | _ => ("PaletteFrames$Coder", "lookSymbols", "I", false)
def t_3 : Nat → FieldType := fun k => match k with
  | 0 => .int
  | 1 => .int
  | 2 => .object "PaletteFrames$Width"
  | 3 => .object "PaletteFrames$Strings"
  | 4 => .object "PaletteFrames$Numbers"
  | 5 => .int
  | 6 => .int
  | 7 => .int
  | 8 => .int
  | 9 => .int
  | 10 => .int
  | _ => .int
theorem nm_3 : ∀ a, a < 12 → ∀ b, b < 12 → a ≠ b → (T_3 a).2.1 ≠ (T_3 b).2.1 := by decide +kernel
theorem ty_3 : ∀ k, k < 12 → parseFieldDescriptor (T_3 k).2.2.1 = some (t_3 k) := by decide +kernel
def T_4 : u_T := fun k => match k with
  | 0 => ("PaletteFrames$Reader", "clearCode", "I", true)
  | 1 => ("PaletteFrames$Reader", "endCode", "I", true)
  | 2 => ("PaletteFrames$Reader", "width", "LPaletteFrames$Width;", true)
  | 3 => ("PaletteFrames$Reader", "symbols", "LPaletteFrames$Numbers;", true)
  | 4 => ("PaletteFrames$Reader", "begins", "[I", true)
  | 5 => ("PaletteFrames$Reader", "lengths", "[I", true)
  | _ => ("PaletteFrames$Reader", "last", "I", false)
def t_4 : Nat → FieldType := fun k => match k with
  | 0 => .int
  | 1 => .int
  | 2 => .object "PaletteFrames$Width"
  | 3 => .object "PaletteFrames$Numbers"
  | 4 => .array .int
  | 5 => .array .int
  | _ => .int
theorem nm_4 : ∀ a, a < 7 → ∀ b, b < 7 → a ≠ b → (T_4 a).2.1 ≠ (T_4 b).2.1 := by decide +kernel
theorem ty_4 : ∀ k, k < 7 → parseFieldDescriptor (T_4 k).2.2.1 = some (t_4 k) := by decide +kernel
def T_5 : u_T := fun k => match k with
  | _ => ("PaletteFrames$Palette", "colours", "[I", true)
def t_5 : Nat → FieldType := fun k => match k with
  | _ => .array .int
theorem nm_5 : ∀ a, a < 1 → ∀ b, b < 1 → a ≠ b → (T_5 a).2.1 ≠ (T_5 b).2.1 := by decide +kernel
theorem ty_5 : ∀ k, k < 1 → parseFieldDescriptor (T_5 k).2.2.1 = some (t_5 k) := by decide +kernel
def T_6 : u_T := fun k => match k with
  | 0 => ("PaletteFrames$Frame", "symbols", "[I", true)
  | 1 => ("PaletteFrames$Frame", "palette", "LPaletteFrames$Palette;", true)
  | 2 => ("PaletteFrames$Frame", "left", "I", false)
  | 3 => ("PaletteFrames$Frame", "top", "I", false)
  | 4 => ("PaletteFrames$Frame", "width", "I", false)
  | 5 => ("PaletteFrames$Frame", "height", "I", false)
  | 6 => ("PaletteFrames$Frame", "end", "I", false)
  | 7 => ("PaletteFrames$Frame", "delay", "I", false)
  | _ => ("PaletteFrames$Frame", "clearThrough", "I", false)
def t_6 : Nat → FieldType := fun k => match k with
  | 0 => .array .int
  | 1 => .object "PaletteFrames$Palette"
  | 2 => .int
  | 3 => .int
  | 4 => .int
  | 5 => .int
  | 6 => .int
  | 7 => .int
  | _ => .int
theorem nm_6 : ∀ a, a < 9 → ∀ b, b < 9 → a ≠ b → (T_6 a).2.1 ≠ (T_6 b).2.1 := by decide +kernel
theorem ty_6 : ∀ k, k < 9 → parseFieldDescriptor (T_6 k).2.2.1 = some (t_6 k) := by decide +kernel
def T_7 : u_T := fun k => match k with
  | 0 => ("PaletteFrames$Screen", "frames", "[LPaletteFrames$Frame;", true)
  | 1 => ("PaletteFrames$Screen", "palette", "LPaletteFrames$Palette;", true)
  | _ => ("PaletteFrames$Screen", "count", "I", false)
def t_7 : Nat → FieldType := fun k => match k with
  | 0 => .array (.object "PaletteFrames$Frame")
  | 1 => .object "PaletteFrames$Palette"
  | _ => .int
theorem nm_7 : ∀ a, a < 3 → ∀ b, b < 3 → a ≠ b → (T_7 a).2.1 ≠ (T_7 b).2.1 := by decide +kernel
theorem ty_7 : ∀ k, k < 3 → parseFieldDescriptor (T_7 k).2.2.1 = some (t_7 k) := by decide +kernel
def T_8 : u_T := fun k => match k with
  | 0 => ("PaletteFrames", "symbolBits", "I", true)
  | 1 => ("PaletteFrames", "row", "LPaletteFrames$Numbers;", true)
  | 2 => ("PaletteFrames", "waiting", "LPaletteFrames$Numbers;", true)
  | 3 => ("PaletteFrames", "coder", "LPaletteFrames$Coder;", true)
  | 4 => ("PaletteFrames", "reader", "LPaletteFrames$Reader;", true)
  | 5 => ("PaletteFrames", "screen", "LPaletteFrames$Screen;", true)
  | _ => ("PaletteFrames", "rule", "I", false)
def t_8 : Nat → FieldType := fun k => match k with
  | 0 => .int
  | 1 => .object "PaletteFrames$Numbers"
  | 2 => .object "PaletteFrames$Numbers"
  | 3 => .object "PaletteFrames$Coder"
  | 4 => .object "PaletteFrames$Reader"
  | 5 => .object "PaletteFrames$Screen"
  | _ => .int
theorem nm_8 : ∀ a, a < 7 → ∀ b, b < 7 → a ≠ b → (T_8 a).2.1 ≠ (T_8 b).2.1 := by decide +kernel
theorem ty_8 : ∀ k, k < 7 → parseFieldDescriptor (T_8 k).2.2.1 = some (t_8 k) := by decide +kernel
def T_9 : u_T := fun k => match k with
  | 0 => ("PaletteFramesModel", "least", "I", true)
  | 1 => ("PaletteFramesModel", "clear", "I", true)
  | 2 => ("PaletteFramesModel", "end", "I", true)
  | 3 => ("PaletteFramesModel", "code", "I", false)
  | 4 => ("PaletteFramesModel", "rule", "I", false)
  | 5 => ("PaletteFramesModel", "rowSize", "I", false)
  | 6 => ("PaletteFramesModel", "row", "[I", true)
  | 7 => ("PaletteFramesModel", "codedSize", "I", false)
  | 8 => ("PaletteFramesModel", "coded", "[B", true)
  | 9 => ("PaletteFramesModel", "codedTold", "[I", true)
  | 10 => ("PaletteFramesModel", "fedSize", "I", false)
  | 11 => ("PaletteFramesModel", "fed", "[B", true)
  | 12 => ("PaletteFramesModel", "readSize", "I", false)
  | 13 => ("PaletteFramesModel", "read", "[I", true)
  | 14 => ("PaletteFramesModel", "entries", "I", false)
  | 15 => ("PaletteFramesModel", "prefixes", "[I", true)
  | 16 => ("PaletteFramesModel", "lasts", "[I", true)
  | 17 => ("PaletteFramesModel", "lengths", "[I", true)
  | 18 => ("PaletteFramesModel", "children", "[I", true)
  | 19 => ("PaletteFramesModel", "siblings", "[I", true)
  | 20 => ("PaletteFramesModel", "bitAt", "I", false)
  | 21 => ("PaletteFramesModel", "width", "I", false)
  | 22 => ("PaletteFramesModel", "since", "I", false)
  | 23 => ("PaletteFramesModel", "frames", "I", false)
  | 24 => ("PaletteFramesModel", "xs", "[I", true)
  | 25 => ("PaletteFramesModel", "ys", "[I", true)
  | 26 => ("PaletteFramesModel", "widths", "[I", true)
  | 27 => ("PaletteFramesModel", "heights", "[I", true)
  | 28 => ("PaletteFramesModel", "ends", "[I", true)
  | 29 => ("PaletteFramesModel", "delays", "[I", true)
  | 30 => ("PaletteFramesModel", "throughs", "[I", true)
  | 31 => ("PaletteFramesModel", "symbols", "[I", true)
  | 32 => ("PaletteFramesModel", "colours", "[I", true)
  | 33 => ("PaletteFramesModel", "shownFrames", "[I", true)
  | 34 => ("PaletteFramesModel", "shownSymbols", "[I", true)
  | 35 => ("PaletteFramesModel", "keptFrames", "[I", true)
  | _ => ("PaletteFramesModel", "keptSymbols", "[I", true)
def t_9 : Nat → FieldType := fun k => match k with
  | 0 => .int
  | 1 => .int
  | 2 => .int
  | 3 => .int
  | 4 => .int
  | 5 => .int
  | 6 => .array .int
  | 7 => .int
  | 8 => .array .byte
  | 9 => .array .int
  | 10 => .int
  | 11 => .array .byte
  | 12 => .int
  | 13 => .array .int
  | 14 => .int
  | 15 => .array .int
  | 16 => .array .int
  | 17 => .array .int
  | 18 => .array .int
  | 19 => .array .int
  | 20 => .int
  | 21 => .int
  | 22 => .int
  | 23 => .int
  | 24 => .array .int
  | 25 => .array .int
  | 26 => .array .int
  | 27 => .array .int
  | 28 => .array .int
  | 29 => .array .int
  | 30 => .array .int
  | 31 => .array .int
  | 32 => .array .int
  | 33 => .array .int
  | 34 => .array .int
  | 35 => .array .int
  | _ => .array .int
theorem nm_9 : ∀ a, a < 37 → ∀ b, b < 37 → a ≠ b → (T_9 a).2.1 ≠ (T_9 b).2.1 := by decide +kernel
theorem ty_9 : ∀ k, k < 37 → parseFieldDescriptor (T_9 k).2.2.1 = some (t_9 k) := by decide +kernel
/-- the classes of the world, by their places -/
def xCl : List vw_C := [("PaletteFrames$Numbers", T_0, 2), ("PaletteFrames$Width", T_1, 4), ("PaletteFrames$Strings", T_2, 5), ("PaletteFrames$Coder", T_3, 12), ("PaletteFrames$Reader", T_4, 7), ("PaletteFrames$Palette", T_5, 1), ("PaletteFrames$Frame", T_6, 9), ("PaletteFrames$Screen", T_7, 3), ("PaletteFrames", T_8, 7), ("PaletteFramesModel", T_9, 37)]
/-- how many cells the world has, when all is made -/
def xKK : Nat := 96
def xTy (dA : Nat → ClassId) : List (ClassId × FieldType) := [(dA 0, .int), (dA 1, .long), (dA 2, .object "PaletteFrames$Frame"), (dA 3, .byte)]
/-- the words that stay true all through -/
def xGT : List Cond := lw_tbl.filter goodWord
theorem xGT_good : ∀ w ∈ xGT, (w.onTables && w.keeps) = true ∨ ∃ ty, w = .arrayClass ty := fun w h => good_of_word (List.mem_filter.mp h).2
theorem xGT_of {w : Cond} (i : Nat) (h : lw_tbl[i]? = some w) (hg : goodWord w = true) : w ∈ xGT := List.mem_filter.mpr ⟨List.mem_of_getElem? h, hg⟩
def xNT : List Cond := []
def xNW (U : State) : Prop := ∀ w ∈ xNT, va_Nw w U
theorem xNT_tab : ∀ w ∈ xNT, w.onTables = true := fun _ h => by cases h
theorem xNT_warm {s U : State} (_hW : s.WarmedH U.vm) : ∀ w ∈ xNT, va_Nw w s → va_Nw w U := fun _ h => by cases h
end
section
/-! THE ABSTRACT WORLD. Shapes S never change once everything is made: what changes are the numbers F (fields and arrays of ints) and G (arrays of longs). -/
/-- a shape: an array of numbers (its type's place, its length), an array of references, or an object (its class's place; a field is none: a number, or some: a value that stays) -/
abbrev xO : Type := (Nat × Nat) ⊕ ((Nat × List (Option Nat)) ⊕ (Nat × List (Option Value)))
abbrev xF : Type := Nat → Nat → Int32
abbrev xL : Type := Nat → Nat → Int64
/-- where the world begins; the script's address; the array classes; the classes -/
abbrev xG : Type := Nat × Nat × (Nat → ClassId) × va_G
/-- a value of the abstract world as the machine has it: references count from the world's begin; a float stands for the script -/
def xv (g : xG) (v : Value) : Value := match v with
  | .ref i => .ref (g.1 + i)
  | .float _ => .ref g.2.1
  | .int x => .int x
  | .long x => .long x
  | .double x => .double x
  | .null => .null
  | .retAddr x => .retAddr x
theorem xv_cat (g : xG) (v : Value) : (xv g v).category = v.category := by cases v <;> rfl
def xfv (g : xG) (F : xF) (a j : Nat) (o : Option Value) : Value := match o with
  | none => .int (F a j)
  | some v => xv g v
def xfs (g : xG) (F : xF) (a : Nat) (fs : List (Option Value)) : List Value := fs.mapIdx (xfv g F a)
def xrs (g : xG) (rs : List (Option Nat)) : Nat → Option Nat := fun j => (rs.getD j none).map (g.1 + ·)
def xc (g : xG) (F : xF) (G : xL) (k : Nat) (o : xO) : va_E := match o with
  | .inl (t, n) => if t = 1 then .inl (g.2.2.1 t, n, .inr (.inl (G k))) else .inl (g.2.2.1 t, n, .inl (F k))
  | .inr (.inl (t, rs)) => .inl (g.2.2.1 t, rs.length, .inr (.inr (.inr (.inr (xrs g rs)))))
  | .inr (.inr (ci, fs)) => .inr (ci, xfs g F k fs)
def xw (g : xG) (F : xF) (G : xL) (S : List xO) : va_W := S.mapIdx (fun k o => (g.1 + k, xc g F G k o))
def up2 {α : Type} (F : Nat → Nat → α) (a k : Nat) (v : α) : Nat → Nat → α := fun i j => if i = a then (if j = k then v else F i j) else F i j
theorem up2_row {α : Type} (F : Nat → Nat → α) (a k : Nat) (v : α) {i : Nat} (h : i ≠ a) : up2 F a k v i = F i := by
  funext j; simp [up2, h]
theorem up2_eq {α : Type} (F : Nat → Nat → α) (a k : Nat) (v : α) : up2 F a k v a k = v := by simp [up2]
theorem up2_ne {α : Type} (F : Nat → Nat → α) (a k : Nat) (v : α) {i j : Nat} (h : i ≠ a ∨ j ≠ k) : up2 F a k v i j = F i j := by
  unfold up2
  rcases h with h | h
  · simp [h]
  · simp [h]
theorem xw_at (g : xG) (F : xF) (G : xL) (S : List xO) (k : Nat) : (xw g F G S)[k]? = (S[k]?).map (fun o => (g.1 + k, xc g F G k o)) := by
  unfold xw
  rw [List.getElem?_mapIdx]
theorem xw_some {g : xG} {F : xF} {G : xL} {S : List xO} {k : Nat} {o : xO} (h : S[k]? = some o) : (xw g F G S)[k]? = some (g.1 + k, xc g F G k o) := by
  rw [xw_at, h]; rfl
/-- the cells that may change: the world's -/
def xA (g : xG) (q : Nat) : Prop := g.1 ≤ q ∧ q < g.1 + xKK
theorem xw_D (g : xG) (F : xF) (G : xL) {S : List xO} (hl : S.length ≤ xKK) : va_D (xA g) (xw g F G S) := by
  refine ⟨fun i j p q hi hj h => ?_, fun k q hk => ?_⟩
  · rw [xw_at] at hi hj
    cases h1 : S[i]? with
    | none => rw [h1] at hi; cases hi
    | some o =>
      rw [h1] at hi
      cases h2 : S[j]? with
      | none => rw [h2] at hj; cases hj
      | some o2 =>
        rw [h2] at hj
        cases hi; cases hj
        exact Nat.add_left_cancel h
  · rw [xw_at] at hk
    cases h1 : S[k]? with
    | none => rw [h1] at hk; cases hk
    | some o =>
      rw [h1] at hk
      cases hk
      have h2 := (List.getElem?_eq_some_iff.mp h1).1
      show g.1 ≤ g.1 + k ∧ g.1 + k < g.1 + xKK
      exact ⟨Nat.le_add_right _ _, by omega⟩
theorem xfs_at (g : xG) (F : xF) (a : Nat) (fs : List (Option Value)) (k : Nat) : (xfs g F a fs)[k]? = (fs[k]?).map (xfv g F a k) := by
  unfold xfs
  rw [List.getElem?_mapIdx]
theorem xfs_len (g : xG) (F : xF) (a : Nat) (fs : List (Option Value)) : (xfs g F a fs).length = fs.length := by
  unfold xfs
  rw [List.length_mapIdx]
theorem xc_row {g : xG} {F F' : xF} {G G' : xL} {k : Nat} (o : xO) (hF : F' k = F k) (hG : G' k = G k) : xc g F' G' k o = xc g F G k o := by
  rcases o with ⟨t, n⟩ | ⟨t, rs⟩ | ⟨ci, fs⟩
  · simp only [xc, hF, hG]
  · rfl
  · simp only [xc]
    congr 2
    apply List.ext_getElem?
    intro j
    rw [xfs_at, xfs_at]
    cases fs[j]? with
    | none => rfl
    | some o => cases o <;> simp [xfv, hF]
/-- a world in which one cell differs -/
theorem xw_set {g : xG} {F F' : xF} {G G' : xL} {S S' : List xO} {a : Nat} {e : va_E} {o' : xO} (hS : S' = S.set a o') (hl : a < S.length) (he : xc g F' G' a o' = e) (hF : ∀ i, i ≠ a → F' i = F i) (hG : ∀ i, i ≠ a → G' i = G i) : (xw g F G S).set a (g.1 + a, e) = xw g F' G' S' := by
  subst hS
  subst he
  apply List.ext_getElem?
  intro i
  rw [xw_at]
  by_cases h : i = a
  · subst h
    have h1 : i < (xw g F G S).length := by unfold xw; rw [List.length_mapIdx]; exact hl
    rw [List.getElem?_set_self h1, List.getElem?_set_self hl]
    rfl
  · rw [List.getElem?_set_ne (Ne.symm h), List.getElem?_set_ne (Ne.symm h), xw_at]
    cases S[i]? with
    | none => rfl
    | some o => simp only [Option.map_some]; rw [xc_row o (hF i h) (hG i h)]
theorem set_same {α : Type} {S : List α} {a : Nat} {o : α} (h : S[a]? = some o) : S = S.set a o := by
  apply List.ext_getElem?
  intro i
  by_cases hi : i = a
  · subst hi
    rw [List.getElem?_set_self (List.getElem?_eq_some_iff.mp h).1, h]
  · rw [List.getElem?_set_ne (Ne.symm hi)]
/-- a number of an object is another one -/
theorem xw_putF {g : xG} {F : xF} {G : xL} {S : List xO} {a k ci : Nat} {fs : List (Option Value)} (v : Int32) (h : S[a]? = some (.inr (.inr (ci, fs)))) (hf : fs[k]? = some none) : (xw g F G S).set a (g.1 + a, .inr (ci, (xfs g F a fs).set k (.int v))) = xw g (up2 F a k v) G S := by
  refine xw_set (set_same h) (List.getElem?_eq_some_iff.mp h).1 ?_ (fun i hi => up2_row F a k v hi) (fun i _ => rfl)
  simp only [xc]
  congr 2
  apply List.ext_getElem?
  intro j
  have hl : k < (xfs g F a fs).length := by rw [xfs_len]; exact (List.getElem?_eq_some_iff.mp hf).1
  by_cases hj : j = k
  · subst hj
    rw [List.getElem?_set_self hl, xfs_at, hf]
    simp [xfv, up2_eq]
  · rw [List.getElem?_set_ne (Ne.symm hj), xfs_at, xfs_at]
    cases fs[j]? with
    | none => rfl
    | some o => cases o <;> simp [xfv, up2_ne F a k v (Or.inr hj)]
/-- a reference of an object is another one (constructors) -/
theorem xw_putR {g : xG} {F : xF} {G : xL} {S : List xO} {a k ci : Nat} {fs : List (Option Value)} (v : Value) (h : S[a]? = some (.inr (.inr (ci, fs)))) (hf : k < fs.length) : (xw g F G S).set a (g.1 + a, .inr (ci, (xfs g F a fs).set k (xv g v))) = xw g F G (S.set a (.inr (.inr (ci, fs.set k (some v))))) := by
  refine xw_set rfl (List.getElem?_eq_some_iff.mp h).1 ?_ (fun i _ => rfl) (fun i _ => rfl)
  simp only [xc]
  congr 2
  apply List.ext_getElem?
  intro j
  have hl : k < (xfs g F a fs).length := by rw [xfs_len]; exact hf
  by_cases hj : j = k
  · subst hj
    rw [List.getElem?_set_self hl, xfs_at, List.getElem?_set_self hf]
    rfl
  · rw [List.getElem?_set_ne (Ne.symm hj), xfs_at, xfs_at, List.getElem?_set_ne (Ne.symm hj)]
theorem xw_putA {g : xG} {F : xF} {G : xL} {S : List xO} {a n t : Nat} (ht : t ≠ 1) (j : Nat) (v : Int32) (h : S[a]? = some (.inl (t, n))) : (xw g F G S).set a (g.1 + a, .inl (g.2.2.1 t, n, .inl (upd (F a) j v))) = xw g (up2 F a j v) G S := by
  refine xw_set (set_same h) (List.getElem?_eq_some_iff.mp h).1 ?_ (fun i hi => up2_row F a j v hi) (fun i _ => rfl)
  simp only [xc, if_neg ht]
  congr 4
  funext i
  simp [up2, upd]
theorem xw_putL {g : xG} {F : xF} {G : xL} {S : List xO} {a n : Nat} (j : Nat) (v : Int64) (h : S[a]? = some (.inl (1, n))) : (xw g F G S).set a (g.1 + a, .inl (g.2.2.1 1, n, .inr (.inl (vp_updL (G a) j v)))) = xw g F (up2 G a j v) S := by
  refine xw_set (set_same h) (List.getElem?_eq_some_iff.mp h).1 ?_ (fun i _ => rfl) (fun i hi => up2_row G a j v hi)
  simp only [xc, if_pos]
  congr 5
  funext i
  simp [up2, vp_updL]
/-- a whole row of numbers is another one -/
def upR {α : Type} (F : Nat → α) (a : Nat) (f : α) : Nat → α := fun i => if i = a then f else F i
theorem upR_eq {α : Type} (F : Nat → α) (a : Nat) (f : α) : upR F a f a = f := by simp [upR]
theorem upR_ne {α : Type} (F : Nat → α) (a : Nat) (f : α) {i : Nat} (h : i ≠ a) : upR F a f i = F i := by simp [upR, h]
theorem xw_putRow {g : xG} {F : xF} {G : xL} {S : List xO} {a n : Nat} (f : Nat → Int32) (h : S[a]? = some (.inl (0, n))) : (xw g F G S).set a (g.1 + a, .inl (g.2.2.1 0, n, .inl f)) = xw g (upR F a f) G S := by
  refine xw_set (set_same h) (List.getElem?_eq_some_iff.mp h).1 ?_ (fun i hi => upR_ne F a f hi) (fun i _ => rfl)
  simp only [xc, upR_eq]
  rfl
/-- a new cell -/
theorem xw_push (g : xG) (F : xF) (G : xL) (S : List xO) (o : xO) : xw g F G S ++ [(g.1 + S.length, xc g F G S.length o)] = xw g F G (S ++ [o]) := by
  unfold xw
  rw [List.mapIdx_append]
  simp
/-- fresh rows of numbers -/
theorem xw_fresh {g : xG} {F F' : xF} {G G' : xL} {S : List xO} (hF : ∀ i, i < S.length → F' i = F i) (hG : ∀ i, i < S.length → G' i = G i) : xw g F G S = xw g F' G' S := by
  apply List.ext_getElem?
  intro i
  rw [xw_at, xw_at]
  cases h : S[i]? with
  | none => rfl
  | some o =>
    have hi := (List.getElem?_eq_some_iff.mp h).1
    simp only [Option.map_some]
    rw [xc_row o (hF i hi) (hG i hi)]
/-! locals: a list of what is known of each -/
def xlg : List (Option Value) → Nat → Option Value
  | [], _ => none
  | o :: _, 0 => o
  | _ :: r, n + 1 => xlg r n
def xls : List (Option Value) → Nat → Value → List (Option Value)
  | [], _, _ => []
  | _ :: r, 0, v => some v :: r
  | o :: r, n + 1, v => o :: xls r n v
/-- what is stored at k tears no long apart -/
def xl1 (lv : List (Option Value)) (k : Nat) : Bool := match k with
  | 0 => true
  | j + 1 => match xlg lv j with
    | some v => v.category == 1
    | none => true
def xal (g : xG) : Nat → List (Option Value) → List (Nat × Value)
  | _, [] => []
  | i, none :: r => xal g (i + 1) r
  | i, some v :: r => (i, xv g v) :: xal g (i + 1) r
theorem xal_ge {g : xG} : ∀ (lv : List (Option Value)) (i : Nat) (q : Nat × Value), q ∈ xal g i lv → i ≤ q.1
  | [], _, _, h => by simp [xal] at h
  | none :: r, i, q, h => by
    have := xal_ge r (i + 1) q h
    omega
  | some v :: r, i, q, h => by
    rcases List.mem_cons.mp h with h | h
    · subst h; exact Nat.le_refl _
    · have := xal_ge r (i + 1) q h
      omega
theorem xal_get {g : xG} : ∀ (lv : List (Option Value)) (i k : Nat) (v : Value), xlg lv k = some v → (i + k, xv g v) ∈ xal g i lv
  | [], _, _, _, h => by simp [xlg] at h
  | none :: r, i, 0, v, h => by simp [xlg] at h
  | some w :: r, i, 0, v, h => by
    simp only [xlg, Option.some.injEq] at h
    subst h
    exact List.mem_cons_self
  | none :: r, i, k + 1, v, h => by
    have := xal_get (g := g) r (i + 1) k v h
    rw [show i + (k + 1) = i + 1 + k by omega]
    exact this
  | some w :: r, i, k + 1, v, h => by
    have := xal_get (g := g) r (i + 1) k v h
    rw [show i + (k + 1) = i + 1 + k by omega]
    exact List.mem_cons_of_mem _ this
theorem xal_inv {g : xG} : ∀ (lv : List (Option Value)) (i : Nat) (q : Nat × Value), q ∈ xal g i lv → ∃ k v, q = (i + k, xv g v) ∧ xlg lv k = some v
  | [], _, _, h => by simp [xal] at h
  | none :: r, i, q, h => by
    obtain ⟨k, v, h1, h2⟩ := xal_inv r (i + 1) q h
    exact ⟨k + 1, v, by rw [h1]; congr 1; omega, h2⟩
  | some w :: r, i, q, h => by
    rcases List.mem_cons.mp h with h | h
    · exact ⟨0, w, h, rfl⟩
    · obtain ⟨k, v, h1, h2⟩ := xal_inv r (i + 1) q h
      exact ⟨k + 1, v, by rw [h1]; congr 1; omega, h2⟩
theorem xal_put {g : xG} : ∀ (lv : List (Option Value)) (i k : Nat) (v : Value) (q : Nat × Value), q ∈ xal g i (xls lv k v) → q = (i + k, xv g v) ∨ (q ∈ xal g i lv ∧ q.1 ≠ i + k)
  | [], _, _, _, _, h => by simp [xls, xal] at h
  | none :: r, i, 0, v, q, h => by
    rcases List.mem_cons.mp h with h | h
    · exact Or.inl h
    · have := xal_ge r (i + 1) q h
      exact Or.inr ⟨h, by omega⟩
  | some w :: r, i, 0, v, q, h => by
    rcases List.mem_cons.mp h with h | h
    · exact Or.inl h
    · have := xal_ge r (i + 1) q h
      exact Or.inr ⟨List.mem_cons_of_mem _ h, by omega⟩
  | none :: r, i, k + 1, v, q, h => by
    have h1 : q ∈ xal g (i + 1) (xls r k v) := h
    rcases xal_put r (i + 1) k v q h1 with h2 | ⟨h2, h3⟩
    · left; rw [h2]; congr 1; omega
    · right; exact ⟨h2, by omega⟩
  | some w :: r, i, k + 1, v, q, h => by
    rcases List.mem_cons.mp h with h | h
    · right
      subst h
      exact ⟨List.mem_cons_self, by omega⟩
    · have h1 : q ∈ xal g (i + 1) (xls r k v) := h
      rcases xal_put r (i + 1) k v q h1 with h2 | ⟨h2, h3⟩
      · left; rw [h2]; congr 1; omega
      · right; exact ⟨List.mem_cons_of_mem _ h2, by omega⟩
def xl (g : xG) (ls : Array Slot) (nL : Nat) (lv : List (Option Value)) : Prop := lv_has ls nL (xal g 0 lv)
theorem xl.get {g : xG} {ls : Array Slot} {nL : Nat} {lv : List (Option Value)} (h : xl g ls nL lv) {k : Nat} {v : Value} (hk : xlg lv k = some v) : ls[k]? = some (.val (xv g v)) := by
  have := h.2.2 _ (xal_get lv 0 k v hk)
  simpa using this
theorem xl.sub {g : xG} {ls : Array Slot} {nL : Nat} {l l' : List (Nat × Value)} (h : lv_has ls nL l) (hs : ∀ q, q ∈ l' → q ∈ l) : lv_has ls nL l' := ⟨h.1, h.2.1, fun q hq => h.2.2 q (hs q hq)⟩
theorem xl.put {g : xG} {ls' : Array Slot} {nL k : Nat} {lv : List (Option Value)} {v : Value} (hc : xl1 lv k = true) (h : lv_has ls' nL ((k, xv g v) :: (xal g 0 lv).filter (fun q => !(q.1 == k) && !(q.1 + 1 == k && q.2.category == 2)))) : xl g ls' nL (xls lv k v) := by
  refine xl.sub (g := g) h (fun q hq => ?_)
  rcases xal_put lv 0 k v q hq with h1 | ⟨h1, h2⟩
  · rw [h1, Nat.zero_add]; exact List.mem_cons_self
  · refine List.mem_cons_of_mem _ (List.mem_filter.mpr ⟨h1, ?_⟩)
    have h4 : q.1 ≠ k := by omega
    obtain ⟨j, v2, h5, h6⟩ := xal_inv lv 0 q h1
    subst h5
    by_cases h7 : 0 + j + 1 = k
    · subst h7
      have h8 : v2.category = 1 := by
        have := hc
        simp only [xl1, Nat.zero_add, h6, beq_iff_eq] at this
        exact this
      have h9 : (xv g v2).category = 1 := by rw [xv_cat]; exact h8
      simp [h9]
    · have h10 : ¬ j = k := by simpa using h4
      have h11 : ¬ j + 1 = k := by simpa using h7
      simp [h10, h11]
theorem xl.weak {g : xG} {ls : Array Slot} {nL : Nat} {lv lv' : List (Option Value)} (h : xl g ls nL lv) (hs : ∀ k v, xlg lv' k = some v → xlg lv k = some v) : xl g ls nL lv' := by
  refine xl.sub (g := g) h (fun q hq => ?_)
  obtain ⟨k, v, h1, h2⟩ := xal_inv lv' 0 q hq
  have := xal_get (g := g) lv 0 k v (hs k v h2)
  rw [h1]
  exact this
/-- a long is stored -/
def xls2 : List (Option Value) → Nat → Value → List (Option Value)
  | [], _, _ => []
  | [_], 0, v => [some v]
  | _ :: _ :: r, 0, v => some v :: none :: r
  | o :: r, n + 1, v => o :: xls2 r n v
theorem xal_put2 {g : xG} : ∀ (lv : List (Option Value)) (i k : Nat) (v : Value) (q : Nat × Value), q ∈ xal g i (xls2 lv k v) → q = (i + k, xv g v) ∨ (q ∈ xal g i lv ∧ q.1 ≠ i + k ∧ q.1 ≠ i + k + 1)
  | [], _, _, _, _, h => by simp [xls2, xal] at h
  | [o], i, 0, v, q, h => by
    simp [xls2, xal] at h
    exact Or.inl h
  | o :: o2 :: r, i, 0, v, q, h => by
    have h0 : q ∈ (i, xv g v) :: xal g (i + 1 + 1) r := h
    rcases List.mem_cons.mp h0 with hh | hh
    · exact Or.inl hh
    · have h1 := xal_ge r (i + 1 + 1) q hh
      have h2 : q ∈ xal g i (o :: o2 :: r) := by
        have h3 : q ∈ xal g (i + 1) (o2 :: r) := by
          cases o2 with
          | none => exact hh
          | some w => exact List.mem_cons_of_mem _ hh
        cases o with
        | none => exact h3
        | some w => exact List.mem_cons_of_mem _ h3
      exact Or.inr ⟨h2, by omega, by omega⟩
  | none :: r, i, k + 1, v, q, h => by
    have h1 : q ∈ xal g (i + 1) (xls2 r k v) := by
      cases r <;> exact h
    rcases xal_put2 r (i + 1) k v q h1 with h2 | ⟨h2, h3, h4⟩
    · left; rw [h2]; congr 1; omega
    · right; exact ⟨h2, by omega, by omega⟩
  | some w :: r, i, k + 1, v, q, h => by
    have h0 : q ∈ (i, xv g w) :: xal g (i + 1) (xls2 r k v) := by
      cases r <;> exact h
    rcases List.mem_cons.mp h0 with h | h
    · right
      subst h
      exact ⟨List.mem_cons_self, by omega, by omega⟩
    · rcases xal_put2 r (i + 1) k v q h with h2 | ⟨h2, h3, h4⟩
      · left; rw [h2]; congr 1; omega
      · right; exact ⟨List.mem_cons_of_mem _ h2, by omega, by omega⟩
theorem xl.put2 {g : xG} {ls' : Array Slot} {nL k : Nat} {lv : List (Option Value)} {v : Value} (hc : xl1 lv k = true) (h : lv_has ls' nL ((k, xv g v) :: (xal g 0 lv).filter (fun q => !(q.1 == k) && (!(q.1 == k + 1) && !(q.1 + 1 == k && q.2.category == 2))))) : xl g ls' nL (xls2 lv k v) := by
  refine xl.sub (g := g) h (fun q hq => ?_)
  rcases xal_put2 lv 0 k v q hq with h1 | ⟨h1, h2, h3⟩
  · rw [h1, Nat.zero_add]; exact List.mem_cons_self
  · refine List.mem_cons_of_mem _ (List.mem_filter.mpr ⟨h1, ?_⟩)
    obtain ⟨j, v2, h5, h6⟩ := xal_inv lv 0 q h1
    subst h5
    have h10 : ¬ j = k := by simpa using h2
    have h12 : ¬ j = k + 1 := by simpa using h3
    by_cases h7 : j + 1 = k
    · subst h7
      have h8 : v2.category = 1 := by
        have := hc
        simp only [xl1, h6, beq_iff_eq] at this
        exact this
      have h9 : (xv g v2).category = 1 := by rw [xv_cat]; exact h8
      simp [h9, h12]
    · simp [h10, h12, h7]
theorem xTy0 (g : xG) : (xTy g.2.2.1)[0]? = some (g.2.2.1 0, .int) := rfl
theorem xTy1 (g : xG) : (xTy g.2.2.1)[1]? = some (g.2.2.1 1, .long) := rfl
theorem xTy2 (g : xG) : (xTy g.2.2.1)[2]? = some (g.2.2.1 2, .object "PaletteFrames$Frame") := rfl
theorem xTy3 (g : xG) : (xTy g.2.2.1)[3]? = some (g.2.2.1 3, .byte) := rfl
def xK (g : xG) (U : State) : Prop := va_K g.2.2.2 xCl (xTy g.2.2.1) U ∧ xNW U
/-- what a field's link needs of the tables -/
def xFl (own : String) (idx ci k : Nat) : Prop := ∃ q : vw_C, xCl[ci]? = some q ∧ k < q.2.2 ∧ (∀ w ∈ u_ws q.1 q.2.1 q.2.2, w ∈ xGT) ∧ (Cond.fieldLink own idx (q.2.1 k).1 (q.2.1 k).2.1 (q.2.1 k).2.2.1 ∈ xGT ∨ ∃ host, Cond.fieldLinkNest own idx (q.2.1 k).1 (q.2.1 k).2.1 (q.2.1 k).2.2.1 host ∈ xNT)
def xFt (ci : Nat) : Prop := ∃ (q : vw_C) (t0 : Nat → FieldType), xCl[ci]? = some q ∧ (∀ k, k < q.2.2 → parseFieldDescriptor (q.2.1 k).2.2.1 = some (t0 k)) ∧ ∀ a, a < q.2.2 → ∀ b, b < q.2.2 → a ≠ b → (q.2.1 a).2.1 ≠ (q.2.1 b).2.1
def xFI (ci k : Nat) : Prop := ∃ q : vw_C, xCl[ci]? = some q ∧ (q.2.1 k).2.2.2 = false ∧ (q.2.1 k).2.2.1 = "I"
def xFIF (own : String) (idx ci k : Nat) : Prop := ∃ q : vw_C, xCl[ci]? = some q ∧ (q.2.1 k).2.2.2 = true ∧ (q.2.1 k).2.2.1 = "I" ∧ (q.2.1 k).1 = own ∧ Cond.fieldLink own idx (q.2.1 k).1 (q.2.1 k).2.1 (q.2.1 k).2.2.1 ∈ xGT
end
section
section XV
variable {p : Program} {l : Launch} {e : Env} {R : Room} {s : State} {m : MethodId} {args : Array Value} {below : List Frame} {meth : Method} {c : Code} {Q : State → Prop}
variable {cc : ByteArray} {nL : Nat} {own : String} {g : xG} {S : List xO} {F : xF} {G : xL} {cells slots pc : Nat} {lv : List (Option Value)} {st : List Value}
/-- what holds all through a method's run -/
def Cx (p : Program) (s : State) (m : MethodId) (args : Array Value) (meth : Method) (c : Code) (cc : ByteArray) (nL : Nat) (own : String) (g : xG) : Prop :=
  p.tables.exec = Jvm.exec ∧ c.code = cc ∧ c.maxLocals = nL ∧ s.vm.findClass own = some m.cls ∧ (∀ w ∈ xGT, w.before args s = true) ∧ xK g s ∧ meth.locks = false ∧ g.1 ≤ s.heap.size
theorem Cx.x (C : Cx p s m args meth c cc nL own g) : p.tables.exec = Jvm.exec := C.1
theorem Cx.b (C : Cx p s m args meth c cc nL own g) : c.code = cc := C.2.1
theorem Cx.ml (C : Cx p s m args meth c cc nL own g) : c.maxLocals = nL := C.2.2.1
theorem Cx.ow (C : Cx p s m args meth c cc nL own g) : s.vm.findClass own = some m.cls := C.2.2.2.1
theorem Cx.ts (C : Cx p s m args meth c cc nL own g) : ∀ w ∈ xGT, w.before args s = true := C.2.2.2.2.1
theorem Cx.k (C : Cx p s m args meth c cc nL own g) : va_K g.2.2.2 xCl (xTy g.2.2.1) s := C.2.2.2.2.2.1.1
theorem Cx.nw (C : Cx p s m args meth c cc nL own g) : xNW s := C.2.2.2.2.2.1.2
theorem Cx.kk (C : Cx p s m args meth c cc nL own g) : xK g s := C.2.2.2.2.2.1
theorem Cx.lk (C : Cx p s m args meth c cc nL own g) : meth.locks = false := C.2.2.2.2.2.2.1
theorem Cx.hz (C : Cx p s m args meth c cc nL own g) : g.1 ≤ s.heap.size := C.2.2.2.2.2.2.2
/-- from every heap that holds the abstract world: the machine comes to Q -/
def V (p : Program) (l : Launch) (e : Env) (R : Room) (s : State) (m : MethodId) (args : Array Value) (below : List Frame) (meth : Method) (c : Code) (Q : State → Prop) (nL : Nat) (g : xG) (S : List xO) (F : xF) (G : xL) (cells slots pc : Nat) (lv : List (Option Value)) (st : List Value) : Prop :=
  ∀ (H : Heap) (locs : List Loc) (ls : Array Slot), S.length ≤ xKK → va_P g.2.2.2 xCl (xw g F G S) H → va_S (xA g) s.heap H locs → xl g ls nL lv → W p l e R s m args below meth c H locs cells slots Q (F0 m pc ls (st.map (xv g)))

theorem V.iadd (C : Cx p s m args meth c cc nL own g) {x1 y1 : Int32} (hd : decode cc pc = .ok (.iadd, 1)) (kk : V p l e R s m args below meth c Q nL g S F G cells slots (pc + 1) lv (.int (x1 + y1) :: st)) : V p l e R s m args below meth c Q nL g S F G cells slots pc lv (.int y1 :: .int x1 :: st) := fun H locs ls h1 h2 h3 h4 => lv_iadd C.x C.b hd (kk H locs ls h1 h2 h3 h4)
theorem V.isub (C : Cx p s m args meth c cc nL own g) {x1 y1 : Int32} (hd : decode cc pc = .ok (.isub, 1)) (kk : V p l e R s m args below meth c Q nL g S F G cells slots (pc + 1) lv (.int (x1 - y1) :: st)) : V p l e R s m args below meth c Q nL g S F G cells slots pc lv (.int y1 :: .int x1 :: st) := fun H locs ls h1 h2 h3 h4 => lv_isub C.x C.b hd (kk H locs ls h1 h2 h3 h4)
theorem V.imul (C : Cx p s m args meth c cc nL own g) {x1 y1 : Int32} (hd : decode cc pc = .ok (.imul, 1)) (kk : V p l e R s m args below meth c Q nL g S F G cells slots (pc + 1) lv (.int (x1 * y1) :: st)) : V p l e R s m args below meth c Q nL g S F G cells slots pc lv (.int y1 :: .int x1 :: st) := fun H locs ls h1 h2 h3 h4 => lv_imul C.x C.b hd (kk H locs ls h1 h2 h3 h4)
theorem V.iand (C : Cx p s m args meth c cc nL own g) {x1 y1 : Int32} (hd : decode cc pc = .ok (.iand, 1)) (kk : V p l e R s m args below meth c Q nL g S F G cells slots (pc + 1) lv (.int (x1 &&& y1) :: st)) : V p l e R s m args below meth c Q nL g S F G cells slots pc lv (.int y1 :: .int x1 :: st) := fun H locs ls h1 h2 h3 h4 => lv_iand C.x C.b hd (kk H locs ls h1 h2 h3 h4)
theorem V.ior (C : Cx p s m args meth c cc nL own g) {x1 y1 : Int32} (hd : decode cc pc = .ok (.ior, 1)) (kk : V p l e R s m args below meth c Q nL g S F G cells slots (pc + 1) lv (.int (x1 ||| y1) :: st)) : V p l e R s m args below meth c Q nL g S F G cells slots pc lv (.int y1 :: .int x1 :: st) := fun H locs ls h1 h2 h3 h4 => lv_ior C.x C.b hd (kk H locs ls h1 h2 h3 h4)
theorem V.ixor (C : Cx p s m args meth c cc nL own g) {x1 y1 : Int32} (hd : decode cc pc = .ok (.ixor, 1)) (kk : V p l e R s m args below meth c Q nL g S F G cells slots (pc + 1) lv (.int (x1 ^^^ y1) :: st)) : V p l e R s m args below meth c Q nL g S F G cells slots pc lv (.int y1 :: .int x1 :: st) := fun H locs ls h1 h2 h3 h4 => lv_ixor C.x C.b hd (kk H locs ls h1 h2 h3 h4)
theorem V.ishl (C : Cx p s m args meth c cc nL own g) {x1 y1 : Int32} (hd : decode cc pc = .ok (.ishl, 1)) (kk : V p l e R s m args below meth c Q nL g S F G cells slots (pc + 1) lv (.int (x1 <<< (y1 &&& 31)) :: st)) : V p l e R s m args below meth c Q nL g S F G cells slots pc lv (.int y1 :: .int x1 :: st) := fun H locs ls h1 h2 h3 h4 => lv_ishl C.x C.b hd (kk H locs ls h1 h2 h3 h4)
theorem V.ishr (C : Cx p s m args meth c cc nL own g) {x1 y1 : Int32} (hd : decode cc pc = .ok (.ishr, 1)) (kk : V p l e R s m args below meth c Q nL g S F G cells slots (pc + 1) lv (.int (x1 >>> (y1 &&& 31)) :: st)) : V p l e R s m args below meth c Q nL g S F G cells slots pc lv (.int y1 :: .int x1 :: st) := fun H locs ls h1 h2 h3 h4 => lv_ishr C.x C.b hd (kk H locs ls h1 h2 h3 h4)
theorem V.iushr (C : Cx p s m args meth c cc nL own g) {x1 y1 : Int32} (hd : decode cc pc = .ok (.iushr, 1)) (kk : V p l e R s m args below meth c Q nL g S F G cells slots (pc + 1) lv (.int ((x1.toUInt32 >>> (y1.toUInt32 &&& Int32.toUInt32 31)).toInt32) :: st)) : V p l e R s m args below meth c Q nL g S F G cells slots pc lv (.int y1 :: .int x1 :: st) := fun H locs ls h1 h2 h3 h4 => lv_iushr C.x C.b hd rfl (kk H locs ls h1 h2 h3 h4)
theorem V.idiv (C : Cx p s m args meth c cc nL own g) {x1 y1 : Int32} (hne : ¬ y1 = 0) (hd : decode cc pc = .ok (.idiv, 1)) (kk : V p l e R s m args below meth c Q nL g S F G cells slots (pc + 1) lv (.int (x1 / y1) :: st)) : V p l e R s m args below meth c Q nL g S F G cells slots pc lv (.int y1 :: .int x1 :: st) := fun H locs ls h1 h2 h3 h4 => lv_idiv C.x C.b hd hne (kk H locs ls h1 h2 h3 h4)
theorem V.irem (C : Cx p s m args meth c cc nL own g) {x1 y1 : Int32} (hne : ¬ y1 = 0) (hd : decode cc pc = .ok (.irem, 1)) (kk : V p l e R s m args below meth c Q nL g S F G cells slots (pc + 1) lv (.int (x1 - x1 / y1 * y1) :: st)) : V p l e R s m args below meth c Q nL g S F G cells slots pc lv (.int y1 :: .int x1 :: st) := fun H locs ls h1 h2 h3 h4 => lv_irem C.x C.b hd hne (kk H locs ls h1 h2 h3 h4)
theorem V.lrem (C : Cx p s m args meth c cc nL own g) {x1 y1 : Int64} (hne : ¬ y1 = 0) (hd : decode cc pc = .ok (.lrem, 1)) (kk : V p l e R s m args below meth c Q nL g S F G cells slots (pc + 1) lv (.long (x1 - x1 / y1 * y1) :: st)) : V p l e R s m args below meth c Q nL g S F G cells slots pc lv (.long y1 :: .long x1 :: st) := fun H locs ls h1 h2 h3 h4 => lv_lrem C.x C.b hd hne (kk H locs ls h1 h2 h3 h4)
theorem V.ineg (C : Cx p s m args meth c cc nL own g) {x1 : Int32} (hd : decode cc pc = .ok (.ineg, 1)) (kk : V p l e R s m args below meth c Q nL g S F G cells slots (pc + 1) lv (.int (-x1) :: st)) : V p l e R s m args below meth c Q nL g S F G cells slots pc lv (.int x1 :: st) := fun H locs ls h1 h2 h3 h4 => lv_ineg C.x C.b hd (kk H locs ls h1 h2 h3 h4)
theorem V.ladd (C : Cx p s m args meth c cc nL own g) {x1 y1 : Int64} (hd : decode cc pc = .ok (.ladd, 1)) (kk : V p l e R s m args below meth c Q nL g S F G cells slots (pc + 1) lv (.long (x1 + y1) :: st)) : V p l e R s m args below meth c Q nL g S F G cells slots pc lv (.long y1 :: .long x1 :: st) := fun H locs ls h1 h2 h3 h4 => lv_ladd C.x C.b hd (kk H locs ls h1 h2 h3 h4)
theorem V.lsub (C : Cx p s m args meth c cc nL own g) {x1 y1 : Int64} (hd : decode cc pc = .ok (.lsub, 1)) (kk : V p l e R s m args below meth c Q nL g S F G cells slots (pc + 1) lv (.long (x1 - y1) :: st)) : V p l e R s m args below meth c Q nL g S F G cells slots pc lv (.long y1 :: .long x1 :: st) := fun H locs ls h1 h2 h3 h4 => lv_lsub C.x C.b hd (kk H locs ls h1 h2 h3 h4)
theorem V.lmul (C : Cx p s m args meth c cc nL own g) {x1 y1 : Int64} (hd : decode cc pc = .ok (.lmul, 1)) (kk : V p l e R s m args below meth c Q nL g S F G cells slots (pc + 1) lv (.long (x1 * y1) :: st)) : V p l e R s m args below meth c Q nL g S F G cells slots pc lv (.long y1 :: .long x1 :: st) := fun H locs ls h1 h2 h3 h4 => lv_lmul C.x C.b hd (kk H locs ls h1 h2 h3 h4)
theorem V.land (C : Cx p s m args meth c cc nL own g) {x1 y1 : Int64} (hd : decode cc pc = .ok (.land, 1)) (kk : V p l e R s m args below meth c Q nL g S F G cells slots (pc + 1) lv (.long (x1 &&& y1) :: st)) : V p l e R s m args below meth c Q nL g S F G cells slots pc lv (.long y1 :: .long x1 :: st) := fun H locs ls h1 h2 h3 h4 => lv_land C.x C.b hd (kk H locs ls h1 h2 h3 h4)
theorem V.lor (C : Cx p s m args meth c cc nL own g) {x1 y1 : Int64} (hd : decode cc pc = .ok (.lor, 1)) (kk : V p l e R s m args below meth c Q nL g S F G cells slots (pc + 1) lv (.long (x1 ||| y1) :: st)) : V p l e R s m args below meth c Q nL g S F G cells slots pc lv (.long y1 :: .long x1 :: st) := fun H locs ls h1 h2 h3 h4 => lv_lor C.x C.b hd (kk H locs ls h1 h2 h3 h4)
theorem V.lxor (C : Cx p s m args meth c cc nL own g) {x1 y1 : Int64} (hd : decode cc pc = .ok (.lxor, 1)) (kk : V p l e R s m args below meth c Q nL g S F G cells slots (pc + 1) lv (.long (x1 ^^^ y1) :: st)) : V p l e R s m args below meth c Q nL g S F G cells slots pc lv (.long y1 :: .long x1 :: st) := fun H locs ls h1 h2 h3 h4 => lv_lxor C.x C.b hd (kk H locs ls h1 h2 h3 h4)
theorem V.lcmp (C : Cx p s m args meth c cc nL own g) {x1 y1 : Int64} (hd : decode cc pc = .ok (.lcmp, 1)) (kk : V p l e R s m args below meth c Q nL g S F G cells slots (pc + 1) lv (.int (lg_cmp x1 y1) :: st)) : V p l e R s m args below meth c Q nL g S F G cells slots pc lv (.long y1 :: .long x1 :: st) := fun H locs ls h1 h2 h3 h4 => W.lcmp C.x C.b hd (kk H locs ls h1 h2 h3 h4)
theorem V.i2l (C : Cx p s m args meth c cc nL own g) {x1 : Int32} (hd : decode cc pc = .ok (.i2l, 1)) (kk : V p l e R s m args below meth c Q nL g S F G cells slots (pc + 1) lv (.long x1.toInt64 :: st)) : V p l e R s m args below meth c Q nL g S F G cells slots pc lv (.int x1 :: st) := fun H locs ls h1 h2 h3 h4 => lv_i2l C.x C.b hd rfl (kk H locs ls h1 h2 h3 h4)
theorem V.l2i (C : Cx p s m args meth c cc nL own g) {x1 : Int64} (hd : decode cc pc = .ok (.l2i, 1)) (kk : V p l e R s m args below meth c Q nL g S F G cells slots (pc + 1) lv (.int x1.toInt32 :: st)) : V p l e R s m args below meth c Q nL g S F G cells slots pc lv (.long x1 :: st) := fun H locs ls h1 h2 h3 h4 => lv_l2i C.x C.b hd rfl (kk H locs ls h1 h2 h3 h4)
theorem V.i2b (C : Cx p s m args meth c cc nL own g) {x1 : Int32} (hd : decode cc pc = .ok (.i2b, 1)) (kk : V p l e R s m args below meth c Q nL g S F G cells slots (pc + 1) lv (.int x1.toInt8.toInt32 :: st)) : V p l e R s m args below meth c Q nL g S F G cells slots pc lv (.int x1 :: st) := fun H locs ls h1 h2 h3 h4 => lv_i2b C.x C.b hd rfl (kk H locs ls h1 h2 h3 h4)
theorem V.iconst (C : Cx p s m args meth c cc nL own g) {n : Int} (v : Int32) (hv : Int32.ofInt n = v) (hd : decode cc pc = .ok (.iconst n, 1)) (kk : V p l e R s m args below meth c Q nL g S F G cells slots (pc + 1) lv (.int v :: st)) : V p l e R s m args below meth c Q nL g S F G cells slots pc lv (st) := fun H locs ls h1 h2 h3 h4 => lv_iconst C.x C.b hd hv (kk H locs ls h1 h2 h3 h4)
theorem V.bipush (C : Cx p s m args meth c cc nL own g) {n : Int} (v : Int32) (hv : (Int8.ofInt n).toInt32 = v) (hd : decode cc pc = .ok (.bipush n, 2)) (kk : V p l e R s m args below meth c Q nL g S F G cells slots (pc + 2) lv (.int v :: st)) : V p l e R s m args below meth c Q nL g S F G cells slots pc lv (st) := fun H locs ls h1 h2 h3 h4 => lv_bipush C.x C.b hd hv (kk H locs ls h1 h2 h3 h4)
theorem V.sipush (C : Cx p s m args meth c cc nL own g) {n : Int} (v : Int32) (hv : (Int16.ofInt n).toInt32 = v) (hd : decode cc pc = .ok (.sipush n, 3)) (kk : V p l e R s m args below meth c Q nL g S F G cells slots (pc + 3) lv (.int v :: st)) : V p l e R s m args below meth c Q nL g S F G cells slots pc lv (st) := fun H locs ls h1 h2 h3 h4 => lv_sipush C.x C.b hd hv (kk H locs ls h1 h2 h3 h4)
theorem V.lconst (C : Cx p s m args meth c cc nL own g) {n : Fin 2} (v : Int64) (hv : Int64.ofNat (n : Nat) = v) (hd : decode cc pc = .ok (.lconst n, 1)) (kk : V p l e R s m args below meth c Q nL g S F G cells slots (pc + 1) lv (.long v :: st)) : V p l e R s m args below meth c Q nL g S F G cells slots pc lv (st) := fun H locs ls h1 h2 h3 h4 => lv_lconst C.x C.b hd hv (kk H locs ls h1 h2 h3 h4)
theorem V.ldc (C : Cx p s m args meth c cc nL own g) {idx : Nat} {v : Int32} (hw : Cond.constant own idx v ∈ xGT) (hd : decode cc pc = .ok (.ldc idx, 2)) (kk : V p l e R s m args below meth c Q nL g S F G cells slots (pc + 2) lv (.int v :: st)) : V p l e R s m args below meth c Q nL g S F G cells slots pc lv (st) := fun H locs ls h1 h2 h3 h4 => lv_ldc C.x C.b C.ow (C.ts _ hw) hd (kk H locs ls h1 h2 h3 h4)
theorem V.ldcw (C : Cx p s m args meth c cc nL own g) {idx : Nat} {v : Int32} (hw : Cond.constant own idx v ∈ xGT) (hd : decode cc pc = .ok (.ldc_w idx, 3)) (kk : V p l e R s m args below meth c Q nL g S F G cells slots (pc + 3) lv (.int v :: st)) : V p l e R s m args below meth c Q nL g S F G cells slots pc lv (st) := fun H locs ls h1 h2 h3 h4 => lv_ldcw C.x C.b C.ow (C.ts _ hw) hd (kk H locs ls h1 h2 h3 h4)
theorem V.ldc2 (C : Cx p s m args meth c cc nL own g) {idx : Nat} {v : Int64} (hw : Cond.constantLong own idx v ∈ xGT) (hd : decode cc pc = .ok (.ldc2_w idx, 3)) (kk : V p l e R s m args below meth c Q nL g S F G cells slots (pc + 3) lv (.long v :: st)) : V p l e R s m args below meth c Q nL g S F G cells slots pc lv (st) := fun H locs ls h1 h2 h3 h4 => lv_ldc2 C.x C.b C.ow (C.ts _ hw) hd (kk H locs ls h1 h2 h3 h4)
theorem V.iload_n (C : Cx p s m args meth c cc nL own g) {k : Fin 4} (i : Nat) {v : Int32} (hi : (k : Nat) = i) (hl : xlg lv i = some (.int v)) (hd : decode cc pc = .ok (.iload_n k, 1)) (kk : V p l e R s m args below meth c Q nL g S F G cells slots (pc + 1) lv (.int v :: st)) : V p l e R s m args below meth c Q nL g S F G cells slots pc lv (st) := fun H locs ls h1 h2 h3 h4 => lv_iload_n C.x C.b hd hi (h4.get hl) (kk H locs ls h1 h2 h3 h4)
theorem V.iload (C : Cx p s m args meth c cc nL own g) {i : Nat} {v : Int32} (hl : xlg lv i = some (.int v)) (hd : decode cc pc = .ok (.iload i, 2)) (kk : V p l e R s m args below meth c Q nL g S F G cells slots (pc + 2) lv (.int v :: st)) : V p l e R s m args below meth c Q nL g S F G cells slots pc lv (st) := fun H locs ls h1 h2 h3 h4 => lv_iload C.x C.b hd (h4.get hl) (kk H locs ls h1 h2 h3 h4)
theorem V.aload_n (C : Cx p s m args meth c cc nL own g) {k : Fin 4} (i : Nat) {v : Nat} (hi : (k : Nat) = i) (hl : xlg lv i = some (.ref v)) (hd : decode cc pc = .ok (.aload_n k, 1)) (kk : V p l e R s m args below meth c Q nL g S F G cells slots (pc + 1) lv (.ref v :: st)) : V p l e R s m args below meth c Q nL g S F G cells slots pc lv (st) := fun H locs ls h1 h2 h3 h4 => lv_aload_n C.x C.b hd hi (h4.get hl) (kk H locs ls h1 h2 h3 h4)
theorem V.aload (C : Cx p s m args meth c cc nL own g) {i : Nat} {v : Nat} (hl : xlg lv i = some (.ref v)) (hd : decode cc pc = .ok (.aload i, 2)) (kk : V p l e R s m args below meth c Q nL g S F G cells slots (pc + 2) lv (.ref v :: st)) : V p l e R s m args below meth c Q nL g S F G cells slots pc lv (st) := fun H locs ls h1 h2 h3 h4 => lv_aload C.x C.b hd (h4.get hl) (kk H locs ls h1 h2 h3 h4)
theorem V.lload_n (C : Cx p s m args meth c cc nL own g) {k : Fin 4} (i : Nat) {v : Int64} (hi : (k : Nat) = i) (hl : xlg lv i = some (.long v)) (hd : decode cc pc = .ok (.lload_n k, 1)) (kk : V p l e R s m args below meth c Q nL g S F G cells slots (pc + 1) lv (.long v :: st)) : V p l e R s m args below meth c Q nL g S F G cells slots pc lv (st) := fun H locs ls h1 h2 h3 h4 => lv_lload_n C.x C.b hd hi (h4.get hl) (kk H locs ls h1 h2 h3 h4)
theorem V.lload (C : Cx p s m args meth c cc nL own g) {i : Nat} {v : Int64} (hl : xlg lv i = some (.long v)) (hd : decode cc pc = .ok (.lload i, 2)) (kk : V p l e R s m args below meth c Q nL g S F G cells slots (pc + 2) lv (.long v :: st)) : V p l e R s m args below meth c Q nL g S F G cells slots pc lv (st) := fun H locs ls h1 h2 h3 h4 => lv_lload C.x C.b hd (h4.get hl) (kk H locs ls h1 h2 h3 h4)
theorem V.sload_n (C : Cx p s m args meth c cc nL own g) {k : Fin 4} (i : Nat) {v : UInt32} (hi : (k : Nat) = i) (hl : xlg lv i = some (.float v)) (hd : decode cc pc = .ok (.aload_n k, 1)) (kk : V p l e R s m args below meth c Q nL g S F G cells slots (pc + 1) lv (.float v :: st)) : V p l e R s m args below meth c Q nL g S F G cells slots pc lv (st) := fun H locs ls h1 h2 h3 h4 => lv_aload_n C.x C.b hd hi (h4.get hl) (kk H locs ls h1 h2 h3 h4)
theorem V.sload (C : Cx p s m args meth c cc nL own g) {i : Nat} {v : UInt32} (hl : xlg lv i = some (.float v)) (hd : decode cc pc = .ok (.aload i, 2)) (kk : V p l e R s m args below meth c Q nL g S F G cells slots (pc + 2) lv (.float v :: st)) : V p l e R s m args below meth c Q nL g S F G cells slots pc lv (st) := fun H locs ls h1 h2 h3 h4 => lv_aload C.x C.b hd (h4.get hl) (kk H locs ls h1 h2 h3 h4)
theorem V.dup (C : Cx p s m args meth c cc nL own g) {v : Value} (hv : v.category = 1) (hd : decode cc pc = .ok (.dup, 1)) (kk : V p l e R s m args below meth c Q nL g S F G cells slots (pc + 1) lv (v :: v :: st)) : V p l e R s m args below meth c Q nL g S F G cells slots pc lv (v :: st) := fun H locs ls h1 h2 h3 h4 => lv_dup C.x C.b hd (by rw [xv_cat]; exact hv) (kk H locs ls h1 h2 h3 h4)
theorem V.pop (C : Cx p s m args meth c cc nL own g) {v : Value} (hv : v.category = 1) (hd : decode cc pc = .ok (.pop, 1)) (kk : V p l e R s m args below meth c Q nL g S F G cells slots (pc + 1) lv (st)) : V p l e R s m args below meth c Q nL g S F G cells slots pc lv (v :: st) := fun H locs ls h1 h2 h3 h4 => lv_pop C.x C.b hd (by rw [xv_cat]; exact hv) (kk H locs ls h1 h2 h3 h4)
theorem V.dup_x1 (C : Cx p s m args meth c cc nL own g) {v w : Value} (hv : v.category = 1) (hw : w.category = 1) (hd : decode cc pc = .ok (.dup_x1, 1)) (kk : V p l e R s m args below meth c Q nL g S F G cells slots (pc + 1) lv (v :: w :: v :: st)) : V p l e R s m args below meth c Q nL g S F G cells slots pc lv (v :: w :: st) := fun H locs ls h1 h2 h3 h4 => lv_dup_x1 C.x C.b hd (by rw [xv_cat]; exact hv) (by rw [xv_cat]; exact hw) (kk H locs ls h1 h2 h3 h4)
theorem V.dup_x2 (C : Cx p s m args meth c cc nL own g) {v w u : Value} (hv : v.category = 1) (hw : w.category = 1) (hu : u.category = 1) (hd : decode cc pc = .ok (.dup_x2, 1)) (kk : V p l e R s m args below meth c Q nL g S F G cells slots (pc + 1) lv (v :: w :: u :: v :: st)) : V p l e R s m args below meth c Q nL g S F G cells slots pc lv (v :: w :: u :: st) := fun H locs ls h1 h2 h3 h4 => lv_dup_x2 C.x C.b hd (by rw [xv_cat]; exact hv) (by rw [xv_cat]; exact hw) (by rw [xv_cat]; exact hu) (kk H locs ls h1 h2 h3 h4)
theorem V.dup2 (C : Cx p s m args meth c cc nL own g) {v w : Value} (hv : v.category = 1) (hw : w.category = 1) (hd : decode cc pc = .ok (.dup2, 1)) (kk : V p l e R s m args below meth c Q nL g S F G cells slots (pc + 1) lv (v :: w :: v :: w :: st)) : V p l e R s m args below meth c Q nL g S F G cells slots pc lv (v :: w :: st) := fun H locs ls h1 h2 h3 h4 => lv_dup2_11 C.x C.b hd (by rw [xv_cat]; exact hv) (by rw [xv_cat]; exact hw) (kk H locs ls h1 h2 h3 h4)
theorem V.istore_n (C : Cx p s m args meth c cc nL own g) {k : Fin 4} (i : Nat) (hi : (k : Nat) = i) {v : Int32} (hn : i < nL) (hc : xl1 lv i = true) (hd : decode cc pc = .ok (.istore_n k, 1)) (kk : V p l e R s m args below meth c Q nL g S F G cells slots (pc + 1) (xls lv i (.int v)) st) : V p l e R s m args below meth c Q nL g S F G cells slots pc lv (.int v :: st) := fun H locs ls h1 h2 h3 h4 => lv_istore_n C.x C.b hd hi h4 hn rfl (fun ls2 h5 => kk H locs ls2 h1 h2 h3 (xl.put (v := .int v) hc h5))
theorem V.istore (C : Cx p s m args meth c cc nL own g) {i : Nat} {v : Int32} (hn : i < nL) (hc : xl1 lv i = true) (hd : decode cc pc = .ok (.istore i, 2)) (kk : V p l e R s m args below meth c Q nL g S F G cells slots (pc + 2) (xls lv i (.int v)) st) : V p l e R s m args below meth c Q nL g S F G cells slots pc lv (.int v :: st) := fun H locs ls h1 h2 h3 h4 => lv_istore C.x C.b hd h4 hn rfl (fun ls2 h5 => kk H locs ls2 h1 h2 h3 (xl.put (v := .int v) hc h5))
theorem V.astore_n (C : Cx p s m args meth c cc nL own g) {k : Fin 4} (i : Nat) (hi : (k : Nat) = i) {v : Nat} (hn : i < nL) (hc : xl1 lv i = true) (hd : decode cc pc = .ok (.astore_n k, 1)) (kk : V p l e R s m args below meth c Q nL g S F G cells slots (pc + 1) (xls lv i (.ref v)) st) : V p l e R s m args below meth c Q nL g S F G cells slots pc lv (.ref v :: st) := fun H locs ls h1 h2 h3 h4 => lv_astore_n C.x C.b hd hi h4 hn rfl (fun ls2 h5 => kk H locs ls2 h1 h2 h3 (xl.put (v := .ref v) hc h5))
theorem V.astore (C : Cx p s m args meth c cc nL own g) {i : Nat} {v : Nat} (hn : i < nL) (hc : xl1 lv i = true) (hd : decode cc pc = .ok (.astore i, 2)) (kk : V p l e R s m args below meth c Q nL g S F G cells slots (pc + 2) (xls lv i (.ref v)) st) : V p l e R s m args below meth c Q nL g S F G cells slots pc lv (.ref v :: st) := fun H locs ls h1 h2 h3 h4 => lv_astore C.x C.b hd h4 hn rfl (fun ls2 h5 => kk H locs ls2 h1 h2 h3 (xl.put (v := .ref v) hc h5))
theorem xal_ix {g : xG} : ∀ (lv : List (Option Value)) (i k : Nat) (v : Value), xlg lv k = some v → ∃ j : Nat, (xal g i lv)[j]? = some (i + k, xv g v) := fun lv i k v h => List.getElem?_of_mem (xal_get lv i k v h)
theorem V.iinc (C : Cx p s m args meth c cc nL own g) {i : Nat} {n : Int} {v : Int32} (w : Int32) (hl : xlg lv i = some (.int v)) (hv : Int32.ofInt n = w) (hn : i < nL) (hc : xl1 lv i = true) (hd : decode cc pc = .ok (.iinc i n, 3)) (kk : V p l e R s m args below meth c Q nL g S F G cells slots (pc + 3) (xls lv i (.int (v + w))) st) : V p l e R s m args below meth c Q nL g S F G cells slots pc lv st := by
  intro H locs ls h1 h2 h3 h4
  obtain ⟨j, hj⟩ := xal_ix (g := g) lv 0 i _ hl
  rw [Nat.zero_add] at hj
  exact lv_iinc C.x C.b hd h4 hj (by rw [hv]) hn rfl (fun ls2 h5 => kk H locs ls2 h1 h2 h3 (xl.put (v := .int (v + w)) hc h5))
theorem V.lstore_n (C : Cx p s m args meth c cc nL own g) {k : Fin 4} (i : Nat) (hi : (k : Nat) = i) {v : Int64} (hn : i + 1 < nL) (hc : xl1 lv i = true) (hd : decode cc pc = .ok (.lstore_n k, 1)) (kk : V p l e R s m args below meth c Q nL g S F G cells slots (pc + 1) (xls2 lv i (.long v)) st) : V p l e R s m args below meth c Q nL g S F G cells slots pc lv (.long v :: st) := fun H locs ls h1 h2 h3 h4 => lv_lstore_n C.x C.b hd hi h4 hn rfl (fun ls2 h5 => kk H locs ls2 h1 h2 h3 (xl.put2 (v := .long v) hc h5))
theorem V.lstore (C : Cx p s m args meth c cc nL own g) {i : Nat} {v : Int64} (hn : i + 1 < nL) (hc : xl1 lv i = true) (hd : decode cc pc = .ok (.lstore i, 2)) (kk : V p l e R s m args below meth c Q nL g S F G cells slots (pc + 2) (xls2 lv i (.long v)) st) : V p l e R s m args below meth c Q nL g S F G cells slots pc lv (.long v :: st) := fun H locs ls h1 h2 h3 h4 => lv_lstore C.x C.b hd h4 hn rfl (fun ls2 h5 => kk H locs ls2 h1 h2 h3 (xl.put2 (v := .long v) hc h5))
theorem V.ls0 (C : Cx p s m args meth c cc nL own g) {o0 o1 : Option Value} {r : List (Option Value)} {v : Int64} (hn : 0 + 1 < nL) (hc : xl1 (o0 :: o1 :: r) 0 = true) (hd : decode cc pc = .ok (.lstore_n 0, 1)) (kk : V p l e R s m args below meth c Q nL g S F G cells slots (pc + 1) (some (.long v) :: none :: r) st) : V p l e R s m args below meth c Q nL g S F G cells slots pc (o0 :: o1 :: r) (.long v :: st) := V.lstore_n C 0 rfl hn hc hd kk
theorem V.ls1 (C : Cx p s m args meth c cc nL own g) {o0 o1 o2 : Option Value} {r : List (Option Value)} {v : Int64} (hn : 1 + 1 < nL) (hc : xl1 (o0 :: o1 :: o2 :: r) 1 = true) (hd : decode cc pc = .ok (.lstore_n 1, 1)) (kk : V p l e R s m args below meth c Q nL g S F G cells slots (pc + 1) (o0 :: some (.long v) :: none :: r) st) : V p l e R s m args below meth c Q nL g S F G cells slots pc (o0 :: o1 :: o2 :: r) (.long v :: st) := V.lstore_n C 1 rfl hn hc hd kk
theorem V.ls2 (C : Cx p s m args meth c cc nL own g) {o0 o1 o2 o3 : Option Value} {r : List (Option Value)} {v : Int64} (hn : 2 + 1 < nL) (hc : xl1 (o0 :: o1 :: o2 :: o3 :: r) 2 = true) (hd : decode cc pc = .ok (.lstore_n 2, 1)) (kk : V p l e R s m args below meth c Q nL g S F G cells slots (pc + 1) (o0 :: o1 :: some (.long v) :: none :: r) st) : V p l e R s m args below meth c Q nL g S F G cells slots pc (o0 :: o1 :: o2 :: o3 :: r) (.long v :: st) := V.lstore_n C 2 rfl hn hc hd kk
theorem V.ls3 (C : Cx p s m args meth c cc nL own g) {o0 o1 o2 o3 o4 : Option Value} {r : List (Option Value)} {v : Int64} (hn : 3 + 1 < nL) (hc : xl1 (o0 :: o1 :: o2 :: o3 :: o4 :: r) 3 = true) (hd : decode cc pc = .ok (.lstore_n 3, 1)) (kk : V p l e R s m args below meth c Q nL g S F G cells slots (pc + 1) (o0 :: o1 :: o2 :: some (.long v) :: none :: r) st) : V p l e R s m args below meth c Q nL g S F G cells slots pc (o0 :: o1 :: o2 :: o3 :: o4 :: r) (.long v :: st) := V.lstore_n C 3 rfl hn hc hd kk
theorem V.ls4 (C : Cx p s m args meth c cc nL own g) {o0 o1 o2 o3 o4 o5 : Option Value} {r : List (Option Value)} {v : Int64} (hn : 4 + 1 < nL) (hc : xl1 (o0 :: o1 :: o2 :: o3 :: o4 :: o5 :: r) 4 = true) (hd : decode cc pc = .ok (.lstore 4, 2)) (kk : V p l e R s m args below meth c Q nL g S F G cells slots (pc + 2) (o0 :: o1 :: o2 :: o3 :: some (.long v) :: none :: r) st) : V p l e R s m args below meth c Q nL g S F G cells slots pc (o0 :: o1 :: o2 :: o3 :: o4 :: o5 :: r) (.long v :: st) := V.lstore C hn hc hd kk
theorem V.ls5 (C : Cx p s m args meth c cc nL own g) {o0 o1 o2 o3 o4 o5 o6 : Option Value} {r : List (Option Value)} {v : Int64} (hn : 5 + 1 < nL) (hc : xl1 (o0 :: o1 :: o2 :: o3 :: o4 :: o5 :: o6 :: r) 5 = true) (hd : decode cc pc = .ok (.lstore 5, 2)) (kk : V p l e R s m args below meth c Q nL g S F G cells slots (pc + 2) (o0 :: o1 :: o2 :: o3 :: o4 :: some (.long v) :: none :: r) st) : V p l e R s m args below meth c Q nL g S F G cells slots pc (o0 :: o1 :: o2 :: o3 :: o4 :: o5 :: o6 :: r) (.long v :: st) := V.lstore C hn hc hd kk
theorem V.ls6 (C : Cx p s m args meth c cc nL own g) {o0 o1 o2 o3 o4 o5 o6 o7 : Option Value} {r : List (Option Value)} {v : Int64} (hn : 6 + 1 < nL) (hc : xl1 (o0 :: o1 :: o2 :: o3 :: o4 :: o5 :: o6 :: o7 :: r) 6 = true) (hd : decode cc pc = .ok (.lstore 6, 2)) (kk : V p l e R s m args below meth c Q nL g S F G cells slots (pc + 2) (o0 :: o1 :: o2 :: o3 :: o4 :: o5 :: some (.long v) :: none :: r) st) : V p l e R s m args below meth c Q nL g S F G cells slots pc (o0 :: o1 :: o2 :: o3 :: o4 :: o5 :: o6 :: o7 :: r) (.long v :: st) := V.lstore C hn hc hd kk
theorem V.ls7 (C : Cx p s m args meth c cc nL own g) {o0 o1 o2 o3 o4 o5 o6 o7 o8 : Option Value} {r : List (Option Value)} {v : Int64} (hn : 7 + 1 < nL) (hc : xl1 (o0 :: o1 :: o2 :: o3 :: o4 :: o5 :: o6 :: o7 :: o8 :: r) 7 = true) (hd : decode cc pc = .ok (.lstore 7, 2)) (kk : V p l e R s m args below meth c Q nL g S F G cells slots (pc + 2) (o0 :: o1 :: o2 :: o3 :: o4 :: o5 :: o6 :: some (.long v) :: none :: r) st) : V p l e R s m args below meth c Q nL g S F G cells slots pc (o0 :: o1 :: o2 :: o3 :: o4 :: o5 :: o6 :: o7 :: o8 :: r) (.long v :: st) := V.lstore C hn hc hd kk
theorem V.ls8 (C : Cx p s m args meth c cc nL own g) {o0 o1 o2 o3 o4 o5 o6 o7 o8 o9 : Option Value} {r : List (Option Value)} {v : Int64} (hn : 8 + 1 < nL) (hc : xl1 (o0 :: o1 :: o2 :: o3 :: o4 :: o5 :: o6 :: o7 :: o8 :: o9 :: r) 8 = true) (hd : decode cc pc = .ok (.lstore 8, 2)) (kk : V p l e R s m args below meth c Q nL g S F G cells slots (pc + 2) (o0 :: o1 :: o2 :: o3 :: o4 :: o5 :: o6 :: o7 :: some (.long v) :: none :: r) st) : V p l e R s m args below meth c Q nL g S F G cells slots pc (o0 :: o1 :: o2 :: o3 :: o4 :: o5 :: o6 :: o7 :: o8 :: o9 :: r) (.long v :: st) := V.lstore C hn hc hd kk
theorem V.ls9 (C : Cx p s m args meth c cc nL own g) {o0 o1 o2 o3 o4 o5 o6 o7 o8 o9 o10 : Option Value} {r : List (Option Value)} {v : Int64} (hn : 9 + 1 < nL) (hc : xl1 (o0 :: o1 :: o2 :: o3 :: o4 :: o5 :: o6 :: o7 :: o8 :: o9 :: o10 :: r) 9 = true) (hd : decode cc pc = .ok (.lstore 9, 2)) (kk : V p l e R s m args below meth c Q nL g S F G cells slots (pc + 2) (o0 :: o1 :: o2 :: o3 :: o4 :: o5 :: o6 :: o7 :: o8 :: some (.long v) :: none :: r) st) : V p l e R s m args below meth c Q nL g S F G cells slots pc (o0 :: o1 :: o2 :: o3 :: o4 :: o5 :: o6 :: o7 :: o8 :: o9 :: o10 :: r) (.long v :: st) := V.lstore C hn hc hd kk
theorem V.ls10 (C : Cx p s m args meth c cc nL own g) {o0 o1 o2 o3 o4 o5 o6 o7 o8 o9 o10 o11 : Option Value} {r : List (Option Value)} {v : Int64} (hn : 10 + 1 < nL) (hc : xl1 (o0 :: o1 :: o2 :: o3 :: o4 :: o5 :: o6 :: o7 :: o8 :: o9 :: o10 :: o11 :: r) 10 = true) (hd : decode cc pc = .ok (.lstore 10, 2)) (kk : V p l e R s m args below meth c Q nL g S F G cells slots (pc + 2) (o0 :: o1 :: o2 :: o3 :: o4 :: o5 :: o6 :: o7 :: o8 :: o9 :: some (.long v) :: none :: r) st) : V p l e R s m args below meth c Q nL g S F G cells slots pc (o0 :: o1 :: o2 :: o3 :: o4 :: o5 :: o6 :: o7 :: o8 :: o9 :: o10 :: o11 :: r) (.long v :: st) := V.lstore C hn hc hd kk
theorem V.ls11 (C : Cx p s m args meth c cc nL own g) {o0 o1 o2 o3 o4 o5 o6 o7 o8 o9 o10 o11 o12 : Option Value} {r : List (Option Value)} {v : Int64} (hn : 11 + 1 < nL) (hc : xl1 (o0 :: o1 :: o2 :: o3 :: o4 :: o5 :: o6 :: o7 :: o8 :: o9 :: o10 :: o11 :: o12 :: r) 11 = true) (hd : decode cc pc = .ok (.lstore 11, 2)) (kk : V p l e R s m args below meth c Q nL g S F G cells slots (pc + 2) (o0 :: o1 :: o2 :: o3 :: o4 :: o5 :: o6 :: o7 :: o8 :: o9 :: o10 :: some (.long v) :: none :: r) st) : V p l e R s m args below meth c Q nL g S F G cells slots pc (o0 :: o1 :: o2 :: o3 :: o4 :: o5 :: o6 :: o7 :: o8 :: o9 :: o10 :: o11 :: o12 :: r) (.long v :: st) := V.lstore C hn hc hd kk
theorem V.is0 (C : Cx p s m args meth c cc nL own g) {o0 : Option Value} {r : List (Option Value)} {v : Int32} (hn : 0 < nL) (hc : xl1 (o0 :: r) 0 = true) (hd : decode cc pc = .ok (.istore_n 0, 1)) (kk : V p l e R s m args below meth c Q nL g S F G cells slots (pc + 1) (some (.int v) :: r) st) : V p l e R s m args below meth c Q nL g S F G cells slots pc (o0 :: r) (.int v :: st) := V.istore_n C 0 rfl hn hc hd kk
theorem V.as0 (C : Cx p s m args meth c cc nL own g) {o0 : Option Value} {r : List (Option Value)} {v : Nat} (hn : 0 < nL) (hc : xl1 (o0 :: r) 0 = true) (hd : decode cc pc = .ok (.astore_n 0, 1)) (kk : V p l e R s m args below meth c Q nL g S F G cells slots (pc + 1) (some (.ref v) :: r) st) : V p l e R s m args below meth c Q nL g S F G cells slots pc (o0 :: r) (.ref v :: st) := V.astore_n C 0 rfl hn hc hd kk
theorem V.inc0 (C : Cx p s m args meth c cc nL own g) {r : List (Option Value)} {n : Int} {v : Int32} (w : Int32) (hv : Int32.ofInt n = w) (hn : 0 < nL) (hc : xl1 (some (.int v) :: r) 0 = true) (hd : decode cc pc = .ok (.iinc 0 n, 3)) (kk : V p l e R s m args below meth c Q nL g S F G cells slots (pc + 3) (some (.int (v + w)) :: r) st) : V p l e R s m args below meth c Q nL g S F G cells slots pc (some (.int v) :: r) st := V.iinc C w rfl hv hn hc hd kk
theorem V.is1 (C : Cx p s m args meth c cc nL own g) {o0 o1 : Option Value} {r : List (Option Value)} {v : Int32} (hn : 1 < nL) (hc : xl1 (o0 :: o1 :: r) 1 = true) (hd : decode cc pc = .ok (.istore_n 1, 1)) (kk : V p l e R s m args below meth c Q nL g S F G cells slots (pc + 1) (o0 :: some (.int v) :: r) st) : V p l e R s m args below meth c Q nL g S F G cells slots pc (o0 :: o1 :: r) (.int v :: st) := V.istore_n C 1 rfl hn hc hd kk
theorem V.as1 (C : Cx p s m args meth c cc nL own g) {o0 o1 : Option Value} {r : List (Option Value)} {v : Nat} (hn : 1 < nL) (hc : xl1 (o0 :: o1 :: r) 1 = true) (hd : decode cc pc = .ok (.astore_n 1, 1)) (kk : V p l e R s m args below meth c Q nL g S F G cells slots (pc + 1) (o0 :: some (.ref v) :: r) st) : V p l e R s m args below meth c Q nL g S F G cells slots pc (o0 :: o1 :: r) (.ref v :: st) := V.astore_n C 1 rfl hn hc hd kk
theorem V.inc1 (C : Cx p s m args meth c cc nL own g) {o0 : Option Value} {r : List (Option Value)} {n : Int} {v : Int32} (w : Int32) (hv : Int32.ofInt n = w) (hn : 1 < nL) (hc : xl1 (o0 :: some (.int v) :: r) 1 = true) (hd : decode cc pc = .ok (.iinc 1 n, 3)) (kk : V p l e R s m args below meth c Q nL g S F G cells slots (pc + 3) (o0 :: some (.int (v + w)) :: r) st) : V p l e R s m args below meth c Q nL g S F G cells slots pc (o0 :: some (.int v) :: r) st := V.iinc C w rfl hv hn hc hd kk
theorem V.is2 (C : Cx p s m args meth c cc nL own g) {o0 o1 o2 : Option Value} {r : List (Option Value)} {v : Int32} (hn : 2 < nL) (hc : xl1 (o0 :: o1 :: o2 :: r) 2 = true) (hd : decode cc pc = .ok (.istore_n 2, 1)) (kk : V p l e R s m args below meth c Q nL g S F G cells slots (pc + 1) (o0 :: o1 :: some (.int v) :: r) st) : V p l e R s m args below meth c Q nL g S F G cells slots pc (o0 :: o1 :: o2 :: r) (.int v :: st) := V.istore_n C 2 rfl hn hc hd kk
theorem V.as2 (C : Cx p s m args meth c cc nL own g) {o0 o1 o2 : Option Value} {r : List (Option Value)} {v : Nat} (hn : 2 < nL) (hc : xl1 (o0 :: o1 :: o2 :: r) 2 = true) (hd : decode cc pc = .ok (.astore_n 2, 1)) (kk : V p l e R s m args below meth c Q nL g S F G cells slots (pc + 1) (o0 :: o1 :: some (.ref v) :: r) st) : V p l e R s m args below meth c Q nL g S F G cells slots pc (o0 :: o1 :: o2 :: r) (.ref v :: st) := V.astore_n C 2 rfl hn hc hd kk
theorem V.inc2 (C : Cx p s m args meth c cc nL own g) {o0 o1 : Option Value} {r : List (Option Value)} {n : Int} {v : Int32} (w : Int32) (hv : Int32.ofInt n = w) (hn : 2 < nL) (hc : xl1 (o0 :: o1 :: some (.int v) :: r) 2 = true) (hd : decode cc pc = .ok (.iinc 2 n, 3)) (kk : V p l e R s m args below meth c Q nL g S F G cells slots (pc + 3) (o0 :: o1 :: some (.int (v + w)) :: r) st) : V p l e R s m args below meth c Q nL g S F G cells slots pc (o0 :: o1 :: some (.int v) :: r) st := V.iinc C w rfl hv hn hc hd kk
theorem V.is3 (C : Cx p s m args meth c cc nL own g) {o0 o1 o2 o3 : Option Value} {r : List (Option Value)} {v : Int32} (hn : 3 < nL) (hc : xl1 (o0 :: o1 :: o2 :: o3 :: r) 3 = true) (hd : decode cc pc = .ok (.istore_n 3, 1)) (kk : V p l e R s m args below meth c Q nL g S F G cells slots (pc + 1) (o0 :: o1 :: o2 :: some (.int v) :: r) st) : V p l e R s m args below meth c Q nL g S F G cells slots pc (o0 :: o1 :: o2 :: o3 :: r) (.int v :: st) := V.istore_n C 3 rfl hn hc hd kk
theorem V.as3 (C : Cx p s m args meth c cc nL own g) {o0 o1 o2 o3 : Option Value} {r : List (Option Value)} {v : Nat} (hn : 3 < nL) (hc : xl1 (o0 :: o1 :: o2 :: o3 :: r) 3 = true) (hd : decode cc pc = .ok (.astore_n 3, 1)) (kk : V p l e R s m args below meth c Q nL g S F G cells slots (pc + 1) (o0 :: o1 :: o2 :: some (.ref v) :: r) st) : V p l e R s m args below meth c Q nL g S F G cells slots pc (o0 :: o1 :: o2 :: o3 :: r) (.ref v :: st) := V.astore_n C 3 rfl hn hc hd kk
theorem V.inc3 (C : Cx p s m args meth c cc nL own g) {o0 o1 o2 : Option Value} {r : List (Option Value)} {n : Int} {v : Int32} (w : Int32) (hv : Int32.ofInt n = w) (hn : 3 < nL) (hc : xl1 (o0 :: o1 :: o2 :: some (.int v) :: r) 3 = true) (hd : decode cc pc = .ok (.iinc 3 n, 3)) (kk : V p l e R s m args below meth c Q nL g S F G cells slots (pc + 3) (o0 :: o1 :: o2 :: some (.int (v + w)) :: r) st) : V p l e R s m args below meth c Q nL g S F G cells slots pc (o0 :: o1 :: o2 :: some (.int v) :: r) st := V.iinc C w rfl hv hn hc hd kk
theorem V.is4 (C : Cx p s m args meth c cc nL own g) {o0 o1 o2 o3 o4 : Option Value} {r : List (Option Value)} {v : Int32} (hn : 4 < nL) (hc : xl1 (o0 :: o1 :: o2 :: o3 :: o4 :: r) 4 = true) (hd : decode cc pc = .ok (.istore 4, 2)) (kk : V p l e R s m args below meth c Q nL g S F G cells slots (pc + 2) (o0 :: o1 :: o2 :: o3 :: some (.int v) :: r) st) : V p l e R s m args below meth c Q nL g S F G cells slots pc (o0 :: o1 :: o2 :: o3 :: o4 :: r) (.int v :: st) := V.istore C hn hc hd kk
theorem V.as4 (C : Cx p s m args meth c cc nL own g) {o0 o1 o2 o3 o4 : Option Value} {r : List (Option Value)} {v : Nat} (hn : 4 < nL) (hc : xl1 (o0 :: o1 :: o2 :: o3 :: o4 :: r) 4 = true) (hd : decode cc pc = .ok (.astore 4, 2)) (kk : V p l e R s m args below meth c Q nL g S F G cells slots (pc + 2) (o0 :: o1 :: o2 :: o3 :: some (.ref v) :: r) st) : V p l e R s m args below meth c Q nL g S F G cells slots pc (o0 :: o1 :: o2 :: o3 :: o4 :: r) (.ref v :: st) := V.astore C hn hc hd kk
theorem V.inc4 (C : Cx p s m args meth c cc nL own g) {o0 o1 o2 o3 : Option Value} {r : List (Option Value)} {n : Int} {v : Int32} (w : Int32) (hv : Int32.ofInt n = w) (hn : 4 < nL) (hc : xl1 (o0 :: o1 :: o2 :: o3 :: some (.int v) :: r) 4 = true) (hd : decode cc pc = .ok (.iinc 4 n, 3)) (kk : V p l e R s m args below meth c Q nL g S F G cells slots (pc + 3) (o0 :: o1 :: o2 :: o3 :: some (.int (v + w)) :: r) st) : V p l e R s m args below meth c Q nL g S F G cells slots pc (o0 :: o1 :: o2 :: o3 :: some (.int v) :: r) st := V.iinc C w rfl hv hn hc hd kk
theorem V.is5 (C : Cx p s m args meth c cc nL own g) {o0 o1 o2 o3 o4 o5 : Option Value} {r : List (Option Value)} {v : Int32} (hn : 5 < nL) (hc : xl1 (o0 :: o1 :: o2 :: o3 :: o4 :: o5 :: r) 5 = true) (hd : decode cc pc = .ok (.istore 5, 2)) (kk : V p l e R s m args below meth c Q nL g S F G cells slots (pc + 2) (o0 :: o1 :: o2 :: o3 :: o4 :: some (.int v) :: r) st) : V p l e R s m args below meth c Q nL g S F G cells slots pc (o0 :: o1 :: o2 :: o3 :: o4 :: o5 :: r) (.int v :: st) := V.istore C hn hc hd kk
theorem V.as5 (C : Cx p s m args meth c cc nL own g) {o0 o1 o2 o3 o4 o5 : Option Value} {r : List (Option Value)} {v : Nat} (hn : 5 < nL) (hc : xl1 (o0 :: o1 :: o2 :: o3 :: o4 :: o5 :: r) 5 = true) (hd : decode cc pc = .ok (.astore 5, 2)) (kk : V p l e R s m args below meth c Q nL g S F G cells slots (pc + 2) (o0 :: o1 :: o2 :: o3 :: o4 :: some (.ref v) :: r) st) : V p l e R s m args below meth c Q nL g S F G cells slots pc (o0 :: o1 :: o2 :: o3 :: o4 :: o5 :: r) (.ref v :: st) := V.astore C hn hc hd kk
theorem V.inc5 (C : Cx p s m args meth c cc nL own g) {o0 o1 o2 o3 o4 : Option Value} {r : List (Option Value)} {n : Int} {v : Int32} (w : Int32) (hv : Int32.ofInt n = w) (hn : 5 < nL) (hc : xl1 (o0 :: o1 :: o2 :: o3 :: o4 :: some (.int v) :: r) 5 = true) (hd : decode cc pc = .ok (.iinc 5 n, 3)) (kk : V p l e R s m args below meth c Q nL g S F G cells slots (pc + 3) (o0 :: o1 :: o2 :: o3 :: o4 :: some (.int (v + w)) :: r) st) : V p l e R s m args below meth c Q nL g S F G cells slots pc (o0 :: o1 :: o2 :: o3 :: o4 :: some (.int v) :: r) st := V.iinc C w rfl hv hn hc hd kk
theorem V.is6 (C : Cx p s m args meth c cc nL own g) {o0 o1 o2 o3 o4 o5 o6 : Option Value} {r : List (Option Value)} {v : Int32} (hn : 6 < nL) (hc : xl1 (o0 :: o1 :: o2 :: o3 :: o4 :: o5 :: o6 :: r) 6 = true) (hd : decode cc pc = .ok (.istore 6, 2)) (kk : V p l e R s m args below meth c Q nL g S F G cells slots (pc + 2) (o0 :: o1 :: o2 :: o3 :: o4 :: o5 :: some (.int v) :: r) st) : V p l e R s m args below meth c Q nL g S F G cells slots pc (o0 :: o1 :: o2 :: o3 :: o4 :: o5 :: o6 :: r) (.int v :: st) := V.istore C hn hc hd kk
theorem V.as6 (C : Cx p s m args meth c cc nL own g) {o0 o1 o2 o3 o4 o5 o6 : Option Value} {r : List (Option Value)} {v : Nat} (hn : 6 < nL) (hc : xl1 (o0 :: o1 :: o2 :: o3 :: o4 :: o5 :: o6 :: r) 6 = true) (hd : decode cc pc = .ok (.astore 6, 2)) (kk : V p l e R s m args below meth c Q nL g S F G cells slots (pc + 2) (o0 :: o1 :: o2 :: o3 :: o4 :: o5 :: some (.ref v) :: r) st) : V p l e R s m args below meth c Q nL g S F G cells slots pc (o0 :: o1 :: o2 :: o3 :: o4 :: o5 :: o6 :: r) (.ref v :: st) := V.astore C hn hc hd kk
theorem V.inc6 (C : Cx p s m args meth c cc nL own g) {o0 o1 o2 o3 o4 o5 : Option Value} {r : List (Option Value)} {n : Int} {v : Int32} (w : Int32) (hv : Int32.ofInt n = w) (hn : 6 < nL) (hc : xl1 (o0 :: o1 :: o2 :: o3 :: o4 :: o5 :: some (.int v) :: r) 6 = true) (hd : decode cc pc = .ok (.iinc 6 n, 3)) (kk : V p l e R s m args below meth c Q nL g S F G cells slots (pc + 3) (o0 :: o1 :: o2 :: o3 :: o4 :: o5 :: some (.int (v + w)) :: r) st) : V p l e R s m args below meth c Q nL g S F G cells slots pc (o0 :: o1 :: o2 :: o3 :: o4 :: o5 :: some (.int v) :: r) st := V.iinc C w rfl hv hn hc hd kk
theorem V.is7 (C : Cx p s m args meth c cc nL own g) {o0 o1 o2 o3 o4 o5 o6 o7 : Option Value} {r : List (Option Value)} {v : Int32} (hn : 7 < nL) (hc : xl1 (o0 :: o1 :: o2 :: o3 :: o4 :: o5 :: o6 :: o7 :: r) 7 = true) (hd : decode cc pc = .ok (.istore 7, 2)) (kk : V p l e R s m args below meth c Q nL g S F G cells slots (pc + 2) (o0 :: o1 :: o2 :: o3 :: o4 :: o5 :: o6 :: some (.int v) :: r) st) : V p l e R s m args below meth c Q nL g S F G cells slots pc (o0 :: o1 :: o2 :: o3 :: o4 :: o5 :: o6 :: o7 :: r) (.int v :: st) := V.istore C hn hc hd kk
theorem V.as7 (C : Cx p s m args meth c cc nL own g) {o0 o1 o2 o3 o4 o5 o6 o7 : Option Value} {r : List (Option Value)} {v : Nat} (hn : 7 < nL) (hc : xl1 (o0 :: o1 :: o2 :: o3 :: o4 :: o5 :: o6 :: o7 :: r) 7 = true) (hd : decode cc pc = .ok (.astore 7, 2)) (kk : V p l e R s m args below meth c Q nL g S F G cells slots (pc + 2) (o0 :: o1 :: o2 :: o3 :: o4 :: o5 :: o6 :: some (.ref v) :: r) st) : V p l e R s m args below meth c Q nL g S F G cells slots pc (o0 :: o1 :: o2 :: o3 :: o4 :: o5 :: o6 :: o7 :: r) (.ref v :: st) := V.astore C hn hc hd kk
theorem V.inc7 (C : Cx p s m args meth c cc nL own g) {o0 o1 o2 o3 o4 o5 o6 : Option Value} {r : List (Option Value)} {n : Int} {v : Int32} (w : Int32) (hv : Int32.ofInt n = w) (hn : 7 < nL) (hc : xl1 (o0 :: o1 :: o2 :: o3 :: o4 :: o5 :: o6 :: some (.int v) :: r) 7 = true) (hd : decode cc pc = .ok (.iinc 7 n, 3)) (kk : V p l e R s m args below meth c Q nL g S F G cells slots (pc + 3) (o0 :: o1 :: o2 :: o3 :: o4 :: o5 :: o6 :: some (.int (v + w)) :: r) st) : V p l e R s m args below meth c Q nL g S F G cells slots pc (o0 :: o1 :: o2 :: o3 :: o4 :: o5 :: o6 :: some (.int v) :: r) st := V.iinc C w rfl hv hn hc hd kk
theorem V.is8 (C : Cx p s m args meth c cc nL own g) {o0 o1 o2 o3 o4 o5 o6 o7 o8 : Option Value} {r : List (Option Value)} {v : Int32} (hn : 8 < nL) (hc : xl1 (o0 :: o1 :: o2 :: o3 :: o4 :: o5 :: o6 :: o7 :: o8 :: r) 8 = true) (hd : decode cc pc = .ok (.istore 8, 2)) (kk : V p l e R s m args below meth c Q nL g S F G cells slots (pc + 2) (o0 :: o1 :: o2 :: o3 :: o4 :: o5 :: o6 :: o7 :: some (.int v) :: r) st) : V p l e R s m args below meth c Q nL g S F G cells slots pc (o0 :: o1 :: o2 :: o3 :: o4 :: o5 :: o6 :: o7 :: o8 :: r) (.int v :: st) := V.istore C hn hc hd kk
theorem V.as8 (C : Cx p s m args meth c cc nL own g) {o0 o1 o2 o3 o4 o5 o6 o7 o8 : Option Value} {r : List (Option Value)} {v : Nat} (hn : 8 < nL) (hc : xl1 (o0 :: o1 :: o2 :: o3 :: o4 :: o5 :: o6 :: o7 :: o8 :: r) 8 = true) (hd : decode cc pc = .ok (.astore 8, 2)) (kk : V p l e R s m args below meth c Q nL g S F G cells slots (pc + 2) (o0 :: o1 :: o2 :: o3 :: o4 :: o5 :: o6 :: o7 :: some (.ref v) :: r) st) : V p l e R s m args below meth c Q nL g S F G cells slots pc (o0 :: o1 :: o2 :: o3 :: o4 :: o5 :: o6 :: o7 :: o8 :: r) (.ref v :: st) := V.astore C hn hc hd kk
theorem V.inc8 (C : Cx p s m args meth c cc nL own g) {o0 o1 o2 o3 o4 o5 o6 o7 : Option Value} {r : List (Option Value)} {n : Int} {v : Int32} (w : Int32) (hv : Int32.ofInt n = w) (hn : 8 < nL) (hc : xl1 (o0 :: o1 :: o2 :: o3 :: o4 :: o5 :: o6 :: o7 :: some (.int v) :: r) 8 = true) (hd : decode cc pc = .ok (.iinc 8 n, 3)) (kk : V p l e R s m args below meth c Q nL g S F G cells slots (pc + 3) (o0 :: o1 :: o2 :: o3 :: o4 :: o5 :: o6 :: o7 :: some (.int (v + w)) :: r) st) : V p l e R s m args below meth c Q nL g S F G cells slots pc (o0 :: o1 :: o2 :: o3 :: o4 :: o5 :: o6 :: o7 :: some (.int v) :: r) st := V.iinc C w rfl hv hn hc hd kk
theorem V.is9 (C : Cx p s m args meth c cc nL own g) {o0 o1 o2 o3 o4 o5 o6 o7 o8 o9 : Option Value} {r : List (Option Value)} {v : Int32} (hn : 9 < nL) (hc : xl1 (o0 :: o1 :: o2 :: o3 :: o4 :: o5 :: o6 :: o7 :: o8 :: o9 :: r) 9 = true) (hd : decode cc pc = .ok (.istore 9, 2)) (kk : V p l e R s m args below meth c Q nL g S F G cells slots (pc + 2) (o0 :: o1 :: o2 :: o3 :: o4 :: o5 :: o6 :: o7 :: o8 :: some (.int v) :: r) st) : V p l e R s m args below meth c Q nL g S F G cells slots pc (o0 :: o1 :: o2 :: o3 :: o4 :: o5 :: o6 :: o7 :: o8 :: o9 :: r) (.int v :: st) := V.istore C hn hc hd kk
theorem V.as9 (C : Cx p s m args meth c cc nL own g) {o0 o1 o2 o3 o4 o5 o6 o7 o8 o9 : Option Value} {r : List (Option Value)} {v : Nat} (hn : 9 < nL) (hc : xl1 (o0 :: o1 :: o2 :: o3 :: o4 :: o5 :: o6 :: o7 :: o8 :: o9 :: r) 9 = true) (hd : decode cc pc = .ok (.astore 9, 2)) (kk : V p l e R s m args below meth c Q nL g S F G cells slots (pc + 2) (o0 :: o1 :: o2 :: o3 :: o4 :: o5 :: o6 :: o7 :: o8 :: some (.ref v) :: r) st) : V p l e R s m args below meth c Q nL g S F G cells slots pc (o0 :: o1 :: o2 :: o3 :: o4 :: o5 :: o6 :: o7 :: o8 :: o9 :: r) (.ref v :: st) := V.astore C hn hc hd kk
theorem V.inc9 (C : Cx p s m args meth c cc nL own g) {o0 o1 o2 o3 o4 o5 o6 o7 o8 : Option Value} {r : List (Option Value)} {n : Int} {v : Int32} (w : Int32) (hv : Int32.ofInt n = w) (hn : 9 < nL) (hc : xl1 (o0 :: o1 :: o2 :: o3 :: o4 :: o5 :: o6 :: o7 :: o8 :: some (.int v) :: r) 9 = true) (hd : decode cc pc = .ok (.iinc 9 n, 3)) (kk : V p l e R s m args below meth c Q nL g S F G cells slots (pc + 3) (o0 :: o1 :: o2 :: o3 :: o4 :: o5 :: o6 :: o7 :: o8 :: some (.int (v + w)) :: r) st) : V p l e R s m args below meth c Q nL g S F G cells slots pc (o0 :: o1 :: o2 :: o3 :: o4 :: o5 :: o6 :: o7 :: o8 :: some (.int v) :: r) st := V.iinc C w rfl hv hn hc hd kk
theorem V.is10 (C : Cx p s m args meth c cc nL own g) {o0 o1 o2 o3 o4 o5 o6 o7 o8 o9 o10 : Option Value} {r : List (Option Value)} {v : Int32} (hn : 10 < nL) (hc : xl1 (o0 :: o1 :: o2 :: o3 :: o4 :: o5 :: o6 :: o7 :: o8 :: o9 :: o10 :: r) 10 = true) (hd : decode cc pc = .ok (.istore 10, 2)) (kk : V p l e R s m args below meth c Q nL g S F G cells slots (pc + 2) (o0 :: o1 :: o2 :: o3 :: o4 :: o5 :: o6 :: o7 :: o8 :: o9 :: some (.int v) :: r) st) : V p l e R s m args below meth c Q nL g S F G cells slots pc (o0 :: o1 :: o2 :: o3 :: o4 :: o5 :: o6 :: o7 :: o8 :: o9 :: o10 :: r) (.int v :: st) := V.istore C hn hc hd kk
theorem V.as10 (C : Cx p s m args meth c cc nL own g) {o0 o1 o2 o3 o4 o5 o6 o7 o8 o9 o10 : Option Value} {r : List (Option Value)} {v : Nat} (hn : 10 < nL) (hc : xl1 (o0 :: o1 :: o2 :: o3 :: o4 :: o5 :: o6 :: o7 :: o8 :: o9 :: o10 :: r) 10 = true) (hd : decode cc pc = .ok (.astore 10, 2)) (kk : V p l e R s m args below meth c Q nL g S F G cells slots (pc + 2) (o0 :: o1 :: o2 :: o3 :: o4 :: o5 :: o6 :: o7 :: o8 :: o9 :: some (.ref v) :: r) st) : V p l e R s m args below meth c Q nL g S F G cells slots pc (o0 :: o1 :: o2 :: o3 :: o4 :: o5 :: o6 :: o7 :: o8 :: o9 :: o10 :: r) (.ref v :: st) := V.astore C hn hc hd kk
theorem V.inc10 (C : Cx p s m args meth c cc nL own g) {o0 o1 o2 o3 o4 o5 o6 o7 o8 o9 : Option Value} {r : List (Option Value)} {n : Int} {v : Int32} (w : Int32) (hv : Int32.ofInt n = w) (hn : 10 < nL) (hc : xl1 (o0 :: o1 :: o2 :: o3 :: o4 :: o5 :: o6 :: o7 :: o8 :: o9 :: some (.int v) :: r) 10 = true) (hd : decode cc pc = .ok (.iinc 10 n, 3)) (kk : V p l e R s m args below meth c Q nL g S F G cells slots (pc + 3) (o0 :: o1 :: o2 :: o3 :: o4 :: o5 :: o6 :: o7 :: o8 :: o9 :: some (.int (v + w)) :: r) st) : V p l e R s m args below meth c Q nL g S F G cells slots pc (o0 :: o1 :: o2 :: o3 :: o4 :: o5 :: o6 :: o7 :: o8 :: o9 :: some (.int v) :: r) st := V.iinc C w rfl hv hn hc hd kk
theorem V.is11 (C : Cx p s m args meth c cc nL own g) {o0 o1 o2 o3 o4 o5 o6 o7 o8 o9 o10 o11 : Option Value} {r : List (Option Value)} {v : Int32} (hn : 11 < nL) (hc : xl1 (o0 :: o1 :: o2 :: o3 :: o4 :: o5 :: o6 :: o7 :: o8 :: o9 :: o10 :: o11 :: r) 11 = true) (hd : decode cc pc = .ok (.istore 11, 2)) (kk : V p l e R s m args below meth c Q nL g S F G cells slots (pc + 2) (o0 :: o1 :: o2 :: o3 :: o4 :: o5 :: o6 :: o7 :: o8 :: o9 :: o10 :: some (.int v) :: r) st) : V p l e R s m args below meth c Q nL g S F G cells slots pc (o0 :: o1 :: o2 :: o3 :: o4 :: o5 :: o6 :: o7 :: o8 :: o9 :: o10 :: o11 :: r) (.int v :: st) := V.istore C hn hc hd kk
theorem V.as11 (C : Cx p s m args meth c cc nL own g) {o0 o1 o2 o3 o4 o5 o6 o7 o8 o9 o10 o11 : Option Value} {r : List (Option Value)} {v : Nat} (hn : 11 < nL) (hc : xl1 (o0 :: o1 :: o2 :: o3 :: o4 :: o5 :: o6 :: o7 :: o8 :: o9 :: o10 :: o11 :: r) 11 = true) (hd : decode cc pc = .ok (.astore 11, 2)) (kk : V p l e R s m args below meth c Q nL g S F G cells slots (pc + 2) (o0 :: o1 :: o2 :: o3 :: o4 :: o5 :: o6 :: o7 :: o8 :: o9 :: o10 :: some (.ref v) :: r) st) : V p l e R s m args below meth c Q nL g S F G cells slots pc (o0 :: o1 :: o2 :: o3 :: o4 :: o5 :: o6 :: o7 :: o8 :: o9 :: o10 :: o11 :: r) (.ref v :: st) := V.astore C hn hc hd kk
theorem V.inc11 (C : Cx p s m args meth c cc nL own g) {o0 o1 o2 o3 o4 o5 o6 o7 o8 o9 o10 : Option Value} {r : List (Option Value)} {n : Int} {v : Int32} (w : Int32) (hv : Int32.ofInt n = w) (hn : 11 < nL) (hc : xl1 (o0 :: o1 :: o2 :: o3 :: o4 :: o5 :: o6 :: o7 :: o8 :: o9 :: o10 :: some (.int v) :: r) 11 = true) (hd : decode cc pc = .ok (.iinc 11 n, 3)) (kk : V p l e R s m args below meth c Q nL g S F G cells slots (pc + 3) (o0 :: o1 :: o2 :: o3 :: o4 :: o5 :: o6 :: o7 :: o8 :: o9 :: o10 :: some (.int (v + w)) :: r) st) : V p l e R s m args below meth c Q nL g S F G cells slots pc (o0 :: o1 :: o2 :: o3 :: o4 :: o5 :: o6 :: o7 :: o8 :: o9 :: o10 :: some (.int v) :: r) st := V.iinc C w rfl hv hn hc hd kk
theorem V.is12 (C : Cx p s m args meth c cc nL own g) {o0 o1 o2 o3 o4 o5 o6 o7 o8 o9 o10 o11 o12 : Option Value} {r : List (Option Value)} {v : Int32} (hn : 12 < nL) (hc : xl1 (o0 :: o1 :: o2 :: o3 :: o4 :: o5 :: o6 :: o7 :: o8 :: o9 :: o10 :: o11 :: o12 :: r) 12 = true) (hd : decode cc pc = .ok (.istore 12, 2)) (kk : V p l e R s m args below meth c Q nL g S F G cells slots (pc + 2) (o0 :: o1 :: o2 :: o3 :: o4 :: o5 :: o6 :: o7 :: o8 :: o9 :: o10 :: o11 :: some (.int v) :: r) st) : V p l e R s m args below meth c Q nL g S F G cells slots pc (o0 :: o1 :: o2 :: o3 :: o4 :: o5 :: o6 :: o7 :: o8 :: o9 :: o10 :: o11 :: o12 :: r) (.int v :: st) := V.istore C hn hc hd kk
theorem V.as12 (C : Cx p s m args meth c cc nL own g) {o0 o1 o2 o3 o4 o5 o6 o7 o8 o9 o10 o11 o12 : Option Value} {r : List (Option Value)} {v : Nat} (hn : 12 < nL) (hc : xl1 (o0 :: o1 :: o2 :: o3 :: o4 :: o5 :: o6 :: o7 :: o8 :: o9 :: o10 :: o11 :: o12 :: r) 12 = true) (hd : decode cc pc = .ok (.astore 12, 2)) (kk : V p l e R s m args below meth c Q nL g S F G cells slots (pc + 2) (o0 :: o1 :: o2 :: o3 :: o4 :: o5 :: o6 :: o7 :: o8 :: o9 :: o10 :: o11 :: some (.ref v) :: r) st) : V p l e R s m args below meth c Q nL g S F G cells slots pc (o0 :: o1 :: o2 :: o3 :: o4 :: o5 :: o6 :: o7 :: o8 :: o9 :: o10 :: o11 :: o12 :: r) (.ref v :: st) := V.astore C hn hc hd kk
theorem V.inc12 (C : Cx p s m args meth c cc nL own g) {o0 o1 o2 o3 o4 o5 o6 o7 o8 o9 o10 o11 : Option Value} {r : List (Option Value)} {n : Int} {v : Int32} (w : Int32) (hv : Int32.ofInt n = w) (hn : 12 < nL) (hc : xl1 (o0 :: o1 :: o2 :: o3 :: o4 :: o5 :: o6 :: o7 :: o8 :: o9 :: o10 :: o11 :: some (.int v) :: r) 12 = true) (hd : decode cc pc = .ok (.iinc 12 n, 3)) (kk : V p l e R s m args below meth c Q nL g S F G cells slots (pc + 3) (o0 :: o1 :: o2 :: o3 :: o4 :: o5 :: o6 :: o7 :: o8 :: o9 :: o10 :: o11 :: some (.int (v + w)) :: r) st) : V p l e R s m args below meth c Q nL g S F G cells slots pc (o0 :: o1 :: o2 :: o3 :: o4 :: o5 :: o6 :: o7 :: o8 :: o9 :: o10 :: o11 :: some (.int v) :: r) st := V.iinc C w rfl hv hn hc hd kk
theorem V.is13 (C : Cx p s m args meth c cc nL own g) {o0 o1 o2 o3 o4 o5 o6 o7 o8 o9 o10 o11 o12 o13 : Option Value} {r : List (Option Value)} {v : Int32} (hn : 13 < nL) (hc : xl1 (o0 :: o1 :: o2 :: o3 :: o4 :: o5 :: o6 :: o7 :: o8 :: o9 :: o10 :: o11 :: o12 :: o13 :: r) 13 = true) (hd : decode cc pc = .ok (.istore 13, 2)) (kk : V p l e R s m args below meth c Q nL g S F G cells slots (pc + 2) (o0 :: o1 :: o2 :: o3 :: o4 :: o5 :: o6 :: o7 :: o8 :: o9 :: o10 :: o11 :: o12 :: some (.int v) :: r) st) : V p l e R s m args below meth c Q nL g S F G cells slots pc (o0 :: o1 :: o2 :: o3 :: o4 :: o5 :: o6 :: o7 :: o8 :: o9 :: o10 :: o11 :: o12 :: o13 :: r) (.int v :: st) := V.istore C hn hc hd kk
theorem V.as13 (C : Cx p s m args meth c cc nL own g) {o0 o1 o2 o3 o4 o5 o6 o7 o8 o9 o10 o11 o12 o13 : Option Value} {r : List (Option Value)} {v : Nat} (hn : 13 < nL) (hc : xl1 (o0 :: o1 :: o2 :: o3 :: o4 :: o5 :: o6 :: o7 :: o8 :: o9 :: o10 :: o11 :: o12 :: o13 :: r) 13 = true) (hd : decode cc pc = .ok (.astore 13, 2)) (kk : V p l e R s m args below meth c Q nL g S F G cells slots (pc + 2) (o0 :: o1 :: o2 :: o3 :: o4 :: o5 :: o6 :: o7 :: o8 :: o9 :: o10 :: o11 :: o12 :: some (.ref v) :: r) st) : V p l e R s m args below meth c Q nL g S F G cells slots pc (o0 :: o1 :: o2 :: o3 :: o4 :: o5 :: o6 :: o7 :: o8 :: o9 :: o10 :: o11 :: o12 :: o13 :: r) (.ref v :: st) := V.astore C hn hc hd kk
theorem V.inc13 (C : Cx p s m args meth c cc nL own g) {o0 o1 o2 o3 o4 o5 o6 o7 o8 o9 o10 o11 o12 : Option Value} {r : List (Option Value)} {n : Int} {v : Int32} (w : Int32) (hv : Int32.ofInt n = w) (hn : 13 < nL) (hc : xl1 (o0 :: o1 :: o2 :: o3 :: o4 :: o5 :: o6 :: o7 :: o8 :: o9 :: o10 :: o11 :: o12 :: some (.int v) :: r) 13 = true) (hd : decode cc pc = .ok (.iinc 13 n, 3)) (kk : V p l e R s m args below meth c Q nL g S F G cells slots (pc + 3) (o0 :: o1 :: o2 :: o3 :: o4 :: o5 :: o6 :: o7 :: o8 :: o9 :: o10 :: o11 :: o12 :: some (.int (v + w)) :: r) st) : V p l e R s m args below meth c Q nL g S F G cells slots pc (o0 :: o1 :: o2 :: o3 :: o4 :: o5 :: o6 :: o7 :: o8 :: o9 :: o10 :: o11 :: o12 :: some (.int v) :: r) st := V.iinc C w rfl hv hn hc hd kk
theorem V.is14 (C : Cx p s m args meth c cc nL own g) {o0 o1 o2 o3 o4 o5 o6 o7 o8 o9 o10 o11 o12 o13 o14 : Option Value} {r : List (Option Value)} {v : Int32} (hn : 14 < nL) (hc : xl1 (o0 :: o1 :: o2 :: o3 :: o4 :: o5 :: o6 :: o7 :: o8 :: o9 :: o10 :: o11 :: o12 :: o13 :: o14 :: r) 14 = true) (hd : decode cc pc = .ok (.istore 14, 2)) (kk : V p l e R s m args below meth c Q nL g S F G cells slots (pc + 2) (o0 :: o1 :: o2 :: o3 :: o4 :: o5 :: o6 :: o7 :: o8 :: o9 :: o10 :: o11 :: o12 :: o13 :: some (.int v) :: r) st) : V p l e R s m args below meth c Q nL g S F G cells slots pc (o0 :: o1 :: o2 :: o3 :: o4 :: o5 :: o6 :: o7 :: o8 :: o9 :: o10 :: o11 :: o12 :: o13 :: o14 :: r) (.int v :: st) := V.istore C hn hc hd kk
theorem V.as14 (C : Cx p s m args meth c cc nL own g) {o0 o1 o2 o3 o4 o5 o6 o7 o8 o9 o10 o11 o12 o13 o14 : Option Value} {r : List (Option Value)} {v : Nat} (hn : 14 < nL) (hc : xl1 (o0 :: o1 :: o2 :: o3 :: o4 :: o5 :: o6 :: o7 :: o8 :: o9 :: o10 :: o11 :: o12 :: o13 :: o14 :: r) 14 = true) (hd : decode cc pc = .ok (.astore 14, 2)) (kk : V p l e R s m args below meth c Q nL g S F G cells slots (pc + 2) (o0 :: o1 :: o2 :: o3 :: o4 :: o5 :: o6 :: o7 :: o8 :: o9 :: o10 :: o11 :: o12 :: o13 :: some (.ref v) :: r) st) : V p l e R s m args below meth c Q nL g S F G cells slots pc (o0 :: o1 :: o2 :: o3 :: o4 :: o5 :: o6 :: o7 :: o8 :: o9 :: o10 :: o11 :: o12 :: o13 :: o14 :: r) (.ref v :: st) := V.astore C hn hc hd kk
theorem V.inc14 (C : Cx p s m args meth c cc nL own g) {o0 o1 o2 o3 o4 o5 o6 o7 o8 o9 o10 o11 o12 o13 : Option Value} {r : List (Option Value)} {n : Int} {v : Int32} (w : Int32) (hv : Int32.ofInt n = w) (hn : 14 < nL) (hc : xl1 (o0 :: o1 :: o2 :: o3 :: o4 :: o5 :: o6 :: o7 :: o8 :: o9 :: o10 :: o11 :: o12 :: o13 :: some (.int v) :: r) 14 = true) (hd : decode cc pc = .ok (.iinc 14 n, 3)) (kk : V p l e R s m args below meth c Q nL g S F G cells slots (pc + 3) (o0 :: o1 :: o2 :: o3 :: o4 :: o5 :: o6 :: o7 :: o8 :: o9 :: o10 :: o11 :: o12 :: o13 :: some (.int (v + w)) :: r) st) : V p l e R s m args below meth c Q nL g S F G cells slots pc (o0 :: o1 :: o2 :: o3 :: o4 :: o5 :: o6 :: o7 :: o8 :: o9 :: o10 :: o11 :: o12 :: o13 :: some (.int v) :: r) st := V.iinc C w rfl hv hn hc hd kk
theorem V.is15 (C : Cx p s m args meth c cc nL own g) {o0 o1 o2 o3 o4 o5 o6 o7 o8 o9 o10 o11 o12 o13 o14 o15 : Option Value} {r : List (Option Value)} {v : Int32} (hn : 15 < nL) (hc : xl1 (o0 :: o1 :: o2 :: o3 :: o4 :: o5 :: o6 :: o7 :: o8 :: o9 :: o10 :: o11 :: o12 :: o13 :: o14 :: o15 :: r) 15 = true) (hd : decode cc pc = .ok (.istore 15, 2)) (kk : V p l e R s m args below meth c Q nL g S F G cells slots (pc + 2) (o0 :: o1 :: o2 :: o3 :: o4 :: o5 :: o6 :: o7 :: o8 :: o9 :: o10 :: o11 :: o12 :: o13 :: o14 :: some (.int v) :: r) st) : V p l e R s m args below meth c Q nL g S F G cells slots pc (o0 :: o1 :: o2 :: o3 :: o4 :: o5 :: o6 :: o7 :: o8 :: o9 :: o10 :: o11 :: o12 :: o13 :: o14 :: o15 :: r) (.int v :: st) := V.istore C hn hc hd kk
theorem V.as15 (C : Cx p s m args meth c cc nL own g) {o0 o1 o2 o3 o4 o5 o6 o7 o8 o9 o10 o11 o12 o13 o14 o15 : Option Value} {r : List (Option Value)} {v : Nat} (hn : 15 < nL) (hc : xl1 (o0 :: o1 :: o2 :: o3 :: o4 :: o5 :: o6 :: o7 :: o8 :: o9 :: o10 :: o11 :: o12 :: o13 :: o14 :: o15 :: r) 15 = true) (hd : decode cc pc = .ok (.astore 15, 2)) (kk : V p l e R s m args below meth c Q nL g S F G cells slots (pc + 2) (o0 :: o1 :: o2 :: o3 :: o4 :: o5 :: o6 :: o7 :: o8 :: o9 :: o10 :: o11 :: o12 :: o13 :: o14 :: some (.ref v) :: r) st) : V p l e R s m args below meth c Q nL g S F G cells slots pc (o0 :: o1 :: o2 :: o3 :: o4 :: o5 :: o6 :: o7 :: o8 :: o9 :: o10 :: o11 :: o12 :: o13 :: o14 :: o15 :: r) (.ref v :: st) := V.astore C hn hc hd kk
theorem V.inc15 (C : Cx p s m args meth c cc nL own g) {o0 o1 o2 o3 o4 o5 o6 o7 o8 o9 o10 o11 o12 o13 o14 : Option Value} {r : List (Option Value)} {n : Int} {v : Int32} (w : Int32) (hv : Int32.ofInt n = w) (hn : 15 < nL) (hc : xl1 (o0 :: o1 :: o2 :: o3 :: o4 :: o5 :: o6 :: o7 :: o8 :: o9 :: o10 :: o11 :: o12 :: o13 :: o14 :: some (.int v) :: r) 15 = true) (hd : decode cc pc = .ok (.iinc 15 n, 3)) (kk : V p l e R s m args below meth c Q nL g S F G cells slots (pc + 3) (o0 :: o1 :: o2 :: o3 :: o4 :: o5 :: o6 :: o7 :: o8 :: o9 :: o10 :: o11 :: o12 :: o13 :: o14 :: some (.int (v + w)) :: r) st) : V p l e R s m args below meth c Q nL g S F G cells slots pc (o0 :: o1 :: o2 :: o3 :: o4 :: o5 :: o6 :: o7 :: o8 :: o9 :: o10 :: o11 :: o12 :: o13 :: o14 :: some (.int v) :: r) st := V.iinc C w rfl hv hn hc hd kk
theorem V.is16 (C : Cx p s m args meth c cc nL own g) {o0 o1 o2 o3 o4 o5 o6 o7 o8 o9 o10 o11 o12 o13 o14 o15 o16 : Option Value} {r : List (Option Value)} {v : Int32} (hn : 16 < nL) (hc : xl1 (o0 :: o1 :: o2 :: o3 :: o4 :: o5 :: o6 :: o7 :: o8 :: o9 :: o10 :: o11 :: o12 :: o13 :: o14 :: o15 :: o16 :: r) 16 = true) (hd : decode cc pc = .ok (.istore 16, 2)) (kk : V p l e R s m args below meth c Q nL g S F G cells slots (pc + 2) (o0 :: o1 :: o2 :: o3 :: o4 :: o5 :: o6 :: o7 :: o8 :: o9 :: o10 :: o11 :: o12 :: o13 :: o14 :: o15 :: some (.int v) :: r) st) : V p l e R s m args below meth c Q nL g S F G cells slots pc (o0 :: o1 :: o2 :: o3 :: o4 :: o5 :: o6 :: o7 :: o8 :: o9 :: o10 :: o11 :: o12 :: o13 :: o14 :: o15 :: o16 :: r) (.int v :: st) := V.istore C hn hc hd kk
theorem V.as16 (C : Cx p s m args meth c cc nL own g) {o0 o1 o2 o3 o4 o5 o6 o7 o8 o9 o10 o11 o12 o13 o14 o15 o16 : Option Value} {r : List (Option Value)} {v : Nat} (hn : 16 < nL) (hc : xl1 (o0 :: o1 :: o2 :: o3 :: o4 :: o5 :: o6 :: o7 :: o8 :: o9 :: o10 :: o11 :: o12 :: o13 :: o14 :: o15 :: o16 :: r) 16 = true) (hd : decode cc pc = .ok (.astore 16, 2)) (kk : V p l e R s m args below meth c Q nL g S F G cells slots (pc + 2) (o0 :: o1 :: o2 :: o3 :: o4 :: o5 :: o6 :: o7 :: o8 :: o9 :: o10 :: o11 :: o12 :: o13 :: o14 :: o15 :: some (.ref v) :: r) st) : V p l e R s m args below meth c Q nL g S F G cells slots pc (o0 :: o1 :: o2 :: o3 :: o4 :: o5 :: o6 :: o7 :: o8 :: o9 :: o10 :: o11 :: o12 :: o13 :: o14 :: o15 :: o16 :: r) (.ref v :: st) := V.astore C hn hc hd kk
theorem V.inc16 (C : Cx p s m args meth c cc nL own g) {o0 o1 o2 o3 o4 o5 o6 o7 o8 o9 o10 o11 o12 o13 o14 o15 : Option Value} {r : List (Option Value)} {n : Int} {v : Int32} (w : Int32) (hv : Int32.ofInt n = w) (hn : 16 < nL) (hc : xl1 (o0 :: o1 :: o2 :: o3 :: o4 :: o5 :: o6 :: o7 :: o8 :: o9 :: o10 :: o11 :: o12 :: o13 :: o14 :: o15 :: some (.int v) :: r) 16 = true) (hd : decode cc pc = .ok (.iinc 16 n, 3)) (kk : V p l e R s m args below meth c Q nL g S F G cells slots (pc + 3) (o0 :: o1 :: o2 :: o3 :: o4 :: o5 :: o6 :: o7 :: o8 :: o9 :: o10 :: o11 :: o12 :: o13 :: o14 :: o15 :: some (.int (v + w)) :: r) st) : V p l e R s m args below meth c Q nL g S F G cells slots pc (o0 :: o1 :: o2 :: o3 :: o4 :: o5 :: o6 :: o7 :: o8 :: o9 :: o10 :: o11 :: o12 :: o13 :: o14 :: o15 :: some (.int v) :: r) st := V.iinc C w rfl hv hn hc hd kk
theorem V.is17 (C : Cx p s m args meth c cc nL own g) {o0 o1 o2 o3 o4 o5 o6 o7 o8 o9 o10 o11 o12 o13 o14 o15 o16 o17 : Option Value} {r : List (Option Value)} {v : Int32} (hn : 17 < nL) (hc : xl1 (o0 :: o1 :: o2 :: o3 :: o4 :: o5 :: o6 :: o7 :: o8 :: o9 :: o10 :: o11 :: o12 :: o13 :: o14 :: o15 :: o16 :: o17 :: r) 17 = true) (hd : decode cc pc = .ok (.istore 17, 2)) (kk : V p l e R s m args below meth c Q nL g S F G cells slots (pc + 2) (o0 :: o1 :: o2 :: o3 :: o4 :: o5 :: o6 :: o7 :: o8 :: o9 :: o10 :: o11 :: o12 :: o13 :: o14 :: o15 :: o16 :: some (.int v) :: r) st) : V p l e R s m args below meth c Q nL g S F G cells slots pc (o0 :: o1 :: o2 :: o3 :: o4 :: o5 :: o6 :: o7 :: o8 :: o9 :: o10 :: o11 :: o12 :: o13 :: o14 :: o15 :: o16 :: o17 :: r) (.int v :: st) := V.istore C hn hc hd kk
theorem V.as17 (C : Cx p s m args meth c cc nL own g) {o0 o1 o2 o3 o4 o5 o6 o7 o8 o9 o10 o11 o12 o13 o14 o15 o16 o17 : Option Value} {r : List (Option Value)} {v : Nat} (hn : 17 < nL) (hc : xl1 (o0 :: o1 :: o2 :: o3 :: o4 :: o5 :: o6 :: o7 :: o8 :: o9 :: o10 :: o11 :: o12 :: o13 :: o14 :: o15 :: o16 :: o17 :: r) 17 = true) (hd : decode cc pc = .ok (.astore 17, 2)) (kk : V p l e R s m args below meth c Q nL g S F G cells slots (pc + 2) (o0 :: o1 :: o2 :: o3 :: o4 :: o5 :: o6 :: o7 :: o8 :: o9 :: o10 :: o11 :: o12 :: o13 :: o14 :: o15 :: o16 :: some (.ref v) :: r) st) : V p l e R s m args below meth c Q nL g S F G cells slots pc (o0 :: o1 :: o2 :: o3 :: o4 :: o5 :: o6 :: o7 :: o8 :: o9 :: o10 :: o11 :: o12 :: o13 :: o14 :: o15 :: o16 :: o17 :: r) (.ref v :: st) := V.astore C hn hc hd kk
theorem V.inc17 (C : Cx p s m args meth c cc nL own g) {o0 o1 o2 o3 o4 o5 o6 o7 o8 o9 o10 o11 o12 o13 o14 o15 o16 : Option Value} {r : List (Option Value)} {n : Int} {v : Int32} (w : Int32) (hv : Int32.ofInt n = w) (hn : 17 < nL) (hc : xl1 (o0 :: o1 :: o2 :: o3 :: o4 :: o5 :: o6 :: o7 :: o8 :: o9 :: o10 :: o11 :: o12 :: o13 :: o14 :: o15 :: o16 :: some (.int v) :: r) 17 = true) (hd : decode cc pc = .ok (.iinc 17 n, 3)) (kk : V p l e R s m args below meth c Q nL g S F G cells slots (pc + 3) (o0 :: o1 :: o2 :: o3 :: o4 :: o5 :: o6 :: o7 :: o8 :: o9 :: o10 :: o11 :: o12 :: o13 :: o14 :: o15 :: o16 :: some (.int (v + w)) :: r) st) : V p l e R s m args below meth c Q nL g S F G cells slots pc (o0 :: o1 :: o2 :: o3 :: o4 :: o5 :: o6 :: o7 :: o8 :: o9 :: o10 :: o11 :: o12 :: o13 :: o14 :: o15 :: o16 :: some (.int v) :: r) st := V.iinc C w rfl hv hn hc hd kk
theorem V.is18 (C : Cx p s m args meth c cc nL own g) {o0 o1 o2 o3 o4 o5 o6 o7 o8 o9 o10 o11 o12 o13 o14 o15 o16 o17 o18 : Option Value} {r : List (Option Value)} {v : Int32} (hn : 18 < nL) (hc : xl1 (o0 :: o1 :: o2 :: o3 :: o4 :: o5 :: o6 :: o7 :: o8 :: o9 :: o10 :: o11 :: o12 :: o13 :: o14 :: o15 :: o16 :: o17 :: o18 :: r) 18 = true) (hd : decode cc pc = .ok (.istore 18, 2)) (kk : V p l e R s m args below meth c Q nL g S F G cells slots (pc + 2) (o0 :: o1 :: o2 :: o3 :: o4 :: o5 :: o6 :: o7 :: o8 :: o9 :: o10 :: o11 :: o12 :: o13 :: o14 :: o15 :: o16 :: o17 :: some (.int v) :: r) st) : V p l e R s m args below meth c Q nL g S F G cells slots pc (o0 :: o1 :: o2 :: o3 :: o4 :: o5 :: o6 :: o7 :: o8 :: o9 :: o10 :: o11 :: o12 :: o13 :: o14 :: o15 :: o16 :: o17 :: o18 :: r) (.int v :: st) := V.istore C hn hc hd kk
theorem V.as18 (C : Cx p s m args meth c cc nL own g) {o0 o1 o2 o3 o4 o5 o6 o7 o8 o9 o10 o11 o12 o13 o14 o15 o16 o17 o18 : Option Value} {r : List (Option Value)} {v : Nat} (hn : 18 < nL) (hc : xl1 (o0 :: o1 :: o2 :: o3 :: o4 :: o5 :: o6 :: o7 :: o8 :: o9 :: o10 :: o11 :: o12 :: o13 :: o14 :: o15 :: o16 :: o17 :: o18 :: r) 18 = true) (hd : decode cc pc = .ok (.astore 18, 2)) (kk : V p l e R s m args below meth c Q nL g S F G cells slots (pc + 2) (o0 :: o1 :: o2 :: o3 :: o4 :: o5 :: o6 :: o7 :: o8 :: o9 :: o10 :: o11 :: o12 :: o13 :: o14 :: o15 :: o16 :: o17 :: some (.ref v) :: r) st) : V p l e R s m args below meth c Q nL g S F G cells slots pc (o0 :: o1 :: o2 :: o3 :: o4 :: o5 :: o6 :: o7 :: o8 :: o9 :: o10 :: o11 :: o12 :: o13 :: o14 :: o15 :: o16 :: o17 :: o18 :: r) (.ref v :: st) := V.astore C hn hc hd kk
theorem V.inc18 (C : Cx p s m args meth c cc nL own g) {o0 o1 o2 o3 o4 o5 o6 o7 o8 o9 o10 o11 o12 o13 o14 o15 o16 o17 : Option Value} {r : List (Option Value)} {n : Int} {v : Int32} (w : Int32) (hv : Int32.ofInt n = w) (hn : 18 < nL) (hc : xl1 (o0 :: o1 :: o2 :: o3 :: o4 :: o5 :: o6 :: o7 :: o8 :: o9 :: o10 :: o11 :: o12 :: o13 :: o14 :: o15 :: o16 :: o17 :: some (.int v) :: r) 18 = true) (hd : decode cc pc = .ok (.iinc 18 n, 3)) (kk : V p l e R s m args below meth c Q nL g S F G cells slots (pc + 3) (o0 :: o1 :: o2 :: o3 :: o4 :: o5 :: o6 :: o7 :: o8 :: o9 :: o10 :: o11 :: o12 :: o13 :: o14 :: o15 :: o16 :: o17 :: some (.int (v + w)) :: r) st) : V p l e R s m args below meth c Q nL g S F G cells slots pc (o0 :: o1 :: o2 :: o3 :: o4 :: o5 :: o6 :: o7 :: o8 :: o9 :: o10 :: o11 :: o12 :: o13 :: o14 :: o15 :: o16 :: o17 :: some (.int v) :: r) st := V.iinc C w rfl hv hn hc hd kk
theorem V.is19 (C : Cx p s m args meth c cc nL own g) {o0 o1 o2 o3 o4 o5 o6 o7 o8 o9 o10 o11 o12 o13 o14 o15 o16 o17 o18 o19 : Option Value} {r : List (Option Value)} {v : Int32} (hn : 19 < nL) (hc : xl1 (o0 :: o1 :: o2 :: o3 :: o4 :: o5 :: o6 :: o7 :: o8 :: o9 :: o10 :: o11 :: o12 :: o13 :: o14 :: o15 :: o16 :: o17 :: o18 :: o19 :: r) 19 = true) (hd : decode cc pc = .ok (.istore 19, 2)) (kk : V p l e R s m args below meth c Q nL g S F G cells slots (pc + 2) (o0 :: o1 :: o2 :: o3 :: o4 :: o5 :: o6 :: o7 :: o8 :: o9 :: o10 :: o11 :: o12 :: o13 :: o14 :: o15 :: o16 :: o17 :: o18 :: some (.int v) :: r) st) : V p l e R s m args below meth c Q nL g S F G cells slots pc (o0 :: o1 :: o2 :: o3 :: o4 :: o5 :: o6 :: o7 :: o8 :: o9 :: o10 :: o11 :: o12 :: o13 :: o14 :: o15 :: o16 :: o17 :: o18 :: o19 :: r) (.int v :: st) := V.istore C hn hc hd kk
theorem V.as19 (C : Cx p s m args meth c cc nL own g) {o0 o1 o2 o3 o4 o5 o6 o7 o8 o9 o10 o11 o12 o13 o14 o15 o16 o17 o18 o19 : Option Value} {r : List (Option Value)} {v : Nat} (hn : 19 < nL) (hc : xl1 (o0 :: o1 :: o2 :: o3 :: o4 :: o5 :: o6 :: o7 :: o8 :: o9 :: o10 :: o11 :: o12 :: o13 :: o14 :: o15 :: o16 :: o17 :: o18 :: o19 :: r) 19 = true) (hd : decode cc pc = .ok (.astore 19, 2)) (kk : V p l e R s m args below meth c Q nL g S F G cells slots (pc + 2) (o0 :: o1 :: o2 :: o3 :: o4 :: o5 :: o6 :: o7 :: o8 :: o9 :: o10 :: o11 :: o12 :: o13 :: o14 :: o15 :: o16 :: o17 :: o18 :: some (.ref v) :: r) st) : V p l e R s m args below meth c Q nL g S F G cells slots pc (o0 :: o1 :: o2 :: o3 :: o4 :: o5 :: o6 :: o7 :: o8 :: o9 :: o10 :: o11 :: o12 :: o13 :: o14 :: o15 :: o16 :: o17 :: o18 :: o19 :: r) (.ref v :: st) := V.astore C hn hc hd kk
theorem V.inc19 (C : Cx p s m args meth c cc nL own g) {o0 o1 o2 o3 o4 o5 o6 o7 o8 o9 o10 o11 o12 o13 o14 o15 o16 o17 o18 : Option Value} {r : List (Option Value)} {n : Int} {v : Int32} (w : Int32) (hv : Int32.ofInt n = w) (hn : 19 < nL) (hc : xl1 (o0 :: o1 :: o2 :: o3 :: o4 :: o5 :: o6 :: o7 :: o8 :: o9 :: o10 :: o11 :: o12 :: o13 :: o14 :: o15 :: o16 :: o17 :: o18 :: some (.int v) :: r) 19 = true) (hd : decode cc pc = .ok (.iinc 19 n, 3)) (kk : V p l e R s m args below meth c Q nL g S F G cells slots (pc + 3) (o0 :: o1 :: o2 :: o3 :: o4 :: o5 :: o6 :: o7 :: o8 :: o9 :: o10 :: o11 :: o12 :: o13 :: o14 :: o15 :: o16 :: o17 :: o18 :: some (.int (v + w)) :: r) st) : V p l e R s m args below meth c Q nL g S F G cells slots pc (o0 :: o1 :: o2 :: o3 :: o4 :: o5 :: o6 :: o7 :: o8 :: o9 :: o10 :: o11 :: o12 :: o13 :: o14 :: o15 :: o16 :: o17 :: o18 :: some (.int v) :: r) st := V.iinc C w rfl hv hn hc hd kk
theorem V.is20 (C : Cx p s m args meth c cc nL own g) {o0 o1 o2 o3 o4 o5 o6 o7 o8 o9 o10 o11 o12 o13 o14 o15 o16 o17 o18 o19 o20 : Option Value} {r : List (Option Value)} {v : Int32} (hn : 20 < nL) (hc : xl1 (o0 :: o1 :: o2 :: o3 :: o4 :: o5 :: o6 :: o7 :: o8 :: o9 :: o10 :: o11 :: o12 :: o13 :: o14 :: o15 :: o16 :: o17 :: o18 :: o19 :: o20 :: r) 20 = true) (hd : decode cc pc = .ok (.istore 20, 2)) (kk : V p l e R s m args below meth c Q nL g S F G cells slots (pc + 2) (o0 :: o1 :: o2 :: o3 :: o4 :: o5 :: o6 :: o7 :: o8 :: o9 :: o10 :: o11 :: o12 :: o13 :: o14 :: o15 :: o16 :: o17 :: o18 :: o19 :: some (.int v) :: r) st) : V p l e R s m args below meth c Q nL g S F G cells slots pc (o0 :: o1 :: o2 :: o3 :: o4 :: o5 :: o6 :: o7 :: o8 :: o9 :: o10 :: o11 :: o12 :: o13 :: o14 :: o15 :: o16 :: o17 :: o18 :: o19 :: o20 :: r) (.int v :: st) := V.istore C hn hc hd kk
theorem V.as20 (C : Cx p s m args meth c cc nL own g) {o0 o1 o2 o3 o4 o5 o6 o7 o8 o9 o10 o11 o12 o13 o14 o15 o16 o17 o18 o19 o20 : Option Value} {r : List (Option Value)} {v : Nat} (hn : 20 < nL) (hc : xl1 (o0 :: o1 :: o2 :: o3 :: o4 :: o5 :: o6 :: o7 :: o8 :: o9 :: o10 :: o11 :: o12 :: o13 :: o14 :: o15 :: o16 :: o17 :: o18 :: o19 :: o20 :: r) 20 = true) (hd : decode cc pc = .ok (.astore 20, 2)) (kk : V p l e R s m args below meth c Q nL g S F G cells slots (pc + 2) (o0 :: o1 :: o2 :: o3 :: o4 :: o5 :: o6 :: o7 :: o8 :: o9 :: o10 :: o11 :: o12 :: o13 :: o14 :: o15 :: o16 :: o17 :: o18 :: o19 :: some (.ref v) :: r) st) : V p l e R s m args below meth c Q nL g S F G cells slots pc (o0 :: o1 :: o2 :: o3 :: o4 :: o5 :: o6 :: o7 :: o8 :: o9 :: o10 :: o11 :: o12 :: o13 :: o14 :: o15 :: o16 :: o17 :: o18 :: o19 :: o20 :: r) (.ref v :: st) := V.astore C hn hc hd kk
theorem V.inc20 (C : Cx p s m args meth c cc nL own g) {o0 o1 o2 o3 o4 o5 o6 o7 o8 o9 o10 o11 o12 o13 o14 o15 o16 o17 o18 o19 : Option Value} {r : List (Option Value)} {n : Int} {v : Int32} (w : Int32) (hv : Int32.ofInt n = w) (hn : 20 < nL) (hc : xl1 (o0 :: o1 :: o2 :: o3 :: o4 :: o5 :: o6 :: o7 :: o8 :: o9 :: o10 :: o11 :: o12 :: o13 :: o14 :: o15 :: o16 :: o17 :: o18 :: o19 :: some (.int v) :: r) 20 = true) (hd : decode cc pc = .ok (.iinc 20 n, 3)) (kk : V p l e R s m args below meth c Q nL g S F G cells slots (pc + 3) (o0 :: o1 :: o2 :: o3 :: o4 :: o5 :: o6 :: o7 :: o8 :: o9 :: o10 :: o11 :: o12 :: o13 :: o14 :: o15 :: o16 :: o17 :: o18 :: o19 :: some (.int (v + w)) :: r) st) : V p l e R s m args below meth c Q nL g S F G cells slots pc (o0 :: o1 :: o2 :: o3 :: o4 :: o5 :: o6 :: o7 :: o8 :: o9 :: o10 :: o11 :: o12 :: o13 :: o14 :: o15 :: o16 :: o17 :: o18 :: o19 :: some (.int v) :: r) st := V.iinc C w rfl hv hn hc hd kk
theorem V.is21 (C : Cx p s m args meth c cc nL own g) {o0 o1 o2 o3 o4 o5 o6 o7 o8 o9 o10 o11 o12 o13 o14 o15 o16 o17 o18 o19 o20 o21 : Option Value} {r : List (Option Value)} {v : Int32} (hn : 21 < nL) (hc : xl1 (o0 :: o1 :: o2 :: o3 :: o4 :: o5 :: o6 :: o7 :: o8 :: o9 :: o10 :: o11 :: o12 :: o13 :: o14 :: o15 :: o16 :: o17 :: o18 :: o19 :: o20 :: o21 :: r) 21 = true) (hd : decode cc pc = .ok (.istore 21, 2)) (kk : V p l e R s m args below meth c Q nL g S F G cells slots (pc + 2) (o0 :: o1 :: o2 :: o3 :: o4 :: o5 :: o6 :: o7 :: o8 :: o9 :: o10 :: o11 :: o12 :: o13 :: o14 :: o15 :: o16 :: o17 :: o18 :: o19 :: o20 :: some (.int v) :: r) st) : V p l e R s m args below meth c Q nL g S F G cells slots pc (o0 :: o1 :: o2 :: o3 :: o4 :: o5 :: o6 :: o7 :: o8 :: o9 :: o10 :: o11 :: o12 :: o13 :: o14 :: o15 :: o16 :: o17 :: o18 :: o19 :: o20 :: o21 :: r) (.int v :: st) := V.istore C hn hc hd kk
theorem V.as21 (C : Cx p s m args meth c cc nL own g) {o0 o1 o2 o3 o4 o5 o6 o7 o8 o9 o10 o11 o12 o13 o14 o15 o16 o17 o18 o19 o20 o21 : Option Value} {r : List (Option Value)} {v : Nat} (hn : 21 < nL) (hc : xl1 (o0 :: o1 :: o2 :: o3 :: o4 :: o5 :: o6 :: o7 :: o8 :: o9 :: o10 :: o11 :: o12 :: o13 :: o14 :: o15 :: o16 :: o17 :: o18 :: o19 :: o20 :: o21 :: r) 21 = true) (hd : decode cc pc = .ok (.astore 21, 2)) (kk : V p l e R s m args below meth c Q nL g S F G cells slots (pc + 2) (o0 :: o1 :: o2 :: o3 :: o4 :: o5 :: o6 :: o7 :: o8 :: o9 :: o10 :: o11 :: o12 :: o13 :: o14 :: o15 :: o16 :: o17 :: o18 :: o19 :: o20 :: some (.ref v) :: r) st) : V p l e R s m args below meth c Q nL g S F G cells slots pc (o0 :: o1 :: o2 :: o3 :: o4 :: o5 :: o6 :: o7 :: o8 :: o9 :: o10 :: o11 :: o12 :: o13 :: o14 :: o15 :: o16 :: o17 :: o18 :: o19 :: o20 :: o21 :: r) (.ref v :: st) := V.astore C hn hc hd kk
theorem V.inc21 (C : Cx p s m args meth c cc nL own g) {o0 o1 o2 o3 o4 o5 o6 o7 o8 o9 o10 o11 o12 o13 o14 o15 o16 o17 o18 o19 o20 : Option Value} {r : List (Option Value)} {n : Int} {v : Int32} (w : Int32) (hv : Int32.ofInt n = w) (hn : 21 < nL) (hc : xl1 (o0 :: o1 :: o2 :: o3 :: o4 :: o5 :: o6 :: o7 :: o8 :: o9 :: o10 :: o11 :: o12 :: o13 :: o14 :: o15 :: o16 :: o17 :: o18 :: o19 :: o20 :: some (.int v) :: r) 21 = true) (hd : decode cc pc = .ok (.iinc 21 n, 3)) (kk : V p l e R s m args below meth c Q nL g S F G cells slots (pc + 3) (o0 :: o1 :: o2 :: o3 :: o4 :: o5 :: o6 :: o7 :: o8 :: o9 :: o10 :: o11 :: o12 :: o13 :: o14 :: o15 :: o16 :: o17 :: o18 :: o19 :: o20 :: some (.int (v + w)) :: r) st) : V p l e R s m args below meth c Q nL g S F G cells slots pc (o0 :: o1 :: o2 :: o3 :: o4 :: o5 :: o6 :: o7 :: o8 :: o9 :: o10 :: o11 :: o12 :: o13 :: o14 :: o15 :: o16 :: o17 :: o18 :: o19 :: o20 :: some (.int v) :: r) st := V.iinc C w rfl hv hn hc hd kk
theorem V.is22 (C : Cx p s m args meth c cc nL own g) {o0 o1 o2 o3 o4 o5 o6 o7 o8 o9 o10 o11 o12 o13 o14 o15 o16 o17 o18 o19 o20 o21 o22 : Option Value} {r : List (Option Value)} {v : Int32} (hn : 22 < nL) (hc : xl1 (o0 :: o1 :: o2 :: o3 :: o4 :: o5 :: o6 :: o7 :: o8 :: o9 :: o10 :: o11 :: o12 :: o13 :: o14 :: o15 :: o16 :: o17 :: o18 :: o19 :: o20 :: o21 :: o22 :: r) 22 = true) (hd : decode cc pc = .ok (.istore 22, 2)) (kk : V p l e R s m args below meth c Q nL g S F G cells slots (pc + 2) (o0 :: o1 :: o2 :: o3 :: o4 :: o5 :: o6 :: o7 :: o8 :: o9 :: o10 :: o11 :: o12 :: o13 :: o14 :: o15 :: o16 :: o17 :: o18 :: o19 :: o20 :: o21 :: some (.int v) :: r) st) : V p l e R s m args below meth c Q nL g S F G cells slots pc (o0 :: o1 :: o2 :: o3 :: o4 :: o5 :: o6 :: o7 :: o8 :: o9 :: o10 :: o11 :: o12 :: o13 :: o14 :: o15 :: o16 :: o17 :: o18 :: o19 :: o20 :: o21 :: o22 :: r) (.int v :: st) := V.istore C hn hc hd kk
theorem V.as22 (C : Cx p s m args meth c cc nL own g) {o0 o1 o2 o3 o4 o5 o6 o7 o8 o9 o10 o11 o12 o13 o14 o15 o16 o17 o18 o19 o20 o21 o22 : Option Value} {r : List (Option Value)} {v : Nat} (hn : 22 < nL) (hc : xl1 (o0 :: o1 :: o2 :: o3 :: o4 :: o5 :: o6 :: o7 :: o8 :: o9 :: o10 :: o11 :: o12 :: o13 :: o14 :: o15 :: o16 :: o17 :: o18 :: o19 :: o20 :: o21 :: o22 :: r) 22 = true) (hd : decode cc pc = .ok (.astore 22, 2)) (kk : V p l e R s m args below meth c Q nL g S F G cells slots (pc + 2) (o0 :: o1 :: o2 :: o3 :: o4 :: o5 :: o6 :: o7 :: o8 :: o9 :: o10 :: o11 :: o12 :: o13 :: o14 :: o15 :: o16 :: o17 :: o18 :: o19 :: o20 :: o21 :: some (.ref v) :: r) st) : V p l e R s m args below meth c Q nL g S F G cells slots pc (o0 :: o1 :: o2 :: o3 :: o4 :: o5 :: o6 :: o7 :: o8 :: o9 :: o10 :: o11 :: o12 :: o13 :: o14 :: o15 :: o16 :: o17 :: o18 :: o19 :: o20 :: o21 :: o22 :: r) (.ref v :: st) := V.astore C hn hc hd kk
theorem V.inc22 (C : Cx p s m args meth c cc nL own g) {o0 o1 o2 o3 o4 o5 o6 o7 o8 o9 o10 o11 o12 o13 o14 o15 o16 o17 o18 o19 o20 o21 : Option Value} {r : List (Option Value)} {n : Int} {v : Int32} (w : Int32) (hv : Int32.ofInt n = w) (hn : 22 < nL) (hc : xl1 (o0 :: o1 :: o2 :: o3 :: o4 :: o5 :: o6 :: o7 :: o8 :: o9 :: o10 :: o11 :: o12 :: o13 :: o14 :: o15 :: o16 :: o17 :: o18 :: o19 :: o20 :: o21 :: some (.int v) :: r) 22 = true) (hd : decode cc pc = .ok (.iinc 22 n, 3)) (kk : V p l e R s m args below meth c Q nL g S F G cells slots (pc + 3) (o0 :: o1 :: o2 :: o3 :: o4 :: o5 :: o6 :: o7 :: o8 :: o9 :: o10 :: o11 :: o12 :: o13 :: o14 :: o15 :: o16 :: o17 :: o18 :: o19 :: o20 :: o21 :: some (.int (v + w)) :: r) st) : V p l e R s m args below meth c Q nL g S F G cells slots pc (o0 :: o1 :: o2 :: o3 :: o4 :: o5 :: o6 :: o7 :: o8 :: o9 :: o10 :: o11 :: o12 :: o13 :: o14 :: o15 :: o16 :: o17 :: o18 :: o19 :: o20 :: o21 :: some (.int v) :: r) st := V.iinc C w rfl hv hn hc hd kk
theorem V.is23 (C : Cx p s m args meth c cc nL own g) {o0 o1 o2 o3 o4 o5 o6 o7 o8 o9 o10 o11 o12 o13 o14 o15 o16 o17 o18 o19 o20 o21 o22 o23 : Option Value} {r : List (Option Value)} {v : Int32} (hn : 23 < nL) (hc : xl1 (o0 :: o1 :: o2 :: o3 :: o4 :: o5 :: o6 :: o7 :: o8 :: o9 :: o10 :: o11 :: o12 :: o13 :: o14 :: o15 :: o16 :: o17 :: o18 :: o19 :: o20 :: o21 :: o22 :: o23 :: r) 23 = true) (hd : decode cc pc = .ok (.istore 23, 2)) (kk : V p l e R s m args below meth c Q nL g S F G cells slots (pc + 2) (o0 :: o1 :: o2 :: o3 :: o4 :: o5 :: o6 :: o7 :: o8 :: o9 :: o10 :: o11 :: o12 :: o13 :: o14 :: o15 :: o16 :: o17 :: o18 :: o19 :: o20 :: o21 :: o22 :: some (.int v) :: r) st) : V p l e R s m args below meth c Q nL g S F G cells slots pc (o0 :: o1 :: o2 :: o3 :: o4 :: o5 :: o6 :: o7 :: o8 :: o9 :: o10 :: o11 :: o12 :: o13 :: o14 :: o15 :: o16 :: o17 :: o18 :: o19 :: o20 :: o21 :: o22 :: o23 :: r) (.int v :: st) := V.istore C hn hc hd kk
theorem V.as23 (C : Cx p s m args meth c cc nL own g) {o0 o1 o2 o3 o4 o5 o6 o7 o8 o9 o10 o11 o12 o13 o14 o15 o16 o17 o18 o19 o20 o21 o22 o23 : Option Value} {r : List (Option Value)} {v : Nat} (hn : 23 < nL) (hc : xl1 (o0 :: o1 :: o2 :: o3 :: o4 :: o5 :: o6 :: o7 :: o8 :: o9 :: o10 :: o11 :: o12 :: o13 :: o14 :: o15 :: o16 :: o17 :: o18 :: o19 :: o20 :: o21 :: o22 :: o23 :: r) 23 = true) (hd : decode cc pc = .ok (.astore 23, 2)) (kk : V p l e R s m args below meth c Q nL g S F G cells slots (pc + 2) (o0 :: o1 :: o2 :: o3 :: o4 :: o5 :: o6 :: o7 :: o8 :: o9 :: o10 :: o11 :: o12 :: o13 :: o14 :: o15 :: o16 :: o17 :: o18 :: o19 :: o20 :: o21 :: o22 :: some (.ref v) :: r) st) : V p l e R s m args below meth c Q nL g S F G cells slots pc (o0 :: o1 :: o2 :: o3 :: o4 :: o5 :: o6 :: o7 :: o8 :: o9 :: o10 :: o11 :: o12 :: o13 :: o14 :: o15 :: o16 :: o17 :: o18 :: o19 :: o20 :: o21 :: o22 :: o23 :: r) (.ref v :: st) := V.astore C hn hc hd kk
theorem V.inc23 (C : Cx p s m args meth c cc nL own g) {o0 o1 o2 o3 o4 o5 o6 o7 o8 o9 o10 o11 o12 o13 o14 o15 o16 o17 o18 o19 o20 o21 o22 : Option Value} {r : List (Option Value)} {n : Int} {v : Int32} (w : Int32) (hv : Int32.ofInt n = w) (hn : 23 < nL) (hc : xl1 (o0 :: o1 :: o2 :: o3 :: o4 :: o5 :: o6 :: o7 :: o8 :: o9 :: o10 :: o11 :: o12 :: o13 :: o14 :: o15 :: o16 :: o17 :: o18 :: o19 :: o20 :: o21 :: o22 :: some (.int v) :: r) 23 = true) (hd : decode cc pc = .ok (.iinc 23 n, 3)) (kk : V p l e R s m args below meth c Q nL g S F G cells slots (pc + 3) (o0 :: o1 :: o2 :: o3 :: o4 :: o5 :: o6 :: o7 :: o8 :: o9 :: o10 :: o11 :: o12 :: o13 :: o14 :: o15 :: o16 :: o17 :: o18 :: o19 :: o20 :: o21 :: o22 :: some (.int (v + w)) :: r) st) : V p l e R s m args below meth c Q nL g S F G cells slots pc (o0 :: o1 :: o2 :: o3 :: o4 :: o5 :: o6 :: o7 :: o8 :: o9 :: o10 :: o11 :: o12 :: o13 :: o14 :: o15 :: o16 :: o17 :: o18 :: o19 :: o20 :: o21 :: o22 :: some (.int v) :: r) st := V.iinc C w rfl hv hn hc hd kk
theorem V.is24 (C : Cx p s m args meth c cc nL own g) {o0 o1 o2 o3 o4 o5 o6 o7 o8 o9 o10 o11 o12 o13 o14 o15 o16 o17 o18 o19 o20 o21 o22 o23 o24 : Option Value} {r : List (Option Value)} {v : Int32} (hn : 24 < nL) (hc : xl1 (o0 :: o1 :: o2 :: o3 :: o4 :: o5 :: o6 :: o7 :: o8 :: o9 :: o10 :: o11 :: o12 :: o13 :: o14 :: o15 :: o16 :: o17 :: o18 :: o19 :: o20 :: o21 :: o22 :: o23 :: o24 :: r) 24 = true) (hd : decode cc pc = .ok (.istore 24, 2)) (kk : V p l e R s m args below meth c Q nL g S F G cells slots (pc + 2) (o0 :: o1 :: o2 :: o3 :: o4 :: o5 :: o6 :: o7 :: o8 :: o9 :: o10 :: o11 :: o12 :: o13 :: o14 :: o15 :: o16 :: o17 :: o18 :: o19 :: o20 :: o21 :: o22 :: o23 :: some (.int v) :: r) st) : V p l e R s m args below meth c Q nL g S F G cells slots pc (o0 :: o1 :: o2 :: o3 :: o4 :: o5 :: o6 :: o7 :: o8 :: o9 :: o10 :: o11 :: o12 :: o13 :: o14 :: o15 :: o16 :: o17 :: o18 :: o19 :: o20 :: o21 :: o22 :: o23 :: o24 :: r) (.int v :: st) := V.istore C hn hc hd kk
theorem V.as24 (C : Cx p s m args meth c cc nL own g) {o0 o1 o2 o3 o4 o5 o6 o7 o8 o9 o10 o11 o12 o13 o14 o15 o16 o17 o18 o19 o20 o21 o22 o23 o24 : Option Value} {r : List (Option Value)} {v : Nat} (hn : 24 < nL) (hc : xl1 (o0 :: o1 :: o2 :: o3 :: o4 :: o5 :: o6 :: o7 :: o8 :: o9 :: o10 :: o11 :: o12 :: o13 :: o14 :: o15 :: o16 :: o17 :: o18 :: o19 :: o20 :: o21 :: o22 :: o23 :: o24 :: r) 24 = true) (hd : decode cc pc = .ok (.astore 24, 2)) (kk : V p l e R s m args below meth c Q nL g S F G cells slots (pc + 2) (o0 :: o1 :: o2 :: o3 :: o4 :: o5 :: o6 :: o7 :: o8 :: o9 :: o10 :: o11 :: o12 :: o13 :: o14 :: o15 :: o16 :: o17 :: o18 :: o19 :: o20 :: o21 :: o22 :: o23 :: some (.ref v) :: r) st) : V p l e R s m args below meth c Q nL g S F G cells slots pc (o0 :: o1 :: o2 :: o3 :: o4 :: o5 :: o6 :: o7 :: o8 :: o9 :: o10 :: o11 :: o12 :: o13 :: o14 :: o15 :: o16 :: o17 :: o18 :: o19 :: o20 :: o21 :: o22 :: o23 :: o24 :: r) (.ref v :: st) := V.astore C hn hc hd kk
theorem V.inc24 (C : Cx p s m args meth c cc nL own g) {o0 o1 o2 o3 o4 o5 o6 o7 o8 o9 o10 o11 o12 o13 o14 o15 o16 o17 o18 o19 o20 o21 o22 o23 : Option Value} {r : List (Option Value)} {n : Int} {v : Int32} (w : Int32) (hv : Int32.ofInt n = w) (hn : 24 < nL) (hc : xl1 (o0 :: o1 :: o2 :: o3 :: o4 :: o5 :: o6 :: o7 :: o8 :: o9 :: o10 :: o11 :: o12 :: o13 :: o14 :: o15 :: o16 :: o17 :: o18 :: o19 :: o20 :: o21 :: o22 :: o23 :: some (.int v) :: r) 24 = true) (hd : decode cc pc = .ok (.iinc 24 n, 3)) (kk : V p l e R s m args below meth c Q nL g S F G cells slots (pc + 3) (o0 :: o1 :: o2 :: o3 :: o4 :: o5 :: o6 :: o7 :: o8 :: o9 :: o10 :: o11 :: o12 :: o13 :: o14 :: o15 :: o16 :: o17 :: o18 :: o19 :: o20 :: o21 :: o22 :: o23 :: some (.int (v + w)) :: r) st) : V p l e R s m args below meth c Q nL g S F G cells slots pc (o0 :: o1 :: o2 :: o3 :: o4 :: o5 :: o6 :: o7 :: o8 :: o9 :: o10 :: o11 :: o12 :: o13 :: o14 :: o15 :: o16 :: o17 :: o18 :: o19 :: o20 :: o21 :: o22 :: o23 :: some (.int v) :: r) st := V.iinc C w rfl hv hn hc hd kk
theorem V.is25 (C : Cx p s m args meth c cc nL own g) {o0 o1 o2 o3 o4 o5 o6 o7 o8 o9 o10 o11 o12 o13 o14 o15 o16 o17 o18 o19 o20 o21 o22 o23 o24 o25 : Option Value} {r : List (Option Value)} {v : Int32} (hn : 25 < nL) (hc : xl1 (o0 :: o1 :: o2 :: o3 :: o4 :: o5 :: o6 :: o7 :: o8 :: o9 :: o10 :: o11 :: o12 :: o13 :: o14 :: o15 :: o16 :: o17 :: o18 :: o19 :: o20 :: o21 :: o22 :: o23 :: o24 :: o25 :: r) 25 = true) (hd : decode cc pc = .ok (.istore 25, 2)) (kk : V p l e R s m args below meth c Q nL g S F G cells slots (pc + 2) (o0 :: o1 :: o2 :: o3 :: o4 :: o5 :: o6 :: o7 :: o8 :: o9 :: o10 :: o11 :: o12 :: o13 :: o14 :: o15 :: o16 :: o17 :: o18 :: o19 :: o20 :: o21 :: o22 :: o23 :: o24 :: some (.int v) :: r) st) : V p l e R s m args below meth c Q nL g S F G cells slots pc (o0 :: o1 :: o2 :: o3 :: o4 :: o5 :: o6 :: o7 :: o8 :: o9 :: o10 :: o11 :: o12 :: o13 :: o14 :: o15 :: o16 :: o17 :: o18 :: o19 :: o20 :: o21 :: o22 :: o23 :: o24 :: o25 :: r) (.int v :: st) := V.istore C hn hc hd kk
theorem V.as25 (C : Cx p s m args meth c cc nL own g) {o0 o1 o2 o3 o4 o5 o6 o7 o8 o9 o10 o11 o12 o13 o14 o15 o16 o17 o18 o19 o20 o21 o22 o23 o24 o25 : Option Value} {r : List (Option Value)} {v : Nat} (hn : 25 < nL) (hc : xl1 (o0 :: o1 :: o2 :: o3 :: o4 :: o5 :: o6 :: o7 :: o8 :: o9 :: o10 :: o11 :: o12 :: o13 :: o14 :: o15 :: o16 :: o17 :: o18 :: o19 :: o20 :: o21 :: o22 :: o23 :: o24 :: o25 :: r) 25 = true) (hd : decode cc pc = .ok (.astore 25, 2)) (kk : V p l e R s m args below meth c Q nL g S F G cells slots (pc + 2) (o0 :: o1 :: o2 :: o3 :: o4 :: o5 :: o6 :: o7 :: o8 :: o9 :: o10 :: o11 :: o12 :: o13 :: o14 :: o15 :: o16 :: o17 :: o18 :: o19 :: o20 :: o21 :: o22 :: o23 :: o24 :: some (.ref v) :: r) st) : V p l e R s m args below meth c Q nL g S F G cells slots pc (o0 :: o1 :: o2 :: o3 :: o4 :: o5 :: o6 :: o7 :: o8 :: o9 :: o10 :: o11 :: o12 :: o13 :: o14 :: o15 :: o16 :: o17 :: o18 :: o19 :: o20 :: o21 :: o22 :: o23 :: o24 :: o25 :: r) (.ref v :: st) := V.astore C hn hc hd kk
theorem V.inc25 (C : Cx p s m args meth c cc nL own g) {o0 o1 o2 o3 o4 o5 o6 o7 o8 o9 o10 o11 o12 o13 o14 o15 o16 o17 o18 o19 o20 o21 o22 o23 o24 : Option Value} {r : List (Option Value)} {n : Int} {v : Int32} (w : Int32) (hv : Int32.ofInt n = w) (hn : 25 < nL) (hc : xl1 (o0 :: o1 :: o2 :: o3 :: o4 :: o5 :: o6 :: o7 :: o8 :: o9 :: o10 :: o11 :: o12 :: o13 :: o14 :: o15 :: o16 :: o17 :: o18 :: o19 :: o20 :: o21 :: o22 :: o23 :: o24 :: some (.int v) :: r) 25 = true) (hd : decode cc pc = .ok (.iinc 25 n, 3)) (kk : V p l e R s m args below meth c Q nL g S F G cells slots (pc + 3) (o0 :: o1 :: o2 :: o3 :: o4 :: o5 :: o6 :: o7 :: o8 :: o9 :: o10 :: o11 :: o12 :: o13 :: o14 :: o15 :: o16 :: o17 :: o18 :: o19 :: o20 :: o21 :: o22 :: o23 :: o24 :: some (.int (v + w)) :: r) st) : V p l e R s m args below meth c Q nL g S F G cells slots pc (o0 :: o1 :: o2 :: o3 :: o4 :: o5 :: o6 :: o7 :: o8 :: o9 :: o10 :: o11 :: o12 :: o13 :: o14 :: o15 :: o16 :: o17 :: o18 :: o19 :: o20 :: o21 :: o22 :: o23 :: o24 :: some (.int v) :: r) st := V.iinc C w rfl hv hn hc hd kk
theorem V.if_eq (C : Cx p s m args meth c cc nL own g) {x1 : Int32} {off : Int} (tgt : Nat) (ht : (pc : Int) + off = (tgt : Int)) (hd : decode cc pc = .ok (.ifCond .eq off, 3)) (kt : x1 = 0 → V p l e R s m args below meth c Q nL g S F G cells slots tgt lv st) (kf : ¬ x1 = 0 → V p l e R s m args below meth c Q nL g S F G cells slots (pc + 3) lv st) : V p l e R s m args below meth c Q nL g S F G cells slots pc lv (.int x1 :: st) := fun H locs ls h1 h2 h3 h4 => lv_if_eq C.x C.b hd ht (fun q => kt q H locs ls h1 h2 h3 h4) (fun q => kf q H locs ls h1 h2 h3 h4)
theorem V.if_ne (C : Cx p s m args meth c cc nL own g) {x1 : Int32} {off : Int} (tgt : Nat) (ht : (pc : Int) + off = (tgt : Int)) (hd : decode cc pc = .ok (.ifCond .ne off, 3)) (kt : ¬ x1 = 0 → V p l e R s m args below meth c Q nL g S F G cells slots tgt lv st) (kf : x1 = 0 → V p l e R s m args below meth c Q nL g S F G cells slots (pc + 3) lv st) : V p l e R s m args below meth c Q nL g S F G cells slots pc lv (.int x1 :: st) := fun H locs ls h1 h2 h3 h4 => lv_if_ne C.x C.b hd ht (fun q => kt q H locs ls h1 h2 h3 h4) (fun q => kf q H locs ls h1 h2 h3 h4)
theorem V.if_lt (C : Cx p s m args meth c cc nL own g) {x1 : Int32} {off : Int} (tgt : Nat) (ht : (pc : Int) + off = (tgt : Int)) (hd : decode cc pc = .ok (.ifCond .lt off, 3)) (kt : x1 < 0 → V p l e R s m args below meth c Q nL g S F G cells slots tgt lv st) (kf : ¬ x1 < 0 → V p l e R s m args below meth c Q nL g S F G cells slots (pc + 3) lv st) : V p l e R s m args below meth c Q nL g S F G cells slots pc lv (.int x1 :: st) := fun H locs ls h1 h2 h3 h4 => lv_if_lt C.x C.b hd ht (fun q => kt q H locs ls h1 h2 h3 h4) (fun q => kf q H locs ls h1 h2 h3 h4)
theorem V.if_ge (C : Cx p s m args meth c cc nL own g) {x1 : Int32} {off : Int} (tgt : Nat) (ht : (pc : Int) + off = (tgt : Int)) (hd : decode cc pc = .ok (.ifCond .ge off, 3)) (kt : 0 ≤ x1 → V p l e R s m args below meth c Q nL g S F G cells slots tgt lv st) (kf : ¬ 0 ≤ x1 → V p l e R s m args below meth c Q nL g S F G cells slots (pc + 3) lv st) : V p l e R s m args below meth c Q nL g S F G cells slots pc lv (.int x1 :: st) := fun H locs ls h1 h2 h3 h4 => lv_if_ge C.x C.b hd ht (fun q => kt q H locs ls h1 h2 h3 h4) (fun q => kf q H locs ls h1 h2 h3 h4)
theorem V.if_gt (C : Cx p s m args meth c cc nL own g) {x1 : Int32} {off : Int} (tgt : Nat) (ht : (pc : Int) + off = (tgt : Int)) (hd : decode cc pc = .ok (.ifCond .gt off, 3)) (kt : 0 < x1 → V p l e R s m args below meth c Q nL g S F G cells slots tgt lv st) (kf : ¬ 0 < x1 → V p l e R s m args below meth c Q nL g S F G cells slots (pc + 3) lv st) : V p l e R s m args below meth c Q nL g S F G cells slots pc lv (.int x1 :: st) := fun H locs ls h1 h2 h3 h4 => lv_if_gt C.x C.b hd ht (fun q => kt q H locs ls h1 h2 h3 h4) (fun q => kf q H locs ls h1 h2 h3 h4)
theorem V.if_le (C : Cx p s m args meth c cc nL own g) {x1 : Int32} {off : Int} (tgt : Nat) (ht : (pc : Int) + off = (tgt : Int)) (hd : decode cc pc = .ok (.ifCond .le off, 3)) (kt : x1 ≤ 0 → V p l e R s m args below meth c Q nL g S F G cells slots tgt lv st) (kf : ¬ x1 ≤ 0 → V p l e R s m args below meth c Q nL g S F G cells slots (pc + 3) lv st) : V p l e R s m args below meth c Q nL g S F G cells slots pc lv (.int x1 :: st) := fun H locs ls h1 h2 h3 h4 => lv_if_le C.x C.b hd ht (fun q => kt q H locs ls h1 h2 h3 h4) (fun q => kf q H locs ls h1 h2 h3 h4)
theorem V.icmp_eq (C : Cx p s m args meth c cc nL own g) {x1 y1 : Int32} {off : Int} (tgt : Nat) (ht : (pc : Int) + off = (tgt : Int)) (hd : decode cc pc = .ok (.if_icmp .eq off, 3)) (kt : x1 = y1 → V p l e R s m args below meth c Q nL g S F G cells slots tgt lv st) (kf : ¬ x1 = y1 → V p l e R s m args below meth c Q nL g S F G cells slots (pc + 3) lv st) : V p l e R s m args below meth c Q nL g S F G cells slots pc lv (.int y1 :: .int x1 :: st) := fun H locs ls h1 h2 h3 h4 => lv_icmp_eq C.x C.b hd ht (fun q => kt q H locs ls h1 h2 h3 h4) (fun q => kf q H locs ls h1 h2 h3 h4)
theorem V.icmp_ne (C : Cx p s m args meth c cc nL own g) {x1 y1 : Int32} {off : Int} (tgt : Nat) (ht : (pc : Int) + off = (tgt : Int)) (hd : decode cc pc = .ok (.if_icmp .ne off, 3)) (kt : ¬ x1 = y1 → V p l e R s m args below meth c Q nL g S F G cells slots tgt lv st) (kf : x1 = y1 → V p l e R s m args below meth c Q nL g S F G cells slots (pc + 3) lv st) : V p l e R s m args below meth c Q nL g S F G cells slots pc lv (.int y1 :: .int x1 :: st) := fun H locs ls h1 h2 h3 h4 => lv_icmp_ne C.x C.b hd ht (fun q => kt q H locs ls h1 h2 h3 h4) (fun q => kf q H locs ls h1 h2 h3 h4)
theorem V.icmp_lt (C : Cx p s m args meth c cc nL own g) {x1 y1 : Int32} {off : Int} (tgt : Nat) (ht : (pc : Int) + off = (tgt : Int)) (hd : decode cc pc = .ok (.if_icmp .lt off, 3)) (kt : x1 < y1 → V p l e R s m args below meth c Q nL g S F G cells slots tgt lv st) (kf : ¬ x1 < y1 → V p l e R s m args below meth c Q nL g S F G cells slots (pc + 3) lv st) : V p l e R s m args below meth c Q nL g S F G cells slots pc lv (.int y1 :: .int x1 :: st) := fun H locs ls h1 h2 h3 h4 => lv_icmp_lt C.x C.b hd ht (fun q => kt q H locs ls h1 h2 h3 h4) (fun q => kf q H locs ls h1 h2 h3 h4)
theorem V.icmp_ge (C : Cx p s m args meth c cc nL own g) {x1 y1 : Int32} {off : Int} (tgt : Nat) (ht : (pc : Int) + off = (tgt : Int)) (hd : decode cc pc = .ok (.if_icmp .ge off, 3)) (kt : y1 ≤ x1 → V p l e R s m args below meth c Q nL g S F G cells slots tgt lv st) (kf : ¬ y1 ≤ x1 → V p l e R s m args below meth c Q nL g S F G cells slots (pc + 3) lv st) : V p l e R s m args below meth c Q nL g S F G cells slots pc lv (.int y1 :: .int x1 :: st) := fun H locs ls h1 h2 h3 h4 => lv_icmp_ge C.x C.b hd ht (fun q => kt q H locs ls h1 h2 h3 h4) (fun q => kf q H locs ls h1 h2 h3 h4)
theorem V.icmp_gt (C : Cx p s m args meth c cc nL own g) {x1 y1 : Int32} {off : Int} (tgt : Nat) (ht : (pc : Int) + off = (tgt : Int)) (hd : decode cc pc = .ok (.if_icmp .gt off, 3)) (kt : y1 < x1 → V p l e R s m args below meth c Q nL g S F G cells slots tgt lv st) (kf : ¬ y1 < x1 → V p l e R s m args below meth c Q nL g S F G cells slots (pc + 3) lv st) : V p l e R s m args below meth c Q nL g S F G cells slots pc lv (.int y1 :: .int x1 :: st) := fun H locs ls h1 h2 h3 h4 => lv_icmp_gt C.x C.b hd ht (fun q => kt q H locs ls h1 h2 h3 h4) (fun q => kf q H locs ls h1 h2 h3 h4)
theorem V.icmp_le (C : Cx p s m args meth c cc nL own g) {x1 y1 : Int32} {off : Int} (tgt : Nat) (ht : (pc : Int) + off = (tgt : Int)) (hd : decode cc pc = .ok (.if_icmp .le off, 3)) (kt : x1 ≤ y1 → V p l e R s m args below meth c Q nL g S F G cells slots tgt lv st) (kf : ¬ x1 ≤ y1 → V p l e R s m args below meth c Q nL g S F G cells slots (pc + 3) lv st) : V p l e R s m args below meth c Q nL g S F G cells slots pc lv (.int y1 :: .int x1 :: st) := fun H locs ls h1 h2 h3 h4 => lv_icmp_le C.x C.b hd ht (fun q => kt q H locs ls h1 h2 h3 h4) (fun q => kf q H locs ls h1 h2 h3 h4)
theorem V.goto (C : Cx p s m args meth c cc nL own g) {off : Int} (tgt : Nat) (ht : (pc : Int) + off = (tgt : Int)) (hd : decode cc pc = .ok (.goto off, 3)) (kk : V p l e R s m args below meth c Q nL g S F G cells slots tgt lv st) : V p l e R s m args below meth c Q nL g S F G cells slots pc lv st := fun H locs ls h1 h2 h3 h4 => lv_goto C.x C.b hd ht (kk H locs ls h1 h2 h3 h4)
theorem V.tableIn (C : Cx p s m args meth c cc nL own g) {dflt lo hi : Int} {offs : Array Int} {len : Nat} {x1 : Int32} {off : Int} (tgt : Nat) (g1 : ¬ x1.toInt < lo) (g2 : ¬ hi < x1.toInt) (ho : offs[(x1.toInt - lo).toNat]? = some off) (ht : (pc : Int) + off = (tgt : Int)) (hd : decode cc pc = .ok (.tableswitch dflt lo hi offs, len)) (kk : V p l e R s m args below meth c Q nL g S F G cells slots tgt lv st) : V p l e R s m args below meth c Q nL g S F G cells slots pc lv (.int x1 :: st) := fun H locs ls h1 h2 h3 h4 => lv_tableIn C.x C.b hd g1 g2 ho ht (kk H locs ls h1 h2 h3 h4)
theorem V.tableOut (C : Cx p s m args meth c cc nL own g) {dflt lo hi : Int} {offs : Array Int} {len : Nat} {x1 : Int32} (tgt : Nat) (g1 : x1.toInt < lo ∨ hi < x1.toInt) (ht : (pc : Int) + dflt = (tgt : Int)) (hd : decode cc pc = .ok (.tableswitch dflt lo hi offs, len)) (kk : V p l e R s m args below meth c Q nL g S F G cells slots tgt lv st) : V p l e R s m args below meth c Q nL g S F G cells slots pc lv (.int x1 :: st) := fun H locs ls h1 h2 h3 h4 => lv_tableOut C.x C.b hd g1 ht (kk H locs ls h1 h2 h3 h4)
theorem V.topi {v : Int32} (kk : ∀ y : Int32, y = v → V p l e R s m args below meth c Q nL g S F G cells slots pc lv (.int y :: st)) : V p l e R s m args below meth c Q nL g S F G cells slots pc lv (.int v :: st) := kk v rfl
theorem V.top {v w : Int32} (hv : v = w) (kk : V p l e R s m args below meth c Q nL g S F G cells slots pc lv (.int w :: st)) : V p l e R s m args below meth c Q nL g S F G cells slots pc lv (.int v :: st) := hv ▸ kk
theorem V.weak {lv2 : List (Option Value)} (hw : ∀ k v, xlg lv2 k = some v → xlg lv k = some v) (kk : V p l e R s m args below meth c Q nL g S F G cells slots pc lv2 st) : V p l e R s m args below meth c Q nL g S F G cells slots pc lv st := fun H locs ls h1 h2 h3 h4 => kk H locs ls h1 h2 h3 (h4.weak hw)
theorem V.pcE {pc2 : Nat} (h : pc2 = pc) (kk : V p l e R s m args below meth c Q nL g S F G cells slots pc2 lv st) : V p l e R s m args below meth c Q nL g S F G cells slots pc lv st := h ▸ kk
theorem V.wide (k n : Nat) (hk : cells ≤ k) (hn : slots ≤ n) (kk : V p l e R s m args below meth c Q nL g S F G k n pc lv st) : V p l e R s m args below meth c Q nL g S F G cells slots pc lv st := fun H locs ls h1 h2 h3 h4 => W.widen hk hn (kk H locs ls h1 h2 h3 h4)
theorem V.getI (C : Cx p s m args meth c cc nL own g) {idx ci k a : Nat} {fs : List (Option Value)} (hl : xFl own idx ci k) (hS : S[a]? = some (.inr (.inr (ci, fs)))) (hv : fs[k]? = some none) (hd : decode cc pc = .ok (.getfield idx, 3)) (kk : V p l e R s m args below meth c Q nL g S F G cells slots (pc + 3) lv (.int (F a k) :: st)) : V p l e R s m args below meth c Q nL g S F G cells slots pc lv (.ref a :: st) := by
  intro H locs ls h1 h2 h3 h4
  obtain ⟨⟨Cn, T, N⟩, hc, hk, hin, hlink⟩ := hl
  have hv2 : (xfs g F a fs)[k]? = some (.int (F a k)) := by rw [xfs_at, hv]; rfl
  rcases hlink with hlink | ⟨host, hlink⟩
  · exact va_get C.x C.b C.ts hin C.ow C.k h2 a (xw_some hS) hc k hk (C.ts _ hlink) (fun _ h => h) hv2 hd (kk H locs ls h1 h2 h3 h4)
  · exact va_getN C.x C.b C.ts hin C.ow C.k h2 a (xw_some hS) hc k hk (va_Nw.use rfl (C.nw _ hlink)) (fun _ h => h) hv2 hd (kk H locs ls h1 h2 h3 h4)
theorem V.getR (C : Cx p s m args meth c cc nL own g) {idx ci k a : Nat} {fs : List (Option Value)} {v : Value} (hl : xFl own idx ci k) (hS : S[a]? = some (.inr (.inr (ci, fs)))) (hv : fs[k]? = some (some v)) (hd : decode cc pc = .ok (.getfield idx, 3)) (kk : V p l e R s m args below meth c Q nL g S F G cells slots (pc + 3) lv (v :: st)) : V p l e R s m args below meth c Q nL g S F G cells slots pc lv (.ref a :: st) := by
  intro H locs ls h1 h2 h3 h4
  obtain ⟨⟨Cn, T, N⟩, hc, hk, hin, hlink⟩ := hl
  have hv2 : (xfs g F a fs)[k]? = some (xv g v) := by rw [xfs_at, hv]; rfl
  rcases hlink with hlink | ⟨host, hlink⟩
  · exact va_get C.x C.b C.ts hin C.ow C.k h2 a (xw_some hS) hc k hk (C.ts _ hlink) (fun _ h => h) hv2 hd (kk H locs ls h1 h2 h3 h4)
  · exact va_getN C.x C.b C.ts hin C.ow C.k h2 a (xw_some hS) hc k hk (va_Nw.use rfl (C.nw _ hlink)) (fun _ h => h) hv2 hd (kk H locs ls h1 h2 h3 h4)
theorem V.putI (C : Cx p s m args meth c cc nL own g) {idx ci k a : Nat} {fs : List (Option Value)} {v : Int32} (hl : xFl own idx ci k) (ht : xFt ci) (hI : xFI ci k) (hS : S[a]? = some (.inr (.inr (ci, fs)))) (hv : fs[k]? = some none) (hd : decode cc pc = .ok (.putfield idx, 3)) (kk : V p l e R s m args below meth c Q nL g S (up2 F a k v) G cells slots (pc + 3) lv st) : V p l e R s m args below meth c Q nL g S F G cells slots pc lv (.int v :: .ref a :: st) := by
  intro H locs ls h1 h2 h3 h4
  obtain ⟨⟨Cn, T, N⟩, hc, hk, hin, hlink⟩ := hl
  obtain ⟨⟨Cn1, T1, N1⟩, t0, hc1, hty, hnm⟩ := ht
  cases hc.symm.trans hc1
  obtain ⟨⟨Cn2, T2, N2⟩, hc2, hfin, hdesc⟩ := hI
  cases hc.symm.trans hc2
  have hl2 : k < (xfs g F a fs).length := by rw [xfs_len]; exact (List.getElem?_eq_some_iff.mp hv).1
  have kk2 : ∀ (H1 : Heap) (locs1 : List Loc), va_P g.2.2.2 xCl ((xw g F G S).set a (g.1 + a, .inr (ci, (xfs g F a fs).set k (.int v)))) H1 → va_D (xA g) ((xw g F G S).set a (g.1 + a, .inr (ci, (xfs g F a fs).set k (.int v)))) → va_S (xA g) s.heap H1 locs1 → W p l e R s m args below meth c H1 locs1 cells slots Q (F0 m (pc + 3) ls (st.map (xv g))) := fun H1 locs1 q1 _ q2 => kk H1 locs1 ls h1 (by rw [← xw_putF v hS hv]; exact q1) q2 h4
  rcases hlink with hlink | ⟨host, hlink⟩
  · exact va_put (ty := .int) C.x C.b C.ts hin t0 hty hnm C.ow C.k h2 (xw_D g F G h1) h3 a (xw_some hS) hc k hk (C.ts _ hlink) (fun _ h => h) hfin (by rw [hdesc]; decide +kernel) rfl rfl hl2 hd kk2
  · exact va_putN (ty := .int) C.x C.b C.ts hin t0 hty hnm C.ow C.k h2 (xw_D g F G h1) h3 a (xw_some hS) hc k hk (va_Nw.use rfl (C.nw _ hlink)) (fun _ h => h) hfin (by rw [hdesc]; decide +kernel) rfl rfl hl2 hd kk2
/-- a final number, in a constructor -/
theorem V.putIF (C : Cx p s m args meth c cc nL own g) {idx ci k a : Nat} {fs : List (Option Value)} {v : Int32} (hmn : meth.name = "<init>") (hl : xFl own idx ci k) (ht : xFt ci) (hI : xFIF own idx ci k) (hS : S[a]? = some (.inr (.inr (ci, fs)))) (hv : fs[k]? = some none) (hd : decode cc pc = .ok (.putfield idx, 3)) (kk : V p l e R s m args below meth c Q nL g S (up2 F a k v) G cells slots (pc + 3) lv st) : V p l e R s m args below meth c Q nL g S F G cells slots pc lv (.int v :: .ref a :: st) := by
  intro H locs ls h1 h2 h3 h4
  obtain ⟨⟨Cn, T, N⟩, hc, hk, hin, hlink⟩ := hl
  obtain ⟨⟨Cn1, T1, N1⟩, t0, hc1, hty, hnm⟩ := ht
  cases hc.symm.trans hc1
  obtain ⟨⟨Cn2, T2, N2⟩, hc2, hfin, hdesc, hdecl, hlink⟩ := hI
  cases hc.symm.trans hc2
  have hl2 : k < (xfs g F a fs).length := by rw [xfs_len]; exact (List.getElem?_eq_some_iff.mp hv).1
  exact va_putF (ty := .int) C.x C.b C.ts hin t0 hty hnm C.ow C.k h2 (xw_D g F G h1) h3 a (xw_some hS) hc k hk (C.ts _ hlink) (fun _ h => h) hfin hmn hdecl (by rw [hdesc]; decide +kernel) rfl rfl hl2 hd (fun H1 locs1 q1 _ q2 => kk H1 locs1 ls h1 (by rw [← xw_putF v hS hv]; exact q1) q2 h4)
theorem V.iald (C : Cx p s m args meth c cc nL own g) {a n : Nat} {j : Int32} (hS : S[a]? = some (.inl (0, n))) (hin : vp_in j n) (hd : decode cc pc = .ok (.iaload, 1)) (kk : V p l e R s m args below meth c Q nL g S F G cells slots (pc + 1) lv (.int (F a j.toNatClampNeg) :: st)) : V p l e R s m args below meth c Q nL g S F G cells slots pc lv (.int j :: .ref a :: st) := fun H locs ls h1 h2 h3 h4 => va_iald C.x C.b C.k h2 a 0 (xw_some hS) (xTy0 g) hin hd (kk H locs ls h1 h2 h3 h4)
theorem V.bald (C : Cx p s m args meth c cc nL own g) {a n : Nat} {j : Int32} (hS : S[a]? = some (.inl (3, n))) (hin : vp_in j n) (hd : decode cc pc = .ok (.baload, 1)) (kk : V p l e R s m args below meth c Q nL g S F G cells slots (pc + 1) lv (.int (F a j.toNatClampNeg) :: st)) : V p l e R s m args below meth c Q nL g S F G cells slots pc lv (.int j :: .ref a :: st) := fun H locs ls h1 h2 h3 h4 => va_bald C.x C.b C.k h2 a 3 (xw_some hS) (xTy3 g) hin hd (kk H locs ls h1 h2 h3 h4)
theorem V.aald (C : Cx p s m args meth c cc nL own g) {a t : Nat} {rs : List (Option Nat)} {j : Int32} {q : Nat} {Cn : String} (hS : S[a]? = some (.inr (.inl (t, rs)))) (ht : (xTy g.2.2.1)[t]? = some (g.2.2.1 t, .object Cn)) (hin : vp_in j rs.length) (hq : rs.getD j.toNatClampNeg none = some q) (hd : decode cc pc = .ok (.aaload, 1)) (kk : V p l e R s m args below meth c Q nL g S F G cells slots (pc + 1) lv (.ref q :: st)) : V p l e R s m args below meth c Q nL g S F G cells slots pc lv (.int j :: .ref a :: st) := by
  intro H locs ls h1 h2 h3 h4
  have hq2 : xrs g rs j.toNatClampNeg = some (g.1 + q) := by simp only [xrs, hq, Option.map_some]
  refine va_aldq C.x C.b C.k h2 a t (xw_some hS) ht hin hd ?_
  rw [hq2]
  exact (kk H locs ls h1 h2 h3 h4)
theorem V.alen (C : Cx p s m args meth c cc nL own g) {a n : Nat} (hS : S[a]? = some (.inl (0, n))) (hd : decode cc pc = .ok (.arraylength, 1)) (kk : V p l e R s m args below meth c Q nL g S F G cells slots (pc + 1) lv (.int (nI n) :: st)) : V p l e R s m args below meth c Q nL g S F G cells slots pc lv (.ref a :: st) := fun H locs ls h1 h2 h3 h4 => va_alen C.x C.b C.k h2 a 0 (xw_some hS) (xTy0 g) rfl hd (kk H locs ls h1 h2 h3 h4)
end XV
end
section
section XV2
variable {p : Program} {l : Launch} {e : Env} {R : Room} {s : State} {m : MethodId} {args : Array Value} {below : List Frame} {meth : Method} {c : Code} {Q : State → Prop}
variable {cc : ByteArray} {nL : Nat} {own : String} {g : xG} {S : List xO} {F : xF} {G : xL} {cells slots pc : Nat} {lv : List (Option Value)} {st : List Value}
theorem xw_size {H : Heap} (h : va_P g.2.2.2 xCl (xw g F G S) H) (hg : g.1 ≤ H.size) : g.1 + S.length ≤ H.size := by
  cases hn : S.length with
  | zero => exact hg
  | succ n =>
    have hl : n < S.length := by omega
    have h1 : S[n]? = some S[n] := List.getElem?_eq_getElem hl
    have h2 := (h n _ (xw_some h1)).lt
    have h3 : g.1 + n < H.size := h2
    omega
theorem W.sized {H : Heap} {locs : List Loc} {gf : JFrame} (k : H.size ≤ s.heap.size + cells → W p l e R s m args below meth c H locs cells slots Q gf) : W p l e R s m args below meth c H locs cells slots Q gf := fun T hT X => k (by rw [← hT]; exact X.heapSize) T hT X
theorem V.iast (C : Cx p s m args meth c cc nL own g) {a n : Nat} {j v : Int32} (hS : S[a]? = some (.inl (0, n))) (hin : vp_in j n) (hd : decode cc pc = .ok (.iastore, 1)) (kk : V p l e R s m args below meth c Q nL g S (up2 F a j.toNatClampNeg v) G cells slots (pc + 1) lv st) : V p l e R s m args below meth c Q nL g S F G cells slots pc lv (.int v :: .int j :: .ref a :: st) := fun H locs ls h1 h2 h3 h4 =>
  va_iast C.x C.b C.k h2 (xw_D g F G h1) h3 a 0 (xw_some hS) (xTy0 g) hin hd (fun H1 locs1 q1 _ q2 => kk H1 locs1 ls h1 (by rw [← xw_putA (by decide) _ v hS]; exact q1) q2 h4)
theorem V.bast (C : Cx p s m args meth c cc nL own g) {a n : Nat} {j v : Int32} (hS : S[a]? = some (.inl (3, n))) (hin : vp_in j n) (hd : decode cc pc = .ok (.bastore, 1)) (kk : V p l e R s m args below meth c Q nL g S (up2 F a j.toNatClampNeg (vp_nar .byte v)) G cells slots (pc + 1) lv st) : V p l e R s m args below meth c Q nL g S F G cells slots pc lv (.int v :: .int j :: .ref a :: st) := fun H locs ls h1 h2 h3 h4 =>
  va_bast C.x C.b C.k h2 (xw_D g F G h1) h3 a 3 (xw_some hS) (xTy3 g) hin hd (fun H1 locs1 q1 _ q2 => kk H1 locs1 ls h1 (by rw [← xw_putA (by decide) _ (vp_nar .byte v) hS]; exact q1) q2 h4)
theorem V.last (C : Cx p s m args meth c cc nL own g) {a n : Nat} {j : Int32} {v : Int64} (hS : S[a]? = some (.inl (1, n))) (hin : vp_in j n) (hd : decode cc pc = .ok (.lastore, 1)) (kk : V p l e R s m args below meth c Q nL g S F (up2 G a j.toNatClampNeg v) cells slots (pc + 1) lv st) : V p l e R s m args below meth c Q nL g S F G cells slots pc lv (.long v :: .int j :: .ref a :: st) := fun H locs ls h1 h2 h3 h4 =>
  va_last C.x C.b C.k h2 (xw_D g F G h1) h3 a 1 (xw_some hS) (xTy1 g) hin hd (fun H1 locs1 q1 _ q2 => kk H1 locs1 ls h1 (by rw [← xw_putL _ v hS]; exact q1) q2 h4)
theorem V.lald (C : Cx p s m args meth c cc nL own g) {a n : Nat} {j : Int32} (hS : S[a]? = some (.inl (1, n))) (hin : vp_in j n) (hd : decode cc pc = .ok (.laload, 1)) (kk : V p l e R s m args below meth c Q nL g S F G cells slots (pc + 1) lv (.long (G a j.toNatClampNeg) :: st)) : V p l e R s m args below meth c Q nL g S F G cells slots pc lv (.int j :: .ref a :: st) := fun H locs ls h1 h2 h3 h4 =>
  va_lald C.x C.b C.k h2 a 1 (xw_some hS) (xTy1 g) hin hd (kk H locs ls h1 h2 h3 h4)
/-- the script -/
theorem V.sld (C : Cx p s m args meth c cc nL own g) {L : Nat} {xs : Nat → Int32} {j : Int32} {u : UInt32} (hX : va_X g.2.1 L xs s s.heap) (hbl : g.2.1 < s.heap.size) (hbg : g.2.1 < g.1) (hin : vp_in j L) (hd : decode cc pc = .ok (.iaload, 1)) (kk : V p l e R s m args below meth c Q nL g S F G cells slots (pc + 1) lv (.int (xs j.toNatClampNeg) :: st)) : V p l e R s m args below meth c Q nL g S F G cells slots pc lv (.int j :: .float u :: st) := fun H locs ls h1 h2 h3 h4 =>
  va_sld (A := xA g) C.x C.b hX hbl (fun q => absurd q.1 (Nat.not_le.mpr hbg)) h3 hin hd (kk H locs ls h1 h2 h3 h4)
theorem V.slen (C : Cx p s m args meth c cc nL own g) {L : Nat} {xs : Nat → Int32} {u : UInt32} (hX : va_X g.2.1 L xs s s.heap) (hbl : g.2.1 < s.heap.size) (hbg : g.2.1 < g.1) (hd : decode cc pc = .ok (.arraylength, 1)) (kk : V p l e R s m args below meth c Q nL g S F G cells slots (pc + 1) lv (.int (nI L) :: st)) : V p l e R s m args below meth c Q nL g S F G cells slots pc lv (.float u :: st) := fun H locs ls h1 h2 h3 h4 =>
  va_slen (A := xA g) C.x C.b hX hbl (fun q => absurd q.1 (Nat.not_le.mpr hbg)) h3 hd (kk H locs ls h1 h2 h3 h4)
def xd0 (o : Option Value) : Value := match o with
  | none => .int 0
  | some v => v
/-- a new object -/
theorem V.new (C : Cx p s m args meth c cc nL own g) {idx ci : Nat} {Cn : String} {T : u_T} {N : Nat} (fs : List (Option Value)) (hz : s.heap.size + cells = g.1 + S.length) (hKK : S.length + 1 ≤ xKK) (hc : xCl[ci]? = some (Cn, T, N)) (t0 : Nat → FieldType) (hty : ∀ k, k < N → parseFieldDescriptor (T k).2.2.1 = some (t0 k)) (hin : ∀ w ∈ u_ws Cn T N, w ∈ xGT)
    (hw : Cond.classLink own idx Cn ∈ xGT ∧ Cond.instantiable Cn N ∈ xGT ∧ Cond.initialized Cn ∈ xGT) (hdef : ∀ j, j < N → defaultValue (t0 j) = xd0 (fs.getD j (some .null))) (hnull : ∀ o ∈ fs, o = none ∨ o = some .null) (hR : cells + 1 ≤ R.cells ∧ slots + N ≤ R.slots) (hd : decode cc pc = .ok (.new idx, 3))
    (kk : V p l e R s m args below meth c Q nL g (S ++ [.inr (.inr (ci, fs))]) (upR F S.length (fun _ => 0)) G (cells + 1) (slots + N) (pc + 3) lv (.ref S.length :: st)) : V p l e R s m args below meth c Q nL g S F G cells slots pc lv st := by
  intro H locs ls h1 h2 h3 h4
  refine W.sized (fun hle => ?_)
  have hge : g.1 + S.length ≤ H.size := xw_size h2 (Nat.le_trans C.hz h3.1)
  have hH : H.size = g.1 + S.length := by omega
  have hKn := C.k.1 ci _ hc
  refine W.newcK C.x C.b C.ow (C.ts _ hw.1) (C.ts _ hw.2.1) (C.ts _ hw.2.2) rfl hd hR.1 hR.2 hKn.2.1 hH (fun H1 kC hkC e1 z1 o1 => ?_)
  have hk : ∀ (k : Nat) (q : Nat × va_E), (xw g F G S)[k]? = some q → H1[q.1]? = H[q.1]? := fun k q hq => o1 q.1 (by have := (h2 k q hq).lt; omega)
  refine kk H1 locs ls (by rw [List.length_append]; exact hKK) ?_ ⟨by have := h3.1; omega, fun q q1 q2 => (o1 q (by have := h3.1; omega)).trans (h3.2.1 q q1 q2), h3.2.2⟩ h4
  rw [← xw_push, ← xw_fresh (g := g) (F := F) (F' := upR F S.length (fun _ => 0)) (G := G) (G' := G) (S := S) (fun i hi => upR_ne F _ _ (Nat.ne_of_lt hi)) (fun i _ => rfl)]
  refine (h2.kept hk).app (fun k q hq => ?_)
  have hz2 : k < 1 := (List.getElem?_eq_some_iff.mp hq).1
  rw [show k = 0 by omega] at hq
  cases hq
  refine ⟨_, hc, (u_born t0 C.ts hin hKn hkC e1 hty).to (fun j hj => ?_)⟩
  rw [hdef j hj]
  unfold vp_V
  rw [List.getD_eq_getElem?_getD, List.getD_eq_getElem?_getD, xfs_at]
  cases hf : fs[j]? with
  | none => rfl
  | some o =>
    rcases hnull o (List.mem_of_getElem? hf) with h | h
    · subst h; simp [xfv, xd0, upR_eq]
    · subst h; rfl
theorem xK_arr0 (hK : va_K g.2.2.2 xCl (xTy g.2.2.1) s) {cA : ClassId} (h : s.vm.findClass ("[" ++ FieldType.int.toString) = some cA) : cA = g.2.2.1 0 := by
  have h1 := (hK.2 0 _ (xTy0 g)).2
  exact Option.some.inj (h.symm.trans h1)
theorem xK_arr1 (hK : va_K g.2.2.2 xCl (xTy g.2.2.1) s) {cA : ClassId} (h : s.vm.findClass ("[" ++ FieldType.long.toString) = some cA) : cA = g.2.2.1 1 := by
  have h1 := (hK.2 1 _ (xTy1 g)).2
  exact Option.some.inj (h.symm.trans h1)
/-- a new row of ints -/
theorem V.newI (C : Cx p s m args meth c cc nL own g) {n : Int32} (N : Nat) (hz : s.heap.size + cells = g.1 + S.length) (hKK : S.length + 1 ≤ xKK) (hw : Cond.arrayClass .int ∈ xGT) (hn : ¬ n < 0) (hN : n.toNatClampNeg = N) (hb : N * 4 ≤ 536870912) (hR : cells + 1 ≤ R.cells ∧ slots + N ≤ R.slots) (hd : decode cc pc = .ok (.newarray .int, 2))
    (kk : V p l e R s m args below meth c Q nL g (S ++ [.inl (0, N)]) (upR F S.length (fun _ => 0)) G (cells + 1) (slots + N) (pc + 2) lv (.ref S.length :: st)) : V p l e R s m args below meth c Q nL g S F G cells slots pc lv (.int n :: st) := by
  intro H locs ls h1 h2 h3 h4
  refine W.sized (fun hle => ?_)
  have hge : g.1 + S.length ≤ H.size := xw_size h2 (Nat.le_trans C.hz h3.1)
  have hH : H.size = g.1 + S.length := by omega
  refine va_newaK C.x C.b (atype := .int) (C.ts _ hw) rfl hd rfl hn hN hb hR.1 hR.2 hH (fun H1 cA e1 z1 o1 hAr hNm => ?_)
  have hcA : cA = g.2.2.1 0 := xK_arr0 C.k hNm
  have hk : ∀ (k : Nat) (q : Nat × va_E), (xw g F G S)[k]? = some q → H1[q.1]? = H[q.1]? := fun k q hq => o1 q.1 (by have := (h2 k q hq).lt; omega)
  refine kk H1 locs ls (by rw [List.length_append]; exact hKK) ?_ ⟨by have := h3.1; omega, fun q q1 q2 => (o1 q (by have := h3.1; omega)).trans (h3.2.1 q q1 q2), h3.2.2⟩ h4
  rw [← xw_push, ← xw_fresh (g := g) (F := F) (F' := upR F S.length (fun _ => 0)) (G := G) (G' := G) (S := S) (fun i hi => upR_ne F _ _ (Nat.ne_of_lt hi)) (fun i _ => rfl)]
  refine (h2.kept hk).app (fun k q hq => ?_)
  have hz2 : k < 1 := (List.getElem?_eq_some_iff.mp hq).1
  rw [show k = 0 by omega] at hq
  cases hq
  show H1[g.1 + S.length]? = some (vp_cell _ _)
  rw [e1, hcA]
  simp only [upR_eq]
  rfl
/-- a new row of longs -/
theorem V.newL (C : Cx p s m args meth c cc nL own g) {n : Int32} (N : Nat) (hz : s.heap.size + cells = g.1 + S.length) (hKK : S.length + 1 ≤ xKK) (hw : Cond.arrayClass .long ∈ xGT) (hn : ¬ n < 0) (hN : n.toNatClampNeg = N) (hb : N * 8 ≤ 536870912) (hR : cells + 1 ≤ R.cells ∧ slots + N ≤ R.slots) (hd : decode cc pc = .ok (.newarray .long, 2))
    (kk : V p l e R s m args below meth c Q nL g (S ++ [.inl (1, N)]) F (upR G S.length (fun _ => 0)) (cells + 1) (slots + N) (pc + 2) lv (.ref S.length :: st)) : V p l e R s m args below meth c Q nL g S F G cells slots pc lv (.int n :: st) := by
  intro H locs ls h1 h2 h3 h4
  refine W.sized (fun hle => ?_)
  have hge : g.1 + S.length ≤ H.size := xw_size h2 (Nat.le_trans C.hz h3.1)
  have hH : H.size = g.1 + S.length := by omega
  refine va_newaK C.x C.b (atype := .long) (C.ts _ hw) rfl hd rfl hn hN hb hR.1 hR.2 hH (fun H1 cA e1 z1 o1 hAr hNm => ?_)
  have hcA : cA = g.2.2.1 1 := xK_arr1 C.k hNm
  have hk : ∀ (k : Nat) (q : Nat × va_E), (xw g F G S)[k]? = some q → H1[q.1]? = H[q.1]? := fun k q hq => o1 q.1 (by have := (h2 k q hq).lt; omega)
  refine kk H1 locs ls (by rw [List.length_append]; exact hKK) ?_ ⟨by have := h3.1; omega, fun q q1 q2 => (o1 q (by have := h3.1; omega)).trans (h3.2.1 q q1 q2), h3.2.2⟩ h4
  rw [← xw_push, ← xw_fresh (g := g) (F := F) (F' := F) (G := G) (G' := upR G S.length (fun _ => 0)) (S := S) (fun i _ => rfl) (fun i hi => upR_ne G _ _ (Nat.ne_of_lt hi))]
  refine (h2.kept hk).app (fun k q hq => ?_)
  have hz2 : k < 1 := (List.getElem?_eq_some_iff.mp hq).1
  rw [show k = 0 by omega] at hq
  cases hq
  show H1[g.1 + S.length]? = some (vp_cell _ _)
  rw [e1, hcA]
  simp only [upR_eq]
  rfl
/-- Object's constructor -/
theorem V.objInit (C : Cx p s m args meth c cc nL own g) {idx a : Nat} (hw : Cond.methodLink own idx Lib.objectInit ∈ xGT ∧ Cond.instanceMethod Lib.objectInit ∈ xGT ∧ Cond.code Lib.objectInit ⟨#[0xb1]⟩ 1 none ∈ xGT) (hR : 1 ≤ R.frames ∧ (st.map fun v => v.category).sum + 12 ≤ R.locals) (hd : decode cc pc = .ok (.invokespecial idx, 3)) (kk : V p l e R s m args below meth c Q nL g S F G cells slots (pc + 3) lv st) : V p l e R s m args below meth c Q nL g S F G cells slots pc lv (.ref a :: st) := by
  intro H locs ls h1 h2 h3 h4
  have hcat : ((st.map (xv g)).map fun v => v.category).sum = (st.map fun v => v.category).sum := by
    rw [List.map_map]; congr 1; apply List.map_congr_left; intro v _; exact xv_cat g v
  refine W.objInit C.x C.b C.ow (C.ts _ hw.1) (C.ts _ hw.2.1) (C.ts _ hw.2.2) rfl (by rw [C.ml]; exact h4.1) rfl hd hR.1 ?_ (kk H locs ls h1 h2 h3 h4)
  show 2 * 0 + ((st.map (xv g)).map fun v => v.category).sum + 12 ≤ R.locals
  rw [hcat]
  have := hR.2
  omega
theorem xcatS (g : xG) (st : List Value) : ((st.map (xv g)).map fun v => v.category).sum = (st.map fun v => v.category).sum := by
  rw [List.map_map]; congr 1; apply List.map_congr_left; intro v _; exact xv_cat g v
def xmx (a b : Int32) : Int32 := if a < b then b else a
def xmn (a b : Int32) : Int32 := if b < a then b else a
theorem V.mmax (C : Cx p s m args meth c cc nL own g) {idx : Nat} {a b : Int32} (hw : Cond.methodLink own idx Lib.Math.max.name ∈ xGT ∧ Cond.static Lib.Math.max.name ∈ xGT ∧ Cond.initialized "java/lang/Math" ∈ xGT ∧ Cond.code Lib.Math.max.name Lib.Math.max.code 2 (some .int) ∈ xGT) (hR : 1 ≤ R.frames ∧ (st.map fun v => v.category).sum + 13 ≤ R.locals ∧ cells ≤ R.cells ∧ slots ≤ R.slots) (hd : decode cc pc = .ok (.invokestatic idx, 3)) (kk : V p l e R s m args below meth c Q nL g S F G cells slots (pc + 3) lv (.int (xmx a b) :: st)) : V p l e R s m args below meth c Q nL g S F G cells slots pc lv (.int b :: .int a :: st) := fun H locs ls h1 h2 h3 h4 =>
  va_mmax C.x C.b (C.ml.trans h4.1.symm) C.ow (C.ts _ hw.1) (C.ts _ hw.2.1) (C.ts _ hw.2.2.1) (C.ts _ hw.2.2.2) hR.1 (by rw [xcatS]; exact hR.2.1) hR.2.2.1 hR.2.2.2 hd (kk H locs ls h1 h2 h3 h4)
theorem V.mmin (C : Cx p s m args meth c cc nL own g) {idx : Nat} {a b : Int32} (hw : Cond.methodLink own idx Lib.Math.min.name ∈ xGT ∧ Cond.static Lib.Math.min.name ∈ xGT ∧ Cond.initialized "java/lang/Math" ∈ xGT ∧ Cond.code Lib.Math.min.name Lib.Math.min.code 2 (some .int) ∈ xGT) (hR : 1 ≤ R.frames ∧ (st.map fun v => v.category).sum + 13 ≤ R.locals ∧ cells ≤ R.cells ∧ slots ≤ R.slots) (hd : decode cc pc = .ok (.invokestatic idx, 3)) (kk : V p l e R s m args below meth c Q nL g S F G cells slots (pc + 3) lv (.int (xmn a b) :: st)) : V p l e R s m args below meth c Q nL g S F G cells slots pc lv (.int b :: .int a :: st) := fun H locs ls h1 h2 h3 h4 =>
  va_mmin C.x C.b (C.ml.trans h4.1.symm) C.ow (C.ts _ hw.1) (C.ts _ hw.2.1) (C.ts _ hw.2.2.1) (C.ts _ hw.2.2.2) hR.1 (by rw [xcatS]; exact hR.2.1) hR.2.2.1 hR.2.2.2 hd (kk H locs ls h1 h2 h3 h4)
/-- System.arraycopy in one row -/
theorem V.copy (C : Cx p s m args meth c cc nL own g) {idx a n0 : Nat} {sp dp n : Int32} (hw : Cond.methodLink own idx arraycopyName ∈ xGT ∧ Cond.native arraycopyName ∈ xGT ∧ Cond.static arraycopyName ∈ xGT ∧ Cond.initialized "java/lang/System" ∈ xGT) (hS : S[a]? = some (.inl (0, n0))) (g1 : ¬ sp < 0) (g2 : ¬ dp < 0) (g3 : ¬ n < 0) (g4 : sp.toNatClampNeg + n.toNatClampNeg ≤ n0) (g5 : dp.toNatClampNeg + n.toNatClampNeg ≤ n0)
    (hR : 1 ≤ R.frames ∧ (st.map fun v => v.category).sum + (nativeFrameWords "java/lang/System" "arraycopy" 5 + 11) ≤ R.locals) (hd : decode cc pc = .ok (.invokestatic idx, 3)) (kk : V p l e R s m args below meth c Q nL g S (upR F a (va_cpy (F a) (F a) sp.toNatClampNeg dp.toNatClampNeg n.toNatClampNeg)) G cells slots (pc + 3) lv st) : V p l e R s m args below meth c Q nL g S F G cells slots pc lv (.int n :: .int dp :: .ref a :: .int sp :: .ref a :: st) := fun H locs ls h1 h2 h3 h4 =>
  va_copyi (ty := .int) C.x C.b (C.ml.trans h4.1.symm) C.ow (C.ts _ hw.1) (C.ts _ hw.2.1) (C.ts _ hw.2.2.1) (C.ts _ hw.2.2.2) C.k h2 (xw_D g F G h1) h3 a a 0 0 (xw_some hS) (xw_some hS) (xTy0 g) (xTy0 g) rfl g1 g2 g3 g4 g5 (fun _ _ => rfl) hR.1 (by rw [xcatS]; exact hR.2) hd (fun H1 locs1 q1 _ q2 => kk H1 locs1 ls h1 (by rw [← xw_putRow _ hS]; exact q1) q2 h4)
/-! contracts -/
def xWs (y : MethodName) (cc : ByteArray) (maxL : Nat) (ret : Option FieldType) : List Cond := .code y cc maxL ret :: xGT
def xRm (d lc mc ms : Nat) : Room := { frames := d, cells := mc, slots := ms, locals := lc }
def xPc (g : xG) (S : List xO) (F : xF) (G : xL) (x : Nat) (As : List Value) : Array Value → State → Prop := fun a U => a = (As.map (xv g)).toArray ∧ (x = 0 → U.heap.size = g.1 + S.length) ∧ g.1 ≤ U.heap.size ∧ va_P g.2.2.2 xCl (xw g F G S) U.heap ∧ S.length ≤ xKK ∧ xK g U
def xQc (g : xG) (S : List xO) (F : xF) (G : xL) (r : Option Value) : Array Value → State → Outcome → State → Prop := fun _ st o t => o = .returned (r.map (xv g)) ∧ S.length ≤ xKK ∧ va_P g.2.2.2 xCl (xw g F G S) t.heap ∧ va_F (xA g) st t
/-- y with arguments As, in the world S F G, answers r; the world is S2 F2 G2 then; mc new cells of ms slots; it nests d deep; x = 0: the heap ends where the world ends (constructors) -/
def CT (l : Launch) (g : xG) (d lc mc ms : Nat) (y : MethodName) (cc : ByteArray) (maxL : Nat) (ret : Option FieldType) (x : Nat) (As : List Value) (S : List xO) (F : xF) (G : xL) (r : Option Value) (S2 : List xO) (F2 : xF) (G2 : xL) : Prop :=
  Met l y (xWs y cc maxL ret) (xRm d lc mc ms) (xPc g S F G x As) (xQc g S2 F2 G2 r) mc ms (xA g)
abbrev xMQ (g : xG) (below : List Frame) (args : Array Value) (s : State) (mc ms : Nat) (S : List xO) (F : xF) (G : xL) (r : Option Value) : State → Prop := MQ below (xQc g S F G r) args s mc ms (xA g)
theorem CT.of {l : Launch} {g : xG} {d lc mc ms : Nat} {y : MethodName} {cc : ByteArray} {maxL : Nat} {ret : Option FieldType} {x : Nat} {As : List Value} {S S2 : List xO} {F F2 : xF} {G G2 : xL} {r : Option Value} (lv0 : List (Option Value)) (hy : plainName y.cls = true) (hlen : (lg_sl (As.map (xv g))).length ≤ maxL) (hlv : xal g 0 lv0 = lv_args 0 (As.map (xv g)))
    (body : ∀ (p : Program) (e : Env) (s : State) (m : MethodId) (args : Array Value) (below : List Frame) (meth : Method) (c : Code), Cx p s m args meth c cc maxL y.cls g → meth.sig.returnType = ret → meth.name = y.name → (x = 0 → s.heap.size = g.1 + S.length) →
      V p l e (xRm d lc mc ms) s m args below meth c (xMQ g below args s mc ms S2 F2 G2 r) maxL g S F G 0 0 0 lv0 []) : CT l g d lc mc ms y cc maxL ret x As S F G r S2 F2 G2 := by
  refine Met.ofW (cc := cc) (maxL := maxL) (ret := ret) hy rfl ?_
  intro p e s m args below meth c s₁ B hml hv
  obtain ⟨rfl, hx, hz, hP, hl0, hK⟩ := hv
  have hts : ∀ w ∈ xGT, w.before _ s = true := fun w hw => atoms_spec (ws := xWs y cc maxL ret) B.pre w (List.mem_cons_of_mem _ hw)
  have C : Cx p s m ((As.map (xv g)).toArray) meth c cc maxL y.cls g := ⟨B.exec, B.bytes, hml, findClass_of_methodNamed B.named, hts, hK, B.notSynchronized, hz⟩
  have hl := lv_entry (As.map (xv g)) (n := maxL) hlen
  rw [lg_entry_eq]
  exact body p e s m _ below meth c C B.returns (name_of_methodNamed B.named B.method).1 hx s.heap [] _ hl0 hP va_S.rf (by unfold xl; rw [hlv]; exact hl)
/-- ends -/
theorem V.iret (C : Cx p s m args meth c cc nL own g) {S2 : List xO} {F2 : xF} {G2 : xL} {v r : Int32} (hr : meth.sig.returnType = some .int) (hd : decode cc pc = .ok (.ireturn, 1)) (e0 : v = r) (e1 : F = F2) (e2 : G = G2) (e3 : S = S2) : V p l e R s m args below meth c (xMQ g below args s cells slots S2 F2 G2 (some (.int r))) nL g S F G cells slots pc lv [.int v] := by
  subst e0; subst e1; subst e2; subst e3
  intro H locs ls h1 h2 h3 h4
  exact W.iret C.x C.b hr (fun t ht hW => ⟨rfl, h1, by rw [ht]; exact h2, h3.F ht⟩) h3.2.2 hd C.lk
theorem V.zret (C : Cx p s m args meth c cc nL own g) {S2 : List xO} {F2 : xF} {G2 : xL} {v r : Int32} (hr : meth.sig.returnType = some .boolean) (hn : narrow .boolean (.int v) = .int v) (hd : decode cc pc = .ok (.ireturn, 1)) (e0 : v = r) (e1 : F = F2) (e2 : G = G2) (e3 : S = S2) : V p l e R s m args below meth c (xMQ g below args s cells slots S2 F2 G2 (some (.int r))) nL g S F G cells slots pc lv [.int v] := by
  subst e0; subst e1; subst e2; subst e3
  intro H locs ls h1 h2 h3 h4
  exact W.zret C.x C.b hr hn (fun t ht hW => ⟨rfl, h1, by rw [ht]; exact h2, h3.F ht⟩) h3.2.2 hd C.lk
theorem V.vret (C : Cx p s m args meth c cc nL own g) {S2 : List xO} {F2 : xF} {G2 : xL} (hr : meth.sig.returnType = none) (hd : decode cc pc = .ok (.return_, 1)) (e1 : F = F2) (e2 : G = G2) (e3 : S = S2) : V p l e R s m args below meth c (xMQ g below args s cells slots S2 F2 G2 none) nL g S F G cells slots pc lv [] := by
  subst e1; subst e2; subst e3
  intro H locs ls h1 h2 h3 h4
  exact W.vret C.x C.b hr (fun t ht hW => ⟨rfl, h1, by rw [ht]; exact h2, h3.F ht⟩) h3.2.2 hd C.lk
theorem V.aret (C : Cx p s m args meth c cc nL own g) {S2 : List xO} {F2 : xF} {G2 : xL} {a r : Nat} {Cn : String} (hr : meth.sig.returnType = some (.object Cn)) (hd : decode cc pc = .ok (.areturn, 1)) (e0 : a = r) (e1 : F = F2) (e2 : G = G2) (e3 : S = S2) : V p l e R s m args below meth c (xMQ g below args s cells slots S2 F2 G2 (some (.ref r))) nL g S F G cells slots pc lv [.ref a] := by
  subst e0; subst e1; subst e2; subst e3
  intro H locs ls h1 h2 h3 h4
  exact W.aret C.x C.b hr (Or.inl ⟨_, rfl⟩) (Or.inr ⟨_, rfl⟩) (fun t ht hW => ⟨rfl, h1, by rw [ht]; exact h2, h3.F ht⟩) h3.2.2 hd C.lk
theorem xPc_blind {x : Nat} {As : List Value} : FrameBlind (xPc g S F G x As) := by
  intro a U gg mk h
  obtain ⟨q0, q1, q2, q3, q5, q4⟩ := h
  exact ⟨q0, q1, q2, q3, q5, va_K.moved (u := U) (U := U.calling gg mk a) (Vm.Alike.refl U.vm) q4.1, fun w hw => va_Nw.same (u := U) (U := U.calling gg mk a) (xNT_tab w hw) rfl (q4.2 w hw)⟩
theorem xK.warm {u U : State} (hW : u.WarmedH U.vm) (h : xK g u) : xK g U := ⟨va_K.moved hW.alike h.1, fun w hw => xNT_warm hW w hw (h.2 w hw)⟩
/-- behind a call -/
theorem V.ofRun (C : Cx p s m args meth c cc nL own g) {mc ms : Nat} {rest st0 : List Value} {r : Option Value} {S2 : List xO} {F2 : xF} {G2 : xL} {a : Array Value}
    (hr : ∀ (H : Heap) (locs : List Loc) (ls : Array Slot), S.length ≤ xKK → va_P g.2.2.2 xCl (xw g F G S) H → va_S (xA g) s.heap H locs → xl g ls nL lv → H.size ≤ s.heap.size + cells → va_Run p l e R s m args below meth c H locs cells slots mc ms (F0 m pc ls (st0.map (xv g))) (rest.map (xv g)) (xQc g S2 F2 G2 r a) (xA g))
    (kk : V p l e R s m args below meth c Q nL g S2 F2 G2 (cells + mc) (slots + ms) (pc + 3) lv (r.toList ++ rest)) : V p l e R s m args below meth c Q nL g S F G cells slots pc lv st0 := by
  intro H locs ls h1 h2 h3 h4 T hT X
  obtain ⟨v, st₀, t, T2, L, q0, X2, hL, e1, e2, ⟨hv, hl2, hP2, hF2⟩, go⟩ := hr H locs ls h1 h2 h3 h4 (by rw [← hT]; exact X.heapSize) T hT X
  cases hv
  rw [va_F, q0] at hF2
  obtain ⟨t2, a1, b1⟩ := kk T2.heap (locs ++ L) ls hl2 (by rw [e1]; exact hP2) ⟨Nat.le_trans h3.1 (by rw [e1]; exact hF2.1), fun q z1 z2 => by rw [e1, hF2.2 q (Nat.lt_of_lt_of_le z1 h3.1) z2]; exact h3.2.1 q z1 z2, fun q hq => by
      rcases List.mem_append.mp hq with z | z
      · exact h3.2.2 q z
      · exact hL q z⟩ h4 T2 rfl X2
  refine ⟨t2, go t2 ?_, b1⟩
  have : (r.map (xv g)).toList ++ rest.map (xv g) = (r.toList ++ rest).map (xv g) := by cases r <;> simp
  rw [this]
  exact a1
/-- what a call of y needs of the tables: its link (own or a nest mate's), its code -/
def xMl (own : String) (idx : Nat) (y : MethodName) (cc : ByteArray) (maxL : Nat) (ret : Option FieldType) (n : Nat) : Prop :=
  (Cond.methodLink own idx y ∈ xGT ∨ ∃ host, Cond.methodLinkNest own idx y host ∈ xNT) ∧ Cond.code y cc maxL ret ∈ xGT ∧ Cond.initialized y.cls ∈ xGT ∧ (y.cls ≠ "java/lang/invoke/MethodHandle" ∧ y.cls ≠ "java/lang/invoke/VarHandle" ∧ (parseMethodDescriptor y.desc).map (fun d => d.parameters.length) = some n)
theorem xGood {y : MethodName} {cc : ByteArray} {maxL : Nat} {ret : Option FieldType} (h : Cond.code y cc maxL ret ∈ xGT) : GoodIn xGT (xWs y cc maxL ret) := by
  intro w hw
  rcases List.mem_cons.mp hw with h1 | h1
  · subst h1; exact ⟨h, xGT_good _ h⟩
  · exact ⟨h1, xGT_good _ h1⟩
theorem xPc_at (C : Cx p s m args meth c cc nL own g) {H : Heap} {locs : List Loc} {x : Nat} {As : List Value} (h1 : S.length ≤ xKK) (h2 : va_P g.2.2.2 xCl (xw g F G S) H) (h3 : va_S (xA g) s.heap H locs) (hz : x = 0 → s.heap.size + cells = g.1 + S.length) (hle : H.size ≤ s.heap.size + cells) (U : State) (hU : U.heap = H) (hW : s.WarmedH U.vm) : xPc g S F G x As (As.map (xv g)).toArray U := by
  have hge : g.1 + S.length ≤ H.size := xw_size h2 (Nat.le_trans C.hz h3.1)
  exact ⟨rfl, fun q => by rw [hU]; have := hz q; omega, by rw [hU]; exact Nat.le_trans C.hz h3.1, by rw [hU]; exact h2, h1, C.kk.warm hW⟩
/-- an instance method of an object of its own class -/
theorem V.cV (C : Cx p s m args meth c cc nL own g) {d lc mc ms idx maxL n ci a x : Nat} {y : MethodName} {bytes : ByteArray} {ret : Option FieldType} {As rest : List Value} {r : Option Value} {S2 : List xO} {F2 : xF} {G2 : xL} {fs : List (Option Value)} {T : u_T} {N : Nat}
    (hM : CT l g d lc mc ms y bytes maxL ret x (.ref a :: As) S F G r S2 F2 G2) (hm : xMl own idx y bytes maxL ret n) (hv : Cond.instanceMethod y ∈ xGT ∧ Cond.selects y.cls y y ∈ xGT) (hS : S[a]? = some (.inr (.inr (ci, fs)))) (hc : xCl[ci]? = some (y.cls, T, N)) (hn : As.length = n) (hst : st = As.reverse ++ .ref a :: rest) (hz : x = 0 → s.heap.size + cells = g.1 + S.length)
    (hR : d + 1 ≤ R.frames ∧ 8 + (maxL + 11) + lc ≤ R.locals ∧ cells + mc ≤ R.cells ∧ slots + ms ≤ R.slots) (hcat : (rest.map fun v => v.category).sum ≤ 8) (hd : decode cc pc = .ok (.invokevirtual idx, 3))
    (kk : V p l e R s m args below meth c Q nL g S2 F2 G2 (cells + mc) (slots + ms) (pc + 3) lv (r.toList ++ rest)) : V p l e R s m args below meth c Q nL g S F G cells slots pc lv st := by
  obtain ⟨hlink, hcode, hini, hy⟩ := hm
  refine V.ofRun (a := ((Value.ref a :: As).map (xv g)).toArray) C (fun H locs ls h1 h2 h3 h4 hle => ?_) kk
  have hrm : 2 * (F0 m pc ls (st.map (xv g))).monitorRoom + ((rest.map (xv g)).map fun v => v.category).sum ≤ 8 := lv_room (by rw [xcatS]; exact hcat)
  have hpre : PreV s H y.cls (g.1 + a) (xPc g S F G x (.ref a :: As)) (As.map (xv g)) := ⟨xPc_blind, va_recv (q := (y.cls, T, N)) C.k h2 hc (xw_some hS), fun U hU hW => xPc_at (As := .ref a :: As) C h1 h2 h3 hz hle U hU hW⟩
  have hst2 : (F0 m pc ls (st.map (xv g))).stack = (As.map (xv g)).reverse ++ .ref (g.1 + a) :: rest.map (xv g) := by
    rw [hst]; simp [xv]
  rcases hlink with hlink | ⟨host, hlink⟩
  · exact va_runV ⟨C.x, C.b, C.ml, C.ow, C.ts⟩ hM ⟨callB_of n C.ts (xGood hcode) rfl rfl rfl (C.ts _ hini) (C.ts _ hlink) hy ⟨hR.1, hR.2.1⟩, C.ts _ hv.1, C.ts _ hv.2⟩ hpre rfl (by rw [List.length_map]; exact hn) h4.1 hst2 hrm hd ⟨hR.2.2.1, hR.2.2.2⟩
  · exact va_runVN ⟨C.x, C.b, C.ml, C.ow, C.ts⟩ hM ⟨va_cnB n C.ts (xGood hcode) rfl rfl rfl (C.nw _ hlink) (C.ts _ hini) hy ⟨hR.1, hR.2.1⟩, C.ts _ hv.1, C.ts _ hv.2⟩ hpre rfl (by rw [List.length_map]; exact hn) h4.1 hst2 hrm hd ⟨hR.2.2.1, hR.2.2.2⟩
/-- a static method -/
theorem V.cS (C : Cx p s m args meth c cc nL own g) {d lc mc ms idx maxL n x : Nat} {y : MethodName} {bytes : ByteArray} {ret : Option FieldType} {As rest : List Value} {r : Option Value} {S2 : List xO} {F2 : xF} {G2 : xL}
    (hM : CT l g d lc mc ms y bytes maxL ret x As S F G r S2 F2 G2) (hm : xMl own idx y bytes maxL ret n) (hv : Cond.static y ∈ xGT) (hn : As.length = n) (hst : st = As.reverse ++ rest) (hz : x = 0 → s.heap.size + cells = g.1 + S.length)
    (hR : d + 1 ≤ R.frames ∧ 8 + (maxL + 11) + lc ≤ R.locals ∧ cells + mc ≤ R.cells ∧ slots + ms ≤ R.slots) (hcat : (rest.map fun v => v.category).sum ≤ 8) (hd : decode cc pc = .ok (.invokestatic idx, 3))
    (kk : V p l e R s m args below meth c Q nL g S2 F2 G2 (cells + mc) (slots + ms) (pc + 3) lv (r.toList ++ rest)) : V p l e R s m args below meth c Q nL g S F G cells slots pc lv st := by
  obtain ⟨hlink, hcode, hini, hy⟩ := hm
  refine V.ofRun (a := (As.map (xv g)).toArray) C (fun H locs ls h1 h2 h3 h4 hle => ?_) kk
  have hrm : 2 * (F0 m pc ls (st.map (xv g))).monitorRoom + ((rest.map (xv g)).map fun v => v.category).sum ≤ 8 := lv_room (by rw [xcatS]; exact hcat)
  have hpre : PreS s H (xPc g S F G x As) (As.map (xv g)) := ⟨xPc_blind, fun U hU hW => xPc_at (As := As) C h1 h2 h3 hz hle U hU hW⟩
  have hst2 : (F0 m pc ls (st.map (xv g))).stack = (As.map (xv g)).reverse ++ rest.map (xv g) := by
    rw [hst]; simp
  rcases hlink with hlink | ⟨host, hlink⟩
  · exact va_runS ⟨C.x, C.b, C.ml, C.ow, C.ts⟩ hM ⟨callB_of n C.ts (xGood hcode) rfl rfl rfl (C.ts _ hini) (C.ts _ hlink) hy ⟨hR.1, hR.2.1⟩, C.ts _ hv⟩ hpre rfl (by rw [List.length_map]; exact hn) h4.1 hst2 hrm hd ⟨hR.2.2.1, hR.2.2.2⟩
  · exact va_runSN ⟨C.x, C.b, C.ml, C.ow, C.ts⟩ hM ⟨va_cnB n C.ts (xGood hcode) rfl rfl rfl (C.nw _ hlink) (C.ts _ hini) hy ⟨hR.1, hR.2.1⟩, C.ts _ hv, trivial⟩ hpre rfl (by rw [List.length_map]; exact hn) h4.1 hst2 hrm hd ⟨hR.2.2.1, hR.2.2.2⟩
/-- a constructor -/
theorem V.cI (C : Cx p s m args meth c cc nL own g) {d lc mc ms idx maxL n a x : Nat} {y : MethodName} {bytes : ByteArray} {As rest : List Value} {S2 : List xO} {F2 : xF} {G2 : xL}
    (hM : CT l g d lc mc ms y bytes maxL none x (.ref a :: As) S F G none S2 F2 G2) (hm : xMl own idx y bytes maxL none n) (hv : Cond.instanceMethod y ∈ xGT) (hy1 : y.name = "<init>") (hn : As.length = n) (hst : st = As.reverse ++ .ref a :: rest) (hz : x = 0 → s.heap.size + cells = g.1 + S.length)
    (hR : d + 1 ≤ R.frames ∧ 8 + (maxL + 11) + lc ≤ R.locals ∧ cells + mc ≤ R.cells ∧ slots + ms ≤ R.slots) (hcat : (rest.map fun v => v.category).sum ≤ 8) (hd : decode cc pc = .ok (.invokespecial idx, 3))
    (kk : V p l e R s m args below meth c Q nL g S2 F2 G2 (cells + mc) (slots + ms) (pc + 3) lv rest) : V p l e R s m args below meth c Q nL g S F G cells slots pc lv st := by
  obtain ⟨hlink, hcode, hini, hy⟩ := hm
  refine V.ofRun (a := ((Value.ref a :: As).map (xv g)).toArray) (r := none) C (fun H locs ls h1 h2 h3 h4 hle => ?_) kk
  have hrm : 2 * (F0 m pc ls (st.map (xv g))).monitorRoom + ((rest.map (xv g)).map fun v => v.category).sum ≤ 8 := lv_room (by rw [xcatS]; exact hcat)
  have hpre : PreS s H (xPc g S F G x (.ref a :: As)) (.ref (g.1 + a) :: As.map (xv g)) := ⟨xPc_blind, fun U hU hW => xPc_at (As := .ref a :: As) C h1 h2 h3 hz hle U hU hW⟩
  have hst2 : (F0 m pc ls (st.map (xv g))).stack = (As.map (xv g)).reverse ++ .ref (g.1 + a) :: rest.map (xv g) := by
    rw [hst]; simp [xv]
  rcases hlink with hlink | ⟨host, hlink⟩
  · exact va_runI ⟨C.x, C.b, C.ml, C.ow, C.ts⟩ hM ⟨callB_of n C.ts (xGood hcode) rfl rfl rfl (C.ts _ hini) (C.ts _ hlink) hy ⟨hR.1, hR.2.1⟩, hy1, C.ts _ hv⟩ hpre rfl (by rw [List.length_map]; exact hn) h4.1 hst2 hrm hd ⟨hR.2.2.1, hR.2.2.2⟩
  · exact va_runIN ⟨C.x, C.b, C.ml, C.ow, C.ts⟩ hM ⟨va_cnB n C.ts (xGood hcode) rfl rfl rfl (C.nw _ hlink) (C.ts _ hini) hy ⟨hR.1, hR.2.1⟩, hy1, C.ts _ hv⟩ hpre rfl (by rw [List.length_map]; exact hn) h4.1 hst2 hrm hd ⟨hR.2.2.1, hR.2.2.2⟩
end XV2
end
section
/-! the operations of the pure functions, and their rows: what fails (a wrong index, another class) is none -/
def gI (S : List xO) (ci a k : Nat) (F : xF) : Option Int32 := match S[a]? with
  | some (.inr (.inr (c, fs))) => if c = ci then (match fs[k]? with
    | some none => some (F a k)
    | _ => none) else none
  | _ => none
def gR (S : List xO) (ci a k : Nat) : Option Nat := match S[a]? with
  | some (.inr (.inr (c, fs))) => if c = ci then (match fs[k]? with
    | some (some (.ref q)) => some q
    | _ => none) else none
  | _ => none
def pI (S : List xO) (ci a k : Nat) (v : Int32) (F : xF) : Option xF := match S[a]? with
  | some (.inr (.inr (c, fs))) => if c = ci then (match fs[k]? with
    | some none => some (up2 F a k v)
    | _ => none) else none
  | _ => none
def aG (S : List xO) (a : Nat) (j : Int32) (F : xF) : Option Int32 := match S[a]? with
  | some (.inl (0, n)) => if 0 ≤ j.toInt ∧ j.toInt < n then some (F a j.toNatClampNeg) else none
  | _ => none
def aP (S : List xO) (a : Nat) (j v : Int32) (F : xF) : Option xF := match S[a]? with
  | some (.inl (0, n)) => if 0 ≤ j.toInt ∧ j.toInt < n then some (up2 F a j.toNatClampNeg v) else none
  | _ => none
def bG (S : List xO) (a : Nat) (j : Int32) (F : xF) : Option Int32 := match S[a]? with
  | some (.inl (3, n)) => if 0 ≤ j.toInt ∧ j.toInt < n then some (F a j.toNatClampNeg) else none
  | _ => none
def bP (S : List xO) (a : Nat) (j v : Int32) (F : xF) : Option xF := match S[a]? with
  | some (.inl (3, n)) => if 0 ≤ j.toInt ∧ j.toInt < n then some (up2 F a j.toNatClampNeg (vp_nar .byte v)) else none
  | _ => none
def aN (S : List xO) (a : Nat) : Option Int32 := match S[a]? with
  | some (.inl (0, n)) => some (nI n)
  | _ => none
def rG (S : List xO) (a : Nat) (j : Int32) : Option Nat := match S[a]? with
  | some (.inr (.inl (t, rs))) => if t = 2 ∧ 0 ≤ j.toInt ∧ j.toInt < rs.length then rs.getD j.toNatClampNeg none else none
  | _ => none
def aC (S : List xO) (a : Nat) (sp dp n : Int32) (F : xF) : Option xF := match S[a]? with
  | some (.inl (0, n0)) => if 0 ≤ sp.toInt ∧ 0 ≤ dp.toInt ∧ 0 ≤ n.toInt ∧ sp.toInt + n.toInt ≤ n0 ∧ dp.toInt + n.toInt ≤ n0 then some (upR F a (va_cpy (F a) (F a) sp.toNatClampNeg dp.toNatClampNeg n.toNatClampNeg)) else none
  | _ => none
def xcl {α : Type} (S : List xO) (ci a : Nat) (o : Option α) : Option α := match S[a]? with
  | some (.inr (.inr (c, _))) => if c = ci then o else none
  | _ => none
section XOP
variable {S : List xO} {F F1 : xF} {ci a k : Nat} {v j : Int32}
theorem gI_spec (h : gI S ci a k F = some v) : ∃ fs, S[a]? = some (.inr (.inr (ci, fs))) ∧ fs[k]? = some none ∧ F a k = v := by
  unfold gI at h
  split at h
  · split at h
    · rename_i c fs hS hc
      subst hc
      split at h
      · rename_i hf
        exact ⟨fs, hS, hf, Option.some.inj h⟩
      · cases h
    · cases h
  · cases h
theorem gI_of {fs : List (Option Value)} (hS : S[a]? = some (.inr (.inr (ci, fs)))) (hf : fs[k]? = some none) : gI S ci a k F = some (F a k) := by
  unfold gI; rw [hS]; simp [hf]
theorem gR_spec {q : Nat} (h : gR S ci a k = some q) : ∃ fs, S[a]? = some (.inr (.inr (ci, fs))) ∧ fs[k]? = some (some (.ref q)) := by
  unfold gR at h
  split at h
  · split at h
    · rename_i c fs hS hc
      subst hc
      split at h
      · rename_i q2 hf
        cases h
        exact ⟨fs, hS, hf⟩
      · cases h
    · cases h
  · cases h
theorem gR_of {q : Nat} {fs : List (Option Value)} (hS : S[a]? = some (.inr (.inr (ci, fs)))) (hf : fs[k]? = some (some (.ref q))) : gR S ci a k = some q := by
  unfold gR; rw [hS]; simp [hf]
theorem pI_spec (h : pI S ci a k v F = some F1) : ∃ fs, S[a]? = some (.inr (.inr (ci, fs))) ∧ fs[k]? = some none ∧ up2 F a k v = F1 := by
  unfold pI at h
  split at h
  · split at h
    · rename_i c fs hS hc
      subst hc
      split at h
      · rename_i hf
        exact ⟨fs, hS, hf, Option.some.inj h⟩
      · cases h
    · cases h
  · cases h
theorem pI_of {fs : List (Option Value)} (hS : S[a]? = some (.inr (.inr (ci, fs)))) (hf : fs[k]? = some none) : pI S ci a k v F = some (up2 F a k v) := by
  unfold pI; rw [hS]; simp [hf]
theorem aG_spec (h : aG S a j F = some v) : ∃ n, S[a]? = some (.inl (0, n)) ∧ vp_in j n ∧ F a j.toNatClampNeg = v := by
  unfold aG at h
  split at h
  · rename_i n hS
    split at h
    · rename_i hj
      exact ⟨n, hS, vp_in_iff.mpr hj, Option.some.inj h⟩
    · cases h
  · cases h
theorem aG_of {n : Nat} (hS : S[a]? = some (.inl (0, n))) (hj : 0 ≤ j.toInt ∧ j.toInt < n) : aG S a j F = some (F a j.toNatClampNeg) := by
  unfold aG; rw [hS]; simp [hj]
theorem aP_spec (h : aP S a j v F = some F1) : ∃ n, S[a]? = some (.inl (0, n)) ∧ vp_in j n ∧ up2 F a j.toNatClampNeg v = F1 := by
  unfold aP at h
  split at h
  · rename_i n hS
    split at h
    · rename_i hj
      exact ⟨n, hS, vp_in_iff.mpr hj, Option.some.inj h⟩
    · cases h
  · cases h
theorem aP_of {n : Nat} (hS : S[a]? = some (.inl (0, n))) (hj : 0 ≤ j.toInt ∧ j.toInt < n) : aP S a j v F = some (up2 F a j.toNatClampNeg v) := by
  unfold aP; rw [hS]; simp [hj]
theorem bG_spec (h : bG S a j F = some v) : ∃ n, S[a]? = some (.inl (3, n)) ∧ vp_in j n ∧ F a j.toNatClampNeg = v := by
  unfold bG at h
  split at h
  · rename_i n hS
    split at h
    · rename_i hj
      exact ⟨n, hS, vp_in_iff.mpr hj, Option.some.inj h⟩
    · cases h
  · cases h
theorem bG_of {n : Nat} (hS : S[a]? = some (.inl (3, n))) (hj : 0 ≤ j.toInt ∧ j.toInt < n) : bG S a j F = some (F a j.toNatClampNeg) := by
  unfold bG; rw [hS]; simp [hj]
theorem bP_spec (h : bP S a j v F = some F1) : ∃ n, S[a]? = some (.inl (3, n)) ∧ vp_in j n ∧ up2 F a j.toNatClampNeg (vp_nar .byte v) = F1 := by
  unfold bP at h
  split at h
  · rename_i n hS
    split at h
    · rename_i hj
      exact ⟨n, hS, vp_in_iff.mpr hj, Option.some.inj h⟩
    · cases h
  · cases h
theorem bP_of {n : Nat} (hS : S[a]? = some (.inl (3, n))) (hj : 0 ≤ j.toInt ∧ j.toInt < n) : bP S a j v F = some (up2 F a j.toNatClampNeg (vp_nar .byte v)) := by
  unfold bP; rw [hS]; simp [hj]
theorem aN_spec (h : aN S a = some v) : ∃ n, S[a]? = some (.inl (0, n)) ∧ nI n = v := by
  unfold aN at h
  split at h
  · rename_i n hS
    exact ⟨n, hS, Option.some.inj h⟩
  · cases h
theorem aN_of {n : Nat} (hS : S[a]? = some (.inl (0, n))) : aN S a = some (nI n) := by
  unfold aN; rw [hS]
theorem rG_spec {q : Nat} (h : rG S a j = some q) : ∃ rs : List (Option Nat), S[a]? = some (.inr (.inl (2, rs))) ∧ vp_in j rs.length ∧ rs.getD j.toNatClampNeg none = some q := by
  unfold rG at h
  split at h
  · rename_i t rs hS
    split at h
    · rename_i hj
      obtain ⟨h1, h2⟩ := hj
      subst h1
      exact ⟨rs, hS, vp_in_iff.mpr h2, h⟩
    · cases h
  · cases h
theorem xcl_spec {α : Type} {o : Option α} {x : α} (h : xcl S ci a o = some x) : (∃ fs, S[a]? = some (.inr (.inr (ci, fs)))) ∧ o = some x := by
  unfold xcl at h
  split at h
  · rename_i c fs hS
    split at h
    · rename_i hc
      subst hc
      exact ⟨⟨fs, hS⟩, h⟩
    · cases h
  · cases h
theorem xcl_of {α : Type} {o : Option α} {fs : List (Option Value)} (hS : S[a]? = some (.inr (.inr (ci, fs)))) : xcl S ci a o = o := by
  unfold xcl; rw [hS]; simp
theorem aC_spec {sp dp n : Int32} (h : aC S a sp dp n F = some F1) : ∃ n0, S[a]? = some (.inl (0, n0)) ∧ ¬ sp < 0 ∧ ¬ dp < 0 ∧ ¬ n < 0 ∧ sp.toNatClampNeg + n.toNatClampNeg ≤ n0 ∧ dp.toNatClampNeg + n.toNatClampNeg ≤ n0 ∧ upR F a (va_cpy (F a) (F a) sp.toNatClampNeg dp.toNatClampNeg n.toNatClampNeg) = F1 := by
  unfold aC at h
  split at h
  · rename_i n0 hS
    split at h
    · rename_i hj
      obtain ⟨h1, h2, h3, h4, h5⟩ := hj
      refine ⟨n0, hS, ?_, ?_, ?_, ?_, ?_, Option.some.inj h⟩
      · rw [Int32.lt_iff_toInt_lt, Int32.toInt_zero]; omega
      · rw [Int32.lt_iff_toInt_lt, Int32.toInt_zero]; omega
      · rw [Int32.lt_iff_toInt_lt, Int32.toInt_zero]; omega
      · show sp.toInt.toNat + n.toInt.toNat ≤ n0; omega
      · show dp.toInt.toNat + n.toInt.toNat ≤ n0; omega
    · cases h
  · cases h
end XOP
def xsub : List (Option Value) → List (Option Value) → Prop
  | [], _ => True
  | none :: r2, [] => xsub r2 []
  | none :: r2, _ :: r => xsub r2 r
  | some _ :: _, [] => False
  | some v :: r2, o :: r => o = some v ∧ xsub r2 r
theorem xsub_spec : ∀ {lv2 lv : List (Option Value)}, xsub lv2 lv → ∀ (k : Nat) (v : Value), xlg lv2 k = some v → xlg lv k = some v
  | [], _, _, k, v, h => by simp [xlg] at h
  | none :: r2, [], hs, 0, v, h => by simp [xlg] at h
  | none :: r2, [], hs, k + 1, v, h => by
    have := xsub_spec (lv2 := r2) (lv := []) hs k v h
    simp [xlg] at this
  | none :: r2, o :: r, hs, 0, v, h => by simp [xlg] at h
  | none :: r2, o :: r, hs, k + 1, v, h => xsub_spec (lv2 := r2) (lv := r) hs k v h
  | some w :: r2, [], hs, k, v, h => by cases hs
  | some w :: r2, o :: r, hs, 0, v, h => by
    obtain ⟨h1, -⟩ := hs
    have h2 : w = v := by simpa [xlg] using h
    rw [← h2]
    exact h1
  | some w :: r2, o :: r, hs, k + 1, v, h => xsub_spec (lv2 := r2) (lv := r) hs.2 k v h
section XV3
variable {p : Program} {l : Launch} {e : Env} {R : Room} {s : State} {m : MethodId} {args : Array Value} {below : List Frame} {meth : Method} {c : Code} {Q : State → Prop}
variable {cc : ByteArray} {nL : Nat} {own : String} {g : xG} {S : List xO} {F F1 : xF} {G : xL} {cells slots pc : Nat} {lv : List (Option Value)} {st : List Value} {idx ci a k : Nat} {v j : Int32}
theorem V.xgetI (C : Cx p s m args meth c cc nL own g) (hl : xFl own idx ci k) (h : gI S ci a k F = some v) (hd : decode cc pc = .ok (.getfield idx, 3)) (kk : V p l e R s m args below meth c Q nL g S F G cells slots (pc + 3) lv (.int v :: st)) : V p l e R s m args below meth c Q nL g S F G cells slots pc lv (.ref a :: st) := by
  obtain ⟨fs, h1, h2, h3⟩ := gI_spec h
  subst h3
  exact V.getI C hl h1 h2 hd kk
theorem V.xgetR (C : Cx p s m args meth c cc nL own g) {q : Nat} (hl : xFl own idx ci k) (h : gR S ci a k = some q) (hd : decode cc pc = .ok (.getfield idx, 3)) (kk : V p l e R s m args below meth c Q nL g S F G cells slots (pc + 3) lv (.ref q :: st)) : V p l e R s m args below meth c Q nL g S F G cells slots pc lv (.ref a :: st) := by
  obtain ⟨fs, h1, h2⟩ := gR_spec h
  exact V.getR C hl h1 h2 hd kk
theorem V.xputI (C : Cx p s m args meth c cc nL own g) (hl : xFl own idx ci k) (ht : xFt ci) (hI : xFI ci k) (h : pI S ci a k v F = some F1) (hd : decode cc pc = .ok (.putfield idx, 3)) (kk : V p l e R s m args below meth c Q nL g S F1 G cells slots (pc + 3) lv st) : V p l e R s m args below meth c Q nL g S F G cells slots pc lv (.int v :: .ref a :: st) := by
  obtain ⟨fs, h1, h2, h3⟩ := pI_spec h
  subst h3
  exact V.putI C hl ht hI h1 h2 hd kk
theorem V.xiald (C : Cx p s m args meth c cc nL own g) (h : aG S a j F = some v) (hd : decode cc pc = .ok (.iaload, 1)) (kk : V p l e R s m args below meth c Q nL g S F G cells slots (pc + 1) lv (.int v :: st)) : V p l e R s m args below meth c Q nL g S F G cells slots pc lv (.int j :: .ref a :: st) := by
  obtain ⟨n, h1, h2, h3⟩ := aG_spec h
  subst h3
  exact V.iald C h1 h2 hd kk
theorem V.xiast (C : Cx p s m args meth c cc nL own g) (h : aP S a j v F = some F1) (hd : decode cc pc = .ok (.iastore, 1)) (kk : V p l e R s m args below meth c Q nL g S F1 G cells slots (pc + 1) lv st) : V p l e R s m args below meth c Q nL g S F G cells slots pc lv (.int v :: .int j :: .ref a :: st) := by
  obtain ⟨n, h1, h2, h3⟩ := aP_spec h
  subst h3
  exact V.iast C h1 h2 hd kk
theorem V.xbald (C : Cx p s m args meth c cc nL own g) (h : bG S a j F = some v) (hd : decode cc pc = .ok (.baload, 1)) (kk : V p l e R s m args below meth c Q nL g S F G cells slots (pc + 1) lv (.int v :: st)) : V p l e R s m args below meth c Q nL g S F G cells slots pc lv (.int j :: .ref a :: st) := by
  obtain ⟨n, h1, h2, h3⟩ := bG_spec h
  subst h3
  exact V.bald C h1 h2 hd kk
theorem V.xbast (C : Cx p s m args meth c cc nL own g) (h : bP S a j v F = some F1) (hd : decode cc pc = .ok (.bastore, 1)) (kk : V p l e R s m args below meth c Q nL g S F1 G cells slots (pc + 1) lv st) : V p l e R s m args below meth c Q nL g S F G cells slots pc lv (.int v :: .int j :: .ref a :: st) := by
  obtain ⟨n, h1, h2, h3⟩ := bP_spec h
  subst h3
  exact V.bast C h1 h2 hd kk
theorem V.xalen (C : Cx p s m args meth c cc nL own g) (h : aN S a = some v) (hd : decode cc pc = .ok (.arraylength, 1)) (kk : V p l e R s m args below meth c Q nL g S F G cells slots (pc + 1) lv (.int v :: st)) : V p l e R s m args below meth c Q nL g S F G cells slots pc lv (.ref a :: st) := by
  obtain ⟨n, h1, h2⟩ := aN_spec h
  subst h2
  exact V.alen C h1 hd kk
theorem V.xaald (C : Cx p s m args meth c cc nL own g) {q : Nat} (h : rG S a j = some q) (hd : decode cc pc = .ok (.aaload, 1)) (kk : V p l e R s m args below meth c Q nL g S F G cells slots (pc + 1) lv (.ref q :: st)) : V p l e R s m args below meth c Q nL g S F G cells slots pc lv (.int j :: .ref a :: st) := by
  obtain ⟨rs, h1, h2, h3⟩ := rG_spec h
  exact V.aald C h1 (xTy2 g) h2 h3 hd kk
theorem V.xcopy (C : Cx p s m args meth c cc nL own g) {sp dp n : Int32} (hw : Cond.methodLink own idx arraycopyName ∈ xGT ∧ Cond.native arraycopyName ∈ xGT ∧ Cond.static arraycopyName ∈ xGT ∧ Cond.initialized "java/lang/System" ∈ xGT) (h : aC S a sp dp n F = some F1) (hR : 1 ≤ R.frames ∧ (st.map fun v => v.category).sum + (nativeFrameWords "java/lang/System" "arraycopy" 5 + 11) ≤ R.locals) (hd : decode cc pc = .ok (.invokestatic idx, 3)) (kk : V p l e R s m args below meth c Q nL g S F1 G cells slots (pc + 3) lv st) : V p l e R s m args below meth c Q nL g S F G cells slots pc lv (.int n :: .int dp :: .ref a :: .int sp :: .ref a :: st) := by
  obtain ⟨n0, h1, h2, h3, h4, h5, h6, h7⟩ := aC_spec h
  subst h7
  exact V.copy C hw h1 h2 h3 h4 h5 h6 hR hd kk
/-- calls, with the answer on the stack, and without -/
def xCv (own : String) (idx : Nat) (y : MethodName) (cc : ByteArray) (maxL : Nat) (ret : Option FieldType) (n ci : Nat) : Prop := xMl own idx y cc maxL ret n ∧ (Cond.instanceMethod y ∈ xGT ∧ Cond.selects y.cls y y ∈ xGT) ∧ ∃ (T : u_T) (N : Nat), xCl[ci]? = some (y.cls, T, N)
def xCs (own : String) (idx : Nat) (y : MethodName) (cc : ByteArray) (maxL : Nat) (ret : Option FieldType) (n : Nat) : Prop := xMl own idx y cc maxL ret n ∧ Cond.static y ∈ xGT
variable {d lc maxL n : Nat} {y : MethodName} {bytes : ByteArray} {ret : Option FieldType} {As rest : List Value} {r : Value} {F2 : xF} {fs : List (Option Value)}
theorem V.cVr (C : Cx p s m args meth c cc nL own g) (hM : CT l g d lc 0 0 y bytes maxL ret 1 (.ref a :: As) S F G (some r) S F2 G) (hm : xCv own idx y bytes maxL ret n ci) (hS : S[a]? = some (.inr (.inr (ci, fs)))) (hn : As.length = n) (hst : st = As.reverse ++ .ref a :: rest) (hR : d + 1 ≤ R.frames ∧ 8 + (maxL + 11) + lc ≤ R.locals ∧ cells + 0 ≤ R.cells ∧ slots + 0 ≤ R.slots) (hcat : (rest.map fun v => v.category).sum ≤ 8) (hd : decode cc pc = .ok (.invokevirtual idx, 3))
    (kk : V p l e R s m args below meth c Q nL g S F2 G cells slots (pc + 3) lv (r :: rest)) : V p l e R s m args below meth c Q nL g S F G cells slots pc lv st := by
  obtain ⟨h1, h2, T, N, h3⟩ := hm
  exact V.cV C hM h1 h2 hS h3 hn hst (fun q => absurd q (by decide)) hR hcat hd kk
theorem V.cVv (C : Cx p s m args meth c cc nL own g) (hM : CT l g d lc 0 0 y bytes maxL ret 1 (.ref a :: As) S F G none S F2 G) (hm : xCv own idx y bytes maxL ret n ci) (hS : S[a]? = some (.inr (.inr (ci, fs)))) (hn : As.length = n) (hst : st = As.reverse ++ .ref a :: rest) (hR : d + 1 ≤ R.frames ∧ 8 + (maxL + 11) + lc ≤ R.locals ∧ cells + 0 ≤ R.cells ∧ slots + 0 ≤ R.slots) (hcat : (rest.map fun v => v.category).sum ≤ 8) (hd : decode cc pc = .ok (.invokevirtual idx, 3))
    (kk : V p l e R s m args below meth c Q nL g S F2 G cells slots (pc + 3) lv rest) : V p l e R s m args below meth c Q nL g S F G cells slots pc lv st := by
  obtain ⟨h1, h2, T, N, h3⟩ := hm
  exact V.cV C hM h1 h2 hS h3 hn hst (fun q => absurd q (by decide)) hR hcat hd kk
theorem V.cSr (C : Cx p s m args meth c cc nL own g) (hM : CT l g d lc 0 0 y bytes maxL ret 1 As S F G (some r) S F2 G) (hm : xCs own idx y bytes maxL ret n) (hn : As.length = n) (hst : st = As.reverse ++ rest) (hR : d + 1 ≤ R.frames ∧ 8 + (maxL + 11) + lc ≤ R.locals ∧ cells + 0 ≤ R.cells ∧ slots + 0 ≤ R.slots) (hcat : (rest.map fun v => v.category).sum ≤ 8) (hd : decode cc pc = .ok (.invokestatic idx, 3))
    (kk : V p l e R s m args below meth c Q nL g S F2 G cells slots (pc + 3) lv (r :: rest)) : V p l e R s m args below meth c Q nL g S F G cells slots pc lv st := V.cS C hM hm.1 hm.2 hn hst (fun q => absurd q (by decide)) hR hcat hd kk
theorem V.cSv (C : Cx p s m args meth c cc nL own g) (hM : CT l g d lc 0 0 y bytes maxL ret 1 As S F G none S F2 G) (hm : xCs own idx y bytes maxL ret n) (hn : As.length = n) (hst : st = As.reverse ++ rest) (hR : d + 1 ≤ R.frames ∧ 8 + (maxL + 11) + lc ≤ R.locals ∧ cells + 0 ≤ R.cells ∧ slots + 0 ≤ R.slots) (hcat : (rest.map fun v => v.category).sum ≤ 8) (hd : decode cc pc = .ok (.invokestatic idx, 3))
    (kk : V p l e R s m args below meth c Q nL g S F2 G cells slots (pc + 3) lv rest) : V p l e R s m args below meth c Q nL g S F G cells slots pc lv st := V.cS C hM hm.1 hm.2 hn hst (fun q => absurd q (by decide)) hR hcat hd kk
end XV3
end
