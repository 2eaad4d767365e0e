theorem d_Mo_feed_0 : decode b_Mo_feed 0 = .ok (.aload_n 0, 1) := by decide +kernel
theorem d_Mo_feed_1 : decode b_Mo_feed 1 = .ok (.iload_n 1, 1) := by decide +kernel
theorem d_Mo_feed_2 : decode b_Mo_feed 2 = .ok (.ifCond .lt (10), 3) := by decide +kernel
theorem d_Mo_feed_5 : decode b_Mo_feed 5 = .ok (.iload_n 1, 1) := by decide +kernel
theorem d_Mo_feed_6 : decode b_Mo_feed 6 = .ok (.sipush (255), 3) := by decide +kernel
theorem d_Mo_feed_9 : decode b_Mo_feed 9 = .ok (.if_icmp .le (7), 3) := by decide +kernel
theorem d_Mo_feed_12 : decode b_Mo_feed 12 = .ok (.iconst (1), 1) := by decide +kernel
theorem d_Mo_feed_13 : decode b_Mo_feed 13 = .ok (.goto (18), 3) := by decide +kernel
theorem d_Mo_feed_16 : decode b_Mo_feed 16 = .ok (.aload_n 0, 1) := by decide +kernel
theorem d_Mo_feed_17 : decode b_Mo_feed 17 = .ok (.getfield 104, 3) := by decide +kernel
theorem d_Mo_feed_20 : decode b_Mo_feed 20 = .ok (.sipush (24000), 3) := by decide +kernel
theorem d_Mo_feed_23 : decode b_Mo_feed 23 = .ok (.if_icmp .ne (7), 3) := by decide +kernel
theorem d_Mo_feed_26 : decode b_Mo_feed 26 = .ok (.iconst (2), 1) := by decide +kernel
theorem d_Mo_feed_27 : decode b_Mo_feed 27 = .ok (.goto (4), 3) := by decide +kernel
theorem d_Mo_feed_30 : decode b_Mo_feed 30 = .ok (.iconst (0), 1) := by decide +kernel
theorem d_Mo_feed_31 : decode b_Mo_feed 31 = .ok (.putfield 92, 3) := by decide +kernel
theorem d_Mo_feed_34 : decode b_Mo_feed 34 = .ok (.aload_n 0, 1) := by decide +kernel
theorem d_Mo_feed_35 : decode b_Mo_feed 35 = .ok (.getfield 92, 3) := by decide +kernel
theorem d_Mo_feed_38 : decode b_Mo_feed 38 = .ok (.ifCond .le (5), 3) := by decide +kernel
theorem d_Mo_feed_41 : decode b_Mo_feed 41 = .ok (.iconst (0), 1) := by decide +kernel
theorem d_Mo_feed_42 : decode b_Mo_feed 42 = .ok (.ireturn, 1) := by decide +kernel
theorem d_Mo_feed_43 : decode b_Mo_feed 43 = .ok (.aload_n 0, 1) := by decide +kernel
theorem d_Mo_feed_44 : decode b_Mo_feed 44 = .ok (.getfield 20, 3) := by decide +kernel
theorem d_Mo_feed_47 : decode b_Mo_feed 47 = .ok (.aload_n 0, 1) := by decide +kernel
theorem d_Mo_feed_48 : decode b_Mo_feed 48 = .ok (.getfield 104, 3) := by decide +kernel
theorem d_Mo_feed_51 : decode b_Mo_feed 51 = .ok (.iload_n 1, 1) := by decide +kernel
theorem d_Mo_feed_52 : decode b_Mo_feed 52 = .ok (.i2b, 1) := by decide +kernel
theorem d_Mo_feed_53 : decode b_Mo_feed 53 = .ok (.bastore, 1) := by decide +kernel
theorem d_Mo_feed_54 : decode b_Mo_feed 54 = .ok (.aload_n 0, 1) := by decide +kernel
theorem d_Mo_feed_55 : decode b_Mo_feed 55 = .ok (.dup, 1) := by decide +kernel
theorem d_Mo_feed_56 : decode b_Mo_feed 56 = .ok (.getfield 104, 3) := by decide +kernel
theorem d_Mo_feed_59 : decode b_Mo_feed 59 = .ok (.iconst (1), 1) := by decide +kernel
theorem d_Mo_feed_60 : decode b_Mo_feed 60 = .ok (.iadd, 1) := by decide +kernel
theorem d_Mo_feed_61 : decode b_Mo_feed 61 = .ok (.putfield 104, 3) := by decide +kernel
theorem d_Mo_feed_64 : decode b_Mo_feed 64 = .ok (.aload_n 0, 1) := by decide +kernel
theorem d_Mo_feed_65 : decode b_Mo_feed 65 = .ok (.getfield 104, 3) := by decide +kernel
theorem d_Mo_feed_68 : decode b_Mo_feed 68 = .ok (.ireturn, 1) := by decide +kernel
theorem d_Mo_pass_0 : decode b_Mo_pass 0 = .ok (.iload_n 1, 1) := by decide +kernel
theorem d_Mo_pass_1 : decode b_Mo_pass 1 = .ok (.ifCond .lt (15), 3) := by decide +kernel
theorem d_Mo_pass_4 : decode b_Mo_pass 4 = .ok (.iload_n 1, 1) := by decide +kernel
theorem d_Mo_pass_5 : decode b_Mo_pass 5 = .ok (.aload_n 0, 1) := by decide +kernel
theorem d_Mo_pass_6 : decode b_Mo_pass 6 = .ok (.getfield 101, 3) := by decide +kernel
theorem d_Mo_pass_9 : decode b_Mo_pass 9 = .ok (.if_icmp .ge (7), 3) := by decide +kernel
theorem d_Mo_pass_12 : decode b_Mo_pass 12 = .ok (.iconst (1), 1) := by decide +kernel
theorem d_Mo_pass_13 : decode b_Mo_pass 13 = .ok (.goto (4), 3) := by decide +kernel
theorem d_Mo_pass_16 : decode b_Mo_pass 16 = .ok (.iconst (0), 1) := by decide +kernel
theorem d_Mo_pass_17 : decode b_Mo_pass 17 = .ok (.istore_n 3, 1) := by decide +kernel
theorem d_Mo_pass_18 : decode b_Mo_pass 18 = .ok (.iload_n 3, 1) := by decide +kernel
theorem d_Mo_pass_19 : decode b_Mo_pass 19 = .ok (.ifCond .eq (22), 3) := by decide +kernel
theorem d_Mo_pass_22 : decode b_Mo_pass 22 = .ok (.iload_n 2, 1) := by decide +kernel
theorem d_Mo_pass_23 : decode b_Mo_pass 23 = .ok (.aload_n 0, 1) := by decide +kernel
theorem d_Mo_pass_24 : decode b_Mo_pass 24 = .ok (.getfield 101, 3) := by decide +kernel
theorem d_Mo_pass_27 : decode b_Mo_pass 27 = .ok (.iload_n 1, 1) := by decide +kernel
theorem d_Mo_pass_28 : decode b_Mo_pass 28 = .ok (.isub, 1) := by decide +kernel
theorem d_Mo_pass_29 : decode b_Mo_pass 29 = .ok (.if_icmp .le (12), 3) := by decide +kernel
theorem d_Mo_pass_32 : decode b_Mo_pass 32 = .ok (.aload_n 0, 1) := by decide +kernel
theorem d_Mo_pass_33 : decode b_Mo_pass 33 = .ok (.getfield 101, 3) := by decide +kernel
theorem d_Mo_pass_36 : decode b_Mo_pass 36 = .ok (.iload_n 1, 1) := by decide +kernel
theorem d_Mo_pass_37 : decode b_Mo_pass 37 = .ok (.isub, 1) := by decide +kernel
theorem d_Mo_pass_38 : decode b_Mo_pass 38 = .ok (.goto (4), 3) := by decide +kernel
theorem d_Mo_pass_41 : decode b_Mo_pass 41 = .ok (.iload_n 2, 1) := by decide +kernel
theorem d_Mo_pass_42 : decode b_Mo_pass 42 = .ok (.istore 4, 2) := by decide +kernel
theorem d_Mo_pass_44 : decode b_Mo_pass 44 = .ok (.aload_n 0, 1) := by decide +kernel
theorem d_Mo_pass_45 : decode b_Mo_pass 45 = .ok (.iload_n 3, 1) := by decide +kernel
theorem d_Mo_pass_46 : decode b_Mo_pass 46 = .ok (.ifCond .ne (7), 3) := by decide +kernel
theorem d_Mo_pass_49 : decode b_Mo_pass 49 = .ok (.iconst (1), 1) := by decide +kernel
theorem d_Mo_pass_50 : decode b_Mo_pass 50 = .ok (.goto (29), 3) := by decide +kernel
theorem d_Mo_pass_53 : decode b_Mo_pass 53 = .ok (.iload_n 2, 1) := by decide +kernel
theorem d_Mo_pass_54 : decode b_Mo_pass 54 = .ok (.ifCond .ge (7), 3) := by decide +kernel
theorem d_Mo_pass_57 : decode b_Mo_pass 57 = .ok (.iconst (2), 1) := by decide +kernel
theorem d_Mo_pass_58 : decode b_Mo_pass 58 = .ok (.goto (21), 3) := by decide +kernel
theorem d_Mo_pass_61 : decode b_Mo_pass 61 = .ok (.aload_n 0, 1) := by decide +kernel
theorem d_Mo_pass_62 : decode b_Mo_pass 62 = .ok (.getfield 104, 3) := by decide +kernel
theorem d_Mo_pass_65 : decode b_Mo_pass 65 = .ok (.iload 4, 2) := by decide +kernel
theorem d_Mo_pass_67 : decode b_Mo_pass 67 = .ok (.iadd, 1) := by decide +kernel
theorem d_Mo_pass_68 : decode b_Mo_pass 68 = .ok (.sipush (24000), 3) := by decide +kernel
theorem d_Mo_pass_71 : decode b_Mo_pass 71 = .ok (.if_icmp .le (7), 3) := by decide +kernel
theorem d_Mo_pass_74 : decode b_Mo_pass 74 = .ok (.iconst (3), 1) := by decide +kernel
theorem d_Mo_pass_75 : decode b_Mo_pass 75 = .ok (.goto (4), 3) := by decide +kernel
theorem d_Mo_pass_78 : decode b_Mo_pass 78 = .ok (.iconst (0), 1) := by decide +kernel
theorem d_Mo_pass_79 : decode b_Mo_pass 79 = .ok (.putfield 92, 3) := by decide +kernel
theorem d_Mo_pass_82 : decode b_Mo_pass 82 = .ok (.aload_n 0, 1) := by decide +kernel
theorem d_Mo_pass_83 : decode b_Mo_pass 83 = .ok (.getfield 92, 3) := by decide +kernel
theorem d_Mo_pass_86 : decode b_Mo_pass 86 = .ok (.ifCond .le (5), 3) := by decide +kernel
theorem d_Mo_pass_89 : decode b_Mo_pass 89 = .ok (.iconst (0), 1) := by decide +kernel
theorem d_Mo_pass_90 : decode b_Mo_pass 90 = .ok (.ireturn, 1) := by decide +kernel
theorem d_Mo_pass_91 : decode b_Mo_pass 91 = .ok (.iconst (0), 1) := by decide +kernel
theorem d_Mo_pass_92 : decode b_Mo_pass 92 = .ok (.istore 5, 2) := by decide +kernel
theorem d_Mo_pass_94 : decode b_Mo_pass 94 = .ok (.iload 5, 2) := by decide +kernel
theorem d_Mo_pass_96 : decode b_Mo_pass 96 = .ok (.iload 4, 2) := by decide +kernel
theorem d_Mo_pass_98 : decode b_Mo_pass 98 = .ok (.if_icmp .ge (37), 3) := by decide +kernel
theorem d_Mo_pass_101 : decode b_Mo_pass 101 = .ok (.aload_n 0, 1) := by decide +kernel
theorem d_Mo_pass_102 : decode b_Mo_pass 102 = .ok (.getfield 20, 3) := by decide +kernel
theorem d_Mo_pass_105 : decode b_Mo_pass 105 = .ok (.aload_n 0, 1) := by decide +kernel
theorem d_Mo_pass_106 : decode b_Mo_pass 106 = .ok (.getfield 104, 3) := by decide +kernel
theorem d_Mo_pass_109 : decode b_Mo_pass 109 = .ok (.aload_n 0, 1) := by decide +kernel
theorem d_Mo_pass_110 : decode b_Mo_pass 110 = .ok (.getfield 13, 3) := by decide +kernel
theorem d_Mo_pass_113 : decode b_Mo_pass 113 = .ok (.iload_n 1, 1) := by decide +kernel
theorem d_Mo_pass_114 : decode b_Mo_pass 114 = .ok (.iload 5, 2) := by decide +kernel
theorem d_Mo_pass_116 : decode b_Mo_pass 116 = .ok (.iadd, 1) := by decide +kernel
theorem d_Mo_pass_117 : decode b_Mo_pass 117 = .ok (.baload, 1) := by decide +kernel
theorem d_Mo_pass_118 : decode b_Mo_pass 118 = .ok (.bastore, 1) := by decide +kernel
theorem d_Mo_pass_119 : decode b_Mo_pass 119 = .ok (.aload_n 0, 1) := by decide +kernel
theorem d_Mo_pass_120 : decode b_Mo_pass 120 = .ok (.dup, 1) := by decide +kernel
theorem d_Mo_pass_121 : decode b_Mo_pass 121 = .ok (.getfield 104, 3) := by decide +kernel
theorem d_Mo_pass_124 : decode b_Mo_pass 124 = .ok (.iconst (1), 1) := by decide +kernel
theorem d_Mo_pass_125 : decode b_Mo_pass 125 = .ok (.iadd, 1) := by decide +kernel
theorem d_Mo_pass_126 : decode b_Mo_pass 126 = .ok (.putfield 104, 3) := by decide +kernel
theorem d_Mo_pass_129 : decode b_Mo_pass 129 = .ok (.iinc 5 (1), 3) := by decide +kernel
theorem d_Mo_pass_132 : decode b_Mo_pass 132 = .ok (.goto (-38), 3) := by decide +kernel
theorem d_Mo_pass_135 : decode b_Mo_pass 135 = .ok (.iload 4, 2) := by decide +kernel
theorem d_Mo_pass_137 : decode b_Mo_pass 137 = .ok (.ireturn, 1) := by decide +kernel
theorem d_Mo_nextCode_0 : decode b_Mo_nextCode 0 = .ok (.iconst (0), 1) := by decide +kernel
theorem d_Mo_nextCode_1 : decode b_Mo_nextCode 1 = .ok (.istore_n 1, 1) := by decide +kernel
theorem d_Mo_nextCode_2 : decode b_Mo_nextCode 2 = .ok (.iconst (0), 1) := by decide +kernel
theorem d_Mo_nextCode_3 : decode b_Mo_nextCode 3 = .ok (.istore_n 2, 1) := by decide +kernel
theorem d_Mo_nextCode_4 : decode b_Mo_nextCode 4 = .ok (.iload_n 2, 1) := by decide +kernel
theorem d_Mo_nextCode_5 : decode b_Mo_nextCode 5 = .ok (.aload_n 0, 1) := by decide +kernel
theorem d_Mo_nextCode_6 : decode b_Mo_nextCode 6 = .ok (.getfield 116, 3) := by decide +kernel
theorem d_Mo_nextCode_9 : decode b_Mo_nextCode 9 = .ok (.if_icmp .ge (46), 3) := by decide +kernel
theorem d_Mo_nextCode_12 : decode b_Mo_nextCode 12 = .ok (.iload_n 1, 1) := by decide +kernel
theorem d_Mo_nextCode_13 : decode b_Mo_nextCode 13 = .ok (.aload_n 0, 1) := by decide +kernel
theorem d_Mo_nextCode_14 : decode b_Mo_nextCode 14 = .ok (.getfield 20, 3) := by decide +kernel
theorem d_Mo_nextCode_17 : decode b_Mo_nextCode 17 = .ok (.aload_n 0, 1) := by decide +kernel
theorem d_Mo_nextCode_18 : decode b_Mo_nextCode 18 = .ok (.getfield 122, 3) := by decide +kernel
theorem d_Mo_nextCode_21 : decode b_Mo_nextCode 21 = .ok (.bipush (8), 2) := by decide +kernel
theorem d_Mo_nextCode_23 : decode b_Mo_nextCode 23 = .ok (.idiv, 1) := by decide +kernel
theorem d_Mo_nextCode_24 : decode b_Mo_nextCode 24 = .ok (.baload, 1) := by decide +kernel
theorem d_Mo_nextCode_25 : decode b_Mo_nextCode 25 = .ok (.aload_n 0, 1) := by decide +kernel
theorem d_Mo_nextCode_26 : decode b_Mo_nextCode 26 = .ok (.getfield 122, 3) := by decide +kernel
theorem d_Mo_nextCode_29 : decode b_Mo_nextCode 29 = .ok (.bipush (8), 2) := by decide +kernel
theorem d_Mo_nextCode_31 : decode b_Mo_nextCode 31 = .ok (.irem, 1) := by decide +kernel
theorem d_Mo_nextCode_32 : decode b_Mo_nextCode 32 = .ok (.ishr, 1) := by decide +kernel
theorem d_Mo_nextCode_33 : decode b_Mo_nextCode 33 = .ok (.iconst (1), 1) := by decide +kernel
theorem d_Mo_nextCode_34 : decode b_Mo_nextCode 34 = .ok (.iand, 1) := by decide +kernel
theorem d_Mo_nextCode_35 : decode b_Mo_nextCode 35 = .ok (.iload_n 2, 1) := by decide +kernel
theorem d_Mo_nextCode_36 : decode b_Mo_nextCode 36 = .ok (.ishl, 1) := by decide +kernel
theorem d_Mo_nextCode_37 : decode b_Mo_nextCode 37 = .ok (.ior, 1) := by decide +kernel
theorem d_Mo_nextCode_38 : decode b_Mo_nextCode 38 = .ok (.istore_n 1, 1) := by decide +kernel
theorem d_Mo_nextCode_39 : decode b_Mo_nextCode 39 = .ok (.aload_n 0, 1) := by decide +kernel
theorem d_Mo_nextCode_40 : decode b_Mo_nextCode 40 = .ok (.dup, 1) := by decide +kernel
theorem d_Mo_nextCode_41 : decode b_Mo_nextCode 41 = .ok (.getfield 122, 3) := by decide +kernel
theorem d_Mo_nextCode_44 : decode b_Mo_nextCode 44 = .ok (.iconst (1), 1) := by decide +kernel
theorem d_Mo_nextCode_45 : decode b_Mo_nextCode 45 = .ok (.iadd, 1) := by decide +kernel
theorem d_Mo_nextCode_46 : decode b_Mo_nextCode 46 = .ok (.putfield 122, 3) := by decide +kernel
theorem d_Mo_nextCode_49 : decode b_Mo_nextCode 49 = .ok (.iinc 2 (1), 3) := by decide +kernel
theorem d_Mo_nextCode_52 : decode b_Mo_nextCode 52 = .ok (.goto (-48), 3) := by decide +kernel
theorem d_Mo_nextCode_55 : decode b_Mo_nextCode 55 = .ok (.iload_n 1, 1) := by decide +kernel
theorem d_Mo_nextCode_56 : decode b_Mo_nextCode 56 = .ok (.ireturn, 1) := by decide +kernel
theorem d_Mo_firstOf_0 : decode b_Mo_firstOf 0 = .ok (.iload_n 1, 1) := by decide +kernel
theorem d_Mo_firstOf_1 : decode b_Mo_firstOf 1 = .ok (.istore_n 2, 1) := by decide +kernel
theorem d_Mo_firstOf_2 : decode b_Mo_firstOf 2 = .ok (.aload_n 0, 1) := by decide +kernel
theorem d_Mo_firstOf_3 : decode b_Mo_firstOf 3 = .ok (.getfield 26, 3) := by decide +kernel
theorem d_Mo_firstOf_6 : decode b_Mo_firstOf 6 = .ok (.iload_n 2, 1) := by decide +kernel
theorem d_Mo_firstOf_7 : decode b_Mo_firstOf 7 = .ok (.iaload, 1) := by decide +kernel
theorem d_Mo_firstOf_8 : decode b_Mo_firstOf 8 = .ok (.ifCond .lt (13), 3) := by decide +kernel
theorem d_Mo_firstOf_11 : decode b_Mo_firstOf 11 = .ok (.aload_n 0, 1) := by decide +kernel
theorem d_Mo_firstOf_12 : decode b_Mo_firstOf 12 = .ok (.getfield 26, 3) := by decide +kernel
theorem d_Mo_firstOf_15 : decode b_Mo_firstOf 15 = .ok (.iload_n 2, 1) := by decide +kernel
theorem d_Mo_firstOf_16 : decode b_Mo_firstOf 16 = .ok (.iaload, 1) := by decide +kernel
theorem d_Mo_firstOf_17 : decode b_Mo_firstOf 17 = .ok (.istore_n 2, 1) := by decide +kernel
theorem d_Mo_firstOf_18 : decode b_Mo_firstOf 18 = .ok (.goto (-16), 3) := by decide +kernel
theorem d_Mo_firstOf_21 : decode b_Mo_firstOf 21 = .ok (.aload_n 0, 1) := by decide +kernel
theorem d_Mo_firstOf_22 : decode b_Mo_firstOf 22 = .ok (.getfield 29, 3) := by decide +kernel
theorem d_Mo_firstOf_25 : decode b_Mo_firstOf 25 = .ok (.iload_n 2, 1) := by decide +kernel
theorem d_Mo_firstOf_26 : decode b_Mo_firstOf 26 = .ok (.iaload, 1) := by decide +kernel
theorem d_Mo_firstOf_27 : decode b_Mo_firstOf 27 = .ok (.ireturn, 1) := by decide +kernel
theorem d_Mo_spell_0 : decode b_Mo_spell 0 = .ok (.iload_n 1, 1) := by decide +kernel
theorem d_Mo_spell_1 : decode b_Mo_spell 1 = .ok (.istore_n 2, 1) := by decide +kernel
theorem d_Mo_spell_2 : decode b_Mo_spell 2 = .ok (.aload_n 0, 1) := by decide +kernel
theorem d_Mo_spell_3 : decode b_Mo_spell 3 = .ok (.getfield 107, 3) := by decide +kernel
theorem d_Mo_spell_6 : decode b_Mo_spell 6 = .ok (.aload_n 0, 1) := by decide +kernel
theorem d_Mo_spell_7 : decode b_Mo_spell 7 = .ok (.getfield 32, 3) := by decide +kernel
theorem d_Mo_spell_10 : decode b_Mo_spell 10 = .ok (.iload_n 1, 1) := by decide +kernel
theorem d_Mo_spell_11 : decode b_Mo_spell 11 = .ok (.iaload, 1) := by decide +kernel
theorem d_Mo_spell_12 : decode b_Mo_spell 12 = .ok (.iadd, 1) := by decide +kernel
theorem d_Mo_spell_13 : decode b_Mo_spell 13 = .ok (.iconst (1), 1) := by decide +kernel
theorem d_Mo_spell_14 : decode b_Mo_spell 14 = .ok (.isub, 1) := by decide +kernel
theorem d_Mo_spell_15 : decode b_Mo_spell 15 = .ok (.istore_n 3, 1) := by decide +kernel
theorem d_Mo_spell_16 : decode b_Mo_spell 16 = .ok (.iload_n 3, 1) := by decide +kernel
theorem d_Mo_spell_17 : decode b_Mo_spell 17 = .ok (.aload_n 0, 1) := by decide +kernel
theorem d_Mo_spell_18 : decode b_Mo_spell 18 = .ok (.getfield 107, 3) := by decide +kernel
theorem d_Mo_spell_21 : decode b_Mo_spell 21 = .ok (.if_icmp .lt (28), 3) := by decide +kernel
theorem d_Mo_spell_24 : decode b_Mo_spell 24 = .ok (.aload_n 0, 1) := by decide +kernel
theorem d_Mo_spell_25 : decode b_Mo_spell 25 = .ok (.getfield 23, 3) := by decide +kernel
theorem d_Mo_spell_28 : decode b_Mo_spell 28 = .ok (.iload_n 3, 1) := by decide +kernel
theorem d_Mo_spell_29 : decode b_Mo_spell 29 = .ok (.aload_n 0, 1) := by decide +kernel
theorem d_Mo_spell_30 : decode b_Mo_spell 30 = .ok (.getfield 29, 3) := by decide +kernel
theorem d_Mo_spell_33 : decode b_Mo_spell 33 = .ok (.iload_n 2, 1) := by decide +kernel
theorem d_Mo_spell_34 : decode b_Mo_spell 34 = .ok (.iaload, 1) := by decide +kernel
theorem d_Mo_spell_35 : decode b_Mo_spell 35 = .ok (.iastore, 1) := by decide +kernel
theorem d_Mo_spell_36 : decode b_Mo_spell 36 = .ok (.aload_n 0, 1) := by decide +kernel
theorem d_Mo_spell_37 : decode b_Mo_spell 37 = .ok (.getfield 26, 3) := by decide +kernel
theorem d_Mo_spell_40 : decode b_Mo_spell 40 = .ok (.iload_n 2, 1) := by decide +kernel
theorem d_Mo_spell_41 : decode b_Mo_spell 41 = .ok (.iaload, 1) := by decide +kernel
theorem d_Mo_spell_42 : decode b_Mo_spell 42 = .ok (.istore_n 2, 1) := by decide +kernel
theorem d_Mo_spell_43 : decode b_Mo_spell 43 = .ok (.iinc 3 (-1), 3) := by decide +kernel
theorem d_Mo_spell_46 : decode b_Mo_spell 46 = .ok (.goto (-30), 3) := by decide +kernel
theorem d_Mo_spell_49 : decode b_Mo_spell 49 = .ok (.aload_n 0, 1) := by decide +kernel
theorem d_Mo_spell_50 : decode b_Mo_spell 50 = .ok (.dup, 1) := by decide +kernel
theorem d_Mo_spell_51 : decode b_Mo_spell 51 = .ok (.getfield 107, 3) := by decide +kernel
theorem d_Mo_spell_54 : decode b_Mo_spell 54 = .ok (.aload_n 0, 1) := by decide +kernel
theorem d_Mo_spell_55 : decode b_Mo_spell 55 = .ok (.getfield 32, 3) := by decide +kernel
theorem d_Mo_spell_58 : decode b_Mo_spell 58 = .ok (.iload_n 1, 1) := by decide +kernel
theorem d_Mo_spell_59 : decode b_Mo_spell 59 = .ok (.iaload, 1) := by decide +kernel
theorem d_Mo_spell_60 : decode b_Mo_spell 60 = .ok (.iadd, 1) := by decide +kernel
theorem d_Mo_spell_61 : decode b_Mo_spell 61 = .ok (.putfield 107, 3) := by decide +kernel
theorem d_Mo_spell_64 : decode b_Mo_spell 64 = .ok (.return_, 1) := by decide +kernel
theorem d_Mo_decode_0 : decode b_Mo_decode 0 = .ok (.aload_n 0, 1) := by decide +kernel
theorem d_Mo_decode_1 : decode b_Mo_decode 1 = .ok (.iconst (0), 1) := by decide +kernel
theorem d_Mo_decode_2 : decode b_Mo_decode 2 = .ok (.putfield 92, 3) := by decide +kernel
theorem d_Mo_decode_5 : decode b_Mo_decode 5 = .ok (.aload_n 0, 1) := by decide +kernel
theorem d_Mo_decode_6 : decode b_Mo_decode 6 = .ok (.iconst (0), 1) := by decide +kernel
theorem d_Mo_decode_7 : decode b_Mo_decode 7 = .ok (.putfield 122, 3) := by decide +kernel
theorem d_Mo_decode_10 : decode b_Mo_decode 10 = .ok (.aload_n 0, 1) := by decide +kernel
theorem d_Mo_decode_11 : decode b_Mo_decode 11 = .ok (.iconst (0), 1) := by decide +kernel
theorem d_Mo_decode_12 : decode b_Mo_decode 12 = .ok (.putfield 107, 3) := by decide +kernel
theorem d_Mo_decode_15 : decode b_Mo_decode 15 = .ok (.aload_n 0, 1) := by decide +kernel
theorem d_Mo_decode_16 : decode b_Mo_decode 16 = .ok (.invokevirtual 129, 3) := by decide +kernel
theorem d_Mo_decode_19 : decode b_Mo_decode 19 = .ok (.iconst (-1), 1) := by decide +kernel
theorem d_Mo_decode_20 : decode b_Mo_decode 20 = .ok (.istore_n 1, 1) := by decide +kernel
theorem d_Mo_decode_21 : decode b_Mo_decode 21 = .ok (.iconst (-1), 1) := by decide +kernel
theorem d_Mo_decode_22 : decode b_Mo_decode 22 = .ok (.istore_n 2, 1) := by decide +kernel
theorem d_Mo_decode_23 : decode b_Mo_decode 23 = .ok (.iconst (1), 1) := by decide +kernel
theorem d_Mo_decode_24 : decode b_Mo_decode 24 = .ok (.istore_n 3, 1) := by decide +kernel
theorem d_Mo_decode_25 : decode b_Mo_decode 25 = .ok (.iload_n 3, 1) := by decide +kernel
theorem d_Mo_decode_26 : decode b_Mo_decode 26 = .ok (.ifCond .eq (190), 3) := by decide +kernel
theorem d_Mo_decode_29 : decode b_Mo_decode 29 = .ok (.aload_n 0, 1) := by decide +kernel
theorem d_Mo_decode_30 : decode b_Mo_decode 30 = .ok (.getfield 122, 3) := by decide +kernel
theorem d_Mo_decode_33 : decode b_Mo_decode 33 = .ok (.aload_n 0, 1) := by decide +kernel
theorem d_Mo_decode_34 : decode b_Mo_decode 34 = .ok (.getfield 116, 3) := by decide +kernel
theorem d_Mo_decode_37 : decode b_Mo_decode 37 = .ok (.iadd, 1) := by decide +kernel
theorem d_Mo_decode_38 : decode b_Mo_decode 38 = .ok (.bipush (8), 2) := by decide +kernel
theorem d_Mo_decode_40 : decode b_Mo_decode 40 = .ok (.aload_n 0, 1) := by decide +kernel
theorem d_Mo_decode_41 : decode b_Mo_decode 41 = .ok (.getfield 104, 3) := by decide +kernel
theorem d_Mo_decode_44 : decode b_Mo_decode 44 = .ok (.imul, 1) := by decide +kernel
theorem d_Mo_decode_45 : decode b_Mo_decode 45 = .ok (.if_icmp .gt (171), 3) := by decide +kernel
theorem d_Mo_decode_48 : decode b_Mo_decode 48 = .ok (.aload_n 0, 1) := by decide +kernel
theorem d_Mo_decode_49 : decode b_Mo_decode 49 = .ok (.invokevirtual 146, 3) := by decide +kernel
theorem d_Mo_decode_52 : decode b_Mo_decode 52 = .ok (.istore 4, 2) := by decide +kernel
theorem d_Mo_decode_54 : decode b_Mo_decode 54 = .ok (.iload 4, 2) := by decide +kernel
theorem d_Mo_decode_56 : decode b_Mo_decode 56 = .ok (.aload_n 0, 1) := by decide +kernel
theorem d_Mo_decode_57 : decode b_Mo_decode 57 = .ok (.getfield 84, 3) := by decide +kernel
theorem d_Mo_decode_60 : decode b_Mo_decode 60 = .ok (.if_icmp .ne (12), 3) := by decide +kernel
theorem d_Mo_decode_63 : decode b_Mo_decode 63 = .ok (.aload_n 0, 1) := by decide +kernel
theorem d_Mo_decode_64 : decode b_Mo_decode 64 = .ok (.invokevirtual 129, 3) := by decide +kernel
theorem d_Mo_decode_67 : decode b_Mo_decode 67 = .ok (.iconst (-1), 1) := by decide +kernel
theorem d_Mo_decode_68 : decode b_Mo_decode 68 = .ok (.istore_n 1, 1) := by decide +kernel
theorem d_Mo_decode_69 : decode b_Mo_decode 69 = .ok (.goto (144), 3) := by decide +kernel
theorem d_Mo_decode_72 : decode b_Mo_decode 72 = .ok (.iload 4, 2) := by decide +kernel
theorem d_Mo_decode_74 : decode b_Mo_decode 74 = .ok (.aload_n 0, 1) := by decide +kernel
theorem d_Mo_decode_75 : decode b_Mo_decode 75 = .ok (.getfield 87, 3) := by decide +kernel
theorem d_Mo_decode_78 : decode b_Mo_decode 78 = .ok (.if_icmp .ne (8), 3) := by decide +kernel
theorem d_Mo_decode_81 : decode b_Mo_decode 81 = .ok (.iconst (0), 1) := by decide +kernel
theorem d_Mo_decode_82 : decode b_Mo_decode 82 = .ok (.istore_n 3, 1) := by decide +kernel
theorem d_Mo_decode_83 : decode b_Mo_decode 83 = .ok (.goto (130), 3) := by decide +kernel
theorem d_Mo_decode_86 : decode b_Mo_decode 86 = .ok (.iload 4, 2) := by decide +kernel
theorem d_Mo_decode_88 : decode b_Mo_decode 88 = .ok (.aload_n 0, 1) := by decide +kernel
theorem d_Mo_decode_89 : decode b_Mo_decode 89 = .ok (.getfield 113, 3) := by decide +kernel
theorem d_Mo_decode_92 : decode b_Mo_decode 92 = .ok (.if_icmp .ne (11), 3) := by decide +kernel
theorem d_Mo_decode_95 : decode b_Mo_decode 95 = .ok (.iload_n 1, 1) := by decide +kernel
theorem d_Mo_decode_96 : decode b_Mo_decode 96 = .ok (.ifCond .lt (7), 3) := by decide +kernel
theorem d_Mo_decode_99 : decode b_Mo_decode 99 = .ok (.iconst (1), 1) := by decide +kernel
theorem d_Mo_decode_100 : decode b_Mo_decode 100 = .ok (.goto (4), 3) := by decide +kernel
theorem d_Mo_decode_103 : decode b_Mo_decode 103 = .ok (.iconst (0), 1) := by decide +kernel
theorem d_Mo_decode_104 : decode b_Mo_decode 104 = .ok (.istore 5, 2) := by decide +kernel
theorem d_Mo_decode_106 : decode b_Mo_decode 106 = .ok (.iload 4, 2) := by decide +kernel
theorem d_Mo_decode_108 : decode b_Mo_decode 108 = .ok (.aload_n 0, 1) := by decide +kernel
theorem d_Mo_decode_109 : decode b_Mo_decode 109 = .ok (.getfield 113, 3) := by decide +kernel
theorem d_Mo_decode_112 : decode b_Mo_decode 112 = .ok (.if_icmp .lt (16), 3) := by decide +kernel
theorem d_Mo_decode_115 : decode b_Mo_decode 115 = .ok (.iload 5, 2) := by decide +kernel
theorem d_Mo_decode_117 : decode b_Mo_decode 117 = .ok (.ifCond .ne (11), 3) := by decide +kernel
theorem d_Mo_decode_120 : decode b_Mo_decode 120 = .ok (.iload 4, 2) := by decide +kernel
theorem d_Mo_decode_122 : decode b_Mo_decode 122 = .ok (.istore_n 2, 1) := by decide +kernel
theorem d_Mo_decode_123 : decode b_Mo_decode 123 = .ok (.iconst (0), 1) := by decide +kernel
theorem d_Mo_decode_124 : decode b_Mo_decode 124 = .ok (.istore_n 3, 1) := by decide +kernel
theorem d_Mo_decode_125 : decode b_Mo_decode 125 = .ok (.goto (88), 3) := by decide +kernel
theorem d_Mo_decode_128 : decode b_Mo_decode 128 = .ok (.iload 5, 2) := by decide +kernel
theorem d_Mo_decode_130 : decode b_Mo_decode 130 = .ok (.ifCond .eq (14), 3) := by decide +kernel
theorem d_Mo_decode_133 : decode b_Mo_decode 133 = .ok (.aload_n 0, 1) := by decide +kernel
theorem d_Mo_decode_134 : decode b_Mo_decode 134 = .ok (.getfield 32, 3) := by decide +kernel
theorem d_Mo_decode_137 : decode b_Mo_decode 137 = .ok (.iload_n 1, 1) := by decide +kernel
theorem d_Mo_decode_138 : decode b_Mo_decode 138 = .ok (.iaload, 1) := by decide +kernel
theorem d_Mo_decode_139 : decode b_Mo_decode 139 = .ok (.iconst (1), 1) := by decide +kernel
theorem d_Mo_decode_140 : decode b_Mo_decode 140 = .ok (.iadd, 1) := by decide +kernel
theorem d_Mo_decode_141 : decode b_Mo_decode 141 = .ok (.goto (10), 3) := by decide +kernel
theorem d_Mo_decode_144 : decode b_Mo_decode 144 = .ok (.aload_n 0, 1) := by decide +kernel
theorem d_Mo_decode_145 : decode b_Mo_decode 145 = .ok (.getfield 32, 3) := by decide +kernel
theorem d_Mo_decode_148 : decode b_Mo_decode 148 = .ok (.iload 4, 2) := by decide +kernel
theorem d_Mo_decode_150 : decode b_Mo_decode 150 = .ok (.iaload, 1) := by decide +kernel
theorem d_Mo_decode_151 : decode b_Mo_decode 151 = .ok (.istore 6, 2) := by decide +kernel
theorem d_Mo_decode_153 : decode b_Mo_decode 153 = .ok (.aload_n 0, 1) := by decide +kernel
theorem d_Mo_decode_154 : decode b_Mo_decode 154 = .ok (.getfield 107, 3) := by decide +kernel
theorem d_Mo_decode_157 : decode b_Mo_decode 157 = .ok (.iload 6, 2) := by decide +kernel
theorem d_Mo_decode_159 : decode b_Mo_decode 159 = .ok (.iadd, 1) := by decide +kernel
theorem d_Mo_decode_160 : decode b_Mo_decode 160 = .ok (.sipush (12000), 3) := by decide +kernel
theorem d_Mo_decode_163 : decode b_Mo_decode 163 = .ok (.if_icmp .gt (7), 3) := by decide +kernel
theorem d_Mo_decode_166 : decode b_Mo_decode 166 = .ok (.iconst (1), 1) := by decide +kernel
theorem d_Mo_decode_167 : decode b_Mo_decode 167 = .ok (.goto (4), 3) := by decide +kernel
theorem d_Mo_decode_170 : decode b_Mo_decode 170 = .ok (.iconst (0), 1) := by decide +kernel
theorem d_Mo_decode_171 : decode b_Mo_decode 171 = .ok (.istore_n 3, 1) := by decide +kernel
theorem d_Mo_decode_172 : decode b_Mo_decode 172 = .ok (.iload_n 3, 1) := by decide +kernel
theorem d_Mo_decode_173 : decode b_Mo_decode 173 = .ok (.ifCond .eq (40), 3) := by decide +kernel
theorem d_Mo_decode_176 : decode b_Mo_decode 176 = .ok (.iload_n 1, 1) := by decide +kernel
theorem d_Mo_decode_177 : decode b_Mo_decode 177 = .ok (.ifCond .lt (23), 3) := by decide +kernel
theorem d_Mo_decode_180 : decode b_Mo_decode 180 = .ok (.aload_n 0, 1) := by decide +kernel
theorem d_Mo_decode_181 : decode b_Mo_decode 181 = .ok (.iload_n 1, 1) := by decide +kernel
theorem d_Mo_decode_182 : decode b_Mo_decode 182 = .ok (.aload_n 0, 1) := by decide +kernel
theorem d_Mo_decode_183 : decode b_Mo_decode 183 = .ok (.iload 5, 2) := by decide +kernel
theorem d_Mo_decode_185 : decode b_Mo_decode 185 = .ok (.ifCond .eq (7), 3) := by decide +kernel
theorem d_Mo_decode_188 : decode b_Mo_decode 188 = .ok (.iload_n 1, 1) := by decide +kernel
theorem d_Mo_decode_189 : decode b_Mo_decode 189 = .ok (.goto (5), 3) := by decide +kernel
theorem d_Mo_decode_192 : decode b_Mo_decode 192 = .ok (.iload 4, 2) := by decide +kernel
theorem d_Mo_decode_194 : decode b_Mo_decode 194 = .ok (.invokevirtual 150, 3) := by decide +kernel
theorem d_Mo_decode_197 : decode b_Mo_decode 197 = .ok (.invokevirtual 142, 3) := by decide +kernel
theorem d_Mo_decode_200 : decode b_Mo_decode 200 = .ok (.aload_n 0, 1) := by decide +kernel
theorem d_Mo_decode_201 : decode b_Mo_decode 201 = .ok (.iload 4, 2) := by decide +kernel
theorem d_Mo_decode_203 : decode b_Mo_decode 203 = .ok (.invokevirtual 154, 3) := by decide +kernel
theorem d_Mo_decode_206 : decode b_Mo_decode 206 = .ok (.aload_n 0, 1) := by decide +kernel
theorem d_Mo_decode_207 : decode b_Mo_decode 207 = .ok (.invokevirtual 139, 3) := by decide +kernel
theorem d_Mo_decode_210 : decode b_Mo_decode 210 = .ok (.iload 4, 2) := by decide +kernel
theorem d_Mo_decode_212 : decode b_Mo_decode 212 = .ok (.istore_n 1, 1) := by decide +kernel
theorem d_Mo_decode_213 : decode b_Mo_decode 213 = .ok (.goto (-188), 3) := by decide +kernel
theorem d_Mo_decode_216 : decode b_Mo_decode 216 = .ok (.aload_n 0, 1) := by decide +kernel
theorem d_Mo_decode_217 : decode b_Mo_decode 217 = .ok (.iconst (0), 1) := by decide +kernel
theorem d_Mo_decode_218 : decode b_Mo_decode 218 = .ok (.putfield 104, 3) := by decide +kernel
theorem d_Mo_decode_221 : decode b_Mo_decode 221 = .ok (.iload_n 2, 1) := by decide +kernel
theorem d_Mo_decode_222 : decode b_Mo_decode 222 = .ok (.ifCond .lt (9), 3) := by decide +kernel
theorem d_Mo_decode_225 : decode b_Mo_decode 225 = .ok (.iconst (-1), 1) := by decide +kernel
theorem d_Mo_decode_226 : decode b_Mo_decode 226 = .ok (.iload_n 2, 1) := by decide +kernel
theorem d_Mo_decode_227 : decode b_Mo_decode 227 = .ok (.isub, 1) := by decide +kernel
theorem d_Mo_decode_228 : decode b_Mo_decode 228 = .ok (.goto (7), 3) := by decide +kernel
theorem d_Mo_decode_231 : decode b_Mo_decode 231 = .ok (.aload_n 0, 1) := by decide +kernel
theorem d_Mo_decode_232 : decode b_Mo_decode 232 = .ok (.getfield 107, 3) := by decide +kernel
theorem d_Mo_decode_235 : decode b_Mo_decode 235 = .ok (.ireturn, 1) := by decide +kernel
theorem d_Mo_at_0 : decode b_Mo_at 0 = .ok (.aload_n 0, 1) := by decide +kernel
theorem d_Mo_at_1 : decode b_Mo_at 1 = .ok (.iload_n 1, 1) := by decide +kernel
theorem d_Mo_at_2 : decode b_Mo_at 2 = .ok (.ifCond .lt (11), 3) := by decide +kernel
theorem d_Mo_at_5 : decode b_Mo_at 5 = .ok (.iload_n 1, 1) := by decide +kernel
theorem d_Mo_at_6 : decode b_Mo_at 6 = .ok (.aload_n 0, 1) := by decide +kernel
theorem d_Mo_at_7 : decode b_Mo_at 7 = .ok (.getfield 107, 3) := by decide +kernel
theorem d_Mo_at_10 : decode b_Mo_at 10 = .ok (.if_icmp .lt (7), 3) := by decide +kernel
theorem d_Mo_at_13 : decode b_Mo_at 13 = .ok (.iconst (1), 1) := by decide +kernel
theorem d_Mo_at_14 : decode b_Mo_at 14 = .ok (.goto (4), 3) := by decide +kernel
theorem d_Mo_at_17 : decode b_Mo_at 17 = .ok (.iconst (0), 1) := by decide +kernel
theorem d_Mo_at_18 : decode b_Mo_at 18 = .ok (.putfield 92, 3) := by decide +kernel
theorem d_Mo_at_21 : decode b_Mo_at 21 = .ok (.aload_n 0, 1) := by decide +kernel
theorem d_Mo_at_22 : decode b_Mo_at 22 = .ok (.getfield 92, 3) := by decide +kernel
theorem d_Mo_at_25 : decode b_Mo_at 25 = .ok (.ifCond .le (7), 3) := by decide +kernel
theorem d_Mo_at_28 : decode b_Mo_at 28 = .ok (.iconst (0), 1) := by decide +kernel
theorem d_Mo_at_29 : decode b_Mo_at 29 = .ok (.goto (9), 3) := by decide +kernel
theorem d_Mo_at_32 : decode b_Mo_at 32 = .ok (.aload_n 0, 1) := by decide +kernel
theorem d_Mo_at_33 : decode b_Mo_at 33 = .ok (.getfield 23, 3) := by decide +kernel
theorem d_Mo_at_36 : decode b_Mo_at 36 = .ok (.iload_n 1, 1) := by decide +kernel
theorem d_Mo_at_37 : decode b_Mo_at 37 = .ok (.iaload, 1) := by decide +kernel
theorem d_Mo_at_38 : decode b_Mo_at 38 = .ok (.ireturn, 1) := by decide +kernel
theorem d_Mo_take_0 : decode b_Mo_take 0 = .ok (.aload_n 0, 1) := by decide +kernel
theorem d_Mo_take_1 : decode b_Mo_take 1 = .ok (.iconst (0), 1) := by decide +kernel
theorem d_Mo_take_2 : decode b_Mo_take 2 = .ok (.putfield 92, 3) := by decide +kernel
theorem d_Mo_take_5 : decode b_Mo_take 5 = .ok (.aload_n 0, 1) := by decide +kernel
theorem d_Mo_take_6 : decode b_Mo_take 6 = .ok (.aload_n 0, 1) := by decide +kernel
theorem d_Mo_take_7 : decode b_Mo_take 7 = .ok (.getfield 107, 3) := by decide +kernel
theorem d_Mo_take_10 : decode b_Mo_take 10 = .ok (.putfield 98, 3) := by decide +kernel
theorem d_Mo_take_13 : decode b_Mo_take 13 = .ok (.iconst (0), 1) := by decide +kernel
theorem d_Mo_take_14 : decode b_Mo_take 14 = .ok (.istore_n 1, 1) := by decide +kernel
theorem d_Mo_take_15 : decode b_Mo_take 15 = .ok (.iload_n 1, 1) := by decide +kernel
theorem d_Mo_take_16 : decode b_Mo_take 16 = .ok (.aload_n 0, 1) := by decide +kernel
theorem d_Mo_take_17 : decode b_Mo_take 17 = .ok (.getfield 107, 3) := by decide +kernel
theorem d_Mo_take_20 : decode b_Mo_take 20 = .ok (.if_icmp .ge (21), 3) := by decide +kernel
theorem d_Mo_take_23 : decode b_Mo_take 23 = .ok (.aload_n 0, 1) := by decide +kernel
theorem d_Mo_take_24 : decode b_Mo_take 24 = .ok (.getfield 7, 3) := by decide +kernel
theorem d_Mo_take_27 : decode b_Mo_take 27 = .ok (.iload_n 1, 1) := by decide +kernel
theorem d_Mo_take_28 : decode b_Mo_take 28 = .ok (.aload_n 0, 1) := by decide +kernel
theorem d_Mo_take_29 : decode b_Mo_take 29 = .ok (.getfield 23, 3) := by decide +kernel
theorem d_Mo_take_32 : decode b_Mo_take 32 = .ok (.iload_n 1, 1) := by decide +kernel
theorem d_Mo_take_33 : decode b_Mo_take 33 = .ok (.iaload, 1) := by decide +kernel
theorem d_Mo_take_34 : decode b_Mo_take 34 = .ok (.iastore, 1) := by decide +kernel
theorem d_Mo_take_35 : decode b_Mo_take 35 = .ok (.iinc 1 (1), 3) := by decide +kernel
theorem d_Mo_take_38 : decode b_Mo_take 38 = .ok (.goto (-23), 3) := by decide +kernel
theorem d_Mo_take_41 : decode b_Mo_take 41 = .ok (.aload_n 0, 1) := by decide +kernel
theorem d_Mo_take_42 : decode b_Mo_take 42 = .ok (.getfield 98, 3) := by decide +kernel
theorem d_Mo_take_45 : decode b_Mo_take 45 = .ok (.ireturn, 1) := by decide +kernel
theorem d_Mo_passNumber_0 : decode b_Mo_passNumber 0 = .ok (.iload_n 0, 1) := by decide +kernel
theorem d_Mo_passNumber_1 : decode b_Mo_passNumber 1 = .ok (.bipush (8), 2) := by decide +kernel
theorem d_Mo_passNumber_3 : decode b_Mo_passNumber 3 = .ok (.irem, 1) := by decide +kernel
theorem d_Mo_passNumber_4 : decode b_Mo_passNumber 4 = .ok (.ifCond .ne (7), 3) := by decide +kernel
theorem d_Mo_passNumber_7 : decode b_Mo_passNumber 7 = .ok (.iconst (0), 1) := by decide +kernel
theorem d_Mo_passNumber_8 : decode b_Mo_passNumber 8 = .ok (.goto (27), 3) := by decide +kernel
theorem d_Mo_passNumber_11 : decode b_Mo_passNumber 11 = .ok (.iload_n 0, 1) := by decide +kernel
theorem d_Mo_passNumber_12 : decode b_Mo_passNumber 12 = .ok (.bipush (8), 2) := by decide +kernel
theorem d_Mo_passNumber_14 : decode b_Mo_passNumber 14 = .ok (.irem, 1) := by decide +kernel
theorem d_Mo_passNumber_15 : decode b_Mo_passNumber 15 = .ok (.iconst (4), 1) := by decide +kernel
theorem d_Mo_passNumber_16 : decode b_Mo_passNumber 16 = .ok (.if_icmp .ne (7), 3) := by decide +kernel
theorem d_Mo_passNumber_19 : decode b_Mo_passNumber 19 = .ok (.iconst (1), 1) := by decide +kernel
theorem d_Mo_passNumber_20 : decode b_Mo_passNumber 20 = .ok (.goto (15), 3) := by decide +kernel
theorem d_Mo_passNumber_23 : decode b_Mo_passNumber 23 = .ok (.iload_n 0, 1) := by decide +kernel
theorem d_Mo_passNumber_24 : decode b_Mo_passNumber 24 = .ok (.iconst (4), 1) := by decide +kernel
theorem d_Mo_passNumber_25 : decode b_Mo_passNumber 25 = .ok (.irem, 1) := by decide +kernel
theorem d_Mo_passNumber_26 : decode b_Mo_passNumber 26 = .ok (.iconst (2), 1) := by decide +kernel
theorem d_Mo_passNumber_27 : decode b_Mo_passNumber 27 = .ok (.if_icmp .ne (7), 3) := by decide +kernel
theorem d_Mo_passNumber_30 : decode b_Mo_passNumber 30 = .ok (.iconst (2), 1) := by decide +kernel
theorem d_Mo_passNumber_31 : decode b_Mo_passNumber 31 = .ok (.goto (4), 3) := by decide +kernel
theorem d_Mo_passNumber_34 : decode b_Mo_passNumber 34 = .ok (.iconst (3), 1) := by decide +kernel
theorem d_Mo_passNumber_35 : decode b_Mo_passNumber 35 = .ok (.ireturn, 1) := by decide +kernel
theorem d_Mo_frame_0 : decode b_Mo_frame 0 = .ok (.iload_n 3, 1) := by decide +kernel
theorem d_Mo_frame_1 : decode b_Mo_frame 1 = .ok (.iconst (1), 1) := by decide +kernel
theorem d_Mo_frame_2 : decode b_Mo_frame 2 = .ok (.if_icmp .lt (51), 3) := by decide +kernel
theorem d_Mo_frame_5 : decode b_Mo_frame 5 = .ok (.iload_n 3, 1) := by decide +kernel
theorem d_Mo_frame_6 : decode b_Mo_frame 6 = .ok (.bipush (24), 2) := by decide +kernel
theorem d_Mo_frame_8 : decode b_Mo_frame 8 = .ok (.if_icmp .gt (45), 3) := by decide +kernel
theorem d_Mo_frame_11 : decode b_Mo_frame 11 = .ok (.iload 4, 2) := by decide +kernel
theorem d_Mo_frame_13 : decode b_Mo_frame 13 = .ok (.iconst (1), 1) := by decide +kernel
theorem d_Mo_frame_14 : decode b_Mo_frame 14 = .ok (.if_icmp .lt (39), 3) := by decide +kernel
theorem d_Mo_frame_17 : decode b_Mo_frame 17 = .ok (.iload 4, 2) := by decide +kernel
theorem d_Mo_frame_19 : decode b_Mo_frame 19 = .ok (.bipush (24), 2) := by decide +kernel
theorem d_Mo_frame_21 : decode b_Mo_frame 21 = .ok (.if_icmp .gt (32), 3) := by decide +kernel
theorem d_Mo_frame_24 : decode b_Mo_frame 24 = .ok (.iload_n 1, 1) := by decide +kernel
theorem d_Mo_frame_25 : decode b_Mo_frame 25 = .ok (.ifCond .lt (28), 3) := by decide +kernel
theorem d_Mo_frame_28 : decode b_Mo_frame 28 = .ok (.iload_n 1, 1) := by decide +kernel
theorem d_Mo_frame_29 : decode b_Mo_frame 29 = .ok (.bipush (24), 2) := by decide +kernel
theorem d_Mo_frame_31 : decode b_Mo_frame 31 = .ok (.iload_n 3, 1) := by decide +kernel
theorem d_Mo_frame_32 : decode b_Mo_frame 32 = .ok (.isub, 1) := by decide +kernel
theorem d_Mo_frame_33 : decode b_Mo_frame 33 = .ok (.if_icmp .gt (20), 3) := by decide +kernel
theorem d_Mo_frame_36 : decode b_Mo_frame 36 = .ok (.iload_n 2, 1) := by decide +kernel
theorem d_Mo_frame_37 : decode b_Mo_frame 37 = .ok (.ifCond .lt (16), 3) := by decide +kernel
theorem d_Mo_frame_40 : decode b_Mo_frame 40 = .ok (.iload_n 2, 1) := by decide +kernel
theorem d_Mo_frame_41 : decode b_Mo_frame 41 = .ok (.bipush (24), 2) := by decide +kernel
theorem d_Mo_frame_43 : decode b_Mo_frame 43 = .ok (.iload 4, 2) := by decide +kernel
theorem d_Mo_frame_45 : decode b_Mo_frame 45 = .ok (.isub, 1) := by decide +kernel
theorem d_Mo_frame_46 : decode b_Mo_frame 46 = .ok (.if_icmp .gt (7), 3) := by decide +kernel
theorem d_Mo_frame_49 : decode b_Mo_frame 49 = .ok (.iconst (1), 1) := by decide +kernel
theorem d_Mo_frame_50 : decode b_Mo_frame 50 = .ok (.goto (4), 3) := by decide +kernel
theorem d_Mo_frame_53 : decode b_Mo_frame 53 = .ok (.iconst (0), 1) := by decide +kernel
theorem d_Mo_frame_54 : decode b_Mo_frame 54 = .ok (.istore 8, 2) := by decide +kernel
theorem d_Mo_frame_56 : decode b_Mo_frame 56 = .ok (.iload 8, 2) := by decide +kernel
theorem d_Mo_frame_58 : decode b_Mo_frame 58 = .ok (.ifCond .eq (31), 3) := by decide +kernel
theorem d_Mo_frame_61 : decode b_Mo_frame 61 = .ok (.iload 6, 2) := by decide +kernel
theorem d_Mo_frame_63 : decode b_Mo_frame 63 = .ok (.ifCond .lt (26), 3) := by decide +kernel
theorem d_Mo_frame_66 : decode b_Mo_frame 66 = .ok (.iload 6, 2) := by decide +kernel
theorem d_Mo_frame_68 : decode b_Mo_frame 68 = .ok (.iconst (3), 1) := by decide +kernel
theorem d_Mo_frame_69 : decode b_Mo_frame 69 = .ok (.if_icmp .gt (20), 3) := by decide +kernel
theorem d_Mo_frame_72 : decode b_Mo_frame 72 = .ok (.iload 7, 2) := by decide +kernel
theorem d_Mo_frame_74 : decode b_Mo_frame 74 = .ok (.ifCond .lt (15), 3) := by decide +kernel
theorem d_Mo_frame_77 : decode b_Mo_frame 77 = .ok (.iload 7, 2) := by decide +kernel
theorem d_Mo_frame_79 : decode b_Mo_frame 79 = .ok (.sipush (1000), 3) := by decide +kernel
theorem d_Mo_frame_82 : decode b_Mo_frame 82 = .ok (.if_icmp .gt (7), 3) := by decide +kernel
theorem d_Mo_frame_85 : decode b_Mo_frame 85 = .ok (.iconst (1), 1) := by decide +kernel
theorem d_Mo_frame_86 : decode b_Mo_frame 86 = .ok (.goto (4), 3) := by decide +kernel
theorem d_Mo_frame_89 : decode b_Mo_frame 89 = .ok (.iconst (0), 1) := by decide +kernel
theorem d_Mo_frame_90 : decode b_Mo_frame 90 = .ok (.istore 8, 2) := by decide +kernel
theorem d_Mo_frame_92 : decode b_Mo_frame 92 = .ok (.aload_n 0, 1) := by decide +kernel
theorem d_Mo_frame_93 : decode b_Mo_frame 93 = .ok (.iload 8, 2) := by decide +kernel
theorem d_Mo_frame_95 : decode b_Mo_frame 95 = .ok (.ifCond .ne (7), 3) := by decide +kernel
theorem d_Mo_frame_98 : decode b_Mo_frame 98 = .ok (.iconst (1), 1) := by decide +kernel
theorem d_Mo_frame_99 : decode b_Mo_frame 99 = .ok (.goto (32), 3) := by decide +kernel
theorem d_Mo_frame_102 : decode b_Mo_frame 102 = .ok (.aload_n 0, 1) := by decide +kernel
theorem d_Mo_frame_103 : decode b_Mo_frame 103 = .ok (.getfield 98, 3) := by decide +kernel
theorem d_Mo_frame_106 : decode b_Mo_frame 106 = .ok (.iload_n 3, 1) := by decide +kernel
theorem d_Mo_frame_107 : decode b_Mo_frame 107 = .ok (.iload 4, 2) := by decide +kernel
theorem d_Mo_frame_109 : decode b_Mo_frame 109 = .ok (.imul, 1) := by decide +kernel
theorem d_Mo_frame_110 : decode b_Mo_frame 110 = .ok (.if_icmp .ge (7), 3) := by decide +kernel
theorem d_Mo_frame_113 : decode b_Mo_frame 113 = .ok (.iconst (2), 1) := by decide +kernel
theorem d_Mo_frame_114 : decode b_Mo_frame 114 = .ok (.goto (17), 3) := by decide +kernel
theorem d_Mo_frame_117 : decode b_Mo_frame 117 = .ok (.aload_n 0, 1) := by decide +kernel
theorem d_Mo_frame_118 : decode b_Mo_frame 118 = .ok (.getfield 110, 3) := by decide +kernel
theorem d_Mo_frame_121 : decode b_Mo_frame 121 = .ok (.bipush (12), 2) := by decide +kernel
theorem d_Mo_frame_123 : decode b_Mo_frame 123 = .ok (.if_icmp .ne (7), 3) := by decide +kernel
theorem d_Mo_frame_126 : decode b_Mo_frame 126 = .ok (.iconst (3), 1) := by decide +kernel
theorem d_Mo_frame_127 : decode b_Mo_frame 127 = .ok (.goto (4), 3) := by decide +kernel
theorem d_Mo_frame_130 : decode b_Mo_frame 130 = .ok (.iconst (0), 1) := by decide +kernel
theorem d_Mo_frame_131 : decode b_Mo_frame 131 = .ok (.putfield 92, 3) := by decide +kernel
theorem d_Mo_frame_134 : decode b_Mo_frame 134 = .ok (.aload_n 0, 1) := by decide +kernel
theorem d_Mo_frame_135 : decode b_Mo_frame 135 = .ok (.getfield 92, 3) := by decide +kernel
theorem d_Mo_frame_138 : decode b_Mo_frame 138 = .ok (.ifCond .le (5), 3) := by decide +kernel
theorem d_Mo_frame_141 : decode b_Mo_frame 141 = .ok (.iconst (0), 1) := by decide +kernel
theorem d_Mo_frame_142 : decode b_Mo_frame 142 = .ok (.ireturn, 1) := by decide +kernel
theorem d_Mo_frame_143 : decode b_Mo_frame 143 = .ok (.aload_n 0, 1) := by decide +kernel
theorem d_Mo_frame_144 : decode b_Mo_frame 144 = .ok (.getfield 110, 3) := by decide +kernel
theorem d_Mo_frame_147 : decode b_Mo_frame 147 = .ok (.istore 9, 2) := by decide +kernel
theorem d_Mo_frame_149 : decode b_Mo_frame 149 = .ok (.aload_n 0, 1) := by decide +kernel
theorem d_Mo_frame_150 : decode b_Mo_frame 150 = .ok (.getfield 41, 3) := by decide +kernel
theorem d_Mo_frame_153 : decode b_Mo_frame 153 = .ok (.iload 9, 2) := by decide +kernel
theorem d_Mo_frame_155 : decode b_Mo_frame 155 = .ok (.iload_n 1, 1) := by decide +kernel
theorem d_Mo_frame_156 : decode b_Mo_frame 156 = .ok (.iastore, 1) := by decide +kernel
theorem d_Mo_frame_157 : decode b_Mo_frame 157 = .ok (.aload_n 0, 1) := by decide +kernel
theorem d_Mo_frame_158 : decode b_Mo_frame 158 = .ok (.getfield 44, 3) := by decide +kernel
theorem d_Mo_frame_161 : decode b_Mo_frame 161 = .ok (.iload 9, 2) := by decide +kernel
theorem d_Mo_frame_163 : decode b_Mo_frame 163 = .ok (.iload_n 2, 1) := by decide +kernel
theorem d_Mo_frame_164 : decode b_Mo_frame 164 = .ok (.iastore, 1) := by decide +kernel
theorem d_Mo_frame_165 : decode b_Mo_frame 165 = .ok (.aload_n 0, 1) := by decide +kernel
theorem d_Mo_frame_166 : decode b_Mo_frame 166 = .ok (.getfield 47, 3) := by decide +kernel
theorem d_Mo_frame_169 : decode b_Mo_frame 169 = .ok (.iload 9, 2) := by decide +kernel
theorem d_Mo_frame_171 : decode b_Mo_frame 171 = .ok (.iload_n 3, 1) := by decide +kernel
theorem d_Mo_frame_172 : decode b_Mo_frame 172 = .ok (.iastore, 1) := by decide +kernel
theorem d_Mo_frame_173 : decode b_Mo_frame 173 = .ok (.aload_n 0, 1) := by decide +kernel
theorem d_Mo_frame_174 : decode b_Mo_frame 174 = .ok (.getfield 50, 3) := by decide +kernel
theorem d_Mo_frame_177 : decode b_Mo_frame 177 = .ok (.iload 9, 2) := by decide +kernel
theorem d_Mo_frame_179 : decode b_Mo_frame 179 = .ok (.iload 4, 2) := by decide +kernel
theorem d_Mo_frame_181 : decode b_Mo_frame 181 = .ok (.iastore, 1) := by decide +kernel
theorem d_Mo_frame_182 : decode b_Mo_frame 182 = .ok (.aload_n 0, 1) := by decide +kernel
theorem d_Mo_frame_183 : decode b_Mo_frame 183 = .ok (.getfield 53, 3) := by decide +kernel
theorem d_Mo_frame_186 : decode b_Mo_frame 186 = .ok (.iload 9, 2) := by decide +kernel
theorem d_Mo_frame_188 : decode b_Mo_frame 188 = .ok (.iload 6, 2) := by decide +kernel
theorem d_Mo_frame_190 : decode b_Mo_frame 190 = .ok (.iastore, 1) := by decide +kernel
theorem d_Mo_frame_191 : decode b_Mo_frame 191 = .ok (.aload_n 0, 1) := by decide +kernel
theorem d_Mo_frame_192 : decode b_Mo_frame 192 = .ok (.getfield 56, 3) := by decide +kernel
theorem d_Mo_frame_195 : decode b_Mo_frame 195 = .ok (.iload 9, 2) := by decide +kernel
theorem d_Mo_frame_197 : decode b_Mo_frame 197 = .ok (.iload 7, 2) := by decide +kernel
theorem d_Mo_frame_199 : decode b_Mo_frame 199 = .ok (.iastore, 1) := by decide +kernel
theorem d_Mo_frame_200 : decode b_Mo_frame 200 = .ok (.aload_n 0, 1) := by decide +kernel
theorem d_Mo_frame_201 : decode b_Mo_frame 201 = .ok (.getfield 59, 3) := by decide +kernel
theorem d_Mo_frame_204 : decode b_Mo_frame 204 = .ok (.iload 9, 2) := by decide +kernel
theorem d_Mo_frame_206 : decode b_Mo_frame 206 = .ok (.iconst (-1), 1) := by decide +kernel
theorem d_Mo_frame_207 : decode b_Mo_frame 207 = .ok (.iastore, 1) := by decide +kernel
theorem d_Mo_frame_208 : decode b_Mo_frame 208 = .ok (.iconst (0), 1) := by decide +kernel
theorem d_Mo_frame_209 : decode b_Mo_frame 209 = .ok (.istore 10, 2) := by decide +kernel
theorem d_Mo_frame_211 : decode b_Mo_frame 211 = .ok (.iload 10, 2) := by decide +kernel
theorem d_Mo_frame_213 : decode b_Mo_frame 213 = .ok (.sipush (256), 3) := by decide +kernel
theorem d_Mo_frame_216 : decode b_Mo_frame 216 = .ok (.if_icmp .ge (24), 3) := by decide +kernel
theorem d_Mo_frame_219 : decode b_Mo_frame 219 = .ok (.aload_n 0, 1) := by decide +kernel
theorem d_Mo_frame_220 : decode b_Mo_frame 220 = .ok (.getfield 65, 3) := by decide +kernel
theorem d_Mo_frame_223 : decode b_Mo_frame 223 = .ok (.sipush (256), 3) := by decide +kernel
theorem d_Mo_frame_226 : decode b_Mo_frame 226 = .ok (.iload 9, 2) := by decide +kernel
theorem d_Mo_frame_228 : decode b_Mo_frame 228 = .ok (.imul, 1) := by decide +kernel
theorem d_Mo_frame_229 : decode b_Mo_frame 229 = .ok (.iload 10, 2) := by decide +kernel
theorem d_Mo_frame_231 : decode b_Mo_frame 231 = .ok (.iadd, 1) := by decide +kernel
theorem d_Mo_frame_232 : decode b_Mo_frame 232 = .ok (.iconst (-1), 1) := by decide +kernel
theorem d_Mo_frame_233 : decode b_Mo_frame 233 = .ok (.iastore, 1) := by decide +kernel
theorem d_Mo_frame_234 : decode b_Mo_frame 234 = .ok (.iinc 10 (1), 3) := by decide +kernel
theorem d_Mo_frame_237 : decode b_Mo_frame 237 = .ok (.goto (-26), 3) := by decide +kernel
theorem d_Mo_frame_240 : decode b_Mo_frame 240 = .ok (.iconst (0), 1) := by decide +kernel
theorem d_Mo_frame_241 : decode b_Mo_frame 241 = .ok (.istore 10, 2) := by decide +kernel
theorem d_Mo_frame_243 : decode b_Mo_frame 243 = .ok (.iconst (0), 1) := by decide +kernel
theorem d_Mo_frame_244 : decode b_Mo_frame 244 = .ok (.istore 11, 2) := by decide +kernel
theorem d_Mo_frame_246 : decode b_Mo_frame 246 = .ok (.iload 11, 2) := by decide +kernel
theorem d_Mo_frame_248 : decode b_Mo_frame 248 = .ok (.iconst (4), 1) := by decide +kernel
theorem d_Mo_frame_249 : decode b_Mo_frame 249 = .ok (.if_icmp .ge (93), 3) := by decide +kernel
theorem d_Mo_frame_252 : decode b_Mo_frame 252 = .ok (.iconst (0), 1) := by decide +kernel
theorem d_Mo_frame_253 : decode b_Mo_frame 253 = .ok (.istore 12, 2) := by decide +kernel
theorem d_Mo_frame_255 : decode b_Mo_frame 255 = .ok (.iload 12, 2) := by decide +kernel
theorem d_Mo_frame_257 : decode b_Mo_frame 257 = .ok (.iload 4, 2) := by decide +kernel
theorem d_Mo_frame_259 : decode b_Mo_frame 259 = .ok (.if_icmp .ge (77), 3) := by decide +kernel
theorem d_Mo_frame_262 : decode b_Mo_frame 262 = .ok (.iload 5, 2) := by decide +kernel
theorem d_Mo_frame_264 : decode b_Mo_frame 264 = .ok (.ifCond .eq (16), 3) := by decide +kernel
theorem d_Mo_frame_267 : decode b_Mo_frame 267 = .ok (.iload 12, 2) := by decide +kernel
theorem d_Mo_frame_269 : decode b_Mo_frame 269 = .ok (.invokestatic 157, 3) := by decide +kernel
theorem d_Mo_frame_272 : decode b_Mo_frame 272 = .ok (.iload 11, 2) := by decide +kernel
theorem d_Mo_frame_274 : decode b_Mo_frame 274 = .ok (.if_icmp .ne (56), 3) := by decide +kernel
theorem d_Mo_frame_277 : decode b_Mo_frame 277 = .ok (.goto (8), 3) := by decide +kernel
theorem d_Mo_frame_280 : decode b_Mo_frame 280 = .ok (.iload 11, 2) := by decide +kernel
theorem d_Mo_frame_282 : decode b_Mo_frame 282 = .ok (.ifCond .ne (48), 3) := by decide +kernel
theorem d_Mo_frame_285 : decode b_Mo_frame 285 = .ok (.iconst (0), 1) := by decide +kernel
theorem d_Mo_frame_286 : decode b_Mo_frame 286 = .ok (.istore 13, 2) := by decide +kernel
theorem d_Mo_frame_288 : decode b_Mo_frame 288 = .ok (.iload 13, 2) := by decide +kernel
theorem d_Mo_frame_290 : decode b_Mo_frame 290 = .ok (.iload_n 3, 1) := by decide +kernel
theorem d_Mo_frame_291 : decode b_Mo_frame 291 = .ok (.if_icmp .ge (39), 3) := by decide +kernel
theorem d_Mo_frame_294 : decode b_Mo_frame 294 = .ok (.aload_n 0, 1) := by decide +kernel
theorem d_Mo_frame_295 : decode b_Mo_frame 295 = .ok (.getfield 62, 3) := by decide +kernel
theorem d_Mo_frame_298 : decode b_Mo_frame 298 = .ok (.sipush (576), 3) := by decide +kernel
theorem d_Mo_frame_301 : decode b_Mo_frame 301 = .ok (.iload 9, 2) := by decide +kernel
theorem d_Mo_frame_303 : decode b_Mo_frame 303 = .ok (.imul, 1) := by decide +kernel
theorem d_Mo_frame_304 : decode b_Mo_frame 304 = .ok (.bipush (24), 2) := by decide +kernel
theorem d_Mo_frame_306 : decode b_Mo_frame 306 = .ok (.iload 12, 2) := by decide +kernel
theorem d_Mo_frame_308 : decode b_Mo_frame 308 = .ok (.imul, 1) := by decide +kernel
theorem d_Mo_frame_309 : decode b_Mo_frame 309 = .ok (.iadd, 1) := by decide +kernel
theorem d_Mo_frame_310 : decode b_Mo_frame 310 = .ok (.iload 13, 2) := by decide +kernel
theorem d_Mo_frame_312 : decode b_Mo_frame 312 = .ok (.iadd, 1) := by decide +kernel
theorem d_Mo_frame_313 : decode b_Mo_frame 313 = .ok (.aload_n 0, 1) := by decide +kernel
theorem d_Mo_frame_314 : decode b_Mo_frame 314 = .ok (.getfield 7, 3) := by decide +kernel
theorem d_Mo_frame_317 : decode b_Mo_frame 317 = .ok (.iload 10, 2) := by decide +kernel
theorem d_Mo_frame_319 : decode b_Mo_frame 319 = .ok (.iaload, 1) := by decide +kernel
theorem d_Mo_frame_320 : decode b_Mo_frame 320 = .ok (.iastore, 1) := by decide +kernel
theorem d_Mo_frame_321 : decode b_Mo_frame 321 = .ok (.iinc 10 (1), 3) := by decide +kernel
theorem d_Mo_frame_324 : decode b_Mo_frame 324 = .ok (.iinc 13 (1), 3) := by decide +kernel
theorem d_Mo_frame_327 : decode b_Mo_frame 327 = .ok (.goto (-39), 3) := by decide +kernel
theorem d_Mo_frame_330 : decode b_Mo_frame 330 = .ok (.iinc 12 (1), 3) := by decide +kernel
theorem d_Mo_frame_333 : decode b_Mo_frame 333 = .ok (.goto (-78), 3) := by decide +kernel
theorem d_Mo_frame_336 : decode b_Mo_frame 336 = .ok (.iinc 11 (1), 3) := by decide +kernel
theorem d_Mo_frame_339 : decode b_Mo_frame 339 = .ok (.goto (-93), 3) := by decide +kernel
theorem d_Mo_frame_342 : decode b_Mo_frame 342 = .ok (.aload_n 0, 1) := by decide +kernel
theorem d_Mo_frame_343 : decode b_Mo_frame 343 = .ok (.dup, 1) := by decide +kernel
theorem d_Mo_frame_344 : decode b_Mo_frame 344 = .ok (.getfield 98, 3) := by decide +kernel
theorem d_Mo_frame_347 : decode b_Mo_frame 347 = .ok (.iload 10, 2) := by decide +kernel
theorem d_Mo_frame_349 : decode b_Mo_frame 349 = .ok (.isub, 1) := by decide +kernel
theorem d_Mo_frame_350 : decode b_Mo_frame 350 = .ok (.putfield 98, 3) := by decide +kernel
theorem d_Mo_frame_353 : decode b_Mo_frame 353 = .ok (.iconst (0), 1) := by decide +kernel
theorem d_Mo_frame_354 : decode b_Mo_frame 354 = .ok (.istore 11, 2) := by decide +kernel
theorem d_Mo_frame_356 : decode b_Mo_frame 356 = .ok (.iload 11, 2) := by decide +kernel
theorem d_Mo_frame_358 : decode b_Mo_frame 358 = .ok (.aload_n 0, 1) := by decide +kernel
theorem d_Mo_frame_359 : decode b_Mo_frame 359 = .ok (.getfield 98, 3) := by decide +kernel
theorem d_Mo_frame_362 : decode b_Mo_frame 362 = .ok (.if_icmp .ge (26), 3) := by decide +kernel
theorem d_Mo_frame_365 : decode b_Mo_frame 365 = .ok (.aload_n 0, 1) := by decide +kernel
theorem d_Mo_frame_366 : decode b_Mo_frame 366 = .ok (.getfield 7, 3) := by decide +kernel
theorem d_Mo_frame_369 : decode b_Mo_frame 369 = .ok (.iload 11, 2) := by decide +kernel
theorem d_Mo_frame_371 : decode b_Mo_frame 371 = .ok (.aload_n 0, 1) := by decide +kernel
theorem d_Mo_frame_372 : decode b_Mo_frame 372 = .ok (.getfield 7, 3) := by decide +kernel
theorem d_Mo_frame_375 : decode b_Mo_frame 375 = .ok (.iload 11, 2) := by decide +kernel
theorem d_Mo_frame_377 : decode b_Mo_frame 377 = .ok (.iload 10, 2) := by decide +kernel
theorem d_Mo_frame_379 : decode b_Mo_frame 379 = .ok (.iadd, 1) := by decide +kernel
theorem d_Mo_frame_380 : decode b_Mo_frame 380 = .ok (.iaload, 1) := by decide +kernel
theorem d_Mo_frame_381 : decode b_Mo_frame 381 = .ok (.iastore, 1) := by decide +kernel
theorem d_Mo_frame_382 : decode b_Mo_frame 382 = .ok (.iinc 11 (1), 3) := by decide +kernel
theorem d_Mo_frame_385 : decode b_Mo_frame 385 = .ok (.goto (-29), 3) := by decide +kernel
theorem d_Mo_frame_388 : decode b_Mo_frame 388 = .ok (.aload_n 0, 1) := by decide +kernel
theorem d_Mo_frame_389 : decode b_Mo_frame 389 = .ok (.dup, 1) := by decide +kernel
theorem d_Mo_frame_390 : decode b_Mo_frame 390 = .ok (.getfield 110, 3) := by decide +kernel
theorem d_Mo_frame_393 : decode b_Mo_frame 393 = .ok (.iconst (1), 1) := by decide +kernel
theorem d_Mo_frame_394 : decode b_Mo_frame 394 = .ok (.iadd, 1) := by decide +kernel
theorem d_Mo_frame_395 : decode b_Mo_frame 395 = .ok (.putfield 110, 3) := by decide +kernel
theorem d_Mo_frame_398 : decode b_Mo_frame 398 = .ok (.iload 9, 2) := by decide +kernel
theorem d_Mo_frame_400 : decode b_Mo_frame 400 = .ok (.ireturn, 1) := by decide +kernel
theorem d_Mo_isFrame_0 : decode b_Mo_isFrame 0 = .ok (.iload_n 1, 1) := by decide +kernel
theorem d_Mo_isFrame_1 : decode b_Mo_isFrame 1 = .ok (.ifCond .lt (15), 3) := by decide +kernel
theorem d_Mo_isFrame_4 : decode b_Mo_isFrame 4 = .ok (.iload_n 1, 1) := by decide +kernel
theorem d_Mo_isFrame_5 : decode b_Mo_isFrame 5 = .ok (.aload_n 0, 1) := by decide +kernel
theorem d_Mo_isFrame_6 : decode b_Mo_isFrame 6 = .ok (.getfield 110, 3) := by decide +kernel
theorem d_Mo_isFrame_9 : decode b_Mo_isFrame 9 = .ok (.if_icmp .ge (7), 3) := by decide +kernel
theorem d_Mo_isFrame_12 : decode b_Mo_isFrame 12 = .ok (.iconst (1), 1) := by decide +kernel
theorem d_Mo_isFrame_13 : decode b_Mo_isFrame 13 = .ok (.goto (4), 3) := by decide +kernel
theorem d_Mo_isFrame_16 : decode b_Mo_isFrame 16 = .ok (.iconst (0), 1) := by decide +kernel
theorem d_Mo_isFrame_17 : decode b_Mo_isFrame 17 = .ok (.ireturn, 1) := by decide +kernel
theorem d_Mo_isSymbol_0 : decode b_Mo_isSymbol 0 = .ok (.iload_n 1, 1) := by decide +kernel
theorem d_Mo_isSymbol_1 : decode b_Mo_isSymbol 1 = .ok (.ifCond .lt (15), 3) := by decide +kernel
theorem d_Mo_isSymbol_4 : decode b_Mo_isSymbol 4 = .ok (.iload_n 1, 1) := by decide +kernel
theorem d_Mo_isSymbol_5 : decode b_Mo_isSymbol 5 = .ok (.aload_n 0, 1) := by decide +kernel
theorem d_Mo_isSymbol_6 : decode b_Mo_isSymbol 6 = .ok (.getfield 84, 3) := by decide +kernel
theorem d_Mo_isSymbol_9 : decode b_Mo_isSymbol 9 = .ok (.if_icmp .ge (7), 3) := by decide +kernel
theorem d_Mo_isSymbol_12 : decode b_Mo_isSymbol 12 = .ok (.iconst (1), 1) := by decide +kernel
theorem d_Mo_isSymbol_13 : decode b_Mo_isSymbol 13 = .ok (.goto (4), 3) := by decide +kernel
theorem d_Mo_isSymbol_16 : decode b_Mo_isSymbol 16 = .ok (.iconst (0), 1) := by decide +kernel
theorem d_Mo_isSymbol_17 : decode b_Mo_isSymbol 17 = .ok (.ireturn, 1) := by decide +kernel
theorem d_Mo_colour_0 : decode b_Mo_colour 0 = .ok (.iload_n 1, 1) := by decide +kernel
theorem d_Mo_colour_1 : decode b_Mo_colour 1 = .ok (.iconst (-1), 1) := by decide +kernel
theorem d_Mo_colour_2 : decode b_Mo_colour 2 = .ok (.if_icmp .eq (11), 3) := by decide +kernel
theorem d_Mo_colour_5 : decode b_Mo_colour 5 = .ok (.aload_n 0, 1) := by decide +kernel
theorem d_Mo_colour_6 : decode b_Mo_colour 6 = .ok (.iload_n 1, 1) := by decide +kernel
theorem d_Mo_colour_7 : decode b_Mo_colour 7 = .ok (.invokevirtual 160, 3) := by decide +kernel
theorem d_Mo_colour_10 : decode b_Mo_colour 10 = .ok (.ifCond .eq (15), 3) := by decide +kernel
theorem d_Mo_colour_13 : decode b_Mo_colour 13 = .ok (.aload_n 0, 1) := by decide +kernel
theorem d_Mo_colour_14 : decode b_Mo_colour 14 = .ok (.iload_n 2, 1) := by decide +kernel
theorem d_Mo_colour_15 : decode b_Mo_colour 15 = .ok (.invokevirtual 164, 3) := by decide +kernel
theorem d_Mo_colour_18 : decode b_Mo_colour 18 = .ok (.ifCond .eq (7), 3) := by decide +kernel
theorem d_Mo_colour_21 : decode b_Mo_colour 21 = .ok (.iconst (1), 1) := by decide +kernel
theorem d_Mo_colour_22 : decode b_Mo_colour 22 = .ok (.goto (4), 3) := by decide +kernel
theorem d_Mo_colour_25 : decode b_Mo_colour 25 = .ok (.iconst (0), 1) := by decide +kernel
theorem d_Mo_colour_26 : decode b_Mo_colour 26 = .ok (.istore 4, 2) := by decide +kernel
theorem d_Mo_colour_28 : decode b_Mo_colour 28 = .ok (.aload_n 0, 1) := by decide +kernel
theorem d_Mo_colour_29 : decode b_Mo_colour 29 = .ok (.iload 4, 2) := by decide +kernel
theorem d_Mo_colour_31 : decode b_Mo_colour 31 = .ok (.ifCond .ne (7), 3) := by decide +kernel
theorem d_Mo_colour_34 : decode b_Mo_colour 34 = .ok (.iconst (1), 1) := by decide +kernel
theorem d_Mo_colour_35 : decode b_Mo_colour 35 = .ok (.goto (19), 3) := by decide +kernel
theorem d_Mo_colour_38 : decode b_Mo_colour 38 = .ok (.iload_n 3, 1) := by decide +kernel
theorem d_Mo_colour_39 : decode b_Mo_colour 39 = .ok (.iconst (-1), 1) := by decide +kernel
theorem d_Mo_colour_40 : decode b_Mo_colour 40 = .ok (.if_icmp .lt (9), 3) := by decide +kernel
theorem d_Mo_colour_43 : decode b_Mo_colour 43 = .ok (.iload_n 3, 1) := by decide +kernel
theorem d_Mo_colour_44 : decode b_Mo_colour 44 = .ok (.ldc 167, 2) := by decide +kernel
theorem d_Mo_colour_46 : decode b_Mo_colour 46 = .ok (.if_icmp .le (7), 3) := by decide +kernel
theorem d_Mo_colour_49 : decode b_Mo_colour 49 = .ok (.iconst (2), 1) := by decide +kernel
theorem d_Mo_colour_50 : decode b_Mo_colour 50 = .ok (.goto (4), 3) := by decide +kernel
theorem d_Mo_colour_53 : decode b_Mo_colour 53 = .ok (.iconst (0), 1) := by decide +kernel
theorem d_Mo_colour_54 : decode b_Mo_colour 54 = .ok (.putfield 92, 3) := by decide +kernel
theorem d_Mo_colour_57 : decode b_Mo_colour 57 = .ok (.aload_n 0, 1) := by decide +kernel
theorem d_Mo_colour_58 : decode b_Mo_colour 58 = .ok (.getfield 92, 3) := by decide +kernel
theorem d_Mo_colour_61 : decode b_Mo_colour 61 = .ok (.ifCond .le (5), 3) := by decide +kernel
theorem d_Mo_colour_64 : decode b_Mo_colour 64 = .ok (.iconst (0), 1) := by decide +kernel
theorem d_Mo_colour_65 : decode b_Mo_colour 65 = .ok (.ireturn, 1) := by decide +kernel
theorem d_Mo_colour_66 : decode b_Mo_colour 66 = .ok (.sipush (256), 3) := by decide +kernel
theorem d_Mo_colour_69 : decode b_Mo_colour 69 = .ok (.iload_n 1, 1) := by decide +kernel
theorem d_Mo_colour_70 : decode b_Mo_colour 70 = .ok (.ifCond .ge (8), 3) := by decide +kernel
theorem d_Mo_colour_73 : decode b_Mo_colour 73 = .ok (.bipush (12), 2) := by decide +kernel
theorem d_Mo_colour_75 : decode b_Mo_colour 75 = .ok (.goto (4), 3) := by decide +kernel
theorem d_Mo_colour_78 : decode b_Mo_colour 78 = .ok (.iload_n 1, 1) := by decide +kernel
theorem d_Mo_colour_79 : decode b_Mo_colour 79 = .ok (.imul, 1) := by decide +kernel
theorem d_Mo_colour_80 : decode b_Mo_colour 80 = .ok (.iload_n 2, 1) := by decide +kernel
theorem d_Mo_colour_81 : decode b_Mo_colour 81 = .ok (.iadd, 1) := by decide +kernel
theorem d_Mo_colour_82 : decode b_Mo_colour 82 = .ok (.istore 5, 2) := by decide +kernel
theorem d_Mo_colour_84 : decode b_Mo_colour 84 = .ok (.aload_n 0, 1) := by decide +kernel
theorem d_Mo_colour_85 : decode b_Mo_colour 85 = .ok (.getfield 65, 3) := by decide +kernel
theorem d_Mo_colour_88 : decode b_Mo_colour 88 = .ok (.iload 5, 2) := by decide +kernel
theorem d_Mo_colour_90 : decode b_Mo_colour 90 = .ok (.iaload, 1) := by decide +kernel
theorem d_Mo_colour_91 : decode b_Mo_colour 91 = .ok (.istore 6, 2) := by decide +kernel
theorem d_Mo_colour_93 : decode b_Mo_colour 93 = .ok (.aload_n 0, 1) := by decide +kernel
theorem d_Mo_colour_94 : decode b_Mo_colour 94 = .ok (.getfield 65, 3) := by decide +kernel
theorem d_Mo_colour_97 : decode b_Mo_colour 97 = .ok (.iload 5, 2) := by decide +kernel
theorem d_Mo_colour_99 : decode b_Mo_colour 99 = .ok (.iload_n 3, 1) := by decide +kernel
theorem d_Mo_colour_100 : decode b_Mo_colour 100 = .ok (.iastore, 1) := by decide +kernel
theorem d_Mo_colour_101 : decode b_Mo_colour 101 = .ok (.iload 6, 2) := by decide +kernel
theorem d_Mo_colour_103 : decode b_Mo_colour 103 = .ok (.ireturn, 1) := by decide +kernel
