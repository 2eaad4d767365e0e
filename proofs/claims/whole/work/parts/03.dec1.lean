theorem d_Mo_init_0 : decode b_Mo_init 0 = .ok (.aload_n 0, 1) := by decide +kernel
theorem d_Mo_init_1 : decode b_Mo_init 1 = .ok (.invokespecial 1, 3) := by decide +kernel
theorem d_Mo_init_4 : decode b_Mo_init 4 = .ok (.aload_n 0, 1) := by decide +kernel
theorem d_Mo_init_5 : decode b_Mo_init 5 = .ok (.sipush (12000), 3) := by decide +kernel
theorem d_Mo_init_8 : decode b_Mo_init 8 = .ok (.newarray .int, 2) := by decide +kernel
theorem d_Mo_init_10 : decode b_Mo_init 10 = .ok (.putfield 7, 3) := by decide +kernel
theorem d_Mo_init_13 : decode b_Mo_init 13 = .ok (.aload_n 0, 1) := by decide +kernel
theorem d_Mo_init_14 : decode b_Mo_init 14 = .ok (.sipush (24000), 3) := by decide +kernel
theorem d_Mo_init_17 : decode b_Mo_init 17 = .ok (.newarray .byte, 2) := by decide +kernel
theorem d_Mo_init_19 : decode b_Mo_init 19 = .ok (.putfield 13, 3) := by decide +kernel
theorem d_Mo_init_22 : decode b_Mo_init 22 = .ok (.aload_n 0, 1) := by decide +kernel
theorem d_Mo_init_23 : decode b_Mo_init 23 = .ok (.iconst (4), 1) := by decide +kernel
theorem d_Mo_init_24 : decode b_Mo_init 24 = .ok (.newarray .int, 2) := by decide +kernel
theorem d_Mo_init_26 : decode b_Mo_init 26 = .ok (.putfield 17, 3) := by decide +kernel
theorem d_Mo_init_29 : decode b_Mo_init 29 = .ok (.aload_n 0, 1) := by decide +kernel
theorem d_Mo_init_30 : decode b_Mo_init 30 = .ok (.sipush (24000), 3) := by decide +kernel
theorem d_Mo_init_33 : decode b_Mo_init 33 = .ok (.newarray .byte, 2) := by decide +kernel
theorem d_Mo_init_35 : decode b_Mo_init 35 = .ok (.putfield 20, 3) := by decide +kernel
theorem d_Mo_init_38 : decode b_Mo_init 38 = .ok (.aload_n 0, 1) := by decide +kernel
theorem d_Mo_init_39 : decode b_Mo_init 39 = .ok (.sipush (12000), 3) := by decide +kernel
theorem d_Mo_init_42 : decode b_Mo_init 42 = .ok (.newarray .int, 2) := by decide +kernel
theorem d_Mo_init_44 : decode b_Mo_init 44 = .ok (.putfield 23, 3) := by decide +kernel
theorem d_Mo_init_47 : decode b_Mo_init 47 = .ok (.aload_n 0, 1) := by decide +kernel
theorem d_Mo_init_48 : decode b_Mo_init 48 = .ok (.sipush (4096), 3) := by decide +kernel
theorem d_Mo_init_51 : decode b_Mo_init 51 = .ok (.newarray .int, 2) := by decide +kernel
theorem d_Mo_init_53 : decode b_Mo_init 53 = .ok (.putfield 26, 3) := by decide +kernel
theorem d_Mo_init_56 : decode b_Mo_init 56 = .ok (.aload_n 0, 1) := by decide +kernel
theorem d_Mo_init_57 : decode b_Mo_init 57 = .ok (.sipush (4096), 3) := by decide +kernel
theorem d_Mo_init_60 : decode b_Mo_init 60 = .ok (.newarray .int, 2) := by decide +kernel
theorem d_Mo_init_62 : decode b_Mo_init 62 = .ok (.putfield 29, 3) := by decide +kernel
theorem d_Mo_init_65 : decode b_Mo_init 65 = .ok (.aload_n 0, 1) := by decide +kernel
theorem d_Mo_init_66 : decode b_Mo_init 66 = .ok (.sipush (4096), 3) := by decide +kernel
theorem d_Mo_init_69 : decode b_Mo_init 69 = .ok (.newarray .int, 2) := by decide +kernel
theorem d_Mo_init_71 : decode b_Mo_init 71 = .ok (.putfield 32, 3) := by decide +kernel
theorem d_Mo_init_74 : decode b_Mo_init 74 = .ok (.aload_n 0, 1) := by decide +kernel
theorem d_Mo_init_75 : decode b_Mo_init 75 = .ok (.sipush (4096), 3) := by decide +kernel
theorem d_Mo_init_78 : decode b_Mo_init 78 = .ok (.newarray .int, 2) := by decide +kernel
theorem d_Mo_init_80 : decode b_Mo_init 80 = .ok (.putfield 35, 3) := by decide +kernel
theorem d_Mo_init_83 : decode b_Mo_init 83 = .ok (.aload_n 0, 1) := by decide +kernel
theorem d_Mo_init_84 : decode b_Mo_init 84 = .ok (.sipush (4096), 3) := by decide +kernel
theorem d_Mo_init_87 : decode b_Mo_init 87 = .ok (.newarray .int, 2) := by decide +kernel
theorem d_Mo_init_89 : decode b_Mo_init 89 = .ok (.putfield 38, 3) := by decide +kernel
theorem d_Mo_init_92 : decode b_Mo_init 92 = .ok (.aload_n 0, 1) := by decide +kernel
theorem d_Mo_init_93 : decode b_Mo_init 93 = .ok (.bipush (12), 2) := by decide +kernel
theorem d_Mo_init_95 : decode b_Mo_init 95 = .ok (.newarray .int, 2) := by decide +kernel
theorem d_Mo_init_97 : decode b_Mo_init 97 = .ok (.putfield 41, 3) := by decide +kernel
theorem d_Mo_init_100 : decode b_Mo_init 100 = .ok (.aload_n 0, 1) := by decide +kernel
theorem d_Mo_init_101 : decode b_Mo_init 101 = .ok (.bipush (12), 2) := by decide +kernel
theorem d_Mo_init_103 : decode b_Mo_init 103 = .ok (.newarray .int, 2) := by decide +kernel
theorem d_Mo_init_105 : decode b_Mo_init 105 = .ok (.putfield 44, 3) := by decide +kernel
theorem d_Mo_init_108 : decode b_Mo_init 108 = .ok (.aload_n 0, 1) := by decide +kernel
theorem d_Mo_init_109 : decode b_Mo_init 109 = .ok (.bipush (12), 2) := by decide +kernel
theorem d_Mo_init_111 : decode b_Mo_init 111 = .ok (.newarray .int, 2) := by decide +kernel
theorem d_Mo_init_113 : decode b_Mo_init 113 = .ok (.putfield 47, 3) := by decide +kernel
theorem d_Mo_init_116 : decode b_Mo_init 116 = .ok (.aload_n 0, 1) := by decide +kernel
theorem d_Mo_init_117 : decode b_Mo_init 117 = .ok (.bipush (12), 2) := by decide +kernel
theorem d_Mo_init_119 : decode b_Mo_init 119 = .ok (.newarray .int, 2) := by decide +kernel
theorem d_Mo_init_121 : decode b_Mo_init 121 = .ok (.putfield 50, 3) := by decide +kernel
theorem d_Mo_init_124 : decode b_Mo_init 124 = .ok (.aload_n 0, 1) := by decide +kernel
theorem d_Mo_init_125 : decode b_Mo_init 125 = .ok (.bipush (12), 2) := by decide +kernel
theorem d_Mo_init_127 : decode b_Mo_init 127 = .ok (.newarray .int, 2) := by decide +kernel
theorem d_Mo_init_129 : decode b_Mo_init 129 = .ok (.putfield 53, 3) := by decide +kernel
theorem d_Mo_init_132 : decode b_Mo_init 132 = .ok (.aload_n 0, 1) := by decide +kernel
theorem d_Mo_init_133 : decode b_Mo_init 133 = .ok (.bipush (12), 2) := by decide +kernel
theorem d_Mo_init_135 : decode b_Mo_init 135 = .ok (.newarray .int, 2) := by decide +kernel
theorem d_Mo_init_137 : decode b_Mo_init 137 = .ok (.putfield 56, 3) := by decide +kernel
theorem d_Mo_init_140 : decode b_Mo_init 140 = .ok (.aload_n 0, 1) := by decide +kernel
theorem d_Mo_init_141 : decode b_Mo_init 141 = .ok (.bipush (12), 2) := by decide +kernel
theorem d_Mo_init_143 : decode b_Mo_init 143 = .ok (.newarray .int, 2) := by decide +kernel
theorem d_Mo_init_145 : decode b_Mo_init 145 = .ok (.putfield 59, 3) := by decide +kernel
theorem d_Mo_init_148 : decode b_Mo_init 148 = .ok (.aload_n 0, 1) := by decide +kernel
theorem d_Mo_init_149 : decode b_Mo_init 149 = .ok (.sipush (6912), 3) := by decide +kernel
theorem d_Mo_init_152 : decode b_Mo_init 152 = .ok (.newarray .int, 2) := by decide +kernel
theorem d_Mo_init_154 : decode b_Mo_init 154 = .ok (.putfield 62, 3) := by decide +kernel
theorem d_Mo_init_157 : decode b_Mo_init 157 = .ok (.aload_n 0, 1) := by decide +kernel
theorem d_Mo_init_158 : decode b_Mo_init 158 = .ok (.sipush (3328), 3) := by decide +kernel
theorem d_Mo_init_161 : decode b_Mo_init 161 = .ok (.newarray .int, 2) := by decide +kernel
theorem d_Mo_init_163 : decode b_Mo_init 163 = .ok (.putfield 65, 3) := by decide +kernel
theorem d_Mo_init_166 : decode b_Mo_init 166 = .ok (.aload_n 0, 1) := by decide +kernel
theorem d_Mo_init_167 : decode b_Mo_init 167 = .ok (.sipush (576), 3) := by decide +kernel
theorem d_Mo_init_170 : decode b_Mo_init 170 = .ok (.newarray .int, 2) := by decide +kernel
theorem d_Mo_init_172 : decode b_Mo_init 172 = .ok (.putfield 68, 3) := by decide +kernel
theorem d_Mo_init_175 : decode b_Mo_init 175 = .ok (.aload_n 0, 1) := by decide +kernel
theorem d_Mo_init_176 : decode b_Mo_init 176 = .ok (.sipush (576), 3) := by decide +kernel
theorem d_Mo_init_179 : decode b_Mo_init 179 = .ok (.newarray .int, 2) := by decide +kernel
theorem d_Mo_init_181 : decode b_Mo_init 181 = .ok (.putfield 71, 3) := by decide +kernel
theorem d_Mo_init_184 : decode b_Mo_init 184 = .ok (.aload_n 0, 1) := by decide +kernel
theorem d_Mo_init_185 : decode b_Mo_init 185 = .ok (.sipush (576), 3) := by decide +kernel
theorem d_Mo_init_188 : decode b_Mo_init 188 = .ok (.newarray .int, 2) := by decide +kernel
theorem d_Mo_init_190 : decode b_Mo_init 190 = .ok (.putfield 74, 3) := by decide +kernel
theorem d_Mo_init_193 : decode b_Mo_init 193 = .ok (.aload_n 0, 1) := by decide +kernel
theorem d_Mo_init_194 : decode b_Mo_init 194 = .ok (.sipush (576), 3) := by decide +kernel
theorem d_Mo_init_197 : decode b_Mo_init 197 = .ok (.newarray .int, 2) := by decide +kernel
theorem d_Mo_init_199 : decode b_Mo_init 199 = .ok (.putfield 77, 3) := by decide +kernel
theorem d_Mo_init_202 : decode b_Mo_init 202 = .ok (.aload_n 0, 1) := by decide +kernel
theorem d_Mo_init_203 : decode b_Mo_init 203 = .ok (.iload_n 1, 1) := by decide +kernel
theorem d_Mo_init_204 : decode b_Mo_init 204 = .ok (.iconst (2), 1) := by decide +kernel
theorem d_Mo_init_205 : decode b_Mo_init 205 = .ok (.if_icmp .ge (7), 3) := by decide +kernel
theorem d_Mo_init_208 : decode b_Mo_init 208 = .ok (.iconst (2), 1) := by decide +kernel
theorem d_Mo_init_209 : decode b_Mo_init 209 = .ok (.goto (15), 3) := by decide +kernel
theorem d_Mo_init_212 : decode b_Mo_init 212 = .ok (.iload_n 1, 1) := by decide +kernel
theorem d_Mo_init_213 : decode b_Mo_init 213 = .ok (.bipush (8), 2) := by decide +kernel
theorem d_Mo_init_215 : decode b_Mo_init 215 = .ok (.if_icmp .le (8), 3) := by decide +kernel
theorem d_Mo_init_218 : decode b_Mo_init 218 = .ok (.bipush (8), 2) := by decide +kernel
theorem d_Mo_init_220 : decode b_Mo_init 220 = .ok (.goto (4), 3) := by decide +kernel
theorem d_Mo_init_223 : decode b_Mo_init 223 = .ok (.iload_n 1, 1) := by decide +kernel
theorem d_Mo_init_224 : decode b_Mo_init 224 = .ok (.putfield 80, 3) := by decide +kernel
theorem d_Mo_init_227 : decode b_Mo_init 227 = .ok (.aload_n 0, 1) := by decide +kernel
theorem d_Mo_init_228 : decode b_Mo_init 228 = .ok (.iconst (1), 1) := by decide +kernel
theorem d_Mo_init_229 : decode b_Mo_init 229 = .ok (.aload_n 0, 1) := by decide +kernel
theorem d_Mo_init_230 : decode b_Mo_init 230 = .ok (.getfield 80, 3) := by decide +kernel
theorem d_Mo_init_233 : decode b_Mo_init 233 = .ok (.ishl, 1) := by decide +kernel
theorem d_Mo_init_234 : decode b_Mo_init 234 = .ok (.putfield 84, 3) := by decide +kernel
theorem d_Mo_init_237 : decode b_Mo_init 237 = .ok (.aload_n 0, 1) := by decide +kernel
theorem d_Mo_init_238 : decode b_Mo_init 238 = .ok (.aload_n 0, 1) := by decide +kernel
theorem d_Mo_init_239 : decode b_Mo_init 239 = .ok (.getfield 84, 3) := by decide +kernel
theorem d_Mo_init_242 : decode b_Mo_init 242 = .ok (.iconst (1), 1) := by decide +kernel
theorem d_Mo_init_243 : decode b_Mo_init 243 = .ok (.iadd, 1) := by decide +kernel
theorem d_Mo_init_244 : decode b_Mo_init 244 = .ok (.putfield 87, 3) := by decide +kernel
theorem d_Mo_init_247 : decode b_Mo_init 247 = .ok (.aload_n 0, 1) := by decide +kernel
theorem d_Mo_init_248 : decode b_Mo_init 248 = .ok (.invokevirtual 90, 3) := by decide +kernel
theorem d_Mo_init_251 : decode b_Mo_init 251 = .ok (.return_, 1) := by decide +kernel
theorem d_Mo_thrown_0 : decode b_Mo_thrown 0 = .ok (.aload_n 0, 1) := by decide +kernel
theorem d_Mo_thrown_1 : decode b_Mo_thrown 1 = .ok (.getfield 92, 3) := by decide +kernel
theorem d_Mo_thrown_4 : decode b_Mo_thrown 4 = .ok (.ireturn, 1) := by decide +kernel
theorem d_Mo_clear_0 : decode b_Mo_clear 0 = .ok (.aload_n 0, 1) := by decide +kernel
theorem d_Mo_clear_1 : decode b_Mo_clear 1 = .ok (.iconst (0), 1) := by decide +kernel
theorem d_Mo_clear_2 : decode b_Mo_clear 2 = .ok (.putfield 92, 3) := by decide +kernel
theorem d_Mo_clear_5 : decode b_Mo_clear 5 = .ok (.aload_n 0, 1) := by decide +kernel
theorem d_Mo_clear_6 : decode b_Mo_clear 6 = .ok (.iconst (0), 1) := by decide +kernel
theorem d_Mo_clear_7 : decode b_Mo_clear 7 = .ok (.putfield 95, 3) := by decide +kernel
theorem d_Mo_clear_10 : decode b_Mo_clear 10 = .ok (.aload_n 0, 1) := by decide +kernel
theorem d_Mo_clear_11 : decode b_Mo_clear 11 = .ok (.iconst (0), 1) := by decide +kernel
theorem d_Mo_clear_12 : decode b_Mo_clear 12 = .ok (.putfield 98, 3) := by decide +kernel
theorem d_Mo_clear_15 : decode b_Mo_clear 15 = .ok (.aload_n 0, 1) := by decide +kernel
theorem d_Mo_clear_16 : decode b_Mo_clear 16 = .ok (.iconst (0), 1) := by decide +kernel
theorem d_Mo_clear_17 : decode b_Mo_clear 17 = .ok (.putfield 101, 3) := by decide +kernel
theorem d_Mo_clear_20 : decode b_Mo_clear 20 = .ok (.iconst (0), 1) := by decide +kernel
theorem d_Mo_clear_21 : decode b_Mo_clear 21 = .ok (.istore_n 1, 1) := by decide +kernel
theorem d_Mo_clear_22 : decode b_Mo_clear 22 = .ok (.iload_n 1, 1) := by decide +kernel
theorem d_Mo_clear_23 : decode b_Mo_clear 23 = .ok (.iconst (4), 1) := by decide +kernel
theorem d_Mo_clear_24 : decode b_Mo_clear 24 = .ok (.if_icmp .ge (16), 3) := by decide +kernel
theorem d_Mo_clear_27 : decode b_Mo_clear 27 = .ok (.aload_n 0, 1) := by decide +kernel
theorem d_Mo_clear_28 : decode b_Mo_clear 28 = .ok (.getfield 17, 3) := by decide +kernel
theorem d_Mo_clear_31 : decode b_Mo_clear 31 = .ok (.iload_n 1, 1) := by decide +kernel
theorem d_Mo_clear_32 : decode b_Mo_clear 32 = .ok (.iconst (0), 1) := by decide +kernel
theorem d_Mo_clear_33 : decode b_Mo_clear 33 = .ok (.iastore, 1) := by decide +kernel
theorem d_Mo_clear_34 : decode b_Mo_clear 34 = .ok (.iinc 1 (1), 3) := by decide +kernel
theorem d_Mo_clear_37 : decode b_Mo_clear 37 = .ok (.goto (-15), 3) := by decide +kernel
theorem d_Mo_clear_40 : decode b_Mo_clear 40 = .ok (.aload_n 0, 1) := by decide +kernel
theorem d_Mo_clear_41 : decode b_Mo_clear 41 = .ok (.iconst (0), 1) := by decide +kernel
theorem d_Mo_clear_42 : decode b_Mo_clear 42 = .ok (.putfield 104, 3) := by decide +kernel
theorem d_Mo_clear_45 : decode b_Mo_clear 45 = .ok (.aload_n 0, 1) := by decide +kernel
theorem d_Mo_clear_46 : decode b_Mo_clear 46 = .ok (.iconst (0), 1) := by decide +kernel
theorem d_Mo_clear_47 : decode b_Mo_clear 47 = .ok (.putfield 107, 3) := by decide +kernel
theorem d_Mo_clear_50 : decode b_Mo_clear 50 = .ok (.aload_n 0, 1) := by decide +kernel
theorem d_Mo_clear_51 : decode b_Mo_clear 51 = .ok (.iconst (0), 1) := by decide +kernel
theorem d_Mo_clear_52 : decode b_Mo_clear 52 = .ok (.putfield 110, 3) := by decide +kernel
theorem d_Mo_clear_55 : decode b_Mo_clear 55 = .ok (.iconst (0), 1) := by decide +kernel
theorem d_Mo_clear_56 : decode b_Mo_clear 56 = .ok (.istore_n 1, 1) := by decide +kernel
theorem d_Mo_clear_57 : decode b_Mo_clear 57 = .ok (.iload_n 1, 1) := by decide +kernel
theorem d_Mo_clear_58 : decode b_Mo_clear 58 = .ok (.sipush (3328), 3) := by decide +kernel
theorem d_Mo_clear_61 : decode b_Mo_clear 61 = .ok (.if_icmp .ge (16), 3) := by decide +kernel
theorem d_Mo_clear_64 : decode b_Mo_clear 64 = .ok (.aload_n 0, 1) := by decide +kernel
theorem d_Mo_clear_65 : decode b_Mo_clear 65 = .ok (.getfield 65, 3) := by decide +kernel
theorem d_Mo_clear_68 : decode b_Mo_clear 68 = .ok (.iload_n 1, 1) := by decide +kernel
theorem d_Mo_clear_69 : decode b_Mo_clear 69 = .ok (.iconst (-1), 1) := by decide +kernel
theorem d_Mo_clear_70 : decode b_Mo_clear 70 = .ok (.iastore, 1) := by decide +kernel
theorem d_Mo_clear_71 : decode b_Mo_clear 71 = .ok (.iinc 1 (1), 3) := by decide +kernel
theorem d_Mo_clear_74 : decode b_Mo_clear 74 = .ok (.goto (-17), 3) := by decide +kernel
theorem d_Mo_clear_77 : decode b_Mo_clear 77 = .ok (.return_, 1) := by decide +kernel
theorem d_Mo_put_0 : decode b_Mo_put 0 = .ok (.aload_n 0, 1) := by decide +kernel
theorem d_Mo_put_1 : decode b_Mo_put 1 = .ok (.iload_n 3, 1) := by decide +kernel
theorem d_Mo_put_2 : decode b_Mo_put 2 = .ok (.iconst (1), 1) := by decide +kernel
theorem d_Mo_put_3 : decode b_Mo_put 3 = .ok (.if_icmp .lt (10), 3) := by decide +kernel
theorem d_Mo_put_6 : decode b_Mo_put 6 = .ok (.iload_n 3, 1) := by decide +kernel
theorem d_Mo_put_7 : decode b_Mo_put 7 = .ok (.sipush (1000), 3) := by decide +kernel
theorem d_Mo_put_10 : decode b_Mo_put 10 = .ok (.if_icmp .le (7), 3) := by decide +kernel
theorem d_Mo_put_13 : decode b_Mo_put 13 = .ok (.iconst (1), 1) := by decide +kernel
theorem d_Mo_put_14 : decode b_Mo_put 14 = .ok (.goto (20), 3) := by decide +kernel
theorem d_Mo_put_17 : decode b_Mo_put 17 = .ok (.aload_n 0, 1) := by decide +kernel
theorem d_Mo_put_18 : decode b_Mo_put 18 = .ok (.getfield 98, 3) := by decide +kernel
theorem d_Mo_put_21 : decode b_Mo_put 21 = .ok (.iload_n 3, 1) := by decide +kernel
theorem d_Mo_put_22 : decode b_Mo_put 22 = .ok (.iadd, 1) := by decide +kernel
theorem d_Mo_put_23 : decode b_Mo_put 23 = .ok (.sipush (12000), 3) := by decide +kernel
theorem d_Mo_put_26 : decode b_Mo_put 26 = .ok (.if_icmp .le (7), 3) := by decide +kernel
theorem d_Mo_put_29 : decode b_Mo_put 29 = .ok (.iconst (2), 1) := by decide +kernel
theorem d_Mo_put_30 : decode b_Mo_put 30 = .ok (.goto (4), 3) := by decide +kernel
theorem d_Mo_put_33 : decode b_Mo_put 33 = .ok (.iconst (0), 1) := by decide +kernel
theorem d_Mo_put_34 : decode b_Mo_put 34 = .ok (.putfield 92, 3) := by decide +kernel
theorem d_Mo_put_37 : decode b_Mo_put 37 = .ok (.aload_n 0, 1) := by decide +kernel
theorem d_Mo_put_38 : decode b_Mo_put 38 = .ok (.getfield 92, 3) := by decide +kernel
theorem d_Mo_put_41 : decode b_Mo_put 41 = .ok (.ifCond .le (5), 3) := by decide +kernel
theorem d_Mo_put_44 : decode b_Mo_put 44 = .ok (.iconst (0), 1) := by decide +kernel
theorem d_Mo_put_45 : decode b_Mo_put 45 = .ok (.ireturn, 1) := by decide +kernel
theorem d_Mo_put_46 : decode b_Mo_put 46 = .ok (.iload_n 1, 1) := by decide +kernel
theorem d_Mo_put_47 : decode b_Mo_put 47 = .ok (.istore 4, 2) := by decide +kernel
theorem d_Mo_put_49 : decode b_Mo_put 49 = .ok (.iconst (0), 1) := by decide +kernel
theorem d_Mo_put_50 : decode b_Mo_put 50 = .ok (.istore 5, 2) := by decide +kernel
theorem d_Mo_put_52 : decode b_Mo_put 52 = .ok (.iload 5, 2) := by decide +kernel
theorem d_Mo_put_54 : decode b_Mo_put 54 = .ok (.iload_n 3, 1) := by decide +kernel
theorem d_Mo_put_55 : decode b_Mo_put 55 = .ok (.if_icmp .ge (43), 3) := by decide +kernel
theorem d_Mo_put_58 : decode b_Mo_put 58 = .ok (.aload_n 0, 1) := by decide +kernel
theorem d_Mo_put_59 : decode b_Mo_put 59 = .ok (.getfield 7, 3) := by decide +kernel
theorem d_Mo_put_62 : decode b_Mo_put 62 = .ok (.aload_n 0, 1) := by decide +kernel
theorem d_Mo_put_63 : decode b_Mo_put 63 = .ok (.getfield 98, 3) := by decide +kernel
theorem d_Mo_put_66 : decode b_Mo_put 66 = .ok (.iload 4, 2) := by decide +kernel
theorem d_Mo_put_68 : decode b_Mo_put 68 = .ok (.aload_n 0, 1) := by decide +kernel
theorem d_Mo_put_69 : decode b_Mo_put 69 = .ok (.getfield 84, 3) := by decide +kernel
theorem d_Mo_put_72 : decode b_Mo_put 72 = .ok (.iconst (1), 1) := by decide +kernel
theorem d_Mo_put_73 : decode b_Mo_put 73 = .ok (.isub, 1) := by decide +kernel
theorem d_Mo_put_74 : decode b_Mo_put 74 = .ok (.iand, 1) := by decide +kernel
theorem d_Mo_put_75 : decode b_Mo_put 75 = .ok (.iastore, 1) := by decide +kernel
theorem d_Mo_put_76 : decode b_Mo_put 76 = .ok (.aload_n 0, 1) := by decide +kernel
theorem d_Mo_put_77 : decode b_Mo_put 77 = .ok (.dup, 1) := by decide +kernel
theorem d_Mo_put_78 : decode b_Mo_put 78 = .ok (.getfield 98, 3) := by decide +kernel
theorem d_Mo_put_81 : decode b_Mo_put 81 = .ok (.iconst (1), 1) := by decide +kernel
theorem d_Mo_put_82 : decode b_Mo_put 82 = .ok (.iadd, 1) := by decide +kernel
theorem d_Mo_put_83 : decode b_Mo_put 83 = .ok (.putfield 98, 3) := by decide +kernel
theorem d_Mo_put_86 : decode b_Mo_put 86 = .ok (.iload 4, 2) := by decide +kernel
theorem d_Mo_put_88 : decode b_Mo_put 88 = .ok (.iload_n 2, 1) := by decide +kernel
theorem d_Mo_put_89 : decode b_Mo_put 89 = .ok (.iadd, 1) := by decide +kernel
theorem d_Mo_put_90 : decode b_Mo_put 90 = .ok (.istore 4, 2) := by decide +kernel
theorem d_Mo_put_92 : decode b_Mo_put 92 = .ok (.iinc 5 (1), 3) := by decide +kernel
theorem d_Mo_put_95 : decode b_Mo_put 95 = .ok (.goto (-43), 3) := by decide +kernel
theorem d_Mo_put_98 : decode b_Mo_put 98 = .ok (.aload_n 0, 1) := by decide +kernel
theorem d_Mo_put_99 : decode b_Mo_put 99 = .ok (.getfield 98, 3) := by decide +kernel
theorem d_Mo_put_102 : decode b_Mo_put 102 = .ok (.ireturn, 1) := by decide +kernel
theorem d_Mo_rule_0 : decode b_Mo_rule 0 = .ok (.aload_n 0, 1) := by decide +kernel
theorem d_Mo_rule_1 : decode b_Mo_rule 1 = .ok (.iload_n 1, 1) := by decide +kernel
theorem d_Mo_rule_2 : decode b_Mo_rule 2 = .ok (.ifCond .lt (8), 3) := by decide +kernel
theorem d_Mo_rule_5 : decode b_Mo_rule 5 = .ok (.iload_n 1, 1) := by decide +kernel
theorem d_Mo_rule_6 : decode b_Mo_rule 6 = .ok (.iconst (2), 1) := by decide +kernel
theorem d_Mo_rule_7 : decode b_Mo_rule 7 = .ok (.if_icmp .le (7), 3) := by decide +kernel
theorem d_Mo_rule_10 : decode b_Mo_rule 10 = .ok (.iconst (1), 1) := by decide +kernel
theorem d_Mo_rule_11 : decode b_Mo_rule 11 = .ok (.goto (4), 3) := by decide +kernel
theorem d_Mo_rule_14 : decode b_Mo_rule 14 = .ok (.iconst (0), 1) := by decide +kernel
theorem d_Mo_rule_15 : decode b_Mo_rule 15 = .ok (.putfield 92, 3) := by decide +kernel
theorem d_Mo_rule_18 : decode b_Mo_rule 18 = .ok (.aload_n 0, 1) := by decide +kernel
theorem d_Mo_rule_19 : decode b_Mo_rule 19 = .ok (.getfield 92, 3) := by decide +kernel
theorem d_Mo_rule_22 : decode b_Mo_rule 22 = .ok (.ifCond .le (5), 3) := by decide +kernel
theorem d_Mo_rule_25 : decode b_Mo_rule 25 = .ok (.iconst (0), 1) := by decide +kernel
theorem d_Mo_rule_26 : decode b_Mo_rule 26 = .ok (.ireturn, 1) := by decide +kernel
theorem d_Mo_rule_27 : decode b_Mo_rule 27 = .ok (.aload_n 0, 1) := by decide +kernel
theorem d_Mo_rule_28 : decode b_Mo_rule 28 = .ok (.getfield 95, 3) := by decide +kernel
theorem d_Mo_rule_31 : decode b_Mo_rule 31 = .ok (.istore_n 2, 1) := by decide +kernel
theorem d_Mo_rule_32 : decode b_Mo_rule 32 = .ok (.aload_n 0, 1) := by decide +kernel
theorem d_Mo_rule_33 : decode b_Mo_rule 33 = .ok (.iload_n 1, 1) := by decide +kernel
theorem d_Mo_rule_34 : decode b_Mo_rule 34 = .ok (.putfield 95, 3) := by decide +kernel
theorem d_Mo_rule_37 : decode b_Mo_rule 37 = .ok (.iload_n 2, 1) := by decide +kernel
theorem d_Mo_rule_38 : decode b_Mo_rule 38 = .ok (.ireturn, 1) := by decide +kernel
theorem d_Mo_begin_0 : decode b_Mo_begin 0 = .ok (.aload_n 0, 1) := by decide +kernel
theorem d_Mo_begin_1 : decode b_Mo_begin 1 = .ok (.aload_n 0, 1) := by decide +kernel
theorem d_Mo_begin_2 : decode b_Mo_begin 2 = .ok (.getfield 87, 3) := by decide +kernel
theorem d_Mo_begin_5 : decode b_Mo_begin 5 = .ok (.iconst (1), 1) := by decide +kernel
theorem d_Mo_begin_6 : decode b_Mo_begin 6 = .ok (.iadd, 1) := by decide +kernel
theorem d_Mo_begin_7 : decode b_Mo_begin 7 = .ok (.putfield 113, 3) := by decide +kernel
theorem d_Mo_begin_10 : decode b_Mo_begin 10 = .ok (.aload_n 0, 1) := by decide +kernel
theorem d_Mo_begin_11 : decode b_Mo_begin 11 = .ok (.aload_n 0, 1) := by decide +kernel
theorem d_Mo_begin_12 : decode b_Mo_begin 12 = .ok (.getfield 80, 3) := by decide +kernel
theorem d_Mo_begin_15 : decode b_Mo_begin 15 = .ok (.iconst (1), 1) := by decide +kernel
theorem d_Mo_begin_16 : decode b_Mo_begin 16 = .ok (.iadd, 1) := by decide +kernel
theorem d_Mo_begin_17 : decode b_Mo_begin 17 = .ok (.putfield 116, 3) := by decide +kernel
theorem d_Mo_begin_20 : decode b_Mo_begin 20 = .ok (.aload_n 0, 1) := by decide +kernel
theorem d_Mo_begin_21 : decode b_Mo_begin 21 = .ok (.iconst (0), 1) := by decide +kernel
theorem d_Mo_begin_22 : decode b_Mo_begin 22 = .ok (.putfield 119, 3) := by decide +kernel
theorem d_Mo_begin_25 : decode b_Mo_begin 25 = .ok (.iconst (0), 1) := by decide +kernel
theorem d_Mo_begin_26 : decode b_Mo_begin 26 = .ok (.istore_n 1, 1) := by decide +kernel
theorem d_Mo_begin_27 : decode b_Mo_begin 27 = .ok (.iload_n 1, 1) := by decide +kernel
theorem d_Mo_begin_28 : decode b_Mo_begin 28 = .ok (.sipush (4096), 3) := by decide +kernel
theorem d_Mo_begin_31 : decode b_Mo_begin 31 = .ok (.if_icmp .ge (16), 3) := by decide +kernel
theorem d_Mo_begin_34 : decode b_Mo_begin 34 = .ok (.aload_n 0, 1) := by decide +kernel
theorem d_Mo_begin_35 : decode b_Mo_begin 35 = .ok (.getfield 35, 3) := by decide +kernel
theorem d_Mo_begin_38 : decode b_Mo_begin 38 = .ok (.iload_n 1, 1) := by decide +kernel
theorem d_Mo_begin_39 : decode b_Mo_begin 39 = .ok (.iconst (-1), 1) := by decide +kernel
theorem d_Mo_begin_40 : decode b_Mo_begin 40 = .ok (.iastore, 1) := by decide +kernel
theorem d_Mo_begin_41 : decode b_Mo_begin 41 = .ok (.iinc 1 (1), 3) := by decide +kernel
theorem d_Mo_begin_44 : decode b_Mo_begin 44 = .ok (.goto (-17), 3) := by decide +kernel
theorem d_Mo_begin_47 : decode b_Mo_begin 47 = .ok (.iconst (0), 1) := by decide +kernel
theorem d_Mo_begin_48 : decode b_Mo_begin 48 = .ok (.istore_n 1, 1) := by decide +kernel
theorem d_Mo_begin_49 : decode b_Mo_begin 49 = .ok (.iload_n 1, 1) := by decide +kernel
theorem d_Mo_begin_50 : decode b_Mo_begin 50 = .ok (.aload_n 0, 1) := by decide +kernel
theorem d_Mo_begin_51 : decode b_Mo_begin 51 = .ok (.getfield 84, 3) := by decide +kernel
theorem d_Mo_begin_54 : decode b_Mo_begin 54 = .ok (.if_icmp .ge (30), 3) := by decide +kernel
theorem d_Mo_begin_57 : decode b_Mo_begin 57 = .ok (.aload_n 0, 1) := by decide +kernel
theorem d_Mo_begin_58 : decode b_Mo_begin 58 = .ok (.getfield 26, 3) := by decide +kernel
theorem d_Mo_begin_61 : decode b_Mo_begin 61 = .ok (.iload_n 1, 1) := by decide +kernel
theorem d_Mo_begin_62 : decode b_Mo_begin 62 = .ok (.iconst (-1), 1) := by decide +kernel
theorem d_Mo_begin_63 : decode b_Mo_begin 63 = .ok (.iastore, 1) := by decide +kernel
theorem d_Mo_begin_64 : decode b_Mo_begin 64 = .ok (.aload_n 0, 1) := by decide +kernel
theorem d_Mo_begin_65 : decode b_Mo_begin 65 = .ok (.getfield 29, 3) := by decide +kernel
theorem d_Mo_begin_68 : decode b_Mo_begin 68 = .ok (.iload_n 1, 1) := by decide +kernel
theorem d_Mo_begin_69 : decode b_Mo_begin 69 = .ok (.iload_n 1, 1) := by decide +kernel
theorem d_Mo_begin_70 : decode b_Mo_begin 70 = .ok (.iastore, 1) := by decide +kernel
theorem d_Mo_begin_71 : decode b_Mo_begin 71 = .ok (.aload_n 0, 1) := by decide +kernel
theorem d_Mo_begin_72 : decode b_Mo_begin 72 = .ok (.getfield 32, 3) := by decide +kernel
theorem d_Mo_begin_75 : decode b_Mo_begin 75 = .ok (.iload_n 1, 1) := by decide +kernel
theorem d_Mo_begin_76 : decode b_Mo_begin 76 = .ok (.iconst (1), 1) := by decide +kernel
theorem d_Mo_begin_77 : decode b_Mo_begin 77 = .ok (.iastore, 1) := by decide +kernel
theorem d_Mo_begin_78 : decode b_Mo_begin 78 = .ok (.iinc 1 (1), 3) := by decide +kernel
theorem d_Mo_begin_81 : decode b_Mo_begin 81 = .ok (.goto (-32), 3) := by decide +kernel
theorem d_Mo_begin_84 : decode b_Mo_begin 84 = .ok (.return_, 1) := by decide +kernel
theorem d_Mo_enter_0 : decode b_Mo_enter 0 = .ok (.aload_n 0, 1) := by decide +kernel
theorem d_Mo_enter_1 : decode b_Mo_enter 1 = .ok (.getfield 113, 3) := by decide +kernel
theorem d_Mo_enter_4 : decode b_Mo_enter 4 = .ok (.sipush (4096), 3) := by decide +kernel
theorem d_Mo_enter_7 : decode b_Mo_enter 7 = .ok (.if_icmp .ge (75), 3) := by decide +kernel
theorem d_Mo_enter_10 : decode b_Mo_enter 10 = .ok (.aload_n 0, 1) := by decide +kernel
theorem d_Mo_enter_11 : decode b_Mo_enter 11 = .ok (.getfield 26, 3) := by decide +kernel
theorem d_Mo_enter_14 : decode b_Mo_enter 14 = .ok (.aload_n 0, 1) := by decide +kernel
theorem d_Mo_enter_15 : decode b_Mo_enter 15 = .ok (.getfield 113, 3) := by decide +kernel
theorem d_Mo_enter_18 : decode b_Mo_enter 18 = .ok (.iload_n 1, 1) := by decide +kernel
theorem d_Mo_enter_19 : decode b_Mo_enter 19 = .ok (.iastore, 1) := by decide +kernel
theorem d_Mo_enter_20 : decode b_Mo_enter 20 = .ok (.aload_n 0, 1) := by decide +kernel
theorem d_Mo_enter_21 : decode b_Mo_enter 21 = .ok (.getfield 29, 3) := by decide +kernel
theorem d_Mo_enter_24 : decode b_Mo_enter 24 = .ok (.aload_n 0, 1) := by decide +kernel
theorem d_Mo_enter_25 : decode b_Mo_enter 25 = .ok (.getfield 113, 3) := by decide +kernel
theorem d_Mo_enter_28 : decode b_Mo_enter 28 = .ok (.iload_n 2, 1) := by decide +kernel
theorem d_Mo_enter_29 : decode b_Mo_enter 29 = .ok (.iastore, 1) := by decide +kernel
theorem d_Mo_enter_30 : decode b_Mo_enter 30 = .ok (.aload_n 0, 1) := by decide +kernel
theorem d_Mo_enter_31 : decode b_Mo_enter 31 = .ok (.getfield 32, 3) := by decide +kernel
theorem d_Mo_enter_34 : decode b_Mo_enter 34 = .ok (.aload_n 0, 1) := by decide +kernel
theorem d_Mo_enter_35 : decode b_Mo_enter 35 = .ok (.getfield 113, 3) := by decide +kernel
theorem d_Mo_enter_38 : decode b_Mo_enter 38 = .ok (.aload_n 0, 1) := by decide +kernel
theorem d_Mo_enter_39 : decode b_Mo_enter 39 = .ok (.getfield 32, 3) := by decide +kernel
theorem d_Mo_enter_42 : decode b_Mo_enter 42 = .ok (.iload_n 1, 1) := by decide +kernel
theorem d_Mo_enter_43 : decode b_Mo_enter 43 = .ok (.iaload, 1) := by decide +kernel
theorem d_Mo_enter_44 : decode b_Mo_enter 44 = .ok (.iconst (1), 1) := by decide +kernel
theorem d_Mo_enter_45 : decode b_Mo_enter 45 = .ok (.iadd, 1) := by decide +kernel
theorem d_Mo_enter_46 : decode b_Mo_enter 46 = .ok (.iastore, 1) := by decide +kernel
theorem d_Mo_enter_47 : decode b_Mo_enter 47 = .ok (.aload_n 0, 1) := by decide +kernel
theorem d_Mo_enter_48 : decode b_Mo_enter 48 = .ok (.getfield 38, 3) := by decide +kernel
theorem d_Mo_enter_51 : decode b_Mo_enter 51 = .ok (.aload_n 0, 1) := by decide +kernel
theorem d_Mo_enter_52 : decode b_Mo_enter 52 = .ok (.getfield 113, 3) := by decide +kernel
theorem d_Mo_enter_55 : decode b_Mo_enter 55 = .ok (.aload_n 0, 1) := by decide +kernel
theorem d_Mo_enter_56 : decode b_Mo_enter 56 = .ok (.getfield 35, 3) := by decide +kernel
theorem d_Mo_enter_59 : decode b_Mo_enter 59 = .ok (.iload_n 1, 1) := by decide +kernel
theorem d_Mo_enter_60 : decode b_Mo_enter 60 = .ok (.iaload, 1) := by decide +kernel
theorem d_Mo_enter_61 : decode b_Mo_enter 61 = .ok (.iastore, 1) := by decide +kernel
theorem d_Mo_enter_62 : decode b_Mo_enter 62 = .ok (.aload_n 0, 1) := by decide +kernel
theorem d_Mo_enter_63 : decode b_Mo_enter 63 = .ok (.getfield 35, 3) := by decide +kernel
theorem d_Mo_enter_66 : decode b_Mo_enter 66 = .ok (.iload_n 1, 1) := by decide +kernel
theorem d_Mo_enter_67 : decode b_Mo_enter 67 = .ok (.aload_n 0, 1) := by decide +kernel
theorem d_Mo_enter_68 : decode b_Mo_enter 68 = .ok (.getfield 113, 3) := by decide +kernel
theorem d_Mo_enter_71 : decode b_Mo_enter 71 = .ok (.iastore, 1) := by decide +kernel
theorem d_Mo_enter_72 : decode b_Mo_enter 72 = .ok (.aload_n 0, 1) := by decide +kernel
theorem d_Mo_enter_73 : decode b_Mo_enter 73 = .ok (.dup, 1) := by decide +kernel
theorem d_Mo_enter_74 : decode b_Mo_enter 74 = .ok (.getfield 113, 3) := by decide +kernel
theorem d_Mo_enter_77 : decode b_Mo_enter 77 = .ok (.iconst (1), 1) := by decide +kernel
theorem d_Mo_enter_78 : decode b_Mo_enter 78 = .ok (.iadd, 1) := by decide +kernel
theorem d_Mo_enter_79 : decode b_Mo_enter 79 = .ok (.putfield 113, 3) := by decide +kernel
theorem d_Mo_enter_82 : decode b_Mo_enter 82 = .ok (.return_, 1) := by decide +kernel
theorem d_Mo_childOf_0 : decode b_Mo_childOf 0 = .ok (.aload_n 0, 1) := by decide +kernel
theorem d_Mo_childOf_1 : decode b_Mo_childOf 1 = .ok (.getfield 35, 3) := by decide +kernel
theorem d_Mo_childOf_4 : decode b_Mo_childOf 4 = .ok (.iload_n 1, 1) := by decide +kernel
theorem d_Mo_childOf_5 : decode b_Mo_childOf 5 = .ok (.iaload, 1) := by decide +kernel
theorem d_Mo_childOf_6 : decode b_Mo_childOf 6 = .ok (.istore_n 3, 1) := by decide +kernel
theorem d_Mo_childOf_7 : decode b_Mo_childOf 7 = .ok (.iload_n 3, 1) := by decide +kernel
theorem d_Mo_childOf_8 : decode b_Mo_childOf 8 = .ok (.ifCond .lt (23), 3) := by decide +kernel
theorem d_Mo_childOf_11 : decode b_Mo_childOf 11 = .ok (.aload_n 0, 1) := by decide +kernel
theorem d_Mo_childOf_12 : decode b_Mo_childOf 12 = .ok (.getfield 29, 3) := by decide +kernel
theorem d_Mo_childOf_15 : decode b_Mo_childOf 15 = .ok (.iload_n 3, 1) := by decide +kernel
theorem d_Mo_childOf_16 : decode b_Mo_childOf 16 = .ok (.iaload, 1) := by decide +kernel
theorem d_Mo_childOf_17 : decode b_Mo_childOf 17 = .ok (.iload_n 2, 1) := by decide +kernel
theorem d_Mo_childOf_18 : decode b_Mo_childOf 18 = .ok (.if_icmp .eq (13), 3) := by decide +kernel
theorem d_Mo_childOf_21 : decode b_Mo_childOf 21 = .ok (.aload_n 0, 1) := by decide +kernel
theorem d_Mo_childOf_22 : decode b_Mo_childOf 22 = .ok (.getfield 38, 3) := by decide +kernel
theorem d_Mo_childOf_25 : decode b_Mo_childOf 25 = .ok (.iload_n 3, 1) := by decide +kernel
theorem d_Mo_childOf_26 : decode b_Mo_childOf 26 = .ok (.iaload, 1) := by decide +kernel
theorem d_Mo_childOf_27 : decode b_Mo_childOf 27 = .ok (.istore_n 3, 1) := by decide +kernel
theorem d_Mo_childOf_28 : decode b_Mo_childOf 28 = .ok (.goto (-21), 3) := by decide +kernel
theorem d_Mo_childOf_31 : decode b_Mo_childOf 31 = .ok (.iload_n 3, 1) := by decide +kernel
theorem d_Mo_childOf_32 : decode b_Mo_childOf 32 = .ok (.ireturn, 1) := by decide +kernel
theorem d_Mo_widen_0 : decode b_Mo_widen 0 = .ok (.aload_n 0, 1) := by decide +kernel
theorem d_Mo_widen_1 : decode b_Mo_widen 1 = .ok (.dup, 1) := by decide +kernel
theorem d_Mo_widen_2 : decode b_Mo_widen 2 = .ok (.getfield 119, 3) := by decide +kernel
theorem d_Mo_widen_5 : decode b_Mo_widen 5 = .ok (.iconst (1), 1) := by decide +kernel
theorem d_Mo_widen_6 : decode b_Mo_widen 6 = .ok (.iadd, 1) := by decide +kernel
theorem d_Mo_widen_7 : decode b_Mo_widen 7 = .ok (.putfield 119, 3) := by decide +kernel
theorem d_Mo_widen_10 : decode b_Mo_widen 10 = .ok (.aload_n 0, 1) := by decide +kernel
theorem d_Mo_widen_11 : decode b_Mo_widen 11 = .ok (.getfield 116, 3) := by decide +kernel
theorem d_Mo_widen_14 : decode b_Mo_widen 14 = .ok (.bipush (12), 2) := by decide +kernel
theorem d_Mo_widen_16 : decode b_Mo_widen 16 = .ok (.if_icmp .ge (31), 3) := by decide +kernel
theorem d_Mo_widen_19 : decode b_Mo_widen 19 = .ok (.aload_n 0, 1) := by decide +kernel
theorem d_Mo_widen_20 : decode b_Mo_widen 20 = .ok (.getfield 87, 3) := by decide +kernel
theorem d_Mo_widen_23 : decode b_Mo_widen 23 = .ok (.aload_n 0, 1) := by decide +kernel
theorem d_Mo_widen_24 : decode b_Mo_widen 24 = .ok (.getfield 119, 3) := by decide +kernel
theorem d_Mo_widen_27 : decode b_Mo_widen 27 = .ok (.iadd, 1) := by decide +kernel
theorem d_Mo_widen_28 : decode b_Mo_widen 28 = .ok (.iconst (1), 1) := by decide +kernel
theorem d_Mo_widen_29 : decode b_Mo_widen 29 = .ok (.aload_n 0, 1) := by decide +kernel
theorem d_Mo_widen_30 : decode b_Mo_widen 30 = .ok (.getfield 116, 3) := by decide +kernel
theorem d_Mo_widen_33 : decode b_Mo_widen 33 = .ok (.ishl, 1) := by decide +kernel
theorem d_Mo_widen_34 : decode b_Mo_widen 34 = .ok (.if_icmp .ne (13), 3) := by decide +kernel
theorem d_Mo_widen_37 : decode b_Mo_widen 37 = .ok (.aload_n 0, 1) := by decide +kernel
theorem d_Mo_widen_38 : decode b_Mo_widen 38 = .ok (.dup, 1) := by decide +kernel
theorem d_Mo_widen_39 : decode b_Mo_widen 39 = .ok (.getfield 116, 3) := by decide +kernel
theorem d_Mo_widen_42 : decode b_Mo_widen 42 = .ok (.iconst (1), 1) := by decide +kernel
theorem d_Mo_widen_43 : decode b_Mo_widen 43 = .ok (.iadd, 1) := by decide +kernel
theorem d_Mo_widen_44 : decode b_Mo_widen 44 = .ok (.putfield 116, 3) := by decide +kernel
theorem d_Mo_widen_47 : decode b_Mo_widen 47 = .ok (.return_, 1) := by decide +kernel
theorem d_Mo_write_0 : decode b_Mo_write 0 = .ok (.iconst (0), 1) := by decide +kernel
theorem d_Mo_write_1 : decode b_Mo_write 1 = .ok (.istore_n 2, 1) := by decide +kernel
theorem d_Mo_write_2 : decode b_Mo_write 2 = .ok (.iload_n 2, 1) := by decide +kernel
theorem d_Mo_write_3 : decode b_Mo_write 3 = .ok (.aload_n 0, 1) := by decide +kernel
theorem d_Mo_write_4 : decode b_Mo_write 4 = .ok (.getfield 116, 3) := by decide +kernel
theorem d_Mo_write_7 : decode b_Mo_write 7 = .ok (.if_icmp .ge (71), 3) := by decide +kernel
theorem d_Mo_write_10 : decode b_Mo_write 10 = .ok (.aload_n 0, 1) := by decide +kernel
theorem d_Mo_write_11 : decode b_Mo_write 11 = .ok (.getfield 122, 3) := by decide +kernel
theorem d_Mo_write_14 : decode b_Mo_write 14 = .ok (.bipush (8), 2) := by decide +kernel
theorem d_Mo_write_16 : decode b_Mo_write 16 = .ok (.idiv, 1) := by decide +kernel
theorem d_Mo_write_17 : decode b_Mo_write 17 = .ok (.istore_n 3, 1) := by decide +kernel
theorem d_Mo_write_18 : decode b_Mo_write 18 = .ok (.aload_n 0, 1) := by decide +kernel
theorem d_Mo_write_19 : decode b_Mo_write 19 = .ok (.getfield 122, 3) := by decide +kernel
theorem d_Mo_write_22 : decode b_Mo_write 22 = .ok (.bipush (8), 2) := by decide +kernel
theorem d_Mo_write_24 : decode b_Mo_write 24 = .ok (.irem, 1) := by decide +kernel
theorem d_Mo_write_25 : decode b_Mo_write 25 = .ok (.ifCond .ne (10), 3) := by decide +kernel
theorem d_Mo_write_28 : decode b_Mo_write 28 = .ok (.aload_n 0, 1) := by decide +kernel
theorem d_Mo_write_29 : decode b_Mo_write 29 = .ok (.getfield 13, 3) := by decide +kernel
theorem d_Mo_write_32 : decode b_Mo_write 32 = .ok (.iload_n 3, 1) := by decide +kernel
theorem d_Mo_write_33 : decode b_Mo_write 33 = .ok (.iconst (0), 1) := by decide +kernel
theorem d_Mo_write_34 : decode b_Mo_write 34 = .ok (.bastore, 1) := by decide +kernel
theorem d_Mo_write_35 : decode b_Mo_write 35 = .ok (.aload_n 0, 1) := by decide +kernel
theorem d_Mo_write_36 : decode b_Mo_write 36 = .ok (.getfield 13, 3) := by decide +kernel
theorem d_Mo_write_39 : decode b_Mo_write 39 = .ok (.iload_n 3, 1) := by decide +kernel
theorem d_Mo_write_40 : decode b_Mo_write 40 = .ok (.aload_n 0, 1) := by decide +kernel
theorem d_Mo_write_41 : decode b_Mo_write 41 = .ok (.getfield 13, 3) := by decide +kernel
theorem d_Mo_write_44 : decode b_Mo_write 44 = .ok (.iload_n 3, 1) := by decide +kernel
theorem d_Mo_write_45 : decode b_Mo_write 45 = .ok (.baload, 1) := by decide +kernel
theorem d_Mo_write_46 : decode b_Mo_write 46 = .ok (.iload_n 1, 1) := by decide +kernel
theorem d_Mo_write_47 : decode b_Mo_write 47 = .ok (.iload_n 2, 1) := by decide +kernel
theorem d_Mo_write_48 : decode b_Mo_write 48 = .ok (.ishr, 1) := by decide +kernel
theorem d_Mo_write_49 : decode b_Mo_write 49 = .ok (.iconst (1), 1) := by decide +kernel
theorem d_Mo_write_50 : decode b_Mo_write 50 = .ok (.iand, 1) := by decide +kernel
theorem d_Mo_write_51 : decode b_Mo_write 51 = .ok (.aload_n 0, 1) := by decide +kernel
theorem d_Mo_write_52 : decode b_Mo_write 52 = .ok (.getfield 122, 3) := by decide +kernel
theorem d_Mo_write_55 : decode b_Mo_write 55 = .ok (.bipush (8), 2) := by decide +kernel
theorem d_Mo_write_57 : decode b_Mo_write 57 = .ok (.irem, 1) := by decide +kernel
theorem d_Mo_write_58 : decode b_Mo_write 58 = .ok (.ishl, 1) := by decide +kernel
theorem d_Mo_write_59 : decode b_Mo_write 59 = .ok (.ior, 1) := by decide +kernel
theorem d_Mo_write_60 : decode b_Mo_write 60 = .ok (.i2b, 1) := by decide +kernel
theorem d_Mo_write_61 : decode b_Mo_write 61 = .ok (.bastore, 1) := by decide +kernel
theorem d_Mo_write_62 : decode b_Mo_write 62 = .ok (.aload_n 0, 1) := by decide +kernel
theorem d_Mo_write_63 : decode b_Mo_write 63 = .ok (.dup, 1) := by decide +kernel
theorem d_Mo_write_64 : decode b_Mo_write 64 = .ok (.getfield 122, 3) := by decide +kernel
theorem d_Mo_write_67 : decode b_Mo_write 67 = .ok (.iconst (1), 1) := by decide +kernel
theorem d_Mo_write_68 : decode b_Mo_write 68 = .ok (.iadd, 1) := by decide +kernel
theorem d_Mo_write_69 : decode b_Mo_write 69 = .ok (.putfield 122, 3) := by decide +kernel
theorem d_Mo_write_72 : decode b_Mo_write 72 = .ok (.iinc 2 (1), 3) := by decide +kernel
theorem d_Mo_write_75 : decode b_Mo_write 75 = .ok (.goto (-73), 3) := by decide +kernel
theorem d_Mo_write_78 : decode b_Mo_write 78 = .ok (.aload_n 0, 1) := by decide +kernel
theorem d_Mo_write_79 : decode b_Mo_write 79 = .ok (.getfield 17, 3) := by decide +kernel
theorem d_Mo_write_82 : decode b_Mo_write 82 = .ok (.iconst (0), 1) := by decide +kernel
theorem d_Mo_write_83 : decode b_Mo_write 83 = .ok (.dup2, 1) := by decide +kernel
theorem d_Mo_write_84 : decode b_Mo_write 84 = .ok (.iaload, 1) := by decide +kernel
theorem d_Mo_write_85 : decode b_Mo_write 85 = .ok (.iconst (1), 1) := by decide +kernel
theorem d_Mo_write_86 : decode b_Mo_write 86 = .ok (.iadd, 1) := by decide +kernel
theorem d_Mo_write_87 : decode b_Mo_write 87 = .ok (.iastore, 1) := by decide +kernel
theorem d_Mo_write_88 : decode b_Mo_write 88 = .ok (.aload_n 0, 1) := by decide +kernel
theorem d_Mo_write_89 : decode b_Mo_write 89 = .ok (.getfield 17, 3) := by decide +kernel
theorem d_Mo_write_92 : decode b_Mo_write 92 = .ok (.iconst (2), 1) := by decide +kernel
theorem d_Mo_write_93 : decode b_Mo_write 93 = .ok (.aload_n 0, 1) := by decide +kernel
theorem d_Mo_write_94 : decode b_Mo_write 94 = .ok (.getfield 116, 3) := by decide +kernel
theorem d_Mo_write_97 : decode b_Mo_write 97 = .ok (.iastore, 1) := by decide +kernel
theorem d_Mo_write_98 : decode b_Mo_write 98 = .ok (.return_, 1) := by decide +kernel
theorem d_Mo_writeClear_0 : decode b_Mo_writeClear 0 = .ok (.aload_n 0, 1) := by decide +kernel
theorem d_Mo_writeClear_1 : decode b_Mo_writeClear 1 = .ok (.aload_n 0, 1) := by decide +kernel
theorem d_Mo_writeClear_2 : decode b_Mo_writeClear 2 = .ok (.getfield 84, 3) := by decide +kernel
theorem d_Mo_writeClear_5 : decode b_Mo_writeClear 5 = .ok (.invokevirtual 125, 3) := by decide +kernel
theorem d_Mo_writeClear_8 : decode b_Mo_writeClear 8 = .ok (.aload_n 0, 1) := by decide +kernel
theorem d_Mo_writeClear_9 : decode b_Mo_writeClear 9 = .ok (.getfield 17, 3) := by decide +kernel
theorem d_Mo_writeClear_12 : decode b_Mo_writeClear 12 = .ok (.iconst (1), 1) := by decide +kernel
theorem d_Mo_writeClear_13 : decode b_Mo_writeClear 13 = .ok (.dup2, 1) := by decide +kernel
theorem d_Mo_writeClear_14 : decode b_Mo_writeClear 14 = .ok (.iaload, 1) := by decide +kernel
theorem d_Mo_writeClear_15 : decode b_Mo_writeClear 15 = .ok (.iconst (1), 1) := by decide +kernel
theorem d_Mo_writeClear_16 : decode b_Mo_writeClear 16 = .ok (.iadd, 1) := by decide +kernel
theorem d_Mo_writeClear_17 : decode b_Mo_writeClear 17 = .ok (.iastore, 1) := by decide +kernel
theorem d_Mo_writeClear_18 : decode b_Mo_writeClear 18 = .ok (.aload_n 0, 1) := by decide +kernel
theorem d_Mo_writeClear_19 : decode b_Mo_writeClear 19 = .ok (.invokevirtual 129, 3) := by decide +kernel
theorem d_Mo_writeClear_22 : decode b_Mo_writeClear 22 = .ok (.return_, 1) := by decide +kernel
theorem d_Mo_encode_0 : decode b_Mo_encode 0 = .ok (.aload_n 0, 1) := by decide +kernel
theorem d_Mo_encode_1 : decode b_Mo_encode 1 = .ok (.iconst (0), 1) := by decide +kernel
theorem d_Mo_encode_2 : decode b_Mo_encode 2 = .ok (.putfield 92, 3) := by decide +kernel
theorem d_Mo_encode_5 : decode b_Mo_encode 5 = .ok (.aload_n 0, 1) := by decide +kernel
theorem d_Mo_encode_6 : decode b_Mo_encode 6 = .ok (.iconst (0), 1) := by decide +kernel
theorem d_Mo_encode_7 : decode b_Mo_encode 7 = .ok (.putfield 122, 3) := by decide +kernel
theorem d_Mo_encode_10 : decode b_Mo_encode 10 = .ok (.iconst (0), 1) := by decide +kernel
theorem d_Mo_encode_11 : decode b_Mo_encode 11 = .ok (.istore_n 1, 1) := by decide +kernel
theorem d_Mo_encode_12 : decode b_Mo_encode 12 = .ok (.iload_n 1, 1) := by decide +kernel
theorem d_Mo_encode_13 : decode b_Mo_encode 13 = .ok (.iconst (4), 1) := by decide +kernel
theorem d_Mo_encode_14 : decode b_Mo_encode 14 = .ok (.if_icmp .ge (16), 3) := by decide +kernel
theorem d_Mo_encode_17 : decode b_Mo_encode 17 = .ok (.aload_n 0, 1) := by decide +kernel
theorem d_Mo_encode_18 : decode b_Mo_encode 18 = .ok (.getfield 17, 3) := by decide +kernel
theorem d_Mo_encode_21 : decode b_Mo_encode 21 = .ok (.iload_n 1, 1) := by decide +kernel
theorem d_Mo_encode_22 : decode b_Mo_encode 22 = .ok (.iconst (0), 1) := by decide +kernel
theorem d_Mo_encode_23 : decode b_Mo_encode 23 = .ok (.iastore, 1) := by decide +kernel
theorem d_Mo_encode_24 : decode b_Mo_encode 24 = .ok (.iinc 1 (1), 3) := by decide +kernel
theorem d_Mo_encode_27 : decode b_Mo_encode 27 = .ok (.goto (-15), 3) := by decide +kernel
theorem d_Mo_encode_30 : decode b_Mo_encode 30 = .ok (.aload_n 0, 1) := by decide +kernel
theorem d_Mo_encode_31 : decode b_Mo_encode 31 = .ok (.invokevirtual 129, 3) := by decide +kernel
theorem d_Mo_encode_34 : decode b_Mo_encode 34 = .ok (.aload_n 0, 1) := by decide +kernel
theorem d_Mo_encode_35 : decode b_Mo_encode 35 = .ok (.invokevirtual 132, 3) := by decide +kernel
theorem d_Mo_encode_38 : decode b_Mo_encode 38 = .ok (.iconst (0), 1) := by decide +kernel
theorem d_Mo_encode_39 : decode b_Mo_encode 39 = .ok (.istore_n 1, 1) := by decide +kernel
theorem d_Mo_encode_40 : decode b_Mo_encode 40 = .ok (.iconst (0), 1) := by decide +kernel
theorem d_Mo_encode_41 : decode b_Mo_encode 41 = .ok (.istore_n 2, 1) := by decide +kernel
theorem d_Mo_encode_42 : decode b_Mo_encode 42 = .ok (.iconst (0), 1) := by decide +kernel
theorem d_Mo_encode_43 : decode b_Mo_encode 43 = .ok (.istore_n 3, 1) := by decide +kernel
theorem d_Mo_encode_44 : decode b_Mo_encode 44 = .ok (.iload_n 1, 1) := by decide +kernel
theorem d_Mo_encode_45 : decode b_Mo_encode 45 = .ok (.aload_n 0, 1) := by decide +kernel
theorem d_Mo_encode_46 : decode b_Mo_encode 46 = .ok (.getfield 98, 3) := by decide +kernel
theorem d_Mo_encode_49 : decode b_Mo_encode 49 = .ok (.if_icmp .ge (242), 3) := by decide +kernel
theorem d_Mo_encode_52 : decode b_Mo_encode 52 = .ok (.aload_n 0, 1) := by decide +kernel
theorem d_Mo_encode_53 : decode b_Mo_encode 53 = .ok (.getfield 113, 3) := by decide +kernel
theorem d_Mo_encode_56 : decode b_Mo_encode 56 = .ok (.sipush (4096), 3) := by decide +kernel
theorem d_Mo_encode_59 : decode b_Mo_encode 59 = .ok (.if_icmp .ne (7), 3) := by decide +kernel
theorem d_Mo_encode_62 : decode b_Mo_encode 62 = .ok (.iconst (1), 1) := by decide +kernel
theorem d_Mo_encode_63 : decode b_Mo_encode 63 = .ok (.goto (4), 3) := by decide +kernel
theorem d_Mo_encode_66 : decode b_Mo_encode 66 = .ok (.iconst (0), 1) := by decide +kernel
theorem d_Mo_encode_67 : decode b_Mo_encode 67 = .ok (.istore 4, 2) := by decide +kernel
theorem d_Mo_encode_69 : decode b_Mo_encode 69 = .ok (.aload_n 0, 1) := by decide +kernel
theorem d_Mo_encode_70 : decode b_Mo_encode 70 = .ok (.getfield 95, 3) := by decide +kernel
theorem d_Mo_encode_73 : decode b_Mo_encode 73 = .ok (.iconst (2), 1) := by decide +kernel
theorem d_Mo_encode_74 : decode b_Mo_encode 74 = .ok (.if_icmp .ne (18), 3) := by decide +kernel
theorem d_Mo_encode_77 : decode b_Mo_encode 77 = .ok (.iload 4, 2) := by decide +kernel
theorem d_Mo_encode_79 : decode b_Mo_encode 79 = .ok (.ifCond .eq (13), 3) := by decide +kernel
theorem d_Mo_encode_82 : decode b_Mo_encode 82 = .ok (.iload_n 2, 1) := by decide +kernel
theorem d_Mo_encode_83 : decode b_Mo_encode 83 = .ok (.bipush (64), 2) := by decide +kernel
theorem d_Mo_encode_85 : decode b_Mo_encode 85 = .ok (.if_icmp .ne (7), 3) := by decide +kernel
theorem d_Mo_encode_88 : decode b_Mo_encode 88 = .ok (.iconst (1), 1) := by decide +kernel
theorem d_Mo_encode_89 : decode b_Mo_encode 89 = .ok (.goto (4), 3) := by decide +kernel
theorem d_Mo_encode_92 : decode b_Mo_encode 92 = .ok (.iconst (0), 1) := by decide +kernel
theorem d_Mo_encode_93 : decode b_Mo_encode 93 = .ok (.istore 5, 2) := by decide +kernel
theorem d_Mo_encode_95 : decode b_Mo_encode 95 = .ok (.aload_n 0, 1) := by decide +kernel
theorem d_Mo_encode_96 : decode b_Mo_encode 96 = .ok (.getfield 95, 3) := by decide +kernel
theorem d_Mo_encode_99 : decode b_Mo_encode 99 = .ok (.ifCond .ne (8), 3) := by decide +kernel
theorem d_Mo_encode_102 : decode b_Mo_encode 102 = .ok (.iload 4, 2) := by decide +kernel
theorem d_Mo_encode_104 : decode b_Mo_encode 104 = .ok (.ifCond .ne (15), 3) := by decide +kernel
theorem d_Mo_encode_107 : decode b_Mo_encode 107 = .ok (.iload 5, 2) := by decide +kernel
theorem d_Mo_encode_109 : decode b_Mo_encode 109 = .ok (.ifCond .eq (17), 3) := by decide +kernel
theorem d_Mo_encode_112 : decode b_Mo_encode 112 = .ok (.iload_n 3, 1) := by decide +kernel
theorem d_Mo_encode_113 : decode b_Mo_encode 113 = .ok (.sipush (256), 3) := by decide +kernel
theorem d_Mo_encode_116 : decode b_Mo_encode 116 = .ok (.if_icmp .ge (10), 3) := by decide +kernel
theorem d_Mo_encode_119 : decode b_Mo_encode 119 = .ok (.aload_n 0, 1) := by decide +kernel
theorem d_Mo_encode_120 : decode b_Mo_encode 120 = .ok (.invokevirtual 132, 3) := by decide +kernel
theorem d_Mo_encode_123 : decode b_Mo_encode 123 = .ok (.iconst (0), 1) := by decide +kernel
theorem d_Mo_encode_124 : decode b_Mo_encode 124 = .ok (.istore 4, 2) := by decide +kernel
theorem d_Mo_encode_126 : decode b_Mo_encode 126 = .ok (.iload 5, 2) := by decide +kernel
theorem d_Mo_encode_128 : decode b_Mo_encode 128 = .ok (.ifCond .ne (8), 3) := by decide +kernel
theorem d_Mo_encode_131 : decode b_Mo_encode 131 = .ok (.iload 4, 2) := by decide +kernel
theorem d_Mo_encode_133 : decode b_Mo_encode 133 = .ok (.ifCond .ne (7), 3) := by decide +kernel
theorem d_Mo_encode_136 : decode b_Mo_encode 136 = .ok (.iconst (0), 1) := by decide +kernel
theorem d_Mo_encode_137 : decode b_Mo_encode 137 = .ok (.istore_n 2, 1) := by decide +kernel
theorem d_Mo_encode_138 : decode b_Mo_encode 138 = .ok (.iconst (0), 1) := by decide +kernel
theorem d_Mo_encode_139 : decode b_Mo_encode 139 = .ok (.istore_n 3, 1) := by decide +kernel
theorem d_Mo_encode_140 : decode b_Mo_encode 140 = .ok (.aload_n 0, 1) := by decide +kernel
theorem d_Mo_encode_141 : decode b_Mo_encode 141 = .ok (.getfield 7, 3) := by decide +kernel
theorem d_Mo_encode_144 : decode b_Mo_encode 144 = .ok (.iload_n 1, 1) := by decide +kernel
theorem d_Mo_encode_145 : decode b_Mo_encode 145 = .ok (.iaload, 1) := by decide +kernel
theorem d_Mo_encode_146 : decode b_Mo_encode 146 = .ok (.istore 6, 2) := by decide +kernel
theorem d_Mo_encode_148 : decode b_Mo_encode 148 = .ok (.iload_n 1, 1) := by decide +kernel
theorem d_Mo_encode_149 : decode b_Mo_encode 149 = .ok (.iconst (1), 1) := by decide +kernel
theorem d_Mo_encode_150 : decode b_Mo_encode 150 = .ok (.iadd, 1) := by decide +kernel
theorem d_Mo_encode_151 : decode b_Mo_encode 151 = .ok (.istore 7, 2) := by decide +kernel
theorem d_Mo_encode_153 : decode b_Mo_encode 153 = .ok (.iload 7, 2) := by decide +kernel
theorem d_Mo_encode_155 : decode b_Mo_encode 155 = .ok (.aload_n 0, 1) := by decide +kernel
theorem d_Mo_encode_156 : decode b_Mo_encode 156 = .ok (.getfield 98, 3) := by decide +kernel
theorem d_Mo_encode_159 : decode b_Mo_encode 159 = .ok (.if_icmp .ge (19), 3) := by decide +kernel
theorem d_Mo_encode_162 : decode b_Mo_encode 162 = .ok (.aload_n 0, 1) := by decide +kernel
theorem d_Mo_encode_163 : decode b_Mo_encode 163 = .ok (.iload 6, 2) := by decide +kernel
theorem d_Mo_encode_165 : decode b_Mo_encode 165 = .ok (.aload_n 0, 1) := by decide +kernel
theorem d_Mo_encode_166 : decode b_Mo_encode 166 = .ok (.getfield 7, 3) := by decide +kernel
theorem d_Mo_encode_169 : decode b_Mo_encode 169 = .ok (.iload 7, 2) := by decide +kernel
theorem d_Mo_encode_171 : decode b_Mo_encode 171 = .ok (.iaload, 1) := by decide +kernel
theorem d_Mo_encode_172 : decode b_Mo_encode 172 = .ok (.invokevirtual 135, 3) := by decide +kernel
theorem d_Mo_encode_175 : decode b_Mo_encode 175 = .ok (.goto (4), 3) := by decide +kernel
theorem d_Mo_encode_178 : decode b_Mo_encode 178 = .ok (.iconst (-1), 1) := by decide +kernel
theorem d_Mo_encode_179 : decode b_Mo_encode 179 = .ok (.istore 8, 2) := by decide +kernel
theorem d_Mo_encode_181 : decode b_Mo_encode 181 = .ok (.iload 8, 2) := by decide +kernel
theorem d_Mo_encode_183 : decode b_Mo_encode 183 = .ok (.ifCond .lt (41), 3) := by decide +kernel
theorem d_Mo_encode_186 : decode b_Mo_encode 186 = .ok (.iload 8, 2) := by decide +kernel
theorem d_Mo_encode_188 : decode b_Mo_encode 188 = .ok (.istore 6, 2) := by decide +kernel
theorem d_Mo_encode_190 : decode b_Mo_encode 190 = .ok (.iinc 7 (1), 3) := by decide +kernel
theorem d_Mo_encode_193 : decode b_Mo_encode 193 = .ok (.iload 7, 2) := by decide +kernel
theorem d_Mo_encode_195 : decode b_Mo_encode 195 = .ok (.aload_n 0, 1) := by decide +kernel
theorem d_Mo_encode_196 : decode b_Mo_encode 196 = .ok (.getfield 98, 3) := by decide +kernel
theorem d_Mo_encode_199 : decode b_Mo_encode 199 = .ok (.if_icmp .ge (19), 3) := by decide +kernel
theorem d_Mo_encode_202 : decode b_Mo_encode 202 = .ok (.aload_n 0, 1) := by decide +kernel
theorem d_Mo_encode_203 : decode b_Mo_encode 203 = .ok (.iload 6, 2) := by decide +kernel
theorem d_Mo_encode_205 : decode b_Mo_encode 205 = .ok (.aload_n 0, 1) := by decide +kernel
theorem d_Mo_encode_206 : decode b_Mo_encode 206 = .ok (.getfield 7, 3) := by decide +kernel
theorem d_Mo_encode_209 : decode b_Mo_encode 209 = .ok (.iload 7, 2) := by decide +kernel
theorem d_Mo_encode_211 : decode b_Mo_encode 211 = .ok (.iaload, 1) := by decide +kernel
theorem d_Mo_encode_212 : decode b_Mo_encode 212 = .ok (.invokevirtual 135, 3) := by decide +kernel
theorem d_Mo_encode_215 : decode b_Mo_encode 215 = .ok (.goto (4), 3) := by decide +kernel
theorem d_Mo_encode_218 : decode b_Mo_encode 218 = .ok (.iconst (-1), 1) := by decide +kernel
theorem d_Mo_encode_219 : decode b_Mo_encode 219 = .ok (.istore 8, 2) := by decide +kernel
theorem d_Mo_encode_221 : decode b_Mo_encode 221 = .ok (.goto (-40), 3) := by decide +kernel
theorem d_Mo_encode_224 : decode b_Mo_encode 224 = .ok (.aload_n 0, 1) := by decide +kernel
theorem d_Mo_encode_225 : decode b_Mo_encode 225 = .ok (.iload 6, 2) := by decide +kernel
theorem d_Mo_encode_227 : decode b_Mo_encode 227 = .ok (.invokevirtual 125, 3) := by decide +kernel
theorem d_Mo_encode_230 : decode b_Mo_encode 230 = .ok (.aload_n 0, 1) := by decide +kernel
theorem d_Mo_encode_231 : decode b_Mo_encode 231 = .ok (.invokevirtual 139, 3) := by decide +kernel
theorem d_Mo_encode_234 : decode b_Mo_encode 234 = .ok (.iload 7, 2) := by decide +kernel
theorem d_Mo_encode_236 : decode b_Mo_encode 236 = .ok (.aload_n 0, 1) := by decide +kernel
theorem d_Mo_encode_237 : decode b_Mo_encode 237 = .ok (.getfield 98, 3) := by decide +kernel
theorem d_Mo_encode_240 : decode b_Mo_encode 240 = .ok (.if_icmp .ge (16), 3) := by decide +kernel
theorem d_Mo_encode_243 : decode b_Mo_encode 243 = .ok (.aload_n 0, 1) := by decide +kernel
theorem d_Mo_encode_244 : decode b_Mo_encode 244 = .ok (.iload 6, 2) := by decide +kernel
theorem d_Mo_encode_246 : decode b_Mo_encode 246 = .ok (.aload_n 0, 1) := by decide +kernel
theorem d_Mo_encode_247 : decode b_Mo_encode 247 = .ok (.getfield 7, 3) := by decide +kernel
theorem d_Mo_encode_250 : decode b_Mo_encode 250 = .ok (.iload 7, 2) := by decide +kernel
theorem d_Mo_encode_252 : decode b_Mo_encode 252 = .ok (.iaload, 1) := by decide +kernel
theorem d_Mo_encode_253 : decode b_Mo_encode 253 = .ok (.invokevirtual 142, 3) := by decide +kernel
theorem d_Mo_encode_256 : decode b_Mo_encode 256 = .ok (.iload_n 2, 1) := by decide +kernel
theorem d_Mo_encode_257 : decode b_Mo_encode 257 = .ok (.iload 4, 2) := by decide +kernel
theorem d_Mo_encode_259 : decode b_Mo_encode 259 = .ok (.ifCond .eq (7), 3) := by decide +kernel
theorem d_Mo_encode_262 : decode b_Mo_encode 262 = .ok (.iconst (1), 1) := by decide +kernel
theorem d_Mo_encode_263 : decode b_Mo_encode 263 = .ok (.goto (4), 3) := by decide +kernel
theorem d_Mo_encode_266 : decode b_Mo_encode 266 = .ok (.iconst (0), 1) := by decide +kernel
theorem d_Mo_encode_267 : decode b_Mo_encode 267 = .ok (.iadd, 1) := by decide +kernel
theorem d_Mo_encode_268 : decode b_Mo_encode 268 = .ok (.istore_n 2, 1) := by decide +kernel
theorem d_Mo_encode_269 : decode b_Mo_encode 269 = .ok (.iload_n 3, 1) := by decide +kernel
theorem d_Mo_encode_270 : decode b_Mo_encode 270 = .ok (.iload 4, 2) := by decide +kernel
theorem d_Mo_encode_272 : decode b_Mo_encode 272 = .ok (.ifCond .eq (10), 3) := by decide +kernel
theorem d_Mo_encode_275 : decode b_Mo_encode 275 = .ok (.iload 7, 2) := by decide +kernel
theorem d_Mo_encode_277 : decode b_Mo_encode 277 = .ok (.iload_n 1, 1) := by decide +kernel
theorem d_Mo_encode_278 : decode b_Mo_encode 278 = .ok (.isub, 1) := by decide +kernel
theorem d_Mo_encode_279 : decode b_Mo_encode 279 = .ok (.goto (4), 3) := by decide +kernel
theorem d_Mo_encode_282 : decode b_Mo_encode 282 = .ok (.iconst (0), 1) := by decide +kernel
theorem d_Mo_encode_283 : decode b_Mo_encode 283 = .ok (.iadd, 1) := by decide +kernel
theorem d_Mo_encode_284 : decode b_Mo_encode 284 = .ok (.istore_n 3, 1) := by decide +kernel
theorem d_Mo_encode_285 : decode b_Mo_encode 285 = .ok (.iload 7, 2) := by decide +kernel
theorem d_Mo_encode_287 : decode b_Mo_encode 287 = .ok (.istore_n 1, 1) := by decide +kernel
theorem d_Mo_encode_288 : decode b_Mo_encode 288 = .ok (.goto (-244), 3) := by decide +kernel
theorem d_Mo_encode_291 : decode b_Mo_encode 291 = .ok (.aload_n 0, 1) := by decide +kernel
theorem d_Mo_encode_292 : decode b_Mo_encode 292 = .ok (.getfield 17, 3) := by decide +kernel
theorem d_Mo_encode_295 : decode b_Mo_encode 295 = .ok (.iconst (3), 1) := by decide +kernel
theorem d_Mo_encode_296 : decode b_Mo_encode 296 = .ok (.aload_n 0, 1) := by decide +kernel
theorem d_Mo_encode_297 : decode b_Mo_encode 297 = .ok (.getfield 113, 3) := by decide +kernel
theorem d_Mo_encode_300 : decode b_Mo_encode 300 = .ok (.aload_n 0, 1) := by decide +kernel
theorem d_Mo_encode_301 : decode b_Mo_encode 301 = .ok (.getfield 87, 3) := by decide +kernel
theorem d_Mo_encode_304 : decode b_Mo_encode 304 = .ok (.isub, 1) := by decide +kernel
theorem d_Mo_encode_305 : decode b_Mo_encode 305 = .ok (.iconst (1), 1) := by decide +kernel
theorem d_Mo_encode_306 : decode b_Mo_encode 306 = .ok (.isub, 1) := by decide +kernel
theorem d_Mo_encode_307 : decode b_Mo_encode 307 = .ok (.iastore, 1) := by decide +kernel
theorem d_Mo_encode_308 : decode b_Mo_encode 308 = .ok (.aload_n 0, 1) := by decide +kernel
theorem d_Mo_encode_309 : decode b_Mo_encode 309 = .ok (.aload_n 0, 1) := by decide +kernel
theorem d_Mo_encode_310 : decode b_Mo_encode 310 = .ok (.getfield 87, 3) := by decide +kernel
theorem d_Mo_encode_313 : decode b_Mo_encode 313 = .ok (.invokevirtual 125, 3) := by decide +kernel
theorem d_Mo_encode_316 : decode b_Mo_encode 316 = .ok (.aload_n 0, 1) := by decide +kernel
theorem d_Mo_encode_317 : decode b_Mo_encode 317 = .ok (.aload_n 0, 1) := by decide +kernel
theorem d_Mo_encode_318 : decode b_Mo_encode 318 = .ok (.getfield 122, 3) := by decide +kernel
theorem d_Mo_encode_321 : decode b_Mo_encode 321 = .ok (.bipush (7), 2) := by decide +kernel
theorem d_Mo_encode_323 : decode b_Mo_encode 323 = .ok (.iadd, 1) := by decide +kernel
theorem d_Mo_encode_324 : decode b_Mo_encode 324 = .ok (.bipush (8), 2) := by decide +kernel
theorem d_Mo_encode_326 : decode b_Mo_encode 326 = .ok (.idiv, 1) := by decide +kernel
theorem d_Mo_encode_327 : decode b_Mo_encode 327 = .ok (.putfield 101, 3) := by decide +kernel
theorem d_Mo_encode_330 : decode b_Mo_encode 330 = .ok (.aload_n 0, 1) := by decide +kernel
theorem d_Mo_encode_331 : decode b_Mo_encode 331 = .ok (.getfield 101, 3) := by decide +kernel
theorem d_Mo_encode_334 : decode b_Mo_encode 334 = .ok (.ireturn, 1) := by decide +kernel
theorem d_Mo_byteAt_0 : decode b_Mo_byteAt 0 = .ok (.aload_n 0, 1) := by decide +kernel
theorem d_Mo_byteAt_1 : decode b_Mo_byteAt 1 = .ok (.iload_n 1, 1) := by decide +kernel
theorem d_Mo_byteAt_2 : decode b_Mo_byteAt 2 = .ok (.ifCond .lt (11), 3) := by decide +kernel
theorem d_Mo_byteAt_5 : decode b_Mo_byteAt 5 = .ok (.iload_n 1, 1) := by decide +kernel
theorem d_Mo_byteAt_6 : decode b_Mo_byteAt 6 = .ok (.aload_n 0, 1) := by decide +kernel
theorem d_Mo_byteAt_7 : decode b_Mo_byteAt 7 = .ok (.getfield 101, 3) := by decide +kernel
theorem d_Mo_byteAt_10 : decode b_Mo_byteAt 10 = .ok (.if_icmp .lt (7), 3) := by decide +kernel
theorem d_Mo_byteAt_13 : decode b_Mo_byteAt 13 = .ok (.iconst (1), 1) := by decide +kernel
theorem d_Mo_byteAt_14 : decode b_Mo_byteAt 14 = .ok (.goto (4), 3) := by decide +kernel
theorem d_Mo_byteAt_17 : decode b_Mo_byteAt 17 = .ok (.iconst (0), 1) := by decide +kernel
theorem d_Mo_byteAt_18 : decode b_Mo_byteAt 18 = .ok (.putfield 92, 3) := by decide +kernel
theorem d_Mo_byteAt_21 : decode b_Mo_byteAt 21 = .ok (.aload_n 0, 1) := by decide +kernel
theorem d_Mo_byteAt_22 : decode b_Mo_byteAt 22 = .ok (.getfield 92, 3) := by decide +kernel
theorem d_Mo_byteAt_25 : decode b_Mo_byteAt 25 = .ok (.ifCond .le (7), 3) := by decide +kernel
theorem d_Mo_byteAt_28 : decode b_Mo_byteAt 28 = .ok (.iconst (0), 1) := by decide +kernel
theorem d_Mo_byteAt_29 : decode b_Mo_byteAt 29 = .ok (.goto (13), 3) := by decide +kernel
theorem d_Mo_byteAt_32 : decode b_Mo_byteAt 32 = .ok (.aload_n 0, 1) := by decide +kernel
theorem d_Mo_byteAt_33 : decode b_Mo_byteAt 33 = .ok (.getfield 13, 3) := by decide +kernel
theorem d_Mo_byteAt_36 : decode b_Mo_byteAt 36 = .ok (.iload_n 1, 1) := by decide +kernel
theorem d_Mo_byteAt_37 : decode b_Mo_byteAt 37 = .ok (.baload, 1) := by decide +kernel
theorem d_Mo_byteAt_38 : decode b_Mo_byteAt 38 = .ok (.sipush (255), 3) := by decide +kernel
theorem d_Mo_byteAt_41 : decode b_Mo_byteAt 41 = .ok (.iand, 1) := by decide +kernel
theorem d_Mo_byteAt_42 : decode b_Mo_byteAt 42 = .ok (.ireturn, 1) := by decide +kernel
theorem d_Mo_coded_0 : decode b_Mo_coded 0 = .ok (.aload_n 0, 1) := by decide +kernel
theorem d_Mo_coded_1 : decode b_Mo_coded 1 = .ok (.iconst (0), 1) := by decide +kernel
theorem d_Mo_coded_2 : decode b_Mo_coded 2 = .ok (.putfield 92, 3) := by decide +kernel
theorem d_Mo_coded_5 : decode b_Mo_coded 5 = .ok (.iload_n 1, 1) := by decide +kernel
theorem d_Mo_coded_6 : decode b_Mo_coded 6 = .ok (.ifCond .lt (8), 3) := by decide +kernel
theorem d_Mo_coded_9 : decode b_Mo_coded 9 = .ok (.iload_n 1, 1) := by decide +kernel
theorem d_Mo_coded_10 : decode b_Mo_coded 10 = .ok (.iconst (3), 1) := by decide +kernel
theorem d_Mo_coded_11 : decode b_Mo_coded 11 = .ok (.if_icmp .le (7), 3) := by decide +kernel
theorem d_Mo_coded_14 : decode b_Mo_coded 14 = .ok (.iconst (-1), 1) := by decide +kernel
theorem d_Mo_coded_15 : decode b_Mo_coded 15 = .ok (.goto (9), 3) := by decide +kernel
theorem d_Mo_coded_18 : decode b_Mo_coded 18 = .ok (.aload_n 0, 1) := by decide +kernel
theorem d_Mo_coded_19 : decode b_Mo_coded 19 = .ok (.getfield 17, 3) := by decide +kernel
theorem d_Mo_coded_22 : decode b_Mo_coded 22 = .ok (.iload_n 1, 1) := by decide +kernel
theorem d_Mo_coded_23 : decode b_Mo_coded 23 = .ok (.iaload, 1) := by decide +kernel
theorem d_Mo_coded_24 : decode b_Mo_coded 24 = .ok (.ireturn, 1) := by decide +kernel
