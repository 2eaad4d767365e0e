theorem d_Sc_addFrame_0 : decode b_Sc_addFrame 0 = .ok (.aload_n 0, 1) := by decide +kernel
theorem d_Sc_addFrame_1 : decode b_Sc_addFrame 1 = .ok (.getfield 27, 3) := by decide +kernel
theorem d_Sc_addFrame_4 : decode b_Sc_addFrame 4 = .ok (.bipush (11), 2) := by decide +kernel
theorem d_Sc_addFrame_6 : decode b_Sc_addFrame 6 = .ok (.invokestatic 31, 3) := by decide +kernel
theorem d_Sc_addFrame_9 : decode b_Sc_addFrame 9 = .ok (.istore_n 1, 1) := by decide +kernel
theorem d_Sc_addFrame_10 : decode b_Sc_addFrame 10 = .ok (.aload_n 0, 1) := by decide +kernel
theorem d_Sc_addFrame_11 : decode b_Sc_addFrame 11 = .ok (.getfield 11, 3) := by decide +kernel
theorem d_Sc_addFrame_14 : decode b_Sc_addFrame 14 = .ok (.iload_n 1, 1) := by decide +kernel
theorem d_Sc_addFrame_15 : decode b_Sc_addFrame 15 = .ok (.aaload, 1) := by decide +kernel
theorem d_Sc_addFrame_16 : decode b_Sc_addFrame 16 = .ok (.invokevirtual 37, 3) := by decide +kernel
theorem d_Sc_addFrame_19 : decode b_Sc_addFrame 19 = .ok (.aload_n 0, 1) := by decide +kernel
theorem d_Sc_addFrame_20 : decode b_Sc_addFrame 20 = .ok (.iload_n 1, 1) := by decide +kernel
theorem d_Sc_addFrame_21 : decode b_Sc_addFrame 21 = .ok (.iconst (1), 1) := by decide +kernel
theorem d_Sc_addFrame_22 : decode b_Sc_addFrame 22 = .ok (.iadd, 1) := by decide +kernel
theorem d_Sc_addFrame_23 : decode b_Sc_addFrame 23 = .ok (.putfield 27, 3) := by decide +kernel
theorem d_Sc_addFrame_26 : decode b_Sc_addFrame 26 = .ok (.aload_n 0, 1) := by decide +kernel
theorem d_Sc_addFrame_27 : decode b_Sc_addFrame 27 = .ok (.getfield 11, 3) := by decide +kernel
theorem d_Sc_addFrame_30 : decode b_Sc_addFrame 30 = .ok (.iload_n 1, 1) := by decide +kernel
theorem d_Sc_addFrame_31 : decode b_Sc_addFrame 31 = .ok (.aaload, 1) := by decide +kernel
theorem d_Sc_addFrame_32 : decode b_Sc_addFrame 32 = .ok (.areturn, 1) := by decide +kernel
theorem d_Sc_forget_0 : decode b_Sc_forget 0 = .ok (.aload_n 0, 1) := by decide +kernel
theorem d_Sc_forget_1 : decode b_Sc_forget 1 = .ok (.iconst (0), 1) := by decide +kernel
theorem d_Sc_forget_2 : decode b_Sc_forget 2 = .ok (.putfield 27, 3) := by decide +kernel
theorem d_Sc_forget_5 : decode b_Sc_forget 5 = .ok (.aload_n 0, 1) := by decide +kernel
theorem d_Sc_forget_6 : decode b_Sc_forget 6 = .ok (.getfield 22, 3) := by decide +kernel
theorem d_Sc_forget_9 : decode b_Sc_forget 9 = .ok (.invokevirtual 40, 3) := by decide +kernel
theorem d_Sc_forget_12 : decode b_Sc_forget 12 = .ok (.return_, 1) := by decide +kernel
theorem d_Sc_colourBehind_0 : decode b_Sc_colourBehind 0 = .ok (.aload_n 0, 1) := by decide +kernel
theorem d_Sc_colourBehind_1 : decode b_Sc_colourBehind 1 = .ok (.iload_n 1, 1) := by decide +kernel
theorem d_Sc_colourBehind_2 : decode b_Sc_colourBehind 2 = .ok (.iload_n 2, 1) := by decide +kernel
theorem d_Sc_colourBehind_3 : decode b_Sc_colourBehind 3 = .ok (.iload_n 3, 1) := by decide +kernel
theorem d_Sc_colourBehind_4 : decode b_Sc_colourBehind 4 = .ok (.invokevirtual 41, 3) := by decide +kernel
theorem d_Sc_colourBehind_7 : decode b_Sc_colourBehind 7 = .ok (.istore 4, 2) := by decide +kernel
theorem d_Sc_colourBehind_9 : decode b_Sc_colourBehind 9 = .ok (.iload 4, 2) := by decide +kernel
theorem d_Sc_colourBehind_11 : decode b_Sc_colourBehind 11 = .ok (.iconst (-1), 1) := by decide +kernel
theorem d_Sc_colourBehind_12 : decode b_Sc_colourBehind 12 = .ok (.if_icmp .ne (5), 3) := by decide +kernel
theorem d_Sc_colourBehind_15 : decode b_Sc_colourBehind 15 = .ok (.iconst (-1), 1) := by decide +kernel
theorem d_Sc_colourBehind_16 : decode b_Sc_colourBehind 16 = .ok (.ireturn, 1) := by decide +kernel
theorem d_Sc_colourBehind_17 : decode b_Sc_colourBehind 17 = .ok (.aload_n 0, 1) := by decide +kernel
theorem d_Sc_colourBehind_18 : decode b_Sc_colourBehind 18 = .ok (.getfield 11, 3) := by decide +kernel
theorem d_Sc_colourBehind_21 : decode b_Sc_colourBehind 21 = .ok (.iload 4, 2) := by decide +kernel
theorem d_Sc_colourBehind_23 : decode b_Sc_colourBehind 23 = .ok (.aaload, 1) := by decide +kernel
theorem d_Sc_colourBehind_24 : decode b_Sc_colourBehind 24 = .ok (.iload_n 2, 1) := by decide +kernel
theorem d_Sc_colourBehind_25 : decode b_Sc_colourBehind 25 = .ok (.iload_n 3, 1) := by decide +kernel
theorem d_Sc_colourBehind_26 : decode b_Sc_colourBehind 26 = .ok (.invokevirtual 45, 3) := by decide +kernel
theorem d_Sc_colourBehind_29 : decode b_Sc_colourBehind 29 = .ok (.istore 5, 2) := by decide +kernel
theorem d_Sc_colourBehind_31 : decode b_Sc_colourBehind 31 = .ok (.aload_n 0, 1) := by decide +kernel
theorem d_Sc_colourBehind_32 : decode b_Sc_colourBehind 32 = .ok (.getfield 11, 3) := by decide +kernel
theorem d_Sc_colourBehind_35 : decode b_Sc_colourBehind 35 = .ok (.iload 4, 2) := by decide +kernel
theorem d_Sc_colourBehind_37 : decode b_Sc_colourBehind 37 = .ok (.aaload, 1) := by decide +kernel
theorem d_Sc_colourBehind_38 : decode b_Sc_colourBehind 38 = .ok (.getfield 48, 3) := by decide +kernel
theorem d_Sc_colourBehind_41 : decode b_Sc_colourBehind 41 = .ok (.iload 5, 2) := by decide +kernel
theorem d_Sc_colourBehind_43 : decode b_Sc_colourBehind 43 = .ok (.invokevirtual 49, 3) := by decide +kernel
theorem d_Sc_colourBehind_46 : decode b_Sc_colourBehind 46 = .ok (.istore 6, 2) := by decide +kernel
theorem d_Sc_colourBehind_48 : decode b_Sc_colourBehind 48 = .ok (.iload 6, 2) := by decide +kernel
theorem d_Sc_colourBehind_50 : decode b_Sc_colourBehind 50 = .ok (.iconst (-1), 1) := by decide +kernel
theorem d_Sc_colourBehind_51 : decode b_Sc_colourBehind 51 = .ok (.if_icmp .eq (8), 3) := by decide +kernel
theorem d_Sc_colourBehind_54 : decode b_Sc_colourBehind 54 = .ok (.iload 6, 2) := by decide +kernel
theorem d_Sc_colourBehind_56 : decode b_Sc_colourBehind 56 = .ok (.goto (12), 3) := by decide +kernel
theorem d_Sc_colourBehind_59 : decode b_Sc_colourBehind 59 = .ok (.aload_n 0, 1) := by decide +kernel
theorem d_Sc_colourBehind_60 : decode b_Sc_colourBehind 60 = .ok (.getfield 22, 3) := by decide +kernel
theorem d_Sc_colourBehind_63 : decode b_Sc_colourBehind 63 = .ok (.iload 5, 2) := by decide +kernel
theorem d_Sc_colourBehind_65 : decode b_Sc_colourBehind 65 = .ok (.invokevirtual 49, 3) := by decide +kernel
theorem d_Sc_colourBehind_68 : decode b_Sc_colourBehind 68 = .ok (.ireturn, 1) := by decide +kernel
theorem d_Sc_sourceBehind_0 : decode b_Sc_sourceBehind 0 = .ok (.iconst (-1), 1) := by decide +kernel
theorem d_Sc_sourceBehind_1 : decode b_Sc_sourceBehind 1 = .ok (.istore 4, 2) := by decide +kernel
theorem d_Sc_sourceBehind_3 : decode b_Sc_sourceBehind 3 = .ok (.iconst (0), 1) := by decide +kernel
theorem d_Sc_sourceBehind_4 : decode b_Sc_sourceBehind 4 = .ok (.istore 5, 2) := by decide +kernel
theorem d_Sc_sourceBehind_6 : decode b_Sc_sourceBehind 6 = .ok (.iload 5, 2) := by decide +kernel
theorem d_Sc_sourceBehind_8 : decode b_Sc_sourceBehind 8 = .ok (.iload_n 1, 1) := by decide +kernel
theorem d_Sc_sourceBehind_9 : decode b_Sc_sourceBehind 9 = .ok (.if_icmp .gt (80), 3) := by decide +kernel
theorem d_Sc_sourceBehind_12 : decode b_Sc_sourceBehind 12 = .ok (.iload 5, 2) := by decide +kernel
theorem d_Sc_sourceBehind_14 : decode b_Sc_sourceBehind 14 = .ok (.aload_n 0, 1) := by decide +kernel
theorem d_Sc_sourceBehind_15 : decode b_Sc_sourceBehind 15 = .ok (.getfield 27, 3) := by decide +kernel
theorem d_Sc_sourceBehind_18 : decode b_Sc_sourceBehind 18 = .ok (.if_icmp .ge (71), 3) := by decide +kernel
theorem d_Sc_sourceBehind_21 : decode b_Sc_sourceBehind 21 = .ok (.aload_n 0, 1) := by decide +kernel
theorem d_Sc_sourceBehind_22 : decode b_Sc_sourceBehind 22 = .ok (.getfield 11, 3) := by decide +kernel
theorem d_Sc_sourceBehind_25 : decode b_Sc_sourceBehind 25 = .ok (.iload 5, 2) := by decide +kernel
theorem d_Sc_sourceBehind_27 : decode b_Sc_sourceBehind 27 = .ok (.aaload, 1) := by decide +kernel
theorem d_Sc_sourceBehind_28 : decode b_Sc_sourceBehind 28 = .ok (.astore 6, 2) := by decide +kernel
theorem d_Sc_sourceBehind_30 : decode b_Sc_sourceBehind 30 = .ok (.aload 6, 2) := by decide +kernel
theorem d_Sc_sourceBehind_32 : decode b_Sc_sourceBehind 32 = .ok (.iload_n 2, 1) := by decide +kernel
theorem d_Sc_sourceBehind_33 : decode b_Sc_sourceBehind 33 = .ok (.iload_n 3, 1) := by decide +kernel
theorem d_Sc_sourceBehind_34 : decode b_Sc_sourceBehind 34 = .ok (.invokevirtual 53, 3) := by decide +kernel
theorem d_Sc_sourceBehind_37 : decode b_Sc_sourceBehind 37 = .ok (.ifCond .eq (46), 3) := by decide +kernel
theorem d_Sc_sourceBehind_40 : decode b_Sc_sourceBehind 40 = .ok (.iload 4, 2) := by decide +kernel
theorem d_Sc_sourceBehind_42 : decode b_Sc_sourceBehind 42 = .ok (.istore 7, 2) := by decide +kernel
theorem d_Sc_sourceBehind_44 : decode b_Sc_sourceBehind 44 = .ok (.aload 6, 2) := by decide +kernel
theorem d_Sc_sourceBehind_46 : decode b_Sc_sourceBehind 46 = .ok (.iload_n 2, 1) := by decide +kernel
theorem d_Sc_sourceBehind_47 : decode b_Sc_sourceBehind 47 = .ok (.iload_n 3, 1) := by decide +kernel
theorem d_Sc_sourceBehind_48 : decode b_Sc_sourceBehind 48 = .ok (.invokevirtual 45, 3) := by decide +kernel
theorem d_Sc_sourceBehind_51 : decode b_Sc_sourceBehind 51 = .ok (.aload 6, 2) := by decide +kernel
theorem d_Sc_sourceBehind_53 : decode b_Sc_sourceBehind 53 = .ok (.getfield 57, 3) := by decide +kernel
theorem d_Sc_sourceBehind_56 : decode b_Sc_sourceBehind 56 = .ok (.if_icmp .eq (7), 3) := by decide +kernel
theorem d_Sc_sourceBehind_59 : decode b_Sc_sourceBehind 59 = .ok (.iload 5, 2) := by decide +kernel
theorem d_Sc_sourceBehind_61 : decode b_Sc_sourceBehind 61 = .ok (.istore 4, 2) := by decide +kernel
theorem d_Sc_sourceBehind_63 : decode b_Sc_sourceBehind 63 = .ok (.iload 5, 2) := by decide +kernel
theorem d_Sc_sourceBehind_65 : decode b_Sc_sourceBehind 65 = .ok (.iload_n 1, 1) := by decide +kernel
theorem d_Sc_sourceBehind_66 : decode b_Sc_sourceBehind 66 = .ok (.if_icmp .ge (17), 3) := by decide +kernel
theorem d_Sc_sourceBehind_69 : decode b_Sc_sourceBehind 69 = .ok (.aload 6, 2) := by decide +kernel
theorem d_Sc_sourceBehind_71 : decode b_Sc_sourceBehind 71 = .ok (.getfield 60, 3) := by decide +kernel
theorem d_Sc_sourceBehind_74 : decode b_Sc_sourceBehind 74 = .ok (.iload 7, 2) := by decide +kernel
theorem d_Sc_sourceBehind_76 : decode b_Sc_sourceBehind 76 = .ok (.iload 4, 2) := by decide +kernel
theorem d_Sc_sourceBehind_78 : decode b_Sc_sourceBehind 78 = .ok (.invokestatic 63, 3) := by decide +kernel
theorem d_Sc_sourceBehind_81 : decode b_Sc_sourceBehind 81 = .ok (.istore 4, 2) := by decide +kernel
theorem d_Sc_sourceBehind_83 : decode b_Sc_sourceBehind 83 = .ok (.iinc 5 (1), 3) := by decide +kernel
theorem d_Sc_sourceBehind_86 : decode b_Sc_sourceBehind 86 = .ok (.goto (-80), 3) := by decide +kernel
theorem d_Sc_sourceBehind_89 : decode b_Sc_sourceBehind 89 = .ok (.iload 4, 2) := by decide +kernel
theorem d_Sc_sourceBehind_91 : decode b_Sc_sourceBehind 91 = .ok (.ireturn, 1) := by decide +kernel
theorem d_Sc_sourceAfter_0 : decode b_Sc_sourceAfter 0 = .ok (.iload_n 0, 1) := by decide +kernel
theorem d_Sc_sourceAfter_1 : decode b_Sc_sourceAfter 1 = .ok (.iconst (2), 1) := by decide +kernel
theorem d_Sc_sourceAfter_2 : decode b_Sc_sourceAfter 2 = .ok (.if_icmp .ne (5), 3) := by decide +kernel
theorem d_Sc_sourceAfter_5 : decode b_Sc_sourceAfter 5 = .ok (.iconst (-1), 1) := by decide +kernel
theorem d_Sc_sourceAfter_6 : decode b_Sc_sourceAfter 6 = .ok (.ireturn, 1) := by decide +kernel
theorem d_Sc_sourceAfter_7 : decode b_Sc_sourceAfter 7 = .ok (.iload_n 0, 1) := by decide +kernel
theorem d_Sc_sourceAfter_8 : decode b_Sc_sourceAfter 8 = .ok (.iconst (3), 1) := by decide +kernel
theorem d_Sc_sourceAfter_9 : decode b_Sc_sourceAfter 9 = .ok (.if_icmp .ne (7), 3) := by decide +kernel
theorem d_Sc_sourceAfter_12 : decode b_Sc_sourceAfter 12 = .ok (.iload_n 1, 1) := by decide +kernel
theorem d_Sc_sourceAfter_13 : decode b_Sc_sourceAfter 13 = .ok (.goto (4), 3) := by decide +kernel
theorem d_Sc_sourceAfter_16 : decode b_Sc_sourceAfter 16 = .ok (.iload_n 2, 1) := by decide +kernel
theorem d_Sc_sourceAfter_17 : decode b_Sc_sourceAfter 17 = .ok (.ireturn, 1) := by decide +kernel
theorem d_Sc_frameAt_0 : decode b_Sc_frameAt 0 = .ok (.aload_n 0, 1) := by decide +kernel
theorem d_Sc_frameAt_1 : decode b_Sc_frameAt 1 = .ok (.getfield 27, 3) := by decide +kernel
theorem d_Sc_frameAt_4 : decode b_Sc_frameAt 4 = .ok (.iconst (1), 1) := by decide +kernel
theorem d_Sc_frameAt_5 : decode b_Sc_frameAt 5 = .ok (.isub, 1) := by decide +kernel
theorem d_Sc_frameAt_6 : decode b_Sc_frameAt 6 = .ok (.istore_n 3, 1) := by decide +kernel
theorem d_Sc_frameAt_7 : decode b_Sc_frameAt 7 = .ok (.iconst (0), 1) := by decide +kernel
theorem d_Sc_frameAt_8 : decode b_Sc_frameAt 8 = .ok (.istore 4, 2) := by decide +kernel
theorem d_Sc_frameAt_10 : decode b_Sc_frameAt 10 = .ok (.iconst (0), 1) := by decide +kernel
theorem d_Sc_frameAt_11 : decode b_Sc_frameAt 11 = .ok (.istore 5, 2) := by decide +kernel
theorem d_Sc_frameAt_13 : decode b_Sc_frameAt 13 = .ok (.iload 5, 2) := by decide +kernel
theorem d_Sc_frameAt_15 : decode b_Sc_frameAt 15 = .ok (.aload_n 0, 1) := by decide +kernel
theorem d_Sc_frameAt_16 : decode b_Sc_frameAt 16 = .ok (.getfield 27, 3) := by decide +kernel
theorem d_Sc_frameAt_19 : decode b_Sc_frameAt 19 = .ok (.if_icmp .ge (24), 3) := by decide +kernel
theorem d_Sc_frameAt_22 : decode b_Sc_frameAt 22 = .ok (.iload 4, 2) := by decide +kernel
theorem d_Sc_frameAt_24 : decode b_Sc_frameAt 24 = .ok (.aload_n 0, 1) := by decide +kernel
theorem d_Sc_frameAt_25 : decode b_Sc_frameAt 25 = .ok (.getfield 11, 3) := by decide +kernel
theorem d_Sc_frameAt_28 : decode b_Sc_frameAt 28 = .ok (.iload 5, 2) := by decide +kernel
theorem d_Sc_frameAt_30 : decode b_Sc_frameAt 30 = .ok (.aaload, 1) := by decide +kernel
theorem d_Sc_frameAt_31 : decode b_Sc_frameAt 31 = .ok (.getfield 66, 3) := by decide +kernel
theorem d_Sc_frameAt_34 : decode b_Sc_frameAt 34 = .ok (.iadd, 1) := by decide +kernel
theorem d_Sc_frameAt_35 : decode b_Sc_frameAt 35 = .ok (.istore 4, 2) := by decide +kernel
theorem d_Sc_frameAt_37 : decode b_Sc_frameAt 37 = .ok (.iinc 5 (1), 3) := by decide +kernel
theorem d_Sc_frameAt_40 : decode b_Sc_frameAt 40 = .ok (.goto (-27), 3) := by decide +kernel
theorem d_Sc_frameAt_43 : decode b_Sc_frameAt 43 = .ok (.iload_n 2, 1) := by decide +kernel
theorem d_Sc_frameAt_44 : decode b_Sc_frameAt 44 = .ok (.ifCond .le (19), 3) := by decide +kernel
theorem d_Sc_frameAt_47 : decode b_Sc_frameAt 47 = .ok (.iload_n 1, 1) := by decide +kernel
theorem d_Sc_frameAt_48 : decode b_Sc_frameAt 48 = .ok (.i2l, 1) := by decide +kernel
theorem d_Sc_frameAt_49 : decode b_Sc_frameAt 49 = .ok (.iload 4, 2) := by decide +kernel
theorem d_Sc_frameAt_51 : decode b_Sc_frameAt 51 = .ok (.i2l, 1) := by decide +kernel
theorem d_Sc_frameAt_52 : decode b_Sc_frameAt 52 = .ok (.iload_n 2, 1) := by decide +kernel
theorem d_Sc_frameAt_53 : decode b_Sc_frameAt 53 = .ok (.i2l, 1) := by decide +kernel
theorem d_Sc_frameAt_54 : decode b_Sc_frameAt 54 = .ok (.lmul, 1) := by decide +kernel
theorem d_Sc_frameAt_55 : decode b_Sc_frameAt 55 = .ok (.lcmp, 1) := by decide +kernel
theorem d_Sc_frameAt_56 : decode b_Sc_frameAt 56 = .ok (.ifCond .lt (7), 3) := by decide +kernel
theorem d_Sc_frameAt_59 : decode b_Sc_frameAt 59 = .ok (.iconst (1), 1) := by decide +kernel
theorem d_Sc_frameAt_60 : decode b_Sc_frameAt 60 = .ok (.goto (4), 3) := by decide +kernel
theorem d_Sc_frameAt_63 : decode b_Sc_frameAt 63 = .ok (.iconst (0), 1) := by decide +kernel
theorem d_Sc_frameAt_64 : decode b_Sc_frameAt 64 = .ok (.istore 5, 2) := by decide +kernel
theorem d_Sc_frameAt_66 : decode b_Sc_frameAt 66 = .ok (.iload 4, 2) := by decide +kernel
theorem d_Sc_frameAt_68 : decode b_Sc_frameAt 68 = .ok (.ifCond .le (8), 3) := by decide +kernel
theorem d_Sc_frameAt_71 : decode b_Sc_frameAt 71 = .ok (.iload 5, 2) := by decide +kernel
theorem d_Sc_frameAt_73 : decode b_Sc_frameAt 73 = .ok (.ifCond .eq (5), 3) := by decide +kernel
theorem d_Sc_frameAt_76 : decode b_Sc_frameAt 76 = .ok (.iload_n 3, 1) := by decide +kernel
theorem d_Sc_frameAt_77 : decode b_Sc_frameAt 77 = .ok (.ireturn, 1) := by decide +kernel
theorem d_Sc_frameAt_78 : decode b_Sc_frameAt 78 = .ok (.iload_n 1, 1) := by decide +kernel
theorem d_Sc_frameAt_79 : decode b_Sc_frameAt 79 = .ok (.iload 4, 2) := by decide +kernel
theorem d_Sc_frameAt_81 : decode b_Sc_frameAt 81 = .ok (.irem, 1) := by decide +kernel
theorem d_Sc_frameAt_82 : decode b_Sc_frameAt 82 = .ok (.istore 6, 2) := by decide +kernel
theorem d_Sc_frameAt_84 : decode b_Sc_frameAt 84 = .ok (.iconst (0), 1) := by decide +kernel
theorem d_Sc_frameAt_85 : decode b_Sc_frameAt 85 = .ok (.istore 7, 2) := by decide +kernel
theorem d_Sc_frameAt_87 : decode b_Sc_frameAt 87 = .ok (.iload 7, 2) := by decide +kernel
theorem d_Sc_frameAt_89 : decode b_Sc_frameAt 89 = .ok (.aload_n 0, 1) := by decide +kernel
theorem d_Sc_frameAt_90 : decode b_Sc_frameAt 90 = .ok (.getfield 27, 3) := by decide +kernel
theorem d_Sc_frameAt_93 : decode b_Sc_frameAt 93 = .ok (.if_icmp .ge (42), 3) := by decide +kernel
theorem d_Sc_frameAt_96 : decode b_Sc_frameAt 96 = .ok (.iload 6, 2) := by decide +kernel
theorem d_Sc_frameAt_98 : decode b_Sc_frameAt 98 = .ok (.aload_n 0, 1) := by decide +kernel
theorem d_Sc_frameAt_99 : decode b_Sc_frameAt 99 = .ok (.getfield 11, 3) := by decide +kernel
theorem d_Sc_frameAt_102 : decode b_Sc_frameAt 102 = .ok (.iload 7, 2) := by decide +kernel
theorem d_Sc_frameAt_104 : decode b_Sc_frameAt 104 = .ok (.aaload, 1) := by decide +kernel
theorem d_Sc_frameAt_105 : decode b_Sc_frameAt 105 = .ok (.getfield 66, 3) := by decide +kernel
theorem d_Sc_frameAt_108 : decode b_Sc_frameAt 108 = .ok (.if_icmp .ge (6), 3) := by decide +kernel
theorem d_Sc_frameAt_111 : decode b_Sc_frameAt 111 = .ok (.iload 7, 2) := by decide +kernel
theorem d_Sc_frameAt_113 : decode b_Sc_frameAt 113 = .ok (.ireturn, 1) := by decide +kernel
theorem d_Sc_frameAt_114 : decode b_Sc_frameAt 114 = .ok (.iload 6, 2) := by decide +kernel
theorem d_Sc_frameAt_116 : decode b_Sc_frameAt 116 = .ok (.aload_n 0, 1) := by decide +kernel
theorem d_Sc_frameAt_117 : decode b_Sc_frameAt 117 = .ok (.getfield 11, 3) := by decide +kernel
theorem d_Sc_frameAt_120 : decode b_Sc_frameAt 120 = .ok (.iload 7, 2) := by decide +kernel
theorem d_Sc_frameAt_122 : decode b_Sc_frameAt 122 = .ok (.aaload, 1) := by decide +kernel
theorem d_Sc_frameAt_123 : decode b_Sc_frameAt 123 = .ok (.getfield 66, 3) := by decide +kernel
theorem d_Sc_frameAt_126 : decode b_Sc_frameAt 126 = .ok (.isub, 1) := by decide +kernel
theorem d_Sc_frameAt_127 : decode b_Sc_frameAt 127 = .ok (.istore 6, 2) := by decide +kernel
theorem d_Sc_frameAt_129 : decode b_Sc_frameAt 129 = .ok (.iinc 7 (1), 3) := by decide +kernel
theorem d_Sc_frameAt_132 : decode b_Sc_frameAt 132 = .ok (.goto (-45), 3) := by decide +kernel
theorem d_Sc_frameAt_135 : decode b_Sc_frameAt 135 = .ok (.iload_n 3, 1) := by decide +kernel
theorem d_Sc_frameAt_136 : decode b_Sc_frameAt 136 = .ok (.ireturn, 1) := by decide +kernel
theorem d_St_init_0 : decode b_St_init 0 = .ok (.aload_n 0, 1) := by decide +kernel
theorem d_St_init_1 : decode b_St_init 1 = .ok (.invokespecial 3, 3) := by decide +kernel
theorem d_St_init_4 : decode b_St_init 4 = .ok (.aload_n 0, 1) := by decide +kernel
theorem d_St_init_5 : decode b_St_init 5 = .ok (.sipush (8192), 3) := by decide +kernel
theorem d_St_init_8 : decode b_St_init 8 = .ok (.newarray .int, 2) := by decide +kernel
theorem d_St_init_10 : decode b_St_init 10 = .ok (.putfield 11, 3) := by decide +kernel
theorem d_St_init_13 : decode b_St_init 13 = .ok (.aload_n 0, 1) := by decide +kernel
theorem d_St_init_14 : decode b_St_init 14 = .ok (.sipush (4096), 3) := by decide +kernel
theorem d_St_init_17 : decode b_St_init 17 = .ok (.newarray .int, 2) := by decide +kernel
theorem d_St_init_19 : decode b_St_init 19 = .ok (.putfield 15, 3) := by decide +kernel
theorem d_St_init_22 : decode b_St_init 22 = .ok (.aload_n 0, 1) := by decide +kernel
theorem d_St_init_23 : decode b_St_init 23 = .ok (.sipush (4096), 3) := by decide +kernel
theorem d_St_init_26 : decode b_St_init 26 = .ok (.newarray .int, 2) := by decide +kernel
theorem d_St_init_28 : decode b_St_init 28 = .ok (.putfield 18, 3) := by decide +kernel
theorem d_St_init_31 : decode b_St_init 31 = .ok (.aload_n 0, 1) := by decide +kernel
theorem d_St_init_32 : decode b_St_init 32 = .ok (.iload_n 1, 1) := by decide +kernel
theorem d_St_init_33 : decode b_St_init 33 = .ok (.putfield 21, 3) := by decide +kernel
theorem d_St_init_36 : decode b_St_init 36 = .ok (.aload_n 0, 1) := by decide +kernel
theorem d_St_init_37 : decode b_St_init 37 = .ok (.iload_n 1, 1) := by decide +kernel
theorem d_St_init_38 : decode b_St_init 38 = .ok (.putfield 25, 3) := by decide +kernel
theorem d_St_init_41 : decode b_St_init 41 = .ok (.return_, 1) := by decide +kernel
theorem d_St_count_0 : decode b_St_count 0 = .ok (.aload_n 0, 1) := by decide +kernel
theorem d_St_count_1 : decode b_St_count 1 = .ok (.getfield 25, 3) := by decide +kernel
theorem d_St_count_4 : decode b_St_count 4 = .ok (.aload_n 0, 1) := by decide +kernel
theorem d_St_count_5 : decode b_St_count 5 = .ok (.getfield 21, 3) := by decide +kernel
theorem d_St_count_8 : decode b_St_count 8 = .ok (.isub, 1) := by decide +kernel
theorem d_St_count_9 : decode b_St_count 9 = .ok (.ireturn, 1) := by decide +kernel
theorem d_St_isFull_0 : decode b_St_isFull 0 = .ok (.aload_n 0, 1) := by decide +kernel
theorem d_St_isFull_1 : decode b_St_isFull 1 = .ok (.getfield 25, 3) := by decide +kernel
theorem d_St_isFull_4 : decode b_St_isFull 4 = .ok (.sipush (4095), 3) := by decide +kernel
theorem d_St_isFull_7 : decode b_St_isFull 7 = .ok (.if_icmp .lt (7), 3) := by decide +kernel
theorem d_St_isFull_10 : decode b_St_isFull 10 = .ok (.iconst (1), 1) := by decide +kernel
theorem d_St_isFull_11 : decode b_St_isFull 11 = .ok (.goto (4), 3) := by decide +kernel
theorem d_St_isFull_14 : decode b_St_isFull 14 = .ok (.iconst (0), 1) := by decide +kernel
theorem d_St_isFull_15 : decode b_St_isFull 15 = .ok (.ireturn, 1) := by decide +kernel
theorem d_St_find_0 : decode b_St_find 0 = .ok (.aload_n 0, 1) := by decide +kernel
theorem d_St_find_1 : decode b_St_find 1 = .ok (.getfield 11, 3) := by decide +kernel
theorem d_St_find_4 : decode b_St_find 4 = .ok (.aload_n 0, 1) := by decide +kernel
theorem d_St_find_5 : decode b_St_find 5 = .ok (.iload_n 1, 1) := by decide +kernel
theorem d_St_find_6 : decode b_St_find 6 = .ok (.iload_n 2, 1) := by decide +kernel
theorem d_St_find_7 : decode b_St_find 7 = .ok (.invokestatic 28, 3) := by decide +kernel
theorem d_St_find_10 : decode b_St_find 10 = .ok (.invokevirtual 32, 3) := by decide +kernel
theorem d_St_find_13 : decode b_St_find 13 = .ok (.iaload, 1) := by decide +kernel
theorem d_St_find_14 : decode b_St_find 14 = .ok (.istore_n 3, 1) := by decide +kernel
theorem d_St_find_15 : decode b_St_find 15 = .ok (.iload_n 3, 1) := by decide +kernel
theorem d_St_find_16 : decode b_St_find 16 = .ok (.ifCond .ne (7), 3) := by decide +kernel
theorem d_St_find_19 : decode b_St_find 19 = .ok (.iconst (-1), 1) := by decide +kernel
theorem d_St_find_20 : decode b_St_find 20 = .ok (.goto (4), 3) := by decide +kernel
theorem d_St_find_23 : decode b_St_find 23 = .ok (.iload_n 3, 1) := by decide +kernel
theorem d_St_find_24 : decode b_St_find 24 = .ok (.ireturn, 1) := by decide +kernel
theorem d_St_add_0 : decode b_St_add 0 = .ok (.aload_n 0, 1) := by decide +kernel
theorem d_St_add_1 : decode b_St_add 1 = .ok (.invokevirtual 36, 3) := by decide +kernel
theorem d_St_add_4 : decode b_St_add 4 = .ok (.ifCond .eq (4), 3) := by decide +kernel
theorem d_St_add_7 : decode b_St_add 7 = .ok (.return_, 1) := by decide +kernel
theorem d_St_add_8 : decode b_St_add 8 = .ok (.iload_n 1, 1) := by decide +kernel
theorem d_St_add_9 : decode b_St_add 9 = .ok (.iload_n 2, 1) := by decide +kernel
theorem d_St_add_10 : decode b_St_add 10 = .ok (.invokestatic 28, 3) := by decide +kernel
theorem d_St_add_13 : decode b_St_add 13 = .ok (.istore_n 3, 1) := by decide +kernel
theorem d_St_add_14 : decode b_St_add 14 = .ok (.aload_n 0, 1) := by decide +kernel
theorem d_St_add_15 : decode b_St_add 15 = .ok (.iload_n 3, 1) := by decide +kernel
theorem d_St_add_16 : decode b_St_add 16 = .ok (.invokevirtual 32, 3) := by decide +kernel
theorem d_St_add_19 : decode b_St_add 19 = .ok (.istore 4, 2) := by decide +kernel
theorem d_St_add_21 : decode b_St_add 21 = .ok (.aload_n 0, 1) := by decide +kernel
theorem d_St_add_22 : decode b_St_add 22 = .ok (.dup, 1) := by decide +kernel
theorem d_St_add_23 : decode b_St_add 23 = .ok (.getfield 25, 3) := by decide +kernel
theorem d_St_add_26 : decode b_St_add 26 = .ok (.iconst (1), 1) := by decide +kernel
theorem d_St_add_27 : decode b_St_add 27 = .ok (.iadd, 1) := by decide +kernel
theorem d_St_add_28 : decode b_St_add 28 = .ok (.putfield 25, 3) := by decide +kernel
theorem d_St_add_31 : decode b_St_add 31 = .ok (.aload_n 0, 1) := by decide +kernel
theorem d_St_add_32 : decode b_St_add 32 = .ok (.getfield 11, 3) := by decide +kernel
theorem d_St_add_35 : decode b_St_add 35 = .ok (.iload 4, 2) := by decide +kernel
theorem d_St_add_37 : decode b_St_add 37 = .ok (.aload_n 0, 1) := by decide +kernel
theorem d_St_add_38 : decode b_St_add 38 = .ok (.getfield 25, 3) := by decide +kernel
theorem d_St_add_41 : decode b_St_add 41 = .ok (.iastore, 1) := by decide +kernel
theorem d_St_add_42 : decode b_St_add 42 = .ok (.aload_n 0, 1) := by decide +kernel
theorem d_St_add_43 : decode b_St_add 43 = .ok (.getfield 15, 3) := by decide +kernel
theorem d_St_add_46 : decode b_St_add 46 = .ok (.aload_n 0, 1) := by decide +kernel
theorem d_St_add_47 : decode b_St_add 47 = .ok (.getfield 25, 3) := by decide +kernel
theorem d_St_add_50 : decode b_St_add 50 = .ok (.iload_n 3, 1) := by decide +kernel
theorem d_St_add_51 : decode b_St_add 51 = .ok (.iastore, 1) := by decide +kernel
theorem d_St_add_52 : decode b_St_add 52 = .ok (.aload_n 0, 1) := by decide +kernel
theorem d_St_add_53 : decode b_St_add 53 = .ok (.getfield 18, 3) := by decide +kernel
theorem d_St_add_56 : decode b_St_add 56 = .ok (.aload_n 0, 1) := by decide +kernel
theorem d_St_add_57 : decode b_St_add 57 = .ok (.getfield 25, 3) := by decide +kernel
theorem d_St_add_60 : decode b_St_add 60 = .ok (.iload 4, 2) := by decide +kernel
theorem d_St_add_62 : decode b_St_add 62 = .ok (.iastore, 1) := by decide +kernel
theorem d_St_add_63 : decode b_St_add 63 = .ok (.return_, 1) := by decide +kernel
theorem d_St_empty_0 : decode b_St_empty 0 = .ok (.aload_n 0, 1) := by decide +kernel
theorem d_St_empty_1 : decode b_St_empty 1 = .ok (.getfield 21, 3) := by decide +kernel
theorem d_St_empty_4 : decode b_St_empty 4 = .ok (.iconst (1), 1) := by decide +kernel
theorem d_St_empty_5 : decode b_St_empty 5 = .ok (.iadd, 1) := by decide +kernel
theorem d_St_empty_6 : decode b_St_empty 6 = .ok (.istore_n 1, 1) := by decide +kernel
theorem d_St_empty_7 : decode b_St_empty 7 = .ok (.iload_n 1, 1) := by decide +kernel
theorem d_St_empty_8 : decode b_St_empty 8 = .ok (.aload_n 0, 1) := by decide +kernel
theorem d_St_empty_9 : decode b_St_empty 9 = .ok (.getfield 25, 3) := by decide +kernel
theorem d_St_empty_12 : decode b_St_empty 12 = .ok (.if_icmp .gt (21), 3) := by decide +kernel
theorem d_St_empty_15 : decode b_St_empty 15 = .ok (.aload_n 0, 1) := by decide +kernel
theorem d_St_empty_16 : decode b_St_empty 16 = .ok (.getfield 11, 3) := by decide +kernel
theorem d_St_empty_19 : decode b_St_empty 19 = .ok (.aload_n 0, 1) := by decide +kernel
theorem d_St_empty_20 : decode b_St_empty 20 = .ok (.getfield 18, 3) := by decide +kernel
theorem d_St_empty_23 : decode b_St_empty 23 = .ok (.iload_n 1, 1) := by decide +kernel
theorem d_St_empty_24 : decode b_St_empty 24 = .ok (.iaload, 1) := by decide +kernel
theorem d_St_empty_25 : decode b_St_empty 25 = .ok (.iconst (0), 1) := by decide +kernel
theorem d_St_empty_26 : decode b_St_empty 26 = .ok (.iastore, 1) := by decide +kernel
theorem d_St_empty_27 : decode b_St_empty 27 = .ok (.iinc 1 (1), 3) := by decide +kernel
theorem d_St_empty_30 : decode b_St_empty 30 = .ok (.goto (-23), 3) := by decide +kernel
theorem d_St_empty_33 : decode b_St_empty 33 = .ok (.aload_n 0, 1) := by decide +kernel
theorem d_St_empty_34 : decode b_St_empty 34 = .ok (.aload_n 0, 1) := by decide +kernel
theorem d_St_empty_35 : decode b_St_empty 35 = .ok (.getfield 21, 3) := by decide +kernel
theorem d_St_empty_38 : decode b_St_empty 38 = .ok (.putfield 25, 3) := by decide +kernel
theorem d_St_empty_41 : decode b_St_empty 41 = .ok (.return_, 1) := by decide +kernel
theorem d_St_keyOf_0 : decode b_St_keyOf 0 = .ok (.iload_n 0, 1) := by decide +kernel
theorem d_St_keyOf_1 : decode b_St_keyOf 1 = .ok (.bipush (8), 2) := by decide +kernel
theorem d_St_keyOf_3 : decode b_St_keyOf 3 = .ok (.ishl, 1) := by decide +kernel
theorem d_St_keyOf_4 : decode b_St_keyOf 4 = .ok (.iload_n 1, 1) := by decide +kernel
theorem d_St_keyOf_5 : decode b_St_keyOf 5 = .ok (.ior, 1) := by decide +kernel
theorem d_St_keyOf_6 : decode b_St_keyOf 6 = .ok (.ireturn, 1) := by decide +kernel
theorem d_St_slotFor_0 : decode b_St_slotFor 0 = .ok (.iload_n 1, 1) := by decide +kernel
theorem d_St_slotFor_1 : decode b_St_slotFor 1 = .ok (.ldc 40, 2) := by decide +kernel
theorem d_St_slotFor_3 : decode b_St_slotFor 3 = .ok (.imul, 1) := by decide +kernel
theorem d_St_slotFor_4 : decode b_St_slotFor 4 = .ok (.bipush (19), 2) := by decide +kernel
theorem d_St_slotFor_6 : decode b_St_slotFor 6 = .ok (.iushr, 1) := by decide +kernel
theorem d_St_slotFor_7 : decode b_St_slotFor 7 = .ok (.istore_n 2, 1) := by decide +kernel
theorem d_St_slotFor_8 : decode b_St_slotFor 8 = .ok (.iconst (0), 1) := by decide +kernel
theorem d_St_slotFor_9 : decode b_St_slotFor 9 = .ok (.istore_n 3, 1) := by decide +kernel
theorem d_St_slotFor_10 : decode b_St_slotFor 10 = .ok (.iload_n 3, 1) := by decide +kernel
theorem d_St_slotFor_11 : decode b_St_slotFor 11 = .ok (.sipush (8192), 3) := by decide +kernel
theorem d_St_slotFor_14 : decode b_St_slotFor 14 = .ok (.if_icmp .ge (43), 3) := by decide +kernel
theorem d_St_slotFor_17 : decode b_St_slotFor 17 = .ok (.aload_n 0, 1) := by decide +kernel
theorem d_St_slotFor_18 : decode b_St_slotFor 18 = .ok (.getfield 11, 3) := by decide +kernel
theorem d_St_slotFor_21 : decode b_St_slotFor 21 = .ok (.iload_n 2, 1) := by decide +kernel
theorem d_St_slotFor_22 : decode b_St_slotFor 22 = .ok (.iaload, 1) := by decide +kernel
theorem d_St_slotFor_23 : decode b_St_slotFor 23 = .ok (.istore 4, 2) := by decide +kernel
theorem d_St_slotFor_25 : decode b_St_slotFor 25 = .ok (.iload 4, 2) := by decide +kernel
theorem d_St_slotFor_27 : decode b_St_slotFor 27 = .ok (.ifCond .eq (14), 3) := by decide +kernel
theorem d_St_slotFor_30 : decode b_St_slotFor 30 = .ok (.aload_n 0, 1) := by decide +kernel
theorem d_St_slotFor_31 : decode b_St_slotFor 31 = .ok (.getfield 15, 3) := by decide +kernel
theorem d_St_slotFor_34 : decode b_St_slotFor 34 = .ok (.iload 4, 2) := by decide +kernel
theorem d_St_slotFor_36 : decode b_St_slotFor 36 = .ok (.iaload, 1) := by decide +kernel
theorem d_St_slotFor_37 : decode b_St_slotFor 37 = .ok (.iload_n 1, 1) := by decide +kernel
theorem d_St_slotFor_38 : decode b_St_slotFor 38 = .ok (.if_icmp .ne (5), 3) := by decide +kernel
theorem d_St_slotFor_41 : decode b_St_slotFor 41 = .ok (.iload_n 2, 1) := by decide +kernel
theorem d_St_slotFor_42 : decode b_St_slotFor 42 = .ok (.ireturn, 1) := by decide +kernel
theorem d_St_slotFor_43 : decode b_St_slotFor 43 = .ok (.iload_n 2, 1) := by decide +kernel
theorem d_St_slotFor_44 : decode b_St_slotFor 44 = .ok (.iconst (1), 1) := by decide +kernel
theorem d_St_slotFor_45 : decode b_St_slotFor 45 = .ok (.iadd, 1) := by decide +kernel
theorem d_St_slotFor_46 : decode b_St_slotFor 46 = .ok (.sipush (8191), 3) := by decide +kernel
theorem d_St_slotFor_49 : decode b_St_slotFor 49 = .ok (.iand, 1) := by decide +kernel
theorem d_St_slotFor_50 : decode b_St_slotFor 50 = .ok (.istore_n 2, 1) := by decide +kernel
theorem d_St_slotFor_51 : decode b_St_slotFor 51 = .ok (.iinc 3 (1), 3) := by decide +kernel
theorem d_St_slotFor_54 : decode b_St_slotFor 54 = .ok (.goto (-44), 3) := by decide +kernel
theorem d_St_slotFor_57 : decode b_St_slotFor 57 = .ok (.iload_n 2, 1) := by decide +kernel
theorem d_St_slotFor_58 : decode b_St_slotFor 58 = .ok (.ireturn, 1) := by decide +kernel
theorem d_Wi_init_0 : decode b_Wi_init 0 = .ok (.aload_n 0, 1) := by decide +kernel
theorem d_Wi_init_1 : decode b_Wi_init 1 = .ok (.invokespecial 3, 3) := by decide +kernel
theorem d_Wi_init_4 : decode b_Wi_init 4 = .ok (.aload_n 0, 1) := by decide +kernel
theorem d_Wi_init_5 : decode b_Wi_init 5 = .ok (.iload_n 1, 1) := by decide +kernel
theorem d_Wi_init_6 : decode b_Wi_init 6 = .ok (.putfield 9, 3) := by decide +kernel
theorem d_Wi_init_9 : decode b_Wi_init 9 = .ok (.aload_n 0, 1) := by decide +kernel
theorem d_Wi_init_10 : decode b_Wi_init 10 = .ok (.iconst (1), 1) := by decide +kernel
theorem d_Wi_init_11 : decode b_Wi_init 11 = .ok (.iload_n 1, 1) := by decide +kernel
theorem d_Wi_init_12 : decode b_Wi_init 12 = .ok (.ishl, 1) := by decide +kernel
theorem d_Wi_init_13 : decode b_Wi_init 13 = .ok (.iconst (1), 1) := by decide +kernel
theorem d_Wi_init_14 : decode b_Wi_init 14 = .ok (.iadd, 1) := by decide +kernel
theorem d_Wi_init_15 : decode b_Wi_init 15 = .ok (.putfield 15, 3) := by decide +kernel
theorem d_Wi_init_18 : decode b_Wi_init 18 = .ok (.aload_n 0, 1) := by decide +kernel
theorem d_Wi_init_19 : decode b_Wi_init 19 = .ok (.iload_n 1, 1) := by decide +kernel
theorem d_Wi_init_20 : decode b_Wi_init 20 = .ok (.iconst (1), 1) := by decide +kernel
theorem d_Wi_init_21 : decode b_Wi_init 21 = .ok (.iadd, 1) := by decide +kernel
theorem d_Wi_init_22 : decode b_Wi_init 22 = .ok (.putfield 18, 3) := by decide +kernel
theorem d_Wi_init_25 : decode b_Wi_init 25 = .ok (.return_, 1) := by decide +kernel
theorem d_Wi_restart_0 : decode b_Wi_restart 0 = .ok (.aload_n 0, 1) := by decide +kernel
theorem d_Wi_restart_1 : decode b_Wi_restart 1 = .ok (.aload_n 0, 1) := by decide +kernel
theorem d_Wi_restart_2 : decode b_Wi_restart 2 = .ok (.getfield 9, 3) := by decide +kernel
theorem d_Wi_restart_5 : decode b_Wi_restart 5 = .ok (.iconst (1), 1) := by decide +kernel
theorem d_Wi_restart_6 : decode b_Wi_restart 6 = .ok (.iadd, 1) := by decide +kernel
theorem d_Wi_restart_7 : decode b_Wi_restart 7 = .ok (.putfield 18, 3) := by decide +kernel
theorem d_Wi_restart_10 : decode b_Wi_restart 10 = .ok (.aload_n 0, 1) := by decide +kernel
theorem d_Wi_restart_11 : decode b_Wi_restart 11 = .ok (.iconst (0), 1) := by decide +kernel
theorem d_Wi_restart_12 : decode b_Wi_restart 12 = .ok (.putfield 21, 3) := by decide +kernel
theorem d_Wi_restart_15 : decode b_Wi_restart 15 = .ok (.return_, 1) := by decide +kernel
theorem d_Wi_behindEntry_0 : decode b_Wi_behindEntry 0 = .ok (.aload_n 0, 1) := by decide +kernel
theorem d_Wi_behindEntry_1 : decode b_Wi_behindEntry 1 = .ok (.dup, 1) := by decide +kernel
theorem d_Wi_behindEntry_2 : decode b_Wi_behindEntry 2 = .ok (.getfield 21, 3) := by decide +kernel
theorem d_Wi_behindEntry_5 : decode b_Wi_behindEntry 5 = .ok (.iconst (1), 1) := by decide +kernel
theorem d_Wi_behindEntry_6 : decode b_Wi_behindEntry 6 = .ok (.iadd, 1) := by decide +kernel
theorem d_Wi_behindEntry_7 : decode b_Wi_behindEntry 7 = .ok (.putfield 21, 3) := by decide +kernel
theorem d_Wi_behindEntry_10 : decode b_Wi_behindEntry 10 = .ok (.aload_n 0, 1) := by decide +kernel
theorem d_Wi_behindEntry_11 : decode b_Wi_behindEntry 11 = .ok (.getfield 18, 3) := by decide +kernel
theorem d_Wi_behindEntry_14 : decode b_Wi_behindEntry 14 = .ok (.bipush (12), 2) := by decide +kernel
theorem d_Wi_behindEntry_16 : decode b_Wi_behindEntry 16 = .ok (.if_icmp .ge (31), 3) := by decide +kernel
theorem d_Wi_behindEntry_19 : decode b_Wi_behindEntry 19 = .ok (.aload_n 0, 1) := by decide +kernel
theorem d_Wi_behindEntry_20 : decode b_Wi_behindEntry 20 = .ok (.getfield 15, 3) := by decide +kernel
theorem d_Wi_behindEntry_23 : decode b_Wi_behindEntry 23 = .ok (.aload_n 0, 1) := by decide +kernel
theorem d_Wi_behindEntry_24 : decode b_Wi_behindEntry 24 = .ok (.getfield 21, 3) := by decide +kernel
theorem d_Wi_behindEntry_27 : decode b_Wi_behindEntry 27 = .ok (.iadd, 1) := by decide +kernel
theorem d_Wi_behindEntry_28 : decode b_Wi_behindEntry 28 = .ok (.iconst (1), 1) := by decide +kernel
theorem d_Wi_behindEntry_29 : decode b_Wi_behindEntry 29 = .ok (.aload_n 0, 1) := by decide +kernel
theorem d_Wi_behindEntry_30 : decode b_Wi_behindEntry 30 = .ok (.getfield 18, 3) := by decide +kernel
theorem d_Wi_behindEntry_33 : decode b_Wi_behindEntry 33 = .ok (.ishl, 1) := by decide +kernel
theorem d_Wi_behindEntry_34 : decode b_Wi_behindEntry 34 = .ok (.if_icmp .ne (13), 3) := by decide +kernel
theorem d_Wi_behindEntry_37 : decode b_Wi_behindEntry 37 = .ok (.aload_n 0, 1) := by decide +kernel
theorem d_Wi_behindEntry_38 : decode b_Wi_behindEntry 38 = .ok (.dup, 1) := by decide +kernel
theorem d_Wi_behindEntry_39 : decode b_Wi_behindEntry 39 = .ok (.getfield 18, 3) := by decide +kernel
theorem d_Wi_behindEntry_42 : decode b_Wi_behindEntry 42 = .ok (.iconst (1), 1) := by decide +kernel
theorem d_Wi_behindEntry_43 : decode b_Wi_behindEntry 43 = .ok (.iadd, 1) := by decide +kernel
theorem d_Wi_behindEntry_44 : decode b_Wi_behindEntry 44 = .ok (.putfield 18, 3) := by decide +kernel
theorem d_Wi_behindEntry_47 : decode b_Wi_behindEntry 47 = .ok (.return_, 1) := by decide +kernel
theorem d_La_cell_0 : decode b_La_cell 0 = .ok (.iload_n 1, 1) := by decide +kernel
theorem d_La_cell_1 : decode b_La_cell 1 = .ok (.aload_n 0, 1) := by decide +kernel
theorem d_La_cell_2 : decode b_La_cell 2 = .ok (.arraylength, 1) := by decide +kernel
theorem d_La_cell_3 : decode b_La_cell 3 = .ok (.if_icmp .ge (9), 3) := by decide +kernel
theorem d_La_cell_6 : decode b_La_cell 6 = .ok (.aload_n 0, 1) := by decide +kernel
theorem d_La_cell_7 : decode b_La_cell 7 = .ok (.iload_n 1, 1) := by decide +kernel
theorem d_La_cell_8 : decode b_La_cell 8 = .ok (.iaload, 1) := by decide +kernel
theorem d_La_cell_9 : decode b_La_cell 9 = .ok (.goto (4), 3) := by decide +kernel
theorem d_La_cell_12 : decode b_La_cell 12 = .ok (.iconst (0), 1) := by decide +kernel
theorem d_La_cell_13 : decode b_La_cell 13 = .ok (.ireturn, 1) := by decide +kernel
theorem d_La_put_0 : decode b_La_put 0 = .ok (.aload 4, 2) := by decide +kernel
theorem d_La_put_2 : decode b_La_put 2 = .ok (.iconst (0), 1) := by decide +kernel
theorem d_La_put_3 : decode b_La_put 3 = .ok (.aload_n 0, 1) := by decide +kernel
theorem d_La_put_4 : decode b_La_put 4 = .ok (.iload_n 1, 1) := by decide +kernel
theorem d_La_put_5 : decode b_La_put 5 = .ok (.iload_n 2, 1) := by decide +kernel
theorem d_La_put_6 : decode b_La_put 6 = .ok (.iload_n 3, 1) := by decide +kernel
theorem d_La_put_7 : decode b_La_put 7 = .ok (.invokevirtual 7, 3) := by decide +kernel
theorem d_La_put_10 : decode b_La_put 10 = .ok (.i2l, 1) := by decide +kernel
theorem d_La_put_11 : decode b_La_put 11 = .ok (.lastore, 1) := by decide +kernel
theorem d_La_put_12 : decode b_La_put 12 = .ok (.goto (11), 3) := by decide +kernel
theorem d_La_put_15 : decode b_La_put 15 = .ok (.astore 5, 2) := by decide +kernel
theorem d_La_put_17 : decode b_La_put 17 = .ok (.iconst (1), 1) := by decide +kernel
theorem d_La_put_18 : decode b_La_put 18 = .ok (.ireturn, 1) := by decide +kernel
theorem d_La_put_19 : decode b_La_put 19 = .ok (.astore 5, 2) := by decide +kernel
theorem d_La_put_21 : decode b_La_put 21 = .ok (.iconst (2), 1) := by decide +kernel
theorem d_La_put_22 : decode b_La_put 22 = .ok (.ireturn, 1) := by decide +kernel
theorem d_La_put_23 : decode b_La_put 23 = .ok (.iconst (0), 1) := by decide +kernel
theorem d_La_put_24 : decode b_La_put 24 = .ok (.ireturn, 1) := by decide +kernel
theorem d_La_rule_0 : decode b_La_rule 0 = .ok (.aload_n 2, 1) := by decide +kernel
theorem d_La_rule_1 : decode b_La_rule 1 = .ok (.iconst (0), 1) := by decide +kernel
theorem d_La_rule_2 : decode b_La_rule 2 = .ok (.aload_n 0, 1) := by decide +kernel
theorem d_La_rule_3 : decode b_La_rule 3 = .ok (.iload_n 1, 1) := by decide +kernel
theorem d_La_rule_4 : decode b_La_rule 4 = .ok (.invokevirtual 17, 3) := by decide +kernel
theorem d_La_rule_7 : decode b_La_rule 7 = .ok (.i2l, 1) := by decide +kernel
theorem d_La_rule_8 : decode b_La_rule 8 = .ok (.lastore, 1) := by decide +kernel
theorem d_La_rule_9 : decode b_La_rule 9 = .ok (.goto (6), 3) := by decide +kernel
theorem d_La_rule_12 : decode b_La_rule 12 = .ok (.astore_n 3, 1) := by decide +kernel
theorem d_La_rule_13 : decode b_La_rule 13 = .ok (.iconst (1), 1) := by decide +kernel
theorem d_La_rule_14 : decode b_La_rule 14 = .ok (.ireturn, 1) := by decide +kernel
theorem d_La_rule_15 : decode b_La_rule 15 = .ok (.iconst (0), 1) := by decide +kernel
theorem d_La_rule_16 : decode b_La_rule 16 = .ok (.ireturn, 1) := by decide +kernel
theorem d_La_byteAt_0 : decode b_La_byteAt 0 = .ok (.aload_n 2, 1) := by decide +kernel
theorem d_La_byteAt_1 : decode b_La_byteAt 1 = .ok (.iconst (0), 1) := by decide +kernel
theorem d_La_byteAt_2 : decode b_La_byteAt 2 = .ok (.aload_n 0, 1) := by decide +kernel
theorem d_La_byteAt_3 : decode b_La_byteAt 3 = .ok (.iload_n 1, 1) := by decide +kernel
theorem d_La_byteAt_4 : decode b_La_byteAt 4 = .ok (.invokevirtual 21, 3) := by decide +kernel
theorem d_La_byteAt_7 : decode b_La_byteAt 7 = .ok (.i2l, 1) := by decide +kernel
theorem d_La_byteAt_8 : decode b_La_byteAt 8 = .ok (.lastore, 1) := by decide +kernel
theorem d_La_byteAt_9 : decode b_La_byteAt 9 = .ok (.goto (6), 3) := by decide +kernel
theorem d_La_byteAt_12 : decode b_La_byteAt 12 = .ok (.astore_n 3, 1) := by decide +kernel
theorem d_La_byteAt_13 : decode b_La_byteAt 13 = .ok (.iconst (1), 1) := by decide +kernel
theorem d_La_byteAt_14 : decode b_La_byteAt 14 = .ok (.ireturn, 1) := by decide +kernel
theorem d_La_byteAt_15 : decode b_La_byteAt 15 = .ok (.iconst (0), 1) := by decide +kernel
theorem d_La_byteAt_16 : decode b_La_byteAt 16 = .ok (.ireturn, 1) := by decide +kernel
theorem d_La_feed_0 : decode b_La_feed 0 = .ok (.aload_n 2, 1) := by decide +kernel
theorem d_La_feed_1 : decode b_La_feed 1 = .ok (.iconst (0), 1) := by decide +kernel
theorem d_La_feed_2 : decode b_La_feed 2 = .ok (.aload_n 0, 1) := by decide +kernel
theorem d_La_feed_3 : decode b_La_feed 3 = .ok (.iload_n 1, 1) := by decide +kernel
theorem d_La_feed_4 : decode b_La_feed 4 = .ok (.invokevirtual 26, 3) := by decide +kernel
theorem d_La_feed_7 : decode b_La_feed 7 = .ok (.i2l, 1) := by decide +kernel
theorem d_La_feed_8 : decode b_La_feed 8 = .ok (.lastore, 1) := by decide +kernel
theorem d_La_feed_9 : decode b_La_feed 9 = .ok (.goto (9), 3) := by decide +kernel
theorem d_La_feed_12 : decode b_La_feed 12 = .ok (.astore_n 3, 1) := by decide +kernel
theorem d_La_feed_13 : decode b_La_feed 13 = .ok (.iconst (1), 1) := by decide +kernel
theorem d_La_feed_14 : decode b_La_feed 14 = .ok (.ireturn, 1) := by decide +kernel
theorem d_La_feed_15 : decode b_La_feed 15 = .ok (.astore_n 3, 1) := by decide +kernel
theorem d_La_feed_16 : decode b_La_feed 16 = .ok (.iconst (2), 1) := by decide +kernel
theorem d_La_feed_17 : decode b_La_feed 17 = .ok (.ireturn, 1) := by decide +kernel
theorem d_La_feed_18 : decode b_La_feed 18 = .ok (.iconst (0), 1) := by decide +kernel
theorem d_La_feed_19 : decode b_La_feed 19 = .ok (.ireturn, 1) := by decide +kernel
theorem d_La_pass_0 : decode b_La_pass 0 = .ok (.aload_n 3, 1) := by decide +kernel
theorem d_La_pass_1 : decode b_La_pass 1 = .ok (.iconst (0), 1) := by decide +kernel
theorem d_La_pass_2 : decode b_La_pass 2 = .ok (.aload_n 0, 1) := by decide +kernel
theorem d_La_pass_3 : decode b_La_pass 3 = .ok (.iload_n 1, 1) := by decide +kernel
theorem d_La_pass_4 : decode b_La_pass 4 = .ok (.iload_n 2, 1) := by decide +kernel
theorem d_La_pass_5 : decode b_La_pass 5 = .ok (.invokevirtual 29, 3) := by decide +kernel
theorem d_La_pass_8 : decode b_La_pass 8 = .ok (.i2l, 1) := by decide +kernel
theorem d_La_pass_9 : decode b_La_pass 9 = .ok (.lastore, 1) := by decide +kernel
theorem d_La_pass_10 : decode b_La_pass 10 = .ok (.goto (15), 3) := by decide +kernel
theorem d_La_pass_13 : decode b_La_pass 13 = .ok (.astore 4, 2) := by decide +kernel
theorem d_La_pass_15 : decode b_La_pass 15 = .ok (.iconst (1), 1) := by decide +kernel
theorem d_La_pass_16 : decode b_La_pass 16 = .ok (.ireturn, 1) := by decide +kernel
theorem d_La_pass_17 : decode b_La_pass 17 = .ok (.astore 4, 2) := by decide +kernel
theorem d_La_pass_19 : decode b_La_pass 19 = .ok (.iconst (2), 1) := by decide +kernel
theorem d_La_pass_20 : decode b_La_pass 20 = .ok (.ireturn, 1) := by decide +kernel
theorem d_La_pass_21 : decode b_La_pass 21 = .ok (.astore 4, 2) := by decide +kernel
theorem d_La_pass_23 : decode b_La_pass 23 = .ok (.iconst (3), 1) := by decide +kernel
theorem d_La_pass_24 : decode b_La_pass 24 = .ok (.ireturn, 1) := by decide +kernel
theorem d_La_pass_25 : decode b_La_pass 25 = .ok (.iconst (0), 1) := by decide +kernel
theorem d_La_pass_26 : decode b_La_pass 26 = .ok (.ireturn, 1) := by decide +kernel
theorem d_La_at_0 : decode b_La_at 0 = .ok (.aload_n 2, 1) := by decide +kernel
theorem d_La_at_1 : decode b_La_at 1 = .ok (.iconst (0), 1) := by decide +kernel
theorem d_La_at_2 : decode b_La_at 2 = .ok (.aload_n 0, 1) := by decide +kernel
theorem d_La_at_3 : decode b_La_at 3 = .ok (.iload_n 1, 1) := by decide +kernel
theorem d_La_at_4 : decode b_La_at 4 = .ok (.invokevirtual 33, 3) := by decide +kernel
theorem d_La_at_7 : decode b_La_at 7 = .ok (.i2l, 1) := by decide +kernel
theorem d_La_at_8 : decode b_La_at 8 = .ok (.lastore, 1) := by decide +kernel
theorem d_La_at_9 : decode b_La_at 9 = .ok (.goto (6), 3) := by decide +kernel
theorem d_La_at_12 : decode b_La_at 12 = .ok (.astore_n 3, 1) := by decide +kernel
theorem d_La_at_13 : decode b_La_at 13 = .ok (.iconst (1), 1) := by decide +kernel
theorem d_La_at_14 : decode b_La_at 14 = .ok (.ireturn, 1) := by decide +kernel
theorem d_La_at_15 : decode b_La_at 15 = .ok (.iconst (0), 1) := by decide +kernel
theorem d_La_at_16 : decode b_La_at 16 = .ok (.ireturn, 1) := by decide +kernel
theorem d_La_frame_0 : decode b_La_frame 0 = .ok (.aload 8, 2) := by decide +kernel
theorem d_La_frame_2 : decode b_La_frame 2 = .ok (.iconst (0), 1) := by decide +kernel
theorem d_La_frame_3 : decode b_La_frame 3 = .ok (.aload_n 0, 1) := by decide +kernel
theorem d_La_frame_4 : decode b_La_frame 4 = .ok (.iload_n 1, 1) := by decide +kernel
theorem d_La_frame_5 : decode b_La_frame 5 = .ok (.iload_n 2, 1) := by decide +kernel
theorem d_La_frame_6 : decode b_La_frame 6 = .ok (.iload_n 3, 1) := by decide +kernel
theorem d_La_frame_7 : decode b_La_frame 7 = .ok (.iload 4, 2) := by decide +kernel
theorem d_La_frame_9 : decode b_La_frame 9 = .ok (.iload 5, 2) := by decide +kernel
theorem d_La_frame_11 : decode b_La_frame 11 = .ok (.iload 6, 2) := by decide +kernel
theorem d_La_frame_13 : decode b_La_frame 13 = .ok (.iload 7, 2) := by decide +kernel
theorem d_La_frame_15 : decode b_La_frame 15 = .ok (.invokevirtual 36, 3) := by decide +kernel
theorem d_La_frame_18 : decode b_La_frame 18 = .ok (.i2l, 1) := by decide +kernel
theorem d_La_frame_19 : decode b_La_frame 19 = .ok (.lastore, 1) := by decide +kernel
theorem d_La_frame_20 : decode b_La_frame 20 = .ok (.goto (15), 3) := by decide +kernel
theorem d_La_frame_23 : decode b_La_frame 23 = .ok (.astore 9, 2) := by decide +kernel
theorem d_La_frame_25 : decode b_La_frame 25 = .ok (.iconst (1), 1) := by decide +kernel
theorem d_La_frame_26 : decode b_La_frame 26 = .ok (.ireturn, 1) := by decide +kernel
theorem d_La_frame_27 : decode b_La_frame 27 = .ok (.astore 9, 2) := by decide +kernel
theorem d_La_frame_29 : decode b_La_frame 29 = .ok (.iconst (2), 1) := by decide +kernel
theorem d_La_frame_30 : decode b_La_frame 30 = .ok (.ireturn, 1) := by decide +kernel
theorem d_La_frame_31 : decode b_La_frame 31 = .ok (.astore 9, 2) := by decide +kernel
theorem d_La_frame_33 : decode b_La_frame 33 = .ok (.iconst (3), 1) := by decide +kernel
theorem d_La_frame_34 : decode b_La_frame 34 = .ok (.ireturn, 1) := by decide +kernel
theorem d_La_frame_35 : decode b_La_frame 35 = .ok (.iconst (0), 1) := by decide +kernel
theorem d_La_frame_36 : decode b_La_frame 36 = .ok (.ireturn, 1) := by decide +kernel
theorem d_La_colour_0 : decode b_La_colour 0 = .ok (.aload 4, 2) := by decide +kernel
theorem d_La_colour_2 : decode b_La_colour 2 = .ok (.iconst (0), 1) := by decide +kernel
theorem d_La_colour_3 : decode b_La_colour 3 = .ok (.aload_n 0, 1) := by decide +kernel
theorem d_La_colour_4 : decode b_La_colour 4 = .ok (.iload_n 1, 1) := by decide +kernel
theorem d_La_colour_5 : decode b_La_colour 5 = .ok (.iload_n 2, 1) := by decide +kernel
theorem d_La_colour_6 : decode b_La_colour 6 = .ok (.iload_n 3, 1) := by decide +kernel
theorem d_La_colour_7 : decode b_La_colour 7 = .ok (.invokevirtual 42, 3) := by decide +kernel
theorem d_La_colour_10 : decode b_La_colour 10 = .ok (.i2l, 1) := by decide +kernel
theorem d_La_colour_11 : decode b_La_colour 11 = .ok (.lastore, 1) := by decide +kernel
theorem d_La_colour_12 : decode b_La_colour 12 = .ok (.goto (11), 3) := by decide +kernel
theorem d_La_colour_15 : decode b_La_colour 15 = .ok (.astore 5, 2) := by decide +kernel
theorem d_La_colour_17 : decode b_La_colour 17 = .ok (.iconst (1), 1) := by decide +kernel
theorem d_La_colour_18 : decode b_La_colour 18 = .ok (.ireturn, 1) := by decide +kernel
theorem d_La_colour_19 : decode b_La_colour 19 = .ok (.astore 5, 2) := by decide +kernel
theorem d_La_colour_21 : decode b_La_colour 21 = .ok (.iconst (2), 1) := by decide +kernel
theorem d_La_colour_22 : decode b_La_colour 22 = .ok (.ireturn, 1) := by decide +kernel
theorem d_La_colour_23 : decode b_La_colour 23 = .ok (.iconst (0), 1) := by decide +kernel
theorem d_La_colour_24 : decode b_La_colour 24 = .ok (.ireturn, 1) := by decide +kernel
theorem d_La_through_0 : decode b_La_through 0 = .ok (.aload_n 3, 1) := by decide +kernel
theorem d_La_through_1 : decode b_La_through 1 = .ok (.iconst (0), 1) := by decide +kernel
theorem d_La_through_2 : decode b_La_through 2 = .ok (.aload_n 0, 1) := by decide +kernel
theorem d_La_through_3 : decode b_La_through 3 = .ok (.iload_n 1, 1) := by decide +kernel
theorem d_La_through_4 : decode b_La_through 4 = .ok (.iload_n 2, 1) := by decide +kernel
theorem d_La_through_5 : decode b_La_through 5 = .ok (.invokevirtual 45, 3) := by decide +kernel
theorem d_La_through_8 : decode b_La_through 8 = .ok (.i2l, 1) := by decide +kernel
theorem d_La_through_9 : decode b_La_through 9 = .ok (.lastore, 1) := by decide +kernel
theorem d_La_through_10 : decode b_La_through 10 = .ok (.goto (7), 3) := by decide +kernel
theorem d_La_through_13 : decode b_La_through 13 = .ok (.astore 4, 2) := by decide +kernel
theorem d_La_through_15 : decode b_La_through 15 = .ok (.iconst (1), 1) := by decide +kernel
theorem d_La_through_16 : decode b_La_through 16 = .ok (.ireturn, 1) := by decide +kernel
theorem d_La_through_17 : decode b_La_through 17 = .ok (.iconst (0), 1) := by decide +kernel
theorem d_La_through_18 : decode b_La_through 18 = .ok (.ireturn, 1) := by decide +kernel
theorem d_La_shown_0 : decode b_La_shown 0 = .ok (.aload 4, 2) := by decide +kernel
theorem d_La_shown_2 : decode b_La_shown 2 = .ok (.iconst (0), 1) := by decide +kernel
theorem d_La_shown_3 : decode b_La_shown 3 = .ok (.aload_n 0, 1) := by decide +kernel
theorem d_La_shown_4 : decode b_La_shown 4 = .ok (.iload_n 1, 1) := by decide +kernel
theorem d_La_shown_5 : decode b_La_shown 5 = .ok (.iload_n 2, 1) := by decide +kernel
theorem d_La_shown_6 : decode b_La_shown 6 = .ok (.iload_n 3, 1) := by decide +kernel
theorem d_La_shown_7 : decode b_La_shown 7 = .ok (.invokevirtual 48, 3) := by decide +kernel
theorem d_La_shown_10 : decode b_La_shown 10 = .ok (.i2l, 1) := by decide +kernel
theorem d_La_shown_11 : decode b_La_shown 11 = .ok (.lastore, 1) := by decide +kernel
theorem d_La_shown_12 : decode b_La_shown 12 = .ok (.goto (7), 3) := by decide +kernel
theorem d_La_shown_15 : decode b_La_shown 15 = .ok (.astore 5, 2) := by decide +kernel
theorem d_La_shown_17 : decode b_La_shown 17 = .ok (.iconst (1), 1) := by decide +kernel
theorem d_La_shown_18 : decode b_La_shown 18 = .ok (.ireturn, 1) := by decide +kernel
theorem d_La_shown_19 : decode b_La_shown 19 = .ok (.iconst (0), 1) := by decide +kernel
theorem d_La_shown_20 : decode b_La_shown 20 = .ok (.ireturn, 1) := by decide +kernel
theorem d_La_symbol_0 : decode b_La_symbol 0 = .ok (.aload 4, 2) := by decide +kernel
theorem d_La_symbol_2 : decode b_La_symbol 2 = .ok (.iconst (0), 1) := by decide +kernel
theorem d_La_symbol_3 : decode b_La_symbol 3 = .ok (.aload_n 0, 1) := by decide +kernel
theorem d_La_symbol_4 : decode b_La_symbol 4 = .ok (.iload_n 1, 1) := by decide +kernel
theorem d_La_symbol_5 : decode b_La_symbol 5 = .ok (.iload_n 2, 1) := by decide +kernel
theorem d_La_symbol_6 : decode b_La_symbol 6 = .ok (.iload_n 3, 1) := by decide +kernel
theorem d_La_symbol_7 : decode b_La_symbol 7 = .ok (.invokevirtual 51, 3) := by decide +kernel
theorem d_La_symbol_10 : decode b_La_symbol 10 = .ok (.i2l, 1) := by decide +kernel
theorem d_La_symbol_11 : decode b_La_symbol 11 = .ok (.lastore, 1) := by decide +kernel
theorem d_La_symbol_12 : decode b_La_symbol 12 = .ok (.goto (7), 3) := by decide +kernel
theorem d_La_symbol_15 : decode b_La_symbol 15 = .ok (.astore 5, 2) := by decide +kernel
theorem d_La_symbol_17 : decode b_La_symbol 17 = .ok (.iconst (1), 1) := by decide +kernel
theorem d_La_symbol_18 : decode b_La_symbol 18 = .ok (.ireturn, 1) := by decide +kernel
theorem d_La_symbol_19 : decode b_La_symbol 19 = .ok (.iconst (0), 1) := by decide +kernel
theorem d_La_symbol_20 : decode b_La_symbol 20 = .ok (.ireturn, 1) := by decide +kernel
theorem d_La_when_0 : decode b_La_when 0 = .ok (.aload_n 3, 1) := by decide +kernel
theorem d_La_when_1 : decode b_La_when 1 = .ok (.iconst (0), 1) := by decide +kernel
theorem d_La_when_2 : decode b_La_when 2 = .ok (.aload_n 0, 1) := by decide +kernel
theorem d_La_when_3 : decode b_La_when 3 = .ok (.iload_n 1, 1) := by decide +kernel
theorem d_La_when_4 : decode b_La_when 4 = .ok (.iload_n 2, 1) := by decide +kernel
theorem d_La_when_5 : decode b_La_when 5 = .ok (.invokevirtual 54, 3) := by decide +kernel
theorem d_La_when_8 : decode b_La_when 8 = .ok (.i2l, 1) := by decide +kernel
theorem d_La_when_9 : decode b_La_when 9 = .ok (.lastore, 1) := by decide +kernel
theorem d_La_when_10 : decode b_La_when 10 = .ok (.goto (7), 3) := by decide +kernel
theorem d_La_when_13 : decode b_La_when 13 = .ok (.astore 4, 2) := by decide +kernel
theorem d_La_when_15 : decode b_La_when 15 = .ok (.iconst (1), 1) := by decide +kernel
theorem d_La_when_16 : decode b_La_when 16 = .ok (.ireturn, 1) := by decide +kernel
theorem d_La_when_17 : decode b_La_when 17 = .ok (.iconst (0), 1) := by decide +kernel
theorem d_La_when_18 : decode b_La_when 18 = .ok (.ireturn, 1) := by decide +kernel
theorem d_La_passOf_0 : decode b_La_passOf 0 = .ok (.aload_n 2, 1) := by decide +kernel
theorem d_La_passOf_1 : decode b_La_passOf 1 = .ok (.iconst (0), 1) := by decide +kernel
theorem d_La_passOf_2 : decode b_La_passOf 2 = .ok (.aload_n 0, 1) := by decide +kernel
theorem d_La_passOf_3 : decode b_La_passOf 3 = .ok (.iload_n 1, 1) := by decide +kernel
theorem d_La_passOf_4 : decode b_La_passOf 4 = .ok (.invokevirtual 57, 3) := by decide +kernel
theorem d_La_passOf_7 : decode b_La_passOf 7 = .ok (.i2l, 1) := by decide +kernel
theorem d_La_passOf_8 : decode b_La_passOf 8 = .ok (.lastore, 1) := by decide +kernel
theorem d_La_passOf_9 : decode b_La_passOf 9 = .ok (.goto (6), 3) := by decide +kernel
theorem d_La_passOf_12 : decode b_La_passOf 12 = .ok (.astore_n 3, 1) := by decide +kernel
theorem d_La_passOf_13 : decode b_La_passOf 13 = .ok (.iconst (1), 1) := by decide +kernel
theorem d_La_passOf_14 : decode b_La_passOf 14 = .ok (.ireturn, 1) := by decide +kernel
theorem d_La_passOf_15 : decode b_La_passOf 15 = .ok (.iconst (0), 1) := by decide +kernel
theorem d_La_passOf_16 : decode b_La_passOf 16 = .ok (.ireturn, 1) := by decide +kernel
theorem d_Ar_fill_0 : decode b_Ar_fill 0 = .ok (.iconst (0), 1) := by decide +kernel
theorem d_Ar_fill_1 : decode b_Ar_fill 1 = .ok (.istore_n 2, 1) := by decide +kernel
theorem d_Ar_fill_2 : decode b_Ar_fill 2 = .ok (.aload_n 0, 1) := by decide +kernel
theorem d_Ar_fill_3 : decode b_Ar_fill 3 = .ok (.arraylength, 1) := by decide +kernel
theorem d_Ar_fill_4 : decode b_Ar_fill 4 = .ok (.istore_n 3, 1) := by decide +kernel
theorem d_Ar_fill_5 : decode b_Ar_fill 5 = .ok (.iload_n 2, 1) := by decide +kernel
theorem d_Ar_fill_6 : decode b_Ar_fill 6 = .ok (.iload_n 3, 1) := by decide +kernel
theorem d_Ar_fill_7 : decode b_Ar_fill 7 = .ok (.if_icmp .ge (13), 3) := by decide +kernel
theorem d_Ar_fill_10 : decode b_Ar_fill 10 = .ok (.aload_n 0, 1) := by decide +kernel
theorem d_Ar_fill_11 : decode b_Ar_fill 11 = .ok (.iload_n 2, 1) := by decide +kernel
theorem d_Ar_fill_12 : decode b_Ar_fill 12 = .ok (.iload_n 1, 1) := by decide +kernel
theorem d_Ar_fill_13 : decode b_Ar_fill 13 = .ok (.iastore, 1) := by decide +kernel
theorem d_Ar_fill_14 : decode b_Ar_fill 14 = .ok (.iinc 2 (1), 3) := by decide +kernel
theorem d_Ar_fill_17 : decode b_Ar_fill 17 = .ok (.goto (-12), 3) := by decide +kernel
theorem d_Ar_fill_20 : decode b_Ar_fill 20 = .ok (.return_, 1) := by decide +kernel
