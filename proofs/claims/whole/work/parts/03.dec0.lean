theorem d_PF_init_0 : decode b_PF_init 0 = .ok (.aload_n 0, 1) := by decide +kernel
theorem d_PF_init_1 : decode b_PF_init 1 = .ok (.invokespecial 3, 3) := by decide +kernel
theorem d_PF_init_4 : decode b_PF_init 4 = .ok (.aload_n 0, 1) := by decide +kernel
theorem d_PF_init_5 : decode b_PF_init 5 = .ok (.iconst (2), 1) := by decide +kernel
theorem d_PF_init_6 : decode b_PF_init 6 = .ok (.bipush (8), 2) := by decide +kernel
theorem d_PF_init_8 : decode b_PF_init 8 = .ok (.iload_n 1, 1) := by decide +kernel
theorem d_PF_init_9 : decode b_PF_init 9 = .ok (.invokestatic 9, 3) := by decide +kernel
theorem d_PF_init_12 : decode b_PF_init 12 = .ok (.invokestatic 15, 3) := by decide +kernel
theorem d_PF_init_15 : decode b_PF_init 15 = .ok (.putfield 18, 3) := by decide +kernel
theorem d_PF_init_18 : decode b_PF_init 18 = .ok (.aload_n 0, 1) := by decide +kernel
theorem d_PF_init_19 : decode b_PF_init 19 = .ok (.new 22, 3) := by decide +kernel
theorem d_PF_init_22 : decode b_PF_init 22 = .ok (.dup, 1) := by decide +kernel
theorem d_PF_init_23 : decode b_PF_init 23 = .ok (.sipush (12000), 3) := by decide +kernel
theorem d_PF_init_26 : decode b_PF_init 26 = .ok (.invokespecial 24, 3) := by decide +kernel
theorem d_PF_init_29 : decode b_PF_init 29 = .ok (.putfield 27, 3) := by decide +kernel
theorem d_PF_init_32 : decode b_PF_init 32 = .ok (.aload_n 0, 1) := by decide +kernel
theorem d_PF_init_33 : decode b_PF_init 33 = .ok (.new 22, 3) := by decide +kernel
theorem d_PF_init_36 : decode b_PF_init 36 = .ok (.dup, 1) := by decide +kernel
theorem d_PF_init_37 : decode b_PF_init 37 = .ok (.sipush (24000), 3) := by decide +kernel
theorem d_PF_init_40 : decode b_PF_init 40 = .ok (.invokespecial 24, 3) := by decide +kernel
theorem d_PF_init_43 : decode b_PF_init 43 = .ok (.putfield 31, 3) := by decide +kernel
theorem d_PF_init_46 : decode b_PF_init 46 = .ok (.aload_n 0, 1) := by decide +kernel
theorem d_PF_init_47 : decode b_PF_init 47 = .ok (.new 34, 3) := by decide +kernel
theorem d_PF_init_50 : decode b_PF_init 50 = .ok (.dup, 1) := by decide +kernel
theorem d_PF_init_51 : decode b_PF_init 51 = .ok (.aload_n 0, 1) := by decide +kernel
theorem d_PF_init_52 : decode b_PF_init 52 = .ok (.getfield 18, 3) := by decide +kernel
theorem d_PF_init_55 : decode b_PF_init 55 = .ok (.invokespecial 36, 3) := by decide +kernel
theorem d_PF_init_58 : decode b_PF_init 58 = .ok (.putfield 37, 3) := by decide +kernel
theorem d_PF_init_61 : decode b_PF_init 61 = .ok (.aload_n 0, 1) := by decide +kernel
theorem d_PF_init_62 : decode b_PF_init 62 = .ok (.new 41, 3) := by decide +kernel
theorem d_PF_init_65 : decode b_PF_init 65 = .ok (.dup, 1) := by decide +kernel
theorem d_PF_init_66 : decode b_PF_init 66 = .ok (.aload_n 0, 1) := by decide +kernel
theorem d_PF_init_67 : decode b_PF_init 67 = .ok (.getfield 18, 3) := by decide +kernel
theorem d_PF_init_70 : decode b_PF_init 70 = .ok (.invokespecial 43, 3) := by decide +kernel
theorem d_PF_init_73 : decode b_PF_init 73 = .ok (.putfield 44, 3) := by decide +kernel
theorem d_PF_init_76 : decode b_PF_init 76 = .ok (.aload_n 0, 1) := by decide +kernel
theorem d_PF_init_77 : decode b_PF_init 77 = .ok (.new 48, 3) := by decide +kernel
theorem d_PF_init_80 : decode b_PF_init 80 = .ok (.dup, 1) := by decide +kernel
theorem d_PF_init_81 : decode b_PF_init 81 = .ok (.iconst (1), 1) := by decide +kernel
theorem d_PF_init_82 : decode b_PF_init 82 = .ok (.aload_n 0, 1) := by decide +kernel
theorem d_PF_init_83 : decode b_PF_init 83 = .ok (.getfield 18, 3) := by decide +kernel
theorem d_PF_init_86 : decode b_PF_init 86 = .ok (.ishl, 1) := by decide +kernel
theorem d_PF_init_87 : decode b_PF_init 87 = .ok (.invokespecial 50, 3) := by decide +kernel
theorem d_PF_init_90 : decode b_PF_init 90 = .ok (.putfield 51, 3) := by decide +kernel
theorem d_PF_init_93 : decode b_PF_init 93 = .ok (.aload_n 0, 1) := by decide +kernel
theorem d_PF_init_94 : decode b_PF_init 94 = .ok (.iconst (0), 1) := by decide +kernel
theorem d_PF_init_95 : decode b_PF_init 95 = .ok (.putfield 55, 3) := by decide +kernel
theorem d_PF_init_98 : decode b_PF_init 98 = .ok (.return_, 1) := by decide +kernel
theorem d_PF_put_0 : decode b_PF_put 0 = .ok (.iload_n 3, 1) := by decide +kernel
theorem d_PF_put_1 : decode b_PF_put 1 = .ok (.iconst (1), 1) := by decide +kernel
theorem d_PF_put_2 : decode b_PF_put 2 = .ok (.if_icmp .lt (10), 3) := by decide +kernel
theorem d_PF_put_5 : decode b_PF_put 5 = .ok (.iload_n 3, 1) := by decide +kernel
theorem d_PF_put_6 : decode b_PF_put 6 = .ok (.sipush (1000), 3) := by decide +kernel
theorem d_PF_put_9 : decode b_PF_put 9 = .ok (.if_icmp .le (13), 3) := by decide +kernel
theorem d_PF_put_12 : decode b_PF_put 12 = .ok (.new 58, 3) := by decide +kernel
theorem d_PF_put_15 : decode b_PF_put 15 = .ok (.dup, 1) := by decide +kernel
theorem d_PF_put_16 : decode b_PF_put 16 = .ok (.ldc 60, 2) := by decide +kernel
theorem d_PF_put_18 : decode b_PF_put 18 = .ok (.invokespecial 62, 3) := by decide +kernel
theorem d_PF_put_21 : decode b_PF_put 21 = .ok (.athrow, 1) := by decide +kernel
theorem d_PF_put_22 : decode b_PF_put 22 = .ok (.iload_n 3, 1) := by decide +kernel
theorem d_PF_put_23 : decode b_PF_put 23 = .ok (.aload_n 0, 1) := by decide +kernel
theorem d_PF_put_24 : decode b_PF_put 24 = .ok (.getfield 27, 3) := by decide +kernel
theorem d_PF_put_27 : decode b_PF_put 27 = .ok (.invokevirtual 65, 3) := by decide +kernel
theorem d_PF_put_30 : decode b_PF_put 30 = .ok (.if_icmp .le (13), 3) := by decide +kernel
theorem d_PF_put_33 : decode b_PF_put 33 = .ok (.new 69, 3) := by decide +kernel
theorem d_PF_put_36 : decode b_PF_put 36 = .ok (.dup, 1) := by decide +kernel
theorem d_PF_put_37 : decode b_PF_put 37 = .ok (.ldc 71, 2) := by decide +kernel
theorem d_PF_put_39 : decode b_PF_put 39 = .ok (.invokespecial 73, 3) := by decide +kernel
theorem d_PF_put_42 : decode b_PF_put 42 = .ok (.athrow, 1) := by decide +kernel
theorem d_PF_put_43 : decode b_PF_put 43 = .ok (.iconst (1), 1) := by decide +kernel
theorem d_PF_put_44 : decode b_PF_put 44 = .ok (.aload_n 0, 1) := by decide +kernel
theorem d_PF_put_45 : decode b_PF_put 45 = .ok (.getfield 18, 3) := by decide +kernel
theorem d_PF_put_48 : decode b_PF_put 48 = .ok (.ishl, 1) := by decide +kernel
theorem d_PF_put_49 : decode b_PF_put 49 = .ok (.iconst (1), 1) := by decide +kernel
theorem d_PF_put_50 : decode b_PF_put 50 = .ok (.isub, 1) := by decide +kernel
theorem d_PF_put_51 : decode b_PF_put 51 = .ok (.istore 4, 2) := by decide +kernel
theorem d_PF_put_53 : decode b_PF_put 53 = .ok (.iload_n 1, 1) := by decide +kernel
theorem d_PF_put_54 : decode b_PF_put 54 = .ok (.istore 5, 2) := by decide +kernel
theorem d_PF_put_56 : decode b_PF_put 56 = .ok (.iconst (0), 1) := by decide +kernel
theorem d_PF_put_57 : decode b_PF_put 57 = .ok (.istore 6, 2) := by decide +kernel
theorem d_PF_put_59 : decode b_PF_put 59 = .ok (.iload 6, 2) := by decide +kernel
theorem d_PF_put_61 : decode b_PF_put 61 = .ok (.iload_n 3, 1) := by decide +kernel
theorem d_PF_put_62 : decode b_PF_put 62 = .ok (.if_icmp .ge (27), 3) := by decide +kernel
theorem d_PF_put_65 : decode b_PF_put 65 = .ok (.aload_n 0, 1) := by decide +kernel
theorem d_PF_put_66 : decode b_PF_put 66 = .ok (.getfield 27, 3) := by decide +kernel
theorem d_PF_put_69 : decode b_PF_put 69 = .ok (.iload 5, 2) := by decide +kernel
theorem d_PF_put_71 : decode b_PF_put 71 = .ok (.iload 4, 2) := by decide +kernel
theorem d_PF_put_73 : decode b_PF_put 73 = .ok (.iand, 1) := by decide +kernel
theorem d_PF_put_74 : decode b_PF_put 74 = .ok (.invokevirtual 74, 3) := by decide +kernel
theorem d_PF_put_77 : decode b_PF_put 77 = .ok (.iload 5, 2) := by decide +kernel
theorem d_PF_put_79 : decode b_PF_put 79 = .ok (.iload_n 2, 1) := by decide +kernel
theorem d_PF_put_80 : decode b_PF_put 80 = .ok (.iadd, 1) := by decide +kernel
theorem d_PF_put_81 : decode b_PF_put 81 = .ok (.istore 5, 2) := by decide +kernel
theorem d_PF_put_83 : decode b_PF_put 83 = .ok (.iinc 6 (1), 3) := by decide +kernel
theorem d_PF_put_86 : decode b_PF_put 86 = .ok (.goto (-27), 3) := by decide +kernel
theorem d_PF_put_89 : decode b_PF_put 89 = .ok (.aload_n 0, 1) := by decide +kernel
theorem d_PF_put_90 : decode b_PF_put 90 = .ok (.getfield 27, 3) := by decide +kernel
theorem d_PF_put_93 : decode b_PF_put 93 = .ok (.getfield 77, 3) := by decide +kernel
theorem d_PF_put_96 : decode b_PF_put 96 = .ok (.ireturn, 1) := by decide +kernel
theorem d_PF_rule_0 : decode b_PF_rule 0 = .ok (.iload_n 1, 1) := by decide +kernel
theorem d_PF_rule_1 : decode b_PF_rule 1 = .ok (.ifCond .lt (8), 3) := by decide +kernel
theorem d_PF_rule_4 : decode b_PF_rule 4 = .ok (.iload_n 1, 1) := by decide +kernel
theorem d_PF_rule_5 : decode b_PF_rule 5 = .ok (.iconst (2), 1) := by decide +kernel
theorem d_PF_rule_6 : decode b_PF_rule 6 = .ok (.if_icmp .le (13), 3) := by decide +kernel
theorem d_PF_rule_9 : decode b_PF_rule 9 = .ok (.new 58, 3) := by decide +kernel
theorem d_PF_rule_12 : decode b_PF_rule 12 = .ok (.dup, 1) := by decide +kernel
theorem d_PF_rule_13 : decode b_PF_rule 13 = .ok (.ldc 80, 2) := by decide +kernel
theorem d_PF_rule_15 : decode b_PF_rule 15 = .ok (.invokespecial 62, 3) := by decide +kernel
theorem d_PF_rule_18 : decode b_PF_rule 18 = .ok (.athrow, 1) := by decide +kernel
theorem d_PF_rule_19 : decode b_PF_rule 19 = .ok (.aload_n 0, 1) := by decide +kernel
theorem d_PF_rule_20 : decode b_PF_rule 20 = .ok (.getfield 55, 3) := by decide +kernel
theorem d_PF_rule_23 : decode b_PF_rule 23 = .ok (.istore_n 2, 1) := by decide +kernel
theorem d_PF_rule_24 : decode b_PF_rule 24 = .ok (.aload_n 0, 1) := by decide +kernel
theorem d_PF_rule_25 : decode b_PF_rule 25 = .ok (.iload_n 1, 1) := by decide +kernel
theorem d_PF_rule_26 : decode b_PF_rule 26 = .ok (.putfield 55, 3) := by decide +kernel
theorem d_PF_rule_29 : decode b_PF_rule 29 = .ok (.iload_n 2, 1) := by decide +kernel
theorem d_PF_rule_30 : decode b_PF_rule 30 = .ok (.ireturn, 1) := by decide +kernel
theorem d_PF_encode_0 : decode b_PF_encode 0 = .ok (.aload_n 0, 1) := by decide +kernel
theorem d_PF_encode_1 : decode b_PF_encode 1 = .ok (.getfield 37, 3) := by decide +kernel
theorem d_PF_encode_4 : decode b_PF_encode 4 = .ok (.aload_n 0, 1) := by decide +kernel
theorem d_PF_encode_5 : decode b_PF_encode 5 = .ok (.getfield 27, 3) := by decide +kernel
theorem d_PF_encode_8 : decode b_PF_encode 8 = .ok (.aload_n 0, 1) := by decide +kernel
theorem d_PF_encode_9 : decode b_PF_encode 9 = .ok (.getfield 55, 3) := by decide +kernel
theorem d_PF_encode_12 : decode b_PF_encode 12 = .ok (.invokevirtual 82, 3) := by decide +kernel
theorem d_PF_encode_15 : decode b_PF_encode 15 = .ok (.aload_n 0, 1) := by decide +kernel
theorem d_PF_encode_16 : decode b_PF_encode 16 = .ok (.getfield 37, 3) := by decide +kernel
theorem d_PF_encode_19 : decode b_PF_encode 19 = .ok (.getfield 86, 3) := by decide +kernel
theorem d_PF_encode_22 : decode b_PF_encode 22 = .ok (.getfield 77, 3) := by decide +kernel
theorem d_PF_encode_25 : decode b_PF_encode 25 = .ok (.ireturn, 1) := by decide +kernel
theorem d_PF_byteAt_0 : decode b_PF_byteAt 0 = .ok (.aload_n 0, 1) := by decide +kernel
theorem d_PF_byteAt_1 : decode b_PF_byteAt 1 = .ok (.getfield 37, 3) := by decide +kernel
theorem d_PF_byteAt_4 : decode b_PF_byteAt 4 = .ok (.getfield 86, 3) := by decide +kernel
theorem d_PF_byteAt_7 : decode b_PF_byteAt 7 = .ok (.iload_n 1, 1) := by decide +kernel
theorem d_PF_byteAt_8 : decode b_PF_byteAt 8 = .ok (.invokevirtual 89, 3) := by decide +kernel
theorem d_PF_byteAt_11 : decode b_PF_byteAt 11 = .ok (.ifCond .ne (13), 3) := by decide +kernel
theorem d_PF_byteAt_14 : decode b_PF_byteAt 14 = .ok (.new 93, 3) := by decide +kernel
theorem d_PF_byteAt_17 : decode b_PF_byteAt 17 = .ok (.dup, 1) := by decide +kernel
theorem d_PF_byteAt_18 : decode b_PF_byteAt 18 = .ok (.ldc 95, 2) := by decide +kernel
theorem d_PF_byteAt_20 : decode b_PF_byteAt 20 = .ok (.invokespecial 97, 3) := by decide +kernel
theorem d_PF_byteAt_23 : decode b_PF_byteAt 23 = .ok (.athrow, 1) := by decide +kernel
theorem d_PF_byteAt_24 : decode b_PF_byteAt 24 = .ok (.aload_n 0, 1) := by decide +kernel
theorem d_PF_byteAt_25 : decode b_PF_byteAt 25 = .ok (.getfield 37, 3) := by decide +kernel
theorem d_PF_byteAt_28 : decode b_PF_byteAt 28 = .ok (.getfield 86, 3) := by decide +kernel
theorem d_PF_byteAt_31 : decode b_PF_byteAt 31 = .ok (.iload_n 1, 1) := by decide +kernel
theorem d_PF_byteAt_32 : decode b_PF_byteAt 32 = .ok (.invokevirtual 98, 3) := by decide +kernel
theorem d_PF_byteAt_35 : decode b_PF_byteAt 35 = .ok (.ireturn, 1) := by decide +kernel
theorem d_PF_coded_0 : decode b_PF_coded 0 = .ok (.iload_n 1, 1) := by decide +kernel
theorem d_PF_coded_1 : decode b_PF_coded 1 = .ok (.tableswitch (66) (0) (3) #[31, 39, 47, 55], 31) := by decide +kernel
theorem d_PF_coded_32 : decode b_PF_coded 32 = .ok (.aload_n 0, 1) := by decide +kernel
theorem d_PF_coded_33 : decode b_PF_coded 33 = .ok (.getfield 37, 3) := by decide +kernel
theorem d_PF_coded_36 : decode b_PF_coded 36 = .ok (.getfield 102, 3) := by decide +kernel
theorem d_PF_coded_39 : decode b_PF_coded 39 = .ok (.ireturn, 1) := by decide +kernel
theorem d_PF_coded_40 : decode b_PF_coded 40 = .ok (.aload_n 0, 1) := by decide +kernel
theorem d_PF_coded_41 : decode b_PF_coded 41 = .ok (.getfield 37, 3) := by decide +kernel
theorem d_PF_coded_44 : decode b_PF_coded 44 = .ok (.getfield 105, 3) := by decide +kernel
theorem d_PF_coded_47 : decode b_PF_coded 47 = .ok (.ireturn, 1) := by decide +kernel
theorem d_PF_coded_48 : decode b_PF_coded 48 = .ok (.aload_n 0, 1) := by decide +kernel
theorem d_PF_coded_49 : decode b_PF_coded 49 = .ok (.getfield 37, 3) := by decide +kernel
theorem d_PF_coded_52 : decode b_PF_coded 52 = .ok (.getfield 108, 3) := by decide +kernel
theorem d_PF_coded_55 : decode b_PF_coded 55 = .ok (.ireturn, 1) := by decide +kernel
theorem d_PF_coded_56 : decode b_PF_coded 56 = .ok (.aload_n 0, 1) := by decide +kernel
theorem d_PF_coded_57 : decode b_PF_coded 57 = .ok (.getfield 37, 3) := by decide +kernel
theorem d_PF_coded_60 : decode b_PF_coded 60 = .ok (.getfield 111, 3) := by decide +kernel
theorem d_PF_coded_63 : decode b_PF_coded 63 = .ok (.invokevirtual 115, 3) := by decide +kernel
theorem d_PF_coded_66 : decode b_PF_coded 66 = .ok (.ireturn, 1) := by decide +kernel
theorem d_PF_coded_67 : decode b_PF_coded 67 = .ok (.iconst (-1), 1) := by decide +kernel
theorem d_PF_coded_68 : decode b_PF_coded 68 = .ok (.ireturn, 1) := by decide +kernel
theorem d_PF_feed_0 : decode b_PF_feed 0 = .ok (.iload_n 1, 1) := by decide +kernel
theorem d_PF_feed_1 : decode b_PF_feed 1 = .ok (.ifCond .lt (10), 3) := by decide +kernel
theorem d_PF_feed_4 : decode b_PF_feed 4 = .ok (.iload_n 1, 1) := by decide +kernel
theorem d_PF_feed_5 : decode b_PF_feed 5 = .ok (.sipush (255), 3) := by decide +kernel
theorem d_PF_feed_8 : decode b_PF_feed 8 = .ok (.if_icmp .le (13), 3) := by decide +kernel
theorem d_PF_feed_11 : decode b_PF_feed 11 = .ok (.new 58, 3) := by decide +kernel
theorem d_PF_feed_14 : decode b_PF_feed 14 = .ok (.dup, 1) := by decide +kernel
theorem d_PF_feed_15 : decode b_PF_feed 15 = .ok (.ldc 120, 2) := by decide +kernel
theorem d_PF_feed_17 : decode b_PF_feed 17 = .ok (.invokespecial 62, 3) := by decide +kernel
theorem d_PF_feed_20 : decode b_PF_feed 20 = .ok (.athrow, 1) := by decide +kernel
theorem d_PF_feed_21 : decode b_PF_feed 21 = .ok (.aload_n 0, 1) := by decide +kernel
theorem d_PF_feed_22 : decode b_PF_feed 22 = .ok (.getfield 31, 3) := by decide +kernel
theorem d_PF_feed_25 : decode b_PF_feed 25 = .ok (.invokevirtual 65, 3) := by decide +kernel
theorem d_PF_feed_28 : decode b_PF_feed 28 = .ok (.iconst (1), 1) := by decide +kernel
theorem d_PF_feed_29 : decode b_PF_feed 29 = .ok (.if_icmp .ge (13), 3) := by decide +kernel
theorem d_PF_feed_32 : decode b_PF_feed 32 = .ok (.new 69, 3) := by decide +kernel
theorem d_PF_feed_35 : decode b_PF_feed 35 = .ok (.dup, 1) := by decide +kernel
theorem d_PF_feed_36 : decode b_PF_feed 36 = .ok (.ldc 122, 2) := by decide +kernel
theorem d_PF_feed_38 : decode b_PF_feed 38 = .ok (.invokespecial 73, 3) := by decide +kernel
theorem d_PF_feed_41 : decode b_PF_feed 41 = .ok (.athrow, 1) := by decide +kernel
theorem d_PF_feed_42 : decode b_PF_feed 42 = .ok (.aload_n 0, 1) := by decide +kernel
theorem d_PF_feed_43 : decode b_PF_feed 43 = .ok (.getfield 31, 3) := by decide +kernel
theorem d_PF_feed_46 : decode b_PF_feed 46 = .ok (.iload_n 1, 1) := by decide +kernel
theorem d_PF_feed_47 : decode b_PF_feed 47 = .ok (.invokevirtual 74, 3) := by decide +kernel
theorem d_PF_feed_50 : decode b_PF_feed 50 = .ok (.aload_n 0, 1) := by decide +kernel
theorem d_PF_feed_51 : decode b_PF_feed 51 = .ok (.getfield 31, 3) := by decide +kernel
theorem d_PF_feed_54 : decode b_PF_feed 54 = .ok (.getfield 77, 3) := by decide +kernel
theorem d_PF_feed_57 : decode b_PF_feed 57 = .ok (.ireturn, 1) := by decide +kernel
theorem d_PF_pass_0 : decode b_PF_pass 0 = .ok (.aload_n 0, 1) := by decide +kernel
theorem d_PF_pass_1 : decode b_PF_pass 1 = .ok (.getfield 37, 3) := by decide +kernel
theorem d_PF_pass_4 : decode b_PF_pass 4 = .ok (.getfield 86, 3) := by decide +kernel
theorem d_PF_pass_7 : decode b_PF_pass 7 = .ok (.iload_n 1, 1) := by decide +kernel
theorem d_PF_pass_8 : decode b_PF_pass 8 = .ok (.invokevirtual 89, 3) := by decide +kernel
theorem d_PF_pass_11 : decode b_PF_pass 11 = .ok (.ifCond .ne (13), 3) := by decide +kernel
theorem d_PF_pass_14 : decode b_PF_pass 14 = .ok (.new 93, 3) := by decide +kernel
theorem d_PF_pass_17 : decode b_PF_pass 17 = .ok (.dup, 1) := by decide +kernel
theorem d_PF_pass_18 : decode b_PF_pass 18 = .ok (.ldc 95, 2) := by decide +kernel
theorem d_PF_pass_20 : decode b_PF_pass 20 = .ok (.invokespecial 97, 3) := by decide +kernel
theorem d_PF_pass_23 : decode b_PF_pass 23 = .ok (.athrow, 1) := by decide +kernel
theorem d_PF_pass_24 : decode b_PF_pass 24 = .ok (.iload_n 2, 1) := by decide +kernel
theorem d_PF_pass_25 : decode b_PF_pass 25 = .ok (.ifCond .ge (13), 3) := by decide +kernel
theorem d_PF_pass_28 : decode b_PF_pass 28 = .ok (.new 58, 3) := by decide +kernel
theorem d_PF_pass_31 : decode b_PF_pass 31 = .ok (.dup, 1) := by decide +kernel
theorem d_PF_pass_32 : decode b_PF_pass 32 = .ok (.ldc 124, 2) := by decide +kernel
theorem d_PF_pass_34 : decode b_PF_pass 34 = .ok (.invokespecial 62, 3) := by decide +kernel
theorem d_PF_pass_37 : decode b_PF_pass 37 = .ok (.athrow, 1) := by decide +kernel
theorem d_PF_pass_38 : decode b_PF_pass 38 = .ok (.iload_n 2, 1) := by decide +kernel
theorem d_PF_pass_39 : decode b_PF_pass 39 = .ok (.aload_n 0, 1) := by decide +kernel
theorem d_PF_pass_40 : decode b_PF_pass 40 = .ok (.getfield 37, 3) := by decide +kernel
theorem d_PF_pass_43 : decode b_PF_pass 43 = .ok (.getfield 86, 3) := by decide +kernel
theorem d_PF_pass_46 : decode b_PF_pass 46 = .ok (.getfield 77, 3) := by decide +kernel
theorem d_PF_pass_49 : decode b_PF_pass 49 = .ok (.iload_n 1, 1) := by decide +kernel
theorem d_PF_pass_50 : decode b_PF_pass 50 = .ok (.isub, 1) := by decide +kernel
theorem d_PF_pass_51 : decode b_PF_pass 51 = .ok (.invokestatic 9, 3) := by decide +kernel
theorem d_PF_pass_54 : decode b_PF_pass 54 = .ok (.istore_n 3, 1) := by decide +kernel
theorem d_PF_pass_55 : decode b_PF_pass 55 = .ok (.iload_n 3, 1) := by decide +kernel
theorem d_PF_pass_56 : decode b_PF_pass 56 = .ok (.aload_n 0, 1) := by decide +kernel
theorem d_PF_pass_57 : decode b_PF_pass 57 = .ok (.getfield 31, 3) := by decide +kernel
theorem d_PF_pass_60 : decode b_PF_pass 60 = .ok (.invokevirtual 65, 3) := by decide +kernel
theorem d_PF_pass_63 : decode b_PF_pass 63 = .ok (.if_icmp .le (13), 3) := by decide +kernel
theorem d_PF_pass_66 : decode b_PF_pass 66 = .ok (.new 69, 3) := by decide +kernel
theorem d_PF_pass_69 : decode b_PF_pass 69 = .ok (.dup, 1) := by decide +kernel
theorem d_PF_pass_70 : decode b_PF_pass 70 = .ok (.ldc 126, 2) := by decide +kernel
theorem d_PF_pass_72 : decode b_PF_pass 72 = .ok (.invokespecial 73, 3) := by decide +kernel
theorem d_PF_pass_75 : decode b_PF_pass 75 = .ok (.athrow, 1) := by decide +kernel
theorem d_PF_pass_76 : decode b_PF_pass 76 = .ok (.iconst (0), 1) := by decide +kernel
theorem d_PF_pass_77 : decode b_PF_pass 77 = .ok (.istore 4, 2) := by decide +kernel
theorem d_PF_pass_79 : decode b_PF_pass 79 = .ok (.iload 4, 2) := by decide +kernel
theorem d_PF_pass_81 : decode b_PF_pass 81 = .ok (.iload_n 3, 1) := by decide +kernel
theorem d_PF_pass_82 : decode b_PF_pass 82 = .ok (.if_icmp .ge (30), 3) := by decide +kernel
theorem d_PF_pass_85 : decode b_PF_pass 85 = .ok (.aload_n 0, 1) := by decide +kernel
theorem d_PF_pass_86 : decode b_PF_pass 86 = .ok (.getfield 31, 3) := by decide +kernel
theorem d_PF_pass_89 : decode b_PF_pass 89 = .ok (.aload_n 0, 1) := by decide +kernel
theorem d_PF_pass_90 : decode b_PF_pass 90 = .ok (.getfield 37, 3) := by decide +kernel
theorem d_PF_pass_93 : decode b_PF_pass 93 = .ok (.getfield 86, 3) := by decide +kernel
theorem d_PF_pass_96 : decode b_PF_pass 96 = .ok (.iload_n 1, 1) := by decide +kernel
theorem d_PF_pass_97 : decode b_PF_pass 97 = .ok (.iload 4, 2) := by decide +kernel
theorem d_PF_pass_99 : decode b_PF_pass 99 = .ok (.iadd, 1) := by decide +kernel
theorem d_PF_pass_100 : decode b_PF_pass 100 = .ok (.invokevirtual 98, 3) := by decide +kernel
theorem d_PF_pass_103 : decode b_PF_pass 103 = .ok (.invokevirtual 74, 3) := by decide +kernel
theorem d_PF_pass_106 : decode b_PF_pass 106 = .ok (.iinc 4 (1), 3) := by decide +kernel
theorem d_PF_pass_109 : decode b_PF_pass 109 = .ok (.goto (-30), 3) := by decide +kernel
theorem d_PF_pass_112 : decode b_PF_pass 112 = .ok (.iload_n 3, 1) := by decide +kernel
theorem d_PF_pass_113 : decode b_PF_pass 113 = .ok (.ireturn, 1) := by decide +kernel
theorem d_PF_decode_0 : decode b_PF_decode 0 = .ok (.aload_n 0, 1) := by decide +kernel
theorem d_PF_decode_1 : decode b_PF_decode 1 = .ok (.getfield 44, 3) := by decide +kernel
theorem d_PF_decode_4 : decode b_PF_decode 4 = .ok (.aload_n 0, 1) := by decide +kernel
theorem d_PF_decode_5 : decode b_PF_decode 5 = .ok (.getfield 31, 3) := by decide +kernel
theorem d_PF_decode_8 : decode b_PF_decode 8 = .ok (.invokevirtual 128, 3) := by decide +kernel
theorem d_PF_decode_11 : decode b_PF_decode 11 = .ok (.istore_n 1, 1) := by decide +kernel
theorem d_PF_decode_12 : decode b_PF_decode 12 = .ok (.aload_n 0, 1) := by decide +kernel
theorem d_PF_decode_13 : decode b_PF_decode 13 = .ok (.getfield 31, 3) := by decide +kernel
theorem d_PF_decode_16 : decode b_PF_decode 16 = .ok (.invokevirtual 132, 3) := by decide +kernel
theorem d_PF_decode_19 : decode b_PF_decode 19 = .ok (.iload_n 1, 1) := by decide +kernel
theorem d_PF_decode_20 : decode b_PF_decode 20 = .ok (.iconst (-1), 1) := by decide +kernel
theorem d_PF_decode_21 : decode b_PF_decode 21 = .ok (.if_icmp .ne (16), 3) := by decide +kernel
theorem d_PF_decode_24 : decode b_PF_decode 24 = .ok (.aload_n 0, 1) := by decide +kernel
theorem d_PF_decode_25 : decode b_PF_decode 25 = .ok (.getfield 44, 3) := by decide +kernel
theorem d_PF_decode_28 : decode b_PF_decode 28 = .ok (.getfield 135, 3) := by decide +kernel
theorem d_PF_decode_31 : decode b_PF_decode 31 = .ok (.getfield 77, 3) := by decide +kernel
theorem d_PF_decode_34 : decode b_PF_decode 34 = .ok (.goto (6), 3) := by decide +kernel
theorem d_PF_decode_37 : decode b_PF_decode 37 = .ok (.iconst (-1), 1) := by decide +kernel
theorem d_PF_decode_38 : decode b_PF_decode 38 = .ok (.iload_n 1, 1) := by decide +kernel
theorem d_PF_decode_39 : decode b_PF_decode 39 = .ok (.isub, 1) := by decide +kernel
theorem d_PF_decode_40 : decode b_PF_decode 40 = .ok (.ireturn, 1) := by decide +kernel
theorem d_PF_at_0 : decode b_PF_at 0 = .ok (.aload_n 0, 1) := by decide +kernel
theorem d_PF_at_1 : decode b_PF_at 1 = .ok (.getfield 44, 3) := by decide +kernel
theorem d_PF_at_4 : decode b_PF_at 4 = .ok (.getfield 135, 3) := by decide +kernel
theorem d_PF_at_7 : decode b_PF_at 7 = .ok (.iload_n 1, 1) := by decide +kernel
theorem d_PF_at_8 : decode b_PF_at 8 = .ok (.invokevirtual 89, 3) := by decide +kernel
theorem d_PF_at_11 : decode b_PF_at 11 = .ok (.ifCond .ne (13), 3) := by decide +kernel
theorem d_PF_at_14 : decode b_PF_at 14 = .ok (.new 93, 3) := by decide +kernel
theorem d_PF_at_17 : decode b_PF_at 17 = .ok (.dup, 1) := by decide +kernel
theorem d_PF_at_18 : decode b_PF_at 18 = .ok (.ldc 138, 2) := by decide +kernel
theorem d_PF_at_20 : decode b_PF_at 20 = .ok (.invokespecial 97, 3) := by decide +kernel
theorem d_PF_at_23 : decode b_PF_at 23 = .ok (.athrow, 1) := by decide +kernel
theorem d_PF_at_24 : decode b_PF_at 24 = .ok (.aload_n 0, 1) := by decide +kernel
theorem d_PF_at_25 : decode b_PF_at 25 = .ok (.getfield 44, 3) := by decide +kernel
theorem d_PF_at_28 : decode b_PF_at 28 = .ok (.getfield 135, 3) := by decide +kernel
theorem d_PF_at_31 : decode b_PF_at 31 = .ok (.iload_n 1, 1) := by decide +kernel
theorem d_PF_at_32 : decode b_PF_at 32 = .ok (.invokevirtual 98, 3) := by decide +kernel
theorem d_PF_at_35 : decode b_PF_at 35 = .ok (.ireturn, 1) := by decide +kernel
theorem d_PF_take_0 : decode b_PF_take 0 = .ok (.aload_n 0, 1) := by decide +kernel
theorem d_PF_take_1 : decode b_PF_take 1 = .ok (.getfield 27, 3) := by decide +kernel
theorem d_PF_take_4 : decode b_PF_take 4 = .ok (.invokevirtual 132, 3) := by decide +kernel
theorem d_PF_take_7 : decode b_PF_take 7 = .ok (.iconst (0), 1) := by decide +kernel
theorem d_PF_take_8 : decode b_PF_take 8 = .ok (.istore_n 1, 1) := by decide +kernel
theorem d_PF_take_9 : decode b_PF_take 9 = .ok (.iload_n 1, 1) := by decide +kernel
theorem d_PF_take_10 : decode b_PF_take 10 = .ok (.aload_n 0, 1) := by decide +kernel
theorem d_PF_take_11 : decode b_PF_take 11 = .ok (.getfield 44, 3) := by decide +kernel
theorem d_PF_take_14 : decode b_PF_take 14 = .ok (.getfield 135, 3) := by decide +kernel
theorem d_PF_take_17 : decode b_PF_take 17 = .ok (.getfield 77, 3) := by decide +kernel
theorem d_PF_take_20 : decode b_PF_take 20 = .ok (.if_icmp .ge (27), 3) := by decide +kernel
theorem d_PF_take_23 : decode b_PF_take 23 = .ok (.aload_n 0, 1) := by decide +kernel
theorem d_PF_take_24 : decode b_PF_take 24 = .ok (.getfield 27, 3) := by decide +kernel
theorem d_PF_take_27 : decode b_PF_take 27 = .ok (.aload_n 0, 1) := by decide +kernel
theorem d_PF_take_28 : decode b_PF_take 28 = .ok (.getfield 44, 3) := by decide +kernel
theorem d_PF_take_31 : decode b_PF_take 31 = .ok (.getfield 135, 3) := by decide +kernel
theorem d_PF_take_34 : decode b_PF_take 34 = .ok (.iload_n 1, 1) := by decide +kernel
theorem d_PF_take_35 : decode b_PF_take 35 = .ok (.invokevirtual 98, 3) := by decide +kernel
theorem d_PF_take_38 : decode b_PF_take 38 = .ok (.invokevirtual 74, 3) := by decide +kernel
theorem d_PF_take_41 : decode b_PF_take 41 = .ok (.iinc 1 (1), 3) := by decide +kernel
theorem d_PF_take_44 : decode b_PF_take 44 = .ok (.goto (-35), 3) := by decide +kernel
theorem d_PF_take_47 : decode b_PF_take 47 = .ok (.aload_n 0, 1) := by decide +kernel
theorem d_PF_take_48 : decode b_PF_take 48 = .ok (.getfield 27, 3) := by decide +kernel
theorem d_PF_take_51 : decode b_PF_take 51 = .ok (.getfield 77, 3) := by decide +kernel
theorem d_PF_take_54 : decode b_PF_take 54 = .ok (.ireturn, 1) := by decide +kernel
theorem d_PF_frame_0 : decode b_PF_frame 0 = .ok (.iload_n 1, 1) := by decide +kernel
theorem d_PF_frame_1 : decode b_PF_frame 1 = .ok (.iload_n 3, 1) := by decide +kernel
theorem d_PF_frame_2 : decode b_PF_frame 2 = .ok (.invokestatic 140, 3) := by decide +kernel
theorem d_PF_frame_5 : decode b_PF_frame 5 = .ok (.ifCond .eq (12), 3) := by decide +kernel
theorem d_PF_frame_8 : decode b_PF_frame 8 = .ok (.iload_n 2, 1) := by decide +kernel
theorem d_PF_frame_9 : decode b_PF_frame 9 = .ok (.iload 4, 2) := by decide +kernel
theorem d_PF_frame_11 : decode b_PF_frame 11 = .ok (.invokestatic 140, 3) := by decide +kernel
theorem d_PF_frame_14 : decode b_PF_frame 14 = .ok (.ifCond .ne (13), 3) := by decide +kernel
theorem d_PF_frame_17 : decode b_PF_frame 17 = .ok (.new 58, 3) := by decide +kernel
theorem d_PF_frame_20 : decode b_PF_frame 20 = .ok (.dup, 1) := by decide +kernel
theorem d_PF_frame_21 : decode b_PF_frame 21 = .ok (.ldc 144, 2) := by decide +kernel
theorem d_PF_frame_23 : decode b_PF_frame 23 = .ok (.invokespecial 62, 3) := by decide +kernel
theorem d_PF_frame_26 : decode b_PF_frame 26 = .ok (.athrow, 1) := by decide +kernel
theorem d_PF_frame_27 : decode b_PF_frame 27 = .ok (.iload 6, 2) := by decide +kernel
theorem d_PF_frame_29 : decode b_PF_frame 29 = .ok (.ifCond .lt (9), 3) := by decide +kernel
theorem d_PF_frame_32 : decode b_PF_frame 32 = .ok (.iload 6, 2) := by decide +kernel
theorem d_PF_frame_34 : decode b_PF_frame 34 = .ok (.iconst (3), 1) := by decide +kernel
theorem d_PF_frame_35 : decode b_PF_frame 35 = .ok (.if_icmp .le (13), 3) := by decide +kernel
theorem d_PF_frame_38 : decode b_PF_frame 38 = .ok (.new 58, 3) := by decide +kernel
theorem d_PF_frame_41 : decode b_PF_frame 41 = .ok (.dup, 1) := by decide +kernel
theorem d_PF_frame_42 : decode b_PF_frame 42 = .ok (.ldc 146, 2) := by decide +kernel
theorem d_PF_frame_44 : decode b_PF_frame 44 = .ok (.invokespecial 62, 3) := by decide +kernel
theorem d_PF_frame_47 : decode b_PF_frame 47 = .ok (.athrow, 1) := by decide +kernel
theorem d_PF_frame_48 : decode b_PF_frame 48 = .ok (.iload 7, 2) := by decide +kernel
theorem d_PF_frame_50 : decode b_PF_frame 50 = .ok (.ifCond .lt (11), 3) := by decide +kernel
theorem d_PF_frame_53 : decode b_PF_frame 53 = .ok (.iload 7, 2) := by decide +kernel
theorem d_PF_frame_55 : decode b_PF_frame 55 = .ok (.sipush (1000), 3) := by decide +kernel
theorem d_PF_frame_58 : decode b_PF_frame 58 = .ok (.if_icmp .le (13), 3) := by decide +kernel
theorem d_PF_frame_61 : decode b_PF_frame 61 = .ok (.new 58, 3) := by decide +kernel
theorem d_PF_frame_64 : decode b_PF_frame 64 = .ok (.dup, 1) := by decide +kernel
theorem d_PF_frame_65 : decode b_PF_frame 65 = .ok (.ldc 148, 2) := by decide +kernel
theorem d_PF_frame_67 : decode b_PF_frame 67 = .ok (.invokespecial 62, 3) := by decide +kernel
theorem d_PF_frame_70 : decode b_PF_frame 70 = .ok (.athrow, 1) := by decide +kernel
theorem d_PF_frame_71 : decode b_PF_frame 71 = .ok (.iload_n 3, 1) := by decide +kernel
theorem d_PF_frame_72 : decode b_PF_frame 72 = .ok (.iload 4, 2) := by decide +kernel
theorem d_PF_frame_74 : decode b_PF_frame 74 = .ok (.imul, 1) := by decide +kernel
theorem d_PF_frame_75 : decode b_PF_frame 75 = .ok (.aload_n 0, 1) := by decide +kernel
theorem d_PF_frame_76 : decode b_PF_frame 76 = .ok (.getfield 27, 3) := by decide +kernel
theorem d_PF_frame_79 : decode b_PF_frame 79 = .ok (.getfield 77, 3) := by decide +kernel
theorem d_PF_frame_82 : decode b_PF_frame 82 = .ok (.if_icmp .le (13), 3) := by decide +kernel
theorem d_PF_frame_85 : decode b_PF_frame 85 = .ok (.new 150, 3) := by decide +kernel
theorem d_PF_frame_88 : decode b_PF_frame 88 = .ok (.dup, 1) := by decide +kernel
theorem d_PF_frame_89 : decode b_PF_frame 89 = .ok (.ldc 152, 2) := by decide +kernel
theorem d_PF_frame_91 : decode b_PF_frame 91 = .ok (.invokespecial 154, 3) := by decide +kernel
theorem d_PF_frame_94 : decode b_PF_frame 94 = .ok (.athrow, 1) := by decide +kernel
theorem d_PF_frame_95 : decode b_PF_frame 95 = .ok (.aload_n 0, 1) := by decide +kernel
theorem d_PF_frame_96 : decode b_PF_frame 96 = .ok (.getfield 51, 3) := by decide +kernel
theorem d_PF_frame_99 : decode b_PF_frame 99 = .ok (.getfield 155, 3) := by decide +kernel
theorem d_PF_frame_102 : decode b_PF_frame 102 = .ok (.bipush (12), 2) := by decide +kernel
theorem d_PF_frame_104 : decode b_PF_frame 104 = .ok (.if_icmp .lt (13), 3) := by decide +kernel
theorem d_PF_frame_107 : decode b_PF_frame 107 = .ok (.new 69, 3) := by decide +kernel
theorem d_PF_frame_110 : decode b_PF_frame 110 = .ok (.dup, 1) := by decide +kernel
theorem d_PF_frame_111 : decode b_PF_frame 111 = .ok (.ldc 157, 2) := by decide +kernel
theorem d_PF_frame_113 : decode b_PF_frame 113 = .ok (.invokespecial 73, 3) := by decide +kernel
theorem d_PF_frame_116 : decode b_PF_frame 116 = .ok (.athrow, 1) := by decide +kernel
theorem d_PF_frame_117 : decode b_PF_frame 117 = .ok (.aload_n 0, 1) := by decide +kernel
theorem d_PF_frame_118 : decode b_PF_frame 118 = .ok (.getfield 51, 3) := by decide +kernel
theorem d_PF_frame_121 : decode b_PF_frame 121 = .ok (.invokevirtual 159, 3) := by decide +kernel
theorem d_PF_frame_124 : decode b_PF_frame 124 = .ok (.astore 8, 2) := by decide +kernel
theorem d_PF_frame_126 : decode b_PF_frame 126 = .ok (.aload 8, 2) := by decide +kernel
theorem d_PF_frame_128 : decode b_PF_frame 128 = .ok (.iload_n 1, 1) := by decide +kernel
theorem d_PF_frame_129 : decode b_PF_frame 129 = .ok (.iload_n 2, 1) := by decide +kernel
theorem d_PF_frame_130 : decode b_PF_frame 130 = .ok (.iload_n 3, 1) := by decide +kernel
theorem d_PF_frame_131 : decode b_PF_frame 131 = .ok (.iload 4, 2) := by decide +kernel
theorem d_PF_frame_133 : decode b_PF_frame 133 = .ok (.invokevirtual 163, 3) := by decide +kernel
theorem d_PF_frame_136 : decode b_PF_frame 136 = .ok (.aload 8, 2) := by decide +kernel
theorem d_PF_frame_138 : decode b_PF_frame 138 = .ok (.iload 6, 2) := by decide +kernel
theorem d_PF_frame_140 : decode b_PF_frame 140 = .ok (.iload 7, 2) := by decide +kernel
theorem d_PF_frame_142 : decode b_PF_frame 142 = .ok (.invokevirtual 169, 3) := by decide +kernel
theorem d_PF_frame_145 : decode b_PF_frame 145 = .ok (.aload 8, 2) := by decide +kernel
theorem d_PF_frame_147 : decode b_PF_frame 147 = .ok (.aload_n 0, 1) := by decide +kernel
theorem d_PF_frame_148 : decode b_PF_frame 148 = .ok (.getfield 27, 3) := by decide +kernel
theorem d_PF_frame_151 : decode b_PF_frame 151 = .ok (.iload 5, 2) := by decide +kernel
theorem d_PF_frame_153 : decode b_PF_frame 153 = .ok (.invokevirtual 173, 3) := by decide +kernel
theorem d_PF_frame_156 : decode b_PF_frame 156 = .ok (.aload_n 0, 1) := by decide +kernel
theorem d_PF_frame_157 : decode b_PF_frame 157 = .ok (.getfield 27, 3) := by decide +kernel
theorem d_PF_frame_160 : decode b_PF_frame 160 = .ok (.iload_n 3, 1) := by decide +kernel
theorem d_PF_frame_161 : decode b_PF_frame 161 = .ok (.iload 4, 2) := by decide +kernel
theorem d_PF_frame_163 : decode b_PF_frame 163 = .ok (.imul, 1) := by decide +kernel
theorem d_PF_frame_164 : decode b_PF_frame 164 = .ok (.invokevirtual 177, 3) := by decide +kernel
theorem d_PF_frame_167 : decode b_PF_frame 167 = .ok (.aload_n 0, 1) := by decide +kernel
theorem d_PF_frame_168 : decode b_PF_frame 168 = .ok (.getfield 51, 3) := by decide +kernel
theorem d_PF_frame_171 : decode b_PF_frame 171 = .ok (.getfield 155, 3) := by decide +kernel
theorem d_PF_frame_174 : decode b_PF_frame 174 = .ok (.iconst (1), 1) := by decide +kernel
theorem d_PF_frame_175 : decode b_PF_frame 175 = .ok (.isub, 1) := by decide +kernel
theorem d_PF_frame_176 : decode b_PF_frame 176 = .ok (.ireturn, 1) := by decide +kernel
theorem d_PF_colour_0 : decode b_PF_colour 0 = .ok (.iload_n 1, 1) := by decide +kernel
theorem d_PF_colour_1 : decode b_PF_colour 1 = .ok (.iconst (-1), 1) := by decide +kernel
theorem d_PF_colour_2 : decode b_PF_colour 2 = .ok (.if_icmp .eq (24), 3) := by decide +kernel
theorem d_PF_colour_5 : decode b_PF_colour 5 = .ok (.aload_n 0, 1) := by decide +kernel
theorem d_PF_colour_6 : decode b_PF_colour 6 = .ok (.getfield 51, 3) := by decide +kernel
theorem d_PF_colour_9 : decode b_PF_colour 9 = .ok (.iload_n 1, 1) := by decide +kernel
theorem d_PF_colour_10 : decode b_PF_colour 10 = .ok (.invokevirtual 180, 3) := by decide +kernel
theorem d_PF_colour_13 : decode b_PF_colour 13 = .ok (.ifCond .ne (13), 3) := by decide +kernel
theorem d_PF_colour_16 : decode b_PF_colour 16 = .ok (.new 93, 3) := by decide +kernel
theorem d_PF_colour_19 : decode b_PF_colour 19 = .ok (.dup, 1) := by decide +kernel
theorem d_PF_colour_20 : decode b_PF_colour 20 = .ok (.ldc 181, 2) := by decide +kernel
theorem d_PF_colour_22 : decode b_PF_colour 22 = .ok (.invokespecial 97, 3) := by decide +kernel
theorem d_PF_colour_25 : decode b_PF_colour 25 = .ok (.athrow, 1) := by decide +kernel
theorem d_PF_colour_26 : decode b_PF_colour 26 = .ok (.aload_n 0, 1) := by decide +kernel
theorem d_PF_colour_27 : decode b_PF_colour 27 = .ok (.iload_n 2, 1) := by decide +kernel
theorem d_PF_colour_28 : decode b_PF_colour 28 = .ok (.invokevirtual 183, 3) := by decide +kernel
theorem d_PF_colour_31 : decode b_PF_colour 31 = .ok (.ifCond .ne (13), 3) := by decide +kernel
theorem d_PF_colour_34 : decode b_PF_colour 34 = .ok (.new 93, 3) := by decide +kernel
theorem d_PF_colour_37 : decode b_PF_colour 37 = .ok (.dup, 1) := by decide +kernel
theorem d_PF_colour_38 : decode b_PF_colour 38 = .ok (.ldc 138, 2) := by decide +kernel
theorem d_PF_colour_40 : decode b_PF_colour 40 = .ok (.invokespecial 97, 3) := by decide +kernel
theorem d_PF_colour_43 : decode b_PF_colour 43 = .ok (.athrow, 1) := by decide +kernel
theorem d_PF_colour_44 : decode b_PF_colour 44 = .ok (.iload_n 3, 1) := by decide +kernel
theorem d_PF_colour_45 : decode b_PF_colour 45 = .ok (.iconst (-1), 1) := by decide +kernel
theorem d_PF_colour_46 : decode b_PF_colour 46 = .ok (.if_icmp .lt (9), 3) := by decide +kernel
theorem d_PF_colour_49 : decode b_PF_colour 49 = .ok (.iload_n 3, 1) := by decide +kernel
theorem d_PF_colour_50 : decode b_PF_colour 50 = .ok (.ldc 186, 2) := by decide +kernel
theorem d_PF_colour_52 : decode b_PF_colour 52 = .ok (.if_icmp .le (13), 3) := by decide +kernel
theorem d_PF_colour_55 : decode b_PF_colour 55 = .ok (.new 58, 3) := by decide +kernel
theorem d_PF_colour_58 : decode b_PF_colour 58 = .ok (.dup, 1) := by decide +kernel
theorem d_PF_colour_59 : decode b_PF_colour 59 = .ok (.ldc 187, 2) := by decide +kernel
theorem d_PF_colour_61 : decode b_PF_colour 61 = .ok (.invokespecial 62, 3) := by decide +kernel
theorem d_PF_colour_64 : decode b_PF_colour 64 = .ok (.athrow, 1) := by decide +kernel
theorem d_PF_colour_65 : decode b_PF_colour 65 = .ok (.iload_n 1, 1) := by decide +kernel
theorem d_PF_colour_66 : decode b_PF_colour 66 = .ok (.iconst (-1), 1) := by decide +kernel
theorem d_PF_colour_67 : decode b_PF_colour 67 = .ok (.if_icmp .ne (13), 3) := by decide +kernel
theorem d_PF_colour_70 : decode b_PF_colour 70 = .ok (.aload_n 0, 1) := by decide +kernel
theorem d_PF_colour_71 : decode b_PF_colour 71 = .ok (.getfield 51, 3) := by decide +kernel
theorem d_PF_colour_74 : decode b_PF_colour 74 = .ok (.getfield 189, 3) := by decide +kernel
theorem d_PF_colour_77 : decode b_PF_colour 77 = .ok (.goto (15), 3) := by decide +kernel
theorem d_PF_colour_80 : decode b_PF_colour 80 = .ok (.aload_n 0, 1) := by decide +kernel
theorem d_PF_colour_81 : decode b_PF_colour 81 = .ok (.getfield 51, 3) := by decide +kernel
theorem d_PF_colour_84 : decode b_PF_colour 84 = .ok (.getfield 193, 3) := by decide +kernel
theorem d_PF_colour_87 : decode b_PF_colour 87 = .ok (.iload_n 1, 1) := by decide +kernel
theorem d_PF_colour_88 : decode b_PF_colour 88 = .ok (.aaload, 1) := by decide +kernel
theorem d_PF_colour_89 : decode b_PF_colour 89 = .ok (.getfield 197, 3) := by decide +kernel
theorem d_PF_colour_92 : decode b_PF_colour 92 = .ok (.astore 4, 2) := by decide +kernel
theorem d_PF_colour_94 : decode b_PF_colour 94 = .ok (.aload 4, 2) := by decide +kernel
theorem d_PF_colour_96 : decode b_PF_colour 96 = .ok (.iload_n 2, 1) := by decide +kernel
theorem d_PF_colour_97 : decode b_PF_colour 97 = .ok (.iload_n 3, 1) := by decide +kernel
theorem d_PF_colour_98 : decode b_PF_colour 98 = .ok (.invokevirtual 198, 3) := by decide +kernel
theorem d_PF_colour_101 : decode b_PF_colour 101 = .ok (.ireturn, 1) := by decide +kernel
theorem d_PF_through_0 : decode b_PF_through 0 = .ok (.aload_n 0, 1) := by decide +kernel
theorem d_PF_through_1 : decode b_PF_through 1 = .ok (.getfield 51, 3) := by decide +kernel
theorem d_PF_through_4 : decode b_PF_through 4 = .ok (.iload_n 1, 1) := by decide +kernel
theorem d_PF_through_5 : decode b_PF_through 5 = .ok (.invokevirtual 180, 3) := by decide +kernel
theorem d_PF_through_8 : decode b_PF_through 8 = .ok (.ifCond .ne (13), 3) := by decide +kernel
theorem d_PF_through_11 : decode b_PF_through 11 = .ok (.new 93, 3) := by decide +kernel
theorem d_PF_through_14 : decode b_PF_through 14 = .ok (.dup, 1) := by decide +kernel
theorem d_PF_through_15 : decode b_PF_through 15 = .ok (.ldc 181, 2) := by decide +kernel
theorem d_PF_through_17 : decode b_PF_through 17 = .ok (.invokespecial 97, 3) := by decide +kernel
theorem d_PF_through_20 : decode b_PF_through 20 = .ok (.athrow, 1) := by decide +kernel
theorem d_PF_through_21 : decode b_PF_through 21 = .ok (.iload_n 2, 1) := by decide +kernel
theorem d_PF_through_22 : decode b_PF_through 22 = .ok (.iconst (-1), 1) := by decide +kernel
theorem d_PF_through_23 : decode b_PF_through 23 = .ok (.if_icmp .eq (21), 3) := by decide +kernel
theorem d_PF_through_26 : decode b_PF_through 26 = .ok (.aload_n 0, 1) := by decide +kernel
theorem d_PF_through_27 : decode b_PF_through 27 = .ok (.iload_n 2, 1) := by decide +kernel
theorem d_PF_through_28 : decode b_PF_through 28 = .ok (.invokevirtual 183, 3) := by decide +kernel
theorem d_PF_through_31 : decode b_PF_through 31 = .ok (.ifCond .ne (13), 3) := by decide +kernel
theorem d_PF_through_34 : decode b_PF_through 34 = .ok (.new 93, 3) := by decide +kernel
theorem d_PF_through_37 : decode b_PF_through 37 = .ok (.dup, 1) := by decide +kernel
theorem d_PF_through_38 : decode b_PF_through 38 = .ok (.ldc 138, 2) := by decide +kernel
theorem d_PF_through_40 : decode b_PF_through 40 = .ok (.invokespecial 97, 3) := by decide +kernel
theorem d_PF_through_43 : decode b_PF_through 43 = .ok (.athrow, 1) := by decide +kernel
theorem d_PF_through_44 : decode b_PF_through 44 = .ok (.aload_n 0, 1) := by decide +kernel
theorem d_PF_through_45 : decode b_PF_through 45 = .ok (.getfield 51, 3) := by decide +kernel
theorem d_PF_through_48 : decode b_PF_through 48 = .ok (.getfield 193, 3) := by decide +kernel
theorem d_PF_through_51 : decode b_PF_through 51 = .ok (.iload_n 1, 1) := by decide +kernel
theorem d_PF_through_52 : decode b_PF_through 52 = .ok (.aaload, 1) := by decide +kernel
theorem d_PF_through_53 : decode b_PF_through 53 = .ok (.getfield 203, 3) := by decide +kernel
theorem d_PF_through_56 : decode b_PF_through 56 = .ok (.istore_n 3, 1) := by decide +kernel
theorem d_PF_through_57 : decode b_PF_through 57 = .ok (.aload_n 0, 1) := by decide +kernel
theorem d_PF_through_58 : decode b_PF_through 58 = .ok (.getfield 51, 3) := by decide +kernel
theorem d_PF_through_61 : decode b_PF_through 61 = .ok (.getfield 193, 3) := by decide +kernel
theorem d_PF_through_64 : decode b_PF_through 64 = .ok (.iload_n 1, 1) := by decide +kernel
theorem d_PF_through_65 : decode b_PF_through 65 = .ok (.aaload, 1) := by decide +kernel
theorem d_PF_through_66 : decode b_PF_through 66 = .ok (.iload_n 2, 1) := by decide +kernel
theorem d_PF_through_67 : decode b_PF_through 67 = .ok (.putfield 203, 3) := by decide +kernel
theorem d_PF_through_70 : decode b_PF_through 70 = .ok (.iload_n 3, 1) := by decide +kernel
theorem d_PF_through_71 : decode b_PF_through 71 = .ok (.ireturn, 1) := by decide +kernel
theorem d_PF_shown_0 : decode b_PF_shown 0 = .ok (.aload_n 0, 1) := by decide +kernel
theorem d_PF_shown_1 : decode b_PF_shown 1 = .ok (.getfield 51, 3) := by decide +kernel
theorem d_PF_shown_4 : decode b_PF_shown 4 = .ok (.iload_n 1, 1) := by decide +kernel
theorem d_PF_shown_5 : decode b_PF_shown 5 = .ok (.invokevirtual 180, 3) := by decide +kernel
theorem d_PF_shown_8 : decode b_PF_shown 8 = .ok (.ifCond .ne (13), 3) := by decide +kernel
theorem d_PF_shown_11 : decode b_PF_shown 11 = .ok (.new 93, 3) := by decide +kernel
theorem d_PF_shown_14 : decode b_PF_shown 14 = .ok (.dup, 1) := by decide +kernel
theorem d_PF_shown_15 : decode b_PF_shown 15 = .ok (.ldc 181, 2) := by decide +kernel
theorem d_PF_shown_17 : decode b_PF_shown 17 = .ok (.invokespecial 97, 3) := by decide +kernel
theorem d_PF_shown_20 : decode b_PF_shown 20 = .ok (.athrow, 1) := by decide +kernel
theorem d_PF_shown_21 : decode b_PF_shown 21 = .ok (.iload_n 2, 1) := by decide +kernel
theorem d_PF_shown_22 : decode b_PF_shown 22 = .ok (.ifCond .lt (19), 3) := by decide +kernel
theorem d_PF_shown_25 : decode b_PF_shown 25 = .ok (.iload_n 2, 1) := by decide +kernel
theorem d_PF_shown_26 : decode b_PF_shown 26 = .ok (.bipush (24), 2) := by decide +kernel
theorem d_PF_shown_28 : decode b_PF_shown 28 = .ok (.if_icmp .ge (13), 3) := by decide +kernel
theorem d_PF_shown_31 : decode b_PF_shown 31 = .ok (.iload_n 3, 1) := by decide +kernel
theorem d_PF_shown_32 : decode b_PF_shown 32 = .ok (.ifCond .lt (9), 3) := by decide +kernel
theorem d_PF_shown_35 : decode b_PF_shown 35 = .ok (.iload_n 3, 1) := by decide +kernel
theorem d_PF_shown_36 : decode b_PF_shown 36 = .ok (.bipush (24), 2) := by decide +kernel
theorem d_PF_shown_38 : decode b_PF_shown 38 = .ok (.if_icmp .lt (13), 3) := by decide +kernel
theorem d_PF_shown_41 : decode b_PF_shown 41 = .ok (.new 93, 3) := by decide +kernel
theorem d_PF_shown_44 : decode b_PF_shown 44 = .ok (.dup, 1) := by decide +kernel
theorem d_PF_shown_45 : decode b_PF_shown 45 = .ok (.ldc 206, 2) := by decide +kernel
theorem d_PF_shown_47 : decode b_PF_shown 47 = .ok (.invokespecial 97, 3) := by decide +kernel
theorem d_PF_shown_50 : decode b_PF_shown 50 = .ok (.athrow, 1) := by decide +kernel
theorem d_PF_shown_51 : decode b_PF_shown 51 = .ok (.aload_n 0, 1) := by decide +kernel
theorem d_PF_shown_52 : decode b_PF_shown 52 = .ok (.getfield 51, 3) := by decide +kernel
theorem d_PF_shown_55 : decode b_PF_shown 55 = .ok (.iload_n 1, 1) := by decide +kernel
theorem d_PF_shown_56 : decode b_PF_shown 56 = .ok (.iload_n 2, 1) := by decide +kernel
theorem d_PF_shown_57 : decode b_PF_shown 57 = .ok (.iload_n 3, 1) := by decide +kernel
theorem d_PF_shown_58 : decode b_PF_shown 58 = .ok (.invokevirtual 208, 3) := by decide +kernel
theorem d_PF_shown_61 : decode b_PF_shown 61 = .ok (.ireturn, 1) := by decide +kernel
theorem d_PF_symbol_0 : decode b_PF_symbol 0 = .ok (.aload_n 0, 1) := by decide +kernel
theorem d_PF_symbol_1 : decode b_PF_symbol 1 = .ok (.getfield 51, 3) := by decide +kernel
theorem d_PF_symbol_4 : decode b_PF_symbol 4 = .ok (.iload_n 1, 1) := by decide +kernel
theorem d_PF_symbol_5 : decode b_PF_symbol 5 = .ok (.invokevirtual 180, 3) := by decide +kernel
theorem d_PF_symbol_8 : decode b_PF_symbol 8 = .ok (.ifCond .ne (13), 3) := by decide +kernel
theorem d_PF_symbol_11 : decode b_PF_symbol 11 = .ok (.new 93, 3) := by decide +kernel
theorem d_PF_symbol_14 : decode b_PF_symbol 14 = .ok (.dup, 1) := by decide +kernel
theorem d_PF_symbol_15 : decode b_PF_symbol 15 = .ok (.ldc 181, 2) := by decide +kernel
theorem d_PF_symbol_17 : decode b_PF_symbol 17 = .ok (.invokespecial 97, 3) := by decide +kernel
theorem d_PF_symbol_20 : decode b_PF_symbol 20 = .ok (.athrow, 1) := by decide +kernel
theorem d_PF_symbol_21 : decode b_PF_symbol 21 = .ok (.aload_n 0, 1) := by decide +kernel
theorem d_PF_symbol_22 : decode b_PF_symbol 22 = .ok (.getfield 51, 3) := by decide +kernel
theorem d_PF_symbol_25 : decode b_PF_symbol 25 = .ok (.getfield 193, 3) := by decide +kernel
theorem d_PF_symbol_28 : decode b_PF_symbol 28 = .ok (.iload_n 1, 1) := by decide +kernel
theorem d_PF_symbol_29 : decode b_PF_symbol 29 = .ok (.aaload, 1) := by decide +kernel
theorem d_PF_symbol_30 : decode b_PF_symbol 30 = .ok (.astore 4, 2) := by decide +kernel
theorem d_PF_symbol_32 : decode b_PF_symbol 32 = .ok (.iload_n 2, 1) := by decide +kernel
theorem d_PF_symbol_33 : decode b_PF_symbol 33 = .ok (.ifCond .lt (25), 3) := by decide +kernel
theorem d_PF_symbol_36 : decode b_PF_symbol 36 = .ok (.iload_n 2, 1) := by decide +kernel
theorem d_PF_symbol_37 : decode b_PF_symbol 37 = .ok (.aload 4, 2) := by decide +kernel
theorem d_PF_symbol_39 : decode b_PF_symbol 39 = .ok (.getfield 212, 3) := by decide +kernel
theorem d_PF_symbol_42 : decode b_PF_symbol 42 = .ok (.if_icmp .ge (16), 3) := by decide +kernel
theorem d_PF_symbol_45 : decode b_PF_symbol 45 = .ok (.iload_n 3, 1) := by decide +kernel
theorem d_PF_symbol_46 : decode b_PF_symbol 46 = .ok (.ifCond .lt (12), 3) := by decide +kernel
theorem d_PF_symbol_49 : decode b_PF_symbol 49 = .ok (.iload_n 3, 1) := by decide +kernel
theorem d_PF_symbol_50 : decode b_PF_symbol 50 = .ok (.aload 4, 2) := by decide +kernel
theorem d_PF_symbol_52 : decode b_PF_symbol 52 = .ok (.getfield 215, 3) := by decide +kernel
theorem d_PF_symbol_55 : decode b_PF_symbol 55 = .ok (.if_icmp .lt (13), 3) := by decide +kernel
theorem d_PF_symbol_58 : decode b_PF_symbol 58 = .ok (.new 93, 3) := by decide +kernel
theorem d_PF_symbol_61 : decode b_PF_symbol 61 = .ok (.dup, 1) := by decide +kernel
theorem d_PF_symbol_62 : decode b_PF_symbol 62 = .ok (.ldc 218, 2) := by decide +kernel
theorem d_PF_symbol_64 : decode b_PF_symbol 64 = .ok (.invokespecial 97, 3) := by decide +kernel
theorem d_PF_symbol_67 : decode b_PF_symbol 67 = .ok (.athrow, 1) := by decide +kernel
theorem d_PF_symbol_68 : decode b_PF_symbol 68 = .ok (.aload 4, 2) := by decide +kernel
theorem d_PF_symbol_70 : decode b_PF_symbol 70 = .ok (.iload_n 2, 1) := by decide +kernel
theorem d_PF_symbol_71 : decode b_PF_symbol 71 = .ok (.iload_n 3, 1) := by decide +kernel
theorem d_PF_symbol_72 : decode b_PF_symbol 72 = .ok (.invokevirtual 220, 3) := by decide +kernel
theorem d_PF_symbol_75 : decode b_PF_symbol 75 = .ok (.ireturn, 1) := by decide +kernel
theorem d_PF_when_0 : decode b_PF_when 0 = .ok (.iload_n 1, 1) := by decide +kernel
theorem d_PF_when_1 : decode b_PF_when 1 = .ok (.ifCond .lt (7), 3) := by decide +kernel
theorem d_PF_when_4 : decode b_PF_when 4 = .ok (.iload_n 2, 1) := by decide +kernel
theorem d_PF_when_5 : decode b_PF_when 5 = .ok (.ifCond .ge (13), 3) := by decide +kernel
theorem d_PF_when_8 : decode b_PF_when 8 = .ok (.new 58, 3) := by decide +kernel
theorem d_PF_when_11 : decode b_PF_when 11 = .ok (.dup, 1) := by decide +kernel
theorem d_PF_when_12 : decode b_PF_when 12 = .ok (.ldc 223, 2) := by decide +kernel
theorem d_PF_when_14 : decode b_PF_when 14 = .ok (.invokespecial 62, 3) := by decide +kernel
theorem d_PF_when_17 : decode b_PF_when 17 = .ok (.athrow, 1) := by decide +kernel
theorem d_PF_when_18 : decode b_PF_when 18 = .ok (.aload_n 0, 1) := by decide +kernel
theorem d_PF_when_19 : decode b_PF_when 19 = .ok (.getfield 51, 3) := by decide +kernel
theorem d_PF_when_22 : decode b_PF_when 22 = .ok (.iload_n 1, 1) := by decide +kernel
theorem d_PF_when_23 : decode b_PF_when 23 = .ok (.iload_n 2, 1) := by decide +kernel
theorem d_PF_when_24 : decode b_PF_when 24 = .ok (.invokevirtual 225, 3) := by decide +kernel
theorem d_PF_when_27 : decode b_PF_when 27 = .ok (.ireturn, 1) := by decide +kernel
theorem d_PF_passOf_0 : decode b_PF_passOf 0 = .ok (.iload_n 1, 1) := by decide +kernel
theorem d_PF_passOf_1 : decode b_PF_passOf 1 = .ok (.ifCond .ge (13), 3) := by decide +kernel
theorem d_PF_passOf_4 : decode b_PF_passOf 4 = .ok (.new 58, 3) := by decide +kernel
theorem d_PF_passOf_7 : decode b_PF_passOf 7 = .ok (.dup, 1) := by decide +kernel
theorem d_PF_passOf_8 : decode b_PF_passOf 8 = .ok (.ldc 228, 2) := by decide +kernel
theorem d_PF_passOf_10 : decode b_PF_passOf 10 = .ok (.invokespecial 62, 3) := by decide +kernel
theorem d_PF_passOf_13 : decode b_PF_passOf 13 = .ok (.athrow, 1) := by decide +kernel
theorem d_PF_passOf_14 : decode b_PF_passOf 14 = .ok (.iload_n 1, 1) := by decide +kernel
theorem d_PF_passOf_15 : decode b_PF_passOf 15 = .ok (.invokestatic 230, 3) := by decide +kernel
theorem d_PF_passOf_18 : decode b_PF_passOf 18 = .ok (.ireturn, 1) := by decide +kernel
theorem d_PF_told_0 : decode b_PF_told 0 = .ok (.iload_n 1, 1) := by decide +kernel
theorem d_PF_told_1 : decode b_PF_told 1 = .ok (.tableswitch (75) (0) (4) #[35, 40, 48, 56, 67], 35) := by decide +kernel
theorem d_PF_told_36 : decode b_PF_told 36 = .ok (.aload_n 0, 1) := by decide +kernel
theorem d_PF_told_37 : decode b_PF_told 37 = .ok (.getfield 18, 3) := by decide +kernel
theorem d_PF_told_40 : decode b_PF_told 40 = .ok (.ireturn, 1) := by decide +kernel
theorem d_PF_told_41 : decode b_PF_told 41 = .ok (.aload_n 0, 1) := by decide +kernel
theorem d_PF_told_42 : decode b_PF_told 42 = .ok (.getfield 27, 3) := by decide +kernel
theorem d_PF_told_45 : decode b_PF_told 45 = .ok (.getfield 77, 3) := by decide +kernel
theorem d_PF_told_48 : decode b_PF_told 48 = .ok (.ireturn, 1) := by decide +kernel
theorem d_PF_told_49 : decode b_PF_told 49 = .ok (.aload_n 0, 1) := by decide +kernel
theorem d_PF_told_50 : decode b_PF_told 50 = .ok (.getfield 31, 3) := by decide +kernel
theorem d_PF_told_53 : decode b_PF_told 53 = .ok (.getfield 77, 3) := by decide +kernel
theorem d_PF_told_56 : decode b_PF_told 56 = .ok (.ireturn, 1) := by decide +kernel
theorem d_PF_told_57 : decode b_PF_told 57 = .ok (.aload_n 0, 1) := by decide +kernel
theorem d_PF_told_58 : decode b_PF_told 58 = .ok (.getfield 44, 3) := by decide +kernel
theorem d_PF_told_61 : decode b_PF_told 61 = .ok (.getfield 135, 3) := by decide +kernel
theorem d_PF_told_64 : decode b_PF_told 64 = .ok (.getfield 77, 3) := by decide +kernel
theorem d_PF_told_67 : decode b_PF_told 67 = .ok (.ireturn, 1) := by decide +kernel
theorem d_PF_told_68 : decode b_PF_told 68 = .ok (.aload_n 0, 1) := by decide +kernel
theorem d_PF_told_69 : decode b_PF_told 69 = .ok (.getfield 51, 3) := by decide +kernel
theorem d_PF_told_72 : decode b_PF_told 72 = .ok (.getfield 155, 3) := by decide +kernel
theorem d_PF_told_75 : decode b_PF_told 75 = .ok (.ireturn, 1) := by decide +kernel
theorem d_PF_told_76 : decode b_PF_told 76 = .ok (.iconst (-1), 1) := by decide +kernel
theorem d_PF_told_77 : decode b_PF_told 77 = .ok (.ireturn, 1) := by decide +kernel
theorem d_PF_clear_0 : decode b_PF_clear 0 = .ok (.aload_n 0, 1) := by decide +kernel
theorem d_PF_clear_1 : decode b_PF_clear 1 = .ok (.iconst (0), 1) := by decide +kernel
theorem d_PF_clear_2 : decode b_PF_clear 2 = .ok (.putfield 55, 3) := by decide +kernel
theorem d_PF_clear_5 : decode b_PF_clear 5 = .ok (.aload_n 0, 1) := by decide +kernel
theorem d_PF_clear_6 : decode b_PF_clear 6 = .ok (.getfield 27, 3) := by decide +kernel
theorem d_PF_clear_9 : decode b_PF_clear 9 = .ok (.invokevirtual 132, 3) := by decide +kernel
theorem d_PF_clear_12 : decode b_PF_clear 12 = .ok (.aload_n 0, 1) := by decide +kernel
theorem d_PF_clear_13 : decode b_PF_clear 13 = .ok (.getfield 31, 3) := by decide +kernel
theorem d_PF_clear_16 : decode b_PF_clear 16 = .ok (.invokevirtual 132, 3) := by decide +kernel
theorem d_PF_clear_19 : decode b_PF_clear 19 = .ok (.aload_n 0, 1) := by decide +kernel
theorem d_PF_clear_20 : decode b_PF_clear 20 = .ok (.getfield 37, 3) := by decide +kernel
theorem d_PF_clear_23 : decode b_PF_clear 23 = .ok (.invokevirtual 233, 3) := by decide +kernel
theorem d_PF_clear_26 : decode b_PF_clear 26 = .ok (.aload_n 0, 1) := by decide +kernel
theorem d_PF_clear_27 : decode b_PF_clear 27 = .ok (.getfield 44, 3) := by decide +kernel
theorem d_PF_clear_30 : decode b_PF_clear 30 = .ok (.getfield 135, 3) := by decide +kernel
theorem d_PF_clear_33 : decode b_PF_clear 33 = .ok (.invokevirtual 132, 3) := by decide +kernel
theorem d_PF_clear_36 : decode b_PF_clear 36 = .ok (.aload_n 0, 1) := by decide +kernel
theorem d_PF_clear_37 : decode b_PF_clear 37 = .ok (.getfield 51, 3) := by decide +kernel
theorem d_PF_clear_40 : decode b_PF_clear 40 = .ok (.invokevirtual 236, 3) := by decide +kernel
theorem d_PF_clear_43 : decode b_PF_clear 43 = .ok (.return_, 1) := by decide +kernel
theorem d_PF_isSymbol_0 : decode b_PF_isSymbol 0 = .ok (.iload_n 1, 1) := by decide +kernel
theorem d_PF_isSymbol_1 : decode b_PF_isSymbol 1 = .ok (.ifCond .lt (17), 3) := by decide +kernel
theorem d_PF_isSymbol_4 : decode b_PF_isSymbol 4 = .ok (.iload_n 1, 1) := by decide +kernel
theorem d_PF_isSymbol_5 : decode b_PF_isSymbol 5 = .ok (.iconst (1), 1) := by decide +kernel
theorem d_PF_isSymbol_6 : decode b_PF_isSymbol 6 = .ok (.aload_n 0, 1) := by decide +kernel
theorem d_PF_isSymbol_7 : decode b_PF_isSymbol 7 = .ok (.getfield 18, 3) := by decide +kernel
theorem d_PF_isSymbol_10 : decode b_PF_isSymbol 10 = .ok (.ishl, 1) := by decide +kernel
theorem d_PF_isSymbol_11 : decode b_PF_isSymbol 11 = .ok (.if_icmp .ge (7), 3) := by decide +kernel
theorem d_PF_isSymbol_14 : decode b_PF_isSymbol 14 = .ok (.iconst (1), 1) := by decide +kernel
theorem d_PF_isSymbol_15 : decode b_PF_isSymbol 15 = .ok (.goto (4), 3) := by decide +kernel
theorem d_PF_isSymbol_18 : decode b_PF_isSymbol 18 = .ok (.iconst (0), 1) := by decide +kernel
theorem d_PF_isSymbol_19 : decode b_PF_isSymbol 19 = .ok (.ireturn, 1) := by decide +kernel
theorem d_PF_fits_0 : decode b_PF_fits 0 = .ok (.iload_n 1, 1) := by decide +kernel
theorem d_PF_fits_1 : decode b_PF_fits 1 = .ok (.iconst (1), 1) := by decide +kernel
theorem d_PF_fits_2 : decode b_PF_fits 2 = .ok (.if_icmp .lt (25), 3) := by decide +kernel
theorem d_PF_fits_5 : decode b_PF_fits 5 = .ok (.iload_n 1, 1) := by decide +kernel
theorem d_PF_fits_6 : decode b_PF_fits 6 = .ok (.bipush (24), 2) := by decide +kernel
theorem d_PF_fits_8 : decode b_PF_fits 8 = .ok (.if_icmp .gt (19), 3) := by decide +kernel
theorem d_PF_fits_11 : decode b_PF_fits 11 = .ok (.iload_n 0, 1) := by decide +kernel
theorem d_PF_fits_12 : decode b_PF_fits 12 = .ok (.ifCond .lt (15), 3) := by decide +kernel
theorem d_PF_fits_15 : decode b_PF_fits 15 = .ok (.iload_n 0, 1) := by decide +kernel
theorem d_PF_fits_16 : decode b_PF_fits 16 = .ok (.bipush (24), 2) := by decide +kernel
theorem d_PF_fits_18 : decode b_PF_fits 18 = .ok (.iload_n 1, 1) := by decide +kernel
theorem d_PF_fits_19 : decode b_PF_fits 19 = .ok (.isub, 1) := by decide +kernel
theorem d_PF_fits_20 : decode b_PF_fits 20 = .ok (.if_icmp .gt (7), 3) := by decide +kernel
theorem d_PF_fits_23 : decode b_PF_fits 23 = .ok (.iconst (1), 1) := by decide +kernel
theorem d_PF_fits_24 : decode b_PF_fits 24 = .ok (.goto (4), 3) := by decide +kernel
theorem d_PF_fits_27 : decode b_PF_fits 27 = .ok (.iconst (0), 1) := by decide +kernel
theorem d_PF_fits_28 : decode b_PF_fits 28 = .ok (.ireturn, 1) := by decide +kernel
