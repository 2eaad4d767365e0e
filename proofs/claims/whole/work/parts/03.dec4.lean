theorem d_Co_write_0 : decode b_Co_write 0 = .ok (.aload_n 0, 1) := by decide +kernel
theorem d_Co_write_1 : decode b_Co_write 1 = .ok (.dup, 1) := by decide +kernel
theorem d_Co_write_2 : decode b_Co_write 2 = .ok (.getfield 48, 3) := by decide +kernel
theorem d_Co_write_5 : decode b_Co_write 5 = .ok (.iconst (1), 1) := by decide +kernel
theorem d_Co_write_6 : decode b_Co_write 6 = .ok (.iadd, 1) := by decide +kernel
theorem d_Co_write_7 : decode b_Co_write 7 = .ok (.putfield 48, 3) := by decide +kernel
theorem d_Co_write_10 : decode b_Co_write 10 = .ok (.aload_n 0, 1) := by decide +kernel
theorem d_Co_write_11 : decode b_Co_write 11 = .ok (.aload_n 0, 1) := by decide +kernel
theorem d_Co_write_12 : decode b_Co_write 12 = .ok (.getfield 30, 3) := by decide +kernel
theorem d_Co_write_15 : decode b_Co_write 15 = .ok (.getfield 113, 3) := by decide +kernel
theorem d_Co_write_18 : decode b_Co_write 18 = .ok (.putfield 54, 3) := by decide +kernel
theorem d_Co_write_21 : decode b_Co_write 21 = .ok (.aload_n 0, 1) := by decide +kernel
theorem d_Co_write_22 : decode b_Co_write 22 = .ok (.dup, 1) := by decide +kernel
theorem d_Co_write_23 : decode b_Co_write 23 = .ok (.getfield 57, 3) := by decide +kernel
theorem d_Co_write_26 : decode b_Co_write 26 = .ok (.iload_n 1, 1) := by decide +kernel
theorem d_Co_write_27 : decode b_Co_write 27 = .ok (.aload_n 0, 1) := by decide +kernel
theorem d_Co_write_28 : decode b_Co_write 28 = .ok (.getfield 60, 3) := by decide +kernel
theorem d_Co_write_31 : decode b_Co_write 31 = .ok (.ishl, 1) := by decide +kernel
theorem d_Co_write_32 : decode b_Co_write 32 = .ok (.ior, 1) := by decide +kernel
theorem d_Co_write_33 : decode b_Co_write 33 = .ok (.putfield 57, 3) := by decide +kernel
theorem d_Co_write_36 : decode b_Co_write 36 = .ok (.aload_n 0, 1) := by decide +kernel
theorem d_Co_write_37 : decode b_Co_write 37 = .ok (.dup, 1) := by decide +kernel
theorem d_Co_write_38 : decode b_Co_write 38 = .ok (.getfield 60, 3) := by decide +kernel
theorem d_Co_write_41 : decode b_Co_write 41 = .ok (.aload_n 0, 1) := by decide +kernel
theorem d_Co_write_42 : decode b_Co_write 42 = .ok (.getfield 30, 3) := by decide +kernel
theorem d_Co_write_45 : decode b_Co_write 45 = .ok (.getfield 113, 3) := by decide +kernel
theorem d_Co_write_48 : decode b_Co_write 48 = .ok (.iadd, 1) := by decide +kernel
theorem d_Co_write_49 : decode b_Co_write 49 = .ok (.putfield 60, 3) := by decide +kernel
theorem d_Co_write_52 : decode b_Co_write 52 = .ok (.aload_n 0, 1) := by decide +kernel
theorem d_Co_write_53 : decode b_Co_write 53 = .ok (.getfield 60, 3) := by decide +kernel
theorem d_Co_write_56 : decode b_Co_write 56 = .ok (.bipush (8), 2) := by decide +kernel
theorem d_Co_write_58 : decode b_Co_write 58 = .ok (.idiv, 1) := by decide +kernel
theorem d_Co_write_59 : decode b_Co_write 59 = .ok (.istore_n 2, 1) := by decide +kernel
theorem d_Co_write_60 : decode b_Co_write 60 = .ok (.iload_n 2, 1) := by decide +kernel
theorem d_Co_write_61 : decode b_Co_write 61 = .ok (.ifCond .le (46), 3) := by decide +kernel
theorem d_Co_write_64 : decode b_Co_write 64 = .ok (.aload_n 0, 1) := by decide +kernel
theorem d_Co_write_65 : decode b_Co_write 65 = .ok (.getfield 14, 3) := by decide +kernel
theorem d_Co_write_68 : decode b_Co_write 68 = .ok (.aload_n 0, 1) := by decide +kernel
theorem d_Co_write_69 : decode b_Co_write 69 = .ok (.getfield 57, 3) := by decide +kernel
theorem d_Co_write_72 : decode b_Co_write 72 = .ok (.sipush (255), 3) := by decide +kernel
theorem d_Co_write_75 : decode b_Co_write 75 = .ok (.iand, 1) := by decide +kernel
theorem d_Co_write_76 : decode b_Co_write 76 = .ok (.invokevirtual 116, 3) := by decide +kernel
theorem d_Co_write_79 : decode b_Co_write 79 = .ok (.aload_n 0, 1) := by decide +kernel
theorem d_Co_write_80 : decode b_Co_write 80 = .ok (.dup, 1) := by decide +kernel
theorem d_Co_write_81 : decode b_Co_write 81 = .ok (.getfield 57, 3) := by decide +kernel
theorem d_Co_write_84 : decode b_Co_write 84 = .ok (.bipush (8), 2) := by decide +kernel
theorem d_Co_write_86 : decode b_Co_write 86 = .ok (.iushr, 1) := by decide +kernel
theorem d_Co_write_87 : decode b_Co_write 87 = .ok (.putfield 57, 3) := by decide +kernel
theorem d_Co_write_90 : decode b_Co_write 90 = .ok (.aload_n 0, 1) := by decide +kernel
theorem d_Co_write_91 : decode b_Co_write 91 = .ok (.dup, 1) := by decide +kernel
theorem d_Co_write_92 : decode b_Co_write 92 = .ok (.getfield 60, 3) := by decide +kernel
theorem d_Co_write_95 : decode b_Co_write 95 = .ok (.bipush (8), 2) := by decide +kernel
theorem d_Co_write_97 : decode b_Co_write 97 = .ok (.isub, 1) := by decide +kernel
theorem d_Co_write_98 : decode b_Co_write 98 = .ok (.putfield 60, 3) := by decide +kernel
theorem d_Co_write_101 : decode b_Co_write 101 = .ok (.iinc 2 (-1), 3) := by decide +kernel
theorem d_Co_write_104 : decode b_Co_write 104 = .ok (.goto (-44), 3) := by decide +kernel
theorem d_Co_write_107 : decode b_Co_write 107 = .ok (.return_, 1) := by decide +kernel
theorem d_Co_writeRest_0 : decode b_Co_writeRest 0 = .ok (.aload_n 0, 1) := by decide +kernel
theorem d_Co_writeRest_1 : decode b_Co_writeRest 1 = .ok (.getfield 60, 3) := by decide +kernel
theorem d_Co_writeRest_4 : decode b_Co_writeRest 4 = .ok (.ifCond .le (18), 3) := by decide +kernel
theorem d_Co_writeRest_7 : decode b_Co_writeRest 7 = .ok (.aload_n 0, 1) := by decide +kernel
theorem d_Co_writeRest_8 : decode b_Co_writeRest 8 = .ok (.getfield 14, 3) := by decide +kernel
theorem d_Co_writeRest_11 : decode b_Co_writeRest 11 = .ok (.aload_n 0, 1) := by decide +kernel
theorem d_Co_writeRest_12 : decode b_Co_writeRest 12 = .ok (.getfield 57, 3) := by decide +kernel
theorem d_Co_writeRest_15 : decode b_Co_writeRest 15 = .ok (.sipush (255), 3) := by decide +kernel
theorem d_Co_writeRest_18 : decode b_Co_writeRest 18 = .ok (.iand, 1) := by decide +kernel
theorem d_Co_writeRest_19 : decode b_Co_writeRest 19 = .ok (.invokevirtual 116, 3) := by decide +kernel
theorem d_Co_writeRest_22 : decode b_Co_writeRest 22 = .ok (.return_, 1) := by decide +kernel
theorem d_Fr_init_0 : decode b_Fr_init 0 = .ok (.aload_n 0, 1) := by decide +kernel
theorem d_Fr_init_1 : decode b_Fr_init 1 = .ok (.invokespecial 3, 3) := by decide +kernel
theorem d_Fr_init_4 : decode b_Fr_init 4 = .ok (.aload_n 0, 1) := by decide +kernel
theorem d_Fr_init_5 : decode b_Fr_init 5 = .ok (.sipush (576), 3) := by decide +kernel
theorem d_Fr_init_8 : decode b_Fr_init 8 = .ok (.newarray .int, 2) := by decide +kernel
theorem d_Fr_init_10 : decode b_Fr_init 10 = .ok (.putfield 9, 3) := by decide +kernel
theorem d_Fr_init_13 : decode b_Fr_init 13 = .ok (.aload_n 0, 1) := by decide +kernel
theorem d_Fr_init_14 : decode b_Fr_init 14 = .ok (.new 15, 3) := by decide +kernel
theorem d_Fr_init_17 : decode b_Fr_init 17 = .ok (.dup, 1) := by decide +kernel
theorem d_Fr_init_18 : decode b_Fr_init 18 = .ok (.iload_n 1, 1) := by decide +kernel
theorem d_Fr_init_19 : decode b_Fr_init 19 = .ok (.invokespecial 17, 3) := by decide +kernel
theorem d_Fr_init_22 : decode b_Fr_init 22 = .ok (.putfield 20, 3) := by decide +kernel
theorem d_Fr_init_25 : decode b_Fr_init 25 = .ok (.aload_n 0, 1) := by decide +kernel
theorem d_Fr_init_26 : decode b_Fr_init 26 = .ok (.iconst (-1), 1) := by decide +kernel
theorem d_Fr_init_27 : decode b_Fr_init 27 = .ok (.putfield 24, 3) := by decide +kernel
theorem d_Fr_init_30 : decode b_Fr_init 30 = .ok (.return_, 1) := by decide +kernel
theorem d_Fr_passNumber_0 : decode b_Fr_passNumber 0 = .ok (.iload_n 0, 1) := by decide +kernel
theorem d_Fr_passNumber_1 : decode b_Fr_passNumber 1 = .ok (.iconst (1), 1) := by decide +kernel
theorem d_Fr_passNumber_2 : decode b_Fr_passNumber 2 = .ok (.iand, 1) := by decide +kernel
theorem d_Fr_passNumber_3 : decode b_Fr_passNumber 3 = .ok (.ifCond .eq (5), 3) := by decide +kernel
theorem d_Fr_passNumber_6 : decode b_Fr_passNumber 6 = .ok (.iconst (3), 1) := by decide +kernel
theorem d_Fr_passNumber_7 : decode b_Fr_passNumber 7 = .ok (.ireturn, 1) := by decide +kernel
theorem d_Fr_passNumber_8 : decode b_Fr_passNumber 8 = .ok (.iload_n 0, 1) := by decide +kernel
theorem d_Fr_passNumber_9 : decode b_Fr_passNumber 9 = .ok (.iconst (2), 1) := by decide +kernel
theorem d_Fr_passNumber_10 : decode b_Fr_passNumber 10 = .ok (.iand, 1) := by decide +kernel
theorem d_Fr_passNumber_11 : decode b_Fr_passNumber 11 = .ok (.ifCond .eq (5), 3) := by decide +kernel
theorem d_Fr_passNumber_14 : decode b_Fr_passNumber 14 = .ok (.iconst (2), 1) := by decide +kernel
theorem d_Fr_passNumber_15 : decode b_Fr_passNumber 15 = .ok (.ireturn, 1) := by decide +kernel
theorem d_Fr_passNumber_16 : decode b_Fr_passNumber 16 = .ok (.iload_n 0, 1) := by decide +kernel
theorem d_Fr_passNumber_17 : decode b_Fr_passNumber 17 = .ok (.iconst (4), 1) := by decide +kernel
theorem d_Fr_passNumber_18 : decode b_Fr_passNumber 18 = .ok (.iand, 1) := by decide +kernel
theorem d_Fr_passNumber_19 : decode b_Fr_passNumber 19 = .ok (.ifCond .eq (7), 3) := by decide +kernel
theorem d_Fr_passNumber_22 : decode b_Fr_passNumber 22 = .ok (.iconst (1), 1) := by decide +kernel
theorem d_Fr_passNumber_23 : decode b_Fr_passNumber 23 = .ok (.goto (4), 3) := by decide +kernel
theorem d_Fr_passNumber_26 : decode b_Fr_passNumber 26 = .ok (.iconst (0), 1) := by decide +kernel
theorem d_Fr_passNumber_27 : decode b_Fr_passNumber 27 = .ok (.ireturn, 1) := by decide +kernel
theorem d_Fr_forget_0 : decode b_Fr_forget 0 = .ok (.aload_n 0, 1) := by decide +kernel
theorem d_Fr_forget_1 : decode b_Fr_forget 1 = .ok (.getfield 20, 3) := by decide +kernel
theorem d_Fr_forget_4 : decode b_Fr_forget 4 = .ok (.invokevirtual 28, 3) := by decide +kernel
theorem d_Fr_forget_7 : decode b_Fr_forget 7 = .ok (.aload_n 0, 1) := by decide +kernel
theorem d_Fr_forget_8 : decode b_Fr_forget 8 = .ok (.iconst (-1), 1) := by decide +kernel
theorem d_Fr_forget_9 : decode b_Fr_forget 9 = .ok (.putfield 24, 3) := by decide +kernel
theorem d_Fr_forget_12 : decode b_Fr_forget 12 = .ok (.return_, 1) := by decide +kernel
theorem d_Fr_lay_0 : decode b_Fr_lay 0 = .ok (.aload_n 0, 1) := by decide +kernel
theorem d_Fr_lay_1 : decode b_Fr_lay 1 = .ok (.iload_n 1, 1) := by decide +kernel
theorem d_Fr_lay_2 : decode b_Fr_lay 2 = .ok (.putfield 31, 3) := by decide +kernel
theorem d_Fr_lay_5 : decode b_Fr_lay 5 = .ok (.aload_n 0, 1) := by decide +kernel
theorem d_Fr_lay_6 : decode b_Fr_lay 6 = .ok (.iload_n 2, 1) := by decide +kernel
theorem d_Fr_lay_7 : decode b_Fr_lay 7 = .ok (.putfield 34, 3) := by decide +kernel
theorem d_Fr_lay_10 : decode b_Fr_lay 10 = .ok (.aload_n 0, 1) := by decide +kernel
theorem d_Fr_lay_11 : decode b_Fr_lay 11 = .ok (.iload_n 3, 1) := by decide +kernel
theorem d_Fr_lay_12 : decode b_Fr_lay 12 = .ok (.putfield 37, 3) := by decide +kernel
theorem d_Fr_lay_15 : decode b_Fr_lay 15 = .ok (.aload_n 0, 1) := by decide +kernel
theorem d_Fr_lay_16 : decode b_Fr_lay 16 = .ok (.iload 4, 2) := by decide +kernel
theorem d_Fr_lay_18 : decode b_Fr_lay 18 = .ok (.putfield 40, 3) := by decide +kernel
theorem d_Fr_lay_21 : decode b_Fr_lay 21 = .ok (.return_, 1) := by decide +kernel
theorem d_Fr_time_0 : decode b_Fr_time 0 = .ok (.aload_n 0, 1) := by decide +kernel
theorem d_Fr_time_1 : decode b_Fr_time 1 = .ok (.iload_n 1, 1) := by decide +kernel
theorem d_Fr_time_2 : decode b_Fr_time 2 = .ok (.putfield 43, 3) := by decide +kernel
theorem d_Fr_time_5 : decode b_Fr_time 5 = .ok (.aload_n 0, 1) := by decide +kernel
theorem d_Fr_time_6 : decode b_Fr_time 6 = .ok (.iload_n 2, 1) := by decide +kernel
theorem d_Fr_time_7 : decode b_Fr_time 7 = .ok (.putfield 46, 3) := by decide +kernel
theorem d_Fr_time_10 : decode b_Fr_time 10 = .ok (.return_, 1) := by decide +kernel
theorem d_Fr_fill_0 : decode b_Fr_fill 0 = .ok (.iconst (0), 1) := by decide +kernel
theorem d_Fr_fill_1 : decode b_Fr_fill 1 = .ok (.istore_n 3, 1) := by decide +kernel
theorem d_Fr_fill_2 : decode b_Fr_fill 2 = .ok (.iconst (0), 1) := by decide +kernel
theorem d_Fr_fill_3 : decode b_Fr_fill 3 = .ok (.istore 4, 2) := by decide +kernel
theorem d_Fr_fill_5 : decode b_Fr_fill 5 = .ok (.iload 4, 2) := by decide +kernel
theorem d_Fr_fill_7 : decode b_Fr_fill 7 = .ok (.iconst (4), 1) := by decide +kernel
theorem d_Fr_fill_8 : decode b_Fr_fill 8 = .ok (.if_icmp .ge (64), 3) := by decide +kernel
theorem d_Fr_fill_11 : decode b_Fr_fill 11 = .ok (.iconst (0), 1) := by decide +kernel
theorem d_Fr_fill_12 : decode b_Fr_fill 12 = .ok (.istore 5, 2) := by decide +kernel
theorem d_Fr_fill_14 : decode b_Fr_fill 14 = .ok (.iload 5, 2) := by decide +kernel
theorem d_Fr_fill_16 : decode b_Fr_fill 16 = .ok (.aload_n 0, 1) := by decide +kernel
theorem d_Fr_fill_17 : decode b_Fr_fill 17 = .ok (.getfield 40, 3) := by decide +kernel
theorem d_Fr_fill_20 : decode b_Fr_fill 20 = .ok (.if_icmp .ge (46), 3) := by decide +kernel
theorem d_Fr_fill_23 : decode b_Fr_fill 23 = .ok (.iload_n 2, 1) := by decide +kernel
theorem d_Fr_fill_24 : decode b_Fr_fill 24 = .ok (.ifCond .eq (11), 3) := by decide +kernel
theorem d_Fr_fill_27 : decode b_Fr_fill 27 = .ok (.iload 5, 2) := by decide +kernel
theorem d_Fr_fill_29 : decode b_Fr_fill 29 = .ok (.invokestatic 49, 3) := by decide +kernel
theorem d_Fr_fill_32 : decode b_Fr_fill 32 = .ok (.goto (4), 3) := by decide +kernel
theorem d_Fr_fill_35 : decode b_Fr_fill 35 = .ok (.iconst (0), 1) := by decide +kernel
theorem d_Fr_fill_36 : decode b_Fr_fill 36 = .ok (.istore 6, 2) := by decide +kernel
theorem d_Fr_fill_38 : decode b_Fr_fill 38 = .ok (.iload 6, 2) := by decide +kernel
theorem d_Fr_fill_40 : decode b_Fr_fill 40 = .ok (.iload 4, 2) := by decide +kernel
theorem d_Fr_fill_42 : decode b_Fr_fill 42 = .ok (.if_icmp .ne (18), 3) := by decide +kernel
theorem d_Fr_fill_45 : decode b_Fr_fill 45 = .ok (.aload_n 0, 1) := by decide +kernel
theorem d_Fr_fill_46 : decode b_Fr_fill 46 = .ok (.aload_n 1, 1) := by decide +kernel
theorem d_Fr_fill_47 : decode b_Fr_fill 47 = .ok (.iload_n 3, 1) := by decide +kernel
theorem d_Fr_fill_48 : decode b_Fr_fill 48 = .ok (.iload 5, 2) := by decide +kernel
theorem d_Fr_fill_50 : decode b_Fr_fill 50 = .ok (.invokevirtual 53, 3) := by decide +kernel
theorem d_Fr_fill_53 : decode b_Fr_fill 53 = .ok (.iload_n 3, 1) := by decide +kernel
theorem d_Fr_fill_54 : decode b_Fr_fill 54 = .ok (.aload_n 0, 1) := by decide +kernel
theorem d_Fr_fill_55 : decode b_Fr_fill 55 = .ok (.getfield 37, 3) := by decide +kernel
theorem d_Fr_fill_58 : decode b_Fr_fill 58 = .ok (.iadd, 1) := by decide +kernel
theorem d_Fr_fill_59 : decode b_Fr_fill 59 = .ok (.istore_n 3, 1) := by decide +kernel
theorem d_Fr_fill_60 : decode b_Fr_fill 60 = .ok (.iinc 5 (1), 3) := by decide +kernel
theorem d_Fr_fill_63 : decode b_Fr_fill 63 = .ok (.goto (-49), 3) := by decide +kernel
theorem d_Fr_fill_66 : decode b_Fr_fill 66 = .ok (.iinc 4 (1), 3) := by decide +kernel
theorem d_Fr_fill_69 : decode b_Fr_fill 69 = .ok (.goto (-64), 3) := by decide +kernel
theorem d_Fr_fill_72 : decode b_Fr_fill 72 = .ok (.return_, 1) := by decide +kernel
theorem d_Fr_fillLine_0 : decode b_Fr_fillLine 0 = .ok (.iconst (0), 1) := by decide +kernel
theorem d_Fr_fillLine_1 : decode b_Fr_fillLine 1 = .ok (.istore 4, 2) := by decide +kernel
theorem d_Fr_fillLine_3 : decode b_Fr_fillLine 3 = .ok (.iload 4, 2) := by decide +kernel
theorem d_Fr_fillLine_5 : decode b_Fr_fillLine 5 = .ok (.aload_n 0, 1) := by decide +kernel
theorem d_Fr_fillLine_6 : decode b_Fr_fillLine 6 = .ok (.getfield 37, 3) := by decide +kernel
theorem d_Fr_fillLine_9 : decode b_Fr_fillLine 9 = .ok (.if_icmp .ge (50), 3) := by decide +kernel
theorem d_Fr_fillLine_12 : decode b_Fr_fillLine 12 = .ok (.iload_n 3, 1) := by decide +kernel
theorem d_Fr_fillLine_13 : decode b_Fr_fillLine 13 = .ok (.aload_n 0, 1) := by decide +kernel
theorem d_Fr_fillLine_14 : decode b_Fr_fillLine 14 = .ok (.getfield 37, 3) := by decide +kernel
theorem d_Fr_fillLine_17 : decode b_Fr_fillLine 17 = .ok (.imul, 1) := by decide +kernel
theorem d_Fr_fillLine_18 : decode b_Fr_fillLine 18 = .ok (.iload 4, 2) := by decide +kernel
theorem d_Fr_fillLine_20 : decode b_Fr_fillLine 20 = .ok (.iadd, 1) := by decide +kernel
theorem d_Fr_fillLine_21 : decode b_Fr_fillLine 21 = .ok (.istore 5, 2) := by decide +kernel
theorem d_Fr_fillLine_23 : decode b_Fr_fillLine 23 = .ok (.iload 5, 2) := by decide +kernel
theorem d_Fr_fillLine_25 : decode b_Fr_fillLine 25 = .ok (.ifCond .lt (28), 3) := by decide +kernel
theorem d_Fr_fillLine_28 : decode b_Fr_fillLine 28 = .ok (.iload 5, 2) := by decide +kernel
theorem d_Fr_fillLine_30 : decode b_Fr_fillLine 30 = .ok (.aload_n 0, 1) := by decide +kernel
theorem d_Fr_fillLine_31 : decode b_Fr_fillLine 31 = .ok (.getfield 9, 3) := by decide +kernel
theorem d_Fr_fillLine_34 : decode b_Fr_fillLine 34 = .ok (.arraylength, 1) := by decide +kernel
theorem d_Fr_fillLine_35 : decode b_Fr_fillLine 35 = .ok (.if_icmp .ge (18), 3) := by decide +kernel
theorem d_Fr_fillLine_38 : decode b_Fr_fillLine 38 = .ok (.aload_n 0, 1) := by decide +kernel
theorem d_Fr_fillLine_39 : decode b_Fr_fillLine 39 = .ok (.getfield 9, 3) := by decide +kernel
theorem d_Fr_fillLine_42 : decode b_Fr_fillLine 42 = .ok (.iload 5, 2) := by decide +kernel
theorem d_Fr_fillLine_44 : decode b_Fr_fillLine 44 = .ok (.aload_n 1, 1) := by decide +kernel
theorem d_Fr_fillLine_45 : decode b_Fr_fillLine 45 = .ok (.iload_n 2, 1) := by decide +kernel
theorem d_Fr_fillLine_46 : decode b_Fr_fillLine 46 = .ok (.iload 4, 2) := by decide +kernel
theorem d_Fr_fillLine_48 : decode b_Fr_fillLine 48 = .ok (.iadd, 1) := by decide +kernel
theorem d_Fr_fillLine_49 : decode b_Fr_fillLine 49 = .ok (.invokevirtual 57, 3) := by decide +kernel
theorem d_Fr_fillLine_52 : decode b_Fr_fillLine 52 = .ok (.iastore, 1) := by decide +kernel
theorem d_Fr_fillLine_53 : decode b_Fr_fillLine 53 = .ok (.iinc 4 (1), 3) := by decide +kernel
theorem d_Fr_fillLine_56 : decode b_Fr_fillLine 56 = .ok (.goto (-53), 3) := by decide +kernel
theorem d_Fr_fillLine_59 : decode b_Fr_fillLine 59 = .ok (.return_, 1) := by decide +kernel
theorem d_Fr_symbolIn_0 : decode b_Fr_symbolIn 0 = .ok (.iload_n 2, 1) := by decide +kernel
theorem d_Fr_symbolIn_1 : decode b_Fr_symbolIn 1 = .ok (.aload_n 0, 1) := by decide +kernel
theorem d_Fr_symbolIn_2 : decode b_Fr_symbolIn 2 = .ok (.getfield 37, 3) := by decide +kernel
theorem d_Fr_symbolIn_5 : decode b_Fr_symbolIn 5 = .ok (.imul, 1) := by decide +kernel
theorem d_Fr_symbolIn_6 : decode b_Fr_symbolIn 6 = .ok (.iload_n 1, 1) := by decide +kernel
theorem d_Fr_symbolIn_7 : decode b_Fr_symbolIn 7 = .ok (.iadd, 1) := by decide +kernel
theorem d_Fr_symbolIn_8 : decode b_Fr_symbolIn 8 = .ok (.istore_n 3, 1) := by decide +kernel
theorem d_Fr_symbolIn_9 : decode b_Fr_symbolIn 9 = .ok (.iload_n 3, 1) := by decide +kernel
theorem d_Fr_symbolIn_10 : decode b_Fr_symbolIn 10 = .ok (.ifCond .lt (21), 3) := by decide +kernel
theorem d_Fr_symbolIn_13 : decode b_Fr_symbolIn 13 = .ok (.iload_n 3, 1) := by decide +kernel
theorem d_Fr_symbolIn_14 : decode b_Fr_symbolIn 14 = .ok (.aload_n 0, 1) := by decide +kernel
theorem d_Fr_symbolIn_15 : decode b_Fr_symbolIn 15 = .ok (.getfield 9, 3) := by decide +kernel
theorem d_Fr_symbolIn_18 : decode b_Fr_symbolIn 18 = .ok (.arraylength, 1) := by decide +kernel
theorem d_Fr_symbolIn_19 : decode b_Fr_symbolIn 19 = .ok (.if_icmp .ge (12), 3) := by decide +kernel
theorem d_Fr_symbolIn_22 : decode b_Fr_symbolIn 22 = .ok (.aload_n 0, 1) := by decide +kernel
theorem d_Fr_symbolIn_23 : decode b_Fr_symbolIn 23 = .ok (.getfield 9, 3) := by decide +kernel
theorem d_Fr_symbolIn_26 : decode b_Fr_symbolIn 26 = .ok (.iload_n 3, 1) := by decide +kernel
theorem d_Fr_symbolIn_27 : decode b_Fr_symbolIn 27 = .ok (.iaload, 1) := by decide +kernel
theorem d_Fr_symbolIn_28 : decode b_Fr_symbolIn 28 = .ok (.goto (4), 3) := by decide +kernel
theorem d_Fr_symbolIn_31 : decode b_Fr_symbolIn 31 = .ok (.iconst (-1), 1) := by decide +kernel
theorem d_Fr_symbolIn_32 : decode b_Fr_symbolIn 32 = .ok (.ireturn, 1) := by decide +kernel
theorem d_Fr_covers_0 : decode b_Fr_covers 0 = .ok (.iload_n 1, 1) := by decide +kernel
theorem d_Fr_covers_1 : decode b_Fr_covers 1 = .ok (.aload_n 0, 1) := by decide +kernel
theorem d_Fr_covers_2 : decode b_Fr_covers 2 = .ok (.getfield 31, 3) := by decide +kernel
theorem d_Fr_covers_5 : decode b_Fr_covers 5 = .ok (.if_icmp .lt (41), 3) := by decide +kernel
theorem d_Fr_covers_8 : decode b_Fr_covers 8 = .ok (.iload_n 1, 1) := by decide +kernel
theorem d_Fr_covers_9 : decode b_Fr_covers 9 = .ok (.aload_n 0, 1) := by decide +kernel
theorem d_Fr_covers_10 : decode b_Fr_covers 10 = .ok (.getfield 31, 3) := by decide +kernel
theorem d_Fr_covers_13 : decode b_Fr_covers 13 = .ok (.isub, 1) := by decide +kernel
theorem d_Fr_covers_14 : decode b_Fr_covers 14 = .ok (.aload_n 0, 1) := by decide +kernel
theorem d_Fr_covers_15 : decode b_Fr_covers 15 = .ok (.getfield 37, 3) := by decide +kernel
theorem d_Fr_covers_18 : decode b_Fr_covers 18 = .ok (.if_icmp .ge (28), 3) := by decide +kernel
theorem d_Fr_covers_21 : decode b_Fr_covers 21 = .ok (.iload_n 2, 1) := by decide +kernel
theorem d_Fr_covers_22 : decode b_Fr_covers 22 = .ok (.aload_n 0, 1) := by decide +kernel
theorem d_Fr_covers_23 : decode b_Fr_covers 23 = .ok (.getfield 34, 3) := by decide +kernel
theorem d_Fr_covers_26 : decode b_Fr_covers 26 = .ok (.if_icmp .lt (20), 3) := by decide +kernel
theorem d_Fr_covers_29 : decode b_Fr_covers 29 = .ok (.iload_n 2, 1) := by decide +kernel
theorem d_Fr_covers_30 : decode b_Fr_covers 30 = .ok (.aload_n 0, 1) := by decide +kernel
theorem d_Fr_covers_31 : decode b_Fr_covers 31 = .ok (.getfield 34, 3) := by decide +kernel
theorem d_Fr_covers_34 : decode b_Fr_covers 34 = .ok (.isub, 1) := by decide +kernel
theorem d_Fr_covers_35 : decode b_Fr_covers 35 = .ok (.aload_n 0, 1) := by decide +kernel
theorem d_Fr_covers_36 : decode b_Fr_covers 36 = .ok (.getfield 40, 3) := by decide +kernel
theorem d_Fr_covers_39 : decode b_Fr_covers 39 = .ok (.if_icmp .ge (7), 3) := by decide +kernel
theorem d_Fr_covers_42 : decode b_Fr_covers 42 = .ok (.iconst (1), 1) := by decide +kernel
theorem d_Fr_covers_43 : decode b_Fr_covers 43 = .ok (.goto (4), 3) := by decide +kernel
theorem d_Fr_covers_46 : decode b_Fr_covers 46 = .ok (.iconst (0), 1) := by decide +kernel
theorem d_Fr_covers_47 : decode b_Fr_covers 47 = .ok (.ireturn, 1) := by decide +kernel
theorem d_Fr_symbolOn_0 : decode b_Fr_symbolOn 0 = .ok (.aload_n 0, 1) := by decide +kernel
theorem d_Fr_symbolOn_1 : decode b_Fr_symbolOn 1 = .ok (.iload_n 1, 1) := by decide +kernel
theorem d_Fr_symbolOn_2 : decode b_Fr_symbolOn 2 = .ok (.aload_n 0, 1) := by decide +kernel
theorem d_Fr_symbolOn_3 : decode b_Fr_symbolOn 3 = .ok (.getfield 31, 3) := by decide +kernel
theorem d_Fr_symbolOn_6 : decode b_Fr_symbolOn 6 = .ok (.isub, 1) := by decide +kernel
theorem d_Fr_symbolOn_7 : decode b_Fr_symbolOn 7 = .ok (.iload_n 2, 1) := by decide +kernel
theorem d_Fr_symbolOn_8 : decode b_Fr_symbolOn 8 = .ok (.aload_n 0, 1) := by decide +kernel
theorem d_Fr_symbolOn_9 : decode b_Fr_symbolOn 9 = .ok (.getfield 34, 3) := by decide +kernel
theorem d_Fr_symbolOn_12 : decode b_Fr_symbolOn 12 = .ok (.isub, 1) := by decide +kernel
theorem d_Fr_symbolOn_13 : decode b_Fr_symbolOn 13 = .ok (.invokevirtual 62, 3) := by decide +kernel
theorem d_Fr_symbolOn_16 : decode b_Fr_symbolOn 16 = .ok (.ireturn, 1) := by decide +kernel
theorem d_Nu_init_0 : decode b_Nu_init 0 = .ok (.aload_n 0, 1) := by decide +kernel
theorem d_Nu_init_1 : decode b_Nu_init 1 = .ok (.invokespecial 3, 3) := by decide +kernel
theorem d_Nu_init_4 : decode b_Nu_init 4 = .ok (.aload_n 0, 1) := by decide +kernel
theorem d_Nu_init_5 : decode b_Nu_init 5 = .ok (.iload_n 1, 1) := by decide +kernel
theorem d_Nu_init_6 : decode b_Nu_init 6 = .ok (.newarray .int, 2) := by decide +kernel
theorem d_Nu_init_8 : decode b_Nu_init 8 = .ok (.putfield 9, 3) := by decide +kernel
theorem d_Nu_init_11 : decode b_Nu_init 11 = .ok (.return_, 1) := by decide +kernel
theorem d_Nu_has_0 : decode b_Nu_has 0 = .ok (.iload_n 1, 1) := by decide +kernel
theorem d_Nu_has_1 : decode b_Nu_has 1 = .ok (.ifCond .lt (15), 3) := by decide +kernel
theorem d_Nu_has_4 : decode b_Nu_has 4 = .ok (.iload_n 1, 1) := by decide +kernel
theorem d_Nu_has_5 : decode b_Nu_has 5 = .ok (.aload_n 0, 1) := by decide +kernel
theorem d_Nu_has_6 : decode b_Nu_has 6 = .ok (.getfield 15, 3) := by decide +kernel
theorem d_Nu_has_9 : decode b_Nu_has 9 = .ok (.if_icmp .ge (7), 3) := by decide +kernel
theorem d_Nu_has_12 : decode b_Nu_has 12 = .ok (.iconst (1), 1) := by decide +kernel
theorem d_Nu_has_13 : decode b_Nu_has 13 = .ok (.goto (4), 3) := by decide +kernel
theorem d_Nu_has_16 : decode b_Nu_has 16 = .ok (.iconst (0), 1) := by decide +kernel
theorem d_Nu_has_17 : decode b_Nu_has 17 = .ok (.ireturn, 1) := by decide +kernel
theorem d_Nu_get_0 : decode b_Nu_get 0 = .ok (.aload_n 0, 1) := by decide +kernel
theorem d_Nu_get_1 : decode b_Nu_get 1 = .ok (.iload_n 1, 1) := by decide +kernel
theorem d_Nu_get_2 : decode b_Nu_get 2 = .ok (.invokevirtual 19, 3) := by decide +kernel
theorem d_Nu_get_5 : decode b_Nu_get 5 = .ok (.ifCond .eq (12), 3) := by decide +kernel
theorem d_Nu_get_8 : decode b_Nu_get 8 = .ok (.aload_n 0, 1) := by decide +kernel
theorem d_Nu_get_9 : decode b_Nu_get 9 = .ok (.getfield 9, 3) := by decide +kernel
theorem d_Nu_get_12 : decode b_Nu_get 12 = .ok (.iload_n 1, 1) := by decide +kernel
theorem d_Nu_get_13 : decode b_Nu_get 13 = .ok (.iaload, 1) := by decide +kernel
theorem d_Nu_get_14 : decode b_Nu_get 14 = .ok (.goto (4), 3) := by decide +kernel
theorem d_Nu_get_17 : decode b_Nu_get 17 = .ok (.iconst (-1), 1) := by decide +kernel
theorem d_Nu_get_18 : decode b_Nu_get 18 = .ok (.ireturn, 1) := by decide +kernel
theorem d_Nu_room_0 : decode b_Nu_room 0 = .ok (.aload_n 0, 1) := by decide +kernel
theorem d_Nu_room_1 : decode b_Nu_room 1 = .ok (.getfield 9, 3) := by decide +kernel
theorem d_Nu_room_4 : decode b_Nu_room 4 = .ok (.arraylength, 1) := by decide +kernel
theorem d_Nu_room_5 : decode b_Nu_room 5 = .ok (.aload_n 0, 1) := by decide +kernel
theorem d_Nu_room_6 : decode b_Nu_room 6 = .ok (.getfield 15, 3) := by decide +kernel
theorem d_Nu_room_9 : decode b_Nu_room 9 = .ok (.isub, 1) := by decide +kernel
theorem d_Nu_room_10 : decode b_Nu_room 10 = .ok (.ireturn, 1) := by decide +kernel
theorem d_Nu_add_0 : decode b_Nu_add 0 = .ok (.aload_n 0, 1) := by decide +kernel
theorem d_Nu_add_1 : decode b_Nu_add 1 = .ok (.getfield 15, 3) := by decide +kernel
theorem d_Nu_add_4 : decode b_Nu_add 4 = .ok (.aload_n 0, 1) := by decide +kernel
theorem d_Nu_add_5 : decode b_Nu_add 5 = .ok (.getfield 9, 3) := by decide +kernel
theorem d_Nu_add_8 : decode b_Nu_add 8 = .ok (.arraylength, 1) := by decide +kernel
theorem d_Nu_add_9 : decode b_Nu_add 9 = .ok (.if_icmp .ge (23), 3) := by decide +kernel
theorem d_Nu_add_12 : decode b_Nu_add 12 = .ok (.aload_n 0, 1) := by decide +kernel
theorem d_Nu_add_13 : decode b_Nu_add 13 = .ok (.getfield 9, 3) := by decide +kernel
theorem d_Nu_add_16 : decode b_Nu_add 16 = .ok (.aload_n 0, 1) := by decide +kernel
theorem d_Nu_add_17 : decode b_Nu_add 17 = .ok (.getfield 15, 3) := by decide +kernel
theorem d_Nu_add_20 : decode b_Nu_add 20 = .ok (.iload_n 1, 1) := by decide +kernel
theorem d_Nu_add_21 : decode b_Nu_add 21 = .ok (.iastore, 1) := by decide +kernel
theorem d_Nu_add_22 : decode b_Nu_add 22 = .ok (.aload_n 0, 1) := by decide +kernel
theorem d_Nu_add_23 : decode b_Nu_add 23 = .ok (.dup, 1) := by decide +kernel
theorem d_Nu_add_24 : decode b_Nu_add 24 = .ok (.getfield 15, 3) := by decide +kernel
theorem d_Nu_add_27 : decode b_Nu_add 27 = .ok (.iconst (1), 1) := by decide +kernel
theorem d_Nu_add_28 : decode b_Nu_add 28 = .ok (.iadd, 1) := by decide +kernel
theorem d_Nu_add_29 : decode b_Nu_add 29 = .ok (.putfield 15, 3) := by decide +kernel
theorem d_Nu_add_32 : decode b_Nu_add 32 = .ok (.return_, 1) := by decide +kernel
theorem d_Nu_dropFirst_0 : decode b_Nu_dropFirst 0 = .ok (.iload_n 1, 1) := by decide +kernel
theorem d_Nu_dropFirst_1 : decode b_Nu_dropFirst 1 = .ok (.ifCond .lt (40), 3) := by decide +kernel
theorem d_Nu_dropFirst_4 : decode b_Nu_dropFirst 4 = .ok (.iload_n 1, 1) := by decide +kernel
theorem d_Nu_dropFirst_5 : decode b_Nu_dropFirst 5 = .ok (.aload_n 0, 1) := by decide +kernel
theorem d_Nu_dropFirst_6 : decode b_Nu_dropFirst 6 = .ok (.getfield 15, 3) := by decide +kernel
theorem d_Nu_dropFirst_9 : decode b_Nu_dropFirst 9 = .ok (.if_icmp .gt (32), 3) := by decide +kernel
theorem d_Nu_dropFirst_12 : decode b_Nu_dropFirst 12 = .ok (.aload_n 0, 1) := by decide +kernel
theorem d_Nu_dropFirst_13 : decode b_Nu_dropFirst 13 = .ok (.getfield 9, 3) := by decide +kernel
theorem d_Nu_dropFirst_16 : decode b_Nu_dropFirst 16 = .ok (.iload_n 1, 1) := by decide +kernel
theorem d_Nu_dropFirst_17 : decode b_Nu_dropFirst 17 = .ok (.aload_n 0, 1) := by decide +kernel
theorem d_Nu_dropFirst_18 : decode b_Nu_dropFirst 18 = .ok (.getfield 9, 3) := by decide +kernel
theorem d_Nu_dropFirst_21 : decode b_Nu_dropFirst 21 = .ok (.iconst (0), 1) := by decide +kernel
theorem d_Nu_dropFirst_22 : decode b_Nu_dropFirst 22 = .ok (.aload_n 0, 1) := by decide +kernel
theorem d_Nu_dropFirst_23 : decode b_Nu_dropFirst 23 = .ok (.getfield 15, 3) := by decide +kernel
theorem d_Nu_dropFirst_26 : decode b_Nu_dropFirst 26 = .ok (.iload_n 1, 1) := by decide +kernel
theorem d_Nu_dropFirst_27 : decode b_Nu_dropFirst 27 = .ok (.isub, 1) := by decide +kernel
theorem d_Nu_dropFirst_28 : decode b_Nu_dropFirst 28 = .ok (.invokestatic 23, 3) := by decide +kernel
theorem d_Nu_dropFirst_31 : decode b_Nu_dropFirst 31 = .ok (.aload_n 0, 1) := by decide +kernel
theorem d_Nu_dropFirst_32 : decode b_Nu_dropFirst 32 = .ok (.dup, 1) := by decide +kernel
theorem d_Nu_dropFirst_33 : decode b_Nu_dropFirst 33 = .ok (.getfield 15, 3) := by decide +kernel
theorem d_Nu_dropFirst_36 : decode b_Nu_dropFirst 36 = .ok (.iload_n 1, 1) := by decide +kernel
theorem d_Nu_dropFirst_37 : decode b_Nu_dropFirst 37 = .ok (.isub, 1) := by decide +kernel
theorem d_Nu_dropFirst_38 : decode b_Nu_dropFirst 38 = .ok (.putfield 15, 3) := by decide +kernel
theorem d_Nu_dropFirst_41 : decode b_Nu_dropFirst 41 = .ok (.return_, 1) := by decide +kernel
theorem d_Nu_empty_0 : decode b_Nu_empty 0 = .ok (.aload_n 0, 1) := by decide +kernel
theorem d_Nu_empty_1 : decode b_Nu_empty 1 = .ok (.iconst (0), 1) := by decide +kernel
theorem d_Nu_empty_2 : decode b_Nu_empty 2 = .ok (.putfield 15, 3) := by decide +kernel
theorem d_Nu_empty_5 : decode b_Nu_empty 5 = .ok (.return_, 1) := by decide +kernel
theorem d_Pa_init_0 : decode b_Pa_init 0 = .ok (.aload_n 0, 1) := by decide +kernel
theorem d_Pa_init_1 : decode b_Pa_init 1 = .ok (.invokespecial 3, 3) := by decide +kernel
theorem d_Pa_init_4 : decode b_Pa_init 4 = .ok (.aload_n 0, 1) := by decide +kernel
theorem d_Pa_init_5 : decode b_Pa_init 5 = .ok (.iload_n 1, 1) := by decide +kernel
theorem d_Pa_init_6 : decode b_Pa_init 6 = .ok (.newarray .int, 2) := by decide +kernel
theorem d_Pa_init_8 : decode b_Pa_init 8 = .ok (.putfield 9, 3) := by decide +kernel
theorem d_Pa_init_11 : decode b_Pa_init 11 = .ok (.aload_n 0, 1) := by decide +kernel
theorem d_Pa_init_12 : decode b_Pa_init 12 = .ok (.getfield 9, 3) := by decide +kernel
theorem d_Pa_init_15 : decode b_Pa_init 15 = .ok (.iconst (-1), 1) := by decide +kernel
theorem d_Pa_init_16 : decode b_Pa_init 16 = .ok (.invokestatic 15, 3) := by decide +kernel
theorem d_Pa_init_19 : decode b_Pa_init 19 = .ok (.return_, 1) := by decide +kernel
theorem d_Pa_get_0 : decode b_Pa_get 0 = .ok (.iload_n 1, 1) := by decide +kernel
theorem d_Pa_get_1 : decode b_Pa_get 1 = .ok (.ifCond .lt (21), 3) := by decide +kernel
theorem d_Pa_get_4 : decode b_Pa_get 4 = .ok (.iload_n 1, 1) := by decide +kernel
theorem d_Pa_get_5 : decode b_Pa_get 5 = .ok (.aload_n 0, 1) := by decide +kernel
theorem d_Pa_get_6 : decode b_Pa_get 6 = .ok (.getfield 9, 3) := by decide +kernel
theorem d_Pa_get_9 : decode b_Pa_get 9 = .ok (.arraylength, 1) := by decide +kernel
theorem d_Pa_get_10 : decode b_Pa_get 10 = .ok (.if_icmp .ge (12), 3) := by decide +kernel
theorem d_Pa_get_13 : decode b_Pa_get 13 = .ok (.aload_n 0, 1) := by decide +kernel
theorem d_Pa_get_14 : decode b_Pa_get 14 = .ok (.getfield 9, 3) := by decide +kernel
theorem d_Pa_get_17 : decode b_Pa_get 17 = .ok (.iload_n 1, 1) := by decide +kernel
theorem d_Pa_get_18 : decode b_Pa_get 18 = .ok (.iaload, 1) := by decide +kernel
theorem d_Pa_get_19 : decode b_Pa_get 19 = .ok (.goto (4), 3) := by decide +kernel
theorem d_Pa_get_22 : decode b_Pa_get 22 = .ok (.iconst (-1), 1) := by decide +kernel
theorem d_Pa_get_23 : decode b_Pa_get 23 = .ok (.ireturn, 1) := by decide +kernel
theorem d_Pa_change_0 : decode b_Pa_change 0 = .ok (.aload_n 0, 1) := by decide +kernel
theorem d_Pa_change_1 : decode b_Pa_change 1 = .ok (.iload_n 1, 1) := by decide +kernel
theorem d_Pa_change_2 : decode b_Pa_change 2 = .ok (.invokevirtual 21, 3) := by decide +kernel
theorem d_Pa_change_5 : decode b_Pa_change 5 = .ok (.istore_n 3, 1) := by decide +kernel
theorem d_Pa_change_6 : decode b_Pa_change 6 = .ok (.iload_n 1, 1) := by decide +kernel
theorem d_Pa_change_7 : decode b_Pa_change 7 = .ok (.ifCond .lt (19), 3) := by decide +kernel
theorem d_Pa_change_10 : decode b_Pa_change 10 = .ok (.iload_n 1, 1) := by decide +kernel
theorem d_Pa_change_11 : decode b_Pa_change 11 = .ok (.aload_n 0, 1) := by decide +kernel
theorem d_Pa_change_12 : decode b_Pa_change 12 = .ok (.getfield 9, 3) := by decide +kernel
theorem d_Pa_change_15 : decode b_Pa_change 15 = .ok (.arraylength, 1) := by decide +kernel
theorem d_Pa_change_16 : decode b_Pa_change 16 = .ok (.if_icmp .ge (10), 3) := by decide +kernel
theorem d_Pa_change_19 : decode b_Pa_change 19 = .ok (.aload_n 0, 1) := by decide +kernel
theorem d_Pa_change_20 : decode b_Pa_change 20 = .ok (.getfield 9, 3) := by decide +kernel
theorem d_Pa_change_23 : decode b_Pa_change 23 = .ok (.iload_n 1, 1) := by decide +kernel
theorem d_Pa_change_24 : decode b_Pa_change 24 = .ok (.iload_n 2, 1) := by decide +kernel
theorem d_Pa_change_25 : decode b_Pa_change 25 = .ok (.iastore, 1) := by decide +kernel
theorem d_Pa_change_26 : decode b_Pa_change 26 = .ok (.iload_n 3, 1) := by decide +kernel
theorem d_Pa_change_27 : decode b_Pa_change 27 = .ok (.ireturn, 1) := by decide +kernel
theorem d_Pa_forget_0 : decode b_Pa_forget 0 = .ok (.aload_n 0, 1) := by decide +kernel
theorem d_Pa_forget_1 : decode b_Pa_forget 1 = .ok (.getfield 9, 3) := by decide +kernel
theorem d_Pa_forget_4 : decode b_Pa_forget 4 = .ok (.iconst (-1), 1) := by decide +kernel
theorem d_Pa_forget_5 : decode b_Pa_forget 5 = .ok (.invokestatic 15, 3) := by decide +kernel
theorem d_Pa_forget_8 : decode b_Pa_forget 8 = .ok (.return_, 1) := by decide +kernel
theorem d_Re_init_0 : decode b_Re_init 0 = .ok (.aload_n 0, 1) := by decide +kernel
theorem d_Re_init_1 : decode b_Re_init 1 = .ok (.invokespecial 3, 3) := by decide +kernel
theorem d_Re_init_4 : decode b_Re_init 4 = .ok (.aload_n 0, 1) := by decide +kernel
theorem d_Re_init_5 : decode b_Re_init 5 = .ok (.new 9, 3) := by decide +kernel
theorem d_Re_init_8 : decode b_Re_init 8 = .ok (.dup, 1) := by decide +kernel
theorem d_Re_init_9 : decode b_Re_init 9 = .ok (.sipush (12000), 3) := by decide +kernel
theorem d_Re_init_12 : decode b_Re_init 12 = .ok (.invokespecial 11, 3) := by decide +kernel
theorem d_Re_init_15 : decode b_Re_init 15 = .ok (.putfield 14, 3) := by decide +kernel
theorem d_Re_init_18 : decode b_Re_init 18 = .ok (.aload_n 0, 1) := by decide +kernel
theorem d_Re_init_19 : decode b_Re_init 19 = .ok (.sipush (4096), 3) := by decide +kernel
theorem d_Re_init_22 : decode b_Re_init 22 = .ok (.newarray .int, 2) := by decide +kernel
theorem d_Re_init_24 : decode b_Re_init 24 = .ok (.putfield 20, 3) := by decide +kernel
theorem d_Re_init_27 : decode b_Re_init 27 = .ok (.aload_n 0, 1) := by decide +kernel
theorem d_Re_init_28 : decode b_Re_init 28 = .ok (.sipush (4096), 3) := by decide +kernel
theorem d_Re_init_31 : decode b_Re_init 31 = .ok (.newarray .int, 2) := by decide +kernel
theorem d_Re_init_33 : decode b_Re_init 33 = .ok (.putfield 24, 3) := by decide +kernel
theorem d_Re_init_36 : decode b_Re_init 36 = .ok (.aload_n 0, 1) := by decide +kernel
theorem d_Re_init_37 : decode b_Re_init 37 = .ok (.iconst (1), 1) := by decide +kernel
theorem d_Re_init_38 : decode b_Re_init 38 = .ok (.iload_n 1, 1) := by decide +kernel
theorem d_Re_init_39 : decode b_Re_init 39 = .ok (.ishl, 1) := by decide +kernel
theorem d_Re_init_40 : decode b_Re_init 40 = .ok (.putfield 27, 3) := by decide +kernel
theorem d_Re_init_43 : decode b_Re_init 43 = .ok (.aload_n 0, 1) := by decide +kernel
theorem d_Re_init_44 : decode b_Re_init 44 = .ok (.aload_n 0, 1) := by decide +kernel
theorem d_Re_init_45 : decode b_Re_init 45 = .ok (.getfield 27, 3) := by decide +kernel
theorem d_Re_init_48 : decode b_Re_init 48 = .ok (.iconst (1), 1) := by decide +kernel
theorem d_Re_init_49 : decode b_Re_init 49 = .ok (.iadd, 1) := by decide +kernel
theorem d_Re_init_50 : decode b_Re_init 50 = .ok (.putfield 31, 3) := by decide +kernel
theorem d_Re_init_53 : decode b_Re_init 53 = .ok (.aload_n 0, 1) := by decide +kernel
theorem d_Re_init_54 : decode b_Re_init 54 = .ok (.new 34, 3) := by decide +kernel
theorem d_Re_init_57 : decode b_Re_init 57 = .ok (.dup, 1) := by decide +kernel
theorem d_Re_init_58 : decode b_Re_init 58 = .ok (.iload_n 1, 1) := by decide +kernel
theorem d_Re_init_59 : decode b_Re_init 59 = .ok (.invokespecial 36, 3) := by decide +kernel
theorem d_Re_init_62 : decode b_Re_init 62 = .ok (.putfield 37, 3) := by decide +kernel
theorem d_Re_init_65 : decode b_Re_init 65 = .ok (.aload_n 0, 1) := by decide +kernel
theorem d_Re_init_66 : decode b_Re_init 66 = .ok (.aload_n 0, 1) := by decide +kernel
theorem d_Re_init_67 : decode b_Re_init 67 = .ok (.getfield 31, 3) := by decide +kernel
theorem d_Re_init_70 : decode b_Re_init 70 = .ok (.putfield 41, 3) := by decide +kernel
theorem d_Re_init_73 : decode b_Re_init 73 = .ok (.return_, 1) := by decide +kernel
theorem d_Re_readAll_0 : decode b_Re_readAll 0 = .ok (.aload_n 0, 1) := by decide +kernel
theorem d_Re_readAll_1 : decode b_Re_readAll 1 = .ok (.getfield 14, 3) := by decide +kernel
theorem d_Re_readAll_4 : decode b_Re_readAll 4 = .ok (.invokevirtual 44, 3) := by decide +kernel
theorem d_Re_readAll_7 : decode b_Re_readAll 7 = .ok (.aload_n 0, 1) := by decide +kernel
theorem d_Re_readAll_8 : decode b_Re_readAll 8 = .ok (.invokevirtual 47, 3) := by decide +kernel
theorem d_Re_readAll_11 : decode b_Re_readAll 11 = .ok (.aload_n 1, 1) := by decide +kernel
theorem d_Re_readAll_12 : decode b_Re_readAll 12 = .ok (.getfield 50, 3) := by decide +kernel
theorem d_Re_readAll_15 : decode b_Re_readAll 15 = .ok (.bipush (8), 2) := by decide +kernel
theorem d_Re_readAll_17 : decode b_Re_readAll 17 = .ok (.imul, 1) := by decide +kernel
theorem d_Re_readAll_18 : decode b_Re_readAll 18 = .ok (.istore_n 2, 1) := by decide +kernel
theorem d_Re_readAll_19 : decode b_Re_readAll 19 = .ok (.iconst (0), 1) := by decide +kernel
theorem d_Re_readAll_20 : decode b_Re_readAll 20 = .ok (.istore_n 3, 1) := by decide +kernel
theorem d_Re_readAll_21 : decode b_Re_readAll 21 = .ok (.iconst (0), 1) := by decide +kernel
theorem d_Re_readAll_22 : decode b_Re_readAll 22 = .ok (.istore 4, 2) := by decide +kernel
theorem d_Re_readAll_24 : decode b_Re_readAll 24 = .ok (.iload 4, 2) := by decide +kernel
theorem d_Re_readAll_26 : decode b_Re_readAll 26 = .ok (.ldc 53, 2) := by decide +kernel
theorem d_Re_readAll_28 : decode b_Re_readAll 28 = .ok (.if_icmp .ge (92), 3) := by decide +kernel
theorem d_Re_readAll_31 : decode b_Re_readAll 31 = .ok (.iload_n 3, 1) := by decide +kernel
theorem d_Re_readAll_32 : decode b_Re_readAll 32 = .ok (.aload_n 0, 1) := by decide +kernel
theorem d_Re_readAll_33 : decode b_Re_readAll 33 = .ok (.getfield 37, 3) := by decide +kernel
theorem d_Re_readAll_36 : decode b_Re_readAll 36 = .ok (.getfield 54, 3) := by decide +kernel
theorem d_Re_readAll_39 : decode b_Re_readAll 39 = .ok (.iadd, 1) := by decide +kernel
theorem d_Re_readAll_40 : decode b_Re_readAll 40 = .ok (.iload_n 2, 1) := by decide +kernel
theorem d_Re_readAll_41 : decode b_Re_readAll 41 = .ok (.if_icmp .le (5), 3) := by decide +kernel
theorem d_Re_readAll_44 : decode b_Re_readAll 44 = .ok (.iconst (-1), 1) := by decide +kernel
theorem d_Re_readAll_45 : decode b_Re_readAll 45 = .ok (.ireturn, 1) := by decide +kernel
theorem d_Re_readAll_46 : decode b_Re_readAll 46 = .ok (.aload_n 0, 1) := by decide +kernel
theorem d_Re_readAll_47 : decode b_Re_readAll 47 = .ok (.aload_n 1, 1) := by decide +kernel
theorem d_Re_readAll_48 : decode b_Re_readAll 48 = .ok (.iload_n 3, 1) := by decide +kernel
theorem d_Re_readAll_49 : decode b_Re_readAll 49 = .ok (.invokevirtual 57, 3) := by decide +kernel
theorem d_Re_readAll_52 : decode b_Re_readAll 52 = .ok (.istore 5, 2) := by decide +kernel
theorem d_Re_readAll_54 : decode b_Re_readAll 54 = .ok (.iload_n 3, 1) := by decide +kernel
theorem d_Re_readAll_55 : decode b_Re_readAll 55 = .ok (.aload_n 0, 1) := by decide +kernel
theorem d_Re_readAll_56 : decode b_Re_readAll 56 = .ok (.getfield 37, 3) := by decide +kernel
theorem d_Re_readAll_59 : decode b_Re_readAll 59 = .ok (.getfield 54, 3) := by decide +kernel
theorem d_Re_readAll_62 : decode b_Re_readAll 62 = .ok (.iadd, 1) := by decide +kernel
theorem d_Re_readAll_63 : decode b_Re_readAll 63 = .ok (.istore_n 3, 1) := by decide +kernel
theorem d_Re_readAll_64 : decode b_Re_readAll 64 = .ok (.iload 5, 2) := by decide +kernel
theorem d_Re_readAll_66 : decode b_Re_readAll 66 = .ok (.aload_n 0, 1) := by decide +kernel
theorem d_Re_readAll_67 : decode b_Re_readAll 67 = .ok (.getfield 31, 3) := by decide +kernel
theorem d_Re_readAll_70 : decode b_Re_readAll 70 = .ok (.if_icmp .ne (5), 3) := by decide +kernel
theorem d_Re_readAll_73 : decode b_Re_readAll 73 = .ok (.iconst (-1), 1) := by decide +kernel
theorem d_Re_readAll_74 : decode b_Re_readAll 74 = .ok (.ireturn, 1) := by decide +kernel
theorem d_Re_readAll_75 : decode b_Re_readAll 75 = .ok (.iload 5, 2) := by decide +kernel
theorem d_Re_readAll_77 : decode b_Re_readAll 77 = .ok (.aload_n 0, 1) := by decide +kernel
theorem d_Re_readAll_78 : decode b_Re_readAll 78 = .ok (.getfield 27, 3) := by decide +kernel
theorem d_Re_readAll_81 : decode b_Re_readAll 81 = .ok (.if_icmp .ne (10), 3) := by decide +kernel
theorem d_Re_readAll_84 : decode b_Re_readAll 84 = .ok (.aload_n 0, 1) := by decide +kernel
theorem d_Re_readAll_85 : decode b_Re_readAll 85 = .ok (.invokevirtual 47, 3) := by decide +kernel
theorem d_Re_readAll_88 : decode b_Re_readAll 88 = .ok (.goto (26), 3) := by decide +kernel
theorem d_Re_readAll_91 : decode b_Re_readAll 91 = .ok (.iload 5, 2) := by decide +kernel
theorem d_Re_readAll_93 : decode b_Re_readAll 93 = .ok (.aload_n 0, 1) := by decide +kernel
theorem d_Re_readAll_94 : decode b_Re_readAll 94 = .ok (.getfield 41, 3) := by decide +kernel
theorem d_Re_readAll_97 : decode b_Re_readAll 97 = .ok (.if_icmp .le (6), 3) := by decide +kernel
theorem d_Re_readAll_100 : decode b_Re_readAll 100 = .ok (.iload 5, 2) := by decide +kernel
theorem d_Re_readAll_102 : decode b_Re_readAll 102 = .ok (.ireturn, 1) := by decide +kernel
theorem d_Re_readAll_103 : decode b_Re_readAll 103 = .ok (.aload_n 0, 1) := by decide +kernel
theorem d_Re_readAll_104 : decode b_Re_readAll 104 = .ok (.iload 5, 2) := by decide +kernel
theorem d_Re_readAll_106 : decode b_Re_readAll 106 = .ok (.invokevirtual 61, 3) := by decide +kernel
theorem d_Re_readAll_109 : decode b_Re_readAll 109 = .ok (.ifCond .ne (5), 3) := by decide +kernel
theorem d_Re_readAll_112 : decode b_Re_readAll 112 = .ok (.iconst (-1), 1) := by decide +kernel
theorem d_Re_readAll_113 : decode b_Re_readAll 113 = .ok (.ireturn, 1) := by decide +kernel
theorem d_Re_readAll_114 : decode b_Re_readAll 114 = .ok (.iinc 4 (1), 3) := by decide +kernel
theorem d_Re_readAll_117 : decode b_Re_readAll 117 = .ok (.goto (-93), 3) := by decide +kernel
theorem d_Re_readAll_120 : decode b_Re_readAll 120 = .ok (.iconst (-1), 1) := by decide +kernel
theorem d_Re_readAll_121 : decode b_Re_readAll 121 = .ok (.ireturn, 1) := by decide +kernel
theorem d_Re_restart_0 : decode b_Re_restart 0 = .ok (.aload_n 0, 1) := by decide +kernel
theorem d_Re_restart_1 : decode b_Re_restart 1 = .ok (.aload_n 0, 1) := by decide +kernel
theorem d_Re_restart_2 : decode b_Re_restart 2 = .ok (.getfield 31, 3) := by decide +kernel
theorem d_Re_restart_5 : decode b_Re_restart 5 = .ok (.putfield 41, 3) := by decide +kernel
theorem d_Re_restart_8 : decode b_Re_restart 8 = .ok (.aload_n 0, 1) := by decide +kernel
theorem d_Re_restart_9 : decode b_Re_restart 9 = .ok (.getfield 37, 3) := by decide +kernel
theorem d_Re_restart_12 : decode b_Re_restart 12 = .ok (.invokevirtual 65, 3) := by decide +kernel
theorem d_Re_restart_15 : decode b_Re_restart 15 = .ok (.return_, 1) := by decide +kernel
theorem d_Re_codeFrom_0 : decode b_Re_codeFrom 0 = .ok (.iload_n 2, 1) := by decide +kernel
theorem d_Re_codeFrom_1 : decode b_Re_codeFrom 1 = .ok (.iconst (3), 1) := by decide +kernel
theorem d_Re_codeFrom_2 : decode b_Re_codeFrom 2 = .ok (.ishr, 1) := by decide +kernel
theorem d_Re_codeFrom_3 : decode b_Re_codeFrom 3 = .ok (.istore_n 3, 1) := by decide +kernel
theorem d_Re_codeFrom_4 : decode b_Re_codeFrom 4 = .ok (.aload_n 1, 1) := by decide +kernel
theorem d_Re_codeFrom_5 : decode b_Re_codeFrom 5 = .ok (.iload_n 3, 1) := by decide +kernel
theorem d_Re_codeFrom_6 : decode b_Re_codeFrom 6 = .ok (.invokevirtual 66, 3) := by decide +kernel
theorem d_Re_codeFrom_9 : decode b_Re_codeFrom 9 = .ok (.istore 4, 2) := by decide +kernel
theorem d_Re_codeFrom_11 : decode b_Re_codeFrom 11 = .ok (.aload_n 1, 1) := by decide +kernel
theorem d_Re_codeFrom_12 : decode b_Re_codeFrom 12 = .ok (.iload_n 3, 1) := by decide +kernel
theorem d_Re_codeFrom_13 : decode b_Re_codeFrom 13 = .ok (.iconst (1), 1) := by decide +kernel
theorem d_Re_codeFrom_14 : decode b_Re_codeFrom 14 = .ok (.iadd, 1) := by decide +kernel
theorem d_Re_codeFrom_15 : decode b_Re_codeFrom 15 = .ok (.invokevirtual 70, 3) := by decide +kernel
theorem d_Re_codeFrom_18 : decode b_Re_codeFrom 18 = .ok (.ifCond .eq (18), 3) := by decide +kernel
theorem d_Re_codeFrom_21 : decode b_Re_codeFrom 21 = .ok (.iload 4, 2) := by decide +kernel
theorem d_Re_codeFrom_23 : decode b_Re_codeFrom 23 = .ok (.aload_n 1, 1) := by decide +kernel
theorem d_Re_codeFrom_24 : decode b_Re_codeFrom 24 = .ok (.iload_n 3, 1) := by decide +kernel
theorem d_Re_codeFrom_25 : decode b_Re_codeFrom 25 = .ok (.iconst (1), 1) := by decide +kernel
theorem d_Re_codeFrom_26 : decode b_Re_codeFrom 26 = .ok (.iadd, 1) := by decide +kernel
theorem d_Re_codeFrom_27 : decode b_Re_codeFrom 27 = .ok (.invokevirtual 66, 3) := by decide +kernel
theorem d_Re_codeFrom_30 : decode b_Re_codeFrom 30 = .ok (.bipush (8), 2) := by decide +kernel
theorem d_Re_codeFrom_32 : decode b_Re_codeFrom 32 = .ok (.ishl, 1) := by decide +kernel
theorem d_Re_codeFrom_33 : decode b_Re_codeFrom 33 = .ok (.ior, 1) := by decide +kernel
theorem d_Re_codeFrom_34 : decode b_Re_codeFrom 34 = .ok (.istore 4, 2) := by decide +kernel
theorem d_Re_codeFrom_36 : decode b_Re_codeFrom 36 = .ok (.aload_n 1, 1) := by decide +kernel
theorem d_Re_codeFrom_37 : decode b_Re_codeFrom 37 = .ok (.iload_n 3, 1) := by decide +kernel
theorem d_Re_codeFrom_38 : decode b_Re_codeFrom 38 = .ok (.iconst (2), 1) := by decide +kernel
theorem d_Re_codeFrom_39 : decode b_Re_codeFrom 39 = .ok (.iadd, 1) := by decide +kernel
theorem d_Re_codeFrom_40 : decode b_Re_codeFrom 40 = .ok (.invokevirtual 70, 3) := by decide +kernel
theorem d_Re_codeFrom_43 : decode b_Re_codeFrom 43 = .ok (.ifCond .eq (18), 3) := by decide +kernel
theorem d_Re_codeFrom_46 : decode b_Re_codeFrom 46 = .ok (.iload 4, 2) := by decide +kernel
theorem d_Re_codeFrom_48 : decode b_Re_codeFrom 48 = .ok (.aload_n 1, 1) := by decide +kernel
theorem d_Re_codeFrom_49 : decode b_Re_codeFrom 49 = .ok (.iload_n 3, 1) := by decide +kernel
theorem d_Re_codeFrom_50 : decode b_Re_codeFrom 50 = .ok (.iconst (2), 1) := by decide +kernel
theorem d_Re_codeFrom_51 : decode b_Re_codeFrom 51 = .ok (.iadd, 1) := by decide +kernel
theorem d_Re_codeFrom_52 : decode b_Re_codeFrom 52 = .ok (.invokevirtual 66, 3) := by decide +kernel
theorem d_Re_codeFrom_55 : decode b_Re_codeFrom 55 = .ok (.bipush (16), 2) := by decide +kernel
theorem d_Re_codeFrom_57 : decode b_Re_codeFrom 57 = .ok (.ishl, 1) := by decide +kernel
theorem d_Re_codeFrom_58 : decode b_Re_codeFrom 58 = .ok (.ior, 1) := by decide +kernel
theorem d_Re_codeFrom_59 : decode b_Re_codeFrom 59 = .ok (.istore 4, 2) := by decide +kernel
theorem d_Re_codeFrom_61 : decode b_Re_codeFrom 61 = .ok (.iload 4, 2) := by decide +kernel
theorem d_Re_codeFrom_63 : decode b_Re_codeFrom 63 = .ok (.iload_n 2, 1) := by decide +kernel
theorem d_Re_codeFrom_64 : decode b_Re_codeFrom 64 = .ok (.bipush (7), 2) := by decide +kernel
theorem d_Re_codeFrom_66 : decode b_Re_codeFrom 66 = .ok (.iand, 1) := by decide +kernel
theorem d_Re_codeFrom_67 : decode b_Re_codeFrom 67 = .ok (.ishr, 1) := by decide +kernel
theorem d_Re_codeFrom_68 : decode b_Re_codeFrom 68 = .ok (.iconst (1), 1) := by decide +kernel
theorem d_Re_codeFrom_69 : decode b_Re_codeFrom 69 = .ok (.aload_n 0, 1) := by decide +kernel
theorem d_Re_codeFrom_70 : decode b_Re_codeFrom 70 = .ok (.getfield 37, 3) := by decide +kernel
theorem d_Re_codeFrom_73 : decode b_Re_codeFrom 73 = .ok (.getfield 54, 3) := by decide +kernel
theorem d_Re_codeFrom_76 : decode b_Re_codeFrom 76 = .ok (.ishl, 1) := by decide +kernel
theorem d_Re_codeFrom_77 : decode b_Re_codeFrom 77 = .ok (.iconst (1), 1) := by decide +kernel
theorem d_Re_codeFrom_78 : decode b_Re_codeFrom 78 = .ok (.isub, 1) := by decide +kernel
theorem d_Re_codeFrom_79 : decode b_Re_codeFrom 79 = .ok (.iand, 1) := by decide +kernel
theorem d_Re_codeFrom_80 : decode b_Re_codeFrom 80 = .ok (.ireturn, 1) := by decide +kernel
theorem d_Re_copyString_0 : decode b_Re_copyString 0 = .ok (.iload_n 1, 1) := by decide +kernel
theorem d_Re_copyString_1 : decode b_Re_copyString 1 = .ok (.aload_n 0, 1) := by decide +kernel
theorem d_Re_copyString_2 : decode b_Re_copyString 2 = .ok (.getfield 27, 3) := by decide +kernel
theorem d_Re_copyString_5 : decode b_Re_copyString 5 = .ok (.if_icmp .ge (7), 3) := by decide +kernel
theorem d_Re_copyString_8 : decode b_Re_copyString 8 = .ok (.iconst (1), 1) := by decide +kernel
theorem d_Re_copyString_9 : decode b_Re_copyString 9 = .ok (.goto (4), 3) := by decide +kernel
theorem d_Re_copyString_12 : decode b_Re_copyString 12 = .ok (.iconst (0), 1) := by decide +kernel
theorem d_Re_copyString_13 : decode b_Re_copyString 13 = .ok (.istore_n 2, 1) := by decide +kernel
theorem d_Re_copyString_14 : decode b_Re_copyString 14 = .ok (.iload_n 2, 1) := by decide +kernel
theorem d_Re_copyString_15 : decode b_Re_copyString 15 = .ok (.ifCond .eq (7), 3) := by decide +kernel
theorem d_Re_copyString_18 : decode b_Re_copyString 18 = .ok (.iconst (1), 1) := by decide +kernel
theorem d_Re_copyString_19 : decode b_Re_copyString 19 = .ok (.goto (9), 3) := by decide +kernel
theorem d_Re_copyString_22 : decode b_Re_copyString 22 = .ok (.aload_n 0, 1) := by decide +kernel
theorem d_Re_copyString_23 : decode b_Re_copyString 23 = .ok (.getfield 24, 3) := by decide +kernel
theorem d_Re_copyString_26 : decode b_Re_copyString 26 = .ok (.iload_n 1, 1) := by decide +kernel
theorem d_Re_copyString_27 : decode b_Re_copyString 27 = .ok (.iaload, 1) := by decide +kernel
theorem d_Re_copyString_28 : decode b_Re_copyString 28 = .ok (.istore_n 3, 1) := by decide +kernel
theorem d_Re_copyString_29 : decode b_Re_copyString 29 = .ok (.iload_n 3, 1) := by decide +kernel
theorem d_Re_copyString_30 : decode b_Re_copyString 30 = .ok (.aload_n 0, 1) := by decide +kernel
theorem d_Re_copyString_31 : decode b_Re_copyString 31 = .ok (.getfield 14, 3) := by decide +kernel
theorem d_Re_copyString_34 : decode b_Re_copyString 34 = .ok (.invokevirtual 73, 3) := by decide +kernel
theorem d_Re_copyString_37 : decode b_Re_copyString 37 = .ok (.if_icmp .le (5), 3) := by decide +kernel
theorem d_Re_copyString_40 : decode b_Re_copyString 40 = .ok (.iconst (0), 1) := by decide +kernel
theorem d_Re_copyString_41 : decode b_Re_copyString 41 = .ok (.ireturn, 1) := by decide +kernel
theorem d_Re_copyString_42 : decode b_Re_copyString 42 = .ok (.aload_n 0, 1) := by decide +kernel
theorem d_Re_copyString_43 : decode b_Re_copyString 43 = .ok (.getfield 14, 3) := by decide +kernel
theorem d_Re_copyString_46 : decode b_Re_copyString 46 = .ok (.getfield 50, 3) := by decide +kernel
theorem d_Re_copyString_49 : decode b_Re_copyString 49 = .ok (.istore 4, 2) := by decide +kernel
theorem d_Re_copyString_51 : decode b_Re_copyString 51 = .ok (.iload_n 2, 1) := by decide +kernel
theorem d_Re_copyString_52 : decode b_Re_copyString 52 = .ok (.ifCond .eq (14), 3) := by decide +kernel
theorem d_Re_copyString_55 : decode b_Re_copyString 55 = .ok (.aload_n 0, 1) := by decide +kernel
theorem d_Re_copyString_56 : decode b_Re_copyString 56 = .ok (.getfield 14, 3) := by decide +kernel
theorem d_Re_copyString_59 : decode b_Re_copyString 59 = .ok (.iload_n 1, 1) := by decide +kernel
theorem d_Re_copyString_60 : decode b_Re_copyString 60 = .ok (.invokevirtual 77, 3) := by decide +kernel
theorem d_Re_copyString_63 : decode b_Re_copyString 63 = .ok (.goto (41), 3) := by decide +kernel
theorem d_Re_copyString_66 : decode b_Re_copyString 66 = .ok (.iconst (0), 1) := by decide +kernel
theorem d_Re_copyString_67 : decode b_Re_copyString 67 = .ok (.istore 5, 2) := by decide +kernel
theorem d_Re_copyString_69 : decode b_Re_copyString 69 = .ok (.iload 5, 2) := by decide +kernel
theorem d_Re_copyString_71 : decode b_Re_copyString 71 = .ok (.iload_n 3, 1) := by decide +kernel
theorem d_Re_copyString_72 : decode b_Re_copyString 72 = .ok (.if_icmp .ge (32), 3) := by decide +kernel
theorem d_Re_copyString_75 : decode b_Re_copyString 75 = .ok (.aload_n 0, 1) := by decide +kernel
theorem d_Re_copyString_76 : decode b_Re_copyString 76 = .ok (.getfield 14, 3) := by decide +kernel
theorem d_Re_copyString_79 : decode b_Re_copyString 79 = .ok (.aload_n 0, 1) := by decide +kernel
theorem d_Re_copyString_80 : decode b_Re_copyString 80 = .ok (.getfield 14, 3) := by decide +kernel
theorem d_Re_copyString_83 : decode b_Re_copyString 83 = .ok (.aload_n 0, 1) := by decide +kernel
theorem d_Re_copyString_84 : decode b_Re_copyString 84 = .ok (.getfield 20, 3) := by decide +kernel
theorem d_Re_copyString_87 : decode b_Re_copyString 87 = .ok (.iload_n 1, 1) := by decide +kernel
theorem d_Re_copyString_88 : decode b_Re_copyString 88 = .ok (.iaload, 1) := by decide +kernel
theorem d_Re_copyString_89 : decode b_Re_copyString 89 = .ok (.iload 5, 2) := by decide +kernel
theorem d_Re_copyString_91 : decode b_Re_copyString 91 = .ok (.iadd, 1) := by decide +kernel
theorem d_Re_copyString_92 : decode b_Re_copyString 92 = .ok (.invokevirtual 66, 3) := by decide +kernel
theorem d_Re_copyString_95 : decode b_Re_copyString 95 = .ok (.invokevirtual 77, 3) := by decide +kernel
theorem d_Re_copyString_98 : decode b_Re_copyString 98 = .ok (.iinc 5 (1), 3) := by decide +kernel
theorem d_Re_copyString_101 : decode b_Re_copyString 101 = .ok (.goto (-32), 3) := by decide +kernel
theorem d_Re_copyString_104 : decode b_Re_copyString 104 = .ok (.aload_n 0, 1) := by decide +kernel
theorem d_Re_copyString_105 : decode b_Re_copyString 105 = .ok (.getfield 37, 3) := by decide +kernel
theorem d_Re_copyString_108 : decode b_Re_copyString 108 = .ok (.invokevirtual 80, 3) := by decide +kernel
theorem d_Re_copyString_111 : decode b_Re_copyString 111 = .ok (.aload_n 0, 1) := by decide +kernel
theorem d_Re_copyString_112 : decode b_Re_copyString 112 = .ok (.iload 4, 2) := by decide +kernel
theorem d_Re_copyString_114 : decode b_Re_copyString 114 = .ok (.iload_n 3, 1) := by decide +kernel
theorem d_Re_copyString_115 : decode b_Re_copyString 115 = .ok (.iconst (1), 1) := by decide +kernel
theorem d_Re_copyString_116 : decode b_Re_copyString 116 = .ok (.iadd, 1) := by decide +kernel
theorem d_Re_copyString_117 : decode b_Re_copyString 117 = .ok (.invokevirtual 83, 3) := by decide +kernel
theorem d_Re_copyString_120 : decode b_Re_copyString 120 = .ok (.iconst (1), 1) := by decide +kernel
theorem d_Re_copyString_121 : decode b_Re_copyString 121 = .ok (.ireturn, 1) := by decide +kernel
theorem d_Re_addEntry_0 : decode b_Re_addEntry 0 = .ok (.aload_n 0, 1) := by decide +kernel
theorem d_Re_addEntry_1 : decode b_Re_addEntry 1 = .ok (.getfield 41, 3) := by decide +kernel
theorem d_Re_addEntry_4 : decode b_Re_addEntry 4 = .ok (.sipush (4095), 3) := by decide +kernel
theorem d_Re_addEntry_7 : decode b_Re_addEntry 7 = .ok (.if_icmp .ge (33), 3) := by decide +kernel
theorem d_Re_addEntry_10 : decode b_Re_addEntry 10 = .ok (.aload_n 0, 1) := by decide +kernel
theorem d_Re_addEntry_11 : decode b_Re_addEntry 11 = .ok (.dup, 1) := by decide +kernel
theorem d_Re_addEntry_12 : decode b_Re_addEntry 12 = .ok (.getfield 41, 3) := by decide +kernel
theorem d_Re_addEntry_15 : decode b_Re_addEntry 15 = .ok (.iconst (1), 1) := by decide +kernel
theorem d_Re_addEntry_16 : decode b_Re_addEntry 16 = .ok (.iadd, 1) := by decide +kernel
theorem d_Re_addEntry_17 : decode b_Re_addEntry 17 = .ok (.putfield 41, 3) := by decide +kernel
theorem d_Re_addEntry_20 : decode b_Re_addEntry 20 = .ok (.aload_n 0, 1) := by decide +kernel
theorem d_Re_addEntry_21 : decode b_Re_addEntry 21 = .ok (.getfield 20, 3) := by decide +kernel
theorem d_Re_addEntry_24 : decode b_Re_addEntry 24 = .ok (.aload_n 0, 1) := by decide +kernel
theorem d_Re_addEntry_25 : decode b_Re_addEntry 25 = .ok (.getfield 41, 3) := by decide +kernel
theorem d_Re_addEntry_28 : decode b_Re_addEntry 28 = .ok (.iload_n 1, 1) := by decide +kernel
theorem d_Re_addEntry_29 : decode b_Re_addEntry 29 = .ok (.iastore, 1) := by decide +kernel
theorem d_Re_addEntry_30 : decode b_Re_addEntry 30 = .ok (.aload_n 0, 1) := by decide +kernel
theorem d_Re_addEntry_31 : decode b_Re_addEntry 31 = .ok (.getfield 24, 3) := by decide +kernel
theorem d_Re_addEntry_34 : decode b_Re_addEntry 34 = .ok (.aload_n 0, 1) := by decide +kernel
theorem d_Re_addEntry_35 : decode b_Re_addEntry 35 = .ok (.getfield 41, 3) := by decide +kernel
theorem d_Re_addEntry_38 : decode b_Re_addEntry 38 = .ok (.iload_n 2, 1) := by decide +kernel
theorem d_Re_addEntry_39 : decode b_Re_addEntry 39 = .ok (.iastore, 1) := by decide +kernel
theorem d_Re_addEntry_40 : decode b_Re_addEntry 40 = .ok (.return_, 1) := by decide +kernel
theorem d_Sc_init_0 : decode b_Sc_init 0 = .ok (.aload_n 0, 1) := by decide +kernel
theorem d_Sc_init_1 : decode b_Sc_init 1 = .ok (.invokespecial 3, 3) := by decide +kernel
theorem d_Sc_init_4 : decode b_Sc_init 4 = .ok (.aload_n 0, 1) := by decide +kernel
theorem d_Sc_init_5 : decode b_Sc_init 5 = .ok (.bipush (12), 2) := by decide +kernel
theorem d_Sc_init_7 : decode b_Sc_init 7 = .ok (.anewarray 9, 3) := by decide +kernel
theorem d_Sc_init_10 : decode b_Sc_init 10 = .ok (.putfield 11, 3) := by decide +kernel
theorem d_Sc_init_13 : decode b_Sc_init 13 = .ok (.aload_n 0, 1) := by decide +kernel
theorem d_Sc_init_14 : decode b_Sc_init 14 = .ok (.new 17, 3) := by decide +kernel
theorem d_Sc_init_17 : decode b_Sc_init 17 = .ok (.dup, 1) := by decide +kernel
theorem d_Sc_init_18 : decode b_Sc_init 18 = .ok (.iload_n 1, 1) := by decide +kernel
theorem d_Sc_init_19 : decode b_Sc_init 19 = .ok (.invokespecial 19, 3) := by decide +kernel
theorem d_Sc_init_22 : decode b_Sc_init 22 = .ok (.putfield 22, 3) := by decide +kernel
theorem d_Sc_init_25 : decode b_Sc_init 25 = .ok (.iconst (0), 1) := by decide +kernel
theorem d_Sc_init_26 : decode b_Sc_init 26 = .ok (.istore_n 2, 1) := by decide +kernel
theorem d_Sc_init_27 : decode b_Sc_init 27 = .ok (.iload_n 2, 1) := by decide +kernel
theorem d_Sc_init_28 : decode b_Sc_init 28 = .ok (.bipush (12), 2) := by decide +kernel
theorem d_Sc_init_30 : decode b_Sc_init 30 = .ok (.if_icmp .ge (23), 3) := by decide +kernel
theorem d_Sc_init_33 : decode b_Sc_init 33 = .ok (.aload_n 0, 1) := by decide +kernel
theorem d_Sc_init_34 : decode b_Sc_init 34 = .ok (.getfield 11, 3) := by decide +kernel
theorem d_Sc_init_37 : decode b_Sc_init 37 = .ok (.iload_n 2, 1) := by decide +kernel
theorem d_Sc_init_38 : decode b_Sc_init 38 = .ok (.new 9, 3) := by decide +kernel
theorem d_Sc_init_41 : decode b_Sc_init 41 = .ok (.dup, 1) := by decide +kernel
theorem d_Sc_init_42 : decode b_Sc_init 42 = .ok (.iload_n 1, 1) := by decide +kernel
theorem d_Sc_init_43 : decode b_Sc_init 43 = .ok (.invokespecial 26, 3) := by decide +kernel
theorem d_Sc_init_46 : decode b_Sc_init 46 = .ok (.aastore, 1) := by decide +kernel
theorem d_Sc_init_47 : decode b_Sc_init 47 = .ok (.iinc 2 (1), 3) := by decide +kernel
theorem d_Sc_init_50 : decode b_Sc_init 50 = .ok (.goto (-23), 3) := by decide +kernel
theorem d_Sc_init_53 : decode b_Sc_init 53 = .ok (.return_, 1) := by decide +kernel
theorem d_Sc_has_0 : decode b_Sc_has 0 = .ok (.iload_n 1, 1) := by decide +kernel
theorem d_Sc_has_1 : decode b_Sc_has 1 = .ok (.ifCond .lt (15), 3) := by decide +kernel
theorem d_Sc_has_4 : decode b_Sc_has 4 = .ok (.iload_n 1, 1) := by decide +kernel
theorem d_Sc_has_5 : decode b_Sc_has 5 = .ok (.aload_n 0, 1) := by decide +kernel
theorem d_Sc_has_6 : decode b_Sc_has 6 = .ok (.getfield 27, 3) := by decide +kernel
theorem d_Sc_has_9 : decode b_Sc_has 9 = .ok (.if_icmp .ge (7), 3) := by decide +kernel
theorem d_Sc_has_12 : decode b_Sc_has 12 = .ok (.iconst (1), 1) := by decide +kernel
theorem d_Sc_has_13 : decode b_Sc_has 13 = .ok (.goto (4), 3) := by decide +kernel
theorem d_Sc_has_16 : decode b_Sc_has 16 = .ok (.iconst (0), 1) := by decide +kernel
theorem d_Sc_has_17 : decode b_Sc_has 17 = .ok (.ireturn, 1) := by decide +kernel
