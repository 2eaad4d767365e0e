theorem d_Mo_through_0 : decode b_Mo_through 0 = .ok (.aload_n 0, 1) := by decide +kernel
theorem d_Mo_through_1 : decode b_Mo_through 1 = .ok (.aload_n 0, 1) := by decide +kernel
theorem d_Mo_through_2 : decode b_Mo_through 2 = .ok (.iload_n 1, 1) := by decide +kernel
theorem d_Mo_through_3 : decode b_Mo_through 3 = .ok (.invokevirtual 160, 3) := by decide +kernel
theorem d_Mo_through_6 : decode b_Mo_through 6 = .ok (.ifCond .eq (20), 3) := by decide +kernel
theorem d_Mo_through_9 : decode b_Mo_through 9 = .ok (.iload_n 2, 1) := by decide +kernel
theorem d_Mo_through_10 : decode b_Mo_through 10 = .ok (.iconst (-1), 1) := by decide +kernel
theorem d_Mo_through_11 : decode b_Mo_through 11 = .ok (.if_icmp .eq (11), 3) := by decide +kernel
theorem d_Mo_through_14 : decode b_Mo_through 14 = .ok (.aload_n 0, 1) := by decide +kernel
theorem d_Mo_through_15 : decode b_Mo_through 15 = .ok (.iload_n 2, 1) := by decide +kernel
theorem d_Mo_through_16 : decode b_Mo_through 16 = .ok (.invokevirtual 164, 3) := by decide +kernel
theorem d_Mo_through_19 : decode b_Mo_through 19 = .ok (.ifCond .eq (7), 3) := by decide +kernel
theorem d_Mo_through_22 : decode b_Mo_through 22 = .ok (.iconst (0), 1) := by decide +kernel
theorem d_Mo_through_23 : decode b_Mo_through 23 = .ok (.goto (4), 3) := by decide +kernel
theorem d_Mo_through_26 : decode b_Mo_through 26 = .ok (.iconst (1), 1) := by decide +kernel
theorem d_Mo_through_27 : decode b_Mo_through 27 = .ok (.putfield 92, 3) := by decide +kernel
theorem d_Mo_through_30 : decode b_Mo_through 30 = .ok (.aload_n 0, 1) := by decide +kernel
theorem d_Mo_through_31 : decode b_Mo_through 31 = .ok (.getfield 92, 3) := by decide +kernel
theorem d_Mo_through_34 : decode b_Mo_through 34 = .ok (.ifCond .le (5), 3) := by decide +kernel
theorem d_Mo_through_37 : decode b_Mo_through 37 = .ok (.iconst (0), 1) := by decide +kernel
theorem d_Mo_through_38 : decode b_Mo_through 38 = .ok (.ireturn, 1) := by decide +kernel
theorem d_Mo_through_39 : decode b_Mo_through 39 = .ok (.aload_n 0, 1) := by decide +kernel
theorem d_Mo_through_40 : decode b_Mo_through 40 = .ok (.getfield 59, 3) := by decide +kernel
theorem d_Mo_through_43 : decode b_Mo_through 43 = .ok (.iload_n 1, 1) := by decide +kernel
theorem d_Mo_through_44 : decode b_Mo_through 44 = .ok (.iaload, 1) := by decide +kernel
theorem d_Mo_through_45 : decode b_Mo_through 45 = .ok (.istore_n 3, 1) := by decide +kernel
theorem d_Mo_through_46 : decode b_Mo_through 46 = .ok (.aload_n 0, 1) := by decide +kernel
theorem d_Mo_through_47 : decode b_Mo_through 47 = .ok (.getfield 59, 3) := by decide +kernel
theorem d_Mo_through_50 : decode b_Mo_through 50 = .ok (.iload_n 1, 1) := by decide +kernel
theorem d_Mo_through_51 : decode b_Mo_through 51 = .ok (.iload_n 2, 1) := by decide +kernel
theorem d_Mo_through_52 : decode b_Mo_through 52 = .ok (.iastore, 1) := by decide +kernel
theorem d_Mo_through_53 : decode b_Mo_through 53 = .ok (.iload_n 3, 1) := by decide +kernel
theorem d_Mo_through_54 : decode b_Mo_through 54 = .ok (.ireturn, 1) := by decide +kernel
theorem d_Mo_placeOf_0 : decode b_Mo_placeOf 0 = .ok (.bipush (24), 2) := by decide +kernel
theorem d_Mo_placeOf_2 : decode b_Mo_placeOf 2 = .ok (.aload_n 0, 1) := by decide +kernel
theorem d_Mo_placeOf_3 : decode b_Mo_placeOf 3 = .ok (.getfield 44, 3) := by decide +kernel
theorem d_Mo_placeOf_6 : decode b_Mo_placeOf 6 = .ok (.iload_n 1, 1) := by decide +kernel
theorem d_Mo_placeOf_7 : decode b_Mo_placeOf 7 = .ok (.iaload, 1) := by decide +kernel
theorem d_Mo_placeOf_8 : decode b_Mo_placeOf 8 = .ok (.iload_n 2, 1) := by decide +kernel
theorem d_Mo_placeOf_9 : decode b_Mo_placeOf 9 = .ok (.iadd, 1) := by decide +kernel
theorem d_Mo_placeOf_10 : decode b_Mo_placeOf 10 = .ok (.imul, 1) := by decide +kernel
theorem d_Mo_placeOf_11 : decode b_Mo_placeOf 11 = .ok (.aload_n 0, 1) := by decide +kernel
theorem d_Mo_placeOf_12 : decode b_Mo_placeOf 12 = .ok (.getfield 41, 3) := by decide +kernel
theorem d_Mo_placeOf_15 : decode b_Mo_placeOf 15 = .ok (.iload_n 1, 1) := by decide +kernel
theorem d_Mo_placeOf_16 : decode b_Mo_placeOf 16 = .ok (.iaload, 1) := by decide +kernel
theorem d_Mo_placeOf_17 : decode b_Mo_placeOf 17 = .ok (.iadd, 1) := by decide +kernel
theorem d_Mo_placeOf_18 : decode b_Mo_placeOf 18 = .ok (.iload_n 3, 1) := by decide +kernel
theorem d_Mo_placeOf_19 : decode b_Mo_placeOf 19 = .ok (.iadd, 1) := by decide +kernel
theorem d_Mo_placeOf_20 : decode b_Mo_placeOf 20 = .ok (.ireturn, 1) := by decide +kernel
theorem d_Mo_draw_0 : decode b_Mo_draw 0 = .ok (.iconst (0), 1) := by decide +kernel
theorem d_Mo_draw_1 : decode b_Mo_draw 1 = .ok (.istore_n 2, 1) := by decide +kernel
theorem d_Mo_draw_2 : decode b_Mo_draw 2 = .ok (.iload_n 2, 1) := by decide +kernel
theorem d_Mo_draw_3 : decode b_Mo_draw 3 = .ok (.sipush (576), 3) := by decide +kernel
theorem d_Mo_draw_6 : decode b_Mo_draw 6 = .ok (.if_icmp .ge (33), 3) := by decide +kernel
theorem d_Mo_draw_9 : decode b_Mo_draw 9 = .ok (.aload_n 0, 1) := by decide +kernel
theorem d_Mo_draw_10 : decode b_Mo_draw 10 = .ok (.getfield 74, 3) := by decide +kernel
theorem d_Mo_draw_13 : decode b_Mo_draw 13 = .ok (.iload_n 2, 1) := by decide +kernel
theorem d_Mo_draw_14 : decode b_Mo_draw 14 = .ok (.aload_n 0, 1) := by decide +kernel
theorem d_Mo_draw_15 : decode b_Mo_draw 15 = .ok (.getfield 68, 3) := by decide +kernel
theorem d_Mo_draw_18 : decode b_Mo_draw 18 = .ok (.iload_n 2, 1) := by decide +kernel
theorem d_Mo_draw_19 : decode b_Mo_draw 19 = .ok (.iaload, 1) := by decide +kernel
theorem d_Mo_draw_20 : decode b_Mo_draw 20 = .ok (.iastore, 1) := by decide +kernel
theorem d_Mo_draw_21 : decode b_Mo_draw 21 = .ok (.aload_n 0, 1) := by decide +kernel
theorem d_Mo_draw_22 : decode b_Mo_draw 22 = .ok (.getfield 77, 3) := by decide +kernel
theorem d_Mo_draw_25 : decode b_Mo_draw 25 = .ok (.iload_n 2, 1) := by decide +kernel
theorem d_Mo_draw_26 : decode b_Mo_draw 26 = .ok (.aload_n 0, 1) := by decide +kernel
theorem d_Mo_draw_27 : decode b_Mo_draw 27 = .ok (.getfield 71, 3) := by decide +kernel
theorem d_Mo_draw_30 : decode b_Mo_draw 30 = .ok (.iload_n 2, 1) := by decide +kernel
theorem d_Mo_draw_31 : decode b_Mo_draw 31 = .ok (.iaload, 1) := by decide +kernel
theorem d_Mo_draw_32 : decode b_Mo_draw 32 = .ok (.iastore, 1) := by decide +kernel
theorem d_Mo_draw_33 : decode b_Mo_draw 33 = .ok (.iinc 2 (1), 3) := by decide +kernel
theorem d_Mo_draw_36 : decode b_Mo_draw 36 = .ok (.goto (-34), 3) := by decide +kernel
theorem d_Mo_draw_39 : decode b_Mo_draw 39 = .ok (.iconst (0), 1) := by decide +kernel
theorem d_Mo_draw_40 : decode b_Mo_draw 40 = .ok (.istore_n 2, 1) := by decide +kernel
theorem d_Mo_draw_41 : decode b_Mo_draw 41 = .ok (.iload_n 2, 1) := by decide +kernel
theorem d_Mo_draw_42 : decode b_Mo_draw 42 = .ok (.aload_n 0, 1) := by decide +kernel
theorem d_Mo_draw_43 : decode b_Mo_draw 43 = .ok (.getfield 50, 3) := by decide +kernel
theorem d_Mo_draw_46 : decode b_Mo_draw 46 = .ok (.iload_n 1, 1) := by decide +kernel
theorem d_Mo_draw_47 : decode b_Mo_draw 47 = .ok (.iaload, 1) := by decide +kernel
theorem d_Mo_draw_48 : decode b_Mo_draw 48 = .ok (.if_icmp .ge (84), 3) := by decide +kernel
theorem d_Mo_draw_51 : decode b_Mo_draw 51 = .ok (.iconst (0), 1) := by decide +kernel
theorem d_Mo_draw_52 : decode b_Mo_draw 52 = .ok (.istore_n 3, 1) := by decide +kernel
theorem d_Mo_draw_53 : decode b_Mo_draw 53 = .ok (.iload_n 3, 1) := by decide +kernel
theorem d_Mo_draw_54 : decode b_Mo_draw 54 = .ok (.aload_n 0, 1) := by decide +kernel
theorem d_Mo_draw_55 : decode b_Mo_draw 55 = .ok (.getfield 47, 3) := by decide +kernel
theorem d_Mo_draw_58 : decode b_Mo_draw 58 = .ok (.iload_n 1, 1) := by decide +kernel
theorem d_Mo_draw_59 : decode b_Mo_draw 59 = .ok (.iaload, 1) := by decide +kernel
theorem d_Mo_draw_60 : decode b_Mo_draw 60 = .ok (.if_icmp .ge (66), 3) := by decide +kernel
theorem d_Mo_draw_63 : decode b_Mo_draw 63 = .ok (.aload_n 0, 1) := by decide +kernel
theorem d_Mo_draw_64 : decode b_Mo_draw 64 = .ok (.getfield 62, 3) := by decide +kernel
theorem d_Mo_draw_67 : decode b_Mo_draw 67 = .ok (.sipush (576), 3) := by decide +kernel
theorem d_Mo_draw_70 : decode b_Mo_draw 70 = .ok (.iload_n 1, 1) := by decide +kernel
theorem d_Mo_draw_71 : decode b_Mo_draw 71 = .ok (.imul, 1) := by decide +kernel
theorem d_Mo_draw_72 : decode b_Mo_draw 72 = .ok (.bipush (24), 2) := by decide +kernel
theorem d_Mo_draw_74 : decode b_Mo_draw 74 = .ok (.iload_n 2, 1) := by decide +kernel
theorem d_Mo_draw_75 : decode b_Mo_draw 75 = .ok (.imul, 1) := by decide +kernel
theorem d_Mo_draw_76 : decode b_Mo_draw 76 = .ok (.iadd, 1) := by decide +kernel
theorem d_Mo_draw_77 : decode b_Mo_draw 77 = .ok (.iload_n 3, 1) := by decide +kernel
theorem d_Mo_draw_78 : decode b_Mo_draw 78 = .ok (.iadd, 1) := by decide +kernel
theorem d_Mo_draw_79 : decode b_Mo_draw 79 = .ok (.iaload, 1) := by decide +kernel
theorem d_Mo_draw_80 : decode b_Mo_draw 80 = .ok (.istore 4, 2) := by decide +kernel
theorem d_Mo_draw_82 : decode b_Mo_draw 82 = .ok (.iload 4, 2) := by decide +kernel
theorem d_Mo_draw_84 : decode b_Mo_draw 84 = .ok (.aload_n 0, 1) := by decide +kernel
theorem d_Mo_draw_85 : decode b_Mo_draw 85 = .ok (.getfield 59, 3) := by decide +kernel
theorem d_Mo_draw_88 : decode b_Mo_draw 88 = .ok (.iload_n 1, 1) := by decide +kernel
theorem d_Mo_draw_89 : decode b_Mo_draw 89 = .ok (.iaload, 1) := by decide +kernel
theorem d_Mo_draw_90 : decode b_Mo_draw 90 = .ok (.if_icmp .eq (30), 3) := by decide +kernel
theorem d_Mo_draw_93 : decode b_Mo_draw 93 = .ok (.aload_n 0, 1) := by decide +kernel
theorem d_Mo_draw_94 : decode b_Mo_draw 94 = .ok (.getfield 68, 3) := by decide +kernel
theorem d_Mo_draw_97 : decode b_Mo_draw 97 = .ok (.aload_n 0, 1) := by decide +kernel
theorem d_Mo_draw_98 : decode b_Mo_draw 98 = .ok (.iload_n 1, 1) := by decide +kernel
theorem d_Mo_draw_99 : decode b_Mo_draw 99 = .ok (.iload_n 2, 1) := by decide +kernel
theorem d_Mo_draw_100 : decode b_Mo_draw 100 = .ok (.iload_n 3, 1) := by decide +kernel
theorem d_Mo_draw_101 : decode b_Mo_draw 101 = .ok (.invokevirtual 168, 3) := by decide +kernel
theorem d_Mo_draw_104 : decode b_Mo_draw 104 = .ok (.iload_n 1, 1) := by decide +kernel
theorem d_Mo_draw_105 : decode b_Mo_draw 105 = .ok (.iastore, 1) := by decide +kernel
theorem d_Mo_draw_106 : decode b_Mo_draw 106 = .ok (.aload_n 0, 1) := by decide +kernel
theorem d_Mo_draw_107 : decode b_Mo_draw 107 = .ok (.getfield 71, 3) := by decide +kernel
theorem d_Mo_draw_110 : decode b_Mo_draw 110 = .ok (.aload_n 0, 1) := by decide +kernel
theorem d_Mo_draw_111 : decode b_Mo_draw 111 = .ok (.iload_n 1, 1) := by decide +kernel
theorem d_Mo_draw_112 : decode b_Mo_draw 112 = .ok (.iload_n 2, 1) := by decide +kernel
theorem d_Mo_draw_113 : decode b_Mo_draw 113 = .ok (.iload_n 3, 1) := by decide +kernel
theorem d_Mo_draw_114 : decode b_Mo_draw 114 = .ok (.invokevirtual 168, 3) := by decide +kernel
theorem d_Mo_draw_117 : decode b_Mo_draw 117 = .ok (.iload 4, 2) := by decide +kernel
theorem d_Mo_draw_119 : decode b_Mo_draw 119 = .ok (.iastore, 1) := by decide +kernel
theorem d_Mo_draw_120 : decode b_Mo_draw 120 = .ok (.iinc 3 (1), 3) := by decide +kernel
theorem d_Mo_draw_123 : decode b_Mo_draw 123 = .ok (.goto (-70), 3) := by decide +kernel
theorem d_Mo_draw_126 : decode b_Mo_draw 126 = .ok (.iinc 2 (1), 3) := by decide +kernel
theorem d_Mo_draw_129 : decode b_Mo_draw 129 = .ok (.goto (-88), 3) := by decide +kernel
theorem d_Mo_draw_132 : decode b_Mo_draw 132 = .ok (.return_, 1) := by decide +kernel
theorem d_Mo_takeAway_0 : decode b_Mo_takeAway 0 = .ok (.iconst (0), 1) := by decide +kernel
theorem d_Mo_takeAway_1 : decode b_Mo_takeAway 1 = .ok (.istore_n 2, 1) := by decide +kernel
theorem d_Mo_takeAway_2 : decode b_Mo_takeAway 2 = .ok (.iload_n 2, 1) := by decide +kernel
theorem d_Mo_takeAway_3 : decode b_Mo_takeAway 3 = .ok (.aload_n 0, 1) := by decide +kernel
theorem d_Mo_takeAway_4 : decode b_Mo_takeAway 4 = .ok (.getfield 50, 3) := by decide +kernel
theorem d_Mo_takeAway_7 : decode b_Mo_takeAway 7 = .ok (.iload_n 1, 1) := by decide +kernel
theorem d_Mo_takeAway_8 : decode b_Mo_takeAway 8 = .ok (.iaload, 1) := by decide +kernel
theorem d_Mo_takeAway_9 : decode b_Mo_takeAway 9 = .ok (.if_icmp .ge (102), 3) := by decide +kernel
theorem d_Mo_takeAway_12 : decode b_Mo_takeAway 12 = .ok (.aload_n 0, 1) := by decide +kernel
theorem d_Mo_takeAway_13 : decode b_Mo_takeAway 13 = .ok (.getfield 53, 3) := by decide +kernel
theorem d_Mo_takeAway_16 : decode b_Mo_takeAway 16 = .ok (.iload_n 1, 1) := by decide +kernel
theorem d_Mo_takeAway_17 : decode b_Mo_takeAway 17 = .ok (.iaload, 1) := by decide +kernel
theorem d_Mo_takeAway_18 : decode b_Mo_takeAway 18 = .ok (.iconst (1), 1) := by decide +kernel
theorem d_Mo_takeAway_19 : decode b_Mo_takeAway 19 = .ok (.if_icmp .le (92), 3) := by decide +kernel
theorem d_Mo_takeAway_22 : decode b_Mo_takeAway 22 = .ok (.iconst (0), 1) := by decide +kernel
theorem d_Mo_takeAway_23 : decode b_Mo_takeAway 23 = .ok (.istore_n 3, 1) := by decide +kernel
theorem d_Mo_takeAway_24 : decode b_Mo_takeAway 24 = .ok (.iload_n 3, 1) := by decide +kernel
theorem d_Mo_takeAway_25 : decode b_Mo_takeAway 25 = .ok (.aload_n 0, 1) := by decide +kernel
theorem d_Mo_takeAway_26 : decode b_Mo_takeAway 26 = .ok (.getfield 47, 3) := by decide +kernel
theorem d_Mo_takeAway_29 : decode b_Mo_takeAway 29 = .ok (.iload_n 1, 1) := by decide +kernel
theorem d_Mo_takeAway_30 : decode b_Mo_takeAway 30 = .ok (.iaload, 1) := by decide +kernel
theorem d_Mo_takeAway_31 : decode b_Mo_takeAway 31 = .ok (.if_icmp .ge (74), 3) := by decide +kernel
theorem d_Mo_takeAway_34 : decode b_Mo_takeAway 34 = .ok (.aload_n 0, 1) := by decide +kernel
theorem d_Mo_takeAway_35 : decode b_Mo_takeAway 35 = .ok (.iload_n 1, 1) := by decide +kernel
theorem d_Mo_takeAway_36 : decode b_Mo_takeAway 36 = .ok (.iload_n 2, 1) := by decide +kernel
theorem d_Mo_takeAway_37 : decode b_Mo_takeAway 37 = .ok (.iload_n 3, 1) := by decide +kernel
theorem d_Mo_takeAway_38 : decode b_Mo_takeAway 38 = .ok (.invokevirtual 168, 3) := by decide +kernel
theorem d_Mo_takeAway_41 : decode b_Mo_takeAway 41 = .ok (.istore 4, 2) := by decide +kernel
theorem d_Mo_takeAway_43 : decode b_Mo_takeAway 43 = .ok (.aload_n 0, 1) := by decide +kernel
theorem d_Mo_takeAway_44 : decode b_Mo_takeAway 44 = .ok (.getfield 68, 3) := by decide +kernel
theorem d_Mo_takeAway_47 : decode b_Mo_takeAway 47 = .ok (.iload 4, 2) := by decide +kernel
theorem d_Mo_takeAway_49 : decode b_Mo_takeAway 49 = .ok (.aload_n 0, 1) := by decide +kernel
theorem d_Mo_takeAway_50 : decode b_Mo_takeAway 50 = .ok (.getfield 53, 3) := by decide +kernel
theorem d_Mo_takeAway_53 : decode b_Mo_takeAway 53 = .ok (.iload_n 1, 1) := by decide +kernel
theorem d_Mo_takeAway_54 : decode b_Mo_takeAway 54 = .ok (.iaload, 1) := by decide +kernel
theorem d_Mo_takeAway_55 : decode b_Mo_takeAway 55 = .ok (.iconst (2), 1) := by decide +kernel
theorem d_Mo_takeAway_56 : decode b_Mo_takeAway 56 = .ok (.if_icmp .ne (7), 3) := by decide +kernel
theorem d_Mo_takeAway_59 : decode b_Mo_takeAway 59 = .ok (.iconst (-1), 1) := by decide +kernel
theorem d_Mo_takeAway_60 : decode b_Mo_takeAway 60 = .ok (.goto (10), 3) := by decide +kernel
theorem d_Mo_takeAway_63 : decode b_Mo_takeAway 63 = .ok (.aload_n 0, 1) := by decide +kernel
theorem d_Mo_takeAway_64 : decode b_Mo_takeAway 64 = .ok (.getfield 74, 3) := by decide +kernel
theorem d_Mo_takeAway_67 : decode b_Mo_takeAway 67 = .ok (.iload 4, 2) := by decide +kernel
theorem d_Mo_takeAway_69 : decode b_Mo_takeAway 69 = .ok (.iaload, 1) := by decide +kernel
theorem d_Mo_takeAway_70 : decode b_Mo_takeAway 70 = .ok (.iastore, 1) := by decide +kernel
theorem d_Mo_takeAway_71 : decode b_Mo_takeAway 71 = .ok (.aload_n 0, 1) := by decide +kernel
theorem d_Mo_takeAway_72 : decode b_Mo_takeAway 72 = .ok (.getfield 71, 3) := by decide +kernel
theorem d_Mo_takeAway_75 : decode b_Mo_takeAway 75 = .ok (.iload 4, 2) := by decide +kernel
theorem d_Mo_takeAway_77 : decode b_Mo_takeAway 77 = .ok (.aload_n 0, 1) := by decide +kernel
theorem d_Mo_takeAway_78 : decode b_Mo_takeAway 78 = .ok (.getfield 53, 3) := by decide +kernel
theorem d_Mo_takeAway_81 : decode b_Mo_takeAway 81 = .ok (.iload_n 1, 1) := by decide +kernel
theorem d_Mo_takeAway_82 : decode b_Mo_takeAway 82 = .ok (.iaload, 1) := by decide +kernel
theorem d_Mo_takeAway_83 : decode b_Mo_takeAway 83 = .ok (.iconst (2), 1) := by decide +kernel
theorem d_Mo_takeAway_84 : decode b_Mo_takeAway 84 = .ok (.if_icmp .ne (7), 3) := by decide +kernel
theorem d_Mo_takeAway_87 : decode b_Mo_takeAway 87 = .ok (.iconst (-1), 1) := by decide +kernel
theorem d_Mo_takeAway_88 : decode b_Mo_takeAway 88 = .ok (.goto (10), 3) := by decide +kernel
theorem d_Mo_takeAway_91 : decode b_Mo_takeAway 91 = .ok (.aload_n 0, 1) := by decide +kernel
theorem d_Mo_takeAway_92 : decode b_Mo_takeAway 92 = .ok (.getfield 77, 3) := by decide +kernel
theorem d_Mo_takeAway_95 : decode b_Mo_takeAway 95 = .ok (.iload 4, 2) := by decide +kernel
theorem d_Mo_takeAway_97 : decode b_Mo_takeAway 97 = .ok (.iaload, 1) := by decide +kernel
theorem d_Mo_takeAway_98 : decode b_Mo_takeAway 98 = .ok (.iastore, 1) := by decide +kernel
theorem d_Mo_takeAway_99 : decode b_Mo_takeAway 99 = .ok (.iinc 3 (1), 3) := by decide +kernel
theorem d_Mo_takeAway_102 : decode b_Mo_takeAway 102 = .ok (.goto (-78), 3) := by decide +kernel
theorem d_Mo_takeAway_105 : decode b_Mo_takeAway 105 = .ok (.iinc 2 (1), 3) := by decide +kernel
theorem d_Mo_takeAway_108 : decode b_Mo_takeAway 108 = .ok (.goto (-106), 3) := by decide +kernel
theorem d_Mo_takeAway_111 : decode b_Mo_takeAway 111 = .ok (.return_, 1) := by decide +kernel
theorem d_Mo_shown_0 : decode b_Mo_shown 0 = .ok (.aload_n 0, 1) := by decide +kernel
theorem d_Mo_shown_1 : decode b_Mo_shown 1 = .ok (.aload_n 0, 1) := by decide +kernel
theorem d_Mo_shown_2 : decode b_Mo_shown 2 = .ok (.iload_n 1, 1) := by decide +kernel
theorem d_Mo_shown_3 : decode b_Mo_shown 3 = .ok (.invokevirtual 160, 3) := by decide +kernel
theorem d_Mo_shown_6 : decode b_Mo_shown 6 = .ok (.ifCond .eq (27), 3) := by decide +kernel
theorem d_Mo_shown_9 : decode b_Mo_shown 9 = .ok (.iload_n 2, 1) := by decide +kernel
theorem d_Mo_shown_10 : decode b_Mo_shown 10 = .ok (.ifCond .lt (23), 3) := by decide +kernel
theorem d_Mo_shown_13 : decode b_Mo_shown 13 = .ok (.iload_n 2, 1) := by decide +kernel
theorem d_Mo_shown_14 : decode b_Mo_shown 14 = .ok (.bipush (24), 2) := by decide +kernel
theorem d_Mo_shown_16 : decode b_Mo_shown 16 = .ok (.if_icmp .ge (17), 3) := by decide +kernel
theorem d_Mo_shown_19 : decode b_Mo_shown 19 = .ok (.iload_n 3, 1) := by decide +kernel
theorem d_Mo_shown_20 : decode b_Mo_shown 20 = .ok (.ifCond .lt (13), 3) := by decide +kernel
theorem d_Mo_shown_23 : decode b_Mo_shown 23 = .ok (.iload_n 3, 1) := by decide +kernel
theorem d_Mo_shown_24 : decode b_Mo_shown 24 = .ok (.bipush (24), 2) := by decide +kernel
theorem d_Mo_shown_26 : decode b_Mo_shown 26 = .ok (.if_icmp .ge (7), 3) := by decide +kernel
theorem d_Mo_shown_29 : decode b_Mo_shown 29 = .ok (.iconst (0), 1) := by decide +kernel
theorem d_Mo_shown_30 : decode b_Mo_shown 30 = .ok (.goto (4), 3) := by decide +kernel
theorem d_Mo_shown_33 : decode b_Mo_shown 33 = .ok (.iconst (1), 1) := by decide +kernel
theorem d_Mo_shown_34 : decode b_Mo_shown 34 = .ok (.putfield 92, 3) := by decide +kernel
theorem d_Mo_shown_37 : decode b_Mo_shown 37 = .ok (.aload_n 0, 1) := by decide +kernel
theorem d_Mo_shown_38 : decode b_Mo_shown 38 = .ok (.getfield 92, 3) := by decide +kernel
theorem d_Mo_shown_41 : decode b_Mo_shown 41 = .ok (.ifCond .le (5), 3) := by decide +kernel
theorem d_Mo_shown_44 : decode b_Mo_shown 44 = .ok (.iconst (0), 1) := by decide +kernel
theorem d_Mo_shown_45 : decode b_Mo_shown 45 = .ok (.ireturn, 1) := by decide +kernel
theorem d_Mo_shown_46 : decode b_Mo_shown 46 = .ok (.iconst (0), 1) := by decide +kernel
theorem d_Mo_shown_47 : decode b_Mo_shown 47 = .ok (.istore 4, 2) := by decide +kernel
theorem d_Mo_shown_49 : decode b_Mo_shown 49 = .ok (.iload 4, 2) := by decide +kernel
theorem d_Mo_shown_51 : decode b_Mo_shown 51 = .ok (.sipush (576), 3) := by decide +kernel
theorem d_Mo_shown_54 : decode b_Mo_shown 54 = .ok (.if_icmp .ge (17), 3) := by decide +kernel
theorem d_Mo_shown_57 : decode b_Mo_shown 57 = .ok (.aload_n 0, 1) := by decide +kernel
theorem d_Mo_shown_58 : decode b_Mo_shown 58 = .ok (.getfield 68, 3) := by decide +kernel
theorem d_Mo_shown_61 : decode b_Mo_shown 61 = .ok (.iload 4, 2) := by decide +kernel
theorem d_Mo_shown_63 : decode b_Mo_shown 63 = .ok (.iconst (-1), 1) := by decide +kernel
theorem d_Mo_shown_64 : decode b_Mo_shown 64 = .ok (.iastore, 1) := by decide +kernel
theorem d_Mo_shown_65 : decode b_Mo_shown 65 = .ok (.iinc 4 (1), 3) := by decide +kernel
theorem d_Mo_shown_68 : decode b_Mo_shown 68 = .ok (.goto (-19), 3) := by decide +kernel
theorem d_Mo_shown_71 : decode b_Mo_shown 71 = .ok (.iconst (0), 1) := by decide +kernel
theorem d_Mo_shown_72 : decode b_Mo_shown 72 = .ok (.istore 4, 2) := by decide +kernel
theorem d_Mo_shown_74 : decode b_Mo_shown 74 = .ok (.iload 4, 2) := by decide +kernel
theorem d_Mo_shown_76 : decode b_Mo_shown 76 = .ok (.iload_n 1, 1) := by decide +kernel
theorem d_Mo_shown_77 : decode b_Mo_shown 77 = .ok (.if_icmp .gt (28), 3) := by decide +kernel
theorem d_Mo_shown_80 : decode b_Mo_shown 80 = .ok (.iload 4, 2) := by decide +kernel
theorem d_Mo_shown_82 : decode b_Mo_shown 82 = .ok (.ifCond .le (11), 3) := by decide +kernel
theorem d_Mo_shown_85 : decode b_Mo_shown 85 = .ok (.aload_n 0, 1) := by decide +kernel
theorem d_Mo_shown_86 : decode b_Mo_shown 86 = .ok (.iload 4, 2) := by decide +kernel
theorem d_Mo_shown_88 : decode b_Mo_shown 88 = .ok (.iconst (1), 1) := by decide +kernel
theorem d_Mo_shown_89 : decode b_Mo_shown 89 = .ok (.isub, 1) := by decide +kernel
theorem d_Mo_shown_90 : decode b_Mo_shown 90 = .ok (.invokevirtual 172, 3) := by decide +kernel
theorem d_Mo_shown_93 : decode b_Mo_shown 93 = .ok (.aload_n 0, 1) := by decide +kernel
theorem d_Mo_shown_94 : decode b_Mo_shown 94 = .ok (.iload 4, 2) := by decide +kernel
theorem d_Mo_shown_96 : decode b_Mo_shown 96 = .ok (.invokevirtual 175, 3) := by decide +kernel
theorem d_Mo_shown_99 : decode b_Mo_shown 99 = .ok (.iinc 4 (1), 3) := by decide +kernel
theorem d_Mo_shown_102 : decode b_Mo_shown 102 = .ok (.goto (-28), 3) := by decide +kernel
theorem d_Mo_shown_105 : decode b_Mo_shown 105 = .ok (.aload_n 0, 1) := by decide +kernel
theorem d_Mo_shown_106 : decode b_Mo_shown 106 = .ok (.getfield 68, 3) := by decide +kernel
theorem d_Mo_shown_109 : decode b_Mo_shown 109 = .ok (.bipush (24), 2) := by decide +kernel
theorem d_Mo_shown_111 : decode b_Mo_shown 111 = .ok (.iload_n 3, 1) := by decide +kernel
theorem d_Mo_shown_112 : decode b_Mo_shown 112 = .ok (.imul, 1) := by decide +kernel
theorem d_Mo_shown_113 : decode b_Mo_shown 113 = .ok (.iload_n 2, 1) := by decide +kernel
theorem d_Mo_shown_114 : decode b_Mo_shown 114 = .ok (.iadd, 1) := by decide +kernel
theorem d_Mo_shown_115 : decode b_Mo_shown 115 = .ok (.iaload, 1) := by decide +kernel
theorem d_Mo_shown_116 : decode b_Mo_shown 116 = .ok (.istore 4, 2) := by decide +kernel
theorem d_Mo_shown_118 : decode b_Mo_shown 118 = .ok (.aload_n 0, 1) := by decide +kernel
theorem d_Mo_shown_119 : decode b_Mo_shown 119 = .ok (.getfield 71, 3) := by decide +kernel
theorem d_Mo_shown_122 : decode b_Mo_shown 122 = .ok (.bipush (24), 2) := by decide +kernel
theorem d_Mo_shown_124 : decode b_Mo_shown 124 = .ok (.iload_n 3, 1) := by decide +kernel
theorem d_Mo_shown_125 : decode b_Mo_shown 125 = .ok (.imul, 1) := by decide +kernel
theorem d_Mo_shown_126 : decode b_Mo_shown 126 = .ok (.iload_n 2, 1) := by decide +kernel
theorem d_Mo_shown_127 : decode b_Mo_shown 127 = .ok (.iadd, 1) := by decide +kernel
theorem d_Mo_shown_128 : decode b_Mo_shown 128 = .ok (.iaload, 1) := by decide +kernel
theorem d_Mo_shown_129 : decode b_Mo_shown 129 = .ok (.istore 5, 2) := by decide +kernel
theorem d_Mo_shown_131 : decode b_Mo_shown 131 = .ok (.iload 4, 2) := by decide +kernel
theorem d_Mo_shown_133 : decode b_Mo_shown 133 = .ok (.ifCond .ge (5), 3) := by decide +kernel
theorem d_Mo_shown_136 : decode b_Mo_shown 136 = .ok (.iconst (-1), 1) := by decide +kernel
theorem d_Mo_shown_137 : decode b_Mo_shown 137 = .ok (.ireturn, 1) := by decide +kernel
theorem d_Mo_shown_138 : decode b_Mo_shown 138 = .ok (.aload_n 0, 1) := by decide +kernel
theorem d_Mo_shown_139 : decode b_Mo_shown 139 = .ok (.getfield 65, 3) := by decide +kernel
theorem d_Mo_shown_142 : decode b_Mo_shown 142 = .ok (.sipush (256), 3) := by decide +kernel
theorem d_Mo_shown_145 : decode b_Mo_shown 145 = .ok (.iload 4, 2) := by decide +kernel
theorem d_Mo_shown_147 : decode b_Mo_shown 147 = .ok (.imul, 1) := by decide +kernel
theorem d_Mo_shown_148 : decode b_Mo_shown 148 = .ok (.iload 5, 2) := by decide +kernel
theorem d_Mo_shown_150 : decode b_Mo_shown 150 = .ok (.iadd, 1) := by decide +kernel
theorem d_Mo_shown_151 : decode b_Mo_shown 151 = .ok (.iaload, 1) := by decide +kernel
theorem d_Mo_shown_152 : decode b_Mo_shown 152 = .ok (.istore 6, 2) := by decide +kernel
theorem d_Mo_shown_154 : decode b_Mo_shown 154 = .ok (.iload 6, 2) := by decide +kernel
theorem d_Mo_shown_156 : decode b_Mo_shown 156 = .ok (.ifCond .lt (8), 3) := by decide +kernel
theorem d_Mo_shown_159 : decode b_Mo_shown 159 = .ok (.iload 6, 2) := by decide +kernel
theorem d_Mo_shown_161 : decode b_Mo_shown 161 = .ok (.goto (14), 3) := by decide +kernel
theorem d_Mo_shown_164 : decode b_Mo_shown 164 = .ok (.aload_n 0, 1) := by decide +kernel
theorem d_Mo_shown_165 : decode b_Mo_shown 165 = .ok (.getfield 65, 3) := by decide +kernel
theorem d_Mo_shown_168 : decode b_Mo_shown 168 = .ok (.sipush (3072), 3) := by decide +kernel
theorem d_Mo_shown_171 : decode b_Mo_shown 171 = .ok (.iload 5, 2) := by decide +kernel
theorem d_Mo_shown_173 : decode b_Mo_shown 173 = .ok (.iadd, 1) := by decide +kernel
theorem d_Mo_shown_174 : decode b_Mo_shown 174 = .ok (.iaload, 1) := by decide +kernel
theorem d_Mo_shown_175 : decode b_Mo_shown 175 = .ok (.ireturn, 1) := by decide +kernel
theorem d_Mo_symbol_0 : decode b_Mo_symbol 0 = .ok (.aload_n 0, 1) := by decide +kernel
theorem d_Mo_symbol_1 : decode b_Mo_symbol 1 = .ok (.aload_n 0, 1) := by decide +kernel
theorem d_Mo_symbol_2 : decode b_Mo_symbol 2 = .ok (.iload_n 1, 1) := by decide +kernel
theorem d_Mo_symbol_3 : decode b_Mo_symbol 3 = .ok (.invokevirtual 160, 3) := by decide +kernel
theorem d_Mo_symbol_6 : decode b_Mo_symbol 6 = .ok (.ifCond .eq (35), 3) := by decide +kernel
theorem d_Mo_symbol_9 : decode b_Mo_symbol 9 = .ok (.iload_n 2, 1) := by decide +kernel
theorem d_Mo_symbol_10 : decode b_Mo_symbol 10 = .ok (.ifCond .lt (31), 3) := by decide +kernel
theorem d_Mo_symbol_13 : decode b_Mo_symbol 13 = .ok (.iload_n 2, 1) := by decide +kernel
theorem d_Mo_symbol_14 : decode b_Mo_symbol 14 = .ok (.aload_n 0, 1) := by decide +kernel
theorem d_Mo_symbol_15 : decode b_Mo_symbol 15 = .ok (.getfield 47, 3) := by decide +kernel
theorem d_Mo_symbol_18 : decode b_Mo_symbol 18 = .ok (.iload_n 1, 1) := by decide +kernel
theorem d_Mo_symbol_19 : decode b_Mo_symbol 19 = .ok (.iaload, 1) := by decide +kernel
theorem d_Mo_symbol_20 : decode b_Mo_symbol 20 = .ok (.if_icmp .ge (21), 3) := by decide +kernel
theorem d_Mo_symbol_23 : decode b_Mo_symbol 23 = .ok (.iload_n 3, 1) := by decide +kernel
theorem d_Mo_symbol_24 : decode b_Mo_symbol 24 = .ok (.ifCond .lt (17), 3) := by decide +kernel
theorem d_Mo_symbol_27 : decode b_Mo_symbol 27 = .ok (.iload_n 3, 1) := by decide +kernel
theorem d_Mo_symbol_28 : decode b_Mo_symbol 28 = .ok (.aload_n 0, 1) := by decide +kernel
theorem d_Mo_symbol_29 : decode b_Mo_symbol 29 = .ok (.getfield 50, 3) := by decide +kernel
theorem d_Mo_symbol_32 : decode b_Mo_symbol 32 = .ok (.iload_n 1, 1) := by decide +kernel
theorem d_Mo_symbol_33 : decode b_Mo_symbol 33 = .ok (.iaload, 1) := by decide +kernel
theorem d_Mo_symbol_34 : decode b_Mo_symbol 34 = .ok (.if_icmp .ge (7), 3) := by decide +kernel
theorem d_Mo_symbol_37 : decode b_Mo_symbol 37 = .ok (.iconst (0), 1) := by decide +kernel
theorem d_Mo_symbol_38 : decode b_Mo_symbol 38 = .ok (.goto (4), 3) := by decide +kernel
theorem d_Mo_symbol_41 : decode b_Mo_symbol 41 = .ok (.iconst (1), 1) := by decide +kernel
theorem d_Mo_symbol_42 : decode b_Mo_symbol 42 = .ok (.putfield 92, 3) := by decide +kernel
theorem d_Mo_symbol_45 : decode b_Mo_symbol 45 = .ok (.aload_n 0, 1) := by decide +kernel
theorem d_Mo_symbol_46 : decode b_Mo_symbol 46 = .ok (.getfield 92, 3) := by decide +kernel
theorem d_Mo_symbol_49 : decode b_Mo_symbol 49 = .ok (.ifCond .le (7), 3) := by decide +kernel
theorem d_Mo_symbol_52 : decode b_Mo_symbol 52 = .ok (.iconst (0), 1) := by decide +kernel
theorem d_Mo_symbol_53 : decode b_Mo_symbol 53 = .ok (.goto (20), 3) := by decide +kernel
theorem d_Mo_symbol_56 : decode b_Mo_symbol 56 = .ok (.aload_n 0, 1) := by decide +kernel
theorem d_Mo_symbol_57 : decode b_Mo_symbol 57 = .ok (.getfield 62, 3) := by decide +kernel
theorem d_Mo_symbol_60 : decode b_Mo_symbol 60 = .ok (.sipush (576), 3) := by decide +kernel
theorem d_Mo_symbol_63 : decode b_Mo_symbol 63 = .ok (.iload_n 1, 1) := by decide +kernel
theorem d_Mo_symbol_64 : decode b_Mo_symbol 64 = .ok (.imul, 1) := by decide +kernel
theorem d_Mo_symbol_65 : decode b_Mo_symbol 65 = .ok (.bipush (24), 2) := by decide +kernel
theorem d_Mo_symbol_67 : decode b_Mo_symbol 67 = .ok (.iload_n 3, 1) := by decide +kernel
theorem d_Mo_symbol_68 : decode b_Mo_symbol 68 = .ok (.imul, 1) := by decide +kernel
theorem d_Mo_symbol_69 : decode b_Mo_symbol 69 = .ok (.iadd, 1) := by decide +kernel
theorem d_Mo_symbol_70 : decode b_Mo_symbol 70 = .ok (.iload_n 2, 1) := by decide +kernel
theorem d_Mo_symbol_71 : decode b_Mo_symbol 71 = .ok (.iadd, 1) := by decide +kernel
theorem d_Mo_symbol_72 : decode b_Mo_symbol 72 = .ok (.iaload, 1) := by decide +kernel
theorem d_Mo_symbol_73 : decode b_Mo_symbol 73 = .ok (.ireturn, 1) := by decide +kernel
theorem d_Mo_when_0 : decode b_Mo_when 0 = .ok (.aload_n 0, 1) := by decide +kernel
theorem d_Mo_when_1 : decode b_Mo_when 1 = .ok (.iload_n 1, 1) := by decide +kernel
theorem d_Mo_when_2 : decode b_Mo_when 2 = .ok (.ifCond .lt (7), 3) := by decide +kernel
theorem d_Mo_when_5 : decode b_Mo_when 5 = .ok (.iload_n 2, 1) := by decide +kernel
theorem d_Mo_when_6 : decode b_Mo_when 6 = .ok (.ifCond .ge (7), 3) := by decide +kernel
theorem d_Mo_when_9 : decode b_Mo_when 9 = .ok (.iconst (1), 1) := by decide +kernel
theorem d_Mo_when_10 : decode b_Mo_when 10 = .ok (.goto (4), 3) := by decide +kernel
theorem d_Mo_when_13 : decode b_Mo_when 13 = .ok (.iconst (0), 1) := by decide +kernel
theorem d_Mo_when_14 : decode b_Mo_when 14 = .ok (.putfield 92, 3) := by decide +kernel
theorem d_Mo_when_17 : decode b_Mo_when 17 = .ok (.aload_n 0, 1) := by decide +kernel
theorem d_Mo_when_18 : decode b_Mo_when 18 = .ok (.getfield 92, 3) := by decide +kernel
theorem d_Mo_when_21 : decode b_Mo_when 21 = .ok (.ifCond .le (5), 3) := by decide +kernel
theorem d_Mo_when_24 : decode b_Mo_when 24 = .ok (.iconst (0), 1) := by decide +kernel
theorem d_Mo_when_25 : decode b_Mo_when 25 = .ok (.ireturn, 1) := by decide +kernel
theorem d_Mo_when_26 : decode b_Mo_when 26 = .ok (.lconst 0, 1) := by decide +kernel
theorem d_Mo_when_27 : decode b_Mo_when 27 = .ok (.lstore_n 3, 1) := by decide +kernel
theorem d_Mo_when_28 : decode b_Mo_when 28 = .ok (.iconst (0), 1) := by decide +kernel
theorem d_Mo_when_29 : decode b_Mo_when 29 = .ok (.istore 5, 2) := by decide +kernel
theorem d_Mo_when_31 : decode b_Mo_when 31 = .ok (.iload 5, 2) := by decide +kernel
theorem d_Mo_when_33 : decode b_Mo_when 33 = .ok (.aload_n 0, 1) := by decide +kernel
theorem d_Mo_when_34 : decode b_Mo_when 34 = .ok (.getfield 110, 3) := by decide +kernel
theorem d_Mo_when_37 : decode b_Mo_when 37 = .ok (.if_icmp .ge (20), 3) := by decide +kernel
theorem d_Mo_when_40 : decode b_Mo_when 40 = .ok (.lload_n 3, 1) := by decide +kernel
theorem d_Mo_when_41 : decode b_Mo_when 41 = .ok (.aload_n 0, 1) := by decide +kernel
theorem d_Mo_when_42 : decode b_Mo_when 42 = .ok (.getfield 56, 3) := by decide +kernel
theorem d_Mo_when_45 : decode b_Mo_when 45 = .ok (.iload 5, 2) := by decide +kernel
theorem d_Mo_when_47 : decode b_Mo_when 47 = .ok (.iaload, 1) := by decide +kernel
theorem d_Mo_when_48 : decode b_Mo_when 48 = .ok (.i2l, 1) := by decide +kernel
theorem d_Mo_when_49 : decode b_Mo_when 49 = .ok (.ladd, 1) := by decide +kernel
theorem d_Mo_when_50 : decode b_Mo_when 50 = .ok (.lstore_n 3, 1) := by decide +kernel
theorem d_Mo_when_51 : decode b_Mo_when 51 = .ok (.iinc 5 (1), 3) := by decide +kernel
theorem d_Mo_when_54 : decode b_Mo_when 54 = .ok (.goto (-23), 3) := by decide +kernel
theorem d_Mo_when_57 : decode b_Mo_when 57 = .ok (.aload_n 0, 1) := by decide +kernel
theorem d_Mo_when_58 : decode b_Mo_when 58 = .ok (.getfield 110, 3) := by decide +kernel
theorem d_Mo_when_61 : decode b_Mo_when 61 = .ok (.ifCond .eq (23), 3) := by decide +kernel
theorem d_Mo_when_64 : decode b_Mo_when 64 = .ok (.lload_n 3, 1) := by decide +kernel
theorem d_Mo_when_65 : decode b_Mo_when 65 = .ok (.lconst 0, 1) := by decide +kernel
theorem d_Mo_when_66 : decode b_Mo_when 66 = .ok (.lcmp, 1) := by decide +kernel
theorem d_Mo_when_67 : decode b_Mo_when 67 = .ok (.ifCond .eq (17), 3) := by decide +kernel
theorem d_Mo_when_70 : decode b_Mo_when 70 = .ok (.iload_n 2, 1) := by decide +kernel
theorem d_Mo_when_71 : decode b_Mo_when 71 = .ok (.ifCond .le (20), 3) := by decide +kernel
theorem d_Mo_when_74 : decode b_Mo_when 74 = .ok (.iload_n 1, 1) := by decide +kernel
theorem d_Mo_when_75 : decode b_Mo_when 75 = .ok (.i2l, 1) := by decide +kernel
theorem d_Mo_when_76 : decode b_Mo_when 76 = .ok (.lload_n 3, 1) := by decide +kernel
theorem d_Mo_when_77 : decode b_Mo_when 77 = .ok (.iload_n 2, 1) := by decide +kernel
theorem d_Mo_when_78 : decode b_Mo_when 78 = .ok (.i2l, 1) := by decide +kernel
theorem d_Mo_when_79 : decode b_Mo_when 79 = .ok (.lmul, 1) := by decide +kernel
theorem d_Mo_when_80 : decode b_Mo_when 80 = .ok (.lcmp, 1) := by decide +kernel
theorem d_Mo_when_81 : decode b_Mo_when 81 = .ok (.ifCond .lt (10), 3) := by decide +kernel
theorem d_Mo_when_84 : decode b_Mo_when 84 = .ok (.aload_n 0, 1) := by decide +kernel
theorem d_Mo_when_85 : decode b_Mo_when 85 = .ok (.getfield 110, 3) := by decide +kernel
theorem d_Mo_when_88 : decode b_Mo_when 88 = .ok (.iconst (1), 1) := by decide +kernel
theorem d_Mo_when_89 : decode b_Mo_when 89 = .ok (.isub, 1) := by decide +kernel
theorem d_Mo_when_90 : decode b_Mo_when 90 = .ok (.ireturn, 1) := by decide +kernel
theorem d_Mo_when_91 : decode b_Mo_when 91 = .ok (.iload_n 1, 1) := by decide +kernel
theorem d_Mo_when_92 : decode b_Mo_when 92 = .ok (.i2l, 1) := by decide +kernel
theorem d_Mo_when_93 : decode b_Mo_when 93 = .ok (.lload_n 3, 1) := by decide +kernel
theorem d_Mo_when_94 : decode b_Mo_when 94 = .ok (.lrem, 1) := by decide +kernel
theorem d_Mo_when_95 : decode b_Mo_when 95 = .ok (.lstore 5, 2) := by decide +kernel
theorem d_Mo_when_97 : decode b_Mo_when 97 = .ok (.iconst (0), 1) := by decide +kernel
theorem d_Mo_when_98 : decode b_Mo_when 98 = .ok (.istore 7, 2) := by decide +kernel
theorem d_Mo_when_100 : decode b_Mo_when 100 = .ok (.lload 5, 2) := by decide +kernel
theorem d_Mo_when_102 : decode b_Mo_when 102 = .ok (.aload_n 0, 1) := by decide +kernel
theorem d_Mo_when_103 : decode b_Mo_when 103 = .ok (.getfield 56, 3) := by decide +kernel
theorem d_Mo_when_106 : decode b_Mo_when 106 = .ok (.iload 7, 2) := by decide +kernel
theorem d_Mo_when_108 : decode b_Mo_when 108 = .ok (.iaload, 1) := by decide +kernel
theorem d_Mo_when_109 : decode b_Mo_when 109 = .ok (.i2l, 1) := by decide +kernel
theorem d_Mo_when_110 : decode b_Mo_when 110 = .ok (.lcmp, 1) := by decide +kernel
theorem d_Mo_when_111 : decode b_Mo_when 111 = .ok (.ifCond .lt (22), 3) := by decide +kernel
theorem d_Mo_when_114 : decode b_Mo_when 114 = .ok (.lload 5, 2) := by decide +kernel
theorem d_Mo_when_116 : decode b_Mo_when 116 = .ok (.aload_n 0, 1) := by decide +kernel
theorem d_Mo_when_117 : decode b_Mo_when 117 = .ok (.getfield 56, 3) := by decide +kernel
theorem d_Mo_when_120 : decode b_Mo_when 120 = .ok (.iload 7, 2) := by decide +kernel
theorem d_Mo_when_122 : decode b_Mo_when 122 = .ok (.iaload, 1) := by decide +kernel
theorem d_Mo_when_123 : decode b_Mo_when 123 = .ok (.i2l, 1) := by decide +kernel
theorem d_Mo_when_124 : decode b_Mo_when 124 = .ok (.lsub, 1) := by decide +kernel
theorem d_Mo_when_125 : decode b_Mo_when 125 = .ok (.lstore 5, 2) := by decide +kernel
theorem d_Mo_when_127 : decode b_Mo_when 127 = .ok (.iinc 7 (1), 3) := by decide +kernel
theorem d_Mo_when_130 : decode b_Mo_when 130 = .ok (.goto (-30), 3) := by decide +kernel
theorem d_Mo_when_133 : decode b_Mo_when 133 = .ok (.iload 7, 2) := by decide +kernel
theorem d_Mo_when_135 : decode b_Mo_when 135 = .ok (.ireturn, 1) := by decide +kernel
theorem d_Mo_passOf_0 : decode b_Mo_passOf 0 = .ok (.aload_n 0, 1) := by decide +kernel
theorem d_Mo_passOf_1 : decode b_Mo_passOf 1 = .ok (.iload_n 1, 1) := by decide +kernel
theorem d_Mo_passOf_2 : decode b_Mo_passOf 2 = .ok (.ifCond .ge (7), 3) := by decide +kernel
theorem d_Mo_passOf_5 : decode b_Mo_passOf 5 = .ok (.iconst (1), 1) := by decide +kernel
theorem d_Mo_passOf_6 : decode b_Mo_passOf 6 = .ok (.goto (4), 3) := by decide +kernel
theorem d_Mo_passOf_9 : decode b_Mo_passOf 9 = .ok (.iconst (0), 1) := by decide +kernel
theorem d_Mo_passOf_10 : decode b_Mo_passOf 10 = .ok (.putfield 92, 3) := by decide +kernel
theorem d_Mo_passOf_13 : decode b_Mo_passOf 13 = .ok (.aload_n 0, 1) := by decide +kernel
theorem d_Mo_passOf_14 : decode b_Mo_passOf 14 = .ok (.getfield 92, 3) := by decide +kernel
theorem d_Mo_passOf_17 : decode b_Mo_passOf 17 = .ok (.ifCond .le (7), 3) := by decide +kernel
theorem d_Mo_passOf_20 : decode b_Mo_passOf 20 = .ok (.iconst (0), 1) := by decide +kernel
theorem d_Mo_passOf_21 : decode b_Mo_passOf 21 = .ok (.goto (7), 3) := by decide +kernel
theorem d_Mo_passOf_24 : decode b_Mo_passOf 24 = .ok (.iload_n 1, 1) := by decide +kernel
theorem d_Mo_passOf_25 : decode b_Mo_passOf 25 = .ok (.invokestatic 157, 3) := by decide +kernel
theorem d_Mo_passOf_28 : decode b_Mo_passOf 28 = .ok (.ireturn, 1) := by decide +kernel
theorem d_Mo_told_0 : decode b_Mo_told 0 = .ok (.aload_n 0, 1) := by decide +kernel
theorem d_Mo_told_1 : decode b_Mo_told 1 = .ok (.iconst (0), 1) := by decide +kernel
theorem d_Mo_told_2 : decode b_Mo_told 2 = .ok (.putfield 92, 3) := by decide +kernel
theorem d_Mo_told_5 : decode b_Mo_told 5 = .ok (.iload_n 1, 1) := by decide +kernel
theorem d_Mo_told_6 : decode b_Mo_told 6 = .ok (.tableswitch (59) (0) (4) #[34, 39, 44, 49, 54], 34) := by decide +kernel
theorem d_Mo_told_40 : decode b_Mo_told 40 = .ok (.aload_n 0, 1) := by decide +kernel
theorem d_Mo_told_41 : decode b_Mo_told 41 = .ok (.getfield 80, 3) := by decide +kernel
theorem d_Mo_told_44 : decode b_Mo_told 44 = .ok (.ireturn, 1) := by decide +kernel
theorem d_Mo_told_45 : decode b_Mo_told 45 = .ok (.aload_n 0, 1) := by decide +kernel
theorem d_Mo_told_46 : decode b_Mo_told 46 = .ok (.getfield 98, 3) := by decide +kernel
theorem d_Mo_told_49 : decode b_Mo_told 49 = .ok (.ireturn, 1) := by decide +kernel
theorem d_Mo_told_50 : decode b_Mo_told 50 = .ok (.aload_n 0, 1) := by decide +kernel
theorem d_Mo_told_51 : decode b_Mo_told 51 = .ok (.getfield 104, 3) := by decide +kernel
theorem d_Mo_told_54 : decode b_Mo_told 54 = .ok (.ireturn, 1) := by decide +kernel
theorem d_Mo_told_55 : decode b_Mo_told 55 = .ok (.aload_n 0, 1) := by decide +kernel
theorem d_Mo_told_56 : decode b_Mo_told 56 = .ok (.getfield 107, 3) := by decide +kernel
theorem d_Mo_told_59 : decode b_Mo_told 59 = .ok (.ireturn, 1) := by decide +kernel
theorem d_Mo_told_60 : decode b_Mo_told 60 = .ok (.aload_n 0, 1) := by decide +kernel
theorem d_Mo_told_61 : decode b_Mo_told 61 = .ok (.getfield 110, 3) := by decide +kernel
theorem d_Mo_told_64 : decode b_Mo_told 64 = .ok (.ireturn, 1) := by decide +kernel
theorem d_Mo_told_65 : decode b_Mo_told 65 = .ok (.iconst (-1), 1) := by decide +kernel
theorem d_Mo_told_66 : decode b_Mo_told 66 = .ok (.ireturn, 1) := by decide +kernel
theorem d_Co_init_0 : decode b_Co_init 0 = .ok (.aload_n 0, 1) := by decide +kernel
theorem d_Co_init_1 : decode b_Co_init 1 = .ok (.invokespecial 3, 3) := by decide +kernel
theorem d_Co_init_4 : decode b_Co_init 4 = .ok (.aload_n 0, 1) := by decide +kernel
theorem d_Co_init_5 : decode b_Co_init 5 = .ok (.new 9, 3) := by decide +kernel
theorem d_Co_init_8 : decode b_Co_init 8 = .ok (.dup, 1) := by decide +kernel
theorem d_Co_init_9 : decode b_Co_init 9 = .ok (.sipush (18060), 3) := by decide +kernel
theorem d_Co_init_12 : decode b_Co_init 12 = .ok (.invokespecial 11, 3) := by decide +kernel
theorem d_Co_init_15 : decode b_Co_init 15 = .ok (.putfield 14, 3) := by decide +kernel
theorem d_Co_init_18 : decode b_Co_init 18 = .ok (.aload_n 0, 1) := by decide +kernel
theorem d_Co_init_19 : decode b_Co_init 19 = .ok (.iconst (1), 1) := by decide +kernel
theorem d_Co_init_20 : decode b_Co_init 20 = .ok (.iload_n 1, 1) := by decide +kernel
theorem d_Co_init_21 : decode b_Co_init 21 = .ok (.ishl, 1) := by decide +kernel
theorem d_Co_init_22 : decode b_Co_init 22 = .ok (.putfield 20, 3) := by decide +kernel
theorem d_Co_init_25 : decode b_Co_init 25 = .ok (.aload_n 0, 1) := by decide +kernel
theorem d_Co_init_26 : decode b_Co_init 26 = .ok (.aload_n 0, 1) := by decide +kernel
theorem d_Co_init_27 : decode b_Co_init 27 = .ok (.getfield 20, 3) := by decide +kernel
theorem d_Co_init_30 : decode b_Co_init 30 = .ok (.iconst (1), 1) := by decide +kernel
theorem d_Co_init_31 : decode b_Co_init 31 = .ok (.iadd, 1) := by decide +kernel
theorem d_Co_init_32 : decode b_Co_init 32 = .ok (.putfield 24, 3) := by decide +kernel
theorem d_Co_init_35 : decode b_Co_init 35 = .ok (.aload_n 0, 1) := by decide +kernel
theorem d_Co_init_36 : decode b_Co_init 36 = .ok (.new 27, 3) := by decide +kernel
theorem d_Co_init_39 : decode b_Co_init 39 = .ok (.dup, 1) := by decide +kernel
theorem d_Co_init_40 : decode b_Co_init 40 = .ok (.iload_n 1, 1) := by decide +kernel
theorem d_Co_init_41 : decode b_Co_init 41 = .ok (.invokespecial 29, 3) := by decide +kernel
theorem d_Co_init_44 : decode b_Co_init 44 = .ok (.putfield 30, 3) := by decide +kernel
theorem d_Co_init_47 : decode b_Co_init 47 = .ok (.aload_n 0, 1) := by decide +kernel
theorem d_Co_init_48 : decode b_Co_init 48 = .ok (.new 34, 3) := by decide +kernel
theorem d_Co_init_51 : decode b_Co_init 51 = .ok (.dup, 1) := by decide +kernel
theorem d_Co_init_52 : decode b_Co_init 52 = .ok (.aload_n 0, 1) := by decide +kernel
theorem d_Co_init_53 : decode b_Co_init 53 = .ok (.getfield 24, 3) := by decide +kernel
theorem d_Co_init_56 : decode b_Co_init 56 = .ok (.invokespecial 36, 3) := by decide +kernel
theorem d_Co_init_59 : decode b_Co_init 59 = .ok (.putfield 37, 3) := by decide +kernel
theorem d_Co_init_62 : decode b_Co_init 62 = .ok (.return_, 1) := by decide +kernel
theorem d_Co_forget_0 : decode b_Co_forget 0 = .ok (.aload_n 0, 1) := by decide +kernel
theorem d_Co_forget_1 : decode b_Co_forget 1 = .ok (.getfield 14, 3) := by decide +kernel
theorem d_Co_forget_4 : decode b_Co_forget 4 = .ok (.invokevirtual 41, 3) := by decide +kernel
theorem d_Co_forget_7 : decode b_Co_forget 7 = .ok (.aload_n 0, 1) := by decide +kernel
theorem d_Co_forget_8 : decode b_Co_forget 8 = .ok (.getfield 37, 3) := by decide +kernel
theorem d_Co_forget_11 : decode b_Co_forget 11 = .ok (.invokevirtual 44, 3) := by decide +kernel
theorem d_Co_forget_14 : decode b_Co_forget 14 = .ok (.aload_n 0, 1) := by decide +kernel
theorem d_Co_forget_15 : decode b_Co_forget 15 = .ok (.getfield 30, 3) := by decide +kernel
theorem d_Co_forget_18 : decode b_Co_forget 18 = .ok (.invokevirtual 45, 3) := by decide +kernel
theorem d_Co_forget_21 : decode b_Co_forget 21 = .ok (.aload_n 0, 1) := by decide +kernel
theorem d_Co_forget_22 : decode b_Co_forget 22 = .ok (.iconst (0), 1) := by decide +kernel
theorem d_Co_forget_23 : decode b_Co_forget 23 = .ok (.putfield 48, 3) := by decide +kernel
theorem d_Co_forget_26 : decode b_Co_forget 26 = .ok (.aload_n 0, 1) := by decide +kernel
theorem d_Co_forget_27 : decode b_Co_forget 27 = .ok (.iconst (0), 1) := by decide +kernel
theorem d_Co_forget_28 : decode b_Co_forget 28 = .ok (.putfield 51, 3) := by decide +kernel
theorem d_Co_forget_31 : decode b_Co_forget 31 = .ok (.aload_n 0, 1) := by decide +kernel
theorem d_Co_forget_32 : decode b_Co_forget 32 = .ok (.iconst (0), 1) := by decide +kernel
theorem d_Co_forget_33 : decode b_Co_forget 33 = .ok (.putfield 54, 3) := by decide +kernel
theorem d_Co_forget_36 : decode b_Co_forget 36 = .ok (.aload_n 0, 1) := by decide +kernel
theorem d_Co_forget_37 : decode b_Co_forget 37 = .ok (.iconst (0), 1) := by decide +kernel
theorem d_Co_forget_38 : decode b_Co_forget 38 = .ok (.putfield 57, 3) := by decide +kernel
theorem d_Co_forget_41 : decode b_Co_forget 41 = .ok (.aload_n 0, 1) := by decide +kernel
theorem d_Co_forget_42 : decode b_Co_forget 42 = .ok (.iconst (0), 1) := by decide +kernel
theorem d_Co_forget_43 : decode b_Co_forget 43 = .ok (.putfield 60, 3) := by decide +kernel
theorem d_Co_forget_46 : decode b_Co_forget 46 = .ok (.return_, 1) := by decide +kernel
theorem d_Co_codeRow_0 : decode b_Co_codeRow 0 = .ok (.aload_n 0, 1) := by decide +kernel
theorem d_Co_codeRow_1 : decode b_Co_codeRow 1 = .ok (.invokevirtual 63, 3) := by decide +kernel
theorem d_Co_codeRow_4 : decode b_Co_codeRow 4 = .ok (.aload_n 0, 1) := by decide +kernel
theorem d_Co_codeRow_5 : decode b_Co_codeRow 5 = .ok (.invokevirtual 66, 3) := by decide +kernel
theorem d_Co_codeRow_8 : decode b_Co_codeRow 8 = .ok (.aload_n 1, 1) := by decide +kernel
theorem d_Co_codeRow_9 : decode b_Co_codeRow 9 = .ok (.iconst (0), 1) := by decide +kernel
theorem d_Co_codeRow_10 : decode b_Co_codeRow 10 = .ok (.invokevirtual 69, 3) := by decide +kernel
theorem d_Co_codeRow_13 : decode b_Co_codeRow 13 = .ok (.istore_n 3, 1) := by decide +kernel
theorem d_Co_codeRow_14 : decode b_Co_codeRow 14 = .ok (.iconst (0), 1) := by decide +kernel
theorem d_Co_codeRow_15 : decode b_Co_codeRow 15 = .ok (.istore 4, 2) := by decide +kernel
theorem d_Co_codeRow_17 : decode b_Co_codeRow 17 = .ok (.iconst (1), 1) := by decide +kernel
theorem d_Co_codeRow_18 : decode b_Co_codeRow 18 = .ok (.istore 5, 2) := by decide +kernel
theorem d_Co_codeRow_20 : decode b_Co_codeRow 20 = .ok (.iload 5, 2) := by decide +kernel
theorem d_Co_codeRow_22 : decode b_Co_codeRow 22 = .ok (.aload_n 1, 1) := by decide +kernel
theorem d_Co_codeRow_23 : decode b_Co_codeRow 23 = .ok (.getfield 73, 3) := by decide +kernel
theorem d_Co_codeRow_26 : decode b_Co_codeRow 26 = .ok (.if_icmp .ge (80), 3) := by decide +kernel
theorem d_Co_codeRow_29 : decode b_Co_codeRow 29 = .ok (.aload_n 1, 1) := by decide +kernel
theorem d_Co_codeRow_30 : decode b_Co_codeRow 30 = .ok (.iload 5, 2) := by decide +kernel
theorem d_Co_codeRow_32 : decode b_Co_codeRow 32 = .ok (.invokevirtual 69, 3) := by decide +kernel
theorem d_Co_codeRow_35 : decode b_Co_codeRow 35 = .ok (.istore 6, 2) := by decide +kernel
theorem d_Co_codeRow_37 : decode b_Co_codeRow 37 = .ok (.aload_n 0, 1) := by decide +kernel
theorem d_Co_codeRow_38 : decode b_Co_codeRow 38 = .ok (.getfield 37, 3) := by decide +kernel
theorem d_Co_codeRow_41 : decode b_Co_codeRow 41 = .ok (.iload_n 3, 1) := by decide +kernel
theorem d_Co_codeRow_42 : decode b_Co_codeRow 42 = .ok (.iload 6, 2) := by decide +kernel
theorem d_Co_codeRow_44 : decode b_Co_codeRow 44 = .ok (.invokevirtual 76, 3) := by decide +kernel
theorem d_Co_codeRow_47 : decode b_Co_codeRow 47 = .ok (.istore 7, 2) := by decide +kernel
theorem d_Co_codeRow_49 : decode b_Co_codeRow 49 = .ok (.iload 7, 2) := by decide +kernel
theorem d_Co_codeRow_51 : decode b_Co_codeRow 51 = .ok (.iconst (-1), 1) := by decide +kernel
theorem d_Co_codeRow_52 : decode b_Co_codeRow 52 = .ok (.if_icmp .eq (9), 3) := by decide +kernel
theorem d_Co_codeRow_55 : decode b_Co_codeRow 55 = .ok (.iload 7, 2) := by decide +kernel
theorem d_Co_codeRow_57 : decode b_Co_codeRow 57 = .ok (.istore_n 3, 1) := by decide +kernel
theorem d_Co_codeRow_58 : decode b_Co_codeRow 58 = .ok (.goto (42), 3) := by decide +kernel
theorem d_Co_codeRow_61 : decode b_Co_codeRow 61 = .ok (.aload_n 0, 1) := by decide +kernel
theorem d_Co_codeRow_62 : decode b_Co_codeRow 62 = .ok (.iload_n 3, 1) := by decide +kernel
theorem d_Co_codeRow_63 : decode b_Co_codeRow 63 = .ok (.iload 5, 2) := by decide +kernel
theorem d_Co_codeRow_65 : decode b_Co_codeRow 65 = .ok (.iload 4, 2) := by decide +kernel
theorem d_Co_codeRow_67 : decode b_Co_codeRow 67 = .ok (.isub, 1) := by decide +kernel
theorem d_Co_codeRow_68 : decode b_Co_codeRow 68 = .ok (.invokevirtual 80, 3) := by decide +kernel
theorem d_Co_codeRow_71 : decode b_Co_codeRow 71 = .ok (.aload_n 0, 1) := by decide +kernel
theorem d_Co_codeRow_72 : decode b_Co_codeRow 72 = .ok (.getfield 37, 3) := by decide +kernel
theorem d_Co_codeRow_75 : decode b_Co_codeRow 75 = .ok (.iload_n 3, 1) := by decide +kernel
theorem d_Co_codeRow_76 : decode b_Co_codeRow 76 = .ok (.iload 6, 2) := by decide +kernel
theorem d_Co_codeRow_78 : decode b_Co_codeRow 78 = .ok (.invokevirtual 84, 3) := by decide +kernel
theorem d_Co_codeRow_81 : decode b_Co_codeRow 81 = .ok (.aload_n 0, 1) := by decide +kernel
theorem d_Co_codeRow_82 : decode b_Co_codeRow 82 = .ok (.iload_n 2, 1) := by decide +kernel
theorem d_Co_codeRow_83 : decode b_Co_codeRow 83 = .ok (.invokevirtual 87, 3) := by decide +kernel
theorem d_Co_codeRow_86 : decode b_Co_codeRow 86 = .ok (.ifCond .eq (7), 3) := by decide +kernel
theorem d_Co_codeRow_89 : decode b_Co_codeRow 89 = .ok (.aload_n 0, 1) := by decide +kernel
theorem d_Co_codeRow_90 : decode b_Co_codeRow 90 = .ok (.invokevirtual 66, 3) := by decide +kernel
theorem d_Co_codeRow_93 : decode b_Co_codeRow 93 = .ok (.iload 6, 2) := by decide +kernel
theorem d_Co_codeRow_95 : decode b_Co_codeRow 95 = .ok (.istore_n 3, 1) := by decide +kernel
theorem d_Co_codeRow_96 : decode b_Co_codeRow 96 = .ok (.iload 5, 2) := by decide +kernel
theorem d_Co_codeRow_98 : decode b_Co_codeRow 98 = .ok (.istore 4, 2) := by decide +kernel
theorem d_Co_codeRow_100 : decode b_Co_codeRow 100 = .ok (.iinc 5 (1), 3) := by decide +kernel
theorem d_Co_codeRow_103 : decode b_Co_codeRow 103 = .ok (.goto (-83), 3) := by decide +kernel
theorem d_Co_codeRow_106 : decode b_Co_codeRow 106 = .ok (.aload_n 1, 1) := by decide +kernel
theorem d_Co_codeRow_107 : decode b_Co_codeRow 107 = .ok (.getfield 73, 3) := by decide +kernel
theorem d_Co_codeRow_110 : decode b_Co_codeRow 110 = .ok (.ifCond .le (15), 3) := by decide +kernel
theorem d_Co_codeRow_113 : decode b_Co_codeRow 113 = .ok (.aload_n 0, 1) := by decide +kernel
theorem d_Co_codeRow_114 : decode b_Co_codeRow 114 = .ok (.iload_n 3, 1) := by decide +kernel
theorem d_Co_codeRow_115 : decode b_Co_codeRow 115 = .ok (.aload_n 1, 1) := by decide +kernel
theorem d_Co_codeRow_116 : decode b_Co_codeRow 116 = .ok (.getfield 73, 3) := by decide +kernel
theorem d_Co_codeRow_119 : decode b_Co_codeRow 119 = .ok (.iload 4, 2) := by decide +kernel
theorem d_Co_codeRow_121 : decode b_Co_codeRow 121 = .ok (.isub, 1) := by decide +kernel
theorem d_Co_codeRow_122 : decode b_Co_codeRow 122 = .ok (.invokevirtual 80, 3) := by decide +kernel
theorem d_Co_codeRow_125 : decode b_Co_codeRow 125 = .ok (.aload_n 0, 1) := by decide +kernel
theorem d_Co_codeRow_126 : decode b_Co_codeRow 126 = .ok (.aload_n 0, 1) := by decide +kernel
theorem d_Co_codeRow_127 : decode b_Co_codeRow 127 = .ok (.getfield 24, 3) := by decide +kernel
theorem d_Co_codeRow_130 : decode b_Co_codeRow 130 = .ok (.invokevirtual 91, 3) := by decide +kernel
theorem d_Co_codeRow_133 : decode b_Co_codeRow 133 = .ok (.aload_n 0, 1) := by decide +kernel
theorem d_Co_codeRow_134 : decode b_Co_codeRow 134 = .ok (.invokevirtual 94, 3) := by decide +kernel
theorem d_Co_codeRow_137 : decode b_Co_codeRow 137 = .ok (.return_, 1) := by decide +kernel
theorem d_Co_writeClear_0 : decode b_Co_writeClear 0 = .ok (.aload_n 0, 1) := by decide +kernel
theorem d_Co_writeClear_1 : decode b_Co_writeClear 1 = .ok (.aload_n 0, 1) := by decide +kernel
theorem d_Co_writeClear_2 : decode b_Co_writeClear 2 = .ok (.getfield 20, 3) := by decide +kernel
theorem d_Co_writeClear_5 : decode b_Co_writeClear 5 = .ok (.invokevirtual 91, 3) := by decide +kernel
theorem d_Co_writeClear_8 : decode b_Co_writeClear 8 = .ok (.aload_n 0, 1) := by decide +kernel
theorem d_Co_writeClear_9 : decode b_Co_writeClear 9 = .ok (.dup, 1) := by decide +kernel
theorem d_Co_writeClear_10 : decode b_Co_writeClear 10 = .ok (.getfield 51, 3) := by decide +kernel
theorem d_Co_writeClear_13 : decode b_Co_writeClear 13 = .ok (.iconst (1), 1) := by decide +kernel
theorem d_Co_writeClear_14 : decode b_Co_writeClear 14 = .ok (.iadd, 1) := by decide +kernel
theorem d_Co_writeClear_15 : decode b_Co_writeClear 15 = .ok (.putfield 51, 3) := by decide +kernel
theorem d_Co_writeClear_18 : decode b_Co_writeClear 18 = .ok (.aload_n 0, 1) := by decide +kernel
theorem d_Co_writeClear_19 : decode b_Co_writeClear 19 = .ok (.getfield 37, 3) := by decide +kernel
theorem d_Co_writeClear_22 : decode b_Co_writeClear 22 = .ok (.invokevirtual 44, 3) := by decide +kernel
theorem d_Co_writeClear_25 : decode b_Co_writeClear 25 = .ok (.aload_n 0, 1) := by decide +kernel
theorem d_Co_writeClear_26 : decode b_Co_writeClear 26 = .ok (.getfield 30, 3) := by decide +kernel
theorem d_Co_writeClear_29 : decode b_Co_writeClear 29 = .ok (.invokevirtual 45, 3) := by decide +kernel
theorem d_Co_writeClear_32 : decode b_Co_writeClear 32 = .ok (.aload_n 0, 1) := by decide +kernel
theorem d_Co_writeClear_33 : decode b_Co_writeClear 33 = .ok (.invokevirtual 97, 3) := by decide +kernel
theorem d_Co_writeClear_36 : decode b_Co_writeClear 36 = .ok (.return_, 1) := by decide +kernel
theorem d_Co_writeEntry_0 : decode b_Co_writeEntry 0 = .ok (.aload_n 0, 1) := by decide +kernel
theorem d_Co_writeEntry_1 : decode b_Co_writeEntry 1 = .ok (.iload_n 1, 1) := by decide +kernel
theorem d_Co_writeEntry_2 : decode b_Co_writeEntry 2 = .ok (.invokevirtual 91, 3) := by decide +kernel
theorem d_Co_writeEntry_5 : decode b_Co_writeEntry 5 = .ok (.aload_n 0, 1) := by decide +kernel
theorem d_Co_writeEntry_6 : decode b_Co_writeEntry 6 = .ok (.getfield 30, 3) := by decide +kernel
theorem d_Co_writeEntry_9 : decode b_Co_writeEntry 9 = .ok (.invokevirtual 100, 3) := by decide +kernel
theorem d_Co_writeEntry_12 : decode b_Co_writeEntry 12 = .ok (.aload_n 0, 1) := by decide +kernel
theorem d_Co_writeEntry_13 : decode b_Co_writeEntry 13 = .ok (.getfield 37, 3) := by decide +kernel
theorem d_Co_writeEntry_16 : decode b_Co_writeEntry 16 = .ok (.invokevirtual 103, 3) := by decide +kernel
theorem d_Co_writeEntry_19 : decode b_Co_writeEntry 19 = .ok (.ifCond .eq (23), 3) := by decide +kernel
theorem d_Co_writeEntry_22 : decode b_Co_writeEntry 22 = .ok (.aload_n 0, 1) := by decide +kernel
theorem d_Co_writeEntry_23 : decode b_Co_writeEntry 23 = .ok (.dup, 1) := by decide +kernel
theorem d_Co_writeEntry_24 : decode b_Co_writeEntry 24 = .ok (.getfield 107, 3) := by decide +kernel
theorem d_Co_writeEntry_27 : decode b_Co_writeEntry 27 = .ok (.iconst (1), 1) := by decide +kernel
theorem d_Co_writeEntry_28 : decode b_Co_writeEntry 28 = .ok (.iadd, 1) := by decide +kernel
theorem d_Co_writeEntry_29 : decode b_Co_writeEntry 29 = .ok (.putfield 107, 3) := by decide +kernel
theorem d_Co_writeEntry_32 : decode b_Co_writeEntry 32 = .ok (.aload_n 0, 1) := by decide +kernel
theorem d_Co_writeEntry_33 : decode b_Co_writeEntry 33 = .ok (.dup, 1) := by decide +kernel
theorem d_Co_writeEntry_34 : decode b_Co_writeEntry 34 = .ok (.getfield 110, 3) := by decide +kernel
theorem d_Co_writeEntry_37 : decode b_Co_writeEntry 37 = .ok (.iload_n 2, 1) := by decide +kernel
theorem d_Co_writeEntry_38 : decode b_Co_writeEntry 38 = .ok (.iadd, 1) := by decide +kernel
theorem d_Co_writeEntry_39 : decode b_Co_writeEntry 39 = .ok (.putfield 110, 3) := by decide +kernel
theorem d_Co_writeEntry_42 : decode b_Co_writeEntry 42 = .ok (.return_, 1) := by decide +kernel
theorem d_Co_isClearDue_0 : decode b_Co_isClearDue 0 = .ok (.iload_n 1, 1) := by decide +kernel
theorem d_Co_isClearDue_1 : decode b_Co_isClearDue 1 = .ok (.iconst (1), 1) := by decide +kernel
theorem d_Co_isClearDue_2 : decode b_Co_isClearDue 2 = .ok (.if_icmp .eq (13), 3) := by decide +kernel
theorem d_Co_isClearDue_5 : decode b_Co_isClearDue 5 = .ok (.aload_n 0, 1) := by decide +kernel
theorem d_Co_isClearDue_6 : decode b_Co_isClearDue 6 = .ok (.getfield 37, 3) := by decide +kernel
theorem d_Co_isClearDue_9 : decode b_Co_isClearDue 9 = .ok (.invokevirtual 103, 3) := by decide +kernel
theorem d_Co_isClearDue_12 : decode b_Co_isClearDue 12 = .ok (.ifCond .ne (5), 3) := by decide +kernel
theorem d_Co_isClearDue_15 : decode b_Co_isClearDue 15 = .ok (.iconst (0), 1) := by decide +kernel
theorem d_Co_isClearDue_16 : decode b_Co_isClearDue 16 = .ok (.ireturn, 1) := by decide +kernel
theorem d_Co_isClearDue_17 : decode b_Co_isClearDue 17 = .ok (.iload_n 1, 1) := by decide +kernel
theorem d_Co_isClearDue_18 : decode b_Co_isClearDue 18 = .ok (.ifCond .ne (5), 3) := by decide +kernel
theorem d_Co_isClearDue_21 : decode b_Co_isClearDue 21 = .ok (.iconst (1), 1) := by decide +kernel
theorem d_Co_isClearDue_22 : decode b_Co_isClearDue 22 = .ok (.ireturn, 1) := by decide +kernel
theorem d_Co_isClearDue_23 : decode b_Co_isClearDue 23 = .ok (.aload_n 0, 1) := by decide +kernel
theorem d_Co_isClearDue_24 : decode b_Co_isClearDue 24 = .ok (.getfield 107, 3) := by decide +kernel
theorem d_Co_isClearDue_27 : decode b_Co_isClearDue 27 = .ok (.bipush (64), 2) := by decide +kernel
theorem d_Co_isClearDue_29 : decode b_Co_isClearDue 29 = .ok (.if_icmp .ge (5), 3) := by decide +kernel
theorem d_Co_isClearDue_32 : decode b_Co_isClearDue 32 = .ok (.iconst (0), 1) := by decide +kernel
theorem d_Co_isClearDue_33 : decode b_Co_isClearDue 33 = .ok (.ireturn, 1) := by decide +kernel
theorem d_Co_isClearDue_34 : decode b_Co_isClearDue 34 = .ok (.aload_n 0, 1) := by decide +kernel
theorem d_Co_isClearDue_35 : decode b_Co_isClearDue 35 = .ok (.getfield 110, 3) := by decide +kernel
theorem d_Co_isClearDue_38 : decode b_Co_isClearDue 38 = .ok (.sipush (256), 3) := by decide +kernel
theorem d_Co_isClearDue_41 : decode b_Co_isClearDue 41 = .ok (.if_icmp .ge (7), 3) := by decide +kernel
theorem d_Co_isClearDue_44 : decode b_Co_isClearDue 44 = .ok (.iconst (1), 1) := by decide +kernel
theorem d_Co_isClearDue_45 : decode b_Co_isClearDue 45 = .ok (.goto (4), 3) := by decide +kernel
theorem d_Co_isClearDue_48 : decode b_Co_isClearDue 48 = .ok (.iconst (0), 1) := by decide +kernel
theorem d_Co_isClearDue_49 : decode b_Co_isClearDue 49 = .ok (.istore_n 2, 1) := by decide +kernel
theorem d_Co_isClearDue_50 : decode b_Co_isClearDue 50 = .ok (.aload_n 0, 1) := by decide +kernel
theorem d_Co_isClearDue_51 : decode b_Co_isClearDue 51 = .ok (.invokevirtual 97, 3) := by decide +kernel
theorem d_Co_isClearDue_54 : decode b_Co_isClearDue 54 = .ok (.iload_n 2, 1) := by decide +kernel
theorem d_Co_isClearDue_55 : decode b_Co_isClearDue 55 = .ok (.ireturn, 1) := by decide +kernel
theorem d_Co_startLook_0 : decode b_Co_startLook 0 = .ok (.aload_n 0, 1) := by decide +kernel
theorem d_Co_startLook_1 : decode b_Co_startLook 1 = .ok (.iconst (0), 1) := by decide +kernel
theorem d_Co_startLook_2 : decode b_Co_startLook 2 = .ok (.putfield 107, 3) := by decide +kernel
theorem d_Co_startLook_5 : decode b_Co_startLook 5 = .ok (.aload_n 0, 1) := by decide +kernel
theorem d_Co_startLook_6 : decode b_Co_startLook 6 = .ok (.iconst (0), 1) := by decide +kernel
theorem d_Co_startLook_7 : decode b_Co_startLook 7 = .ok (.putfield 110, 3) := by decide +kernel
theorem d_Co_startLook_10 : decode b_Co_startLook 10 = .ok (.return_, 1) := by decide +kernel
