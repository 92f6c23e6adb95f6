theorem dX9_init_0 : decode cX9_init 0 = .ok (.aload_n 0, 1) := by decide +kernel
theorem dX9_init_1 : decode cX9_init 1 = .ok (.invokespecial 3, 3) := by decide +kernel
theorem dX9_init_4 : decode cX9_init 4 = .ok (.aload_n 0, 1) := by decide +kernel
theorem dX9_init_5 : decode cX9_init 5 = .ok (.new 9, 3) := by decide +kernel
theorem dX9_init_8 : decode cX9_init 8 = .ok (.dup, 1) := by decide +kernel
theorem dX9_init_9 : decode cX9_init 9 = .ok (.invokespecial 11, 3) := by decide +kernel
theorem dX5_init_0 : decode cX5_init 0 = .ok (.aload_n 0, 1) := by decide +kernel
theorem dX5_init_1 : decode cX5_init 1 = .ok (.invokespecial 3, 3) := by decide +kernel
theorem dX5_init_4 : decode cX5_init 4 = .ok (.aload_n 0, 1) := by decide +kernel
theorem dX5_init_5 : decode cX5_init 5 = .ok (.iconst 3, 1) := by decide +kernel
theorem dX5_init_6 : decode cX5_init 6 = .ok (.anewarray 9, 3) := by decide +kernel
theorem dX5_init_9 : decode cX5_init 9 = .ok (.putfield 11, 3) := by decide +kernel
theorem dX5_init_12 : decode cX5_init 12 = .ok (.iconst 0, 1) := by decide +kernel
theorem dX5_init_13 : decode cX5_init 13 = .ok (.istore_n 1, 1) := by decide +kernel
theorem dX5_init_14 : decode cX5_init 14 = .ok (.iload_n 1, 1) := by decide +kernel
theorem dX5_init_15 : decode cX5_init 15 = .ok (.iconst 3, 1) := by decide +kernel
theorem dX5_init_16 : decode cX5_init 16 = .ok (.if_icmp .ge 22, 3) := by decide +kernel
theorem dX5_init_19 : decode cX5_init 19 = .ok (.aload_n 0, 1) := by decide +kernel
theorem dX5_init_20 : decode cX5_init 20 = .ok (.getfield 11, 3) := by decide +kernel
theorem dX5_init_23 : decode cX5_init 23 = .ok (.iload_n 1, 1) := by decide +kernel
theorem dX5_init_24 : decode cX5_init 24 = .ok (.new 9, 3) := by decide +kernel
theorem dX5_init_27 : decode cX5_init 27 = .ok (.dup, 1) := by decide +kernel
theorem dX5_init_28 : decode cX5_init 28 = .ok (.invokespecial 17, 3) := by decide +kernel
theorem dX4_init_0 : decode cX4_init 0 = .ok (.aload_n 0, 1) := by decide +kernel
theorem dX4_init_1 : decode cX4_init 1 = .ok (.invokespecial 3, 3) := by decide +kernel
theorem dX4_init_4 : decode cX4_init 4 = .ok (.aload_n 0, 1) := by decide +kernel
theorem dX4_init_5 : decode cX4_init 5 = .ok (.iconst 0, 1) := by decide +kernel
theorem dX4_init_6 : decode cX4_init 6 = .ok (.putfield 9, 3) := by decide +kernel
theorem dX4_init_9 : decode cX4_init 9 = .ok (.aload_n 0, 1) := by decide +kernel
theorem dX4_init_10 : decode cX4_init 10 = .ok (.bipush 8, 2) := by decide +kernel
theorem dX4_init_12 : decode cX4_init 12 = .ok (.putfield 15, 3) := by decide +kernel
theorem dX4_init_15 : decode cX4_init 15 = .ok (.aload_n 0, 1) := by decide +kernel
theorem dX4_init_16 : decode cX4_init 16 = .ok (.bipush 16, 2) := by decide +kernel
theorem dX4_init_18 : decode cX4_init 18 = .ok (.newarray .int, 2) := by decide +kernel
theorem dX4_init_20 : decode cX4_init 20 = .ok (.putfield 18, 3) := by decide +kernel
theorem dX4_init_23 : decode cX4_init 23 = .ok (.aload_n 0, 1) := by decide +kernel
theorem dX4_init_24 : decode cX4_init 24 = .ok (.bipush 16, 2) := by decide +kernel
theorem dX4_init_26 : decode cX4_init 26 = .ok (.newarray .int, 2) := by decide +kernel
theorem dX4_init_28 : decode cX4_init 28 = .ok (.putfield 22, 3) := by decide +kernel
theorem dX4_init_31 : decode cX4_init 31 = .ok (.aload_n 0, 1) := by decide +kernel
theorem dX4_init_32 : decode cX4_init 32 = .ok (.bipush 48, 2) := by decide +kernel
theorem dX4_init_34 : decode cX4_init 34 = .ok (.newarray .int, 2) := by decide +kernel
theorem dX4_init_36 : decode cX4_init 36 = .ok (.putfield 25, 3) := by decide +kernel
theorem dX4_init_39 : decode cX4_init 39 = .ok (.return_, 1) := by decide +kernel
theorem dX5_init_31 : decode cX5_init 31 = .ok (.aastore, 1) := by decide +kernel
theorem dX5_init_32 : decode cX5_init 32 = .ok (.iinc 1 1, 3) := by decide +kernel
theorem dX5_init_35 : decode cX5_init 35 = .ok (.goto (-21), 3) := by decide +kernel
theorem dX5_init_38 : decode cX5_init 38 = .ok (.aload_n 0, 1) := by decide +kernel
theorem dX5_init_39 : decode cX5_init 39 = .ok (.bipush 12, 2) := by decide +kernel
theorem dX5_init_41 : decode cX5_init 41 = .ok (.anewarray 18, 3) := by decide +kernel
theorem dX5_init_44 : decode cX5_init 44 = .ok (.putfield 20, 3) := by decide +kernel
theorem dX5_init_47 : decode cX5_init 47 = .ok (.iconst 0, 1) := by decide +kernel
theorem dX5_init_48 : decode cX5_init 48 = .ok (.istore_n 1, 1) := by decide +kernel
theorem dX5_init_49 : decode cX5_init 49 = .ok (.iload_n 1, 1) := by decide +kernel
theorem dX5_init_50 : decode cX5_init 50 = .ok (.bipush 12, 2) := by decide +kernel
theorem dX5_init_52 : decode cX5_init 52 = .ok (.if_icmp .ge 22, 3) := by decide +kernel
theorem dX5_init_55 : decode cX5_init 55 = .ok (.aload_n 0, 1) := by decide +kernel
theorem dX5_init_56 : decode cX5_init 56 = .ok (.getfield 20, 3) := by decide +kernel
theorem dX5_init_59 : decode cX5_init 59 = .ok (.iload_n 1, 1) := by decide +kernel
theorem dX5_init_60 : decode cX5_init 60 = .ok (.new 18, 3) := by decide +kernel
theorem dX5_init_63 : decode cX5_init 63 = .ok (.dup, 1) := by decide +kernel
theorem dX5_init_64 : decode cX5_init 64 = .ok (.invokespecial 24, 3) := by decide +kernel
theorem dX3_init_0 : decode cX3_init 0 = .ok (.aload_n 0, 1) := by decide +kernel
theorem dX3_init_1 : decode cX3_init 1 = .ok (.invokespecial 3, 3) := by decide +kernel
theorem dX3_init_4 : decode cX3_init 4 = .ok (.aload_n 0, 1) := by decide +kernel
theorem dX3_init_5 : decode cX3_init 5 = .ok (.iconst 0, 1) := by decide +kernel
theorem dX3_init_6 : decode cX3_init 6 = .ok (.putfield 9, 3) := by decide +kernel
theorem dX3_init_9 : decode cX3_init 9 = .ok (.return_, 1) := by decide +kernel
theorem dX5_init_67 : decode cX5_init 67 = .ok (.aastore, 1) := by decide +kernel
theorem dX5_init_68 : decode cX5_init 68 = .ok (.iinc 1 1, 3) := by decide +kernel
theorem dX5_init_71 : decode cX5_init 71 = .ok (.goto (-22), 3) := by decide +kernel
theorem dX5_init_74 : decode cX5_init 74 = .ok (.aload_n 0, 1) := by decide +kernel
theorem dX5_init_75 : decode cX5_init 75 = .ok (.new 25, 3) := by decide +kernel
theorem dX5_init_78 : decode cX5_init 78 = .ok (.dup, 1) := by decide +kernel
theorem dX5_init_79 : decode cX5_init 79 = .ok (.invokespecial 27, 3) := by decide +kernel
theorem dX2_init_0 : decode cX2_init 0 = .ok (.aload_n 0, 1) := by decide +kernel
theorem dX2_init_1 : decode cX2_init 1 = .ok (.invokespecial 1, 3) := by decide +kernel
theorem dX2_init_4 : decode cX2_init 4 = .ok (.aload_n 0, 1) := by decide +kernel
theorem dX2_init_5 : decode cX2_init 5 = .ok (.bipush 16, 2) := by decide +kernel
theorem dX2_init_7 : decode cX2_init 7 = .ok (.newarray .long, 2) := by decide +kernel
theorem dX2_init_9 : decode cX2_init 9 = .ok (.putfield 9, 3) := by decide +kernel
theorem dX2_init_12 : decode cX2_init 12 = .ok (.aload_n 0, 1) := by decide +kernel
theorem dX2_init_13 : decode cX2_init 13 = .ok (.iconst 0, 1) := by decide +kernel
theorem dX2_init_14 : decode cX2_init 14 = .ok (.putfield 13, 3) := by decide +kernel
theorem dX2_init_17 : decode cX2_init 17 = .ok (.aload_n 0, 1) := by decide +kernel
theorem dX2_init_18 : decode cX2_init 18 = .ok (.iconst 0, 1) := by decide +kernel
theorem dX2_init_19 : decode cX2_init 19 = .ok (.putfield 17, 3) := by decide +kernel
theorem dX2_init_22 : decode cX2_init 22 = .ok (.return_, 1) := by decide +kernel
theorem dX5_init_82 : decode cX5_init 82 = .ok (.putfield 28, 3) := by decide +kernel
theorem dX5_init_85 : decode cX5_init 85 = .ok (.aload_n 0, 1) := by decide +kernel
theorem dX5_init_86 : decode cX5_init 86 = .ok (.new 25, 3) := by decide +kernel
theorem dX5_init_89 : decode cX5_init 89 = .ok (.dup, 1) := by decide +kernel
theorem dX5_init_90 : decode cX5_init 90 = .ok (.invokespecial 27, 3) := by decide +kernel
theorem dX5_init_93 : decode cX5_init 93 = .ok (.putfield 32, 3) := by decide +kernel
theorem dX5_init_96 : decode cX5_init 96 = .ok (.aload_n 0, 1) := by decide +kernel
theorem dX5_init_97 : decode cX5_init 97 = .ok (.new 25, 3) := by decide +kernel
theorem dX5_init_100 : decode cX5_init 100 = .ok (.dup, 1) := by decide +kernel
theorem dX5_init_101 : decode cX5_init 101 = .ok (.invokespecial 27, 3) := by decide +kernel
theorem dX5_init_104 : decode cX5_init 104 = .ok (.putfield 35, 3) := by decide +kernel
theorem dX5_init_107 : decode cX5_init 107 = .ok (.aload_n 0, 1) := by decide +kernel
theorem dX5_init_108 : decode cX5_init 108 = .ok (.new 25, 3) := by decide +kernel
theorem dX5_init_111 : decode cX5_init 111 = .ok (.dup, 1) := by decide +kernel
theorem dX5_init_112 : decode cX5_init 112 = .ok (.invokespecial 27, 3) := by decide +kernel
theorem dX5_init_115 : decode cX5_init 115 = .ok (.putfield 38, 3) := by decide +kernel
theorem dX5_init_118 : decode cX5_init 118 = .ok (.aload_n 0, 1) := by decide +kernel
theorem dX5_init_119 : decode cX5_init 119 = .ok (.new 41, 3) := by decide +kernel
theorem dX5_init_122 : decode cX5_init 122 = .ok (.dup, 1) := by decide +kernel
theorem dX5_init_123 : decode cX5_init 123 = .ok (.invokespecial 43, 3) := by decide +kernel
theorem dX7_init_0 : decode cX7_init 0 = .ok (.aload_n 0, 1) := by decide +kernel
theorem dX7_init_1 : decode cX7_init 1 = .ok (.invokespecial 3, 3) := by decide +kernel
theorem dX7_init_4 : decode cX7_init 4 = .ok (.aload_n 0, 1) := by decide +kernel
theorem dX7_init_5 : decode cX7_init 5 = .ok (.bipush 40, 2) := by decide +kernel
theorem dX7_init_7 : decode cX7_init 7 = .ok (.newarray .byte, 2) := by decide +kernel
theorem dX7_init_9 : decode cX7_init 9 = .ok (.putfield 9, 3) := by decide +kernel
theorem dX7_init_12 : decode cX7_init 12 = .ok (.aload_n 0, 1) := by decide +kernel
theorem dX7_init_13 : decode cX7_init 13 = .ok (.iconst 0, 1) := by decide +kernel
theorem dX7_init_14 : decode cX7_init 14 = .ok (.putfield 15, 3) := by decide +kernel
theorem dX7_init_17 : decode cX7_init 17 = .ok (.return_, 1) := by decide +kernel
theorem dX5_init_126 : decode cX5_init 126 = .ok (.putfield 44, 3) := by decide +kernel
theorem dX5_init_129 : decode cX5_init 129 = .ok (.aload_n 0, 1) := by decide +kernel
theorem dX5_init_130 : decode cX5_init 130 = .ok (.new 48, 3) := by decide +kernel
theorem dX5_init_133 : decode cX5_init 133 = .ok (.dup, 1) := by decide +kernel
theorem dX5_init_134 : decode cX5_init 134 = .ok (.invokespecial 50, 3) := by decide +kernel
theorem dX1_init_0 : decode cX1_init 0 = .ok (.aload_n 0, 1) := by decide +kernel
theorem dX1_init_1 : decode cX1_init 1 = .ok (.invokespecial 3, 3) := by decide +kernel
theorem dX1_init_4 : decode cX1_init 4 = .ok (.aload_n 0, 1) := by decide +kernel
theorem dX1_init_5 : decode cX1_init 5 = .ok (.bipush 32, 2) := by decide +kernel
theorem dX1_init_7 : decode cX1_init 7 = .ok (.newarray .int, 2) := by decide +kernel
theorem dX1_init_9 : decode cX1_init 9 = .ok (.putfield 9, 3) := by decide +kernel
theorem dX1_init_12 : decode cX1_init 12 = .ok (.aload_n 0, 1) := by decide +kernel
theorem dX1_init_13 : decode cX1_init 13 = .ok (.iconst 0, 1) := by decide +kernel
theorem dX1_init_14 : decode cX1_init 14 = .ok (.putfield 15, 3) := by decide +kernel
theorem dX1_init_17 : decode cX1_init 17 = .ok (.return_, 1) := by decide +kernel
theorem dX5_init_137 : decode cX5_init 137 = .ok (.putfield 51, 3) := by decide +kernel
theorem dX5_init_140 : decode cX5_init 140 = .ok (.return_, 1) := by decide +kernel
theorem dX9_init_12 : decode cX9_init 12 = .ok (.putfield 12, 3) := by decide +kernel
theorem dX9_init_15 : decode cX9_init 15 = .ok (.aload_n 0, 1) := by decide +kernel
theorem dX9_init_16 : decode cX9_init 16 = .ok (.aconst_null, 1) := by decide +kernel
theorem dX9_init_17 : decode cX9_init 17 = .ok (.putfield 18, 3) := by decide +kernel
theorem dX9_init_20 : decode cX9_init 20 = .ok (.aload_n 0, 1) := by decide +kernel
theorem dX9_init_21 : decode cX9_init 21 = .ok (.aconst_null, 1) := by decide +kernel
theorem dX9_init_22 : decode cX9_init 22 = .ok (.putfield 21, 3) := by decide +kernel
theorem dX9_init_25 : decode cX9_init 25 = .ok (.return_, 1) := by decide +kernel
theorem dX9_source_0 : decode cX9_source 0 = .ok (.iload_n 1, 1) := by decide +kernel
theorem dX9_source_1 : decode cX9_source 1 = .ok (.iconst 1, 1) := by decide +kernel
theorem dX9_source_2 : decode cX9_source 2 = .ok (.if_icmp .lt 8, 3) := by decide +kernel
theorem dX9_source_10 : decode cX9_source 10 = .ok (.bipush (-2), 2) := by decide +kernel
theorem dX9_source_12 : decode cX9_source 12 = .ok (.ireturn, 1) := by decide +kernel
theorem dX9_source_5 : decode cX9_source 5 = .ok (.iload_n 1, 1) := by decide +kernel
theorem dX9_source_6 : decode cX9_source 6 = .ok (.iconst 3, 1) := by decide +kernel
theorem dX9_source_7 : decode cX9_source 7 = .ok (.if_icmp .le 6, 3) := by decide +kernel
theorem dX9_source_13 : decode cX9_source 13 = .ok (.aload_n 0, 1) := by decide +kernel
theorem dX9_source_14 : decode cX9_source 14 = .ok (.getfield 12, 3) := by decide +kernel
theorem dX9_source_17 : decode cX9_source 17 = .ok (.getfield 24, 3) := by decide +kernel
theorem dX9_source_20 : decode cX9_source 20 = .ok (.iconst 3, 1) := by decide +kernel
theorem dX9_source_21 : decode cX9_source 21 = .ok (.if_icmp .lt 6, 3) := by decide +kernel
theorem dX9_source_27 : decode cX9_source 27 = .ok (.aload_n 0, 1) := by decide +kernel
theorem dX9_source_28 : decode cX9_source 28 = .ok (.getfield 12, 3) := by decide +kernel
theorem dX9_source_31 : decode cX9_source 31 = .ok (.getfield 28, 3) := by decide +kernel
theorem dX9_source_34 : decode cX9_source 34 = .ok (.ifCond .le 6, 3) := by decide +kernel
theorem dX9_source_40 : decode cX9_source 40 = .ok (.aload_n 0, 1) := by decide +kernel
theorem dX9_source_41 : decode cX9_source 41 = .ok (.getfield 12, 3) := by decide +kernel
theorem dX9_source_44 : decode cX9_source 44 = .ok (.iload_n 1, 1) := by decide +kernel
theorem dX9_source_45 : decode cX9_source 45 = .ok (.invokevirtual 31, 3) := by decide +kernel
theorem dX5_addSource_0 : decode cX5_addSource 0 = .ok (.aload_n 0, 1) := by decide +kernel
theorem dX5_addSource_1 : decode cX5_addSource 1 = .ok (.getfield 62, 3) := by decide +kernel
theorem dX5_addSource_4 : decode cX5_addSource 4 = .ok (.ifCond .lt 11, 3) := by decide +kernel
theorem dX5_addSource_7 : decode cX5_addSource 7 = .ok (.aload_n 0, 1) := by decide +kernel
theorem dX5_addSource_8 : decode cX5_addSource 8 = .ok (.getfield 62, 3) := by decide +kernel
theorem dX5_addSource_11 : decode cX5_addSource 11 = .ok (.iconst 3, 1) := by decide +kernel
theorem dX5_addSource_12 : decode cX5_addSource 12 = .ok (.if_icmp .lt 6, 3) := by decide +kernel
theorem dX5_addSource_18 : decode cX5_addSource 18 = .ok (.aload_n 0, 1) := by decide +kernel
theorem dX5_addSource_19 : decode cX5_addSource 19 = .ok (.getfield 11, 3) := by decide +kernel
theorem dX5_addSource_22 : decode cX5_addSource 22 = .ok (.aload_n 0, 1) := by decide +kernel
theorem dX5_addSource_23 : decode cX5_addSource 23 = .ok (.getfield 62, 3) := by decide +kernel
theorem dX5_addSource_26 : decode cX5_addSource 26 = .ok (.aaload, 1) := by decide +kernel
theorem dX5_addSource_27 : decode cX5_addSource 27 = .ok (.iload_n 1, 1) := by decide +kernel
theorem dX5_addSource_28 : decode cX5_addSource 28 = .ok (.putfield 93, 3) := by decide +kernel
theorem dX5_addSource_31 : decode cX5_addSource 31 = .ok (.aload_n 0, 1) := by decide +kernel
theorem dX5_addSource_32 : decode cX5_addSource 32 = .ok (.dup, 1) := by decide +kernel
theorem dX5_addSource_33 : decode cX5_addSource 33 = .ok (.getfield 62, 3) := by decide +kernel
theorem dX5_addSource_36 : decode cX5_addSource 36 = .ok (.iconst 1, 1) := by decide +kernel
theorem dX5_addSource_37 : decode cX5_addSource 37 = .ok (.iadd, 1) := by decide +kernel
theorem dX5_addSource_38 : decode cX5_addSource 38 = .ok (.putfield 62, 3) := by decide +kernel
theorem dX5_addSource_41 : decode cX5_addSource 41 = .ok (.aload_n 0, 1) := by decide +kernel
theorem dX5_addSource_42 : decode cX5_addSource 42 = .ok (.getfield 62, 3) := by decide +kernel
theorem dX5_addSource_45 : decode cX5_addSource 45 = .ok (.iconst 1, 1) := by decide +kernel
theorem dX5_addSource_46 : decode cX5_addSource 46 = .ok (.isub, 1) := by decide +kernel
theorem dX5_addSource_47 : decode cX5_addSource 47 = .ok (.ireturn, 1) := by decide +kernel
theorem dX9_source_48 : decode cX9_source 48 = .ok (.ireturn, 1) := by decide +kernel
theorem dX9_window_0 : decode cX9_window 0 = .ok (.aload_n 0, 1) := by decide +kernel
theorem dX9_window_1 : decode cX9_window 1 = .ok (.getfield 12, 3) := by decide +kernel
theorem dX9_window_4 : decode cX9_window 4 = .ok (.iload_n 1, 1) := by decide +kernel
theorem dX9_window_5 : decode cX9_window 5 = .ok (.invokevirtual 35, 3) := by decide +kernel
theorem dX5_hasSource_0 : decode cX5_hasSource 0 = .ok (.iload_n 1, 1) := by decide +kernel
theorem dX5_hasSource_1 : decode cX5_hasSource 1 = .ok (.ifCond .lt 20, 3) := by decide +kernel
theorem dX5_hasSource_21 : decode cX5_hasSource 21 = .ok (.iconst 0, 1) := by decide +kernel
theorem dX5_hasSource_22 : decode cX5_hasSource 22 = .ok (.ireturn, 1) := by decide +kernel
theorem dX5_hasSource_4 : decode cX5_hasSource 4 = .ok (.iload_n 1, 1) := by decide +kernel
theorem dX5_hasSource_5 : decode cX5_hasSource 5 = .ok (.aload_n 0, 1) := by decide +kernel
theorem dX5_hasSource_6 : decode cX5_hasSource 6 = .ok (.getfield 62, 3) := by decide +kernel
theorem dX5_hasSource_9 : decode cX5_hasSource 9 = .ok (.if_icmp .ge 12, 3) := by decide +kernel
theorem dX9_window_8 : decode cX9_window 8 = .ok (.ifCond .ne 5, 3) := by decide +kernel
theorem dX9_window_11 : decode cX9_window 11 = .ok (.iconst (-1), 1) := by decide +kernel
theorem dX9_window_12 : decode cX9_window 12 = .ok (.ireturn, 1) := by decide +kernel
theorem dX9_deliver_0 : decode cX9_deliver 0 = .ok (.aload_n 0, 1) := by decide +kernel
theorem dX9_deliver_1 : decode cX9_deliver 1 = .ok (.getfield 12, 3) := by decide +kernel
theorem dX9_deliver_4 : decode cX9_deliver 4 = .ok (.iload_n 1, 1) := by decide +kernel
theorem dX9_deliver_5 : decode cX9_deliver 5 = .ok (.invokevirtual 35, 3) := by decide +kernel
theorem dX9_deliver_8 : decode cX9_deliver 8 = .ok (.ifCond .ne 5, 3) := by decide +kernel
theorem dX9_deliver_11 : decode cX9_deliver 11 = .ok (.iconst (-1), 1) := by decide +kernel
theorem dX9_deliver_12 : decode cX9_deliver 12 = .ok (.ireturn, 1) := by decide +kernel
theorem dX9_drop_0 : decode cX9_drop 0 = .ok (.aload_n 0, 1) := by decide +kernel
theorem dX9_drop_1 : decode cX9_drop 1 = .ok (.getfield 12, 3) := by decide +kernel
theorem dX9_drop_4 : decode cX9_drop 4 = .ok (.iload_n 1, 1) := by decide +kernel
theorem dX9_drop_5 : decode cX9_drop 5 = .ok (.invokevirtual 35, 3) := by decide +kernel
theorem dX9_drop_8 : decode cX9_drop 8 = .ok (.ifCond .eq 19, 3) := by decide +kernel
theorem dX9_drop_27 : decode cX9_drop 27 = .ok (.iconst (-1), 1) := by decide +kernel
theorem dX9_drop_28 : decode cX9_drop 28 = .ok (.ireturn, 1) := by decide +kernel
theorem dX9_feed_0 : decode cX9_feed 0 = .ok (.iload_n 1, 1) := by decide +kernel
theorem dX9_feed_1 : decode cX9_feed 1 = .ok (.ifCond .lt 9, 3) := by decide +kernel
theorem dX9_feed_10 : decode cX9_feed 10 = .ok (.bipush (-2), 2) := by decide +kernel
theorem dX9_feed_12 : decode cX9_feed 12 = .ok (.ireturn, 1) := by decide +kernel
theorem dX9_feed_4 : decode cX9_feed 4 = .ok (.iload_n 1, 1) := by decide +kernel
theorem dX9_feed_5 : decode cX9_feed 5 = .ok (.bipush 127, 2) := by decide +kernel
theorem dX9_feed_7 : decode cX9_feed 7 = .ok (.if_icmp .le 6, 3) := by decide +kernel
theorem dX9_feed_13 : decode cX9_feed 13 = .ok (.aload_n 0, 1) := by decide +kernel
theorem dX9_feed_14 : decode cX9_feed 14 = .ok (.getfield 12, 3) := by decide +kernel
theorem dX9_feed_17 : decode cX9_feed 17 = .ok (.getfield 108, 3) := by decide +kernel
theorem dX9_feed_20 : decode cX9_feed 20 = .ok (.getfield 112, 3) := by decide +kernel
theorem dX9_feed_23 : decode cX9_feed 23 = .ok (.bipush 40, 2) := by decide +kernel
theorem dX9_feed_25 : decode cX9_feed 25 = .ok (.if_icmp .lt 6, 3) := by decide +kernel
theorem dX9_feed_31 : decode cX9_feed 31 = .ok (.aload_n 0, 1) := by decide +kernel
theorem dX9_feed_32 : decode cX9_feed 32 = .ok (.getfield 12, 3) := by decide +kernel
theorem dX9_feed_35 : decode cX9_feed 35 = .ok (.getfield 108, 3) := by decide +kernel
theorem dX9_feed_38 : decode cX9_feed 38 = .ok (.iload_n 1, 1) := by decide +kernel
theorem dX9_feed_39 : decode cX9_feed 39 = .ok (.invokevirtual 117, 3) := by decide +kernel
theorem dX7_append_0 : decode cX7_append 0 = .ok (.aload_n 0, 1) := by decide +kernel
theorem dX7_append_1 : decode cX7_append 1 = .ok (.getfield 15, 3) := by decide +kernel
theorem dX7_append_4 : decode cX7_append 4 = .ok (.ifCond .lt 33, 3) := by decide +kernel
theorem dX7_append_7 : decode cX7_append 7 = .ok (.aload_n 0, 1) := by decide +kernel
theorem dX7_append_8 : decode cX7_append 8 = .ok (.getfield 15, 3) := by decide +kernel
theorem dX7_append_11 : decode cX7_append 11 = .ok (.bipush 40, 2) := by decide +kernel
theorem dX7_append_13 : decode cX7_append 13 = .ok (.if_icmp .ge 24, 3) := by decide +kernel
theorem dX7_append_16 : decode cX7_append 16 = .ok (.aload_n 0, 1) := by decide +kernel
theorem dX7_append_17 : decode cX7_append 17 = .ok (.getfield 9, 3) := by decide +kernel
theorem dX7_append_20 : decode cX7_append 20 = .ok (.aload_n 0, 1) := by decide +kernel
theorem dX7_append_21 : decode cX7_append 21 = .ok (.getfield 15, 3) := by decide +kernel
theorem dX7_append_24 : decode cX7_append 24 = .ok (.iload_n 1, 1) := by decide +kernel
theorem dX7_append_25 : decode cX7_append 25 = .ok (.i2b, 1) := by decide +kernel
theorem dX7_append_26 : decode cX7_append 26 = .ok (.bastore, 1) := by decide +kernel
theorem dX7_append_27 : decode cX7_append 27 = .ok (.aload_n 0, 1) := by decide +kernel
theorem dX7_append_28 : decode cX7_append 28 = .ok (.dup, 1) := by decide +kernel
theorem dX7_append_29 : decode cX7_append 29 = .ok (.getfield 15, 3) := by decide +kernel
theorem dX7_append_32 : decode cX7_append 32 = .ok (.iconst 1, 1) := by decide +kernel
theorem dX7_append_33 : decode cX7_append 33 = .ok (.iadd, 1) := by decide +kernel
theorem dX7_append_34 : decode cX7_append 34 = .ok (.putfield 15, 3) := by decide +kernel
theorem dX7_append_37 : decode cX7_append 37 = .ok (.aload_n 0, 1) := by decide +kernel
theorem dX7_append_38 : decode cX7_append 38 = .ok (.getfield 15, 3) := by decide +kernel
theorem dX7_append_41 : decode cX7_append 41 = .ok (.ireturn, 1) := by decide +kernel
theorem dX9_feed_42 : decode cX9_feed 42 = .ok (.ireturn, 1) := by decide +kernel
theorem dX9_operator_0 : decode cX9_operator 0 = .ok (.aload_n 0, 1) := by decide +kernel
theorem dX9_operator_1 : decode cX9_operator 1 = .ok (.getfield 12, 3) := by decide +kernel
theorem dX9_operator_4 : decode cX9_operator 4 = .ok (.getfield 120, 3) := by decide +kernel
theorem dX9_operator_7 : decode cX9_operator 7 = .ok (.bipush 12, 2) := by decide +kernel
theorem dX9_operator_9 : decode cX9_operator 9 = .ok (.if_icmp .lt 6, 3) := by decide +kernel
theorem dX9_operator_15 : decode cX9_operator 15 = .ok (.aload_n 0, 1) := by decide +kernel
theorem dX9_operator_16 : decode cX9_operator 16 = .ok (.getfield 12, 3) := by decide +kernel
theorem dX9_operator_19 : decode cX9_operator 19 = .ok (.getfield 123, 3) := by decide +kernel
theorem dX9_operator_22 : decode cX9_operator 22 = .ok (.aload_n 0, 1) := by decide +kernel
theorem dX9_operator_23 : decode cX9_operator 23 = .ok (.getfield 12, 3) := by decide +kernel
theorem dX9_operator_26 : decode cX9_operator 26 = .ok (.getfield 120, 3) := by decide +kernel
theorem dX9_operator_29 : decode cX9_operator 29 = .ok (.aaload, 1) := by decide +kernel
theorem dX9_operator_30 : decode cX9_operator 30 = .ok (.astore_n 1, 1) := by decide +kernel
theorem dX9_operator_31 : decode cX9_operator 31 = .ok (.new 127, 3) := by decide +kernel
theorem dX9_operator_34 : decode cX9_operator 34 = .ok (.dup, 1) := by decide +kernel
theorem dX9_operator_35 : decode cX9_operator 35 = .ok (.aload_n 0, 1) := by decide +kernel
theorem dX9_operator_36 : decode cX9_operator 36 = .ok (.getfield 12, 3) := by decide +kernel
theorem dX9_operator_39 : decode cX9_operator 39 = .ok (.invokespecial 129, 3) := by decide +kernel
theorem dX8_init_0 : decode cX8_init 0 = .ok (.aload_n 0, 1) := by decide +kernel
theorem dX8_init_1 : decode cX8_init 1 = .ok (.invokespecial 3, 3) := by decide +kernel
theorem dX8_init_4 : decode cX8_init 4 = .ok (.aload_n 0, 1) := by decide +kernel
theorem dX8_init_5 : decode cX8_init 5 = .ok (.aload_n 1, 1) := by decide +kernel
theorem dX8_init_6 : decode cX8_init 6 = .ok (.putfield 9, 3) := by decide +kernel
theorem dX8_init_9 : decode cX8_init 9 = .ok (.aload_n 0, 1) := by decide +kernel
theorem dX8_init_10 : decode cX8_init 10 = .ok (.aload_n 1, 1) := by decide +kernel
theorem dX8_init_11 : decode cX8_init 11 = .ok (.getfield 15, 3) := by decide +kernel
theorem dX8_init_14 : decode cX8_init 14 = .ok (.putfield 21, 3) := by decide +kernel
theorem dX8_init_17 : decode cX8_init 17 = .ok (.aload_n 0, 1) := by decide +kernel
theorem dX8_init_18 : decode cX8_init 18 = .ok (.iconst 0, 1) := by decide +kernel
theorem dX8_init_19 : decode cX8_init 19 = .ok (.putfield 22, 3) := by decide +kernel
theorem dX8_init_22 : decode cX8_init 22 = .ok (.aload_n 0, 1) := by decide +kernel
theorem dX8_init_23 : decode cX8_init 23 = .ok (.iconst 0, 1) := by decide +kernel
theorem dX8_init_24 : decode cX8_init 24 = .ok (.putfield 26, 3) := by decide +kernel
theorem dX8_init_27 : decode cX8_init 27 = .ok (.return_, 1) := by decide +kernel
theorem dX9_operator_42 : decode cX9_operator 42 = .ok (.astore_n 2, 1) := by decide +kernel
theorem dX9_operator_43 : decode cX9_operator 43 = .ok (.aload_n 2, 1) := by decide +kernel
theorem dX9_operator_44 : decode cX9_operator 44 = .ok (.aload_n 1, 1) := by decide +kernel
theorem dX9_operator_45 : decode cX9_operator 45 = .ok (.invokevirtual 132, 3) := by decide +kernel
theorem dX8_readOperator_0 : decode cX8_readOperator 0 = .ok (.aload_n 1, 1) := by decide +kernel
theorem dX8_readOperator_1 : decode cX8_readOperator 1 = .ok (.aload_n 0, 1) := by decide +kernel
theorem dX8_readOperator_2 : decode cX8_readOperator 2 = .ok (.iconst 1, 1) := by decide +kernel
theorem dX8_readOperator_3 : decode cX8_readOperator 3 = .ok (.bipush 99, 2) := by decide +kernel
theorem dX8_readOperator_5 : decode cX8_readOperator 5 = .ok (.invokevirtual 30, 3) := by decide +kernel
theorem dX8_readNumber_0 : decode cX8_readNumber 0 = .ok (.aload_n 0, 1) := by decide +kernel
theorem dX8_readNumber_1 : decode cX8_readNumber 1 = .ok (.iload_n 1, 1) := by decide +kernel
theorem dX8_readNumber_2 : decode cX8_readNumber 2 = .ok (.iload_n 2, 1) := by decide +kernel
theorem dX8_readNumber_3 : decode cX8_readNumber 3 = .ok (.bipush 9, 2) := by decide +kernel
theorem dX8_readNumber_5 : decode cX8_readNumber 5 = .ok (.invokestatic 117, 3) := by decide +kernel
theorem dX8_readNumber_8 : decode cX8_readNumber 8 = .ok (.invokevirtual 46, 3) := by decide +kernel
theorem dX8_readDigit_0 : decode cX8_readDigit 0 = .ok (.aload_n 0, 1) := by decide +kernel
theorem dX8_readDigit_1 : decode cX8_readDigit 1 = .ok (.getfield 21, 3) := by decide +kernel
theorem dX8_readDigit_4 : decode cX8_readDigit 4 = .ok (.aload_n 0, 1) := by decide +kernel
theorem dX8_readDigit_5 : decode cX8_readDigit 5 = .ok (.getfield 22, 3) := by decide +kernel
theorem dX8_readDigit_8 : decode cX8_readDigit 8 = .ok (.invokevirtual 101, 3) := by decide +kernel
theorem dX7_signAt_0 : decode cX7_signAt 0 = .ok (.iload_n 1, 1) := by decide +kernel
theorem dX7_signAt_1 : decode cX7_signAt 1 = .ok (.ifCond .lt 26, 3) := by decide +kernel
theorem dX7_signAt_4 : decode cX7_signAt 4 = .ok (.iload_n 1, 1) := by decide +kernel
theorem dX7_signAt_5 : decode cX7_signAt 5 = .ok (.aload_n 0, 1) := by decide +kernel
theorem dX7_signAt_6 : decode cX7_signAt 6 = .ok (.getfield 15, 3) := by decide +kernel
theorem dX7_signAt_9 : decode cX7_signAt 9 = .ok (.if_icmp .ge 18, 3) := by decide +kernel
theorem dX7_signAt_27 : decode cX7_signAt 27 = .ok (.iconst (-1), 1) := by decide +kernel
theorem dX7_signAt_28 : decode cX7_signAt 28 = .ok (.ireturn, 1) := by decide +kernel
theorem dX8_readDigit_11 : decode cX8_readDigit 11 = .ok (.bipush 48, 2) := by decide +kernel
theorem dX8_readDigit_13 : decode cX8_readDigit 13 = .ok (.isub, 1) := by decide +kernel
theorem dX8_readDigit_14 : decode cX8_readDigit 14 = .ok (.istore_n 3, 1) := by decide +kernel
theorem dX8_readDigit_15 : decode cX8_readDigit 15 = .ok (.aload_n 0, 1) := by decide +kernel
theorem dX8_readDigit_16 : decode cX8_readDigit 16 = .ok (.getfield 26, 3) := by decide +kernel
theorem dX8_readDigit_19 : decode cX8_readDigit 19 = .ok (.ifCond .ne 13, 3) := by decide +kernel
theorem dX8_readDigit_22 : decode cX8_readDigit 22 = .ok (.iload_n 3, 1) := by decide +kernel
theorem dX8_readDigit_23 : decode cX8_readDigit 23 = .ok (.iload_n 1, 1) := by decide +kernel
theorem dX8_readDigit_24 : decode cX8_readDigit 24 = .ok (.if_icmp .lt 8, 3) := by decide +kernel
theorem dX8_readDigit_32 : decode cX8_readDigit 32 = .ok (.aload_n 0, 1) := by decide +kernel
theorem dX8_readDigit_33 : decode cX8_readDigit 33 = .ok (.iconst 1, 1) := by decide +kernel
theorem dX8_readDigit_34 : decode cX8_readDigit 34 = .ok (.putfield 26, 3) := by decide +kernel
theorem dX8_readDigit_37 : decode cX8_readDigit 37 = .ok (.iconst 0, 1) := by decide +kernel
theorem dX8_readDigit_38 : decode cX8_readDigit 38 = .ok (.ireturn, 1) := by decide +kernel
theorem dX8_readNumber_11 : decode cX8_readNumber 11 = .ok (.istore_n 3, 1) := by decide +kernel
theorem dX8_readNumber_12 : decode cX8_readNumber 12 = .ok (.iconst 0, 1) := by decide +kernel
theorem dX8_readNumber_13 : decode cX8_readNumber 13 = .ok (.istore 4, 2) := by decide +kernel
theorem dX8_readNumber_15 : decode cX8_readNumber 15 = .ok (.iload 4, 2) := by decide +kernel
theorem dX8_readNumber_17 : decode cX8_readNumber 17 = .ok (.iconst 2, 1) := by decide +kernel
theorem dX8_readNumber_18 : decode cX8_readNumber 18 = .ok (.if_icmp .ge 52, 3) := by decide +kernel
theorem dX8_readNumber_21 : decode cX8_readNumber 21 = .ok (.iload_n 3, 1) := by decide +kernel
theorem dX8_readNumber_22 : decode cX8_readNumber 22 = .ok (.ifCond .le 48, 3) := by decide +kernel
theorem dX8_readNumber_70 : decode cX8_readNumber 70 = .ok (.iload_n 3, 1) := by decide +kernel
theorem dX8_readNumber_71 : decode cX8_readNumber 71 = .ok (.ireturn, 1) := by decide +kernel
theorem dX8_readOperator_8 : decode cX8_readOperator 8 = .ok (.putfield 34, 3) := by decide +kernel
theorem dX8_readOperator_11 : decode cX8_readOperator 11 = .ok (.aload_n 0, 1) := by decide +kernel
theorem dX8_readOperator_12 : decode cX8_readOperator 12 = .ok (.bipush 58, 2) := by decide +kernel
theorem dX8_readOperator_14 : decode cX8_readOperator 14 = .ok (.invokevirtual 39, 3) := by decide +kernel
theorem dX8_expect_0 : decode cX8_expect 0 = .ok (.aload_n 0, 1) := by decide +kernel
theorem dX8_expect_1 : decode cX8_expect 1 = .ok (.getfield 26, 3) := by decide +kernel
theorem dX8_expect_4 : decode cX8_expect 4 = .ok (.ifCond .ne 18, 3) := by decide +kernel
theorem dX8_expect_22 : decode cX8_expect 22 = .ok (.aload_n 0, 1) := by decide +kernel
theorem dX8_expect_23 : decode cX8_expect 23 = .ok (.iconst 1, 1) := by decide +kernel
theorem dX8_expect_24 : decode cX8_expect 24 = .ok (.putfield 26, 3) := by decide +kernel
theorem dX8_expect_27 : decode cX8_expect 27 = .ok (.return_, 1) := by decide +kernel
theorem dX8_readOperator_17 : decode cX8_readOperator 17 = .ok (.aload_n 1, 1) := by decide +kernel
theorem dX8_readOperator_18 : decode cX8_readOperator 18 = .ok (.aload_n 0, 1) := by decide +kernel
theorem dX8_readOperator_19 : decode cX8_readOperator 19 = .ok (.iconst 0, 1) := by decide +kernel
theorem dX8_readOperator_20 : decode cX8_readOperator 20 = .ok (.aload_n 0, 1) := by decide +kernel
theorem dX8_readOperator_21 : decode cX8_readOperator 21 = .ok (.getfield 9, 3) := by decide +kernel
theorem dX8_readOperator_24 : decode cX8_readOperator 24 = .ok (.getfield 43, 3) := by decide +kernel
theorem dX8_readOperator_27 : decode cX8_readOperator 27 = .ok (.iconst 1, 1) := by decide +kernel
theorem dX8_readOperator_28 : decode cX8_readOperator 28 = .ok (.isub, 1) := by decide +kernel
theorem dX8_readOperator_29 : decode cX8_readOperator 29 = .ok (.invokevirtual 46, 3) := by decide +kernel
theorem dX8_readOperator_32 : decode cX8_readOperator 32 = .ok (.putfield 49, 3) := by decide +kernel
theorem dX8_readOperator_35 : decode cX8_readOperator 35 = .ok (.aload_n 1, 1) := by decide +kernel
theorem dX8_readOperator_36 : decode cX8_readOperator 36 = .ok (.aload_n 0, 1) := by decide +kernel
theorem dX8_readOperator_37 : decode cX8_readOperator 37 = .ok (.aload_n 1, 1) := by decide +kernel
theorem dX8_readOperator_38 : decode cX8_readOperator 38 = .ok (.getfield 49, 3) := by decide +kernel
theorem dX8_readOperator_41 : decode cX8_readOperator 41 = .ok (.invokevirtual 52, 3) := by decide +kernel
theorem dX8_readValueOf_0 : decode cX8_readValueOf 0 = .ok (.aload_n 0, 1) := by decide +kernel
theorem dX8_readValueOf_1 : decode cX8_readValueOf 1 = .ok (.bipush 46, 2) := by decide +kernel
theorem dX8_readValueOf_3 : decode cX8_readValueOf 3 = .ok (.invokevirtual 39, 3) := by decide +kernel
theorem dX8_readValueOf_6 : decode cX8_readValueOf 6 = .ok (.aload_n 0, 1) := by decide +kernel
theorem dX8_readValueOf_7 : decode cX8_readValueOf 7 = .ok (.getfield 9, 3) := by decide +kernel
theorem dX8_readValueOf_10 : decode cX8_readValueOf 10 = .ok (.iload_n 1, 1) := by decide +kernel
theorem dX8_readValueOf_11 : decode cX8_readValueOf 11 = .ok (.invokevirtual 104, 3) := by decide +kernel
theorem dX8_readValueOf_14 : decode cX8_readValueOf 14 = .ok (.ifCond .eq 18, 3) := by decide +kernel
theorem dX8_readValueOf_32 : decode cX8_readValueOf 32 = .ok (.iconst 0, 1) := by decide +kernel
theorem dX8_readValueOf_33 : decode cX8_readValueOf 33 = .ok (.istore_n 2, 1) := by decide +kernel
theorem dX8_readValueOf_34 : decode cX8_readValueOf 34 = .ok (.aload_n 0, 1) := by decide +kernel
theorem dX8_readValueOf_35 : decode cX8_readValueOf 35 = .ok (.iconst 0, 1) := by decide +kernel
theorem dX8_readValueOf_36 : decode cX8_readValueOf 36 = .ok (.iload_n 2, 1) := by decide +kernel
theorem dX8_readValueOf_37 : decode cX8_readValueOf 37 = .ok (.iconst 1, 1) := by decide +kernel
theorem dX8_readValueOf_38 : decode cX8_readValueOf 38 = .ok (.isub, 1) := by decide +kernel
theorem dX8_readValueOf_39 : decode cX8_readValueOf 39 = .ok (.invokevirtual 46, 3) := by decide +kernel
theorem dX8_readValueOf_42 : decode cX8_readValueOf 42 = .ok (.ireturn, 1) := by decide +kernel
theorem dX8_readOperator_44 : decode cX8_readOperator 44 = .ok (.putfield 56, 3) := by decide +kernel
theorem dX8_readOperator_47 : decode cX8_readOperator 47 = .ok (.aload_n 1, 1) := by decide +kernel
theorem dX8_readOperator_48 : decode cX8_readOperator 48 = .ok (.aload_n 1, 1) := by decide +kernel
theorem dX8_readOperator_49 : decode cX8_readOperator 49 = .ok (.getfield 49, 3) := by decide +kernel
theorem dX8_readOperator_52 : decode cX8_readOperator 52 = .ok (.putfield 59, 3) := by decide +kernel
theorem dX8_readOperator_55 : decode cX8_readOperator 55 = .ok (.aload_n 1, 1) := by decide +kernel
theorem dX8_readOperator_56 : decode cX8_readOperator 56 = .ok (.aload_n 1, 1) := by decide +kernel
theorem dX8_readOperator_57 : decode cX8_readOperator 57 = .ok (.getfield 56, 3) := by decide +kernel
theorem dX8_readOperator_60 : decode cX8_readOperator 60 = .ok (.putfield 62, 3) := by decide +kernel
theorem dX8_readOperator_63 : decode cX8_readOperator 63 = .ok (.aload_n 0, 1) := by decide +kernel
theorem dX8_readOperator_64 : decode cX8_readOperator 64 = .ok (.aload_n 1, 1) := by decide +kernel
theorem dX8_readOperator_65 : decode cX8_readOperator 65 = .ok (.invokevirtual 65, 3) := by decide +kernel
theorem dX8_readCondition_0 : decode cX8_readCondition 0 = .ok (.aload_n 0, 1) := by decide +kernel
theorem dX8_readCondition_1 : decode cX8_readCondition 1 = .ok (.bipush 37, 2) := by decide +kernel
theorem dX8_readCondition_3 : decode cX8_readCondition 3 = .ok (.invokevirtual 74, 3) := by decide +kernel
theorem dX8_take_0 : decode cX8_take 0 = .ok (.aload_n 0, 1) := by decide +kernel
theorem dX8_take_1 : decode cX8_take 1 = .ok (.getfield 26, 3) := by decide +kernel
theorem dX8_take_4 : decode cX8_take 4 = .ok (.ifCond .ne 18, 3) := by decide +kernel
theorem dX8_take_22 : decode cX8_take 22 = .ok (.iconst 0, 1) := by decide +kernel
theorem dX8_take_23 : decode cX8_take 23 = .ok (.ireturn, 1) := by decide +kernel
theorem dX8_readCondition_6 : decode cX8_readCondition 6 = .ok (.ifCond .eq 43, 3) := by decide +kernel
theorem dX8_readCondition_49 : decode cX8_readCondition 49 = .ok (.aload_n 0, 1) := by decide +kernel
theorem dX8_readCondition_50 : decode cX8_readCondition 50 = .ok (.bipush 43, 2) := by decide +kernel
theorem dX8_readCondition_52 : decode cX8_readCondition 52 = .ok (.invokevirtual 74, 3) := by decide +kernel
theorem dX8_readCondition_55 : decode cX8_readCondition 55 = .ok (.ifCond .eq 50, 3) := by decide +kernel
theorem dX8_readCondition_105 : decode cX8_readCondition 105 = .ok (.aload_n 0, 1) := by decide +kernel
theorem dX8_readCondition_106 : decode cX8_readCondition 106 = .ok (.bipush 126, 2) := by decide +kernel
theorem dX8_readCondition_108 : decode cX8_readCondition 108 = .ok (.invokevirtual 74, 3) := by decide +kernel
theorem dX8_readCondition_111 : decode cX8_readCondition 111 = .ok (.ifCond .eq 33, 3) := by decide +kernel
theorem dX8_readCondition_144 : decode cX8_readCondition 144 = .ok (.aload_n 0, 1) := by decide +kernel
theorem dX8_readCondition_145 : decode cX8_readCondition 145 = .ok (.bipush 61, 2) := by decide +kernel
theorem dX8_readCondition_147 : decode cX8_readCondition 147 = .ok (.invokevirtual 74, 3) := by decide +kernel
theorem dX8_readCondition_150 : decode cX8_readCondition 150 = .ok (.ifCond .eq 13, 3) := by decide +kernel
theorem dX8_readCondition_163 : decode cX8_readCondition 163 = .ok (.aload_n 0, 1) := by decide +kernel
theorem dX8_readCondition_164 : decode cX8_readCondition 164 = .ok (.bipush 60, 2) := by decide +kernel
theorem dX8_readCondition_166 : decode cX8_readCondition 166 = .ok (.invokevirtual 74, 3) := by decide +kernel
theorem dX8_readCondition_169 : decode cX8_readCondition 169 = .ok (.ifCond .eq 13, 3) := by decide +kernel
theorem dX8_readCondition_182 : decode cX8_readCondition 182 = .ok (.aload_n 0, 1) := by decide +kernel
theorem dX8_readCondition_183 : decode cX8_readCondition 183 = .ok (.bipush 62, 2) := by decide +kernel
theorem dX8_readCondition_185 : decode cX8_readCondition 185 = .ok (.invokevirtual 39, 3) := by decide +kernel
theorem dX8_readCondition_188 : decode cX8_readCondition 188 = .ok (.aload_n 1, 1) := by decide +kernel
theorem dX8_readCondition_189 : decode cX8_readCondition 189 = .ok (.iconst 0, 1) := by decide +kernel
theorem dX8_readCondition_190 : decode cX8_readCondition 190 = .ok (.putfield 78, 3) := by decide +kernel
theorem dX8_readCondition_193 : decode cX8_readCondition 193 = .ok (.aload_n 1, 1) := by decide +kernel
theorem dX8_readCondition_194 : decode cX8_readCondition 194 = .ok (.iconst 1, 1) := by decide +kernel
theorem dX8_readCondition_195 : decode cX8_readCondition 195 = .ok (.putfield 98, 3) := by decide +kernel
theorem dX8_readCondition_198 : decode cX8_readCondition 198 = .ok (.aload_n 1, 1) := by decide +kernel
theorem dX8_readCondition_199 : decode cX8_readCondition 199 = .ok (.aload_n 0, 1) := by decide +kernel
theorem dX8_readCondition_200 : decode cX8_readCondition 200 = .ok (.invokevirtual 87, 3) := by decide +kernel
theorem dX8_readSigned_0 : decode cX8_readSigned 0 = .ok (.aload_n 0, 1) := by decide +kernel
theorem dX8_readSigned_1 : decode cX8_readSigned 1 = .ok (.bipush 45, 2) := by decide +kernel
theorem dX8_readSigned_3 : decode cX8_readSigned 3 = .ok (.invokevirtual 74, 3) := by decide +kernel
theorem dX8_readSigned_6 : decode cX8_readSigned 6 = .ok (.ifCond .eq 15, 3) := by decide +kernel
theorem dX8_readSigned_21 : decode cX8_readSigned 21 = .ok (.aload_n 0, 1) := by decide +kernel
theorem dX8_readSigned_22 : decode cX8_readSigned 22 = .ok (.iconst 0, 1) := by decide +kernel
theorem dX8_readSigned_23 : decode cX8_readSigned 23 = .ok (.sipush 999, 3) := by decide +kernel
theorem dX8_readSigned_26 : decode cX8_readSigned 26 = .ok (.invokevirtual 30, 3) := by decide +kernel
theorem dX8_readSigned_29 : decode cX8_readSigned 29 = .ok (.ireturn, 1) := by decide +kernel
theorem dX8_readCondition_203 : decode cX8_readCondition 203 = .ok (.putfield 81, 3) := by decide +kernel
theorem dX8_readCondition_206 : decode cX8_readCondition 206 = .ok (.return_, 1) := by decide +kernel
theorem dX8_readOperator_68 : decode cX8_readOperator 68 = .ok (.aload_n 0, 1) := by decide +kernel
theorem dX8_readOperator_69 : decode cX8_readOperator 69 = .ok (.getfield 22, 3) := by decide +kernel
theorem dX8_readOperator_72 : decode cX8_readOperator 72 = .ok (.aload_n 0, 1) := by decide +kernel
theorem dX8_readOperator_73 : decode cX8_readOperator 73 = .ok (.getfield 21, 3) := by decide +kernel
theorem dX8_readOperator_76 : decode cX8_readOperator 76 = .ok (.getfield 69, 3) := by decide +kernel
theorem dX8_readOperator_79 : decode cX8_readOperator 79 = .ok (.if_icmp .ge 8, 3) := by decide +kernel
theorem dX8_readOperator_87 : decode cX8_readOperator 87 = .ok (.aload_n 0, 1) := by decide +kernel
theorem dX8_readOperator_88 : decode cX8_readOperator 88 = .ok (.getfield 26, 3) := by decide +kernel
theorem dX8_readOperator_91 : decode cX8_readOperator 91 = .ok (.ifCond .ne 7, 3) := by decide +kernel
theorem dX8_readOperator_98 : decode cX8_readOperator 98 = .ok (.iconst 0, 1) := by decide +kernel
theorem dX8_readOperator_99 : decode cX8_readOperator 99 = .ok (.ireturn, 1) := by decide +kernel
theorem dX9_operator_48 : decode cX9_operator 48 = .ok (.istore_n 3, 1) := by decide +kernel
theorem dX9_operator_49 : decode cX9_operator 49 = .ok (.aload_n 0, 1) := by decide +kernel
theorem dX9_operator_50 : decode cX9_operator 50 = .ok (.getfield 12, 3) := by decide +kernel
theorem dX9_operator_53 : decode cX9_operator 53 = .ok (.getfield 108, 3) := by decide +kernel
theorem dX9_operator_56 : decode cX9_operator 56 = .ok (.iconst 0, 1) := by decide +kernel
theorem dX9_operator_57 : decode cX9_operator 57 = .ok (.putfield 112, 3) := by decide +kernel
theorem dX9_operator_60 : decode cX9_operator 60 = .ok (.iload_n 3, 1) := by decide +kernel
theorem dX9_operator_61 : decode cX9_operator 61 = .ok (.ifCond .ne 11, 3) := by decide +kernel
theorem dX9_operator_64 : decode cX9_operator 64 = .ok (.bipush (-10), 2) := by decide +kernel
theorem dX9_operator_66 : decode cX9_operator 66 = .ok (.aload_n 2, 1) := by decide +kernel
theorem dX9_operator_67 : decode cX9_operator 67 = .ok (.getfield 136, 3) := by decide +kernel
theorem dX9_operator_70 : decode cX9_operator 70 = .ok (.isub, 1) := by decide +kernel
theorem dX9_operator_71 : decode cX9_operator 71 = .ok (.ireturn, 1) := by decide +kernel
theorem dX9_remove_0 : decode cX9_remove 0 = .ok (.aload_n 0, 1) := by decide +kernel
theorem dX9_remove_1 : decode cX9_remove 1 = .ok (.getfield 12, 3) := by decide +kernel
theorem dX9_remove_4 : decode cX9_remove 4 = .ok (.iload_n 1, 1) := by decide +kernel
theorem dX9_remove_5 : decode cX9_remove 5 = .ok (.invokevirtual 143, 3) := by decide +kernel
theorem dX5_hasOperator_0 : decode cX5_hasOperator 0 = .ok (.iload_n 1, 1) := by decide +kernel
theorem dX5_hasOperator_1 : decode cX5_hasOperator 1 = .ok (.ifCond .lt 21, 3) := by decide +kernel
theorem dX5_hasOperator_22 : decode cX5_hasOperator 22 = .ok (.iconst 0, 1) := by decide +kernel
theorem dX5_hasOperator_23 : decode cX5_hasOperator 23 = .ok (.ireturn, 1) := by decide +kernel
theorem dX5_hasOperator_4 : decode cX5_hasOperator 4 = .ok (.iload_n 1, 1) := by decide +kernel
theorem dX5_hasOperator_5 : decode cX5_hasOperator 5 = .ok (.aload_n 0, 1) := by decide +kernel
theorem dX5_hasOperator_6 : decode cX5_hasOperator 6 = .ok (.getfield 66, 3) := by decide +kernel
theorem dX5_hasOperator_9 : decode cX5_hasOperator 9 = .ok (.if_icmp .ge 13, 3) := by decide +kernel
theorem dX9_remove_8 : decode cX9_remove 8 = .ok (.ifCond .ne 5, 3) := by decide +kernel
theorem dX9_remove_11 : decode cX9_remove 11 = .ok (.iconst (-1), 1) := by decide +kernel
theorem dX9_remove_12 : decode cX9_remove 12 = .ok (.ireturn, 1) := by decide +kernel
theorem dX9_policy_0 : decode cX9_policy 0 = .ok (.iload_n 1, 1) := by decide +kernel
theorem dX9_policy_1 : decode cX9_policy 1 = .ok (.ifCond .lt 8, 3) := by decide +kernel
theorem dX9_policy_9 : decode cX9_policy 9 = .ok (.bipush (-2), 2) := by decide +kernel
theorem dX9_policy_11 : decode cX9_policy 11 = .ok (.ireturn, 1) := by decide +kernel
theorem dX9_policy_4 : decode cX9_policy 4 = .ok (.iload_n 1, 1) := by decide +kernel
theorem dX9_policy_5 : decode cX9_policy 5 = .ok (.iconst 4, 1) := by decide +kernel
theorem dX9_policy_6 : decode cX9_policy 6 = .ok (.if_icmp .le 6, 3) := by decide +kernel
theorem dX9_policy_12 : decode cX9_policy 12 = .ok (.aload_n 0, 1) := by decide +kernel
theorem dX9_policy_13 : decode cX9_policy 13 = .ok (.getfield 12, 3) := by decide +kernel
theorem dX9_policy_16 : decode cX9_policy 16 = .ok (.getfield 155, 3) := by decide +kernel
theorem dX9_policy_19 : decode cX9_policy 19 = .ok (.istore_n 2, 1) := by decide +kernel
theorem dX9_policy_20 : decode cX9_policy 20 = .ok (.aload_n 0, 1) := by decide +kernel
theorem dX9_policy_21 : decode cX9_policy 21 = .ok (.getfield 12, 3) := by decide +kernel
theorem dX9_policy_24 : decode cX9_policy 24 = .ok (.iload_n 1, 1) := by decide +kernel
theorem dX9_policy_25 : decode cX9_policy 25 = .ok (.putfield 155, 3) := by decide +kernel
theorem dX9_policy_28 : decode cX9_policy 28 = .ok (.iload_n 2, 1) := by decide +kernel
theorem dX9_policy_29 : decode cX9_policy 29 = .ok (.ireturn, 1) := by decide +kernel
theorem dX9_discipline_0 : decode cX9_discipline 0 = .ok (.iload_n 1, 1) := by decide +kernel
theorem dX9_discipline_1 : decode cX9_discipline 1 = .ok (.ifCond .lt 8, 3) := by decide +kernel
theorem dX9_discipline_9 : decode cX9_discipline 9 = .ok (.bipush (-2), 2) := by decide +kernel
theorem dX9_discipline_11 : decode cX9_discipline 11 = .ok (.ireturn, 1) := by decide +kernel
theorem dX9_discipline_4 : decode cX9_discipline 4 = .ok (.iload_n 1, 1) := by decide +kernel
theorem dX9_discipline_5 : decode cX9_discipline 5 = .ok (.iconst 1, 1) := by decide +kernel
theorem dX9_discipline_6 : decode cX9_discipline 6 = .ok (.if_icmp .le 6, 3) := by decide +kernel
theorem dX9_discipline_12 : decode cX9_discipline 12 = .ok (.aload_n 0, 1) := by decide +kernel
theorem dX9_discipline_13 : decode cX9_discipline 13 = .ok (.getfield 12, 3) := by decide +kernel
theorem dX9_discipline_16 : decode cX9_discipline 16 = .ok (.getfield 158, 3) := by decide +kernel
theorem dX9_discipline_19 : decode cX9_discipline 19 = .ok (.istore_n 2, 1) := by decide +kernel
theorem dX9_discipline_20 : decode cX9_discipline 20 = .ok (.aload_n 0, 1) := by decide +kernel
theorem dX9_discipline_21 : decode cX9_discipline 21 = .ok (.getfield 12, 3) := by decide +kernel
theorem dX9_discipline_24 : decode cX9_discipline 24 = .ok (.iload_n 1, 1) := by decide +kernel
theorem dX9_discipline_25 : decode cX9_discipline 25 = .ok (.putfield 158, 3) := by decide +kernel
theorem dX9_discipline_28 : decode cX9_discipline 28 = .ok (.iload_n 2, 1) := by decide +kernel
theorem dX9_discipline_29 : decode cX9_discipline 29 = .ok (.ireturn, 1) := by decide +kernel
theorem dX9_step_0 : decode cX9_step 0 = .ok (.iload_n 1, 1) := by decide +kernel
theorem dX9_step_1 : decode cX9_step 1 = .ok (.iconst 1, 1) := by decide +kernel
theorem dX9_step_2 : decode cX9_step 2 = .ok (.if_icmp .lt 9, 3) := by decide +kernel
theorem dX9_step_11 : decode cX9_step 11 = .ok (.bipush (-2), 2) := by decide +kernel
theorem dX9_step_13 : decode cX9_step 13 = .ok (.ireturn, 1) := by decide +kernel
theorem dX9_step_5 : decode cX9_step 5 = .ok (.iload_n 1, 1) := by decide +kernel
theorem dX9_step_6 : decode cX9_step 6 = .ok (.bipush 100, 2) := by decide +kernel
theorem dX9_step_8 : decode cX9_step 8 = .ok (.if_icmp .le 6, 3) := by decide +kernel
theorem dX9_step_14 : decode cX9_step 14 = .ok (.aload_n 0, 1) := by decide +kernel
theorem dX9_step_15 : decode cX9_step 15 = .ok (.getfield 12, 3) := by decide +kernel
theorem dX9_step_18 : decode cX9_step 18 = .ok (.getfield 161, 3) := by decide +kernel
theorem dX9_step_21 : decode cX9_step 21 = .ok (.istore_n 2, 1) := by decide +kernel
theorem dX9_step_22 : decode cX9_step 22 = .ok (.iconst 0, 1) := by decide +kernel
theorem dX9_step_23 : decode cX9_step 23 = .ok (.istore_n 3, 1) := by decide +kernel
theorem dX9_step_24 : decode cX9_step 24 = .ok (.iload_n 3, 1) := by decide +kernel
theorem dX9_step_25 : decode cX9_step 25 = .ok (.iload_n 1, 1) := by decide +kernel
theorem dX9_step_26 : decode cX9_step 26 = .ok (.if_icmp .ge 29, 3) := by decide +kernel
theorem dX9_step_29 : decode cX9_step 29 = .ok (.aload_n 0, 1) := by decide +kernel
theorem dX9_step_30 : decode cX9_step 30 = .ok (.getfield 12, 3) := by decide +kernel
theorem dX9_step_33 : decode cX9_step 33 = .ok (.getfield 84, 3) := by decide +kernel
theorem dX9_step_36 : decode cX9_step 36 = .ok (.getfield 164, 3) := by decide +kernel
theorem dX9_step_39 : decode cX9_step 39 = .ok (.ifCond .le 16, 3) := by decide +kernel
theorem dX9_step_55 : decode cX9_step 55 = .ok (.aload_n 0, 1) := by decide +kernel
theorem dX9_step_56 : decode cX9_step 56 = .ok (.getfield 12, 3) := by decide +kernel
theorem dX9_step_59 : decode cX9_step 59 = .ok (.getfield 161, 3) := by decide +kernel
theorem dX9_step_62 : decode cX9_step 62 = .ok (.iload_n 2, 1) := by decide +kernel
theorem dX9_step_63 : decode cX9_step 63 = .ok (.isub, 1) := by decide +kernel
theorem dX9_step_64 : decode cX9_step 64 = .ok (.ireturn, 1) := by decide +kernel
theorem dX9_run_0 : decode cX9_run 0 = .ok (.iload_n 1, 1) := by decide +kernel
theorem dX9_run_1 : decode cX9_run 1 = .ok (.iconst 1, 1) := by decide +kernel
theorem dX9_run_2 : decode cX9_run 2 = .ok (.if_icmp .lt 10, 3) := by decide +kernel
theorem dX9_run_12 : decode cX9_run 12 = .ok (.bipush (-2), 2) := by decide +kernel
theorem dX9_run_14 : decode cX9_run 14 = .ok (.ireturn, 1) := by decide +kernel
theorem dX9_run_5 : decode cX9_run 5 = .ok (.iload_n 1, 1) := by decide +kernel
theorem dX9_run_6 : decode cX9_run 6 = .ok (.sipush 9999, 3) := by decide +kernel
theorem dX9_run_9 : decode cX9_run 9 = .ok (.if_icmp .le 6, 3) := by decide +kernel
theorem dX9_run_15 : decode cX9_run 15 = .ok (.aload_n 0, 1) := by decide +kernel
theorem dX9_run_16 : decode cX9_run 16 = .ok (.getfield 12, 3) := by decide +kernel
theorem dX9_run_19 : decode cX9_run 19 = .ok (.getfield 170, 3) := by decide +kernel
theorem dX9_run_22 : decode cX9_run 22 = .ok (.istore_n 2, 1) := by decide +kernel
theorem dX9_run_23 : decode cX9_run 23 = .ok (.iconst 0, 1) := by decide +kernel
theorem dX9_run_24 : decode cX9_run 24 = .ok (.istore_n 3, 1) := by decide +kernel
theorem dX9_run_25 : decode cX9_run 25 = .ok (.iload_n 3, 1) := by decide +kernel
theorem dX9_run_26 : decode cX9_run 26 = .ok (.ldc 173, 2) := by decide +kernel
theorem dX9_run_28 : decode cX9_run 28 = .ok (.if_icmp .ge 42, 3) := by decide +kernel
theorem dX9_run_31 : decode cX9_run 31 = .ok (.aload_n 0, 1) := by decide +kernel
theorem dX9_run_32 : decode cX9_run 32 = .ok (.getfield 12, 3) := by decide +kernel
theorem dX9_run_35 : decode cX9_run 35 = .ok (.getfield 84, 3) := by decide +kernel
theorem dX9_run_38 : decode cX9_run 38 = .ok (.getfield 164, 3) := by decide +kernel
theorem dX9_run_41 : decode cX9_run 41 = .ok (.ifCond .le 29, 3) := by decide +kernel
theorem dX9_run_70 : decode cX9_run 70 = .ok (.aload_n 0, 1) := by decide +kernel
theorem dX9_run_71 : decode cX9_run 71 = .ok (.getfield 12, 3) := by decide +kernel
theorem dX9_run_74 : decode cX9_run 74 = .ok (.getfield 170, 3) := by decide +kernel
theorem dX9_run_77 : decode cX9_run 77 = .ok (.iload_n 2, 1) := by decide +kernel
theorem dX9_run_78 : decode cX9_run 78 = .ok (.isub, 1) := by decide +kernel
theorem dX9_run_79 : decode cX9_run 79 = .ok (.ireturn, 1) := by decide +kernel
theorem dX9_next_0 : decode cX9_next 0 = .ok (.aload_n 0, 1) := by decide +kernel
theorem dX9_next_1 : decode cX9_next 1 = .ok (.getfield 12, 3) := by decide +kernel
theorem dX9_next_4 : decode cX9_next 4 = .ok (.getfield 84, 3) := by decide +kernel
theorem dX9_next_7 : decode cX9_next 7 = .ok (.getfield 164, 3) := by decide +kernel
theorem dX9_next_10 : decode cX9_next 10 = .ok (.ifCond .ne 6, 3) := by decide +kernel
theorem dX9_next_13 : decode cX9_next 13 = .ok (.bipush (-5), 2) := by decide +kernel
theorem dX9_next_15 : decode cX9_next 15 = .ok (.ireturn, 1) := by decide +kernel
theorem dX9_pending_0 : decode cX9_pending 0 = .ok (.iload_n 1, 1) := by decide +kernel
theorem dX9_pending_1 : decode cX9_pending 1 = .ok (.ifCond .lt 17, 3) := by decide +kernel
theorem dX9_pending_18 : decode cX9_pending 18 = .ok (.iconst (-1), 1) := by decide +kernel
theorem dX9_pending_19 : decode cX9_pending 19 = .ok (.ireturn, 1) := by decide +kernel
theorem dX9_pending_4 : decode cX9_pending 4 = .ok (.iload_n 1, 1) := by decide +kernel
theorem dX9_pending_5 : decode cX9_pending 5 = .ok (.aload_n 0, 1) := by decide +kernel
theorem dX9_pending_6 : decode cX9_pending 6 = .ok (.getfield 12, 3) := by decide +kernel
theorem dX9_pending_9 : decode cX9_pending 9 = .ok (.getfield 84, 3) := by decide +kernel
theorem dX9_pending_12 : decode cX9_pending 12 = .ok (.getfield 164, 3) := by decide +kernel
theorem dX9_pending_15 : decode cX9_pending 15 = .ok (.if_icmp .lt 5, 3) := by decide +kernel
theorem dX9_told_0 : decode cX9_told 0 = .ok (.aload_n 0, 1) := by decide +kernel
theorem dX9_told_1 : decode cX9_told 1 = .ok (.getfield 12, 3) := by decide +kernel
theorem dX9_told_4 : decode cX9_told 4 = .ok (.iload_n 1, 1) := by decide +kernel
theorem dX9_told_5 : decode cX9_told 5 = .ok (.invokevirtual 143, 3) := by decide +kernel
theorem dX9_told_8 : decode cX9_told 8 = .ok (.ifCond .ne 5, 3) := by decide +kernel
theorem dX9_told_11 : decode cX9_told 11 = .ok (.iconst (-1), 1) := by decide +kernel
theorem dX9_told_12 : decode cX9_told 12 = .ok (.ireturn, 1) := by decide +kernel
theorem dX9_of_0 : decode cX9_of 0 = .ok (.aload_n 0, 1) := by decide +kernel
theorem dX9_of_1 : decode cX9_of 1 = .ok (.getfield 12, 3) := by decide +kernel
theorem dX9_of_4 : decode cX9_of 4 = .ok (.iload_n 1, 1) := by decide +kernel
theorem dX9_of_5 : decode cX9_of 5 = .ok (.invokevirtual 35, 3) := by decide +kernel
theorem dX9_of_8 : decode cX9_of 8 = .ok (.ifCond .ne 5, 3) := by decide +kernel
theorem dX9_of_11 : decode cX9_of 11 = .ok (.iconst (-1), 1) := by decide +kernel
theorem dX9_of_12 : decode cX9_of 12 = .ok (.ireturn, 1) := by decide +kernel
theorem dX9_value_0 : decode cX9_value 0 = .ok (.aload_n 0, 1) := by decide +kernel
theorem dX9_value_1 : decode cX9_value 1 = .ok (.getfield 12, 3) := by decide +kernel
theorem dX9_value_4 : decode cX9_value 4 = .ok (.iload_n 1, 1) := by decide +kernel
theorem dX9_value_5 : decode cX9_value 5 = .ok (.invokevirtual 35, 3) := by decide +kernel
theorem dX9_value_8 : decode cX9_value 8 = .ok (.ifCond .eq 19, 3) := by decide +kernel
theorem dX9_value_27 : decode cX9_value 27 = .ok (.sipush (-1000), 3) := by decide +kernel
theorem dX9_value_30 : decode cX9_value 30 = .ok (.ireturn, 1) := by decide +kernel
theorem dX9_output_0 : decode cX9_output 0 = .ok (.iload_n 1, 1) := by decide +kernel
theorem dX9_output_1 : decode cX9_output 1 = .ok (.ifCond .lt 28, 3) := by decide +kernel
theorem dX9_output_29 : decode cX9_output 29 = .ok (.iconst (-1), 1) := by decide +kernel
theorem dX9_output_30 : decode cX9_output 30 = .ok (.ireturn, 1) := by decide +kernel
theorem dX9_output_4 : decode cX9_output 4 = .ok (.iload_n 1, 1) := by decide +kernel
theorem dX9_output_5 : decode cX9_output 5 = .ok (.aload_n 0, 1) := by decide +kernel
theorem dX9_output_6 : decode cX9_output 6 = .ok (.getfield 12, 3) := by decide +kernel
theorem dX9_output_9 : decode cX9_output 9 = .ok (.getfield 259, 3) := by decide +kernel
theorem dX9_output_12 : decode cX9_output 12 = .ok (.getfield 164, 3) := by decide +kernel
theorem dX9_output_15 : decode cX9_output 15 = .ok (.if_icmp .ge 14, 3) := by decide +kernel
theorem dX9_where_0 : decode cX9_where 0 = .ok (.aload_n 0, 1) := by decide +kernel
theorem dX9_where_1 : decode cX9_where 1 = .ok (.getfield 12, 3) := by decide +kernel
theorem dX9_where_4 : decode cX9_where 4 = .ok (.iload_n 1, 1) := by decide +kernel
theorem dX9_where_5 : decode cX9_where 5 = .ok (.invokevirtual 262, 3) := by decide +kernel
theorem dX5_combinationOf_0 : decode cX5_combinationOf 0 = .ok (.lconst 0, 1) := by decide +kernel
theorem dX5_combinationOf_1 : decode cX5_combinationOf 1 = .ok (.lstore_n 2, 1) := by decide +kernel
theorem dX5_combinationOf_2 : decode cX5_combinationOf 2 = .ok (.iconst 0, 1) := by decide +kernel
theorem dX5_combinationOf_3 : decode cX5_combinationOf 3 = .ok (.istore 4, 2) := by decide +kernel
theorem dX5_combinationOf_5 : decode cX5_combinationOf 5 = .ok (.iload_n 1, 1) := by decide +kernel
theorem dX5_combinationOf_6 : decode cX5_combinationOf 6 = .ok (.istore 5, 2) := by decide +kernel
theorem dX5_combinationOf_8 : decode cX5_combinationOf 8 = .ok (.aload_n 0, 1) := by decide +kernel
theorem dX5_combinationOf_9 : decode cX5_combinationOf 9 = .ok (.getfield 62, 3) := by decide +kernel
theorem dX5_combinationOf_12 : decode cX5_combinationOf 12 = .ok (.iconst 3, 1) := by decide +kernel
theorem dX5_combinationOf_13 : decode cX5_combinationOf 13 = .ok (.invokestatic 281, 3) := by decide +kernel
theorem dX5_combinationOf_16 : decode cX5_combinationOf 16 = .ok (.iconst 1, 1) := by decide +kernel
theorem dX5_combinationOf_17 : decode cX5_combinationOf 17 = .ok (.isub, 1) := by decide +kernel
theorem dX5_combinationOf_18 : decode cX5_combinationOf 18 = .ok (.istore 6, 2) := by decide +kernel
theorem dX5_combinationOf_20 : decode cX5_combinationOf 20 = .ok (.iload 6, 2) := by decide +kernel
theorem dX5_combinationOf_22 : decode cX5_combinationOf 22 = .ok (.ifCond .lt 68, 3) := by decide +kernel
theorem dX5_combinationOf_90 : decode cX5_combinationOf 90 = .ok (.iload 5, 2) := by decide +kernel
theorem dX5_combinationOf_92 : decode cX5_combinationOf 92 = .ok (.ifCond .ne 16, 3) := by decide +kernel
theorem dX5_combinationOf_108 : decode cX5_combinationOf 108 = .ok (.lconst 0, 1) := by decide +kernel
theorem dX5_combinationOf_109 : decode cX5_combinationOf 109 = .ok (.lreturn, 1) := by decide +kernel
theorem dX5_combinationOf_95 : decode cX5_combinationOf 95 = .ok (.iload_n 1, 1) := by decide +kernel
theorem dX5_combinationOf_96 : decode cX5_combinationOf 96 = .ok (.ifCond .lt 12, 3) := by decide +kernel
theorem dX5_combinationOf_99 : decode cX5_combinationOf 99 = .ok (.lload_n 2, 1) := by decide +kernel
theorem dX5_combinationOf_100 : decode cX5_combinationOf 100 = .ok (.iload 4, 2) := by decide +kernel
theorem dX5_combinationOf_102 : decode cX5_combinationOf 102 = .ok (.invokestatic 292, 3) := by decide +kernel
theorem dX0_withOrigin_0 : decode cX0_withOrigin 0 = .ok (.lload_n 0, 1) := by decide +kernel
theorem dX0_withOrigin_1 : decode cX0_withOrigin 1 = .ok (.iload_n 2, 1) := by decide +kernel
theorem dX0_withOrigin_2 : decode cX0_withOrigin 2 = .ok (.i2l, 1) := by decide +kernel
theorem dX0_withOrigin_3 : decode cX0_withOrigin 3 = .ok (.ldc2_w 21, 3) := by decide +kernel
theorem dX0_withOrigin_6 : decode cX0_withOrigin 6 = .ok (.land, 1) := by decide +kernel
theorem dX0_withOrigin_7 : decode cX0_withOrigin 7 = .ok (.bipush 15, 2) := by decide +kernel
theorem dX0_withOrigin_9 : decode cX0_withOrigin 9 = .ok (.lshl, 1) := by decide +kernel
theorem dX0_withOrigin_10 : decode cX0_withOrigin 10 = .ok (.lor, 1) := by decide +kernel
theorem dX0_withOrigin_11 : decode cX0_withOrigin 11 = .ok (.lreturn, 1) := by decide +kernel
theorem dX5_combinationOf_105 : decode cX5_combinationOf 105 = .ok (.goto 4, 3) := by decide +kernel
theorem dX9_where_8 : decode cX9_where 8 = .ok (.lstore_n 2, 1) := by decide +kernel
theorem dX9_where_9 : decode cX9_where 9 = .ok (.lload_n 2, 1) := by decide +kernel
theorem dX9_where_10 : decode cX9_where 10 = .ok (.lconst 0, 1) := by decide +kernel
theorem dX9_where_11 : decode cX9_where 11 = .ok (.lcmp, 1) := by decide +kernel
theorem dX9_where_12 : decode cX9_where 12 = .ok (.ifCond .ne 7, 3) := by decide +kernel
theorem dX9_where_15 : decode cX9_where 15 = .ok (.iconst (-1), 1) := by decide +kernel
theorem dX9_where_16 : decode cX9_where 16 = .ok (.goto 11, 3) := by decide +kernel
theorem dX9_where_27 : decode cX9_where 27 = .ok (.ireturn, 1) := by decide +kernel
theorem dX9_answer_0 : decode cX9_answer 0 = .ok (.iload_n 1, 1) := by decide +kernel
theorem dX9_answer_1 : decode cX9_answer 1 = .ok (.ifCond .lt 8, 3) := by decide +kernel
theorem dX9_answer_9 : decode cX9_answer 9 = .ok (.iconst (-1), 1) := by decide +kernel
theorem dX9_answer_10 : decode cX9_answer 10 = .ok (.ireturn, 1) := by decide +kernel
theorem dX9_answer_4 : decode cX9_answer 4 = .ok (.iload_n 1, 1) := by decide +kernel
theorem dX9_answer_5 : decode cX9_answer 5 = .ok (.iconst 2, 1) := by decide +kernel
theorem dX9_answer_6 : decode cX9_answer 6 = .ok (.if_icmp .le 5, 3) := by decide +kernel
theorem dX9_answer_11 : decode cX9_answer 11 = .ok (.new 268, 3) := by decide +kernel
theorem dX9_answer_14 : decode cX9_answer 14 = .ok (.dup, 1) := by decide +kernel
theorem dX9_answer_15 : decode cX9_answer 15 = .ok (.invokespecial 270, 3) := by decide +kernel
theorem dX6_init_0 : decode cX6_init 0 = .ok (.aload_n 0, 1) := by decide +kernel
theorem dX6_init_1 : decode cX6_init 1 = .ok (.invokespecial 1, 3) := by decide +kernel
theorem dX6_init_4 : decode cX6_init 4 = .ok (.aload_n 0, 1) := by decide +kernel
theorem dX6_init_5 : decode cX6_init 5 = .ok (.iconst 0, 1) := by decide +kernel
theorem dX6_init_6 : decode cX6_init 6 = .ok (.putfield 7, 3) := by decide +kernel
theorem dX6_init_9 : decode cX6_init 9 = .ok (.aload_n 0, 1) := by decide +kernel
theorem dX6_init_10 : decode cX6_init 10 = .ok (.iconst 0, 1) := by decide +kernel
theorem dX6_init_11 : decode cX6_init 11 = .ok (.putfield 13, 3) := by decide +kernel
theorem dX6_init_14 : decode cX6_init 14 = .ok (.return_, 1) := by decide +kernel
theorem dX9_answer_18 : decode cX9_answer 18 = .ok (.astore_n 2, 1) := by decide +kernel
theorem dX9_answer_19 : decode cX9_answer 19 = .ok (.aload_n 0, 1) := by decide +kernel
theorem dX9_answer_20 : decode cX9_answer 20 = .ok (.getfield 12, 3) := by decide +kernel
theorem dX9_answer_23 : decode cX9_answer 23 = .ok (.getfield 24, 3) := by decide +kernel
theorem dX9_answer_26 : decode cX9_answer 26 = .ok (.ifCond .le 14, 3) := by decide +kernel
theorem dX9_answer_40 : decode cX9_answer 40 = .ok (.iload_n 1, 1) := by decide +kernel
theorem dX9_answer_41 : decode cX9_answer 41 = .ok (.lookupswitch 49 #[(0, 27), (1, 32)], 27) := by decide +kernel
theorem dX9_answer_68 : decode cX9_answer 68 = .ok (.aload_n 2, 1) := by decide +kernel
theorem dX9_answer_69 : decode cX9_answer 69 = .ok (.getfield 275, 3) := by decide +kernel
theorem dX9_answer_72 : decode cX9_answer 72 = .ok (.ireturn, 1) := by decide +kernel
theorem dX9_answer_73 : decode cX9_answer 73 = .ok (.aload_n 2, 1) := by decide +kernel
theorem dX9_answer_74 : decode cX9_answer 74 = .ok (.getfield 275, 3) := by decide +kernel
theorem dX9_answer_77 : decode cX9_answer 77 = .ok (.ifCond .le 10, 3) := by decide +kernel
theorem dX9_answer_87 : decode cX9_answer 87 = .ok (.bipush (-5), 2) := by decide +kernel
theorem dX9_answer_89 : decode cX9_answer 89 = .ok (.ireturn, 1) := by decide +kernel
theorem dX9_answer_90 : decode cX9_answer 90 = .ok (.aload_n 0, 1) := by decide +kernel
theorem dX9_answer_91 : decode cX9_answer 91 = .ok (.getfield 12, 3) := by decide +kernel
theorem dX9_answer_94 : decode cX9_answer 94 = .ok (.aload_n 2, 1) := by decide +kernel
theorem dX9_answer_95 : decode cX9_answer 95 = .ok (.getfield 275, 3) := by decide +kernel
theorem dX9_answer_98 : decode cX9_answer 98 = .ok (.invokevirtual 281, 3) := by decide +kernel
theorem dX5_isSettledOn_0 : decode cX5_isSettledOn 0 = .ok (.aload_n 0, 1) := by decide +kernel
theorem dX5_isSettledOn_1 : decode cX5_isSettledOn 1 = .ok (.getfield 28, 3) := by decide +kernel
theorem dX5_isSettledOn_4 : decode cX5_isSettledOn 4 = .ok (.getfield 168, 3) := by decide +kernel
theorem dX5_isSettledOn_7 : decode cX5_isSettledOn 7 = .ok (.ifCond .gt 14, 3) := by decide +kernel
theorem dX5_isSettledOn_10 : decode cX5_isSettledOn 10 = .ok (.aload_n 0, 1) := by decide +kernel
theorem dX5_isSettledOn_11 : decode cX5_isSettledOn 11 = .ok (.getfield 38, 3) := by decide +kernel
theorem dX5_isSettledOn_14 : decode cX5_isSettledOn 14 = .ok (.getfield 168, 3) := by decide +kernel
theorem dX5_isSettledOn_17 : decode cX5_isSettledOn 17 = .ok (.iload_n 1, 1) := by decide +kernel
theorem dX5_isSettledOn_18 : decode cX5_isSettledOn 18 = .ok (.if_icmp .eq 5, 3) := by decide +kernel
theorem dX5_isSettledOn_23 : decode cX5_isSettledOn 23 = .ok (.iconst 0, 1) := by decide +kernel
theorem dX5_isSettledOn_24 : decode cX5_isSettledOn 24 = .ok (.istore_n 2, 1) := by decide +kernel
theorem dX5_isSettledOn_25 : decode cX5_isSettledOn 25 = .ok (.iload_n 2, 1) := by decide +kernel
theorem dX5_isSettledOn_26 : decode cX5_isSettledOn 26 = .ok (.aload_n 0, 1) := by decide +kernel
theorem dX5_isSettledOn_27 : decode cX5_isSettledOn 27 = .ok (.getfield 38, 3) := by decide +kernel
theorem dX5_isSettledOn_30 : decode cX5_isSettledOn 30 = .ok (.getfield 168, 3) := by decide +kernel
theorem dX5_isSettledOn_33 : decode cX5_isSettledOn 33 = .ok (.if_icmp .ge 26, 3) := by decide +kernel
theorem dX5_isSettledOn_59 : decode cX5_isSettledOn 59 = .ok (.iconst 1, 1) := by decide +kernel
theorem dX5_isSettledOn_60 : decode cX5_isSettledOn 60 = .ok (.ireturn, 1) := by decide +kernel
theorem dX9_answer_101 : decode cX9_answer 101 = .ok (.invokestatic 204, 3) := by decide +kernel
theorem dX9_asInt_0 : decode cX9_asInt 0 = .ok (.iload_n 0, 1) := by decide +kernel
theorem dX9_asInt_1 : decode cX9_asInt 1 = .ok (.ifCond .eq 7, 3) := by decide +kernel
theorem dX9_asInt_4 : decode cX9_asInt 4 = .ok (.iconst 1, 1) := by decide +kernel
theorem dX9_asInt_5 : decode cX9_asInt 5 = .ok (.goto 4, 3) := by decide +kernel
theorem dX9_asInt_9 : decode cX9_asInt 9 = .ok (.ireturn, 1) := by decide +kernel
theorem dX9_answer_104 : decode cX9_answer 104 = .ok (.ireturn, 1) := by decide +kernel
theorem dX9_rank_0 : decode cX9_rank 0 = .ok (.aload_n 0, 1) := by decide +kernel
theorem dX9_rank_1 : decode cX9_rank 1 = .ok (.getfield 12, 3) := by decide +kernel
theorem dX9_rank_4 : decode cX9_rank 4 = .ok (.iload_n 1, 1) := by decide +kernel
theorem dX9_rank_5 : decode cX9_rank 5 = .ok (.invokevirtual 143, 3) := by decide +kernel
theorem dX9_rank_8 : decode cX9_rank 8 = .ok (.ifCond .eq 12, 3) := by decide +kernel
theorem dX9_rank_20 : decode cX9_rank 20 = .ok (.ldc2_w 284, 3) := by decide +kernel
theorem dX9_rank_23 : decode cX9_rank 23 = .ok (.lreturn, 1) := by decide +kernel
theorem dX9_would_0 : decode cX9_would 0 = .ok (.iload_n 2, 1) := by decide +kernel
theorem dX9_would_1 : decode cX9_would 1 = .ok (.ifCond .lt 8, 3) := by decide +kernel
theorem dX9_would_9 : decode cX9_would 9 = .ok (.iconst (-1), 1) := by decide +kernel
theorem dX9_would_10 : decode cX9_would 10 = .ok (.ireturn, 1) := by decide +kernel
theorem dX9_would_4 : decode cX9_would 4 = .ok (.iload_n 2, 1) := by decide +kernel
theorem dX9_would_5 : decode cX9_would 5 = .ok (.iconst 2, 1) := by decide +kernel
theorem dX9_would_6 : decode cX9_would 6 = .ok (.if_icmp .le 5, 3) := by decide +kernel
theorem dX9_would_11 : decode cX9_would 11 = .ok (.iload_n 1, 1) := by decide +kernel
theorem dX9_would_12 : decode cX9_would 12 = .ok (.ifCond .lt 8, 3) := by decide +kernel
theorem dX9_would_20 : decode cX9_would 20 = .ok (.bipush (-2), 2) := by decide +kernel
theorem dX9_would_22 : decode cX9_would 22 = .ok (.ireturn, 1) := by decide +kernel
theorem dX9_would_15 : decode cX9_would 15 = .ok (.iload_n 1, 1) := by decide +kernel
theorem dX9_would_16 : decode cX9_would 16 = .ok (.iconst 4, 1) := by decide +kernel
theorem dX9_would_17 : decode cX9_would 17 = .ok (.if_icmp .le 6, 3) := by decide +kernel
theorem dX9_would_23 : decode cX9_would 23 = .ok (.aload_n 0, 1) := by decide +kernel
theorem dX9_would_24 : decode cX9_would 24 = .ok (.iload_n 1, 1) := by decide +kernel
theorem dX9_would_25 : decode cX9_would 25 = .ok (.invokevirtual 297, 3) := by decide +kernel
theorem dX9_simulated_0 : decode cX9_simulated 0 = .ok (.aload_n 0, 1) := by decide +kernel
theorem dX9_simulated_1 : decode cX9_simulated 1 = .ok (.getfield 21, 3) := by decide +kernel
theorem dX9_simulated_4 : decode cX9_simulated 4 = .ok (.ifnonnull 14, 3) := by decide +kernel
theorem dX9_simulated_7 : decode cX9_simulated 7 = .ok (.aload_n 0, 1) := by decide +kernel
theorem dX9_simulated_8 : decode cX9_simulated 8 = .ok (.new 9, 3) := by decide +kernel
theorem dX9_simulated_11 : decode cX9_simulated 11 = .ok (.dup, 1) := by decide +kernel
theorem dX9_simulated_12 : decode cX9_simulated 12 = .ok (.invokespecial 11, 3) := by decide +kernel
theorem dX9_simulated_15 : decode cX9_simulated 15 = .ok (.putfield 21, 3) := by decide +kernel
theorem dX9_simulated_18 : decode cX9_simulated 18 = .ok (.aload_n 0, 1) := by decide +kernel
theorem dX9_simulated_19 : decode cX9_simulated 19 = .ok (.getfield 21, 3) := by decide +kernel
theorem dX9_simulated_22 : decode cX9_simulated 22 = .ok (.aload_n 0, 1) := by decide +kernel
theorem dX9_simulated_23 : decode cX9_simulated 23 = .ok (.getfield 12, 3) := by decide +kernel
theorem dX9_simulated_26 : decode cX9_simulated 26 = .ok (.invokevirtual 301, 3) := by decide +kernel
theorem dX5_copyFrom_0 : decode cX5_copyFrom 0 = .ok (.iconst 0, 1) := by decide +kernel
theorem dX5_copyFrom_1 : decode cX5_copyFrom 1 = .ok (.istore_n 2, 1) := by decide +kernel
theorem dX5_copyFrom_2 : decode cX5_copyFrom 2 = .ok (.iload_n 2, 1) := by decide +kernel
theorem dX5_copyFrom_3 : decode cX5_copyFrom 3 = .ok (.iconst 3, 1) := by decide +kernel
theorem dX5_copyFrom_4 : decode cX5_copyFrom 4 = .ok (.if_icmp .ge 24, 3) := by decide +kernel
theorem dX5_copyFrom_7 : decode cX5_copyFrom 7 = .ok (.aload_n 0, 1) := by decide +kernel
theorem dX5_copyFrom_8 : decode cX5_copyFrom 8 = .ok (.getfield 11, 3) := by decide +kernel
theorem dX5_copyFrom_11 : decode cX5_copyFrom 11 = .ok (.iload_n 2, 1) := by decide +kernel
theorem dX5_copyFrom_12 : decode cX5_copyFrom 12 = .ok (.aaload, 1) := by decide +kernel
theorem dX5_copyFrom_13 : decode cX5_copyFrom 13 = .ok (.aload_n 1, 1) := by decide +kernel
theorem dX5_copyFrom_14 : decode cX5_copyFrom 14 = .ok (.getfield 11, 3) := by decide +kernel
theorem dX5_copyFrom_17 : decode cX5_copyFrom 17 = .ok (.iload_n 2, 1) := by decide +kernel
theorem dX5_copyFrom_18 : decode cX5_copyFrom 18 = .ok (.aaload, 1) := by decide +kernel
theorem dX5_copyFrom_19 : decode cX5_copyFrom 19 = .ok (.invokevirtual 55, 3) := by decide +kernel
theorem dX4_copyFrom_0 : decode cX4_copyFrom 0 = .ok (.aload_n 0, 1) := by decide +kernel
theorem dX4_copyFrom_1 : decode cX4_copyFrom 1 = .ok (.aload_n 1, 1) := by decide +kernel
theorem dX4_copyFrom_2 : decode cX4_copyFrom 2 = .ok (.getfield 9, 3) := by decide +kernel
theorem dX4_copyFrom_5 : decode cX4_copyFrom 5 = .ok (.putfield 9, 3) := by decide +kernel
theorem dX4_copyFrom_8 : decode cX4_copyFrom 8 = .ok (.aload_n 0, 1) := by decide +kernel
theorem dX4_copyFrom_9 : decode cX4_copyFrom 9 = .ok (.aload_n 1, 1) := by decide +kernel
theorem dX4_copyFrom_10 : decode cX4_copyFrom 10 = .ok (.getfield 15, 3) := by decide +kernel
theorem dX4_copyFrom_13 : decode cX4_copyFrom 13 = .ok (.putfield 15, 3) := by decide +kernel
theorem dX4_copyFrom_16 : decode cX4_copyFrom 16 = .ok (.aload_n 0, 1) := by decide +kernel
theorem dX4_copyFrom_17 : decode cX4_copyFrom 17 = .ok (.aload_n 1, 1) := by decide +kernel
theorem dX4_copyFrom_18 : decode cX4_copyFrom 18 = .ok (.getfield 28, 3) := by decide +kernel
theorem dX4_copyFrom_21 : decode cX4_copyFrom 21 = .ok (.putfield 28, 3) := by decide +kernel
theorem dX4_copyFrom_24 : decode cX4_copyFrom 24 = .ok (.aload_n 0, 1) := by decide +kernel
theorem dX4_copyFrom_25 : decode cX4_copyFrom 25 = .ok (.aload_n 1, 1) := by decide +kernel
theorem dX4_copyFrom_26 : decode cX4_copyFrom 26 = .ok (.getfield 35, 3) := by decide +kernel
theorem dX4_copyFrom_29 : decode cX4_copyFrom 29 = .ok (.putfield 35, 3) := by decide +kernel
theorem dX4_copyFrom_32 : decode cX4_copyFrom 32 = .ok (.aload_n 0, 1) := by decide +kernel
theorem dX4_copyFrom_33 : decode cX4_copyFrom 33 = .ok (.aload_n 1, 1) := by decide +kernel
theorem dX4_copyFrom_34 : decode cX4_copyFrom 34 = .ok (.getfield 38, 3) := by decide +kernel
theorem dX4_copyFrom_37 : decode cX4_copyFrom 37 = .ok (.putfield 38, 3) := by decide +kernel
theorem dX4_copyFrom_40 : decode cX4_copyFrom 40 = .ok (.aload_n 0, 1) := by decide +kernel
theorem dX4_copyFrom_41 : decode cX4_copyFrom 41 = .ok (.aload_n 1, 1) := by decide +kernel
theorem dX4_copyFrom_42 : decode cX4_copyFrom 42 = .ok (.getfield 41, 3) := by decide +kernel
theorem dX4_copyFrom_45 : decode cX4_copyFrom 45 = .ok (.putfield 41, 3) := by decide +kernel
theorem dX4_copyFrom_48 : decode cX4_copyFrom 48 = .ok (.aload_n 0, 1) := by decide +kernel
theorem dX4_copyFrom_49 : decode cX4_copyFrom 49 = .ok (.aload_n 1, 1) := by decide +kernel
theorem dX4_copyFrom_50 : decode cX4_copyFrom 50 = .ok (.getfield 44, 3) := by decide +kernel
theorem dX4_copyFrom_53 : decode cX4_copyFrom 53 = .ok (.putfield 44, 3) := by decide +kernel
theorem dX4_copyFrom_56 : decode cX4_copyFrom 56 = .ok (.aload_n 1, 1) := by decide +kernel
theorem dX4_copyFrom_57 : decode cX4_copyFrom 57 = .ok (.getfield 18, 3) := by decide +kernel
theorem dX4_copyFrom_60 : decode cX4_copyFrom 60 = .ok (.iconst 0, 1) := by decide +kernel
theorem dX4_copyFrom_61 : decode cX4_copyFrom 61 = .ok (.aload_n 0, 1) := by decide +kernel
theorem dX4_copyFrom_62 : decode cX4_copyFrom 62 = .ok (.getfield 18, 3) := by decide +kernel
theorem dX4_copyFrom_65 : decode cX4_copyFrom 65 = .ok (.iconst 0, 1) := by decide +kernel
theorem dX4_copyFrom_66 : decode cX4_copyFrom 66 = .ok (.bipush 16, 2) := by decide +kernel
theorem dX4_copyFrom_68 : decode cX4_copyFrom 68 = .ok (.invokestatic 47, 3) := by decide +kernel
theorem dX4_copyFrom_71 : decode cX4_copyFrom 71 = .ok (.aload_n 1, 1) := by decide +kernel
theorem dX4_copyFrom_72 : decode cX4_copyFrom 72 = .ok (.getfield 22, 3) := by decide +kernel
theorem dX4_copyFrom_75 : decode cX4_copyFrom 75 = .ok (.iconst 0, 1) := by decide +kernel
theorem dX4_copyFrom_76 : decode cX4_copyFrom 76 = .ok (.aload_n 0, 1) := by decide +kernel
theorem dX4_copyFrom_77 : decode cX4_copyFrom 77 = .ok (.getfield 22, 3) := by decide +kernel
theorem dX4_copyFrom_80 : decode cX4_copyFrom 80 = .ok (.iconst 0, 1) := by decide +kernel
theorem dX4_copyFrom_81 : decode cX4_copyFrom 81 = .ok (.bipush 16, 2) := by decide +kernel
theorem dX4_copyFrom_83 : decode cX4_copyFrom 83 = .ok (.invokestatic 47, 3) := by decide +kernel
theorem dX4_copyFrom_86 : decode cX4_copyFrom 86 = .ok (.aload_n 1, 1) := by decide +kernel
theorem dX4_copyFrom_87 : decode cX4_copyFrom 87 = .ok (.getfield 25, 3) := by decide +kernel
theorem dX4_copyFrom_90 : decode cX4_copyFrom 90 = .ok (.iconst 0, 1) := by decide +kernel
theorem dX4_copyFrom_91 : decode cX4_copyFrom 91 = .ok (.aload_n 0, 1) := by decide +kernel
theorem dX4_copyFrom_92 : decode cX4_copyFrom 92 = .ok (.getfield 25, 3) := by decide +kernel
theorem dX4_copyFrom_95 : decode cX4_copyFrom 95 = .ok (.iconst 0, 1) := by decide +kernel
theorem dX4_copyFrom_96 : decode cX4_copyFrom 96 = .ok (.bipush 48, 2) := by decide +kernel
theorem dX4_copyFrom_98 : decode cX4_copyFrom 98 = .ok (.invokestatic 47, 3) := by decide +kernel
theorem dX4_copyFrom_101 : decode cX4_copyFrom 101 = .ok (.return_, 1) := by decide +kernel
theorem dX5_copyFrom_22 : decode cX5_copyFrom 22 = .ok (.iinc 2 1, 3) := by decide +kernel
theorem dX5_copyFrom_25 : decode cX5_copyFrom 25 = .ok (.goto (-23), 3) := by decide +kernel
theorem dX5_copyFrom_28 : decode cX5_copyFrom 28 = .ok (.iconst 0, 1) := by decide +kernel
theorem dX5_copyFrom_29 : decode cX5_copyFrom 29 = .ok (.istore_n 2, 1) := by decide +kernel
theorem dX5_copyFrom_30 : decode cX5_copyFrom 30 = .ok (.iload_n 2, 1) := by decide +kernel
theorem dX5_copyFrom_31 : decode cX5_copyFrom 31 = .ok (.bipush 12, 2) := by decide +kernel
theorem dX5_copyFrom_33 : decode cX5_copyFrom 33 = .ok (.if_icmp .ge 24, 3) := by decide +kernel
theorem dX5_copyFrom_36 : decode cX5_copyFrom 36 = .ok (.aload_n 0, 1) := by decide +kernel
theorem dX5_copyFrom_37 : decode cX5_copyFrom 37 = .ok (.getfield 20, 3) := by decide +kernel
theorem dX5_copyFrom_40 : decode cX5_copyFrom 40 = .ok (.iload_n 2, 1) := by decide +kernel
theorem dX5_copyFrom_41 : decode cX5_copyFrom 41 = .ok (.aaload, 1) := by decide +kernel
theorem dX5_copyFrom_42 : decode cX5_copyFrom 42 = .ok (.aload_n 1, 1) := by decide +kernel
theorem dX5_copyFrom_43 : decode cX5_copyFrom 43 = .ok (.getfield 20, 3) := by decide +kernel
theorem dX5_copyFrom_46 : decode cX5_copyFrom 46 = .ok (.iload_n 2, 1) := by decide +kernel
theorem dX5_copyFrom_47 : decode cX5_copyFrom 47 = .ok (.aaload, 1) := by decide +kernel
theorem dX5_copyFrom_48 : decode cX5_copyFrom 48 = .ok (.invokevirtual 59, 3) := by decide +kernel
theorem dX3_copyFrom_0 : decode cX3_copyFrom 0 = .ok (.aload_n 0, 1) := by decide +kernel
theorem dX3_copyFrom_1 : decode cX3_copyFrom 1 = .ok (.aload_n 1, 1) := by decide +kernel
theorem dX3_copyFrom_2 : decode cX3_copyFrom 2 = .ok (.getfield 28, 3) := by decide +kernel
theorem dX3_copyFrom_5 : decode cX3_copyFrom 5 = .ok (.putfield 28, 3) := by decide +kernel
theorem dX3_copyFrom_8 : decode cX3_copyFrom 8 = .ok (.aload_n 0, 1) := by decide +kernel
theorem dX3_copyFrom_9 : decode cX3_copyFrom 9 = .ok (.aload_n 1, 1) := by decide +kernel
theorem dX3_copyFrom_10 : decode cX3_copyFrom 10 = .ok (.getfield 50, 3) := by decide +kernel
theorem dX3_copyFrom_13 : decode cX3_copyFrom 13 = .ok (.putfield 50, 3) := by decide +kernel
theorem dX3_copyFrom_16 : decode cX3_copyFrom 16 = .ok (.aload_n 0, 1) := by decide +kernel
theorem dX3_copyFrom_17 : decode cX3_copyFrom 17 = .ok (.aload_n 1, 1) := by decide +kernel
theorem dX3_copyFrom_18 : decode cX3_copyFrom 18 = .ok (.getfield 9, 3) := by decide +kernel
theorem dX3_copyFrom_21 : decode cX3_copyFrom 21 = .ok (.putfield 9, 3) := by decide +kernel
theorem dX3_copyFrom_24 : decode cX3_copyFrom 24 = .ok (.aload_n 0, 1) := by decide +kernel
theorem dX3_copyFrom_25 : decode cX3_copyFrom 25 = .ok (.aload_n 1, 1) := by decide +kernel
theorem dX3_copyFrom_26 : decode cX3_copyFrom 26 = .ok (.getfield 15, 3) := by decide +kernel
theorem dX3_copyFrom_29 : decode cX3_copyFrom 29 = .ok (.putfield 15, 3) := by decide +kernel
theorem dX3_copyFrom_32 : decode cX3_copyFrom 32 = .ok (.aload_n 0, 1) := by decide +kernel
theorem dX3_copyFrom_33 : decode cX3_copyFrom 33 = .ok (.aload_n 1, 1) := by decide +kernel
theorem dX3_copyFrom_34 : decode cX3_copyFrom 34 = .ok (.getfield 19, 3) := by decide +kernel
theorem dX3_copyFrom_37 : decode cX3_copyFrom 37 = .ok (.putfield 19, 3) := by decide +kernel
theorem dX3_copyFrom_40 : decode cX3_copyFrom 40 = .ok (.aload_n 0, 1) := by decide +kernel
theorem dX3_copyFrom_41 : decode cX3_copyFrom 41 = .ok (.aload_n 1, 1) := by decide +kernel
theorem dX3_copyFrom_42 : decode cX3_copyFrom 42 = .ok (.getfield 22, 3) := by decide +kernel
theorem dX3_copyFrom_45 : decode cX3_copyFrom 45 = .ok (.putfield 22, 3) := by decide +kernel
theorem dX3_copyFrom_48 : decode cX3_copyFrom 48 = .ok (.aload_n 0, 1) := by decide +kernel
theorem dX3_copyFrom_49 : decode cX3_copyFrom 49 = .ok (.aload_n 1, 1) := by decide +kernel
theorem dX3_copyFrom_50 : decode cX3_copyFrom 50 = .ok (.getfield 60, 3) := by decide +kernel
theorem dX3_copyFrom_53 : decode cX3_copyFrom 53 = .ok (.putfield 60, 3) := by decide +kernel
theorem dX3_copyFrom_56 : decode cX3_copyFrom 56 = .ok (.aload_n 0, 1) := by decide +kernel
theorem dX3_copyFrom_57 : decode cX3_copyFrom 57 = .ok (.aload_n 1, 1) := by decide +kernel
theorem dX3_copyFrom_58 : decode cX3_copyFrom 58 = .ok (.getfield 25, 3) := by decide +kernel
theorem dX3_copyFrom_61 : decode cX3_copyFrom 61 = .ok (.putfield 25, 3) := by decide +kernel
theorem dX3_copyFrom_64 : decode cX3_copyFrom 64 = .ok (.aload_n 0, 1) := by decide +kernel
theorem dX3_copyFrom_65 : decode cX3_copyFrom 65 = .ok (.aload_n 1, 1) := by decide +kernel
theorem dX3_copyFrom_66 : decode cX3_copyFrom 66 = .ok (.getfield 63, 3) := by decide +kernel
theorem dX3_copyFrom_69 : decode cX3_copyFrom 69 = .ok (.putfield 63, 3) := by decide +kernel
theorem dX3_copyFrom_72 : decode cX3_copyFrom 72 = .ok (.aload_n 0, 1) := by decide +kernel
theorem dX3_copyFrom_73 : decode cX3_copyFrom 73 = .ok (.aload_n 1, 1) := by decide +kernel
theorem dX3_copyFrom_74 : decode cX3_copyFrom 74 = .ok (.getfield 31, 3) := by decide +kernel
theorem dX3_copyFrom_77 : decode cX3_copyFrom 77 = .ok (.putfield 31, 3) := by decide +kernel
theorem dX3_copyFrom_80 : decode cX3_copyFrom 80 = .ok (.aload_n 0, 1) := by decide +kernel
theorem dX3_copyFrom_81 : decode cX3_copyFrom 81 = .ok (.aload_n 1, 1) := by decide +kernel
theorem dX3_copyFrom_82 : decode cX3_copyFrom 82 = .ok (.getfield 34, 3) := by decide +kernel
theorem dX3_copyFrom_85 : decode cX3_copyFrom 85 = .ok (.putfield 34, 3) := by decide +kernel
theorem dX3_copyFrom_88 : decode cX3_copyFrom 88 = .ok (.aload_n 0, 1) := by decide +kernel
theorem dX3_copyFrom_89 : decode cX3_copyFrom 89 = .ok (.aload_n 1, 1) := by decide +kernel
theorem dX3_copyFrom_90 : decode cX3_copyFrom 90 = .ok (.getfield 43, 3) := by decide +kernel
theorem dX3_copyFrom_93 : decode cX3_copyFrom 93 = .ok (.putfield 43, 3) := by decide +kernel
theorem dX3_copyFrom_96 : decode cX3_copyFrom 96 = .ok (.return_, 1) := by decide +kernel
theorem dX5_copyFrom_51 : decode cX5_copyFrom 51 = .ok (.iinc 2 1, 3) := by decide +kernel
theorem dX5_copyFrom_54 : decode cX5_copyFrom 54 = .ok (.goto (-24), 3) := by decide +kernel
theorem dX5_copyFrom_57 : decode cX5_copyFrom 57 = .ok (.aload_n 0, 1) := by decide +kernel
theorem dX5_copyFrom_58 : decode cX5_copyFrom 58 = .ok (.aload_n 1, 1) := by decide +kernel
theorem dX5_copyFrom_59 : decode cX5_copyFrom 59 = .ok (.getfield 62, 3) := by decide +kernel
theorem dX5_copyFrom_62 : decode cX5_copyFrom 62 = .ok (.putfield 62, 3) := by decide +kernel
theorem dX5_copyFrom_65 : decode cX5_copyFrom 65 = .ok (.aload_n 0, 1) := by decide +kernel
theorem dX5_copyFrom_66 : decode cX5_copyFrom 66 = .ok (.aload_n 1, 1) := by decide +kernel
theorem dX5_copyFrom_67 : decode cX5_copyFrom 67 = .ok (.getfield 66, 3) := by decide +kernel
theorem dX5_copyFrom_70 : decode cX5_copyFrom 70 = .ok (.putfield 66, 3) := by decide +kernel
theorem dX5_copyFrom_73 : decode cX5_copyFrom 73 = .ok (.aload_n 0, 1) := by decide +kernel
theorem dX5_copyFrom_74 : decode cX5_copyFrom 74 = .ok (.getfield 28, 3) := by decide +kernel
theorem dX5_copyFrom_77 : decode cX5_copyFrom 77 = .ok (.aload_n 1, 1) := by decide +kernel
theorem dX5_copyFrom_78 : decode cX5_copyFrom 78 = .ok (.getfield 28, 3) := by decide +kernel
theorem dX5_copyFrom_81 : decode cX5_copyFrom 81 = .ok (.invokevirtual 69, 3) := by decide +kernel
theorem dX2_copyFrom_0 : decode cX2_copyFrom 0 = .ok (.aload_n 0, 1) := by decide +kernel
theorem dX2_copyFrom_1 : decode cX2_copyFrom 1 = .ok (.getfield 9, 3) := by decide +kernel
theorem dX2_copyFrom_4 : decode cX2_copyFrom 4 = .ok (.arraylength, 1) := by decide +kernel
theorem dX2_copyFrom_5 : decode cX2_copyFrom 5 = .ok (.aload_n 1, 1) := by decide +kernel
theorem dX2_copyFrom_6 : decode cX2_copyFrom 6 = .ok (.getfield 17, 3) := by decide +kernel
theorem dX2_copyFrom_9 : decode cX2_copyFrom 9 = .ok (.if_icmp .ge 14, 3) := by decide +kernel
theorem dX2_copyFrom_23 : decode cX2_copyFrom 23 = .ok (.iconst 0, 1) := by decide +kernel
theorem dX2_copyFrom_24 : decode cX2_copyFrom 24 = .ok (.istore_n 2, 1) := by decide +kernel
theorem dX2_copyFrom_25 : decode cX2_copyFrom 25 = .ok (.iload_n 2, 1) := by decide +kernel
theorem dX2_copyFrom_26 : decode cX2_copyFrom 26 = .ok (.aload_n 1, 1) := by decide +kernel
theorem dX2_copyFrom_27 : decode cX2_copyFrom 27 = .ok (.getfield 17, 3) := by decide +kernel
theorem dX2_copyFrom_30 : decode cX2_copyFrom 30 = .ok (.if_icmp .ge 29, 3) := by decide +kernel
theorem dX2_copyFrom_59 : decode cX2_copyFrom 59 = .ok (.aload_n 0, 1) := by decide +kernel
theorem dX2_copyFrom_60 : decode cX2_copyFrom 60 = .ok (.iconst 0, 1) := by decide +kernel
theorem dX2_copyFrom_61 : decode cX2_copyFrom 61 = .ok (.putfield 13, 3) := by decide +kernel
theorem dX2_copyFrom_64 : decode cX2_copyFrom 64 = .ok (.aload_n 0, 1) := by decide +kernel
theorem dX2_copyFrom_65 : decode cX2_copyFrom 65 = .ok (.aload_n 1, 1) := by decide +kernel
theorem dX2_copyFrom_66 : decode cX2_copyFrom 66 = .ok (.getfield 17, 3) := by decide +kernel
theorem dX2_copyFrom_69 : decode cX2_copyFrom 69 = .ok (.putfield 17, 3) := by decide +kernel
theorem dX2_copyFrom_72 : decode cX2_copyFrom 72 = .ok (.return_, 1) := by decide +kernel
theorem dX5_copyFrom_84 : decode cX5_copyFrom 84 = .ok (.aload_n 0, 1) := by decide +kernel
theorem dX5_copyFrom_85 : decode cX5_copyFrom 85 = .ok (.getfield 32, 3) := by decide +kernel
theorem dX5_copyFrom_88 : decode cX5_copyFrom 88 = .ok (.aload_n 1, 1) := by decide +kernel
theorem dX5_copyFrom_89 : decode cX5_copyFrom 89 = .ok (.getfield 32, 3) := by decide +kernel
theorem dX5_copyFrom_92 : decode cX5_copyFrom 92 = .ok (.invokevirtual 69, 3) := by decide +kernel
theorem dX5_copyFrom_95 : decode cX5_copyFrom 95 = .ok (.aload_n 0, 1) := by decide +kernel
theorem dX5_copyFrom_96 : decode cX5_copyFrom 96 = .ok (.getfield 35, 3) := by decide +kernel
theorem dX5_copyFrom_99 : decode cX5_copyFrom 99 = .ok (.aload_n 1, 1) := by decide +kernel
theorem dX5_copyFrom_100 : decode cX5_copyFrom 100 = .ok (.getfield 35, 3) := by decide +kernel
theorem dX5_copyFrom_103 : decode cX5_copyFrom 103 = .ok (.invokevirtual 69, 3) := by decide +kernel
theorem dX5_copyFrom_106 : decode cX5_copyFrom 106 = .ok (.aload_n 0, 1) := by decide +kernel
theorem dX5_copyFrom_107 : decode cX5_copyFrom 107 = .ok (.getfield 38, 3) := by decide +kernel
theorem dX5_copyFrom_110 : decode cX5_copyFrom 110 = .ok (.aload_n 1, 1) := by decide +kernel
theorem dX5_copyFrom_111 : decode cX5_copyFrom 111 = .ok (.getfield 38, 3) := by decide +kernel
theorem dX5_copyFrom_114 : decode cX5_copyFrom 114 = .ok (.invokevirtual 69, 3) := by decide +kernel
theorem dX5_copyFrom_117 : decode cX5_copyFrom 117 = .ok (.aload_n 0, 1) := by decide +kernel
theorem dX5_copyFrom_118 : decode cX5_copyFrom 118 = .ok (.getfield 44, 3) := by decide +kernel
theorem dX5_copyFrom_121 : decode cX5_copyFrom 121 = .ok (.aload_n 1, 1) := by decide +kernel
theorem dX5_copyFrom_122 : decode cX5_copyFrom 122 = .ok (.getfield 44, 3) := by decide +kernel
theorem dX5_copyFrom_125 : decode cX5_copyFrom 125 = .ok (.invokevirtual 72, 3) := by decide +kernel
