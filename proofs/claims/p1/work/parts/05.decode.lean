theorem dX7_copyFrom_0 : decode cX7_copyFrom 0 = .ok (.aload_n 1, 1) := by decide +kernel
theorem dX7_copyFrom_1 : decode cX7_copyFrom 1 = .ok (.getfield 9, 3) := by decide +kernel
theorem dX7_copyFrom_4 : decode cX7_copyFrom 4 = .ok (.iconst 0, 1) := by decide +kernel
theorem dX7_copyFrom_5 : decode cX7_copyFrom 5 = .ok (.aload_n 0, 1) := by decide +kernel
theorem dX7_copyFrom_6 : decode cX7_copyFrom 6 = .ok (.getfield 9, 3) := by decide +kernel
theorem dX7_copyFrom_9 : decode cX7_copyFrom 9 = .ok (.iconst 0, 1) := by decide +kernel
theorem dX7_copyFrom_10 : decode cX7_copyFrom 10 = .ok (.bipush 40, 2) := by decide +kernel
theorem dX7_copyFrom_12 : decode cX7_copyFrom 12 = .ok (.invokestatic 19, 3) := by decide +kernel
theorem dX7_copyFrom_15 : decode cX7_copyFrom 15 = .ok (.aload_n 0, 1) := by decide +kernel
theorem dX7_copyFrom_16 : decode cX7_copyFrom 16 = .ok (.aload_n 1, 1) := by decide +kernel
theorem dX7_copyFrom_17 : decode cX7_copyFrom 17 = .ok (.getfield 15, 3) := by decide +kernel
theorem dX7_copyFrom_20 : decode cX7_copyFrom 20 = .ok (.putfield 15, 3) := by decide +kernel
theorem dX7_copyFrom_23 : decode cX7_copyFrom 23 = .ok (.return_, 1) := by decide +kernel
theorem dX5_copyFrom_128 : decode cX5_copyFrom 128 = .ok (.aload_n 0, 1) := by decide +kernel
theorem dX5_copyFrom_129 : decode cX5_copyFrom 129 = .ok (.getfield 51, 3) := by decide +kernel
theorem dX5_copyFrom_132 : decode cX5_copyFrom 132 = .ok (.aload_n 1, 1) := by decide +kernel
theorem dX5_copyFrom_133 : decode cX5_copyFrom 133 = .ok (.getfield 51, 3) := by decide +kernel
theorem dX5_copyFrom_136 : decode cX5_copyFrom 136 = .ok (.invokevirtual 75, 3) := by decide +kernel
theorem dX1_copyFrom_0 : decode cX1_copyFrom 0 = .ok (.aload_n 1, 1) := by decide +kernel
theorem dX1_copyFrom_1 : decode cX1_copyFrom 1 = .ok (.getfield 9, 3) := by decide +kernel
theorem dX1_copyFrom_4 : decode cX1_copyFrom 4 = .ok (.iconst 0, 1) := by decide +kernel
theorem dX1_copyFrom_5 : decode cX1_copyFrom 5 = .ok (.aload_n 0, 1) := by decide +kernel
theorem dX1_copyFrom_6 : decode cX1_copyFrom 6 = .ok (.getfield 9, 3) := by decide +kernel
theorem dX1_copyFrom_9 : decode cX1_copyFrom 9 = .ok (.iconst 0, 1) := by decide +kernel
theorem dX1_copyFrom_10 : decode cX1_copyFrom 10 = .ok (.bipush 32, 2) := by decide +kernel
theorem dX1_copyFrom_12 : decode cX1_copyFrom 12 = .ok (.invokestatic 25, 3) := by decide +kernel
theorem dX1_copyFrom_15 : decode cX1_copyFrom 15 = .ok (.aload_n 0, 1) := by decide +kernel
theorem dX1_copyFrom_16 : decode cX1_copyFrom 16 = .ok (.aload_n 1, 1) := by decide +kernel
theorem dX1_copyFrom_17 : decode cX1_copyFrom 17 = .ok (.getfield 15, 3) := by decide +kernel
theorem dX1_copyFrom_20 : decode cX1_copyFrom 20 = .ok (.putfield 15, 3) := by decide +kernel
theorem dX1_copyFrom_23 : decode cX1_copyFrom 23 = .ok (.return_, 1) := by decide +kernel
theorem dX5_copyFrom_139 : decode cX5_copyFrom 139 = .ok (.aload_n 0, 1) := by decide +kernel
theorem dX5_copyFrom_140 : decode cX5_copyFrom 140 = .ok (.aload_n 1, 1) := by decide +kernel
theorem dX5_copyFrom_141 : decode cX5_copyFrom 141 = .ok (.getfield 78, 3) := by decide +kernel
theorem dX5_copyFrom_144 : decode cX5_copyFrom 144 = .ok (.putfield 78, 3) := by decide +kernel
theorem dX5_copyFrom_147 : decode cX5_copyFrom 147 = .ok (.aload_n 0, 1) := by decide +kernel
theorem dX5_copyFrom_148 : decode cX5_copyFrom 148 = .ok (.aload_n 1, 1) := by decide +kernel
theorem dX5_copyFrom_149 : decode cX5_copyFrom 149 = .ok (.getfield 81, 3) := by decide +kernel
theorem dX5_copyFrom_152 : decode cX5_copyFrom 152 = .ok (.putfield 81, 3) := by decide +kernel
theorem dX5_copyFrom_155 : decode cX5_copyFrom 155 = .ok (.aload_n 0, 1) := by decide +kernel
theorem dX5_copyFrom_156 : decode cX5_copyFrom 156 = .ok (.aload_n 1, 1) := by decide +kernel
theorem dX5_copyFrom_157 : decode cX5_copyFrom 157 = .ok (.getfield 84, 3) := by decide +kernel
theorem dX5_copyFrom_160 : decode cX5_copyFrom 160 = .ok (.putfield 84, 3) := by decide +kernel
theorem dX5_copyFrom_163 : decode cX5_copyFrom 163 = .ok (.aload_n 0, 1) := by decide +kernel
theorem dX5_copyFrom_164 : decode cX5_copyFrom 164 = .ok (.aload_n 1, 1) := by decide +kernel
theorem dX5_copyFrom_165 : decode cX5_copyFrom 165 = .ok (.getfield 87, 3) := by decide +kernel
theorem dX5_copyFrom_168 : decode cX5_copyFrom 168 = .ok (.putfield 87, 3) := by decide +kernel
theorem dX5_copyFrom_171 : decode cX5_copyFrom 171 = .ok (.aload_n 0, 1) := by decide +kernel
theorem dX5_copyFrom_172 : decode cX5_copyFrom 172 = .ok (.aload_n 1, 1) := by decide +kernel
theorem dX5_copyFrom_173 : decode cX5_copyFrom 173 = .ok (.getfield 90, 3) := by decide +kernel
theorem dX5_copyFrom_176 : decode cX5_copyFrom 176 = .ok (.putfield 90, 3) := by decide +kernel
theorem dX5_copyFrom_179 : decode cX5_copyFrom 179 = .ok (.return_, 1) := by decide +kernel
theorem dX9_simulated_29 : decode cX9_simulated 29 = .ok (.aload_n 0, 1) := by decide +kernel
theorem dX9_simulated_30 : decode cX9_simulated 30 = .ok (.getfield 21, 3) := by decide +kernel
theorem dX9_simulated_33 : decode cX9_simulated 33 = .ok (.iload_n 1, 1) := by decide +kernel
theorem dX9_simulated_34 : decode cX9_simulated 34 = .ok (.putfield 155, 3) := by decide +kernel
theorem dX9_simulated_37 : decode cX9_simulated 37 = .ok (.iconst 0, 1) := by decide +kernel
theorem dX9_simulated_38 : decode cX9_simulated 38 = .ok (.istore_n 2, 1) := by decide +kernel
theorem dX9_simulated_39 : decode cX9_simulated 39 = .ok (.iload_n 2, 1) := by decide +kernel
theorem dX9_simulated_40 : decode cX9_simulated 40 = .ok (.ldc 173, 2) := by decide +kernel
theorem dX9_simulated_42 : decode cX9_simulated 42 = .ok (.if_icmp .ge 29, 3) := by decide +kernel
theorem dX9_simulated_45 : decode cX9_simulated 45 = .ok (.aload_n 0, 1) := by decide +kernel
theorem dX9_simulated_46 : decode cX9_simulated 46 = .ok (.getfield 21, 3) := by decide +kernel
theorem dX9_simulated_49 : decode cX9_simulated 49 = .ok (.getfield 84, 3) := by decide +kernel
theorem dX9_simulated_52 : decode cX9_simulated 52 = .ok (.getfield 164, 3) := by decide +kernel
theorem dX9_simulated_55 : decode cX9_simulated 55 = .ok (.ifCond .le 16, 3) := by decide +kernel
theorem dX9_simulated_71 : decode cX9_simulated 71 = .ok (.aload_n 0, 1) := by decide +kernel
theorem dX9_simulated_72 : decode cX9_simulated 72 = .ok (.getfield 21, 3) := by decide +kernel
theorem dX9_simulated_75 : decode cX9_simulated 75 = .ok (.areturn, 1) := by decide +kernel
theorem dX9_would_28 : decode cX9_would 28 = .ok (.astore_n 3, 1) := by decide +kernel
theorem dX9_would_29 : decode cX9_would 29 = .ok (.iload_n 2, 1) := by decide +kernel
theorem dX9_would_30 : decode cX9_would 30 = .ok (.lookupswitch 52 #[(0, 26), (1, 39)], 26) := by decide +kernel
theorem dX9_would_56 : decode cX9_would 56 = .ok (.aload_n 3, 1) := by decide +kernel
theorem dX9_would_57 : decode cX9_would 57 = .ok (.getfield 170, 3) := by decide +kernel
theorem dX9_would_60 : decode cX9_would 60 = .ok (.aload_n 0, 1) := by decide +kernel
theorem dX9_would_61 : decode cX9_would 61 = .ok (.getfield 12, 3) := by decide +kernel
theorem dX9_would_64 : decode cX9_would 64 = .ok (.getfield 170, 3) := by decide +kernel
theorem dX9_would_67 : decode cX9_would 67 = .ok (.isub, 1) := by decide +kernel
theorem dX9_would_68 : decode cX9_would 68 = .ok (.ireturn, 1) := by decide +kernel
theorem dX9_would_69 : decode cX9_would 69 = .ok (.aload_n 3, 1) := by decide +kernel
theorem dX9_would_70 : decode cX9_would 70 = .ok (.getfield 161, 3) := by decide +kernel
theorem dX9_would_73 : decode cX9_would 73 = .ok (.aload_n 0, 1) := by decide +kernel
theorem dX9_would_74 : decode cX9_would 74 = .ok (.getfield 12, 3) := by decide +kernel
theorem dX9_would_77 : decode cX9_would 77 = .ok (.getfield 161, 3) := by decide +kernel
theorem dX9_would_80 : decode cX9_would 80 = .ok (.isub, 1) := by decide +kernel
theorem dX9_would_81 : decode cX9_would 81 = .ok (.ireturn, 1) := by decide +kernel
theorem dX9_would_82 : decode cX9_would 82 = .ok (.aload_n 3, 1) := by decide +kernel
theorem dX9_would_83 : decode cX9_would 83 = .ok (.getfield 259, 3) := by decide +kernel
theorem dX9_would_86 : decode cX9_would 86 = .ok (.getfield 164, 3) := by decide +kernel
theorem dX9_would_89 : decode cX9_would 89 = .ok (.ireturn, 1) := by decide +kernel
theorem dX9_best_0 : decode cX9_best 0 = .ok (.iconst 0, 1) := by decide +kernel
theorem dX9_best_1 : decode cX9_best 1 = .ok (.istore_n 1, 1) := by decide +kernel
theorem dX9_best_2 : decode cX9_best 2 = .ok (.aload_n 0, 1) := by decide +kernel
theorem dX9_best_3 : decode cX9_best 3 = .ok (.iconst 0, 1) := by decide +kernel
theorem dX9_best_4 : decode cX9_best 4 = .ok (.invokevirtual 297, 3) := by decide +kernel
theorem dX9_best_7 : decode cX9_best 7 = .ok (.getfield 170, 3) := by decide +kernel
theorem dX9_best_10 : decode cX9_best 10 = .ok (.istore_n 2, 1) := by decide +kernel
theorem dX9_best_11 : decode cX9_best 11 = .ok (.iconst 1, 1) := by decide +kernel
theorem dX9_best_12 : decode cX9_best 12 = .ok (.istore_n 3, 1) := by decide +kernel
theorem dX9_best_13 : decode cX9_best 13 = .ok (.iload_n 3, 1) := by decide +kernel
theorem dX9_best_14 : decode cX9_best 14 = .ok (.iconst 4, 1) := by decide +kernel
theorem dX9_best_15 : decode cX9_best 15 = .ok (.if_icmp .gt 30, 3) := by decide +kernel
theorem dX9_best_18 : decode cX9_best 18 = .ok (.aload_n 0, 1) := by decide +kernel
theorem dX9_best_19 : decode cX9_best 19 = .ok (.iload_n 3, 1) := by decide +kernel
theorem dX9_best_20 : decode cX9_best 20 = .ok (.invokevirtual 297, 3) := by decide +kernel
theorem dX9_best_23 : decode cX9_best 23 = .ok (.getfield 170, 3) := by decide +kernel
theorem dX9_best_26 : decode cX9_best 26 = .ok (.istore 4, 2) := by decide +kernel
theorem dX9_best_28 : decode cX9_best 28 = .ok (.iload 4, 2) := by decide +kernel
theorem dX9_best_30 : decode cX9_best 30 = .ok (.iload_n 2, 1) := by decide +kernel
theorem dX9_best_31 : decode cX9_best 31 = .ok (.if_icmp .ge 8, 3) := by decide +kernel
theorem dX9_best_39 : decode cX9_best 39 = .ok (.iinc 3 1, 3) := by decide +kernel
theorem dX9_best_42 : decode cX9_best 42 = .ok (.goto (-29), 3) := by decide +kernel
theorem dX9_best_45 : decode cX9_best 45 = .ok (.iload_n 1, 1) := by decide +kernel
theorem dX9_best_46 : decode cX9_best 46 = .ok (.ireturn, 1) := by decide +kernel
theorem dX9_age_0 : decode cX9_age 0 = .ok (.iconst 0, 1) := by decide +kernel
theorem dX9_age_1 : decode cX9_age 1 = .ok (.istore_n 1, 1) := by decide +kernel
theorem dX9_age_2 : decode cX9_age 2 = .ok (.iconst 0, 1) := by decide +kernel
theorem dX9_age_3 : decode cX9_age 3 = .ok (.istore_n 2, 1) := by decide +kernel
theorem dX9_age_4 : decode cX9_age 4 = .ok (.iload_n 2, 1) := by decide +kernel
theorem dX9_age_5 : decode cX9_age 5 = .ok (.aload_n 0, 1) := by decide +kernel
theorem dX9_age_6 : decode cX9_age 6 = .ok (.getfield 12, 3) := by decide +kernel
theorem dX9_age_9 : decode cX9_age 9 = .ok (.getfield 120, 3) := by decide +kernel
theorem dX9_age_12 : decode cX9_age 12 = .ok (.if_icmp .ge 52, 3) := by decide +kernel
theorem dX9_age_64 : decode cX9_age 64 = .ok (.iload_n 1, 1) := by decide +kernel
theorem dX9_age_65 : decode cX9_age 65 = .ok (.ireturn, 1) := by decide +kernel
theorem dX9_event_0 : decode cX9_event 0 = .ok (.iload_n 1, 1) := by decide +kernel
theorem dX9_event_1 : decode cX9_event 1 = .ok (.ifCond .lt 17, 3) := by decide +kernel
theorem dX9_event_18 : decode cX9_event 18 = .ok (.iconst (-1), 1) := by decide +kernel
theorem dX9_event_19 : decode cX9_event 19 = .ok (.ireturn, 1) := by decide +kernel
theorem dX9_event_4 : decode cX9_event 4 = .ok (.iload_n 1, 1) := by decide +kernel
theorem dX9_event_5 : decode cX9_event 5 = .ok (.aload_n 0, 1) := by decide +kernel
theorem dX9_event_6 : decode cX9_event 6 = .ok (.getfield 12, 3) := by decide +kernel
theorem dX9_event_9 : decode cX9_event 9 = .ok (.getfield 64, 3) := by decide +kernel
theorem dX9_event_12 : decode cX9_event 12 = .ok (.invokevirtual 304, 3) := by decide +kernel
theorem dX1_kept_0 : decode cX1_kept 0 = .ok (.aload_n 0, 1) := by decide +kernel
theorem dX1_kept_1 : decode cX1_kept 1 = .ok (.getfield 15, 3) := by decide +kernel
theorem dX1_kept_4 : decode cX1_kept 4 = .ok (.bipush 32, 2) := by decide +kernel
theorem dX1_kept_6 : decode cX1_kept 6 = .ok (.invokestatic 19, 3) := by decide +kernel
theorem dX1_kept_9 : decode cX1_kept 9 = .ok (.ireturn, 1) := by decide +kernel
theorem dX9_event_15 : decode cX9_event 15 = .ok (.if_icmp .lt 5, 3) := by decide +kernel
theorem dX9_image_0 : decode cX9_image 0 = .ok (.aload_n 0, 1) := by decide +kernel
theorem dX9_image_1 : decode cX9_image 1 = .ok (.getfield 18, 3) := by decide +kernel
theorem dX9_image_4 : decode cX9_image 4 = .ok (.ifnonnull 14, 3) := by decide +kernel
theorem dX9_image_7 : decode cX9_image 7 = .ok (.aload_n 0, 1) := by decide +kernel
theorem dX9_image_8 : decode cX9_image 8 = .ok (.new 9, 3) := by decide +kernel
theorem dX9_image_11 : decode cX9_image 11 = .ok (.dup, 1) := by decide +kernel
theorem dX9_image_12 : decode cX9_image 12 = .ok (.invokespecial 11, 3) := by decide +kernel
theorem dX9_image_15 : decode cX9_image 15 = .ok (.putfield 18, 3) := by decide +kernel
theorem dX9_image_18 : decode cX9_image 18 = .ok (.aload_n 0, 1) := by decide +kernel
theorem dX9_image_19 : decode cX9_image 19 = .ok (.getfield 18, 3) := by decide +kernel
theorem dX9_image_22 : decode cX9_image 22 = .ok (.aload_n 0, 1) := by decide +kernel
theorem dX9_image_23 : decode cX9_image 23 = .ok (.getfield 12, 3) := by decide +kernel
theorem dX9_image_26 : decode cX9_image 26 = .ok (.invokevirtual 301, 3) := by decide +kernel
theorem dX9_image_29 : decode cX9_image 29 = .ok (.aload_n 0, 1) := by decide +kernel
theorem dX9_image_30 : decode cX9_image 30 = .ok (.getfield 12, 3) := by decide +kernel
theorem dX9_image_33 : decode cX9_image 33 = .ok (.getfield 84, 3) := by decide +kernel
theorem dX9_image_36 : decode cX9_image 36 = .ok (.getfield 164, 3) := by decide +kernel
theorem dX9_image_39 : decode cX9_image 39 = .ok (.ireturn, 1) := by decide +kernel
theorem dX9_undo_0 : decode cX9_undo 0 = .ok (.aload_n 0, 1) := by decide +kernel
theorem dX9_undo_1 : decode cX9_undo 1 = .ok (.getfield 18, 3) := by decide +kernel
theorem dX9_undo_4 : decode cX9_undo 4 = .ok (.ifnonnull 6, 3) := by decide +kernel
theorem dX9_undo_7 : decode cX9_undo 7 = .ok (.bipush (-3), 2) := by decide +kernel
theorem dX9_undo_9 : decode cX9_undo 9 = .ok (.ireturn, 1) := by decide +kernel
theorem dX9_count_0 : decode cX9_count 0 = .ok (.iload_n 1, 1) := by decide +kernel
theorem dX9_count_1 : decode cX9_count 1 = .ok (.tableswitch 171 0 11 #[63, 71, 79, 90, 101, 112, 120, 128, 136, 144, 152, 160], 63) := by decide +kernel
theorem dX9_count_64 : decode cX9_count 64 = .ok (.aload_n 0, 1) := by decide +kernel
theorem dX9_count_65 : decode cX9_count 65 = .ok (.getfield 12, 3) := by decide +kernel
theorem dX9_count_68 : decode cX9_count 68 = .ok (.getfield 24, 3) := by decide +kernel
theorem dX9_count_71 : decode cX9_count 71 = .ok (.ireturn, 1) := by decide +kernel
theorem dX9_count_72 : decode cX9_count 72 = .ok (.aload_n 0, 1) := by decide +kernel
theorem dX9_count_73 : decode cX9_count 73 = .ok (.getfield 12, 3) := by decide +kernel
theorem dX9_count_76 : decode cX9_count 76 = .ok (.getfield 120, 3) := by decide +kernel
theorem dX9_count_79 : decode cX9_count 79 = .ok (.ireturn, 1) := by decide +kernel
theorem dX9_count_80 : decode cX9_count 80 = .ok (.aload_n 0, 1) := by decide +kernel
theorem dX9_count_81 : decode cX9_count 81 = .ok (.getfield 12, 3) := by decide +kernel
theorem dX9_count_84 : decode cX9_count 84 = .ok (.getfield 84, 3) := by decide +kernel
theorem dX9_count_87 : decode cX9_count 87 = .ok (.getfield 164, 3) := by decide +kernel
theorem dX9_count_90 : decode cX9_count 90 = .ok (.ireturn, 1) := by decide +kernel
theorem dX9_count_91 : decode cX9_count 91 = .ok (.aload_n 0, 1) := by decide +kernel
theorem dX9_count_92 : decode cX9_count 92 = .ok (.getfield 12, 3) := by decide +kernel
theorem dX9_count_95 : decode cX9_count 95 = .ok (.getfield 259, 3) := by decide +kernel
theorem dX9_count_98 : decode cX9_count 98 = .ok (.getfield 164, 3) := by decide +kernel
theorem dX9_count_101 : decode cX9_count 101 = .ok (.ireturn, 1) := by decide +kernel
theorem dX9_count_102 : decode cX9_count 102 = .ok (.aload_n 0, 1) := by decide +kernel
theorem dX9_count_103 : decode cX9_count 103 = .ok (.getfield 12, 3) := by decide +kernel
theorem dX9_count_106 : decode cX9_count 106 = .ok (.getfield 108, 3) := by decide +kernel
theorem dX9_count_109 : decode cX9_count 109 = .ok (.getfield 112, 3) := by decide +kernel
theorem dX9_count_112 : decode cX9_count 112 = .ok (.ireturn, 1) := by decide +kernel
theorem dX9_count_113 : decode cX9_count 113 = .ok (.aload_n 0, 1) := by decide +kernel
theorem dX9_count_114 : decode cX9_count 114 = .ok (.getfield 12, 3) := by decide +kernel
theorem dX9_count_117 : decode cX9_count 117 = .ok (.getfield 155, 3) := by decide +kernel
theorem dX9_count_120 : decode cX9_count 120 = .ok (.ireturn, 1) := by decide +kernel
theorem dX9_count_121 : decode cX9_count 121 = .ok (.aload_n 0, 1) := by decide +kernel
theorem dX9_count_122 : decode cX9_count 122 = .ok (.getfield 12, 3) := by decide +kernel
theorem dX9_count_125 : decode cX9_count 125 = .ok (.getfield 158, 3) := by decide +kernel
theorem dX9_count_128 : decode cX9_count 128 = .ok (.ireturn, 1) := by decide +kernel
theorem dX9_count_129 : decode cX9_count 129 = .ok (.aload_n 0, 1) := by decide +kernel
theorem dX9_count_130 : decode cX9_count 130 = .ok (.getfield 12, 3) := by decide +kernel
theorem dX9_count_133 : decode cX9_count 133 = .ok (.invokevirtual 309, 3) := by decide +kernel
theorem dX5_activeOperators_0 : decode cX5_activeOperators 0 = .ok (.iconst 0, 1) := by decide +kernel
theorem dX5_activeOperators_1 : decode cX5_activeOperators 1 = .ok (.istore_n 1, 1) := by decide +kernel
theorem dX5_activeOperators_2 : decode cX5_activeOperators 2 = .ok (.iconst 0, 1) := by decide +kernel
theorem dX5_activeOperators_3 : decode cX5_activeOperators 3 = .ok (.istore_n 2, 1) := by decide +kernel
theorem dX5_activeOperators_4 : decode cX5_activeOperators 4 = .ok (.iload_n 2, 1) := by decide +kernel
theorem dX5_activeOperators_5 : decode cX5_activeOperators 5 = .ok (.aload_n 0, 1) := by decide +kernel
theorem dX5_activeOperators_6 : decode cX5_activeOperators 6 = .ok (.getfield 66, 3) := by decide +kernel
theorem dX5_activeOperators_9 : decode cX5_activeOperators 9 = .ok (.if_icmp .ge 35, 3) := by decide +kernel
theorem dX5_activeOperators_44 : decode cX5_activeOperators 44 = .ok (.iload_n 1, 1) := by decide +kernel
theorem dX5_activeOperators_45 : decode cX5_activeOperators 45 = .ok (.ireturn, 1) := by decide +kernel
theorem dX9_count_136 : decode cX9_count 136 = .ok (.ireturn, 1) := by decide +kernel
theorem dX9_count_137 : decode cX9_count 137 = .ok (.aload_n 0, 1) := by decide +kernel
theorem dX9_count_138 : decode cX9_count 138 = .ok (.getfield 12, 3) := by decide +kernel
theorem dX9_count_141 : decode cX9_count 141 = .ok (.getfield 28, 3) := by decide +kernel
theorem dX9_count_144 : decode cX9_count 144 = .ok (.ireturn, 1) := by decide +kernel
theorem dX9_count_145 : decode cX9_count 145 = .ok (.aload_n 0, 1) := by decide +kernel
theorem dX9_count_146 : decode cX9_count 146 = .ok (.getfield 12, 3) := by decide +kernel
theorem dX9_count_149 : decode cX9_count 149 = .ok (.getfield 161, 3) := by decide +kernel
theorem dX9_count_152 : decode cX9_count 152 = .ok (.ireturn, 1) := by decide +kernel
theorem dX9_count_153 : decode cX9_count 153 = .ok (.aload_n 0, 1) := by decide +kernel
theorem dX9_count_154 : decode cX9_count 154 = .ok (.getfield 12, 3) := by decide +kernel
theorem dX9_count_157 : decode cX9_count 157 = .ok (.getfield 170, 3) := by decide +kernel
theorem dX9_count_160 : decode cX9_count 160 = .ok (.ireturn, 1) := by decide +kernel
theorem dX9_count_161 : decode cX9_count 161 = .ok (.aload_n 0, 1) := by decide +kernel
theorem dX9_count_162 : decode cX9_count 162 = .ok (.getfield 12, 3) := by decide +kernel
theorem dX9_count_165 : decode cX9_count 165 = .ok (.getfield 64, 3) := by decide +kernel
theorem dX9_count_168 : decode cX9_count 168 = .ok (.invokevirtual 304, 3) := by decide +kernel
theorem dX9_count_171 : decode cX9_count 171 = .ok (.ireturn, 1) := by decide +kernel
theorem dX9_count_172 : decode cX9_count 172 = .ok (.iconst (-1), 1) := by decide +kernel
theorem dX9_count_173 : decode cX9_count 173 = .ok (.ireturn, 1) := by decide +kernel
theorem dX10_source_0 : decode cX10_source 0 = .ok (.iload_n 1, 1) := by decide +kernel
theorem dX10_source_1 : decode cX10_source 1 = .ok (.iconst 1, 1) := by decide +kernel
theorem dX10_source_2 : decode cX10_source 2 = .ok (.iconst 3, 1) := by decide +kernel
theorem dX10_source_3 : decode cX10_source 3 = .ok (.invokestatic 45, 3) := by decide +kernel
theorem dX10_in_0 : decode cX10_in 0 = .ok (.iload_n 0, 1) := by decide +kernel
theorem dX10_in_1 : decode cX10_in 1 = .ok (.iload_n 1, 1) := by decide +kernel
theorem dX10_in_2 : decode cX10_in 2 = .ok (.if_icmp .lt 12, 3) := by decide +kernel
theorem dX10_in_14 : decode cX10_in 14 = .ok (.iconst 0, 1) := by decide +kernel
theorem dX10_in_15 : decode cX10_in 15 = .ok (.ireturn, 1) := by decide +kernel
theorem dX10_in_5 : decode cX10_in 5 = .ok (.iload_n 0, 1) := by decide +kernel
theorem dX10_in_6 : decode cX10_in 6 = .ok (.iload_n 2, 1) := by decide +kernel
theorem dX10_in_7 : decode cX10_in 7 = .ok (.if_icmp .gt 7, 3) := by decide +kernel
theorem dX10_in_10 : decode cX10_in 10 = .ok (.iconst 1, 1) := by decide +kernel
theorem dX10_in_11 : decode cX10_in 11 = .ok (.goto 4, 3) := by decide +kernel
theorem dX10_source_6 : decode cX10_source 6 = .ok (.ifCond .ne 6, 3) := by decide +kernel
theorem dX10_source_9 : decode cX10_source 9 = .ok (.bipush (-2), 2) := by decide +kernel
theorem dX10_source_11 : decode cX10_source 11 = .ok (.ireturn, 1) := by decide +kernel
theorem dX10_source_12 : decode cX10_source 12 = .ok (.aload_n 0, 1) := by decide +kernel
theorem dX10_source_13 : decode cX10_source 13 = .ok (.getfield 11, 3) := by decide +kernel
theorem dX10_source_16 : decode cX10_source 16 = .ok (.iconst 0, 1) := by decide +kernel
theorem dX10_source_17 : decode cX10_source 17 = .ok (.iaload, 1) := by decide +kernel
theorem dX10_source_18 : decode cX10_source 18 = .ok (.iconst 3, 1) := by decide +kernel
theorem dX10_source_19 : decode cX10_source 19 = .ok (.if_icmp .ne 6, 3) := by decide +kernel
theorem dX10_source_25 : decode cX10_source 25 = .ok (.aload_n 0, 1) := by decide +kernel
theorem dX10_source_26 : decode cX10_source 26 = .ok (.getfield 11, 3) := by decide +kernel
theorem dX10_source_29 : decode cX10_source 29 = .ok (.iconst 1, 1) := by decide +kernel
theorem dX10_source_30 : decode cX10_source 30 = .ok (.iaload, 1) := by decide +kernel
theorem dX10_source_31 : decode cX10_source 31 = .ok (.ifCond .le 6, 3) := by decide +kernel
theorem dX10_source_37 : decode cX10_source 37 = .ok (.aload_n 0, 1) := by decide +kernel
theorem dX10_source_38 : decode cX10_source 38 = .ok (.getfield 11, 3) := by decide +kernel
theorem dX10_source_41 : decode cX10_source 41 = .ok (.bipush 9, 2) := by decide +kernel
theorem dX10_source_43 : decode cX10_source 43 = .ok (.aload_n 0, 1) := by decide +kernel
theorem dX10_source_44 : decode cX10_source 44 = .ok (.getfield 11, 3) := by decide +kernel
theorem dX10_source_47 : decode cX10_source 47 = .ok (.iconst 0, 1) := by decide +kernel
theorem dX10_source_48 : decode cX10_source 48 = .ok (.iaload, 1) := by decide +kernel
theorem dX10_source_49 : decode cX10_source 49 = .ok (.iadd, 1) := by decide +kernel
theorem dX10_source_50 : decode cX10_source 50 = .ok (.iload_n 1, 1) := by decide +kernel
theorem dX10_source_51 : decode cX10_source 51 = .ok (.iastore, 1) := by decide +kernel
theorem dX10_source_52 : decode cX10_source 52 = .ok (.aload_n 0, 1) := by decide +kernel
theorem dX10_source_53 : decode cX10_source 53 = .ok (.getfield 11, 3) := by decide +kernel
theorem dX10_source_56 : decode cX10_source 56 = .ok (.bipush 12, 2) := by decide +kernel
theorem dX10_source_58 : decode cX10_source 58 = .ok (.aload_n 0, 1) := by decide +kernel
theorem dX10_source_59 : decode cX10_source 59 = .ok (.getfield 11, 3) := by decide +kernel
theorem dX10_source_62 : decode cX10_source 62 = .ok (.iconst 0, 1) := by decide +kernel
theorem dX10_source_63 : decode cX10_source 63 = .ok (.iaload, 1) := by decide +kernel
theorem dX10_source_64 : decode cX10_source 64 = .ok (.iadd, 1) := by decide +kernel
theorem dX10_source_65 : decode cX10_source 65 = .ok (.bipush 8, 2) := by decide +kernel
theorem dX10_source_67 : decode cX10_source 67 = .ok (.iastore, 1) := by decide +kernel
theorem dX10_source_68 : decode cX10_source 68 = .ok (.aload_n 0, 1) := by decide +kernel
theorem dX10_source_69 : decode cX10_source 69 = .ok (.getfield 11, 3) := by decide +kernel
theorem dX10_source_72 : decode cX10_source 72 = .ok (.iconst 0, 1) := by decide +kernel
theorem dX10_source_73 : decode cX10_source 73 = .ok (.dup2, 1) := by decide +kernel
theorem dX10_source_74 : decode cX10_source 74 = .ok (.iaload, 1) := by decide +kernel
theorem dX10_source_75 : decode cX10_source 75 = .ok (.iconst 1, 1) := by decide +kernel
theorem dX10_source_76 : decode cX10_source 76 = .ok (.iadd, 1) := by decide +kernel
theorem dX10_source_77 : decode cX10_source 77 = .ok (.iastore, 1) := by decide +kernel
theorem dX10_source_78 : decode cX10_source 78 = .ok (.aload_n 0, 1) := by decide +kernel
theorem dX10_source_79 : decode cX10_source 79 = .ok (.getfield 11, 3) := by decide +kernel
theorem dX10_source_82 : decode cX10_source 82 = .ok (.iconst 0, 1) := by decide +kernel
theorem dX10_source_83 : decode cX10_source 83 = .ok (.iaload, 1) := by decide +kernel
theorem dX10_source_84 : decode cX10_source 84 = .ok (.iconst 1, 1) := by decide +kernel
theorem dX10_source_85 : decode cX10_source 85 = .ok (.isub, 1) := by decide +kernel
theorem dX10_source_86 : decode cX10_source 86 = .ok (.ireturn, 1) := by decide +kernel
theorem dX10_window_0 : decode cX10_window 0 = .ok (.aload_n 0, 1) := by decide +kernel
theorem dX10_window_1 : decode cX10_window 1 = .ok (.iload_n 1, 1) := by decide +kernel
theorem dX10_window_2 : decode cX10_window 2 = .ok (.invokevirtual 49, 3) := by decide +kernel
theorem dX10_isSource_0 : decode cX10_isSource 0 = .ok (.iload_n 1, 1) := by decide +kernel
theorem dX10_isSource_1 : decode cX10_isSource 1 = .ok (.iconst 0, 1) := by decide +kernel
theorem dX10_isSource_2 : decode cX10_isSource 2 = .ok (.aload_n 0, 1) := by decide +kernel
theorem dX10_isSource_3 : decode cX10_isSource 3 = .ok (.getfield 11, 3) := by decide +kernel
theorem dX10_isSource_6 : decode cX10_isSource 6 = .ok (.iconst 0, 1) := by decide +kernel
theorem dX10_isSource_7 : decode cX10_isSource 7 = .ok (.iaload, 1) := by decide +kernel
theorem dX10_isSource_8 : decode cX10_isSource 8 = .ok (.iconst 1, 1) := by decide +kernel
theorem dX10_isSource_9 : decode cX10_isSource 9 = .ok (.isub, 1) := by decide +kernel
theorem dX10_isSource_10 : decode cX10_isSource 10 = .ok (.invokestatic 45, 3) := by decide +kernel
theorem dX10_isSource_13 : decode cX10_isSource 13 = .ok (.ireturn, 1) := by decide +kernel
theorem dX10_window_5 : decode cX10_window 5 = .ok (.ifCond .ne 5, 3) := by decide +kernel
theorem dX10_window_8 : decode cX10_window 8 = .ok (.iconst (-1), 1) := by decide +kernel
theorem dX10_window_9 : decode cX10_window 9 = .ok (.ireturn, 1) := by decide +kernel
theorem dX10_deliver_0 : decode cX10_deliver 0 = .ok (.aload_n 0, 1) := by decide +kernel
theorem dX10_deliver_1 : decode cX10_deliver 1 = .ok (.iload_n 1, 1) := by decide +kernel
theorem dX10_deliver_2 : decode cX10_deliver 2 = .ok (.invokevirtual 49, 3) := by decide +kernel
theorem dX10_deliver_5 : decode cX10_deliver 5 = .ok (.ifCond .ne 5, 3) := by decide +kernel
theorem dX10_deliver_8 : decode cX10_deliver 8 = .ok (.iconst (-1), 1) := by decide +kernel
theorem dX10_deliver_9 : decode cX10_deliver 9 = .ok (.ireturn, 1) := by decide +kernel
theorem dX10_drop_0 : decode cX10_drop 0 = .ok (.aload_n 0, 1) := by decide +kernel
theorem dX10_drop_1 : decode cX10_drop 1 = .ok (.iload_n 1, 1) := by decide +kernel
theorem dX10_drop_2 : decode cX10_drop 2 = .ok (.iload_n 2, 1) := by decide +kernel
theorem dX10_drop_3 : decode cX10_drop 3 = .ok (.invokevirtual 90, 3) := by decide +kernel
theorem dX10_isRow_0 : decode cX10_isRow 0 = .ok (.aload_n 0, 1) := by decide +kernel
theorem dX10_isRow_1 : decode cX10_isRow 1 = .ok (.iload_n 1, 1) := by decide +kernel
theorem dX10_isRow_2 : decode cX10_isRow 2 = .ok (.invokevirtual 49, 3) := by decide +kernel
theorem dX10_isRow_5 : decode cX10_isRow 5 = .ok (.ifCond .eq 26, 3) := by decide +kernel
theorem dX10_isRow_31 : decode cX10_isRow 31 = .ok (.iconst 0, 1) := by decide +kernel
theorem dX10_isRow_32 : decode cX10_isRow 32 = .ok (.ireturn, 1) := by decide +kernel
theorem dX10_drop_6 : decode cX10_drop 6 = .ok (.ifCond .ne 5, 3) := by decide +kernel
theorem dX10_drop_9 : decode cX10_drop 9 = .ok (.iconst (-1), 1) := by decide +kernel
theorem dX10_drop_10 : decode cX10_drop 10 = .ok (.ireturn, 1) := by decide +kernel
theorem dX10_feed_0 : decode cX10_feed 0 = .ok (.iload_n 1, 1) := by decide +kernel
theorem dX10_feed_1 : decode cX10_feed 1 = .ok (.iconst 0, 1) := by decide +kernel
theorem dX10_feed_2 : decode cX10_feed 2 = .ok (.bipush 127, 2) := by decide +kernel
theorem dX10_feed_4 : decode cX10_feed 4 = .ok (.invokestatic 45, 3) := by decide +kernel
theorem dX10_feed_7 : decode cX10_feed 7 = .ok (.ifCond .ne 6, 3) := by decide +kernel
theorem dX10_feed_10 : decode cX10_feed 10 = .ok (.bipush (-2), 2) := by decide +kernel
theorem dX10_feed_12 : decode cX10_feed 12 = .ok (.ireturn, 1) := by decide +kernel
theorem dX10_feed_13 : decode cX10_feed 13 = .ok (.aload_n 0, 1) := by decide +kernel
theorem dX10_feed_14 : decode cX10_feed 14 = .ok (.getfield 11, 3) := by decide +kernel
theorem dX10_feed_17 : decode cX10_feed 17 = .ok (.bipush 7, 2) := by decide +kernel
theorem dX10_feed_19 : decode cX10_feed 19 = .ok (.iaload, 1) := by decide +kernel
theorem dX10_feed_20 : decode cX10_feed 20 = .ok (.bipush 40, 2) := by decide +kernel
theorem dX10_feed_22 : decode cX10_feed 22 = .ok (.if_icmp .ne 6, 3) := by decide +kernel
theorem dX10_feed_28 : decode cX10_feed 28 = .ok (.aload_n 0, 1) := by decide +kernel
theorem dX10_feed_29 : decode cX10_feed 29 = .ok (.getfield 11, 3) := by decide +kernel
theorem dX10_feed_32 : decode cX10_feed 32 = .ok (.sipush 467, 3) := by decide +kernel
theorem dX10_feed_35 : decode cX10_feed 35 = .ok (.aload_n 0, 1) := by decide +kernel
theorem dX10_feed_36 : decode cX10_feed 36 = .ok (.getfield 11, 3) := by decide +kernel
theorem dX10_feed_39 : decode cX10_feed 39 = .ok (.bipush 7, 2) := by decide +kernel
theorem dX10_feed_41 : decode cX10_feed 41 = .ok (.iaload, 1) := by decide +kernel
theorem dX10_feed_42 : decode cX10_feed 42 = .ok (.iadd, 1) := by decide +kernel
theorem dX10_feed_43 : decode cX10_feed 43 = .ok (.iload_n 1, 1) := by decide +kernel
theorem dX10_feed_44 : decode cX10_feed 44 = .ok (.iastore, 1) := by decide +kernel
theorem dX10_feed_45 : decode cX10_feed 45 = .ok (.aload_n 0, 1) := by decide +kernel
theorem dX10_feed_46 : decode cX10_feed 46 = .ok (.getfield 11, 3) := by decide +kernel
theorem dX10_feed_49 : decode cX10_feed 49 = .ok (.bipush 7, 2) := by decide +kernel
theorem dX10_feed_51 : decode cX10_feed 51 = .ok (.dup2, 1) := by decide +kernel
theorem dX10_feed_52 : decode cX10_feed 52 = .ok (.iaload, 1) := by decide +kernel
theorem dX10_feed_53 : decode cX10_feed 53 = .ok (.iconst 1, 1) := by decide +kernel
theorem dX10_feed_54 : decode cX10_feed 54 = .ok (.iadd, 1) := by decide +kernel
theorem dX10_feed_55 : decode cX10_feed 55 = .ok (.iastore, 1) := by decide +kernel
theorem dX10_feed_56 : decode cX10_feed 56 = .ok (.aload_n 0, 1) := by decide +kernel
theorem dX10_feed_57 : decode cX10_feed 57 = .ok (.getfield 11, 3) := by decide +kernel
theorem dX10_feed_60 : decode cX10_feed 60 = .ok (.bipush 7, 2) := by decide +kernel
theorem dX10_feed_62 : decode cX10_feed 62 = .ok (.iaload, 1) := by decide +kernel
theorem dX10_feed_63 : decode cX10_feed 63 = .ok (.ireturn, 1) := by decide +kernel
theorem dX10_operator_0 : decode cX10_operator 0 = .ok (.aload_n 0, 1) := by decide +kernel
theorem dX10_operator_1 : decode cX10_operator 1 = .ok (.getfield 11, 3) := by decide +kernel
theorem dX10_operator_4 : decode cX10_operator 4 = .ok (.iconst 2, 1) := by decide +kernel
theorem dX10_operator_5 : decode cX10_operator 5 = .ok (.iaload, 1) := by decide +kernel
theorem dX10_operator_6 : decode cX10_operator 6 = .ok (.bipush 12, 2) := by decide +kernel
theorem dX10_operator_8 : decode cX10_operator 8 = .ok (.if_icmp .ne 6, 3) := by decide +kernel
theorem dX10_operator_14 : decode cX10_operator 14 = .ok (.aload_n 0, 1) := by decide +kernel
theorem dX10_operator_15 : decode cX10_operator 15 = .ok (.aload_n 0, 1) := by decide +kernel
theorem dX10_operator_16 : decode cX10_operator 16 = .ok (.getfield 11, 3) := by decide +kernel
theorem dX10_operator_19 : decode cX10_operator 19 = .ok (.bipush 7, 2) := by decide +kernel
theorem dX10_operator_21 : decode cX10_operator 21 = .ok (.iaload, 1) := by decide +kernel
theorem dX10_operator_22 : decode cX10_operator 22 = .ok (.putfield 97, 3) := by decide +kernel
theorem dX10_operator_25 : decode cX10_operator 25 = .ok (.aload_n 0, 1) := by decide +kernel
theorem dX10_operator_26 : decode cX10_operator 26 = .ok (.getfield 11, 3) := by decide +kernel
theorem dX10_operator_29 : decode cX10_operator 29 = .ok (.bipush 7, 2) := by decide +kernel
theorem dX10_operator_31 : decode cX10_operator 31 = .ok (.iconst 0, 1) := by decide +kernel
theorem dX10_operator_32 : decode cX10_operator 32 = .ok (.iastore, 1) := by decide +kernel
theorem dX10_operator_33 : decode cX10_operator 33 = .ok (.aload_n 0, 1) := by decide +kernel
theorem dX10_operator_34 : decode cX10_operator 34 = .ok (.invokevirtual 130, 3) := by decide +kernel
theorem dX10_readText_0 : decode cX10_readText 0 = .ok (.aload_n 0, 1) := by decide +kernel
theorem dX10_readText_1 : decode cX10_readText 1 = .ok (.iconst 0, 1) := by decide +kernel
theorem dX10_readText_2 : decode cX10_readText 2 = .ok (.putfield 93, 3) := by decide +kernel
theorem dX10_readText_5 : decode cX10_readText 5 = .ok (.aload_n 0, 1) := by decide +kernel
theorem dX10_readText_6 : decode cX10_readText 6 = .ok (.iconst 0, 1) := by decide +kernel
theorem dX10_readText_7 : decode cX10_readText 7 = .ok (.putfield 100, 3) := by decide +kernel
theorem dX10_readText_10 : decode cX10_readText 10 = .ok (.iconst 0, 1) := by decide +kernel
theorem dX10_readText_11 : decode cX10_readText 11 = .ok (.istore_n 1, 1) := by decide +kernel
theorem dX10_readText_12 : decode cX10_readText 12 = .ok (.iload_n 1, 1) := by decide +kernel
theorem dX10_readText_13 : decode cX10_readText 13 = .ok (.bipush 10, 2) := by decide +kernel
theorem dX10_readText_15 : decode cX10_readText 15 = .ok (.if_icmp .ge 16, 3) := by decide +kernel
theorem dX10_readText_18 : decode cX10_readText 18 = .ok (.aload_n 0, 1) := by decide +kernel
theorem dX10_readText_19 : decode cX10_readText 19 = .ok (.getfield 26, 3) := by decide +kernel
theorem dX10_readText_22 : decode cX10_readText 22 = .ok (.iload_n 1, 1) := by decide +kernel
theorem dX10_readText_23 : decode cX10_readText 23 = .ok (.iconst 0, 1) := by decide +kernel
theorem dX10_readText_24 : decode cX10_readText 24 = .ok (.iastore, 1) := by decide +kernel
theorem dX10_readText_25 : decode cX10_readText 25 = .ok (.iinc 1 1, 3) := by decide +kernel
theorem dX10_readText_28 : decode cX10_readText 28 = .ok (.goto (-16), 3) := by decide +kernel
theorem dX10_readText_31 : decode cX10_readText 31 = .ok (.aload_n 0, 1) := by decide +kernel
theorem dX10_readText_32 : decode cX10_readText 32 = .ok (.getfield 26, 3) := by decide +kernel
theorem dX10_readText_35 : decode cX10_readText 35 = .ok (.iconst 1, 1) := by decide +kernel
theorem dX10_readText_36 : decode cX10_readText 36 = .ok (.aload_n 0, 1) := by decide +kernel
theorem dX10_readText_37 : decode cX10_readText 37 = .ok (.iconst 1, 1) := by decide +kernel
theorem dX10_readText_38 : decode cX10_readText 38 = .ok (.bipush 99, 2) := by decide +kernel
theorem dX10_readText_40 : decode cX10_readText 40 = .ok (.invokevirtual 118, 3) := by decide +kernel
theorem dX10_small_0 : decode cX10_small 0 = .ok (.aload_n 0, 1) := by decide +kernel
theorem dX10_small_1 : decode cX10_small 1 = .ok (.iload_n 1, 1) := by decide +kernel
theorem dX10_small_2 : decode cX10_small 2 = .ok (.bipush 9, 2) := by decide +kernel
theorem dX10_small_4 : decode cX10_small 4 = .ok (.iload_n 2, 1) := by decide +kernel
theorem dX10_small_5 : decode cX10_small 5 = .ok (.invokestatic 107, 3) := by decide +kernel
theorem dX10_small_8 : decode cX10_small 8 = .ok (.invokevirtual 112, 3) := by decide +kernel
theorem dX10_digit_0 : decode cX10_digit 0 = .ok (.aload_n 0, 1) := by decide +kernel
theorem dX10_digit_1 : decode cX10_digit 1 = .ok (.aload_n 0, 1) := by decide +kernel
theorem dX10_digit_2 : decode cX10_digit 2 = .ok (.getfield 100, 3) := by decide +kernel
theorem dX10_digit_5 : decode cX10_digit 5 = .ok (.ifCond .ne 21, 3) := by decide +kernel
theorem dX10_digit_8 : decode cX10_digit 8 = .ok (.aload_n 0, 1) := by decide +kernel
theorem dX10_digit_9 : decode cX10_digit 9 = .ok (.invokevirtual 103, 3) := by decide +kernel
theorem dX10_here_0 : decode cX10_here 0 = .ok (.aload_n 0, 1) := by decide +kernel
theorem dX10_here_1 : decode cX10_here 1 = .ok (.getfield 93, 3) := by decide +kernel
theorem dX10_here_4 : decode cX10_here 4 = .ok (.aload_n 0, 1) := by decide +kernel
theorem dX10_here_5 : decode cX10_here 5 = .ok (.getfield 97, 3) := by decide +kernel
theorem dX10_here_8 : decode cX10_here 8 = .ok (.if_icmp .ge 19, 3) := by decide +kernel
theorem dX10_here_27 : decode cX10_here 27 = .ok (.iconst (-1), 1) := by decide +kernel
theorem dX10_here_28 : decode cX10_here 28 = .ok (.ireturn, 1) := by decide +kernel
theorem dX10_digit_12 : decode cX10_digit 12 = .ok (.bipush 48, 2) := by decide +kernel
theorem dX10_digit_14 : decode cX10_digit 14 = .ok (.iload_n 1, 1) := by decide +kernel
theorem dX10_digit_15 : decode cX10_digit 15 = .ok (.iadd, 1) := by decide +kernel
theorem dX10_digit_16 : decode cX10_digit 16 = .ok (.bipush 48, 2) := by decide +kernel
theorem dX10_digit_18 : decode cX10_digit 18 = .ok (.iload_n 2, 1) := by decide +kernel
theorem dX10_digit_19 : decode cX10_digit 19 = .ok (.iadd, 1) := by decide +kernel
theorem dX10_digit_20 : decode cX10_digit 20 = .ok (.invokestatic 45, 3) := by decide +kernel
theorem dX10_digit_23 : decode cX10_digit 23 = .ok (.ifCond .ne 7, 3) := by decide +kernel
theorem dX10_digit_26 : decode cX10_digit 26 = .ok (.iconst 1, 1) := by decide +kernel
theorem dX10_digit_27 : decode cX10_digit 27 = .ok (.goto 4, 3) := by decide +kernel
theorem dX10_digit_31 : decode cX10_digit 31 = .ok (.putfield 100, 3) := by decide +kernel
theorem dX10_digit_34 : decode cX10_digit 34 = .ok (.aload_n 0, 1) := by decide +kernel
theorem dX10_digit_35 : decode cX10_digit 35 = .ok (.dup, 1) := by decide +kernel
theorem dX10_digit_36 : decode cX10_digit 36 = .ok (.getfield 93, 3) := by decide +kernel
theorem dX10_digit_39 : decode cX10_digit 39 = .ok (.aload_n 0, 1) := by decide +kernel
theorem dX10_digit_40 : decode cX10_digit 40 = .ok (.getfield 100, 3) := by decide +kernel
theorem dX10_digit_43 : decode cX10_digit 43 = .ok (.ifCond .eq 7, 3) := by decide +kernel
theorem dX10_digit_46 : decode cX10_digit 46 = .ok (.iconst 0, 1) := by decide +kernel
theorem dX10_digit_47 : decode cX10_digit 47 = .ok (.goto 4, 3) := by decide +kernel
theorem dX10_digit_51 : decode cX10_digit 51 = .ok (.iadd, 1) := by decide +kernel
theorem dX10_digit_52 : decode cX10_digit 52 = .ok (.putfield 93, 3) := by decide +kernel
theorem dX10_digit_55 : decode cX10_digit 55 = .ok (.aload_n 0, 1) := by decide +kernel
theorem dX10_digit_56 : decode cX10_digit 56 = .ok (.getfield 100, 3) := by decide +kernel
theorem dX10_digit_59 : decode cX10_digit 59 = .ok (.ifCond .eq 7, 3) := by decide +kernel
theorem dX10_digit_62 : decode cX10_digit 62 = .ok (.iconst 0, 1) := by decide +kernel
theorem dX10_digit_63 : decode cX10_digit 63 = .ok (.goto 21, 3) := by decide +kernel
theorem dX10_digit_84 : decode cX10_digit 84 = .ok (.ireturn, 1) := by decide +kernel
theorem dX10_small_11 : decode cX10_small 11 = .ok (.istore_n 3, 1) := by decide +kernel
theorem dX10_small_12 : decode cX10_small 12 = .ok (.aload_n 0, 1) := by decide +kernel
theorem dX10_small_13 : decode cX10_small 13 = .ok (.getfield 100, 3) := by decide +kernel
theorem dX10_small_16 : decode cX10_small 16 = .ok (.ifCond .ne 50, 3) := by decide +kernel
theorem dX10_small_66 : decode cX10_small 66 = .ok (.iload_n 3, 1) := by decide +kernel
theorem dX10_small_67 : decode cX10_small 67 = .ok (.ireturn, 1) := by decide +kernel
theorem dX10_readText_43 : decode cX10_readText 43 = .ok (.iastore, 1) := by decide +kernel
theorem dX10_readText_44 : decode cX10_readText 44 = .ok (.aload_n 0, 1) := by decide +kernel
theorem dX10_readText_45 : decode cX10_readText 45 = .ok (.bipush 58, 2) := by decide +kernel
theorem dX10_readText_47 : decode cX10_readText 47 = .ok (.invokevirtual 115, 3) := by decide +kernel
theorem dX10_take_0 : decode cX10_take 0 = .ok (.aload_n 0, 1) := by decide +kernel
theorem dX10_take_1 : decode cX10_take 1 = .ok (.aload_n 0, 1) := by decide +kernel
theorem dX10_take_2 : decode cX10_take 2 = .ok (.getfield 100, 3) := by decide +kernel
theorem dX10_take_5 : decode cX10_take 5 = .ok (.ifCond .ne 11, 3) := by decide +kernel
theorem dX10_take_16 : decode cX10_take 16 = .ok (.iconst 1, 1) := by decide +kernel
theorem dX10_take_17 : decode cX10_take 17 = .ok (.goto 4, 3) := by decide +kernel
theorem dX10_take_21 : decode cX10_take 21 = .ok (.putfield 100, 3) := by decide +kernel
theorem dX10_take_24 : decode cX10_take 24 = .ok (.aload_n 0, 1) := by decide +kernel
theorem dX10_take_25 : decode cX10_take 25 = .ok (.dup, 1) := by decide +kernel
theorem dX10_take_26 : decode cX10_take 26 = .ok (.getfield 93, 3) := by decide +kernel
theorem dX10_take_29 : decode cX10_take 29 = .ok (.aload_n 0, 1) := by decide +kernel
theorem dX10_take_30 : decode cX10_take 30 = .ok (.getfield 100, 3) := by decide +kernel
theorem dX10_take_33 : decode cX10_take 33 = .ok (.ifCond .eq 7, 3) := by decide +kernel
theorem dX10_take_36 : decode cX10_take 36 = .ok (.iconst 0, 1) := by decide +kernel
theorem dX10_take_37 : decode cX10_take 37 = .ok (.goto 4, 3) := by decide +kernel
theorem dX10_take_41 : decode cX10_take 41 = .ok (.iadd, 1) := by decide +kernel
theorem dX10_take_42 : decode cX10_take 42 = .ok (.putfield 93, 3) := by decide +kernel
theorem dX10_take_45 : decode cX10_take 45 = .ok (.return_, 1) := by decide +kernel
theorem dX10_readText_50 : decode cX10_readText 50 = .ok (.aload_n 0, 1) := by decide +kernel
theorem dX10_readText_51 : decode cX10_readText 51 = .ok (.getfield 26, 3) := by decide +kernel
theorem dX10_readText_54 : decode cX10_readText 54 = .ok (.iconst 5, 1) := by decide +kernel
theorem dX10_readText_55 : decode cX10_readText 55 = .ok (.aload_n 0, 1) := by decide +kernel
theorem dX10_readText_56 : decode cX10_readText 56 = .ok (.iconst (-1), 1) := by decide +kernel
theorem dX10_readText_57 : decode cX10_readText 57 = .ok (.iconst (-1), 1) := by decide +kernel
theorem dX10_readText_58 : decode cX10_readText 58 = .ok (.invokevirtual 121, 3) := by decide +kernel
theorem dX10_reference_0 : decode cX10_reference 0 = .ok (.aload_n 0, 1) := by decide +kernel
theorem dX10_reference_1 : decode cX10_reference 1 = .ok (.invokevirtual 103, 3) := by decide +kernel
theorem dX10_reference_4 : decode cX10_reference 4 = .ok (.bipush 48, 2) := by decide +kernel
theorem dX10_reference_6 : decode cX10_reference 6 = .ok (.isub, 1) := by decide +kernel
theorem dX10_reference_7 : decode cX10_reference 7 = .ok (.istore_n 3, 1) := by decide +kernel
theorem dX10_reference_8 : decode cX10_reference 8 = .ok (.aload_n 0, 1) := by decide +kernel
theorem dX10_reference_9 : decode cX10_reference 9 = .ok (.aload_n 0, 1) := by decide +kernel
theorem dX10_reference_10 : decode cX10_reference 10 = .ok (.getfield 100, 3) := by decide +kernel
theorem dX10_reference_13 : decode cX10_reference 13 = .ok (.ifCond .ne 25, 3) := by decide +kernel
theorem dX10_reference_38 : decode cX10_reference 38 = .ok (.iconst 1, 1) := by decide +kernel
theorem dX10_reference_39 : decode cX10_reference 39 = .ok (.goto 4, 3) := by decide +kernel
theorem dX10_reference_43 : decode cX10_reference 43 = .ok (.putfield 100, 3) := by decide +kernel
theorem dX10_reference_46 : decode cX10_reference 46 = .ok (.aload_n 0, 1) := by decide +kernel
theorem dX10_reference_47 : decode cX10_reference 47 = .ok (.dup, 1) := by decide +kernel
theorem dX10_reference_48 : decode cX10_reference 48 = .ok (.getfield 93, 3) := by decide +kernel
theorem dX10_reference_51 : decode cX10_reference 51 = .ok (.aload_n 0, 1) := by decide +kernel
theorem dX10_reference_52 : decode cX10_reference 52 = .ok (.getfield 100, 3) := by decide +kernel
theorem dX10_reference_55 : decode cX10_reference 55 = .ok (.ifCond .eq 7, 3) := by decide +kernel
theorem dX10_reference_58 : decode cX10_reference 58 = .ok (.iconst 0, 1) := by decide +kernel
theorem dX10_reference_59 : decode cX10_reference 59 = .ok (.goto 4, 3) := by decide +kernel
theorem dX10_reference_63 : decode cX10_reference 63 = .ok (.iadd, 1) := by decide +kernel
theorem dX10_reference_64 : decode cX10_reference 64 = .ok (.putfield 93, 3) := by decide +kernel
theorem dX10_reference_67 : decode cX10_reference 67 = .ok (.aload_n 0, 1) := by decide +kernel
theorem dX10_reference_68 : decode cX10_reference 68 = .ok (.bipush 46, 2) := by decide +kernel
theorem dX10_reference_70 : decode cX10_reference 70 = .ok (.invokevirtual 115, 3) := by decide +kernel
theorem dX10_reference_73 : decode cX10_reference 73 = .ok (.aload_n 0, 1) := by decide +kernel
theorem dX10_reference_74 : decode cX10_reference 74 = .ok (.getfield 100, 3) := by decide +kernel
theorem dX10_reference_77 : decode cX10_reference 77 = .ok (.ifCond .eq 7, 3) := by decide +kernel
theorem dX10_reference_80 : decode cX10_reference 80 = .ok (.iconst 0, 1) := by decide +kernel
theorem dX10_reference_81 : decode cX10_reference 81 = .ok (.goto 19, 3) := by decide +kernel
theorem dX10_reference_100 : decode cX10_reference 100 = .ok (.istore 4, 2) := by decide +kernel
theorem dX10_reference_102 : decode cX10_reference 102 = .ok (.iconst 3, 1) := by decide +kernel
theorem dX10_reference_103 : decode cX10_reference 103 = .ok (.iload_n 3, 1) := by decide +kernel
theorem dX10_reference_104 : decode cX10_reference 104 = .ok (.imul, 1) := by decide +kernel
theorem dX10_reference_105 : decode cX10_reference 105 = .ok (.iload 4, 2) := by decide +kernel
theorem dX10_reference_107 : decode cX10_reference 107 = .ok (.iadd, 1) := by decide +kernel
theorem dX10_reference_108 : decode cX10_reference 108 = .ok (.ireturn, 1) := by decide +kernel
theorem dX10_readText_61 : decode cX10_readText 61 = .ok (.iastore, 1) := by decide +kernel
theorem dX10_readText_62 : decode cX10_readText 62 = .ok (.aload_n 0, 1) := by decide +kernel
theorem dX10_readText_63 : decode cX10_readText 63 = .ok (.getfield 26, 3) := by decide +kernel
theorem dX10_readText_66 : decode cX10_readText 66 = .ok (.iconst 5, 1) := by decide +kernel
theorem dX10_readText_67 : decode cX10_readText 67 = .ok (.iaload, 1) := by decide +kernel
theorem dX10_readText_68 : decode cX10_readText 68 = .ok (.iconst 3, 1) := by decide +kernel
theorem dX10_readText_69 : decode cX10_readText 69 = .ok (.idiv, 1) := by decide +kernel
theorem dX10_readText_70 : decode cX10_readText 70 = .ok (.istore_n 1, 1) := by decide +kernel
theorem dX10_readText_71 : decode cX10_readText 71 = .ok (.aload_n 0, 1) := by decide +kernel
theorem dX10_readText_72 : decode cX10_readText 72 = .ok (.getfield 100, 3) := by decide +kernel
theorem dX10_readText_75 : decode cX10_readText 75 = .ok (.ifCond .eq 7, 3) := by decide +kernel
theorem dX10_readText_78 : decode cX10_readText 78 = .ok (.iconst (-1), 1) := by decide +kernel
theorem dX10_readText_79 : decode cX10_readText 79 = .ok (.goto 7, 3) := by decide +kernel
theorem dX10_readText_86 : decode cX10_readText 86 = .ok (.istore_n 2, 1) := by decide +kernel
theorem dX10_readText_87 : decode cX10_readText 87 = .ok (.iload_n 2, 1) := by decide +kernel
theorem dX10_readText_88 : decode cX10_readText 88 = .ok (.bipush 60, 2) := by decide +kernel
theorem dX10_readText_90 : decode cX10_readText 90 = .ok (.if_icmp .eq 33, 3) := by decide +kernel
theorem dX10_readText_93 : decode cX10_readText 93 = .ok (.iload_n 2, 1) := by decide +kernel
theorem dX10_readText_94 : decode cX10_readText 94 = .ok (.bipush 61, 2) := by decide +kernel
theorem dX10_readText_96 : decode cX10_readText 96 = .ok (.if_icmp .eq 27, 3) := by decide +kernel
theorem dX10_readText_99 : decode cX10_readText 99 = .ok (.iload_n 2, 1) := by decide +kernel
theorem dX10_readText_100 : decode cX10_readText 100 = .ok (.bipush 62, 2) := by decide +kernel
theorem dX10_readText_102 : decode cX10_readText 102 = .ok (.if_icmp .eq 21, 3) := by decide +kernel
theorem dX10_readText_105 : decode cX10_readText 105 = .ok (.iload_n 2, 1) := by decide +kernel
theorem dX10_readText_106 : decode cX10_readText 106 = .ok (.bipush 37, 2) := by decide +kernel
theorem dX10_readText_108 : decode cX10_readText 108 = .ok (.if_icmp .eq 15, 3) := by decide +kernel
theorem dX10_readText_111 : decode cX10_readText 111 = .ok (.iload_n 2, 1) := by decide +kernel
theorem dX10_readText_112 : decode cX10_readText 112 = .ok (.bipush 43, 2) := by decide +kernel
theorem dX10_readText_114 : decode cX10_readText 114 = .ok (.if_icmp .eq 9, 3) := by decide +kernel
theorem dX10_readText_117 : decode cX10_readText 117 = .ok (.iload_n 2, 1) := by decide +kernel
theorem dX10_readText_118 : decode cX10_readText 118 = .ok (.bipush 126, 2) := by decide +kernel
theorem dX10_readText_120 : decode cX10_readText 120 = .ok (.if_icmp .ne 7, 3) := by decide +kernel
theorem dX10_readText_127 : decode cX10_readText 127 = .ok (.iconst 0, 1) := by decide +kernel
theorem dX10_readText_128 : decode cX10_readText 128 = .ok (.istore_n 3, 1) := by decide +kernel
theorem dX10_readText_129 : decode cX10_readText 129 = .ok (.aload_n 0, 1) := by decide +kernel
theorem dX10_readText_130 : decode cX10_readText 130 = .ok (.aload_n 0, 1) := by decide +kernel
theorem dX10_readText_131 : decode cX10_readText 131 = .ok (.getfield 100, 3) := by decide +kernel
theorem dX10_readText_134 : decode cX10_readText 134 = .ok (.ifCond .ne 7, 3) := by decide +kernel
theorem dX10_readText_141 : decode cX10_readText 141 = .ok (.iconst 1, 1) := by decide +kernel
theorem dX10_readText_142 : decode cX10_readText 142 = .ok (.goto 4, 3) := by decide +kernel
theorem dX10_readText_146 : decode cX10_readText 146 = .ok (.putfield 100, 3) := by decide +kernel
theorem dX10_readText_149 : decode cX10_readText 149 = .ok (.aload_n 0, 1) := by decide +kernel
theorem dX10_readText_150 : decode cX10_readText 150 = .ok (.dup, 1) := by decide +kernel
theorem dX10_readText_151 : decode cX10_readText 151 = .ok (.getfield 93, 3) := by decide +kernel
theorem dX10_readText_154 : decode cX10_readText 154 = .ok (.aload_n 0, 1) := by decide +kernel
theorem dX10_readText_155 : decode cX10_readText 155 = .ok (.getfield 100, 3) := by decide +kernel
theorem dX10_readText_158 : decode cX10_readText 158 = .ok (.ifCond .eq 7, 3) := by decide +kernel
theorem dX10_readText_161 : decode cX10_readText 161 = .ok (.iconst 0, 1) := by decide +kernel
theorem dX10_readText_162 : decode cX10_readText 162 = .ok (.goto 4, 3) := by decide +kernel
theorem dX10_readText_166 : decode cX10_readText 166 = .ok (.iadd, 1) := by decide +kernel
theorem dX10_readText_167 : decode cX10_readText 167 = .ok (.putfield 93, 3) := by decide +kernel
theorem dX10_readText_170 : decode cX10_readText 170 = .ok (.aload_n 0, 1) := by decide +kernel
theorem dX10_readText_171 : decode cX10_readText 171 = .ok (.getfield 100, 3) := by decide +kernel
theorem dX10_readText_174 : decode cX10_readText 174 = .ok (.ifCond .eq 4, 3) := by decide +kernel
theorem dX10_readText_177 : decode cX10_readText 177 = .ok (.return_, 1) := by decide +kernel
theorem dX10_operator_37 : decode cX10_operator 37 = .ok (.aload_n 0, 1) := by decide +kernel
theorem dX10_operator_38 : decode cX10_operator 38 = .ok (.getfield 100, 3) := by decide +kernel
theorem dX10_operator_41 : decode cX10_operator 41 = .ok (.ifCond .eq 11, 3) := by decide +kernel
theorem dX10_operator_44 : decode cX10_operator 44 = .ok (.bipush (-10), 2) := by decide +kernel
theorem dX10_operator_46 : decode cX10_operator 46 = .ok (.aload_n 0, 1) := by decide +kernel
theorem dX10_operator_47 : decode cX10_operator 47 = .ok (.getfield 93, 3) := by decide +kernel
theorem dX10_operator_50 : decode cX10_operator 50 = .ok (.isub, 1) := by decide +kernel
theorem dX10_operator_51 : decode cX10_operator 51 = .ok (.ireturn, 1) := by decide +kernel
theorem dX10_remove_0 : decode cX10_remove 0 = .ok (.aload_n 0, 1) := by decide +kernel
theorem dX10_remove_1 : decode cX10_remove 1 = .ok (.iload_n 1, 1) := by decide +kernel
theorem dX10_remove_2 : decode cX10_remove 2 = .ok (.invokevirtual 136, 3) := by decide +kernel
theorem dX10_isOperator_0 : decode cX10_isOperator 0 = .ok (.iload_n 1, 1) := by decide +kernel
theorem dX10_isOperator_1 : decode cX10_isOperator 1 = .ok (.iconst 0, 1) := by decide +kernel
theorem dX10_isOperator_2 : decode cX10_isOperator 2 = .ok (.aload_n 0, 1) := by decide +kernel
theorem dX10_isOperator_3 : decode cX10_isOperator 3 = .ok (.getfield 11, 3) := by decide +kernel
theorem dX10_isOperator_6 : decode cX10_isOperator 6 = .ok (.iconst 2, 1) := by decide +kernel
theorem dX10_isOperator_7 : decode cX10_isOperator 7 = .ok (.iaload, 1) := by decide +kernel
theorem dX10_isOperator_8 : decode cX10_isOperator 8 = .ok (.iconst 1, 1) := by decide +kernel
theorem dX10_isOperator_9 : decode cX10_isOperator 9 = .ok (.isub, 1) := by decide +kernel
theorem dX10_isOperator_10 : decode cX10_isOperator 10 = .ok (.invokestatic 45, 3) := by decide +kernel
theorem dX10_isOperator_13 : decode cX10_isOperator 13 = .ok (.ireturn, 1) := by decide +kernel
theorem dX10_remove_5 : decode cX10_remove 5 = .ok (.ifCond .ne 5, 3) := by decide +kernel
theorem dX10_remove_8 : decode cX10_remove 8 = .ok (.iconst (-1), 1) := by decide +kernel
theorem dX10_remove_9 : decode cX10_remove 9 = .ok (.ireturn, 1) := by decide +kernel
theorem dX10_policy_0 : decode cX10_policy 0 = .ok (.iload_n 1, 1) := by decide +kernel
theorem dX10_policy_1 : decode cX10_policy 1 = .ok (.iconst 0, 1) := by decide +kernel
theorem dX10_policy_2 : decode cX10_policy 2 = .ok (.iconst 4, 1) := by decide +kernel
theorem dX10_policy_3 : decode cX10_policy 3 = .ok (.invokestatic 45, 3) := by decide +kernel
theorem dX10_policy_6 : decode cX10_policy 6 = .ok (.ifCond .ne 6, 3) := by decide +kernel
theorem dX10_policy_9 : decode cX10_policy 9 = .ok (.bipush (-2), 2) := by decide +kernel
theorem dX10_policy_11 : decode cX10_policy 11 = .ok (.ireturn, 1) := by decide +kernel
theorem dX10_policy_12 : decode cX10_policy 12 = .ok (.aload_n 0, 1) := by decide +kernel
theorem dX10_policy_13 : decode cX10_policy 13 = .ok (.getfield 11, 3) := by decide +kernel
theorem dX10_policy_16 : decode cX10_policy 16 = .ok (.iconst 5, 1) := by decide +kernel
theorem dX10_policy_17 : decode cX10_policy 17 = .ok (.iaload, 1) := by decide +kernel
theorem dX10_policy_18 : decode cX10_policy 18 = .ok (.istore_n 2, 1) := by decide +kernel
theorem dX10_policy_19 : decode cX10_policy 19 = .ok (.aload_n 0, 1) := by decide +kernel
theorem dX10_policy_20 : decode cX10_policy 20 = .ok (.getfield 11, 3) := by decide +kernel
theorem dX10_policy_23 : decode cX10_policy 23 = .ok (.iconst 5, 1) := by decide +kernel
theorem dX10_policy_24 : decode cX10_policy 24 = .ok (.iload_n 1, 1) := by decide +kernel
theorem dX10_policy_25 : decode cX10_policy 25 = .ok (.iastore, 1) := by decide +kernel
theorem dX10_policy_26 : decode cX10_policy 26 = .ok (.iload_n 2, 1) := by decide +kernel
theorem dX10_policy_27 : decode cX10_policy 27 = .ok (.ireturn, 1) := by decide +kernel
theorem dX10_discipline_0 : decode cX10_discipline 0 = .ok (.iload_n 1, 1) := by decide +kernel
theorem dX10_discipline_1 : decode cX10_discipline 1 = .ok (.iconst 0, 1) := by decide +kernel
theorem dX10_discipline_2 : decode cX10_discipline 2 = .ok (.iconst 1, 1) := by decide +kernel
theorem dX10_discipline_3 : decode cX10_discipline 3 = .ok (.invokestatic 45, 3) := by decide +kernel
theorem dX10_discipline_6 : decode cX10_discipline 6 = .ok (.ifCond .ne 6, 3) := by decide +kernel
theorem dX10_discipline_9 : decode cX10_discipline 9 = .ok (.bipush (-2), 2) := by decide +kernel
theorem dX10_discipline_11 : decode cX10_discipline 11 = .ok (.ireturn, 1) := by decide +kernel
theorem dX10_discipline_12 : decode cX10_discipline 12 = .ok (.aload_n 0, 1) := by decide +kernel
theorem dX10_discipline_13 : decode cX10_discipline 13 = .ok (.getfield 11, 3) := by decide +kernel
theorem dX10_discipline_16 : decode cX10_discipline 16 = .ok (.bipush 6, 2) := by decide +kernel
theorem dX10_discipline_18 : decode cX10_discipline 18 = .ok (.iaload, 1) := by decide +kernel
theorem dX10_discipline_19 : decode cX10_discipline 19 = .ok (.istore_n 2, 1) := by decide +kernel
theorem dX10_discipline_20 : decode cX10_discipline 20 = .ok (.aload_n 0, 1) := by decide +kernel
theorem dX10_discipline_21 : decode cX10_discipline 21 = .ok (.getfield 11, 3) := by decide +kernel
theorem dX10_discipline_24 : decode cX10_discipline 24 = .ok (.bipush 6, 2) := by decide +kernel
theorem dX10_discipline_26 : decode cX10_discipline 26 = .ok (.iload_n 1, 1) := by decide +kernel
theorem dX10_discipline_27 : decode cX10_discipline 27 = .ok (.iastore, 1) := by decide +kernel
theorem dX10_discipline_28 : decode cX10_discipline 28 = .ok (.iload_n 2, 1) := by decide +kernel
theorem dX10_discipline_29 : decode cX10_discipline 29 = .ok (.ireturn, 1) := by decide +kernel
theorem dX10_step_0 : decode cX10_step 0 = .ok (.iload_n 1, 1) := by decide +kernel
theorem dX10_step_1 : decode cX10_step 1 = .ok (.iconst 1, 1) := by decide +kernel
theorem dX10_step_2 : decode cX10_step 2 = .ok (.bipush 100, 2) := by decide +kernel
theorem dX10_step_4 : decode cX10_step 4 = .ok (.invokestatic 45, 3) := by decide +kernel
theorem dX10_step_7 : decode cX10_step 7 = .ok (.ifCond .ne 6, 3) := by decide +kernel
theorem dX10_step_10 : decode cX10_step 10 = .ok (.bipush (-2), 2) := by decide +kernel
theorem dX10_step_12 : decode cX10_step 12 = .ok (.ireturn, 1) := by decide +kernel
theorem dX10_step_13 : decode cX10_step 13 = .ok (.iconst 0, 1) := by decide +kernel
theorem dX10_step_14 : decode cX10_step 14 = .ok (.istore_n 2, 1) := by decide +kernel
theorem dX10_step_15 : decode cX10_step 15 = .ok (.iload_n 2, 1) := by decide +kernel
theorem dX10_step_16 : decode cX10_step 16 = .ok (.iload_n 1, 1) := by decide +kernel
theorem dX10_step_17 : decode cX10_step 17 = .ok (.if_icmp .ge 21, 3) := by decide +kernel
theorem dX10_step_20 : decode cX10_step 20 = .ok (.aload_n 0, 1) := by decide +kernel
theorem dX10_step_21 : decode cX10_step 21 = .ok (.iconst 0, 1) := by decide +kernel
theorem dX10_step_22 : decode cX10_step 22 = .ok (.invokevirtual 53, 3) := by decide +kernel
theorem dX10_sizeOf_0 : decode cX10_sizeOf 0 = .ok (.aload_n 0, 1) := by decide +kernel
theorem dX10_sizeOf_1 : decode cX10_sizeOf 1 = .ok (.getfield 11, 3) := by decide +kernel
theorem dX10_sizeOf_4 : decode cX10_sizeOf 4 = .ok (.sipush 533, 3) := by decide +kernel
theorem dX10_sizeOf_7 : decode cX10_sizeOf 7 = .ok (.iload_n 1, 1) := by decide +kernel
theorem dX10_sizeOf_8 : decode cX10_sizeOf 8 = .ok (.iadd, 1) := by decide +kernel
theorem dX10_sizeOf_9 : decode cX10_sizeOf 9 = .ok (.iaload, 1) := by decide +kernel
theorem dX10_sizeOf_10 : decode cX10_sizeOf 10 = .ok (.aload_n 0, 1) := by decide +kernel
theorem dX10_sizeOf_11 : decode cX10_sizeOf 11 = .ok (.getfield 11, 3) := by decide +kernel
theorem dX10_sizeOf_14 : decode cX10_sizeOf 14 = .ok (.sipush 507, 3) := by decide +kernel
theorem dX10_sizeOf_17 : decode cX10_sizeOf 17 = .ok (.iload_n 1, 1) := by decide +kernel
theorem dX10_sizeOf_18 : decode cX10_sizeOf 18 = .ok (.iadd, 1) := by decide +kernel
theorem dX10_sizeOf_19 : decode cX10_sizeOf 19 = .ok (.iaload, 1) := by decide +kernel
theorem dX10_sizeOf_20 : decode cX10_sizeOf 20 = .ok (.isub, 1) := by decide +kernel
theorem dX10_sizeOf_21 : decode cX10_sizeOf 21 = .ok (.ireturn, 1) := by decide +kernel
theorem dX10_step_25 : decode cX10_step 25 = .ok (.ifCond .le 13, 3) := by decide +kernel
theorem dX10_step_38 : decode cX10_step 38 = .ok (.iload_n 2, 1) := by decide +kernel
theorem dX10_step_39 : decode cX10_step 39 = .ok (.ireturn, 1) := by decide +kernel
theorem dX10_run_0 : decode cX10_run 0 = .ok (.iload_n 1, 1) := by decide +kernel
theorem dX10_run_1 : decode cX10_run 1 = .ok (.iconst 1, 1) := by decide +kernel
theorem dX10_run_2 : decode cX10_run 2 = .ok (.sipush 9999, 3) := by decide +kernel
theorem dX10_run_5 : decode cX10_run 5 = .ok (.invokestatic 45, 3) := by decide +kernel
theorem dX10_run_8 : decode cX10_run 8 = .ok (.ifCond .ne 6, 3) := by decide +kernel
theorem dX10_run_11 : decode cX10_run 11 = .ok (.bipush (-2), 2) := by decide +kernel
theorem dX10_run_13 : decode cX10_run 13 = .ok (.ireturn, 1) := by decide +kernel
theorem dX10_run_14 : decode cX10_run 14 = .ok (.aload_n 0, 1) := by decide +kernel
theorem dX10_run_15 : decode cX10_run 15 = .ok (.getfield 11, 3) := by decide +kernel
theorem dX10_run_18 : decode cX10_run 18 = .ok (.iconst 4, 1) := by decide +kernel
theorem dX10_run_19 : decode cX10_run 19 = .ok (.iaload, 1) := by decide +kernel
theorem dX10_run_20 : decode cX10_run 20 = .ok (.istore_n 2, 1) := by decide +kernel
theorem dX10_run_21 : decode cX10_run 21 = .ok (.aload_n 0, 1) := by decide +kernel
theorem dX10_run_22 : decode cX10_run 22 = .ok (.iconst 0, 1) := by decide +kernel
theorem dX10_run_23 : decode cX10_run 23 = .ok (.invokevirtual 53, 3) := by decide +kernel
theorem dX10_run_26 : decode cX10_run 26 = .ok (.ifCond .le 22, 3) := by decide +kernel
theorem dX10_run_48 : decode cX10_run 48 = .ok (.aload_n 0, 1) := by decide +kernel
theorem dX10_run_49 : decode cX10_run 49 = .ok (.getfield 11, 3) := by decide +kernel
theorem dX10_run_52 : decode cX10_run 52 = .ok (.iconst 4, 1) := by decide +kernel
theorem dX10_run_53 : decode cX10_run 53 = .ok (.iaload, 1) := by decide +kernel
theorem dX10_run_54 : decode cX10_run 54 = .ok (.iload_n 2, 1) := by decide +kernel
theorem dX10_run_55 : decode cX10_run 55 = .ok (.isub, 1) := by decide +kernel
theorem dX10_run_56 : decode cX10_run 56 = .ok (.ireturn, 1) := by decide +kernel
theorem dX10_next_0 : decode cX10_next 0 = .ok (.aload_n 0, 1) := by decide +kernel
theorem dX10_next_1 : decode cX10_next 1 = .ok (.iconst 0, 1) := by decide +kernel
theorem dX10_next_2 : decode cX10_next 2 = .ok (.invokevirtual 53, 3) := by decide +kernel
theorem dX10_next_5 : decode cX10_next 5 = .ok (.ifCond .ne 6, 3) := by decide +kernel
theorem dX10_next_8 : decode cX10_next 8 = .ok (.bipush (-5), 2) := by decide +kernel
theorem dX10_next_10 : decode cX10_next 10 = .ok (.ireturn, 1) := by decide +kernel
theorem dX10_pending_0 : decode cX10_pending 0 = .ok (.iload_n 1, 1) := by decide +kernel
theorem dX10_pending_1 : decode cX10_pending 1 = .ok (.iconst 0, 1) := by decide +kernel
theorem dX10_pending_2 : decode cX10_pending 2 = .ok (.aload_n 0, 1) := by decide +kernel
theorem dX10_pending_3 : decode cX10_pending 3 = .ok (.iconst 0, 1) := by decide +kernel
theorem dX10_pending_4 : decode cX10_pending 4 = .ok (.invokevirtual 53, 3) := by decide +kernel
theorem dX10_pending_7 : decode cX10_pending 7 = .ok (.iconst 1, 1) := by decide +kernel
theorem dX10_pending_8 : decode cX10_pending 8 = .ok (.isub, 1) := by decide +kernel
theorem dX10_pending_9 : decode cX10_pending 9 = .ok (.invokestatic 45, 3) := by decide +kernel
theorem dX10_pending_12 : decode cX10_pending 12 = .ok (.ifCond .eq 23, 3) := by decide +kernel
theorem dX10_pending_35 : decode cX10_pending 35 = .ok (.iconst (-1), 1) := by decide +kernel
theorem dX10_pending_36 : decode cX10_pending 36 = .ok (.ireturn, 1) := by decide +kernel
theorem dX10_told_0 : decode cX10_told 0 = .ok (.aload_n 0, 1) := by decide +kernel
theorem dX10_told_1 : decode cX10_told 1 = .ok (.iload_n 1, 1) := by decide +kernel
theorem dX10_told_2 : decode cX10_told 2 = .ok (.invokevirtual 136, 3) := by decide +kernel
theorem dX10_told_5 : decode cX10_told 5 = .ok (.ifCond .eq 13, 3) := by decide +kernel
theorem dX10_told_18 : decode cX10_told 18 = .ok (.iconst (-1), 1) := by decide +kernel
theorem dX10_told_19 : decode cX10_told 19 = .ok (.ireturn, 1) := by decide +kernel
theorem dX10_of_0 : decode cX10_of 0 = .ok (.aload_n 0, 1) := by decide +kernel
theorem dX10_of_1 : decode cX10_of 1 = .ok (.iload_n 1, 1) := by decide +kernel
theorem dX10_of_2 : decode cX10_of 2 = .ok (.invokevirtual 49, 3) := by decide +kernel
theorem dX10_of_5 : decode cX10_of 5 = .ok (.ifCond .ne 5, 3) := by decide +kernel
theorem dX10_of_8 : decode cX10_of 8 = .ok (.iconst (-1), 1) := by decide +kernel
theorem dX10_of_9 : decode cX10_of 9 = .ok (.ireturn, 1) := by decide +kernel
theorem dX10_value_0 : decode cX10_value 0 = .ok (.aload_n 0, 1) := by decide +kernel
theorem dX10_value_1 : decode cX10_value 1 = .ok (.iload_n 1, 1) := by decide +kernel
theorem dX10_value_2 : decode cX10_value 2 = .ok (.iload_n 2, 1) := by decide +kernel
theorem dX10_value_3 : decode cX10_value 3 = .ok (.invokevirtual 90, 3) := by decide +kernel
theorem dX10_value_6 : decode cX10_value 6 = .ok (.ifCond .ne 7, 3) := by decide +kernel
theorem dX10_value_9 : decode cX10_value 9 = .ok (.sipush (-1000), 3) := by decide +kernel
theorem dX10_value_12 : decode cX10_value 12 = .ok (.ireturn, 1) := by decide +kernel
theorem dX10_output_0 : decode cX10_output 0 = .ok (.iload_n 1, 1) := by decide +kernel
theorem dX10_output_1 : decode cX10_output 1 = .ok (.iconst 0, 1) := by decide +kernel
theorem dX10_output_2 : decode cX10_output 2 = .ok (.aload_n 0, 1) := by decide +kernel
theorem dX10_output_3 : decode cX10_output 3 = .ok (.bipush 25, 2) := by decide +kernel
theorem dX10_output_5 : decode cX10_output 5 = .ok (.invokevirtual 53, 3) := by decide +kernel
theorem dX10_output_8 : decode cX10_output 8 = .ok (.iconst 1, 1) := by decide +kernel
theorem dX10_output_9 : decode cX10_output 9 = .ok (.isub, 1) := by decide +kernel
theorem dX10_output_10 : decode cX10_output 10 = .ok (.invokestatic 45, 3) := by decide +kernel
theorem dX10_output_13 : decode cX10_output 13 = .ok (.ifCond .eq 11, 3) := by decide +kernel
theorem dX10_output_24 : decode cX10_output 24 = .ok (.iconst (-1), 1) := by decide +kernel
theorem dX10_output_25 : decode cX10_output 25 = .ok (.ireturn, 1) := by decide +kernel
theorem dX10_where_0 : decode cX10_where 0 = .ok (.aload_n 0, 1) := by decide +kernel
theorem dX10_where_1 : decode cX10_where 1 = .ok (.iload_n 1, 1) := by decide +kernel
theorem dX10_where_2 : decode cX10_where 2 = .ok (.invokevirtual 205, 3) := by decide +kernel
theorem dX10_isAsked_0 : decode cX10_isAsked 0 = .ok (.iload_n 1, 1) := by decide +kernel
theorem dX10_isAsked_1 : decode cX10_isAsked 1 = .ok (.istore_n 2, 1) := by decide +kernel
theorem dX10_isAsked_2 : decode cX10_isAsked 2 = .ok (.aload_n 0, 1) := by decide +kernel
theorem dX10_isAsked_3 : decode cX10_isAsked 3 = .ok (.getfield 32, 3) := by decide +kernel
theorem dX10_isAsked_6 : decode cX10_isAsked 6 = .ok (.iconst 4, 1) := by decide +kernel
theorem dX10_isAsked_7 : decode cX10_isAsked 7 = .ok (.iconst 0, 1) := by decide +kernel
theorem dX10_isAsked_8 : decode cX10_isAsked 8 = .ok (.iastore, 1) := by decide +kernel
theorem dX10_isAsked_9 : decode cX10_isAsked 9 = .ok (.iconst 2, 1) := by decide +kernel
theorem dX10_isAsked_10 : decode cX10_isAsked 10 = .ok (.istore_n 3, 1) := by decide +kernel
theorem dX10_isAsked_11 : decode cX10_isAsked 11 = .ok (.iload_n 3, 1) := by decide +kernel
theorem dX10_isAsked_12 : decode cX10_isAsked 12 = .ok (.ifCond .lt 116, 3) := by decide +kernel
theorem dX10_isAsked_15 : decode cX10_isAsked 15 = .ok (.aload_n 0, 1) := by decide +kernel
theorem dX10_isAsked_16 : decode cX10_isAsked 16 = .ok (.getfield 32, 3) := by decide +kernel
theorem dX10_isAsked_19 : decode cX10_isAsked 19 = .ok (.iconst 1, 1) := by decide +kernel
theorem dX10_isAsked_20 : decode cX10_isAsked 20 = .ok (.iload_n 3, 1) := by decide +kernel
theorem dX10_isAsked_21 : decode cX10_isAsked 21 = .ok (.iadd, 1) := by decide +kernel
theorem dX10_isAsked_22 : decode cX10_isAsked 22 = .ok (.iconst (-1), 1) := by decide +kernel
theorem dX10_isAsked_23 : decode cX10_isAsked 23 = .ok (.iastore, 1) := by decide +kernel
theorem dX10_isAsked_24 : decode cX10_isAsked 24 = .ok (.iload_n 3, 1) := by decide +kernel
theorem dX10_isAsked_25 : decode cX10_isAsked 25 = .ok (.aload_n 0, 1) := by decide +kernel
theorem dX10_isAsked_26 : decode cX10_isAsked 26 = .ok (.getfield 11, 3) := by decide +kernel
theorem dX10_isAsked_29 : decode cX10_isAsked 29 = .ok (.iconst 0, 1) := by decide +kernel
theorem dX10_isAsked_30 : decode cX10_isAsked 30 = .ok (.iaload, 1) := by decide +kernel
theorem dX10_isAsked_31 : decode cX10_isAsked 31 = .ok (.if_icmp .lt 6, 3) := by decide +kernel
theorem dX10_isAsked_34 : decode cX10_isAsked 34 = .ok (.goto 88, 3) := by decide +kernel
theorem dX10_isAsked_122 : decode cX10_isAsked 122 = .ok (.iinc 3 (-1), 3) := by decide +kernel
theorem dX10_isAsked_125 : decode cX10_isAsked 125 = .ok (.goto (-114), 3) := by decide +kernel
theorem dX10_isAsked_128 : decode cX10_isAsked 128 = .ok (.iload_n 2, 1) := by decide +kernel
theorem dX10_isAsked_129 : decode cX10_isAsked 129 = .ok (.ifCond .ne 16, 3) := by decide +kernel
theorem dX10_isAsked_145 : decode cX10_isAsked 145 = .ok (.iconst 0, 1) := by decide +kernel
theorem dX10_isAsked_146 : decode cX10_isAsked 146 = .ok (.ireturn, 1) := by decide +kernel
theorem dX10_isAsked_132 : decode cX10_isAsked 132 = .ok (.aload_n 0, 1) := by decide +kernel
theorem dX10_isAsked_133 : decode cX10_isAsked 133 = .ok (.getfield 11, 3) := by decide +kernel
theorem dX10_isAsked_136 : decode cX10_isAsked 136 = .ok (.iconst 0, 1) := by decide +kernel
theorem dX10_isAsked_137 : decode cX10_isAsked 137 = .ok (.iaload, 1) := by decide +kernel
theorem dX10_isAsked_138 : decode cX10_isAsked 138 = .ok (.ifCond .le 7, 3) := by decide +kernel
theorem dX10_where_5 : decode cX10_where 5 = .ok (.ifCond .ne 5, 3) := by decide +kernel
theorem dX10_where_8 : decode cX10_where 8 = .ok (.iconst (-1), 1) := by decide +kernel
theorem dX10_where_9 : decode cX10_where 9 = .ok (.ireturn, 1) := by decide +kernel
theorem dX10_answer_0 : decode cX10_answer 0 = .ok (.iload_n 1, 1) := by decide +kernel
theorem dX10_answer_1 : decode cX10_answer 1 = .ok (.iconst 0, 1) := by decide +kernel
theorem dX10_answer_2 : decode cX10_answer 2 = .ok (.iconst 2, 1) := by decide +kernel
theorem dX10_answer_3 : decode cX10_answer 3 = .ok (.invokestatic 45, 3) := by decide +kernel
theorem dX10_answer_6 : decode cX10_answer 6 = .ok (.ifCond .ne 5, 3) := by decide +kernel
theorem dX10_answer_9 : decode cX10_answer 9 = .ok (.iconst (-1), 1) := by decide +kernel
theorem dX10_answer_10 : decode cX10_answer 10 = .ok (.ireturn, 1) := by decide +kernel
theorem dX10_answer_11 : decode cX10_answer 11 = .ok (.aload_n 0, 1) := by decide +kernel
theorem dX10_answer_12 : decode cX10_answer 12 = .ok (.invokevirtual 230, 3) := by decide +kernel
theorem dX10_findAnswer_0 : decode cX10_findAnswer 0 = .ok (.aload_n 0, 1) := by decide +kernel
theorem dX10_findAnswer_1 : decode cX10_findAnswer 1 = .ok (.iconst 0, 1) := by decide +kernel
theorem dX10_findAnswer_2 : decode cX10_findAnswer 2 = .ok (.putfield 211, 3) := by decide +kernel
theorem dX10_findAnswer_5 : decode cX10_findAnswer 5 = .ok (.aload_n 0, 1) := by decide +kernel
theorem dX10_findAnswer_6 : decode cX10_findAnswer 6 = .ok (.bipush (-5), 2) := by decide +kernel
theorem dX10_findAnswer_8 : decode cX10_findAnswer 8 = .ok (.putfield 214, 3) := by decide +kernel
theorem dX10_findAnswer_11 : decode cX10_findAnswer 11 = .ok (.aload_n 0, 1) := by decide +kernel
theorem dX10_findAnswer_12 : decode cX10_findAnswer 12 = .ok (.iconst 1, 1) := by decide +kernel
theorem dX10_findAnswer_13 : decode cX10_findAnswer 13 = .ok (.putfield 217, 3) := by decide +kernel
theorem dX10_findAnswer_16 : decode cX10_findAnswer 16 = .ok (.aload_n 0, 1) := by decide +kernel
theorem dX10_findAnswer_17 : decode cX10_findAnswer 17 = .ok (.getfield 11, 3) := by decide +kernel
theorem dX10_findAnswer_20 : decode cX10_findAnswer 20 = .ok (.iconst 0, 1) := by decide +kernel
theorem dX10_findAnswer_21 : decode cX10_findAnswer 21 = .ok (.iaload, 1) := by decide +kernel
theorem dX10_findAnswer_22 : decode cX10_findAnswer 22 = .ok (.ifCond .ne 7, 3) := by decide +kernel
theorem dX10_findAnswer_25 : decode cX10_findAnswer 25 = .ok (.iconst 0, 1) := by decide +kernel
theorem dX10_findAnswer_26 : decode cX10_findAnswer 26 = .ok (.goto 20, 3) := by decide +kernel
theorem dX10_findAnswer_46 : decode cX10_findAnswer 46 = .ok (.istore_n 1, 1) := by decide +kernel
theorem dX10_findAnswer_47 : decode cX10_findAnswer 47 = .ok (.iconst 0, 1) := by decide +kernel
theorem dX10_findAnswer_48 : decode cX10_findAnswer 48 = .ok (.istore_n 2, 1) := by decide +kernel
theorem dX10_findAnswer_49 : decode cX10_findAnswer 49 = .ok (.iload_n 2, 1) := by decide +kernel
theorem dX10_findAnswer_50 : decode cX10_findAnswer 50 = .ok (.iload_n 1, 1) := by decide +kernel
theorem dX10_findAnswer_51 : decode cX10_findAnswer 51 = .ok (.if_icmp .ge 200, 3) := by decide +kernel
theorem dX10_findAnswer_251 : decode cX10_findAnswer 251 = .ok (.return_, 1) := by decide +kernel
theorem dX10_answer_15 : decode cX10_answer 15 = .ok (.aload_n 0, 1) := by decide +kernel
theorem dX10_answer_16 : decode cX10_answer 16 = .ok (.iconst 0, 1) := by decide +kernel
theorem dX10_answer_17 : decode cX10_answer 17 = .ok (.invokevirtual 53, 3) := by decide +kernel
theorem dX10_answer_20 : decode cX10_answer 20 = .ok (.ifCond .ne 27, 3) := by decide +kernel
theorem dX10_answer_23 : decode cX10_answer 23 = .ok (.aload_n 0, 1) := by decide +kernel
theorem dX10_answer_24 : decode cX10_answer 24 = .ok (.getfield 217, 3) := by decide +kernel
theorem dX10_answer_27 : decode cX10_answer 27 = .ok (.ifCond .eq 20, 3) := by decide +kernel
theorem dX10_answer_30 : decode cX10_answer 30 = .ok (.aload_n 0, 1) := by decide +kernel
theorem dX10_answer_31 : decode cX10_answer 31 = .ok (.getfield 211, 3) := by decide +kernel
theorem dX10_answer_34 : decode cX10_answer 34 = .ok (.aload_n 0, 1) := by decide +kernel
theorem dX10_answer_35 : decode cX10_answer 35 = .ok (.bipush 25, 2) := by decide +kernel
theorem dX10_answer_37 : decode cX10_answer 37 = .ok (.invokevirtual 53, 3) := by decide +kernel
theorem dX10_answer_40 : decode cX10_answer 40 = .ok (.if_icmp .ne 7, 3) := by decide +kernel
theorem dX10_answer_43 : decode cX10_answer 43 = .ok (.iconst 1, 1) := by decide +kernel
theorem dX10_answer_44 : decode cX10_answer 44 = .ok (.goto 4, 3) := by decide +kernel
theorem dX10_answer_48 : decode cX10_answer 48 = .ok (.istore_n 2, 1) := by decide +kernel
theorem dX10_answer_49 : decode cX10_answer 49 = .ok (.iload_n 1, 1) := by decide +kernel
theorem dX10_answer_50 : decode cX10_answer 50 = .ok (.ifCond .ne 10, 3) := by decide +kernel
theorem dX10_answer_60 : decode cX10_answer 60 = .ok (.iload_n 1, 1) := by decide +kernel
theorem dX10_answer_61 : decode cX10_answer 61 = .ok (.iconst 1, 1) := by decide +kernel
theorem dX10_answer_62 : decode cX10_answer 62 = .ok (.if_icmp .ne 10, 3) := by decide +kernel
theorem dX10_answer_72 : decode cX10_answer 72 = .ok (.iload_n 2, 1) := by decide +kernel
theorem dX10_answer_73 : decode cX10_answer 73 = .ok (.ifCond .eq 7, 3) := by decide +kernel
theorem dX10_answer_76 : decode cX10_answer 76 = .ok (.iconst 1, 1) := by decide +kernel
theorem dX10_answer_77 : decode cX10_answer 77 = .ok (.goto 4, 3) := by decide +kernel
theorem dX10_answer_81 : decode cX10_answer 81 = .ok (.ireturn, 1) := by decide +kernel
theorem dX10_answer_65 : decode cX10_answer 65 = .ok (.aload_n 0, 1) := by decide +kernel
theorem dX10_answer_66 : decode cX10_answer 66 = .ok (.getfield 214, 3) := by decide +kernel
theorem dX10_answer_69 : decode cX10_answer 69 = .ok (.goto 12, 3) := by decide +kernel
theorem dX10_answer_53 : decode cX10_answer 53 = .ok (.aload_n 0, 1) := by decide +kernel
theorem dX10_answer_54 : decode cX10_answer 54 = .ok (.getfield 211, 3) := by decide +kernel
theorem dX10_answer_57 : decode cX10_answer 57 = .ok (.goto 24, 3) := by decide +kernel
theorem dX10_rank_0 : decode cX10_rank 0 = .ok (.aload_n 0, 1) := by decide +kernel
theorem dX10_rank_1 : decode cX10_rank 1 = .ok (.iload_n 1, 1) := by decide +kernel
theorem dX10_rank_2 : decode cX10_rank 2 = .ok (.invokevirtual 136, 3) := by decide +kernel
theorem dX10_rank_5 : decode cX10_rank 5 = .ok (.ifCond .eq 12, 3) := by decide +kernel
theorem dX10_rank_17 : decode cX10_rank 17 = .ok (.ldc2_w 233, 3) := by decide +kernel
theorem dX10_rank_20 : decode cX10_rank 20 = .ok (.lreturn, 1) := by decide +kernel
theorem dX10_age_0 : decode cX10_age 0 = .ok (.iconst 0, 1) := by decide +kernel
theorem dX10_age_1 : decode cX10_age 1 = .ok (.istore_n 1, 1) := by decide +kernel
theorem dX10_age_2 : decode cX10_age 2 = .ok (.iconst 0, 1) := by decide +kernel
theorem dX10_age_3 : decode cX10_age 3 = .ok (.istore_n 2, 1) := by decide +kernel
theorem dX10_age_4 : decode cX10_age 4 = .ok (.iload_n 2, 1) := by decide +kernel
theorem dX10_age_5 : decode cX10_age 5 = .ok (.aload_n 0, 1) := by decide +kernel
theorem dX10_age_6 : decode cX10_age 6 = .ok (.getfield 11, 3) := by decide +kernel
theorem dX10_age_9 : decode cX10_age 9 = .ok (.iconst 2, 1) := by decide +kernel
theorem dX10_age_10 : decode cX10_age 10 = .ok (.iaload, 1) := by decide +kernel
theorem dX10_age_11 : decode cX10_age 11 = .ok (.if_icmp .ge 56, 3) := by decide +kernel
theorem dX10_age_67 : decode cX10_age 67 = .ok (.iload_n 1, 1) := by decide +kernel
theorem dX10_age_68 : decode cX10_age 68 = .ok (.ireturn, 1) := by decide +kernel
theorem dX10_event_0 : decode cX10_event 0 = .ok (.iload_n 1, 1) := by decide +kernel
theorem dX10_event_1 : decode cX10_event 1 = .ok (.iconst 0, 1) := by decide +kernel
theorem dX10_event_2 : decode cX10_event 2 = .ok (.bipush 32, 2) := by decide +kernel
theorem dX10_event_4 : decode cX10_event 4 = .ok (.aload_n 0, 1) := by decide +kernel
theorem dX10_event_5 : decode cX10_event 5 = .ok (.getfield 11, 3) := by decide +kernel
theorem dX10_event_8 : decode cX10_event 8 = .ok (.bipush 8, 2) := by decide +kernel
theorem dX10_event_10 : decode cX10_event 10 = .ok (.iaload, 1) := by decide +kernel
theorem dX10_event_11 : decode cX10_event 11 = .ok (.invokestatic 107, 3) := by decide +kernel
theorem dX10_event_14 : decode cX10_event 14 = .ok (.iconst 1, 1) := by decide +kernel
theorem dX10_event_15 : decode cX10_event 15 = .ok (.isub, 1) := by decide +kernel
theorem dX10_event_16 : decode cX10_event 16 = .ok (.invokestatic 45, 3) := by decide +kernel
theorem dX10_event_19 : decode cX10_event 19 = .ok (.ifCond .eq 29, 3) := by decide +kernel
theorem dX10_event_48 : decode cX10_event 48 = .ok (.iconst (-1), 1) := by decide +kernel
theorem dX10_event_49 : decode cX10_event 49 = .ok (.ireturn, 1) := by decide +kernel
theorem dX10_undo_0 : decode cX10_undo 0 = .ok (.aload_n 0, 1) := by decide +kernel
theorem dX10_undo_1 : decode cX10_undo 1 = .ok (.getfield 41, 3) := by decide +kernel
theorem dX10_undo_4 : decode cX10_undo 4 = .ok (.ifCond .ne 6, 3) := by decide +kernel
theorem dX10_undo_7 : decode cX10_undo 7 = .ok (.bipush (-3), 2) := by decide +kernel
theorem dX10_undo_9 : decode cX10_undo 9 = .ok (.ireturn, 1) := by decide +kernel
theorem dX10_count_0 : decode cX10_count 0 = .ok (.iload_n 1, 1) := by decide +kernel
theorem dX10_count_1 : decode cX10_count 1 = .ok (.tableswitch 152 0 11 #[63, 70, 77, 83, 90, 98, 105, 113, 118, 125, 132, 139], 63) := by decide +kernel
theorem dX10_count_64 : decode cX10_count 64 = .ok (.aload_n 0, 1) := by decide +kernel
theorem dX10_count_65 : decode cX10_count 65 = .ok (.getfield 11, 3) := by decide +kernel
theorem dX10_count_68 : decode cX10_count 68 = .ok (.iconst 0, 1) := by decide +kernel
theorem dX10_count_69 : decode cX10_count 69 = .ok (.iaload, 1) := by decide +kernel
theorem dX10_count_70 : decode cX10_count 70 = .ok (.ireturn, 1) := by decide +kernel
theorem dX10_count_71 : decode cX10_count 71 = .ok (.aload_n 0, 1) := by decide +kernel
theorem dX10_count_72 : decode cX10_count 72 = .ok (.getfield 11, 3) := by decide +kernel
theorem dX10_count_75 : decode cX10_count 75 = .ok (.iconst 2, 1) := by decide +kernel
theorem dX10_count_76 : decode cX10_count 76 = .ok (.iaload, 1) := by decide +kernel
theorem dX10_count_77 : decode cX10_count 77 = .ok (.ireturn, 1) := by decide +kernel
theorem dX10_count_78 : decode cX10_count 78 = .ok (.aload_n 0, 1) := by decide +kernel
theorem dX10_count_79 : decode cX10_count 79 = .ok (.iconst 0, 1) := by decide +kernel
theorem dX10_count_80 : decode cX10_count 80 = .ok (.invokevirtual 53, 3) := by decide +kernel
theorem dX10_count_83 : decode cX10_count 83 = .ok (.ireturn, 1) := by decide +kernel
theorem dX10_count_84 : decode cX10_count 84 = .ok (.aload_n 0, 1) := by decide +kernel
theorem dX10_count_85 : decode cX10_count 85 = .ok (.bipush 25, 2) := by decide +kernel
theorem dX10_count_87 : decode cX10_count 87 = .ok (.invokevirtual 53, 3) := by decide +kernel
theorem dX10_count_90 : decode cX10_count 90 = .ok (.ireturn, 1) := by decide +kernel
theorem dX10_count_91 : decode cX10_count 91 = .ok (.aload_n 0, 1) := by decide +kernel
theorem dX10_count_92 : decode cX10_count 92 = .ok (.getfield 11, 3) := by decide +kernel
theorem dX10_count_95 : decode cX10_count 95 = .ok (.bipush 7, 2) := by decide +kernel
theorem dX10_count_97 : decode cX10_count 97 = .ok (.iaload, 1) := by decide +kernel
theorem dX10_count_98 : decode cX10_count 98 = .ok (.ireturn, 1) := by decide +kernel
theorem dX10_count_99 : decode cX10_count 99 = .ok (.aload_n 0, 1) := by decide +kernel
theorem dX10_count_100 : decode cX10_count 100 = .ok (.getfield 11, 3) := by decide +kernel
theorem dX10_count_103 : decode cX10_count 103 = .ok (.iconst 5, 1) := by decide +kernel
theorem dX10_count_104 : decode cX10_count 104 = .ok (.iaload, 1) := by decide +kernel
theorem dX10_count_105 : decode cX10_count 105 = .ok (.ireturn, 1) := by decide +kernel
theorem dX10_count_106 : decode cX10_count 106 = .ok (.aload_n 0, 1) := by decide +kernel
theorem dX10_count_107 : decode cX10_count 107 = .ok (.getfield 11, 3) := by decide +kernel
theorem dX10_count_110 : decode cX10_count 110 = .ok (.bipush 6, 2) := by decide +kernel
theorem dX10_count_112 : decode cX10_count 112 = .ok (.iaload, 1) := by decide +kernel
theorem dX10_count_113 : decode cX10_count 113 = .ok (.ireturn, 1) := by decide +kernel
theorem dX10_count_114 : decode cX10_count 114 = .ok (.aload_n 0, 1) := by decide +kernel
theorem dX10_count_115 : decode cX10_count 115 = .ok (.invokevirtual 249, 3) := by decide +kernel
theorem dX10_activeMany_0 : decode cX10_activeMany 0 = .ok (.iconst 0, 1) := by decide +kernel
theorem dX10_activeMany_1 : decode cX10_activeMany 1 = .ok (.istore_n 1, 1) := by decide +kernel
theorem dX10_activeMany_2 : decode cX10_activeMany 2 = .ok (.iconst 0, 1) := by decide +kernel
theorem dX10_activeMany_3 : decode cX10_activeMany 3 = .ok (.istore_n 2, 1) := by decide +kernel
theorem dX10_activeMany_4 : decode cX10_activeMany 4 = .ok (.iload_n 2, 1) := by decide +kernel
theorem dX10_activeMany_5 : decode cX10_activeMany 5 = .ok (.aload_n 0, 1) := by decide +kernel
theorem dX10_activeMany_6 : decode cX10_activeMany 6 = .ok (.getfield 11, 3) := by decide +kernel
theorem dX10_activeMany_9 : decode cX10_activeMany 9 = .ok (.iconst 2, 1) := by decide +kernel
theorem dX10_activeMany_10 : decode cX10_activeMany 10 = .ok (.iaload, 1) := by decide +kernel
theorem dX10_activeMany_11 : decode cX10_activeMany 11 = .ok (.if_icmp .ge 18, 3) := by decide +kernel
theorem dX10_activeMany_29 : decode cX10_activeMany 29 = .ok (.iload_n 1, 1) := by decide +kernel
theorem dX10_activeMany_30 : decode cX10_activeMany 30 = .ok (.ireturn, 1) := by decide +kernel
theorem dX10_count_118 : decode cX10_count 118 = .ok (.ireturn, 1) := by decide +kernel
theorem dX10_count_119 : decode cX10_count 119 = .ok (.aload_n 0, 1) := by decide +kernel
theorem dX10_count_120 : decode cX10_count 120 = .ok (.getfield 11, 3) := by decide +kernel
theorem dX10_count_123 : decode cX10_count 123 = .ok (.iconst 1, 1) := by decide +kernel
theorem dX10_count_124 : decode cX10_count 124 = .ok (.iaload, 1) := by decide +kernel
theorem dX10_count_125 : decode cX10_count 125 = .ok (.ireturn, 1) := by decide +kernel
theorem dX10_count_126 : decode cX10_count 126 = .ok (.aload_n 0, 1) := by decide +kernel
theorem dX10_count_127 : decode cX10_count 127 = .ok (.getfield 11, 3) := by decide +kernel
theorem dX10_count_130 : decode cX10_count 130 = .ok (.iconst 3, 1) := by decide +kernel
theorem dX10_count_131 : decode cX10_count 131 = .ok (.iaload, 1) := by decide +kernel
theorem dX10_count_132 : decode cX10_count 132 = .ok (.ireturn, 1) := by decide +kernel
theorem dX10_count_133 : decode cX10_count 133 = .ok (.aload_n 0, 1) := by decide +kernel
theorem dX10_count_134 : decode cX10_count 134 = .ok (.getfield 11, 3) := by decide +kernel
theorem dX10_count_137 : decode cX10_count 137 = .ok (.iconst 4, 1) := by decide +kernel
theorem dX10_count_138 : decode cX10_count 138 = .ok (.iaload, 1) := by decide +kernel
theorem dX10_count_139 : decode cX10_count 139 = .ok (.ireturn, 1) := by decide +kernel
theorem dX10_count_140 : decode cX10_count 140 = .ok (.bipush 32, 2) := by decide +kernel
theorem dX10_count_142 : decode cX10_count 142 = .ok (.aload_n 0, 1) := by decide +kernel
theorem dX10_count_143 : decode cX10_count 143 = .ok (.getfield 11, 3) := by decide +kernel
theorem dX10_count_146 : decode cX10_count 146 = .ok (.bipush 8, 2) := by decide +kernel
theorem dX10_count_148 : decode cX10_count 148 = .ok (.iaload, 1) := by decide +kernel
theorem dX10_count_149 : decode cX10_count 149 = .ok (.invokestatic 107, 3) := by decide +kernel
theorem dX10_count_152 : decode cX10_count 152 = .ok (.ireturn, 1) := by decide +kernel
theorem dX10_count_153 : decode cX10_count 153 = .ok (.iconst (-1), 1) := by decide +kernel
theorem dX10_count_154 : decode cX10_count 154 = .ok (.ireturn, 1) := by decide +kernel
