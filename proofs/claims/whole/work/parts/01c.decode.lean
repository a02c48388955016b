theorem dX4_init_71 : decode cX4_init 71 = .ok (.getfield 19, 3) := by decide +kernel
theorem dX4_init_74 : decode cX4_init 74 = .ok (.iload_n 1, 1) := by decide +kernel
theorem dX4_init_75 : decode cX4_init 75 = .ok (.new 7, 3) := by decide +kernel
theorem dX4_init_78 : decode cX4_init 78 = .ok (.dup, 1) := by decide +kernel
theorem dX4_init_79 : decode cX4_init 79 = .ok (.invokespecial 9, 3) := by decide +kernel
theorem dX4_init_82 : decode cX4_init 82 = .ok (.aastore, 1) := by decide +kernel
theorem dX4_init_83 : decode cX4_init 83 = .ok (.iinc 1 1, 3) := by decide +kernel
theorem dX4_init_86 : decode cX4_init 86 = .ok (.goto (-21), 3) := by decide +kernel
theorem dX4_init_89 : decode cX4_init 89 = .ok (.return_, 1) := by decide +kernel
theorem dX4_set_0 : decode cX4_set 0 = .ok (.aload_n 0, 1) := by decide +kernel
theorem dX4_set_1 : decode cX4_set 1 = .ok (.getfield 30, 3) := by decide +kernel
theorem dX4_set_4 : decode cX4_set 4 = .ok (.aload_n 0, 1) := by decide +kernel
theorem dX4_set_5 : decode cX4_set 5 = .ok (.getfield 10, 3) := by decide +kernel
theorem dX4_set_8 : decode cX4_set 8 = .ok (.invokevirtual 41, 3) := by decide +kernel
theorem dX4_set_11 : decode cX4_set 11 = .ok (.aload_n 0, 1) := by decide +kernel
theorem dX4_set_12 : decode cX4_set 12 = .ok (.getfield 30, 3) := by decide +kernel
theorem dX4_set_15 : decode cX4_set 15 = .ok (.aload_n 0, 1) := by decide +kernel
theorem dX4_set_16 : decode cX4_set 16 = .ok (.getfield 10, 3) := by decide +kernel
theorem dX4_set_19 : decode cX4_set 19 = .ok (.iload_n 1, 1) := by decide +kernel
theorem dX4_set_20 : decode cX4_set 20 = .ok (.iload_n 2, 1) := by decide +kernel
theorem dX4_set_21 : decode cX4_set 21 = .ok (.invokevirtual 45, 3) := by decide +kernel
theorem dX4_set_24 : decode cX4_set 24 = .ok (.invokevirtual 49, 3) := by decide +kernel
theorem dX4_set_27 : decode cX4_set 27 = .ok (.ireturn, 1) := by decide +kernel
theorem dX4_bounds_0 : decode cX4_bounds 0 = .ok (.aload_n 0, 1) := by decide +kernel
theorem dX4_bounds_1 : decode cX4_bounds 1 = .ok (.getfield 30, 3) := by decide +kernel
theorem dX4_bounds_4 : decode cX4_bounds 4 = .ok (.aload_n 0, 1) := by decide +kernel
theorem dX4_bounds_5 : decode cX4_bounds 5 = .ok (.getfield 10, 3) := by decide +kernel
theorem dX4_bounds_8 : decode cX4_bounds 8 = .ok (.invokevirtual 41, 3) := by decide +kernel
theorem dX4_bounds_11 : decode cX4_bounds 11 = .ok (.aload_n 0, 1) := by decide +kernel
theorem dX4_bounds_12 : decode cX4_bounds 12 = .ok (.getfield 30, 3) := by decide +kernel
theorem dX4_bounds_15 : decode cX4_bounds 15 = .ok (.aload_n 0, 1) := by decide +kernel
theorem dX4_bounds_16 : decode cX4_bounds 16 = .ok (.getfield 10, 3) := by decide +kernel
theorem dX4_bounds_19 : decode cX4_bounds 19 = .ok (.iload_n 1, 1) := by decide +kernel
theorem dX4_bounds_20 : decode cX4_bounds 20 = .ok (.iload_n 2, 1) := by decide +kernel
theorem dX4_bounds_21 : decode cX4_bounds 21 = .ok (.iload_n 3, 1) := by decide +kernel
theorem dX4_bounds_22 : decode cX4_bounds 22 = .ok (.invokevirtual 53, 3) := by decide +kernel
theorem dX4_bounds_25 : decode cX4_bounds 25 = .ok (.invokevirtual 49, 3) := by decide +kernel
theorem dX4_bounds_28 : decode cX4_bounds 28 = .ok (.ireturn, 1) := by decide +kernel
theorem dX4_come_0 : decode cX4_come 0 = .ok (.aload_n 0, 1) := by decide +kernel
theorem dX4_come_1 : decode cX4_come 1 = .ok (.getfield 30, 3) := by decide +kernel
theorem dX4_come_4 : decode cX4_come 4 = .ok (.aload_n 0, 1) := by decide +kernel
theorem dX4_come_5 : decode cX4_come 5 = .ok (.getfield 10, 3) := by decide +kernel
theorem dX4_come_8 : decode cX4_come 8 = .ok (.invokevirtual 41, 3) := by decide +kernel
theorem dX4_come_11 : decode cX4_come 11 = .ok (.aload_n 0, 1) := by decide +kernel
theorem dX4_come_12 : decode cX4_come 12 = .ok (.getfield 30, 3) := by decide +kernel
theorem dX4_come_15 : decode cX4_come 15 = .ok (.aload_n 0, 1) := by decide +kernel
theorem dX4_come_16 : decode cX4_come 16 = .ok (.getfield 10, 3) := by decide +kernel
theorem dX4_come_19 : decode cX4_come 19 = .ok (.iload_n 1, 1) := by decide +kernel
theorem dX4_come_20 : decode cX4_come 20 = .ok (.invokevirtual 57, 3) := by decide +kernel
theorem dX4_come_23 : decode cX4_come 23 = .ok (.invokevirtual 49, 3) := by decide +kernel
theorem dX4_come_26 : decode cX4_come 26 = .ok (.ireturn, 1) := by decide +kernel
theorem dX4_mask_0 : decode cX4_mask 0 = .ok (.aload_n 0, 1) := by decide +kernel
theorem dX4_mask_1 : decode cX4_mask 1 = .ok (.getfield 30, 3) := by decide +kernel
theorem dX4_mask_4 : decode cX4_mask 4 = .ok (.aload_n 0, 1) := by decide +kernel
theorem dX4_mask_5 : decode cX4_mask 5 = .ok (.getfield 10, 3) := by decide +kernel
theorem dX4_mask_8 : decode cX4_mask 8 = .ok (.invokevirtual 41, 3) := by decide +kernel
theorem dX4_mask_11 : decode cX4_mask 11 = .ok (.aload_n 0, 1) := by decide +kernel
theorem dX4_mask_12 : decode cX4_mask 12 = .ok (.getfield 30, 3) := by decide +kernel
theorem dX4_mask_15 : decode cX4_mask 15 = .ok (.aload_n 0, 1) := by decide +kernel
theorem dX4_mask_16 : decode cX4_mask 16 = .ok (.getfield 10, 3) := by decide +kernel
theorem dX4_mask_19 : decode cX4_mask 19 = .ok (.iload_n 1, 1) := by decide +kernel
theorem dX4_mask_20 : decode cX4_mask 20 = .ok (.invokevirtual 60, 3) := by decide +kernel
theorem dX4_mask_23 : decode cX4_mask 23 = .ok (.invokevirtual 49, 3) := by decide +kernel
theorem dX4_mask_26 : decode cX4_mask 26 = .ok (.ireturn, 1) := by decide +kernel
theorem dX4_call_0 : decode cX4_call 0 = .ok (.aload_n 0, 1) := by decide +kernel
theorem dX4_call_1 : decode cX4_call 1 = .ok (.getfield 30, 3) := by decide +kernel
theorem dX4_call_4 : decode cX4_call 4 = .ok (.aload_n 0, 1) := by decide +kernel
theorem dX4_call_5 : decode cX4_call 5 = .ok (.getfield 10, 3) := by decide +kernel
theorem dX4_call_8 : decode cX4_call 8 = .ok (.invokevirtual 41, 3) := by decide +kernel
theorem dX4_call_11 : decode cX4_call 11 = .ok (.aload_n 0, 1) := by decide +kernel
theorem dX4_call_12 : decode cX4_call 12 = .ok (.getfield 30, 3) := by decide +kernel
theorem dX4_call_15 : decode cX4_call 15 = .ok (.aload_n 0, 1) := by decide +kernel
theorem dX4_call_16 : decode cX4_call 16 = .ok (.getfield 10, 3) := by decide +kernel
theorem dX4_call_19 : decode cX4_call 19 = .ok (.iload_n 1, 1) := by decide +kernel
theorem dX4_call_20 : decode cX4_call 20 = .ok (.invokevirtual 63, 3) := by decide +kernel
theorem dX4_call_23 : decode cX4_call 23 = .ok (.invokevirtual 49, 3) := by decide +kernel
theorem dX4_call_26 : decode cX4_call 26 = .ok (.ireturn, 1) := by decide +kernel
theorem dX4_pass_0 : decode cX4_pass 0 = .ok (.aload_n 0, 1) := by decide +kernel
theorem dX4_pass_1 : decode cX4_pass 1 = .ok (.getfield 30, 3) := by decide +kernel
theorem dX4_pass_4 : decode cX4_pass 4 = .ok (.aload_n 0, 1) := by decide +kernel
theorem dX4_pass_5 : decode cX4_pass 5 = .ok (.getfield 10, 3) := by decide +kernel
theorem dX4_pass_8 : decode cX4_pass 8 = .ok (.invokevirtual 41, 3) := by decide +kernel
theorem dX4_pass_11 : decode cX4_pass 11 = .ok (.aload_n 0, 1) := by decide +kernel
theorem dX4_pass_12 : decode cX4_pass 12 = .ok (.getfield 30, 3) := by decide +kernel
theorem dX4_pass_15 : decode cX4_pass 15 = .ok (.aload_n 0, 1) := by decide +kernel
theorem dX4_pass_16 : decode cX4_pass 16 = .ok (.getfield 10, 3) := by decide +kernel
theorem dX4_pass_19 : decode cX4_pass 19 = .ok (.iload_n 1, 1) := by decide +kernel
theorem dX4_pass_20 : decode cX4_pass 20 = .ok (.invokevirtual 66, 3) := by decide +kernel
theorem dX4_pass_23 : decode cX4_pass 23 = .ok (.invokevirtual 49, 3) := by decide +kernel
theorem dX4_pass_26 : decode cX4_pass 26 = .ok (.ireturn, 1) := by decide +kernel
theorem dX4_of_0 : decode cX4_of 0 = .ok (.iload_n 1, 1) := by decide +kernel
theorem dX4_of_1 : decode cX4_of 1 = .ok (.invokestatic 69, 3) := by decide +kernel
theorem dX4_of_4 : decode cX4_of 4 = .ok (.ifCond .ne 5, 3) := by decide +kernel
theorem dX4_of_7 : decode cX4_of 7 = .ok (.iconst (-1), 1) := by decide +kernel
theorem dX4_of_8 : decode cX4_of 8 = .ok (.ireturn, 1) := by decide +kernel
theorem dX4_of_9 : decode cX4_of 9 = .ok (.aload_n 0, 1) := by decide +kernel
theorem dX4_of_10 : decode cX4_of 10 = .ok (.getfield 10, 3) := by decide +kernel
theorem dX4_of_13 : decode cX4_of 13 = .ok (.getfield 73, 3) := by decide +kernel
theorem dX4_of_16 : decode cX4_of 16 = .ok (.iload_n 1, 1) := by decide +kernel
theorem dX4_of_17 : decode cX4_of 17 = .ok (.aaload, 1) := by decide +kernel
theorem dX4_of_18 : decode cX4_of 18 = .ok (.iload_n 2, 1) := by decide +kernel
theorem dX4_of_19 : decode cX4_of 19 = .ok (.invokevirtual 77, 3) := by decide +kernel
theorem dX4_of_22 : decode cX4_of 22 = .ok (.ireturn, 1) := by decide +kernel
theorem dX4_frame_0 : decode cX4_frame 0 = .ok (.aload_n 0, 1) := by decide +kernel
theorem dX4_frame_1 : decode cX4_frame 1 = .ok (.getfield 10, 3) := by decide +kernel
theorem dX4_frame_4 : decode cX4_frame 4 = .ok (.iload_n 1, 1) := by decide +kernel
theorem dX4_frame_5 : decode cX4_frame 5 = .ok (.invokevirtual 82, 3) := by decide +kernel
theorem dX4_frame_8 : decode cX4_frame 8 = .ok (.ifCond .ne 5, 3) := by decide +kernel
theorem dX4_frame_11 : decode cX4_frame 11 = .ok (.iconst (-1), 1) := by decide +kernel
theorem dX4_frame_12 : decode cX4_frame 12 = .ok (.ireturn, 1) := by decide +kernel
theorem dX4_frame_13 : decode cX4_frame 13 = .ok (.aload_n 0, 1) := by decide +kernel
theorem dX4_frame_14 : decode cX4_frame 14 = .ok (.getfield 10, 3) := by decide +kernel
theorem dX4_frame_17 : decode cX4_frame 17 = .ok (.iload_n 1, 1) := by decide +kernel
theorem dX4_frame_18 : decode cX4_frame 18 = .ok (.iload_n 2, 1) := by decide +kernel
theorem dX4_frame_19 : decode cX4_frame 19 = .ok (.invokevirtual 85, 3) := by decide +kernel
theorem dX4_frame_22 : decode cX4_frame 22 = .ok (.ireturn, 1) := by decide +kernel
theorem dX4_row_0 : decode cX4_row 0 = .ok (.iload_n 1, 1) := by decide +kernel
theorem dX4_row_1 : decode cX4_row 1 = .ok (.ifCond .ge 5, 3) := by decide +kernel
theorem dX4_row_4 : decode cX4_row 4 = .ok (.iconst (-1), 1) := by decide +kernel
theorem dX4_row_5 : decode cX4_row 5 = .ok (.ireturn, 1) := by decide +kernel
theorem dX4_row_6 : decode cX4_row 6 = .ok (.aload_n 0, 1) := by decide +kernel
theorem dX4_row_7 : decode cX4_row 7 = .ok (.getfield 10, 3) := by decide +kernel
theorem dX4_row_10 : decode cX4_row 10 = .ok (.iload_n 1, 1) := by decide +kernel
theorem dX4_row_11 : decode cX4_row 11 = .ok (.invokevirtual 88, 3) := by decide +kernel
theorem dX4_row_14 : decode cX4_row 14 = .ok (.ireturn, 1) := by decide +kernel
theorem dX4_count_0 : decode cX4_count 0 = .ok (.iload_n 1, 1) := by decide +kernel
theorem dX4_count_1 : decode cX4_count 1 = .ok (.tableswitch 186 0 12 #[67, 75, 83, 92, 102, 112, 122, 130, 140, 150, 160, 170, 178], 67) := by decide +kernel
theorem dX4_count_68 : decode cX4_count 68 = .ok (.aload_n 0, 1) := by decide +kernel
theorem dX4_count_69 : decode cX4_count 69 = .ok (.getfield 10, 3) := by decide +kernel
theorem dX4_count_72 : decode cX4_count 72 = .ok (.getfield 91, 3) := by decide +kernel
theorem dX4_count_75 : decode cX4_count 75 = .ok (.ireturn, 1) := by decide +kernel
theorem dX4_count_76 : decode cX4_count 76 = .ok (.aload_n 0, 1) := by decide +kernel
theorem dX4_count_77 : decode cX4_count 77 = .ok (.getfield 10, 3) := by decide +kernel
theorem dX4_count_80 : decode cX4_count 80 = .ok (.getfield 95, 3) := by decide +kernel
theorem dX4_count_83 : decode cX4_count 83 = .ok (.ireturn, 1) := by decide +kernel
theorem dX4_count_84 : decode cX4_count 84 = .ok (.aload_n 0, 1) := by decide +kernel
theorem dX4_count_85 : decode cX4_count 85 = .ok (.getfield 10, 3) := by decide +kernel
theorem dX4_count_88 : decode cX4_count 88 = .ok (.iconst 3, 1) := by decide +kernel
theorem dX4_count_89 : decode cX4_count 89 = .ok (.invokevirtual 98, 3) := by decide +kernel
theorem dX4_count_92 : decode cX4_count 92 = .ok (.ireturn, 1) := by decide +kernel
theorem dX4_count_93 : decode cX4_count 93 = .ok (.aload_n 0, 1) := by decide +kernel
theorem dX4_count_94 : decode cX4_count 94 = .ok (.getfield 10, 3) := by decide +kernel
theorem dX4_count_97 : decode cX4_count 97 = .ok (.bipush 7, 2) := by decide +kernel
theorem dX4_count_99 : decode cX4_count 99 = .ok (.invokevirtual 98, 3) := by decide +kernel
theorem dX4_count_102 : decode cX4_count 102 = .ok (.ireturn, 1) := by decide +kernel
theorem dX4_count_103 : decode cX4_count 103 = .ok (.aload_n 0, 1) := by decide +kernel
theorem dX4_count_104 : decode cX4_count 104 = .ok (.getfield 10, 3) := by decide +kernel
theorem dX4_count_107 : decode cX4_count 107 = .ok (.bipush 8, 2) := by decide +kernel
theorem dX4_count_109 : decode cX4_count 109 = .ok (.invokevirtual 98, 3) := by decide +kernel
theorem dX4_count_112 : decode cX4_count 112 = .ok (.ireturn, 1) := by decide +kernel
theorem dX4_count_113 : decode cX4_count 113 = .ok (.aload_n 0, 1) := by decide +kernel
theorem dX4_count_114 : decode cX4_count 114 = .ok (.getfield 10, 3) := by decide +kernel
theorem dX4_count_117 : decode cX4_count 117 = .ok (.bipush 6, 2) := by decide +kernel
theorem dX4_count_119 : decode cX4_count 119 = .ok (.invokevirtual 98, 3) := by decide +kernel
theorem dX4_count_122 : decode cX4_count 122 = .ok (.ireturn, 1) := by decide +kernel
theorem dX4_count_123 : decode cX4_count 123 = .ok (.aload_n 0, 1) := by decide +kernel
theorem dX4_count_124 : decode cX4_count 124 = .ok (.getfield 10, 3) := by decide +kernel
theorem dX4_count_127 : decode cX4_count 127 = .ok (.invokevirtual 101, 3) := by decide +kernel
theorem dX4_count_130 : decode cX4_count 130 = .ok (.ireturn, 1) := by decide +kernel
theorem dX4_count_131 : decode cX4_count 131 = .ok (.aload_n 0, 1) := by decide +kernel
theorem dX4_count_132 : decode cX4_count 132 = .ok (.getfield 10, 3) := by decide +kernel
theorem dX4_count_135 : decode cX4_count 135 = .ok (.getfield 105, 3) := by decide +kernel
theorem dX4_count_138 : decode cX4_count 138 = .ok (.iconst 0, 1) := by decide +kernel
theorem dX4_count_139 : decode cX4_count 139 = .ok (.iaload, 1) := by decide +kernel
theorem dX4_count_140 : decode cX4_count 140 = .ok (.ireturn, 1) := by decide +kernel
theorem dX4_count_141 : decode cX4_count 141 = .ok (.aload_n 0, 1) := by decide +kernel
theorem dX4_count_142 : decode cX4_count 142 = .ok (.getfield 10, 3) := by decide +kernel
theorem dX4_count_145 : decode cX4_count 145 = .ok (.getfield 105, 3) := by decide +kernel
theorem dX4_count_148 : decode cX4_count 148 = .ok (.iconst 1, 1) := by decide +kernel
theorem dX4_count_149 : decode cX4_count 149 = .ok (.iaload, 1) := by decide +kernel
theorem dX4_count_150 : decode cX4_count 150 = .ok (.ireturn, 1) := by decide +kernel
theorem dX4_count_151 : decode cX4_count 151 = .ok (.aload_n 0, 1) := by decide +kernel
theorem dX4_count_152 : decode cX4_count 152 = .ok (.getfield 10, 3) := by decide +kernel
theorem dX4_count_155 : decode cX4_count 155 = .ok (.getfield 105, 3) := by decide +kernel
theorem dX4_count_158 : decode cX4_count 158 = .ok (.iconst 2, 1) := by decide +kernel
theorem dX4_count_159 : decode cX4_count 159 = .ok (.iaload, 1) := by decide +kernel
theorem dX4_count_160 : decode cX4_count 160 = .ok (.ireturn, 1) := by decide +kernel
theorem dX4_count_161 : decode cX4_count 161 = .ok (.aload_n 0, 1) := by decide +kernel
theorem dX4_count_162 : decode cX4_count 162 = .ok (.getfield 10, 3) := by decide +kernel
theorem dX4_count_165 : decode cX4_count 165 = .ok (.getfield 105, 3) := by decide +kernel
theorem dX4_count_168 : decode cX4_count 168 = .ok (.iconst 3, 1) := by decide +kernel
theorem dX4_count_169 : decode cX4_count 169 = .ok (.iaload, 1) := by decide +kernel
theorem dX4_count_170 : decode cX4_count 170 = .ok (.ireturn, 1) := by decide +kernel
theorem dX4_count_171 : decode cX4_count 171 = .ok (.aload_n 0, 1) := by decide +kernel
theorem dX4_count_172 : decode cX4_count 172 = .ok (.getfield 37, 3) := by decide +kernel
theorem dX4_count_175 : decode cX4_count 175 = .ok (.getfield 109, 3) := by decide +kernel
theorem dX4_count_178 : decode cX4_count 178 = .ok (.ireturn, 1) := by decide +kernel
theorem dX4_count_179 : decode cX4_count 179 = .ok (.aload_n 0, 1) := by decide +kernel
theorem dX4_count_180 : decode cX4_count 180 = .ok (.getfield 30, 3) := by decide +kernel
theorem dX4_count_183 : decode cX4_count 183 = .ok (.getfield 112, 3) := by decide +kernel
theorem dX4_count_186 : decode cX4_count 186 = .ok (.ireturn, 1) := by decide +kernel
theorem dX4_count_187 : decode cX4_count 187 = .ok (.bipush (-2), 2) := by decide +kernel
theorem dX4_count_189 : decode cX4_count 189 = .ok (.ireturn, 1) := by decide +kernel
theorem dX4_why_0 : decode cX4_why 0 = .ok (.iload_n 1, 1) := by decide +kernel
theorem dX4_why_1 : decode cX4_why 1 = .ok (.invokestatic 69, 3) := by decide +kernel
theorem dX4_why_4 : decode cX4_why 4 = .ok (.ifCond .ne 5, 3) := by decide +kernel
theorem dX4_why_7 : decode cX4_why 7 = .ok (.iconst (-1), 1) := by decide +kernel
theorem dX4_why_8 : decode cX4_why 8 = .ok (.ireturn, 1) := by decide +kernel
theorem dX4_why_9 : decode cX4_why 9 = .ok (.aload_n 0, 1) := by decide +kernel
theorem dX4_why_10 : decode cX4_why 10 = .ok (.getfield 10, 3) := by decide +kernel
theorem dX4_why_13 : decode cX4_why 13 = .ok (.aload_n 0, 1) := by decide +kernel
theorem dX4_why_14 : decode cX4_why 14 = .ok (.getfield 10, 3) := by decide +kernel
theorem dX4_why_17 : decode cX4_why 17 = .ok (.getfield 73, 3) := by decide +kernel
theorem dX4_why_20 : decode cX4_why 20 = .ok (.iload_n 1, 1) := by decide +kernel
theorem dX4_why_21 : decode cX4_why 21 = .ok (.aaload, 1) := by decide +kernel
theorem dX4_why_22 : decode cX4_why 22 = .ok (.invokevirtual 115, 3) := by decide +kernel
theorem dX4_why_25 : decode cX4_why 25 = .ok (.ireturn, 1) := by decide +kernel
theorem dX4_takenIn_0 : decode cX4_takenIn 0 = .ok (.aload_n 0, 1) := by decide +kernel
theorem dX4_takenIn_1 : decode cX4_takenIn 1 = .ok (.getfield 10, 3) := by decide +kernel
theorem dX4_takenIn_4 : decode cX4_takenIn 4 = .ok (.iload_n 1, 1) := by decide +kernel
theorem dX4_takenIn_5 : decode cX4_takenIn 5 = .ok (.invokevirtual 82, 3) := by decide +kernel
theorem dX4_takenIn_8 : decode cX4_takenIn 8 = .ok (.ifCond .ne 5, 3) := by decide +kernel
theorem dX4_takenIn_11 : decode cX4_takenIn 11 = .ok (.iconst (-1), 1) := by decide +kernel
theorem dX4_takenIn_12 : decode cX4_takenIn 12 = .ok (.ireturn, 1) := by decide +kernel
theorem dX4_takenIn_13 : decode cX4_takenIn 13 = .ok (.aload_n 0, 1) := by decide +kernel
theorem dX4_takenIn_14 : decode cX4_takenIn 14 = .ok (.getfield 10, 3) := by decide +kernel
theorem dX4_takenIn_17 : decode cX4_takenIn 17 = .ok (.getfield 119, 3) := by decide +kernel
theorem dX4_takenIn_20 : decode cX4_takenIn 20 = .ok (.iload_n 1, 1) := by decide +kernel
theorem dX4_takenIn_21 : decode cX4_takenIn 21 = .ok (.iaload, 1) := by decide +kernel
theorem dX4_takenIn_22 : decode cX4_takenIn 22 = .ok (.ifCond .eq 6, 3) := by decide +kernel
theorem dX4_takenIn_25 : decode cX4_takenIn 25 = .ok (.bipush (-5), 2) := by decide +kernel
theorem dX4_takenIn_27 : decode cX4_takenIn 27 = .ok (.ireturn, 1) := by decide +kernel
theorem dX4_takenIn_28 : decode cX4_takenIn 28 = .ok (.aload_n 0, 1) := by decide +kernel
theorem dX4_takenIn_29 : decode cX4_takenIn 29 = .ok (.getfield 16, 3) := by decide +kernel
theorem dX4_takenIn_32 : decode cX4_takenIn 32 = .ok (.aload_n 0, 1) := by decide +kernel
theorem dX4_takenIn_33 : decode cX4_takenIn 33 = .ok (.getfield 10, 3) := by decide +kernel
theorem dX4_takenIn_36 : decode cX4_takenIn 36 = .ok (.invokevirtual 122, 3) := by decide +kernel
theorem dX4_takenIn_39 : decode cX4_takenIn 39 = .ok (.iconst 1, 1) := by decide +kernel
theorem dX4_takenIn_40 : decode cX4_takenIn 40 = .ok (.istore_n 2, 1) := by decide +kernel
theorem dX4_takenIn_41 : decode cX4_takenIn 41 = .ok (.iload_n 2, 1) := by decide +kernel
theorem dX4_takenIn_42 : decode cX4_takenIn 42 = .ok (.sipush 500, 3) := by decide +kernel
theorem dX4_takenIn_45 : decode cX4_takenIn 45 = .ok (.if_icmp .gt 32, 3) := by decide +kernel
theorem dX4_takenIn_48 : decode cX4_takenIn 48 = .ok (.aload_n 0, 1) := by decide +kernel
theorem dX4_takenIn_49 : decode cX4_takenIn 49 = .ok (.getfield 16, 3) := by decide +kernel
theorem dX4_takenIn_52 : decode cX4_takenIn 52 = .ok (.invokevirtual 125, 3) := by decide +kernel
theorem dX4_takenIn_55 : decode cX4_takenIn 55 = .ok (.pop, 1) := by decide +kernel
theorem dX4_takenIn_56 : decode cX4_takenIn 56 = .ok (.aload_n 0, 1) := by decide +kernel
theorem dX4_takenIn_57 : decode cX4_takenIn 57 = .ok (.getfield 16, 3) := by decide +kernel
theorem dX4_takenIn_60 : decode cX4_takenIn 60 = .ok (.getfield 119, 3) := by decide +kernel
theorem dX4_takenIn_63 : decode cX4_takenIn 63 = .ok (.iload_n 1, 1) := by decide +kernel
theorem dX4_takenIn_64 : decode cX4_takenIn 64 = .ok (.iaload, 1) := by decide +kernel
theorem dX4_takenIn_65 : decode cX4_takenIn 65 = .ok (.iconst 1, 1) := by decide +kernel
theorem dX4_takenIn_66 : decode cX4_takenIn 66 = .ok (.if_icmp .ne 5, 3) := by decide +kernel
theorem dX4_takenIn_69 : decode cX4_takenIn 69 = .ok (.iload_n 2, 1) := by decide +kernel
theorem dX4_takenIn_70 : decode cX4_takenIn 70 = .ok (.ireturn, 1) := by decide +kernel
theorem dX4_takenIn_71 : decode cX4_takenIn 71 = .ok (.iinc 2 1, 3) := by decide +kernel
theorem dX4_takenIn_74 : decode cX4_takenIn 74 = .ok (.goto (-33), 3) := by decide +kernel
theorem dX4_takenIn_77 : decode cX4_takenIn 77 = .ok (.bipush (-6), 2) := by decide +kernel
theorem dX4_takenIn_79 : decode cX4_takenIn 79 = .ok (.ireturn, 1) := by decide +kernel
theorem dX4_would_0 : decode cX4_would 0 = .ok (.iload_n 1, 1) := by decide +kernel
theorem dX4_would_1 : decode cX4_would 1 = .ok (.iconst 1, 1) := by decide +kernel
theorem dX4_would_2 : decode cX4_would 2 = .ok (.if_icmp .lt 18, 3) := by decide +kernel
theorem dX4_would_5 : decode cX4_would 5 = .ok (.iload_n 1, 1) := by decide +kernel
theorem dX4_would_6 : decode cX4_would 6 = .ok (.bipush 99, 2) := by decide +kernel
theorem dX4_would_8 : decode cX4_would 8 = .ok (.if_icmp .gt 12, 3) := by decide +kernel
theorem dX4_would_11 : decode cX4_would 11 = .ok (.iload_n 2, 1) := by decide +kernel
theorem dX4_would_12 : decode cX4_would 12 = .ok (.ifCond .lt 8, 3) := by decide +kernel
theorem dX4_would_15 : decode cX4_would 15 = .ok (.iload_n 2, 1) := by decide +kernel
theorem dX4_would_16 : decode cX4_would 16 = .ok (.iconst 3, 1) := by decide +kernel
theorem dX4_would_17 : decode cX4_would 17 = .ok (.if_icmp .le 6, 3) := by decide +kernel
theorem dX4_would_20 : decode cX4_would 20 = .ok (.bipush (-2), 2) := by decide +kernel
theorem dX4_would_22 : decode cX4_would 22 = .ok (.ireturn, 1) := by decide +kernel
theorem dX4_would_23 : decode cX4_would 23 = .ok (.aload_n 0, 1) := by decide +kernel
theorem dX4_would_24 : decode cX4_would 24 = .ok (.getfield 16, 3) := by decide +kernel
theorem dX4_would_27 : decode cX4_would 27 = .ok (.aload_n 0, 1) := by decide +kernel
theorem dX4_would_28 : decode cX4_would 28 = .ok (.getfield 10, 3) := by decide +kernel
theorem dX4_would_31 : decode cX4_would 31 = .ok (.invokevirtual 122, 3) := by decide +kernel
theorem dX4_would_34 : decode cX4_would 34 = .ok (.aload_n 0, 1) := by decide +kernel
theorem dX4_would_35 : decode cX4_would 35 = .ok (.getfield 16, 3) := by decide +kernel
theorem dX4_would_38 : decode cX4_would 38 = .ok (.iload_n 1, 1) := by decide +kernel
theorem dX4_would_39 : decode cX4_would 39 = .ok (.invokevirtual 128, 3) := by decide +kernel
theorem dX4_would_42 : decode cX4_would 42 = .ok (.pop, 1) := by decide +kernel
theorem dX4_would_43 : decode cX4_would 43 = .ok (.iload_n 2, 1) := by decide +kernel
theorem dX4_would_44 : decode cX4_would 44 = .ok (.tableswitch 88 0 2 #[28, 48, 68], 28) := by decide +kernel
theorem dX4_would_72 : decode cX4_would 72 = .ok (.aload_n 0, 1) := by decide +kernel
theorem dX4_would_73 : decode cX4_would 73 = .ok (.getfield 16, 3) := by decide +kernel
theorem dX4_would_76 : decode cX4_would 76 = .ok (.bipush 7, 2) := by decide +kernel
theorem dX4_would_78 : decode cX4_would 78 = .ok (.invokevirtual 98, 3) := by decide +kernel
theorem dX4_would_81 : decode cX4_would 81 = .ok (.aload_n 0, 1) := by decide +kernel
theorem dX4_would_82 : decode cX4_would 82 = .ok (.getfield 10, 3) := by decide +kernel
theorem dX4_would_85 : decode cX4_would 85 = .ok (.bipush 7, 2) := by decide +kernel
theorem dX4_would_87 : decode cX4_would 87 = .ok (.invokevirtual 98, 3) := by decide +kernel
theorem dX4_would_90 : decode cX4_would 90 = .ok (.isub, 1) := by decide +kernel
theorem dX4_would_91 : decode cX4_would 91 = .ok (.ireturn, 1) := by decide +kernel
theorem dX4_would_92 : decode cX4_would 92 = .ok (.aload_n 0, 1) := by decide +kernel
theorem dX4_would_93 : decode cX4_would 93 = .ok (.getfield 16, 3) := by decide +kernel
theorem dX4_would_96 : decode cX4_would 96 = .ok (.bipush 6, 2) := by decide +kernel
theorem dX4_would_98 : decode cX4_would 98 = .ok (.invokevirtual 98, 3) := by decide +kernel
theorem dX4_would_101 : decode cX4_would 101 = .ok (.aload_n 0, 1) := by decide +kernel
theorem dX4_would_102 : decode cX4_would 102 = .ok (.getfield 10, 3) := by decide +kernel
theorem dX4_would_105 : decode cX4_would 105 = .ok (.bipush 6, 2) := by decide +kernel
theorem dX4_would_107 : decode cX4_would 107 = .ok (.invokevirtual 98, 3) := by decide +kernel
theorem dX4_would_110 : decode cX4_would 110 = .ok (.isub, 1) := by decide +kernel
theorem dX4_would_111 : decode cX4_would 111 = .ok (.ireturn, 1) := by decide +kernel
theorem dX4_would_112 : decode cX4_would 112 = .ok (.aload_n 0, 1) := by decide +kernel
theorem dX4_would_113 : decode cX4_would 113 = .ok (.getfield 16, 3) := by decide +kernel
theorem dX4_would_116 : decode cX4_would 116 = .ok (.bipush 9, 2) := by decide +kernel
theorem dX4_would_118 : decode cX4_would 118 = .ok (.invokevirtual 98, 3) := by decide +kernel
theorem dX4_would_121 : decode cX4_would 121 = .ok (.aload_n 0, 1) := by decide +kernel
theorem dX4_would_122 : decode cX4_would 122 = .ok (.getfield 10, 3) := by decide +kernel
theorem dX4_would_125 : decode cX4_would 125 = .ok (.bipush 9, 2) := by decide +kernel
theorem dX4_would_127 : decode cX4_would 127 = .ok (.invokevirtual 98, 3) := by decide +kernel
theorem dX4_would_130 : decode cX4_would 130 = .ok (.isub, 1) := by decide +kernel
theorem dX4_would_131 : decode cX4_would 131 = .ok (.ireturn, 1) := by decide +kernel
theorem dX4_would_132 : decode cX4_would 132 = .ok (.aload_n 0, 1) := by decide +kernel
theorem dX4_would_133 : decode cX4_would 133 = .ok (.getfield 16, 3) := by decide +kernel
theorem dX4_would_136 : decode cX4_would 136 = .ok (.iconst 3, 1) := by decide +kernel
theorem dX4_would_137 : decode cX4_would 137 = .ok (.invokevirtual 98, 3) := by decide +kernel
theorem dX4_would_140 : decode cX4_would 140 = .ok (.ireturn, 1) := by decide +kernel
theorem dX4_bestCount_0 : decode cX4_bestCount 0 = .ok (.iload_n 1, 1) := by decide +kernel
theorem dX4_bestCount_1 : decode cX4_bestCount 1 = .ok (.invokestatic 69, 3) := by decide +kernel
theorem dX4_bestCount_4 : decode cX4_bestCount 4 = .ok (.ifCond .ne 5, 3) := by decide +kernel
theorem dX4_bestCount_7 : decode cX4_bestCount 7 = .ok (.iconst (-1), 1) := by decide +kernel
theorem dX4_bestCount_8 : decode cX4_bestCount 8 = .ok (.ireturn, 1) := by decide +kernel
theorem dX4_bestCount_9 : decode cX4_bestCount 9 = .ok (.iload_n 2, 1) := by decide +kernel
theorem dX4_bestCount_10 : decode cX4_bestCount 10 = .ok (.iconst 1, 1) := by decide +kernel
theorem dX4_bestCount_11 : decode cX4_bestCount 11 = .ok (.if_icmp .lt 18, 3) := by decide +kernel
theorem dX4_bestCount_14 : decode cX4_bestCount 14 = .ok (.iload_n 2, 1) := by decide +kernel
theorem dX4_bestCount_15 : decode cX4_bestCount 15 = .ok (.bipush 20, 2) := by decide +kernel
theorem dX4_bestCount_17 : decode cX4_bestCount 17 = .ok (.if_icmp .gt 12, 3) := by decide +kernel
theorem dX4_bestCount_20 : decode cX4_bestCount 20 = .ok (.iload_n 3, 1) := by decide +kernel
theorem dX4_bestCount_21 : decode cX4_bestCount 21 = .ok (.ifCond .lt 8, 3) := by decide +kernel
theorem dX4_bestCount_24 : decode cX4_bestCount 24 = .ok (.iload_n 3, 1) := by decide +kernel
theorem dX4_bestCount_25 : decode cX4_bestCount 25 = .ok (.iconst 1, 1) := by decide +kernel
theorem dX4_bestCount_26 : decode cX4_bestCount 26 = .ok (.if_icmp .le 6, 3) := by decide +kernel
theorem dX4_bestCount_29 : decode cX4_bestCount 29 = .ok (.bipush (-2), 2) := by decide +kernel
theorem dX4_bestCount_31 : decode cX4_bestCount 31 = .ok (.ireturn, 1) := by decide +kernel
theorem dX4_bestCount_32 : decode cX4_bestCount 32 = .ok (.iconst 1, 1) := by decide +kernel
theorem dX4_bestCount_33 : decode cX4_bestCount 33 = .ok (.istore 4, 2) := by decide +kernel
theorem dX4_bestCount_35 : decode cX4_bestCount 35 = .ok (.aload_n 0, 1) := by decide +kernel
theorem dX4_bestCount_36 : decode cX4_bestCount 36 = .ok (.iload_n 1, 1) := by decide +kernel
theorem dX4_bestCount_37 : decode cX4_bestCount 37 = .ok (.iconst 1, 1) := by decide +kernel
theorem dX4_bestCount_38 : decode cX4_bestCount 38 = .ok (.iload_n 2, 1) := by decide +kernel
theorem dX4_bestCount_39 : decode cX4_bestCount 39 = .ok (.invokevirtual 131, 3) := by decide +kernel
theorem dX4_bestCount_42 : decode cX4_bestCount 42 = .ok (.istore 5, 2) := by decide +kernel
theorem dX4_bestCount_44 : decode cX4_bestCount 44 = .ok (.iconst 2, 1) := by decide +kernel
theorem dX4_bestCount_45 : decode cX4_bestCount 45 = .ok (.istore 6, 2) := by decide +kernel
theorem dX4_bestCount_47 : decode cX4_bestCount 47 = .ok (.iload 6, 2) := by decide +kernel
theorem dX4_bestCount_49 : decode cX4_bestCount 49 = .ok (.bipush 32, 2) := by decide +kernel
theorem dX4_bestCount_51 : decode cX4_bestCount 51 = .ok (.if_icmp .gt 34, 3) := by decide +kernel
theorem dX4_bestCount_54 : decode cX4_bestCount 54 = .ok (.aload_n 0, 1) := by decide +kernel
theorem dX4_bestCount_55 : decode cX4_bestCount 55 = .ok (.iload_n 1, 1) := by decide +kernel
theorem dX4_bestCount_56 : decode cX4_bestCount 56 = .ok (.iload 6, 2) := by decide +kernel
theorem dX4_bestCount_58 : decode cX4_bestCount 58 = .ok (.iload_n 2, 1) := by decide +kernel
theorem dX4_bestCount_59 : decode cX4_bestCount 59 = .ok (.invokevirtual 131, 3) := by decide +kernel
theorem dX4_bestCount_62 : decode cX4_bestCount 62 = .ok (.istore 7, 2) := by decide +kernel
theorem dX4_bestCount_64 : decode cX4_bestCount 64 = .ok (.iload 7, 2) := by decide +kernel
theorem dX4_bestCount_66 : decode cX4_bestCount 66 = .ok (.iload 5, 2) := by decide +kernel
theorem dX4_bestCount_68 : decode cX4_bestCount 68 = .ok (.if_icmp .ge 11, 3) := by decide +kernel
theorem dX4_bestCount_71 : decode cX4_bestCount 71 = .ok (.iload 6, 2) := by decide +kernel
theorem dX4_bestCount_73 : decode cX4_bestCount 73 = .ok (.istore 4, 2) := by decide +kernel
theorem dX4_bestCount_75 : decode cX4_bestCount 75 = .ok (.iload 7, 2) := by decide +kernel
theorem dX4_bestCount_77 : decode cX4_bestCount 77 = .ok (.istore 5, 2) := by decide +kernel
theorem dX4_bestCount_79 : decode cX4_bestCount 79 = .ok (.iinc 6 1, 3) := by decide +kernel
theorem dX4_bestCount_82 : decode cX4_bestCount 82 = .ok (.goto (-35), 3) := by decide +kernel
theorem dX4_bestCount_85 : decode cX4_bestCount 85 = .ok (.iload_n 3, 1) := by decide +kernel
theorem dX4_bestCount_86 : decode cX4_bestCount 86 = .ok (.ifCond .ne 8, 3) := by decide +kernel
theorem dX4_bestCount_89 : decode cX4_bestCount 89 = .ok (.iload 4, 2) := by decide +kernel
theorem dX4_bestCount_91 : decode cX4_bestCount 91 = .ok (.goto 5, 3) := by decide +kernel
theorem dX4_bestCount_94 : decode cX4_bestCount 94 = .ok (.iload 5, 2) := by decide +kernel
theorem dX4_bestCount_96 : decode cX4_bestCount 96 = .ok (.ireturn, 1) := by decide +kernel
theorem dX4_put_0 : decode cX4_put 0 = .ok (.aload_n 0, 1) := by decide +kernel
theorem dX4_put_1 : decode cX4_put 1 = .ok (.getfield 37, 3) := by decide +kernel
theorem dX4_put_4 : decode cX4_put 4 = .ok (.lload_n 1, 1) := by decide +kernel
theorem dX4_put_5 : decode cX4_put 5 = .ok (.invokevirtual 134, 3) := by decide +kernel
theorem dX4_put_8 : decode cX4_put 8 = .ok (.ireturn, 1) := by decide +kernel
theorem dX4_wipe_0 : decode cX4_wipe 0 = .ok (.aload_n 0, 1) := by decide +kernel
theorem dX4_wipe_1 : decode cX4_wipe 1 = .ok (.getfield 37, 3) := by decide +kernel
theorem dX4_wipe_4 : decode cX4_wipe 4 = .ok (.invokevirtual 138, 3) := by decide +kernel
theorem dX4_wipe_7 : decode cX4_wipe 7 = .ok (.ireturn, 1) := by decide +kernel
theorem dX4_fault_0 : decode cX4_fault 0 = .ok (.aload_n 0, 1) := by decide +kernel
theorem dX4_fault_1 : decode cX4_fault 1 = .ok (.getfield 37, 3) := by decide +kernel
theorem dX4_fault_4 : decode cX4_fault 4 = .ok (.invokevirtual 141, 3) := by decide +kernel
theorem dX4_fault_7 : decode cX4_fault 7 = .ok (.ireturn, 1) := by decide +kernel
theorem dX4_carryOut_0 : decode cX4_carryOut 0 = .ok (.aload_n 0, 1) := by decide +kernel
theorem dX4_carryOut_1 : decode cX4_carryOut 1 = .ok (.getfield 37, 3) := by decide +kernel
theorem dX4_carryOut_4 : decode cX4_carryOut 4 = .ok (.invokevirtual 141, 3) := by decide +kernel
theorem dX4_carryOut_7 : decode cX4_carryOut 7 = .ok (.bipush (-6), 2) := by decide +kernel
theorem dX4_carryOut_9 : decode cX4_carryOut 9 = .ok (.if_icmp .eq 6, 3) := by decide +kernel
theorem dX4_carryOut_12 : decode cX4_carryOut 12 = .ok (.bipush (-3), 2) := by decide +kernel
theorem dX4_carryOut_14 : decode cX4_carryOut 14 = .ok (.ireturn, 1) := by decide +kernel
theorem dX4_carryOut_15 : decode cX4_carryOut 15 = .ok (.aload_n 0, 1) := by decide +kernel
theorem dX4_carryOut_16 : decode cX4_carryOut 16 = .ok (.getfield 30, 3) := by decide +kernel
theorem dX4_carryOut_19 : decode cX4_carryOut 19 = .ok (.aload_n 0, 1) := by decide +kernel
theorem dX4_carryOut_20 : decode cX4_carryOut 20 = .ok (.getfield 10, 3) := by decide +kernel
theorem dX4_carryOut_23 : decode cX4_carryOut 23 = .ok (.invokevirtual 41, 3) := by decide +kernel
theorem dX4_carryOut_26 : decode cX4_carryOut 26 = .ok (.iconst 0, 1) := by decide +kernel
theorem dX4_carryOut_27 : decode cX4_carryOut 27 = .ok (.istore_n 1, 1) := by decide +kernel
theorem dX4_carryOut_28 : decode cX4_carryOut 28 = .ok (.iconst 1, 1) := by decide +kernel
theorem dX4_carryOut_29 : decode cX4_carryOut 29 = .ok (.istore_n 2, 1) := by decide +kernel
theorem dX4_carryOut_30 : decode cX4_carryOut 30 = .ok (.aload_n 0, 1) := by decide +kernel
theorem dX4_carryOut_31 : decode cX4_carryOut 31 = .ok (.getfield 37, 3) := by decide +kernel
theorem dX4_carryOut_34 : decode cX4_carryOut 34 = .ok (.invokevirtual 144, 3) := by decide +kernel
theorem dX4_carryOut_37 : decode cX4_carryOut 37 = .ok (.iconst 0, 1) := by decide +kernel
theorem dX4_carryOut_38 : decode cX4_carryOut 38 = .ok (.istore_n 3, 1) := by decide +kernel
theorem dX4_carryOut_39 : decode cX4_carryOut 39 = .ok (.iload_n 3, 1) := by decide +kernel
theorem dX4_carryOut_40 : decode cX4_carryOut 40 = .ok (.bipush 80, 2) := by decide +kernel
theorem dX4_carryOut_42 : decode cX4_carryOut 42 = .ok (.if_icmp .ge 73, 3) := by decide +kernel
theorem dX4_carryOut_45 : decode cX4_carryOut 45 = .ok (.iload_n 2, 1) := by decide +kernel
theorem dX4_carryOut_46 : decode cX4_carryOut 46 = .ok (.ifCond .eq 69, 3) := by decide +kernel
theorem dX4_carryOut_49 : decode cX4_carryOut 49 = .ok (.aload_n 0, 1) := by decide +kernel
theorem dX4_carryOut_50 : decode cX4_carryOut 50 = .ok (.getfield 37, 3) := by decide +kernel
theorem dX4_carryOut_53 : decode cX4_carryOut 53 = .ok (.invokevirtual 147, 3) := by decide +kernel
theorem dX4_carryOut_56 : decode cX4_carryOut 56 = .ok (.ifCond .eq 59, 3) := by decide +kernel
theorem dX4_carryOut_59 : decode cX4_carryOut 59 = .ok (.iconst 0, 1) := by decide +kernel
theorem dX4_carryOut_60 : decode cX4_carryOut 60 = .ok (.istore 4, 2) := by decide +kernel
theorem dX4_carryOut_62 : decode cX4_carryOut 62 = .ok (.iload 4, 2) := by decide +kernel
theorem dX4_carryOut_64 : decode cX4_carryOut 64 = .ok (.aload_n 0, 1) := by decide +kernel
theorem dX4_carryOut_65 : decode cX4_carryOut 65 = .ok (.getfield 37, 3) := by decide +kernel
theorem dX4_carryOut_68 : decode cX4_carryOut 68 = .ok (.getfield 151, 3) := by decide +kernel
theorem dX4_carryOut_71 : decode cX4_carryOut 71 = .ok (.if_icmp .ge 38, 3) := by decide +kernel
theorem dX4_carryOut_74 : decode cX4_carryOut 74 = .ok (.iload_n 2, 1) := by decide +kernel
theorem dX4_carryOut_75 : decode cX4_carryOut 75 = .ok (.ifCond .eq 34, 3) := by decide +kernel
theorem dX4_carryOut_78 : decode cX4_carryOut 78 = .ok (.aload_n 0, 1) := by decide +kernel
theorem dX4_carryOut_79 : decode cX4_carryOut 79 = .ok (.invokevirtual 154, 3) := by decide +kernel
theorem dX4_carryOut_82 : decode cX4_carryOut 82 = .ok (.ifCond .lt 7, 3) := by decide +kernel
theorem dX4_carryOut_85 : decode cX4_carryOut 85 = .ok (.iconst 1, 1) := by decide +kernel
theorem dX4_carryOut_86 : decode cX4_carryOut 86 = .ok (.goto 4, 3) := by decide +kernel
theorem dX4_carryOut_89 : decode cX4_carryOut 89 = .ok (.iconst 0, 1) := by decide +kernel
theorem dX4_carryOut_90 : decode cX4_carryOut 90 = .ok (.istore_n 2, 1) := by decide +kernel
theorem dX4_carryOut_91 : decode cX4_carryOut 91 = .ok (.iload_n 1, 1) := by decide +kernel
theorem dX4_carryOut_92 : decode cX4_carryOut 92 = .ok (.iload_n 2, 1) := by decide +kernel
theorem dX4_carryOut_93 : decode cX4_carryOut 93 = .ok (.ifCond .eq 7, 3) := by decide +kernel
theorem dX4_carryOut_96 : decode cX4_carryOut 96 = .ok (.iconst 1, 1) := by decide +kernel
theorem dX4_carryOut_97 : decode cX4_carryOut 97 = .ok (.goto 4, 3) := by decide +kernel
theorem dX4_carryOut_100 : decode cX4_carryOut 100 = .ok (.iconst 0, 1) := by decide +kernel
theorem dX4_carryOut_101 : decode cX4_carryOut 101 = .ok (.iadd, 1) := by decide +kernel
theorem dX4_carryOut_102 : decode cX4_carryOut 102 = .ok (.istore_n 1, 1) := by decide +kernel
theorem dX4_carryOut_103 : decode cX4_carryOut 103 = .ok (.iinc 4 1, 3) := by decide +kernel
theorem dX4_carryOut_106 : decode cX4_carryOut 106 = .ok (.goto (-44), 3) := by decide +kernel
theorem dX4_carryOut_109 : decode cX4_carryOut 109 = .ok (.iinc 3 1, 3) := by decide +kernel
theorem dX4_carryOut_112 : decode cX4_carryOut 112 = .ok (.goto (-73), 3) := by decide +kernel
theorem dX4_carryOut_115 : decode cX4_carryOut 115 = .ok (.aload_n 0, 1) := by decide +kernel
theorem dX4_carryOut_116 : decode cX4_carryOut 116 = .ok (.getfield 37, 3) := by decide +kernel
theorem dX4_carryOut_119 : decode cX4_carryOut 119 = .ok (.invokevirtual 138, 3) := by decide +kernel
theorem dX4_carryOut_122 : decode cX4_carryOut 122 = .ok (.pop, 1) := by decide +kernel
theorem dX4_carryOut_123 : decode cX4_carryOut 123 = .ok (.aload_n 0, 1) := by decide +kernel
theorem dX4_carryOut_124 : decode cX4_carryOut 124 = .ok (.getfield 30, 3) := by decide +kernel
theorem dX4_carryOut_127 : decode cX4_carryOut 127 = .ok (.iload_n 1, 1) := by decide +kernel
theorem dX4_carryOut_128 : decode cX4_carryOut 128 = .ok (.invokevirtual 49, 3) := by decide +kernel
theorem dX4_carryOut_131 : decode cX4_carryOut 131 = .ok (.ireturn, 1) := by decide +kernel
theorem dX4_undo_0 : decode cX4_undo 0 = .ok (.aload_n 0, 1) := by decide +kernel
theorem dX4_undo_1 : decode cX4_undo 1 = .ok (.getfield 30, 3) := by decide +kernel
theorem dX4_undo_4 : decode cX4_undo 4 = .ok (.aload_n 0, 1) := by decide +kernel
theorem dX4_undo_5 : decode cX4_undo 5 = .ok (.getfield 10, 3) := by decide +kernel
theorem dX4_undo_8 : decode cX4_undo 8 = .ok (.invokevirtual 157, 3) := by decide +kernel
theorem dX4_undo_11 : decode cX4_undo 11 = .ok (.ireturn, 1) := by decide +kernel
theorem dX4_save_0 : decode cX4_save 0 = .ok (.iload_n 1, 1) := by decide +kernel
theorem dX4_save_1 : decode cX4_save 1 = .ok (.invokestatic 161, 3) := by decide +kernel
theorem dX4_save_4 : decode cX4_save 4 = .ok (.ifCond .ne 6, 3) := by decide +kernel
theorem dX4_save_7 : decode cX4_save 7 = .ok (.bipush (-2), 2) := by decide +kernel
theorem dX4_save_9 : decode cX4_save 9 = .ok (.ireturn, 1) := by decide +kernel
theorem dX4_save_10 : decode cX4_save 10 = .ok (.aload_n 0, 1) := by decide +kernel
theorem dX4_save_11 : decode cX4_save 11 = .ok (.getfield 19, 3) := by decide +kernel
theorem dX4_save_14 : decode cX4_save 14 = .ok (.iload_n 1, 1) := by decide +kernel
theorem dX4_save_15 : decode cX4_save 15 = .ok (.aaload, 1) := by decide +kernel
theorem dX4_save_16 : decode cX4_save 16 = .ok (.aload_n 0, 1) := by decide +kernel
theorem dX4_save_17 : decode cX4_save 17 = .ok (.getfield 10, 3) := by decide +kernel
theorem dX4_save_20 : decode cX4_save 20 = .ok (.invokevirtual 122, 3) := by decide +kernel
theorem dX4_save_23 : decode cX4_save 23 = .ok (.aload_n 0, 1) := by decide +kernel
theorem dX4_save_24 : decode cX4_save 24 = .ok (.getfield 23, 3) := by decide +kernel
theorem dX4_save_27 : decode cX4_save 27 = .ok (.iload_n 1, 1) := by decide +kernel
theorem dX4_save_28 : decode cX4_save 28 = .ok (.iconst 1, 1) := by decide +kernel
theorem dX4_save_29 : decode cX4_save 29 = .ok (.bastore, 1) := by decide +kernel
theorem dX4_save_30 : decode cX4_save 30 = .ok (.aload_n 0, 1) := by decide +kernel
theorem dX4_save_31 : decode cX4_save 31 = .ok (.getfield 10, 3) := by decide +kernel
theorem dX4_save_34 : decode cX4_save 34 = .ok (.getfield 95, 3) := by decide +kernel
theorem dX4_save_37 : decode cX4_save 37 = .ok (.ireturn, 1) := by decide +kernel
theorem dX4_restore_0 : decode cX4_restore 0 = .ok (.iload_n 1, 1) := by decide +kernel
theorem dX4_restore_1 : decode cX4_restore 1 = .ok (.invokestatic 161, 3) := by decide +kernel
theorem dX4_restore_4 : decode cX4_restore 4 = .ok (.ifCond .ne 6, 3) := by decide +kernel
theorem dX4_restore_7 : decode cX4_restore 7 = .ok (.bipush (-2), 2) := by decide +kernel
theorem dX4_restore_9 : decode cX4_restore 9 = .ok (.ireturn, 1) := by decide +kernel
theorem dX4_restore_10 : decode cX4_restore 10 = .ok (.aload_n 0, 1) := by decide +kernel
theorem dX4_restore_11 : decode cX4_restore 11 = .ok (.getfield 23, 3) := by decide +kernel
theorem dX4_restore_14 : decode cX4_restore 14 = .ok (.iload_n 1, 1) := by decide +kernel
theorem dX4_restore_15 : decode cX4_restore 15 = .ok (.baload, 1) := by decide +kernel
theorem dX4_restore_16 : decode cX4_restore 16 = .ok (.ifCond .ne 6, 3) := by decide +kernel
theorem dX4_restore_19 : decode cX4_restore 19 = .ok (.bipush (-5), 2) := by decide +kernel
theorem dX4_restore_21 : decode cX4_restore 21 = .ok (.ireturn, 1) := by decide +kernel
theorem dX4_restore_22 : decode cX4_restore 22 = .ok (.aload_n 0, 1) := by decide +kernel
theorem dX4_restore_23 : decode cX4_restore 23 = .ok (.getfield 30, 3) := by decide +kernel
theorem dX4_restore_26 : decode cX4_restore 26 = .ok (.aload_n 0, 1) := by decide +kernel
theorem dX4_restore_27 : decode cX4_restore 27 = .ok (.getfield 10, 3) := by decide +kernel
theorem dX4_restore_30 : decode cX4_restore 30 = .ok (.invokevirtual 41, 3) := by decide +kernel
theorem dX4_restore_33 : decode cX4_restore 33 = .ok (.aload_n 0, 1) := by decide +kernel
theorem dX4_restore_34 : decode cX4_restore 34 = .ok (.getfield 10, 3) := by decide +kernel
theorem dX4_restore_37 : decode cX4_restore 37 = .ok (.aload_n 0, 1) := by decide +kernel
theorem dX4_restore_38 : decode cX4_restore 38 = .ok (.getfield 19, 3) := by decide +kernel
theorem dX4_restore_41 : decode cX4_restore 41 = .ok (.iload_n 1, 1) := by decide +kernel
theorem dX4_restore_42 : decode cX4_restore 42 = .ok (.aaload, 1) := by decide +kernel
theorem dX4_restore_43 : decode cX4_restore 43 = .ok (.invokevirtual 122, 3) := by decide +kernel
theorem dX4_restore_46 : decode cX4_restore 46 = .ok (.aload_n 0, 1) := by decide +kernel
theorem dX4_restore_47 : decode cX4_restore 47 = .ok (.getfield 30, 3) := by decide +kernel
theorem dX4_restore_50 : decode cX4_restore 50 = .ok (.aload_n 0, 1) := by decide +kernel
theorem dX4_restore_51 : decode cX4_restore 51 = .ok (.getfield 10, 3) := by decide +kernel
theorem dX4_restore_54 : decode cX4_restore 54 = .ok (.getfield 95, 3) := by decide +kernel
theorem dX4_restore_57 : decode cX4_restore 57 = .ok (.invokevirtual 49, 3) := by decide +kernel
theorem dX4_restore_60 : decode cX4_restore 60 = .ok (.ireturn, 1) := by decide +kernel
theorem dX4_isQueue_0 : decode cX4_isQueue 0 = .ok (.iload_n 0, 1) := by decide +kernel
theorem dX4_isQueue_1 : decode cX4_isQueue 1 = .ok (.ifCond .lt 12, 3) := by decide +kernel
theorem dX4_isQueue_4 : decode cX4_isQueue 4 = .ok (.iload_n 0, 1) := by decide +kernel
theorem dX4_isQueue_5 : decode cX4_isQueue 5 = .ok (.iconst 3, 1) := by decide +kernel
theorem dX4_isQueue_6 : decode cX4_isQueue 6 = .ok (.if_icmp .ge 7, 3) := by decide +kernel
theorem dX4_isQueue_9 : decode cX4_isQueue 9 = .ok (.iconst 1, 1) := by decide +kernel
theorem dX4_isQueue_10 : decode cX4_isQueue 10 = .ok (.goto 4, 3) := by decide +kernel
theorem dX4_isQueue_13 : decode cX4_isQueue 13 = .ok (.iconst 0, 1) := by decide +kernel
theorem dX4_isQueue_14 : decode cX4_isQueue 14 = .ok (.ireturn, 1) := by decide +kernel
theorem dX4_isSlot_0 : decode cX4_isSlot 0 = .ok (.iload_n 0, 1) := by decide +kernel
theorem dX4_isSlot_1 : decode cX4_isSlot 1 = .ok (.ifCond .lt 12, 3) := by decide +kernel
theorem dX4_isSlot_4 : decode cX4_isSlot 4 = .ok (.iload_n 0, 1) := by decide +kernel
theorem dX4_isSlot_5 : decode cX4_isSlot 5 = .ok (.iconst 2, 1) := by decide +kernel
theorem dX4_isSlot_6 : decode cX4_isSlot 6 = .ok (.if_icmp .ge 7, 3) := by decide +kernel
theorem dX4_isSlot_9 : decode cX4_isSlot 9 = .ok (.iconst 1, 1) := by decide +kernel
theorem dX4_isSlot_10 : decode cX4_isSlot 10 = .ok (.goto 4, 3) := by decide +kernel
theorem dX4_isSlot_13 : decode cX4_isSlot 13 = .ok (.iconst 0, 1) := by decide +kernel
theorem dX4_isSlot_14 : decode cX4_isSlot 14 = .ok (.ireturn, 1) := by decide +kernel
theorem dX4_trialCost_0 : decode cX4_trialCost 0 = .ok (.aload_n 0, 1) := by decide +kernel
theorem dX4_trialCost_1 : decode cX4_trialCost 1 = .ok (.getfield 16, 3) := by decide +kernel
theorem dX4_trialCost_4 : decode cX4_trialCost 4 = .ok (.aload_n 0, 1) := by decide +kernel
theorem dX4_trialCost_5 : decode cX4_trialCost 5 = .ok (.getfield 10, 3) := by decide +kernel
theorem dX4_trialCost_8 : decode cX4_trialCost 8 = .ok (.invokevirtual 164, 3) := by decide +kernel
theorem dX4_trialCost_11 : decode cX4_trialCost 11 = .ok (.aload_n 0, 1) := by decide +kernel
theorem dX4_trialCost_12 : decode cX4_trialCost 12 = .ok (.getfield 16, 3) := by decide +kernel
theorem dX4_trialCost_15 : decode cX4_trialCost 15 = .ok (.iload_n 1, 1) := by decide +kernel
theorem dX4_trialCost_16 : decode cX4_trialCost 16 = .ok (.iload_n 2, 1) := by decide +kernel
theorem dX4_trialCost_17 : decode cX4_trialCost 17 = .ok (.aload_n 0, 1) := by decide +kernel
theorem dX4_trialCost_18 : decode cX4_trialCost 18 = .ok (.getfield 10, 3) := by decide +kernel
theorem dX4_trialCost_21 : decode cX4_trialCost 21 = .ok (.getfield 73, 3) := by decide +kernel
theorem dX4_trialCost_24 : decode cX4_trialCost 24 = .ok (.iload_n 1, 1) := by decide +kernel
theorem dX4_trialCost_25 : decode cX4_trialCost 25 = .ok (.aaload, 1) := by decide +kernel
theorem dX4_trialCost_26 : decode cX4_trialCost 26 = .ok (.getfield 167, 3) := by decide +kernel
theorem dX4_trialCost_29 : decode cX4_trialCost 29 = .ok (.invokevirtual 53, 3) := by decide +kernel
theorem dX4_trialCost_32 : decode cX4_trialCost 32 = .ok (.pop, 1) := by decide +kernel
theorem dX4_trialCost_33 : decode cX4_trialCost 33 = .ok (.iconst 0, 1) := by decide +kernel
theorem dX4_trialCost_34 : decode cX4_trialCost 34 = .ok (.istore 4, 2) := by decide +kernel
theorem dX4_trialCost_36 : decode cX4_trialCost 36 = .ok (.iload 4, 2) := by decide +kernel
theorem dX4_trialCost_38 : decode cX4_trialCost 38 = .ok (.bipush 16, 2) := by decide +kernel
theorem dX4_trialCost_40 : decode cX4_trialCost 40 = .ok (.if_icmp .ge 27, 3) := by decide +kernel
theorem dX4_trialCost_43 : decode cX4_trialCost 43 = .ok (.aload_n 0, 1) := by decide +kernel
theorem dX4_trialCost_44 : decode cX4_trialCost 44 = .ok (.getfield 16, 3) := by decide +kernel
theorem dX4_trialCost_47 : decode cX4_trialCost 47 = .ok (.iload_n 1, 1) := by decide +kernel
theorem dX4_trialCost_48 : decode cX4_trialCost 48 = .ok (.invokevirtual 57, 3) := by decide +kernel
theorem dX4_trialCost_51 : decode cX4_trialCost 51 = .ok (.pop, 1) := by decide +kernel
theorem dX4_trialCost_52 : decode cX4_trialCost 52 = .ok (.aload_n 0, 1) := by decide +kernel
theorem dX4_trialCost_53 : decode cX4_trialCost 53 = .ok (.getfield 16, 3) := by decide +kernel
theorem dX4_trialCost_56 : decode cX4_trialCost 56 = .ok (.iload_n 3, 1) := by decide +kernel
theorem dX4_trialCost_57 : decode cX4_trialCost 57 = .ok (.invokevirtual 128, 3) := by decide +kernel
theorem dX4_trialCost_60 : decode cX4_trialCost 60 = .ok (.pop, 1) := by decide +kernel
theorem dX4_trialCost_61 : decode cX4_trialCost 61 = .ok (.iinc 4 1, 3) := by decide +kernel
theorem dX4_trialCost_64 : decode cX4_trialCost 64 = .ok (.goto (-28), 3) := by decide +kernel
theorem dX4_trialCost_67 : decode cX4_trialCost 67 = .ok (.iconst 0, 1) := by decide +kernel
theorem dX4_trialCost_68 : decode cX4_trialCost 68 = .ok (.istore 4, 2) := by decide +kernel
theorem dX4_trialCost_70 : decode cX4_trialCost 70 = .ok (.iload 4, 2) := by decide +kernel
theorem dX4_trialCost_72 : decode cX4_trialCost 72 = .ok (.sipush 1000, 3) := by decide +kernel
theorem dX4_trialCost_75 : decode cX4_trialCost 75 = .ok (.if_icmp .ge 32, 3) := by decide +kernel
theorem dX4_trialCost_78 : decode cX4_trialCost 78 = .ok (.aload_n 0, 1) := by decide +kernel
theorem dX4_trialCost_79 : decode cX4_trialCost 79 = .ok (.getfield 16, 3) := by decide +kernel
theorem dX4_trialCost_82 : decode cX4_trialCost 82 = .ok (.getfield 73, 3) := by decide +kernel
theorem dX4_trialCost_85 : decode cX4_trialCost 85 = .ok (.iload_n 1, 1) := by decide +kernel
theorem dX4_trialCost_86 : decode cX4_trialCost 86 = .ok (.aaload, 1) := by decide +kernel
theorem dX4_trialCost_87 : decode cX4_trialCost 87 = .ok (.getfield 170, 3) := by decide +kernel
theorem dX4_trialCost_90 : decode cX4_trialCost 90 = .ok (.ifCond .le 17, 3) := by decide +kernel
theorem dX4_trialCost_93 : decode cX4_trialCost 93 = .ok (.aload_n 0, 1) := by decide +kernel
theorem dX4_trialCost_94 : decode cX4_trialCost 94 = .ok (.getfield 16, 3) := by decide +kernel
theorem dX4_trialCost_97 : decode cX4_trialCost 97 = .ok (.invokevirtual 125, 3) := by decide +kernel
theorem dX4_trialCost_100 : decode cX4_trialCost 100 = .ok (.pop, 1) := by decide +kernel
theorem dX4_trialCost_101 : decode cX4_trialCost 101 = .ok (.iinc 4 1, 3) := by decide +kernel
theorem dX4_trialCost_104 : decode cX4_trialCost 104 = .ok (.goto (-34), 3) := by decide +kernel
theorem dX4_trialCost_107 : decode cX4_trialCost 107 = .ok (.aload_n 0, 1) := by decide +kernel
theorem dX4_trialCost_108 : decode cX4_trialCost 108 = .ok (.getfield 16, 3) := by decide +kernel
theorem dX4_trialCost_111 : decode cX4_trialCost 111 = .ok (.bipush 9, 2) := by decide +kernel
theorem dX4_trialCost_113 : decode cX4_trialCost 113 = .ok (.invokevirtual 98, 3) := by decide +kernel
theorem dX4_trialCost_116 : decode cX4_trialCost 116 = .ok (.aload_n 0, 1) := by decide +kernel
theorem dX4_trialCost_117 : decode cX4_trialCost 117 = .ok (.getfield 16, 3) := by decide +kernel
theorem dX4_trialCost_120 : decode cX4_trialCost 120 = .ok (.getfield 105, 3) := by decide +kernel
theorem dX4_trialCost_123 : decode cX4_trialCost 123 = .ok (.iconst 3, 1) := by decide +kernel
theorem dX4_trialCost_124 : decode cX4_trialCost 124 = .ok (.iaload, 1) := by decide +kernel
theorem dX4_trialCost_125 : decode cX4_trialCost 125 = .ok (.aload_n 0, 1) := by decide +kernel
theorem dX4_trialCost_126 : decode cX4_trialCost 126 = .ok (.getfield 16, 3) := by decide +kernel
theorem dX4_trialCost_129 : decode cX4_trialCost 129 = .ok (.bipush 6, 2) := by decide +kernel
theorem dX4_trialCost_131 : decode cX4_trialCost 131 = .ok (.invokevirtual 98, 3) := by decide +kernel
theorem dX4_trialCost_134 : decode cX4_trialCost 134 = .ok (.imul, 1) := by decide +kernel
theorem dX4_trialCost_135 : decode cX4_trialCost 135 = .ok (.iadd, 1) := by decide +kernel
theorem dX4_trialCost_136 : decode cX4_trialCost 136 = .ok (.ireturn, 1) := by decide +kernel
theorem dX4_carryOrder_0 : decode cX4_carryOrder 0 = .ok (.aload_n 0, 1) := by decide +kernel
theorem dX4_carryOrder_1 : decode cX4_carryOrder 1 = .ok (.getfield 37, 3) := by decide +kernel
theorem dX4_carryOrder_4 : decode cX4_carryOrder 4 = .ok (.getfield 173, 3) := by decide +kernel
theorem dX4_carryOrder_7 : decode cX4_carryOrder 7 = .ok (.lookupswitch 92 #[(102, 33), (113, 63), (116, 48)], 33) := by decide +kernel
theorem dX4_carryOrder_40 : decode cX4_carryOrder 40 = .ok (.aload_n 0, 1) := by decide +kernel
theorem dX4_carryOrder_41 : decode cX4_carryOrder 41 = .ok (.getfield 10, 3) := by decide +kernel
theorem dX4_carryOrder_44 : decode cX4_carryOrder 44 = .ok (.aload_n 0, 1) := by decide +kernel
theorem dX4_carryOrder_45 : decode cX4_carryOrder 45 = .ok (.getfield 37, 3) := by decide +kernel
theorem dX4_carryOrder_48 : decode cX4_carryOrder 48 = .ok (.getfield 177, 3) := by decide +kernel
theorem dX4_carryOrder_51 : decode cX4_carryOrder 51 = .ok (.invokevirtual 57, 3) := by decide +kernel
theorem dX4_carryOrder_54 : decode cX4_carryOrder 54 = .ok (.ireturn, 1) := by decide +kernel
theorem dX4_carryOrder_55 : decode cX4_carryOrder 55 = .ok (.aload_n 0, 1) := by decide +kernel
theorem dX4_carryOrder_56 : decode cX4_carryOrder 56 = .ok (.getfield 10, 3) := by decide +kernel
theorem dX4_carryOrder_59 : decode cX4_carryOrder 59 = .ok (.aload_n 0, 1) := by decide +kernel
theorem dX4_carryOrder_60 : decode cX4_carryOrder 60 = .ok (.getfield 37, 3) := by decide +kernel
theorem dX4_carryOrder_63 : decode cX4_carryOrder 63 = .ok (.getfield 177, 3) := by decide +kernel
theorem dX4_carryOrder_66 : decode cX4_carryOrder 66 = .ok (.invokevirtual 66, 3) := by decide +kernel
theorem dX4_carryOrder_69 : decode cX4_carryOrder 69 = .ok (.ireturn, 1) := by decide +kernel
theorem dX4_carryOrder_70 : decode cX4_carryOrder 70 = .ok (.aload_n 0, 1) := by decide +kernel
theorem dX4_carryOrder_71 : decode cX4_carryOrder 71 = .ok (.getfield 10, 3) := by decide +kernel
theorem dX4_carryOrder_74 : decode cX4_carryOrder 74 = .ok (.aload_n 0, 1) := by decide +kernel
theorem dX4_carryOrder_75 : decode cX4_carryOrder 75 = .ok (.getfield 37, 3) := by decide +kernel
theorem dX4_carryOrder_78 : decode cX4_carryOrder 78 = .ok (.getfield 177, 3) := by decide +kernel
theorem dX4_carryOrder_81 : decode cX4_carryOrder 81 = .ok (.aload_n 0, 1) := by decide +kernel
theorem dX4_carryOrder_82 : decode cX4_carryOrder 82 = .ok (.getfield 37, 3) := by decide +kernel
theorem dX4_carryOrder_85 : decode cX4_carryOrder 85 = .ok (.getfield 180, 3) := by decide +kernel
theorem dX4_carryOrder_88 : decode cX4_carryOrder 88 = .ok (.aload_n 0, 1) := by decide +kernel
theorem dX4_carryOrder_89 : decode cX4_carryOrder 89 = .ok (.getfield 37, 3) := by decide +kernel
theorem dX4_carryOrder_92 : decode cX4_carryOrder 92 = .ok (.getfield 183, 3) := by decide +kernel
theorem dX4_carryOrder_95 : decode cX4_carryOrder 95 = .ok (.invokevirtual 53, 3) := by decide +kernel
theorem dX4_carryOrder_98 : decode cX4_carryOrder 98 = .ok (.ireturn, 1) := by decide +kernel
theorem dX4_carryOrder_99 : decode cX4_carryOrder 99 = .ok (.aload_n 0, 1) := by decide +kernel
theorem dX4_carryOrder_100 : decode cX4_carryOrder 100 = .ok (.getfield 10, 3) := by decide +kernel
theorem dX4_carryOrder_103 : decode cX4_carryOrder 103 = .ok (.aload_n 0, 1) := by decide +kernel
theorem dX4_carryOrder_104 : decode cX4_carryOrder 104 = .ok (.getfield 37, 3) := by decide +kernel
theorem dX4_carryOrder_107 : decode cX4_carryOrder 107 = .ok (.getfield 177, 3) := by decide +kernel
theorem dX4_carryOrder_110 : decode cX4_carryOrder 110 = .ok (.invokevirtual 60, 3) := by decide +kernel
theorem dX4_carryOrder_113 : decode cX4_carryOrder 113 = .ok (.ireturn, 1) := by decide +kernel
theorem dX5_init_0 : decode cX5_init 0 = .ok (.aload_n 0, 1) := by decide +kernel
theorem dX5_init_1 : decode cX5_init 1 = .ok (.invokespecial 1, 3) := by decide +kernel
theorem dX5_init_4 : decode cX5_init 4 = .ok (.aload_n 0, 1) := by decide +kernel
theorem dX5_init_5 : decode cX5_init 5 = .ok (.sipush 1640, 3) := by decide +kernel
theorem dX5_init_8 : decode cX5_init 8 = .ok (.newarray .int, 2) := by decide +kernel
theorem dX5_init_10 : decode cX5_init 10 = .ok (.putfield 7, 3) := by decide +kernel
theorem dX5_init_13 : decode cX5_init 13 = .ok (.aload_n 0, 1) := by decide +kernel
theorem dX5_init_14 : decode cX5_init 14 = .ok (.sipush 1640, 3) := by decide +kernel
theorem dX5_init_17 : decode cX5_init 17 = .ok (.newarray .int, 2) := by decide +kernel
theorem dX5_init_19 : decode cX5_init 19 = .ok (.putfield 13, 3) := by decide +kernel
theorem dX5_init_22 : decode cX5_init 22 = .ok (.aload_n 0, 1) := by decide +kernel
theorem dX5_init_23 : decode cX5_init 23 = .ok (.sipush 9840, 3) := by decide +kernel
theorem dX5_init_26 : decode cX5_init 26 = .ok (.newarray .int, 2) := by decide +kernel
theorem dX5_init_28 : decode cX5_init 28 = .ok (.putfield 16, 3) := by decide +kernel
theorem dX5_init_31 : decode cX5_init 31 = .ok (.aload_n 0, 1) := by decide +kernel
theorem dX5_init_32 : decode cX5_init 32 = .ok (.sipush 3280, 3) := by decide +kernel
theorem dX5_init_35 : decode cX5_init 35 = .ok (.newarray .int, 2) := by decide +kernel
theorem dX5_init_37 : decode cX5_init 37 = .ok (.putfield 19, 3) := by decide +kernel
theorem dX5_init_40 : decode cX5_init 40 = .ok (.aload_n 0, 1) := by decide +kernel
theorem dX5_init_41 : decode cX5_init 41 = .ok (.iconst 2, 1) := by decide +kernel
theorem dX5_init_42 : decode cX5_init 42 = .ok (.newarray .int, 2) := by decide +kernel
theorem dX5_init_44 : decode cX5_init 44 = .ok (.putfield 22, 3) := by decide +kernel
theorem dX5_init_47 : decode cX5_init 47 = .ok (.aload_n 0, 1) := by decide +kernel
theorem dX5_init_48 : decode cX5_init 48 = .ok (.bipush 80, 2) := by decide +kernel
theorem dX5_init_50 : decode cX5_init 50 = .ok (.newarray .int, 2) := by decide +kernel
theorem dX5_init_52 : decode cX5_init 52 = .ok (.putfield 25, 3) := by decide +kernel
theorem dX5_init_55 : decode cX5_init 55 = .ok (.aload_n 0, 1) := by decide +kernel
theorem dX5_init_56 : decode cX5_init 56 = .ok (.iconst 3, 1) := by decide +kernel
theorem dX5_init_57 : decode cX5_init 57 = .ok (.newarray .int, 2) := by decide +kernel
theorem dX5_init_59 : decode cX5_init 59 = .ok (.putfield 28, 3) := by decide +kernel
theorem dX5_init_62 : decode cX5_init 62 = .ok (.aload_n 0, 1) := by decide +kernel
theorem dX5_init_63 : decode cX5_init 63 = .ok (.getfield 7, 3) := by decide +kernel
theorem dX5_init_66 : decode cX5_init 66 = .ok (.iconst 0, 1) := by decide +kernel
theorem dX5_init_67 : decode cX5_init 67 = .ok (.bipush 16, 2) := by decide +kernel
theorem dX5_init_69 : decode cX5_init 69 = .ok (.iastore, 1) := by decide +kernel
theorem dX5_init_70 : decode cX5_init 70 = .ok (.aload_n 0, 1) := by decide +kernel
theorem dX5_init_71 : decode cX5_init 71 = .ok (.getfield 7, 3) := by decide +kernel
theorem dX5_init_74 : decode cX5_init 74 = .ok (.iconst 1, 1) := by decide +kernel
theorem dX5_init_75 : decode cX5_init 75 = .ok (.iconst 4, 1) := by decide +kernel
theorem dX5_init_76 : decode cX5_init 76 = .ok (.iastore, 1) := by decide +kernel
theorem dX5_init_77 : decode cX5_init 77 = .ok (.aload_n 0, 1) := by decide +kernel
theorem dX5_init_78 : decode cX5_init 78 = .ok (.getfield 7, 3) := by decide +kernel
theorem dX5_init_81 : decode cX5_init 81 = .ok (.iconst 3, 1) := by decide +kernel
theorem dX5_init_82 : decode cX5_init 82 = .ok (.bipush 6, 2) := by decide +kernel
theorem dX5_init_84 : decode cX5_init 84 = .ok (.iastore, 1) := by decide +kernel
theorem dX5_init_85 : decode cX5_init 85 = .ok (.iconst 0, 1) := by decide +kernel
theorem dX5_init_86 : decode cX5_init 86 = .ok (.istore_n 1, 1) := by decide +kernel
theorem dX5_init_87 : decode cX5_init 87 = .ok (.iload_n 1, 1) := by decide +kernel
theorem dX5_init_88 : decode cX5_init 88 = .ok (.iconst 3, 1) := by decide +kernel
theorem dX5_init_89 : decode cX5_init 89 = .ok (.if_icmp .ge 40, 3) := by decide +kernel
theorem dX5_init_92 : decode cX5_init 92 = .ok (.aload_n 0, 1) := by decide +kernel
theorem dX5_init_93 : decode cX5_init 93 = .ok (.iload_n 1, 1) := by decide +kernel
theorem dX5_init_94 : decode cX5_init 94 = .ok (.iconst 0, 1) := by decide +kernel
theorem dX5_init_95 : decode cX5_init 95 = .ok (.iconst 4, 1) := by decide +kernel
theorem dX5_init_96 : decode cX5_init 96 = .ok (.invokevirtual 31, 3) := by decide +kernel
theorem dX5_init_99 : decode cX5_init 99 = .ok (.aload_n 0, 1) := by decide +kernel
theorem dX5_init_100 : decode cX5_init 100 = .ok (.iload_n 1, 1) := by decide +kernel
theorem dX5_init_101 : decode cX5_init 101 = .ok (.iconst 1, 1) := by decide +kernel
theorem dX5_init_102 : decode cX5_init 102 = .ok (.bipush 10, 2) := by decide +kernel
theorem dX5_init_104 : decode cX5_init 104 = .ok (.invokevirtual 31, 3) := by decide +kernel
theorem dX5_init_107 : decode cX5_init 107 = .ok (.aload_n 0, 1) := by decide +kernel
theorem dX5_init_108 : decode cX5_init 108 = .ok (.iload_n 1, 1) := by decide +kernel
theorem dX5_init_109 : decode cX5_init 109 = .ok (.iconst 2, 1) := by decide +kernel
theorem dX5_init_110 : decode cX5_init 110 = .ok (.iconst 4, 1) := by decide +kernel
theorem dX5_init_111 : decode cX5_init 111 = .ok (.invokevirtual 31, 3) := by decide +kernel
theorem dX5_init_114 : decode cX5_init 114 = .ok (.aload_n 0, 1) := by decide +kernel
theorem dX5_init_115 : decode cX5_init 115 = .ok (.iload_n 1, 1) := by decide +kernel
theorem dX5_init_116 : decode cX5_init 116 = .ok (.bipush 8, 2) := by decide +kernel
theorem dX5_init_118 : decode cX5_init 118 = .ok (.bipush (-6), 2) := by decide +kernel
theorem dX5_init_120 : decode cX5_init 120 = .ok (.invokevirtual 31, 3) := by decide +kernel
theorem dX5_init_123 : decode cX5_init 123 = .ok (.iinc 1 1, 3) := by decide +kernel
theorem dX5_init_126 : decode cX5_init 126 = .ok (.goto (-39), 3) := by decide +kernel
theorem dX5_init_129 : decode cX5_init 129 = .ok (.return_, 1) := by decide +kernel
theorem dX5_in_0 : decode cX5_in 0 = .ok (.lload_n 0, 1) := by decide +kernel
theorem dX5_in_1 : decode cX5_in 1 = .ok (.lload_n 2, 1) := by decide +kernel
theorem dX5_in_2 : decode cX5_in 2 = .ok (.lcmp, 1) := by decide +kernel
theorem dX5_in_3 : decode cX5_in 3 = .ok (.ifCond .lt 14, 3) := by decide +kernel
theorem dX5_in_6 : decode cX5_in 6 = .ok (.lload_n 0, 1) := by decide +kernel
theorem dX5_in_7 : decode cX5_in 7 = .ok (.lload 4, 2) := by decide +kernel
theorem dX5_in_9 : decode cX5_in 9 = .ok (.lcmp, 1) := by decide +kernel
theorem dX5_in_10 : decode cX5_in 10 = .ok (.ifCond .gt 7, 3) := by decide +kernel
theorem dX5_in_13 : decode cX5_in 13 = .ok (.iconst 1, 1) := by decide +kernel
theorem dX5_in_14 : decode cX5_in 14 = .ok (.goto 4, 3) := by decide +kernel
theorem dX5_in_17 : decode cX5_in 17 = .ok (.iconst 0, 1) := by decide +kernel
theorem dX5_in_18 : decode cX5_in 18 = .ok (.ireturn, 1) := by decide +kernel
theorem dX5_changes_0 : decode cX5_changes 0 = .ok (.aload_n 0, 1) := by decide +kernel
theorem dX5_changes_1 : decode cX5_changes 1 = .ok (.getfield 35, 3) := by decide +kernel
theorem dX5_changes_4 : decode cX5_changes 4 = .ok (.bipush 6, 2) := by decide +kernel
theorem dX5_changes_6 : decode cX5_changes 6 = .ok (.if_icmp .ne 44, 3) := by decide +kernel
theorem dX5_changes_9 : decode cX5_changes 9 = .ok (.iconst 0, 1) := by decide +kernel
theorem dX5_changes_10 : decode cX5_changes 10 = .ok (.istore_n 1, 1) := by decide +kernel
theorem dX5_changes_11 : decode cX5_changes 11 = .ok (.iload_n 1, 1) := by decide +kernel
theorem dX5_changes_12 : decode cX5_changes 12 = .ok (.sipush 8200, 3) := by decide +kernel
theorem dX5_changes_15 : decode cX5_changes 15 = .ok (.if_icmp .ge 25, 3) := by decide +kernel
theorem dX5_changes_18 : decode cX5_changes 18 = .ok (.aload_n 0, 1) := by decide +kernel
theorem dX5_changes_19 : decode cX5_changes 19 = .ok (.getfield 16, 3) := by decide +kernel
theorem dX5_changes_22 : decode cX5_changes 22 = .ok (.iload_n 1, 1) := by decide +kernel
theorem dX5_changes_23 : decode cX5_changes 23 = .ok (.aload_n 0, 1) := by decide +kernel
theorem dX5_changes_24 : decode cX5_changes 24 = .ok (.getfield 16, 3) := by decide +kernel
theorem dX5_changes_27 : decode cX5_changes 27 = .ok (.iload_n 1, 1) := by decide +kernel
theorem dX5_changes_28 : decode cX5_changes 28 = .ok (.sipush 1640, 3) := by decide +kernel
theorem dX5_changes_31 : decode cX5_changes 31 = .ok (.iadd, 1) := by decide +kernel
theorem dX5_changes_32 : decode cX5_changes 32 = .ok (.iaload, 1) := by decide +kernel
theorem dX5_changes_33 : decode cX5_changes 33 = .ok (.iastore, 1) := by decide +kernel
theorem dX5_changes_34 : decode cX5_changes 34 = .ok (.iinc 1 1, 3) := by decide +kernel
theorem dX5_changes_37 : decode cX5_changes 37 = .ok (.goto (-26), 3) := by decide +kernel
theorem dX5_changes_40 : decode cX5_changes 40 = .ok (.aload_n 0, 1) := by decide +kernel
theorem dX5_changes_41 : decode cX5_changes 41 = .ok (.dup, 1) := by decide +kernel
theorem dX5_changes_42 : decode cX5_changes 42 = .ok (.getfield 35, 3) := by decide +kernel
theorem dX5_changes_45 : decode cX5_changes 45 = .ok (.iconst 1, 1) := by decide +kernel
theorem dX5_changes_46 : decode cX5_changes 46 = .ok (.isub, 1) := by decide +kernel
theorem dX5_changes_47 : decode cX5_changes 47 = .ok (.putfield 35, 3) := by decide +kernel
theorem dX5_changes_50 : decode cX5_changes 50 = .ok (.iconst 0, 1) := by decide +kernel
theorem dX5_changes_51 : decode cX5_changes 51 = .ok (.istore_n 1, 1) := by decide +kernel
theorem dX5_changes_52 : decode cX5_changes 52 = .ok (.iload_n 1, 1) := by decide +kernel
theorem dX5_changes_53 : decode cX5_changes 53 = .ok (.sipush 1640, 3) := by decide +kernel
theorem dX5_changes_56 : decode cX5_changes 56 = .ok (.if_icmp .ge 30, 3) := by decide +kernel
theorem dX5_changes_59 : decode cX5_changes 59 = .ok (.aload_n 0, 1) := by decide +kernel
theorem dX5_changes_60 : decode cX5_changes 60 = .ok (.getfield 16, 3) := by decide +kernel
theorem dX5_changes_63 : decode cX5_changes 63 = .ok (.sipush 1640, 3) := by decide +kernel
theorem dX5_changes_66 : decode cX5_changes 66 = .ok (.aload_n 0, 1) := by decide +kernel
theorem dX5_changes_67 : decode cX5_changes 67 = .ok (.getfield 35, 3) := by decide +kernel
theorem dX5_changes_70 : decode cX5_changes 70 = .ok (.imul, 1) := by decide +kernel
theorem dX5_changes_71 : decode cX5_changes 71 = .ok (.iload_n 1, 1) := by decide +kernel
theorem dX5_changes_72 : decode cX5_changes 72 = .ok (.iadd, 1) := by decide +kernel
theorem dX5_changes_73 : decode cX5_changes 73 = .ok (.aload_n 0, 1) := by decide +kernel
theorem dX5_changes_74 : decode cX5_changes 74 = .ok (.getfield 7, 3) := by decide +kernel
theorem dX5_changes_77 : decode cX5_changes 77 = .ok (.iload_n 1, 1) := by decide +kernel
theorem dX5_changes_78 : decode cX5_changes 78 = .ok (.iaload, 1) := by decide +kernel
theorem dX5_changes_79 : decode cX5_changes 79 = .ok (.iastore, 1) := by decide +kernel
theorem dX5_changes_80 : decode cX5_changes 80 = .ok (.iinc 1 1, 3) := by decide +kernel
theorem dX5_changes_83 : decode cX5_changes 83 = .ok (.goto (-31), 3) := by decide +kernel
theorem dX5_changes_86 : decode cX5_changes 86 = .ok (.aload_n 0, 1) := by decide +kernel
theorem dX5_changes_87 : decode cX5_changes 87 = .ok (.dup, 1) := by decide +kernel
theorem dX5_changes_88 : decode cX5_changes 88 = .ok (.getfield 35, 3) := by decide +kernel
theorem dX5_changes_91 : decode cX5_changes 91 = .ok (.iconst 1, 1) := by decide +kernel
theorem dX5_changes_92 : decode cX5_changes 92 = .ok (.iadd, 1) := by decide +kernel
theorem dX5_changes_93 : decode cX5_changes 93 = .ok (.putfield 35, 3) := by decide +kernel
theorem dX5_changes_96 : decode cX5_changes 96 = .ok (.return_, 1) := by decide +kernel
theorem dX5_keeps_0 : decode cX5_keeps 0 = .ok (.iconst 0, 1) := by decide +kernel
theorem dX5_keeps_1 : decode cX5_keeps 1 = .ok (.istore_n 1, 1) := by decide +kernel
theorem dX5_keeps_2 : decode cX5_keeps 2 = .ok (.iload_n 1, 1) := by decide +kernel
theorem dX5_keeps_3 : decode cX5_keeps 3 = .ok (.sipush 1640, 3) := by decide +kernel
theorem dX5_keeps_6 : decode cX5_keeps 6 = .ok (.if_icmp .ge 21, 3) := by decide +kernel
theorem dX5_keeps_9 : decode cX5_keeps 9 = .ok (.aload_n 0, 1) := by decide +kernel
theorem dX5_keeps_10 : decode cX5_keeps 10 = .ok (.getfield 13, 3) := by decide +kernel
theorem dX5_keeps_13 : decode cX5_keeps 13 = .ok (.iload_n 1, 1) := by decide +kernel
theorem dX5_keeps_14 : decode cX5_keeps 14 = .ok (.aload_n 0, 1) := by decide +kernel
theorem dX5_keeps_15 : decode cX5_keeps 15 = .ok (.getfield 7, 3) := by decide +kernel
theorem dX5_keeps_18 : decode cX5_keeps 18 = .ok (.iload_n 1, 1) := by decide +kernel
theorem dX5_keeps_19 : decode cX5_keeps 19 = .ok (.iaload, 1) := by decide +kernel
theorem dX5_keeps_20 : decode cX5_keeps 20 = .ok (.iastore, 1) := by decide +kernel
theorem dX5_keeps_21 : decode cX5_keeps 21 = .ok (.iinc 1 1, 3) := by decide +kernel
theorem dX5_keeps_24 : decode cX5_keeps 24 = .ok (.goto (-22), 3) := by decide +kernel
theorem dX5_keeps_27 : decode cX5_keeps 27 = .ok (.return_, 1) := by decide +kernel
theorem dX5_comesBack_0 : decode cX5_comesBack 0 = .ok (.iconst 0, 1) := by decide +kernel
theorem dX5_comesBack_1 : decode cX5_comesBack 1 = .ok (.istore_n 1, 1) := by decide +kernel
theorem dX5_comesBack_2 : decode cX5_comesBack 2 = .ok (.iload_n 1, 1) := by decide +kernel
theorem dX5_comesBack_3 : decode cX5_comesBack 3 = .ok (.sipush 1640, 3) := by decide +kernel
theorem dX5_comesBack_6 : decode cX5_comesBack 6 = .ok (.if_icmp .ge 21, 3) := by decide +kernel
theorem dX5_comesBack_9 : decode cX5_comesBack 9 = .ok (.aload_n 0, 1) := by decide +kernel
theorem dX5_comesBack_10 : decode cX5_comesBack 10 = .ok (.getfield 7, 3) := by decide +kernel
theorem dX5_comesBack_13 : decode cX5_comesBack 13 = .ok (.iload_n 1, 1) := by decide +kernel
theorem dX5_comesBack_14 : decode cX5_comesBack 14 = .ok (.aload_n 0, 1) := by decide +kernel
theorem dX5_comesBack_15 : decode cX5_comesBack 15 = .ok (.getfield 13, 3) := by decide +kernel
theorem dX5_comesBack_18 : decode cX5_comesBack 18 = .ok (.iload_n 1, 1) := by decide +kernel
theorem dX5_comesBack_19 : decode cX5_comesBack 19 = .ok (.iaload, 1) := by decide +kernel
theorem dX5_comesBack_20 : decode cX5_comesBack 20 = .ok (.iastore, 1) := by decide +kernel
theorem dX5_comesBack_21 : decode cX5_comesBack 21 = .ok (.iinc 1 1, 3) := by decide +kernel
theorem dX5_comesBack_24 : decode cX5_comesBack 24 = .ok (.goto (-22), 3) := by decide +kernel
theorem dX5_comesBack_27 : decode cX5_comesBack 27 = .ok (.return_, 1) := by decide +kernel
theorem dX5_isQueue_0 : decode cX5_isQueue 0 = .ok (.iload_n 0, 1) := by decide +kernel
theorem dX5_isQueue_1 : decode cX5_isQueue 1 = .ok (.i2l, 1) := by decide +kernel
theorem dX5_isQueue_2 : decode cX5_isQueue 2 = .ok (.lconst 0, 1) := by decide +kernel
theorem dX5_isQueue_3 : decode cX5_isQueue 3 = .ok (.ldc2_w 39, 3) := by decide +kernel
theorem dX5_isQueue_6 : decode cX5_isQueue 6 = .ok (.invokestatic 41, 3) := by decide +kernel
theorem dX5_isQueue_9 : decode cX5_isQueue 9 = .ok (.ireturn, 1) := by decide +kernel
theorem dX5_get_0 : decode cX5_get 0 = .ok (.aload_n 0, 1) := by decide +kernel
theorem dX5_get_1 : decode cX5_get 1 = .ok (.getfield 7, 3) := by decide +kernel
theorem dX5_get_4 : decode cX5_get 4 = .ok (.bipush 10, 2) := by decide +kernel
theorem dX5_get_6 : decode cX5_get 6 = .ok (.bipush 10, 2) := by decide +kernel
theorem dX5_get_8 : decode cX5_get 8 = .ok (.iload_n 1, 1) := by decide +kernel
theorem dX5_get_9 : decode cX5_get 9 = .ok (.imul, 1) := by decide +kernel
theorem dX5_get_10 : decode cX5_get 10 = .ok (.iadd, 1) := by decide +kernel
theorem dX5_get_11 : decode cX5_get 11 = .ok (.iload_n 2, 1) := by decide +kernel
theorem dX5_get_12 : decode cX5_get 12 = .ok (.iadd, 1) := by decide +kernel
theorem dX5_get_13 : decode cX5_get 13 = .ok (.iaload, 1) := by decide +kernel
theorem dX5_get_14 : decode cX5_get 14 = .ok (.ireturn, 1) := by decide +kernel
theorem dX5_lays_0 : decode cX5_lays 0 = .ok (.aload_n 0, 1) := by decide +kernel
theorem dX5_lays_1 : decode cX5_lays 1 = .ok (.getfield 7, 3) := by decide +kernel
theorem dX5_lays_4 : decode cX5_lays 4 = .ok (.bipush 10, 2) := by decide +kernel
theorem dX5_lays_6 : decode cX5_lays 6 = .ok (.bipush 10, 2) := by decide +kernel
theorem dX5_lays_8 : decode cX5_lays 8 = .ok (.iload_n 1, 1) := by decide +kernel
theorem dX5_lays_9 : decode cX5_lays 9 = .ok (.imul, 1) := by decide +kernel
theorem dX5_lays_10 : decode cX5_lays 10 = .ok (.iadd, 1) := by decide +kernel
theorem dX5_lays_11 : decode cX5_lays 11 = .ok (.iload_n 2, 1) := by decide +kernel
theorem dX5_lays_12 : decode cX5_lays 12 = .ok (.iadd, 1) := by decide +kernel
theorem dX5_lays_13 : decode cX5_lays 13 = .ok (.iload_n 3, 1) := by decide +kernel
theorem dX5_lays_14 : decode cX5_lays 14 = .ok (.iastore, 1) := by decide +kernel
theorem dX5_lays_15 : decode cX5_lays 15 = .ok (.return_, 1) := by decide +kernel
theorem dX5_more_0 : decode cX5_more 0 = .ok (.aload_n 0, 1) := by decide +kernel
theorem dX5_more_1 : decode cX5_more 1 = .ok (.getfield 7, 3) := by decide +kernel
theorem dX5_more_4 : decode cX5_more 4 = .ok (.bipush 10, 2) := by decide +kernel
theorem dX5_more_6 : decode cX5_more 6 = .ok (.bipush 10, 2) := by decide +kernel
theorem dX5_more_8 : decode cX5_more 8 = .ok (.iload_n 1, 1) := by decide +kernel
theorem dX5_more_9 : decode cX5_more 9 = .ok (.imul, 1) := by decide +kernel
theorem dX5_more_10 : decode cX5_more 10 = .ok (.iadd, 1) := by decide +kernel
theorem dX5_more_11 : decode cX5_more 11 = .ok (.iload_n 2, 1) := by decide +kernel
theorem dX5_more_12 : decode cX5_more 12 = .ok (.iadd, 1) := by decide +kernel
theorem dX5_more_13 : decode cX5_more 13 = .ok (.dup2, 1) := by decide +kernel
theorem dX5_more_14 : decode cX5_more 14 = .ok (.iaload, 1) := by decide +kernel
theorem dX5_more_15 : decode cX5_more 15 = .ok (.iload_n 3, 1) := by decide +kernel
theorem dX5_more_16 : decode cX5_more 16 = .ok (.iadd, 1) := by decide +kernel
theorem dX5_more_17 : decode cX5_more 17 = .ok (.iastore, 1) := by decide +kernel
theorem dX5_more_18 : decode cX5_more 18 = .ok (.return_, 1) := by decide +kernel
theorem dX5_frameAt_0 : decode cX5_frameAt 0 = .ok (.aload_n 0, 1) := by decide +kernel
theorem dX5_frameAt_1 : decode cX5_frameAt 1 = .ok (.getfield 7, 3) := by decide +kernel
theorem dX5_frameAt_4 : decode cX5_frameAt 4 = .ok (.bipush 40, 2) := by decide +kernel
theorem dX5_frameAt_6 : decode cX5_frameAt 6 = .ok (.iconst 4, 1) := by decide +kernel
theorem dX5_frameAt_7 : decode cX5_frameAt 7 = .ok (.iload_n 1, 1) := by decide +kernel
theorem dX5_frameAt_8 : decode cX5_frameAt 8 = .ok (.imul, 1) := by decide +kernel
theorem dX5_frameAt_9 : decode cX5_frameAt 9 = .ok (.iadd, 1) := by decide +kernel
theorem dX5_frameAt_10 : decode cX5_frameAt 10 = .ok (.iload_n 2, 1) := by decide +kernel
theorem dX5_frameAt_11 : decode cX5_frameAt 11 = .ok (.iadd, 1) := by decide +kernel
theorem dX5_frameAt_12 : decode cX5_frameAt 12 = .ok (.iaload, 1) := by decide +kernel
theorem dX5_frameAt_13 : decode cX5_frameAt 13 = .ok (.ireturn, 1) := by decide +kernel
theorem dX5_isInRing_0 : decode cX5_isInRing 0 = .ok (.aload_n 0, 1) := by decide +kernel
theorem dX5_isInRing_1 : decode cX5_isInRing 1 = .ok (.iload_n 1, 1) := by decide +kernel
theorem dX5_isInRing_2 : decode cX5_isInRing 2 = .ok (.iconst 2, 1) := by decide +kernel
theorem dX5_isInRing_3 : decode cX5_isInRing 3 = .ok (.invokevirtual 45, 3) := by decide +kernel
theorem dX5_isInRing_6 : decode cX5_isInRing 6 = .ok (.ifCond .ne 19, 3) := by decide +kernel
theorem dX5_isInRing_9 : decode cX5_isInRing 9 = .ok (.aload_n 0, 1) := by decide +kernel
theorem dX5_isInRing_10 : decode cX5_isInRing 10 = .ok (.iload_n 1, 1) := by decide +kernel
theorem dX5_isInRing_11 : decode cX5_isInRing 11 = .ok (.iconst 0, 1) := by decide +kernel
theorem dX5_isInRing_12 : decode cX5_isInRing 12 = .ok (.invokevirtual 45, 3) := by decide +kernel
theorem dX5_isInRing_15 : decode cX5_isInRing 15 = .ok (.iconst 3, 1) := by decide +kernel
theorem dX5_isInRing_16 : decode cX5_isInRing 16 = .ok (.irem, 1) := by decide +kernel
theorem dX5_isInRing_17 : decode cX5_isInRing 17 = .ok (.iload_n 2, 1) := by decide +kernel
theorem dX5_isInRing_18 : decode cX5_isInRing 18 = .ok (.if_icmp .ne 7, 3) := by decide +kernel
theorem dX5_isInRing_21 : decode cX5_isInRing 21 = .ok (.iconst 1, 1) := by decide +kernel
theorem dX5_isInRing_22 : decode cX5_isInRing 22 = .ok (.goto 4, 3) := by decide +kernel
theorem dX5_isInRing_25 : decode cX5_isInRing 25 = .ok (.iconst 0, 1) := by decide +kernel
theorem dX5_isInRing_26 : decode cX5_isInRing 26 = .ok (.ireturn, 1) := by decide +kernel
theorem dX5_ring_0 : decode cX5_ring 0 = .ok (.iconst 0, 1) := by decide +kernel
theorem dX5_ring_1 : decode cX5_ring 1 = .ok (.istore_n 2, 1) := by decide +kernel
theorem dX5_ring_2 : decode cX5_ring 2 = .ok (.iconst 0, 1) := by decide +kernel
theorem dX5_ring_3 : decode cX5_ring 3 = .ok (.istore_n 3, 1) := by decide +kernel
theorem dX5_ring_4 : decode cX5_ring 4 = .ok (.iload_n 3, 1) := by decide +kernel
theorem dX5_ring_5 : decode cX5_ring 5 = .ok (.aload_n 0, 1) := by decide +kernel
theorem dX5_ring_6 : decode cX5_ring 6 = .ok (.getfield 7, 3) := by decide +kernel
theorem dX5_ring_9 : decode cX5_ring 9 = .ok (.iconst 5, 1) := by decide +kernel
theorem dX5_ring_10 : decode cX5_ring 10 = .ok (.iaload, 1) := by decide +kernel
theorem dX5_ring_11 : decode cX5_ring 11 = .ok (.if_icmp .ge 26, 3) := by decide +kernel
theorem dX5_ring_14 : decode cX5_ring 14 = .ok (.iload_n 2, 1) := by decide +kernel
theorem dX5_ring_15 : decode cX5_ring 15 = .ok (.aload_n 0, 1) := by decide +kernel
theorem dX5_ring_16 : decode cX5_ring 16 = .ok (.iload_n 3, 1) := by decide +kernel
theorem dX5_ring_17 : decode cX5_ring 17 = .ok (.iload_n 1, 1) := by decide +kernel
theorem dX5_ring_18 : decode cX5_ring 18 = .ok (.invokevirtual 49, 3) := by decide +kernel
theorem dX5_ring_21 : decode cX5_ring 21 = .ok (.ifCond .eq 7, 3) := by decide +kernel
theorem dX5_ring_24 : decode cX5_ring 24 = .ok (.iconst 1, 1) := by decide +kernel
theorem dX5_ring_25 : decode cX5_ring 25 = .ok (.goto 4, 3) := by decide +kernel
theorem dX5_ring_28 : decode cX5_ring 28 = .ok (.iconst 0, 1) := by decide +kernel
theorem dX5_ring_29 : decode cX5_ring 29 = .ok (.iadd, 1) := by decide +kernel
theorem dX5_ring_30 : decode cX5_ring 30 = .ok (.istore_n 2, 1) := by decide +kernel
theorem dX5_ring_31 : decode cX5_ring 31 = .ok (.iinc 3 1, 3) := by decide +kernel
theorem dX5_ring_34 : decode cX5_ring 34 = .ok (.goto (-30), 3) := by decide +kernel
theorem dX5_ring_37 : decode cX5_ring 37 = .ok (.iload_n 2, 1) := by decide +kernel
theorem dX5_ring_38 : decode cX5_ring 38 = .ok (.ireturn, 1) := by decide +kernel
theorem dX5_oldest_0 : decode cX5_oldest 0 = .ok (.iconst 0, 1) := by decide +kernel
theorem dX5_oldest_1 : decode cX5_oldest 1 = .ok (.istore_n 2, 1) := by decide +kernel
theorem dX5_oldest_2 : decode cX5_oldest 2 = .ok (.iload_n 2, 1) := by decide +kernel
theorem dX5_oldest_3 : decode cX5_oldest 3 = .ok (.aload_n 0, 1) := by decide +kernel
theorem dX5_oldest_4 : decode cX5_oldest 4 = .ok (.getfield 7, 3) := by decide +kernel
theorem dX5_oldest_7 : decode cX5_oldest 7 = .ok (.iconst 5, 1) := by decide +kernel
theorem dX5_oldest_8 : decode cX5_oldest 8 = .ok (.iaload, 1) := by decide +kernel
theorem dX5_oldest_9 : decode cX5_oldest 9 = .ok (.if_icmp .ge 20, 3) := by decide +kernel
theorem dX5_oldest_12 : decode cX5_oldest 12 = .ok (.aload_n 0, 1) := by decide +kernel
theorem dX5_oldest_13 : decode cX5_oldest 13 = .ok (.iload_n 2, 1) := by decide +kernel
theorem dX5_oldest_14 : decode cX5_oldest 14 = .ok (.iload_n 1, 1) := by decide +kernel
theorem dX5_oldest_15 : decode cX5_oldest 15 = .ok (.invokevirtual 49, 3) := by decide +kernel
theorem dX5_oldest_18 : decode cX5_oldest 18 = .ok (.ifCond .eq 5, 3) := by decide +kernel
theorem dX5_oldest_21 : decode cX5_oldest 21 = .ok (.iload_n 2, 1) := by decide +kernel
theorem dX5_oldest_22 : decode cX5_oldest 22 = .ok (.ireturn, 1) := by decide +kernel
theorem dX5_oldest_23 : decode cX5_oldest 23 = .ok (.iinc 2 1, 3) := by decide +kernel
theorem dX5_oldest_26 : decode cX5_oldest 26 = .ok (.goto (-24), 3) := by decide +kernel
theorem dX5_oldest_29 : decode cX5_oldest 29 = .ok (.bipush (-6), 2) := by decide +kernel
theorem dX5_oldest_31 : decode cX5_oldest 31 = .ok (.ireturn, 1) := by decide +kernel
theorem dX5_placeInRow_0 : decode cX5_placeInRow 0 = .ok (.iconst 0, 1) := by decide +kernel
theorem dX5_placeInRow_1 : decode cX5_placeInRow 1 = .ok (.istore_n 2, 1) := by decide +kernel
theorem dX5_placeInRow_2 : decode cX5_placeInRow 2 = .ok (.iload_n 2, 1) := by decide +kernel
theorem dX5_placeInRow_3 : decode cX5_placeInRow 3 = .ok (.aload_n 0, 1) := by decide +kernel
theorem dX5_placeInRow_4 : decode cX5_placeInRow 4 = .ok (.getfield 7, 3) := by decide +kernel
theorem dX5_placeInRow_7 : decode cX5_placeInRow 7 = .ok (.bipush 6, 2) := by decide +kernel
theorem dX5_placeInRow_9 : decode cX5_placeInRow 9 = .ok (.iaload, 1) := by decide +kernel
theorem dX5_placeInRow_10 : decode cX5_placeInRow 10 = .ok (.if_icmp .ge 24, 3) := by decide +kernel
theorem dX5_placeInRow_13 : decode cX5_placeInRow 13 = .ok (.aload_n 0, 1) := by decide +kernel
theorem dX5_placeInRow_14 : decode cX5_placeInRow 14 = .ok (.getfield 7, 3) := by decide +kernel
theorem dX5_placeInRow_17 : decode cX5_placeInRow 17 = .ok (.bipush 7, 2) := by decide +kernel
theorem dX5_placeInRow_19 : decode cX5_placeInRow 19 = .ok (.iload_n 2, 1) := by decide +kernel
theorem dX5_placeInRow_20 : decode cX5_placeInRow 20 = .ok (.iadd, 1) := by decide +kernel
theorem dX5_placeInRow_21 : decode cX5_placeInRow 21 = .ok (.iaload, 1) := by decide +kernel
theorem dX5_placeInRow_22 : decode cX5_placeInRow 22 = .ok (.iload_n 1, 1) := by decide +kernel
theorem dX5_placeInRow_23 : decode cX5_placeInRow 23 = .ok (.if_icmp .ne 5, 3) := by decide +kernel
theorem dX5_placeInRow_26 : decode cX5_placeInRow 26 = .ok (.iload_n 2, 1) := by decide +kernel
theorem dX5_placeInRow_27 : decode cX5_placeInRow 27 = .ok (.ireturn, 1) := by decide +kernel
theorem dX5_placeInRow_28 : decode cX5_placeInRow 28 = .ok (.iinc 2 1, 3) := by decide +kernel
theorem dX5_placeInRow_31 : decode cX5_placeInRow 31 = .ok (.goto (-29), 3) := by decide +kernel
theorem dX5_placeInRow_34 : decode cX5_placeInRow 34 = .ok (.bipush (-6), 2) := by decide +kernel
theorem dX5_placeInRow_36 : decode cX5_placeInRow 36 = .ok (.ireturn, 1) := by decide +kernel
theorem dX5_allOf_0 : decode cX5_allOf 0 = .ok (.aload_n 0, 1) := by decide +kernel
theorem dX5_allOf_1 : decode cX5_allOf 1 = .ok (.iconst 0, 1) := by decide +kernel
theorem dX5_allOf_2 : decode cX5_allOf 2 = .ok (.iload_n 1, 1) := by decide +kernel
theorem dX5_allOf_3 : decode cX5_allOf 3 = .ok (.invokevirtual 53, 3) := by decide +kernel
theorem dX5_allOf_6 : decode cX5_allOf 6 = .ok (.aload_n 0, 1) := by decide +kernel
theorem dX5_allOf_7 : decode cX5_allOf 7 = .ok (.iconst 1, 1) := by decide +kernel
theorem dX5_allOf_8 : decode cX5_allOf 8 = .ok (.iload_n 1, 1) := by decide +kernel
theorem dX5_allOf_9 : decode cX5_allOf 9 = .ok (.invokevirtual 53, 3) := by decide +kernel
theorem dX5_allOf_12 : decode cX5_allOf 12 = .ok (.iadd, 1) := by decide +kernel
theorem dX5_allOf_13 : decode cX5_allOf 13 = .ok (.aload_n 0, 1) := by decide +kernel
theorem dX5_allOf_14 : decode cX5_allOf 14 = .ok (.iconst 2, 1) := by decide +kernel
theorem dX5_allOf_15 : decode cX5_allOf 15 = .ok (.iload_n 1, 1) := by decide +kernel
theorem dX5_allOf_16 : decode cX5_allOf 16 = .ok (.invokevirtual 53, 3) := by decide +kernel
theorem dX5_allOf_19 : decode cX5_allOf 19 = .ok (.iadd, 1) := by decide +kernel
theorem dX5_allOf_20 : decode cX5_allOf 20 = .ok (.ireturn, 1) := by decide +kernel
theorem dX5_inRings_0 : decode cX5_inRings 0 = .ok (.aload_n 0, 1) := by decide +kernel
theorem dX5_inRings_1 : decode cX5_inRings 1 = .ok (.iconst 0, 1) := by decide +kernel
theorem dX5_inRings_2 : decode cX5_inRings 2 = .ok (.invokevirtual 56, 3) := by decide +kernel
theorem dX5_inRings_5 : decode cX5_inRings 5 = .ok (.aload_n 0, 1) := by decide +kernel
theorem dX5_inRings_6 : decode cX5_inRings 6 = .ok (.iconst 1, 1) := by decide +kernel
theorem dX5_inRings_7 : decode cX5_inRings 7 = .ok (.invokevirtual 56, 3) := by decide +kernel
theorem dX5_inRings_10 : decode cX5_inRings 10 = .ok (.iadd, 1) := by decide +kernel
theorem dX5_inRings_11 : decode cX5_inRings 11 = .ok (.aload_n 0, 1) := by decide +kernel
theorem dX5_inRings_12 : decode cX5_inRings 12 = .ok (.iconst 2, 1) := by decide +kernel
theorem dX5_inRings_13 : decode cX5_inRings 13 = .ok (.invokevirtual 56, 3) := by decide +kernel
theorem dX5_inRings_16 : decode cX5_inRings 16 = .ok (.iadd, 1) := by decide +kernel
theorem dX5_inRings_17 : decode cX5_inRings 17 = .ok (.ireturn, 1) := by decide +kernel
theorem dX5_doCome_0 : decode cX5_doCome 0 = .ok (.aload_n 0, 1) := by decide +kernel
theorem dX5_doCome_1 : decode cX5_doCome 1 = .ok (.getfield 7, 3) := by decide +kernel
theorem dX5_doCome_4 : decode cX5_doCome 4 = .ok (.iconst 5, 1) := by decide +kernel
theorem dX5_doCome_5 : decode cX5_doCome 5 = .ok (.iaload, 1) := by decide +kernel
theorem dX5_doCome_6 : decode cX5_doCome 6 = .ok (.istore_n 2, 1) := by decide +kernel
theorem dX5_doCome_7 : decode cX5_doCome 7 = .ok (.iload_n 1, 1) := by decide +kernel
theorem dX5_doCome_8 : decode cX5_doCome 8 = .ok (.iconst 3, 1) := by decide +kernel
theorem dX5_doCome_9 : decode cX5_doCome 9 = .ok (.irem, 1) := by decide +kernel
theorem dX5_doCome_10 : decode cX5_doCome 10 = .ok (.istore_n 3, 1) := by decide +kernel
theorem dX5_doCome_11 : decode cX5_doCome 11 = .ok (.aload_n 0, 1) := by decide +kernel
theorem dX5_doCome_12 : decode cX5_doCome 12 = .ok (.iload_n 3, 1) := by decide +kernel
theorem dX5_doCome_13 : decode cX5_doCome 13 = .ok (.invokevirtual 56, 3) := by decide +kernel
theorem dX5_doCome_16 : decode cX5_doCome 16 = .ok (.aload_n 0, 1) := by decide +kernel
theorem dX5_doCome_17 : decode cX5_doCome 17 = .ok (.getfield 7, 3) := by decide +kernel
theorem dX5_doCome_20 : decode cX5_doCome 20 = .ok (.iconst 0, 1) := by decide +kernel
theorem dX5_doCome_21 : decode cX5_doCome 21 = .ok (.iaload, 1) := by decide +kernel
theorem dX5_doCome_22 : decode cX5_doCome 22 = .ok (.if_icmp .lt 7, 3) := by decide +kernel
theorem dX5_doCome_25 : decode cX5_doCome 25 = .ok (.iconst 1, 1) := by decide +kernel
theorem dX5_doCome_26 : decode cX5_doCome 26 = .ok (.goto 4, 3) := by decide +kernel
theorem dX5_doCome_29 : decode cX5_doCome 29 = .ok (.iconst 0, 1) := by decide +kernel
theorem dX5_doCome_30 : decode cX5_doCome 30 = .ok (.istore 4, 2) := by decide +kernel
theorem dX5_doCome_32 : decode cX5_doCome 32 = .ok (.bipush 40, 2) := by decide +kernel
theorem dX5_doCome_34 : decode cX5_doCome 34 = .ok (.iconst 4, 1) := by decide +kernel
theorem dX5_doCome_35 : decode cX5_doCome 35 = .ok (.iload_n 2, 1) := by decide +kernel
theorem dX5_doCome_36 : decode cX5_doCome 36 = .ok (.imul, 1) := by decide +kernel
theorem dX5_doCome_37 : decode cX5_doCome 37 = .ok (.iadd, 1) := by decide +kernel
theorem dX5_doCome_38 : decode cX5_doCome 38 = .ok (.istore 5, 2) := by decide +kernel
theorem dX5_doCome_40 : decode cX5_doCome 40 = .ok (.aload_n 0, 1) := by decide +kernel
theorem dX5_doCome_41 : decode cX5_doCome 41 = .ok (.getfield 7, 3) := by decide +kernel
theorem dX5_doCome_44 : decode cX5_doCome 44 = .ok (.iload 5, 2) := by decide +kernel
theorem dX5_doCome_46 : decode cX5_doCome 46 = .ok (.iconst 0, 1) := by decide +kernel
theorem dX5_doCome_47 : decode cX5_doCome 47 = .ok (.iadd, 1) := by decide +kernel
theorem dX5_doCome_48 : decode cX5_doCome 48 = .ok (.iload_n 1, 1) := by decide +kernel
theorem dX5_doCome_49 : decode cX5_doCome 49 = .ok (.iastore, 1) := by decide +kernel
theorem dX5_doCome_50 : decode cX5_doCome 50 = .ok (.aload_n 0, 1) := by decide +kernel
theorem dX5_doCome_51 : decode cX5_doCome 51 = .ok (.getfield 7, 3) := by decide +kernel
theorem dX5_doCome_54 : decode cX5_doCome 54 = .ok (.iload 5, 2) := by decide +kernel
theorem dX5_doCome_56 : decode cX5_doCome 56 = .ok (.iconst 1, 1) := by decide +kernel
theorem dX5_doCome_57 : decode cX5_doCome 57 = .ok (.iadd, 1) := by decide +kernel
theorem dX5_doCome_58 : decode cX5_doCome 58 = .ok (.aload_n 0, 1) := by decide +kernel
theorem dX5_doCome_59 : decode cX5_doCome 59 = .ok (.getfield 7, 3) := by decide +kernel
theorem dX5_doCome_62 : decode cX5_doCome 62 = .ok (.iconst 4, 1) := by decide +kernel
theorem dX5_doCome_63 : decode cX5_doCome 63 = .ok (.iaload, 1) := by decide +kernel
theorem dX5_doCome_64 : decode cX5_doCome 64 = .ok (.iastore, 1) := by decide +kernel
theorem dX5_doCome_65 : decode cX5_doCome 65 = .ok (.aload_n 0, 1) := by decide +kernel
theorem dX5_doCome_66 : decode cX5_doCome 66 = .ok (.getfield 7, 3) := by decide +kernel
theorem dX5_doCome_69 : decode cX5_doCome 69 = .ok (.iload 5, 2) := by decide +kernel
theorem dX5_doCome_71 : decode cX5_doCome 71 = .ok (.iconst 2, 1) := by decide +kernel
theorem dX5_doCome_72 : decode cX5_doCome 72 = .ok (.iadd, 1) := by decide +kernel
theorem dX5_doCome_73 : decode cX5_doCome 73 = .ok (.iload 4, 2) := by decide +kernel
theorem dX5_doCome_75 : decode cX5_doCome 75 = .ok (.ifCond .eq 7, 3) := by decide +kernel
theorem dX5_doCome_78 : decode cX5_doCome 78 = .ok (.iconst 2, 1) := by decide +kernel
theorem dX5_doCome_79 : decode cX5_doCome 79 = .ok (.goto 4, 3) := by decide +kernel
theorem dX5_doCome_82 : decode cX5_doCome 82 = .ok (.iconst 0, 1) := by decide +kernel
theorem dX5_doCome_83 : decode cX5_doCome 83 = .ok (.iastore, 1) := by decide +kernel
theorem dX5_doCome_84 : decode cX5_doCome 84 = .ok (.aload_n 0, 1) := by decide +kernel
theorem dX5_doCome_85 : decode cX5_doCome 85 = .ok (.getfield 7, 3) := by decide +kernel
theorem dX5_doCome_88 : decode cX5_doCome 88 = .ok (.iload 5, 2) := by decide +kernel
theorem dX5_doCome_90 : decode cX5_doCome 90 = .ok (.iconst 3, 1) := by decide +kernel
theorem dX5_doCome_91 : decode cX5_doCome 91 = .ok (.iadd, 1) := by decide +kernel
theorem dX5_doCome_92 : decode cX5_doCome 92 = .ok (.iconst 0, 1) := by decide +kernel
theorem dX5_doCome_93 : decode cX5_doCome 93 = .ok (.iastore, 1) := by decide +kernel
theorem dX5_doCome_94 : decode cX5_doCome 94 = .ok (.aload_n 0, 1) := by decide +kernel
theorem dX5_doCome_95 : decode cX5_doCome 95 = .ok (.getfield 7, 3) := by decide +kernel
theorem dX5_doCome_98 : decode cX5_doCome 98 = .ok (.iconst 5, 1) := by decide +kernel
theorem dX5_doCome_99 : decode cX5_doCome 99 = .ok (.dup2, 1) := by decide +kernel
theorem dX5_doCome_100 : decode cX5_doCome 100 = .ok (.iaload, 1) := by decide +kernel
theorem dX5_doCome_101 : decode cX5_doCome 101 = .ok (.iconst 1, 1) := by decide +kernel
theorem dX5_doCome_102 : decode cX5_doCome 102 = .ok (.iadd, 1) := by decide +kernel
theorem dX5_doCome_103 : decode cX5_doCome 103 = .ok (.iastore, 1) := by decide +kernel
theorem dX5_doCome_104 : decode cX5_doCome 104 = .ok (.aload_n 0, 1) := by decide +kernel
theorem dX5_doCome_105 : decode cX5_doCome 105 = .ok (.iload_n 3, 1) := by decide +kernel
theorem dX5_doCome_106 : decode cX5_doCome 106 = .ok (.bipush 6, 2) := by decide +kernel
theorem dX5_doCome_108 : decode cX5_doCome 108 = .ok (.iload 4, 2) := by decide +kernel
theorem dX5_doCome_110 : decode cX5_doCome 110 = .ok (.ifCond .eq 7, 3) := by decide +kernel
theorem dX5_doCome_113 : decode cX5_doCome 113 = .ok (.iconst 1, 1) := by decide +kernel
theorem dX5_doCome_114 : decode cX5_doCome 114 = .ok (.goto 4, 3) := by decide +kernel
theorem dX5_doCome_117 : decode cX5_doCome 117 = .ok (.iconst 0, 1) := by decide +kernel
theorem dX5_doCome_118 : decode cX5_doCome 118 = .ok (.invokevirtual 60, 3) := by decide +kernel
theorem dX5_doCome_121 : decode cX5_doCome 121 = .ok (.iload_n 2, 1) := by decide +kernel
theorem dX5_doCome_122 : decode cX5_doCome 122 = .ok (.ireturn, 1) := by decide +kernel
theorem dX5_doCall_0 : decode cX5_doCall 0 = .ok (.aload_n 0, 1) := by decide +kernel
theorem dX5_doCall_1 : decode cX5_doCall 1 = .ok (.getfield 7, 3) := by decide +kernel
theorem dX5_doCall_4 : decode cX5_doCall 4 = .ok (.bipush 7, 2) := by decide +kernel
theorem dX5_doCall_6 : decode cX5_doCall 6 = .ok (.aload_n 0, 1) := by decide +kernel
theorem dX5_doCall_7 : decode cX5_doCall 7 = .ok (.getfield 7, 3) := by decide +kernel
theorem dX5_doCall_10 : decode cX5_doCall 10 = .ok (.bipush 6, 2) := by decide +kernel
theorem dX5_doCall_12 : decode cX5_doCall 12 = .ok (.iaload, 1) := by decide +kernel
theorem dX5_doCall_13 : decode cX5_doCall 13 = .ok (.iadd, 1) := by decide +kernel
theorem dX5_doCall_14 : decode cX5_doCall 14 = .ok (.iload_n 1, 1) := by decide +kernel
theorem dX5_doCall_15 : decode cX5_doCall 15 = .ok (.iastore, 1) := by decide +kernel
theorem dX5_doCall_16 : decode cX5_doCall 16 = .ok (.aload_n 0, 1) := by decide +kernel
theorem dX5_doCall_17 : decode cX5_doCall 17 = .ok (.getfield 7, 3) := by decide +kernel
theorem dX5_doCall_20 : decode cX5_doCall 20 = .ok (.bipush 6, 2) := by decide +kernel
theorem dX5_doCall_22 : decode cX5_doCall 22 = .ok (.dup2, 1) := by decide +kernel
theorem dX5_doCall_23 : decode cX5_doCall 23 = .ok (.iaload, 1) := by decide +kernel
theorem dX5_doCall_24 : decode cX5_doCall 24 = .ok (.iconst 1, 1) := by decide +kernel
theorem dX5_doCall_25 : decode cX5_doCall 25 = .ok (.iadd, 1) := by decide +kernel
theorem dX5_doCall_26 : decode cX5_doCall 26 = .ok (.iastore, 1) := by decide +kernel
theorem dX5_doCall_27 : decode cX5_doCall 27 = .ok (.aload_n 0, 1) := by decide +kernel
theorem dX5_doCall_28 : decode cX5_doCall 28 = .ok (.iload_n 1, 1) := by decide +kernel
theorem dX5_doCall_29 : decode cX5_doCall 29 = .ok (.iconst 4, 1) := by decide +kernel
theorem dX5_doCall_30 : decode cX5_doCall 30 = .ok (.iconst 1, 1) := by decide +kernel
theorem dX5_doCall_31 : decode cX5_doCall 31 = .ok (.invokevirtual 60, 3) := by decide +kernel
theorem dX5_doCall_34 : decode cX5_doCall 34 = .ok (.aload_n 0, 1) := by decide +kernel
theorem dX5_doCall_35 : decode cX5_doCall 35 = .ok (.iload_n 1, 1) := by decide +kernel
theorem dX5_doCall_36 : decode cX5_doCall 36 = .ok (.bipush 9, 2) := by decide +kernel
theorem dX5_doCall_38 : decode cX5_doCall 38 = .ok (.iconst 0, 1) := by decide +kernel
theorem dX5_doCall_39 : decode cX5_doCall 39 = .ok (.invokevirtual 31, 3) := by decide +kernel
theorem dX5_doCall_42 : decode cX5_doCall 42 = .ok (.return_, 1) := by decide +kernel
theorem dX5_takes_0 : decode cX5_takes 0 = .ok (.aload_n 0, 1) := by decide +kernel
theorem dX5_takes_1 : decode cX5_takes 1 = .ok (.getfield 7, 3) := by decide +kernel
theorem dX5_takes_4 : decode cX5_takes 4 = .ok (.iconst 4, 1) := by decide +kernel
theorem dX5_takes_5 : decode cX5_takes 5 = .ok (.iaload, 1) := by decide +kernel
theorem dX5_takes_6 : decode cX5_takes 6 = .ok (.aload_n 0, 1) := by decide +kernel
theorem dX5_takes_7 : decode cX5_takes 7 = .ok (.iload_n 1, 1) := by decide +kernel
theorem dX5_takes_8 : decode cX5_takes 8 = .ok (.iconst 1, 1) := by decide +kernel
theorem dX5_takes_9 : decode cX5_takes 9 = .ok (.invokevirtual 45, 3) := by decide +kernel
theorem dX5_takes_12 : decode cX5_takes 12 = .ok (.isub, 1) := by decide +kernel
theorem dX5_takes_13 : decode cX5_takes 13 = .ok (.istore_n 3, 1) := by decide +kernel
theorem dX5_takes_14 : decode cX5_takes 14 = .ok (.aload_n 0, 1) := by decide +kernel
theorem dX5_takes_15 : decode cX5_takes 15 = .ok (.getfield 7, 3) := by decide +kernel
theorem dX5_takes_18 : decode cX5_takes 18 = .ok (.bipush 40, 2) := by decide +kernel
theorem dX5_takes_20 : decode cX5_takes 20 = .ok (.iconst 4, 1) := by decide +kernel
theorem dX5_takes_21 : decode cX5_takes 21 = .ok (.iload_n 1, 1) := by decide +kernel
theorem dX5_takes_22 : decode cX5_takes 22 = .ok (.imul, 1) := by decide +kernel
theorem dX5_takes_23 : decode cX5_takes 23 = .ok (.iadd, 1) := by decide +kernel
theorem dX5_takes_24 : decode cX5_takes 24 = .ok (.iconst 2, 1) := by decide +kernel
theorem dX5_takes_25 : decode cX5_takes 25 = .ok (.iadd, 1) := by decide +kernel
theorem dX5_takes_26 : decode cX5_takes 26 = .ok (.iconst 1, 1) := by decide +kernel
theorem dX5_takes_27 : decode cX5_takes 27 = .ok (.iastore, 1) := by decide +kernel
theorem dX5_takes_28 : decode cX5_takes 28 = .ok (.aload_n 0, 1) := by decide +kernel
theorem dX5_takes_29 : decode cX5_takes 29 = .ok (.getfield 7, 3) := by decide +kernel
theorem dX5_takes_32 : decode cX5_takes 32 = .ok (.bipush 40, 2) := by decide +kernel
theorem dX5_takes_34 : decode cX5_takes 34 = .ok (.iconst 4, 1) := by decide +kernel
theorem dX5_takes_35 : decode cX5_takes 35 = .ok (.iload_n 1, 1) := by decide +kernel
theorem dX5_takes_36 : decode cX5_takes 36 = .ok (.imul, 1) := by decide +kernel
theorem dX5_takes_37 : decode cX5_takes 37 = .ok (.iadd, 1) := by decide +kernel
theorem dX5_takes_38 : decode cX5_takes 38 = .ok (.iconst 3, 1) := by decide +kernel
theorem dX5_takes_39 : decode cX5_takes 39 = .ok (.iadd, 1) := by decide +kernel
theorem dX5_takes_40 : decode cX5_takes 40 = .ok (.iload_n 3, 1) := by decide +kernel
theorem dX5_takes_41 : decode cX5_takes 41 = .ok (.iastore, 1) := by decide +kernel
theorem dX5_takes_42 : decode cX5_takes 42 = .ok (.aload_n 0, 1) := by decide +kernel
theorem dX5_takes_43 : decode cX5_takes 43 = .ok (.iload_n 2, 1) := by decide +kernel
theorem dX5_takes_44 : decode cX5_takes 44 = .ok (.iconst 5, 1) := by decide +kernel
theorem dX5_takes_45 : decode cX5_takes 45 = .ok (.iconst 1, 1) := by decide +kernel
theorem dX5_takes_46 : decode cX5_takes 46 = .ok (.invokevirtual 60, 3) := by decide +kernel
theorem dX5_takes_49 : decode cX5_takes 49 = .ok (.aload_n 0, 1) := by decide +kernel
theorem dX5_takes_50 : decode cX5_takes 50 = .ok (.iload_n 2, 1) := by decide +kernel
theorem dX5_takes_51 : decode cX5_takes 51 = .ok (.bipush 9, 2) := by decide +kernel
theorem dX5_takes_53 : decode cX5_takes 53 = .ok (.iconst 1, 1) := by decide +kernel
theorem dX5_takes_54 : decode cX5_takes 54 = .ok (.invokevirtual 60, 3) := by decide +kernel
theorem dX5_takes_57 : decode cX5_takes 57 = .ok (.aload_n 0, 1) := by decide +kernel
theorem dX5_takes_58 : decode cX5_takes 58 = .ok (.iload_n 2, 1) := by decide +kernel
theorem dX5_takes_59 : decode cX5_takes 59 = .ok (.bipush 7, 2) := by decide +kernel
theorem dX5_takes_61 : decode cX5_takes 61 = .ok (.iload_n 3, 1) := by decide +kernel
theorem dX5_takes_62 : decode cX5_takes 62 = .ok (.invokevirtual 60, 3) := by decide +kernel
theorem dX5_takes_65 : decode cX5_takes 65 = .ok (.aload_n 0, 1) := by decide +kernel
theorem dX5_takes_66 : decode cX5_takes 66 = .ok (.iload_n 2, 1) := by decide +kernel
theorem dX5_takes_67 : decode cX5_takes 67 = .ok (.bipush 8, 2) := by decide +kernel
theorem dX5_takes_69 : decode cX5_takes 69 = .ok (.iload_n 3, 1) := by decide +kernel
theorem dX5_takes_70 : decode cX5_takes 70 = .ok (.aload_n 0, 1) := by decide +kernel
theorem dX5_takes_71 : decode cX5_takes 71 = .ok (.iload_n 2, 1) := by decide +kernel
theorem dX5_takes_72 : decode cX5_takes 72 = .ok (.bipush 8, 2) := by decide +kernel
theorem dX5_takes_74 : decode cX5_takes 74 = .ok (.invokevirtual 53, 3) := by decide +kernel
theorem dX5_takes_77 : decode cX5_takes 77 = .ok (.if_icmp .le 7, 3) := by decide +kernel
theorem dX5_takes_80 : decode cX5_takes 80 = .ok (.iload_n 3, 1) := by decide +kernel
theorem dX5_takes_81 : decode cX5_takes 81 = .ok (.goto 10, 3) := by decide +kernel
theorem dX5_takes_84 : decode cX5_takes 84 = .ok (.aload_n 0, 1) := by decide +kernel
theorem dX5_takes_85 : decode cX5_takes 85 = .ok (.iload_n 2, 1) := by decide +kernel
theorem dX5_takes_86 : decode cX5_takes 86 = .ok (.bipush 8, 2) := by decide +kernel
theorem dX5_takes_88 : decode cX5_takes 88 = .ok (.invokevirtual 53, 3) := by decide +kernel
theorem dX5_takes_91 : decode cX5_takes 91 = .ok (.invokevirtual 31, 3) := by decide +kernel
theorem dX5_takes_94 : decode cX5_takes 94 = .ok (.return_, 1) := by decide +kernel
theorem dX5_leaves_0 : decode cX5_leaves 0 = .ok (.aload_n 0, 1) := by decide +kernel
theorem dX5_leaves_1 : decode cX5_leaves 1 = .ok (.iload_n 1, 1) := by decide +kernel
theorem dX5_leaves_2 : decode cX5_leaves 2 = .ok (.bipush 9, 2) := by decide +kernel
theorem dX5_leaves_4 : decode cX5_leaves 4 = .ok (.invokevirtual 53, 3) := by decide +kernel
theorem dX5_leaves_7 : decode cX5_leaves 7 = .ok (.istore_n 2, 1) := by decide +kernel
theorem dX5_leaves_8 : decode cX5_leaves 8 = .ok (.aload_n 0, 1) := by decide +kernel
theorem dX5_leaves_9 : decode cX5_leaves 9 = .ok (.iload_n 1, 1) := by decide +kernel
theorem dX5_leaves_10 : decode cX5_leaves 10 = .ok (.iconst 2, 1) := by decide +kernel
theorem dX5_leaves_11 : decode cX5_leaves 11 = .ok (.invokevirtual 53, 3) := by decide +kernel
theorem dX5_leaves_14 : decode cX5_leaves 14 = .ok (.istore_n 3, 1) := by decide +kernel
theorem dX5_leaves_15 : decode cX5_leaves 15 = .ok (.aload_n 0, 1) := by decide +kernel
theorem dX5_leaves_16 : decode cX5_leaves 16 = .ok (.getfield 7, 3) := by decide +kernel
theorem dX5_leaves_19 : decode cX5_leaves 19 = .ok (.iconst 2, 1) := by decide +kernel
theorem dX5_leaves_20 : decode cX5_leaves 20 = .ok (.iaload, 1) := by decide +kernel
theorem dX5_leaves_21 : decode cX5_leaves 21 = .ok (.iconst 1, 1) := by decide +kernel
theorem dX5_leaves_22 : decode cX5_leaves 22 = .ok (.if_icmp .ne 35, 3) := by decide +kernel
theorem dX5_leaves_25 : decode cX5_leaves 25 = .ok (.iload_n 2, 1) := by decide +kernel
theorem dX5_leaves_26 : decode cX5_leaves 26 = .ok (.iconst 2, 1) := by decide +kernel
theorem dX5_leaves_27 : decode cX5_leaves 27 = .ok (.iload_n 3, 1) := by decide +kernel
theorem dX5_leaves_28 : decode cX5_leaves 28 = .ok (.imul, 1) := by decide +kernel
theorem dX5_leaves_29 : decode cX5_leaves 29 = .ok (.if_icmp .le 28, 3) := by decide +kernel
theorem dX5_leaves_32 : decode cX5_leaves 32 = .ok (.aload_n 0, 1) := by decide +kernel
theorem dX5_leaves_33 : decode cX5_leaves 33 = .ok (.iload_n 1, 1) := by decide +kernel
theorem dX5_leaves_34 : decode cX5_leaves 34 = .ok (.iconst 2, 1) := by decide +kernel
theorem dX5_leaves_35 : decode cX5_leaves 35 = .ok (.iconst 2, 1) := by decide +kernel
theorem dX5_leaves_36 : decode cX5_leaves 36 = .ok (.iload_n 3, 1) := by decide +kernel
theorem dX5_leaves_37 : decode cX5_leaves 37 = .ok (.imul, 1) := by decide +kernel
theorem dX5_leaves_38 : decode cX5_leaves 38 = .ok (.bipush 32, 2) := by decide +kernel
theorem dX5_leaves_40 : decode cX5_leaves 40 = .ok (.if_icmp .le 8, 3) := by decide +kernel
theorem dX5_leaves_43 : decode cX5_leaves 43 = .ok (.bipush 32, 2) := by decide +kernel
theorem dX5_leaves_45 : decode cX5_leaves 45 = .ok (.goto 6, 3) := by decide +kernel
theorem dX5_leaves_48 : decode cX5_leaves 48 = .ok (.iconst 2, 1) := by decide +kernel
theorem dX5_leaves_49 : decode cX5_leaves 49 = .ok (.iload_n 3, 1) := by decide +kernel
theorem dX5_leaves_50 : decode cX5_leaves 50 = .ok (.imul, 1) := by decide +kernel
theorem dX5_leaves_51 : decode cX5_leaves 51 = .ok (.invokevirtual 31, 3) := by decide +kernel
theorem dX5_leaves_54 : decode cX5_leaves 54 = .ok (.goto 40, 3) := by decide +kernel
theorem dX5_leaves_57 : decode cX5_leaves 57 = .ok (.aload_n 0, 1) := by decide +kernel
theorem dX5_leaves_58 : decode cX5_leaves 58 = .ok (.getfield 7, 3) := by decide +kernel
theorem dX5_leaves_61 : decode cX5_leaves 61 = .ok (.iconst 2, 1) := by decide +kernel
theorem dX5_leaves_62 : decode cX5_leaves 62 = .ok (.iaload, 1) := by decide +kernel
theorem dX5_leaves_63 : decode cX5_leaves 63 = .ok (.iconst 1, 1) := by decide +kernel
theorem dX5_leaves_64 : decode cX5_leaves 64 = .ok (.if_icmp .ne 30, 3) := by decide +kernel
theorem dX5_leaves_67 : decode cX5_leaves 67 = .ok (.iconst 2, 1) := by decide +kernel
theorem dX5_leaves_68 : decode cX5_leaves 68 = .ok (.iload_n 2, 1) := by decide +kernel
theorem dX5_leaves_69 : decode cX5_leaves 69 = .ok (.imul, 1) := by decide +kernel
theorem dX5_leaves_70 : decode cX5_leaves 70 = .ok (.iload_n 3, 1) := by decide +kernel
theorem dX5_leaves_71 : decode cX5_leaves 71 = .ok (.if_icmp .ge 23, 3) := by decide +kernel
theorem dX5_leaves_74 : decode cX5_leaves 74 = .ok (.aload_n 0, 1) := by decide +kernel
theorem dX5_leaves_75 : decode cX5_leaves 75 = .ok (.iload_n 1, 1) := by decide +kernel
theorem dX5_leaves_76 : decode cX5_leaves 76 = .ok (.iconst 2, 1) := by decide +kernel
theorem dX5_leaves_77 : decode cX5_leaves 77 = .ok (.iload_n 3, 1) := by decide +kernel
theorem dX5_leaves_78 : decode cX5_leaves 78 = .ok (.iconst 2, 1) := by decide +kernel
theorem dX5_leaves_79 : decode cX5_leaves 79 = .ok (.idiv, 1) := by decide +kernel
theorem dX5_leaves_80 : decode cX5_leaves 80 = .ok (.iconst 1, 1) := by decide +kernel
theorem dX5_leaves_81 : decode cX5_leaves 81 = .ok (.if_icmp .ge 7, 3) := by decide +kernel
theorem dX5_leaves_84 : decode cX5_leaves 84 = .ok (.iconst 1, 1) := by decide +kernel
theorem dX5_leaves_85 : decode cX5_leaves 85 = .ok (.goto 6, 3) := by decide +kernel
theorem dX5_leaves_88 : decode cX5_leaves 88 = .ok (.iload_n 3, 1) := by decide +kernel
theorem dX5_leaves_89 : decode cX5_leaves 89 = .ok (.iconst 2, 1) := by decide +kernel
theorem dX5_leaves_90 : decode cX5_leaves 90 = .ok (.idiv, 1) := by decide +kernel
theorem dX5_leaves_91 : decode cX5_leaves 91 = .ok (.invokevirtual 31, 3) := by decide +kernel
theorem dX5_leaves_94 : decode cX5_leaves 94 = .ok (.aload_n 0, 1) := by decide +kernel
theorem dX5_leaves_95 : decode cX5_leaves 95 = .ok (.iload_n 1, 1) := by decide +kernel
theorem dX5_leaves_96 : decode cX5_leaves 96 = .ok (.bipush 9, 2) := by decide +kernel
theorem dX5_leaves_98 : decode cX5_leaves 98 = .ok (.iconst 0, 1) := by decide +kernel
theorem dX5_leaves_99 : decode cX5_leaves 99 = .ok (.invokevirtual 31, 3) := by decide +kernel
theorem dX5_leaves_102 : decode cX5_leaves 102 = .ok (.return_, 1) := by decide +kernel
theorem dX5_polls_0 : decode cX5_polls 0 = .ok (.aload_n 0, 1) := by decide +kernel
theorem dX5_polls_1 : decode cX5_polls 1 = .ok (.getfield 7, 3) := by decide +kernel
theorem dX5_polls_4 : decode cX5_polls 4 = .ok (.bipush 7, 2) := by decide +kernel
theorem dX5_polls_6 : decode cX5_polls 6 = .ok (.iaload, 1) := by decide +kernel
theorem dX5_polls_7 : decode cX5_polls 7 = .ok (.istore_n 1, 1) := by decide +kernel
theorem dX5_polls_8 : decode cX5_polls 8 = .ok (.iconst 0, 1) := by decide +kernel
theorem dX5_polls_9 : decode cX5_polls 9 = .ok (.istore_n 2, 1) := by decide +kernel
theorem dX5_polls_10 : decode cX5_polls 10 = .ok (.aload_n 0, 1) := by decide +kernel
theorem dX5_polls_11 : decode cX5_polls 11 = .ok (.iload_n 1, 1) := by decide +kernel
theorem dX5_polls_12 : decode cX5_polls 12 = .ok (.invokevirtual 63, 3) := by decide +kernel
theorem dX5_polls_15 : decode cX5_polls 15 = .ok (.istore_n 3, 1) := by decide +kernel
theorem dX5_polls_16 : decode cX5_polls 16 = .ok (.iload_n 2, 1) := by decide +kernel
theorem dX5_polls_17 : decode cX5_polls 17 = .ok (.aload_n 0, 1) := by decide +kernel
theorem dX5_polls_18 : decode cX5_polls 18 = .ok (.getfield 7, 3) := by decide +kernel
theorem dX5_polls_21 : decode cX5_polls 21 = .ok (.iconst 1, 1) := by decide +kernel
theorem dX5_polls_22 : decode cX5_polls 22 = .ok (.iaload, 1) := by decide +kernel
theorem dX5_polls_23 : decode cX5_polls 23 = .ok (.if_icmp .ge 27, 3) := by decide +kernel
theorem dX5_polls_26 : decode cX5_polls 26 = .ok (.iload_n 3, 1) := by decide +kernel
theorem dX5_polls_27 : decode cX5_polls 27 = .ok (.bipush (-6), 2) := by decide +kernel
theorem dX5_polls_29 : decode cX5_polls 29 = .ok (.if_icmp .eq 21, 3) := by decide +kernel
theorem dX5_polls_32 : decode cX5_polls 32 = .ok (.aload_n 0, 1) := by decide +kernel
theorem dX5_polls_33 : decode cX5_polls 33 = .ok (.iload_n 3, 1) := by decide +kernel
theorem dX5_polls_34 : decode cX5_polls 34 = .ok (.iload_n 1, 1) := by decide +kernel
theorem dX5_polls_35 : decode cX5_polls 35 = .ok (.invokevirtual 66, 3) := by decide +kernel
theorem dX5_polls_38 : decode cX5_polls 38 = .ok (.iinc 2 1, 3) := by decide +kernel
theorem dX5_polls_41 : decode cX5_polls 41 = .ok (.aload_n 0, 1) := by decide +kernel
theorem dX5_polls_42 : decode cX5_polls 42 = .ok (.iload_n 1, 1) := by decide +kernel
theorem dX5_polls_43 : decode cX5_polls 43 = .ok (.invokevirtual 63, 3) := by decide +kernel
theorem dX5_polls_46 : decode cX5_polls 46 = .ok (.istore_n 3, 1) := by decide +kernel
theorem dX5_polls_47 : decode cX5_polls 47 = .ok (.goto (-31), 3) := by decide +kernel
theorem dX5_polls_50 : decode cX5_polls 50 = .ok (.iconst 1, 1) := by decide +kernel
theorem dX5_polls_51 : decode cX5_polls 51 = .ok (.istore 4, 2) := by decide +kernel
theorem dX5_polls_53 : decode cX5_polls 53 = .ok (.iload 4, 2) := by decide +kernel
theorem dX5_polls_55 : decode cX5_polls 55 = .ok (.aload_n 0, 1) := by decide +kernel
theorem dX5_polls_56 : decode cX5_polls 56 = .ok (.getfield 7, 3) := by decide +kernel
theorem dX5_polls_59 : decode cX5_polls 59 = .ok (.bipush 6, 2) := by decide +kernel
theorem dX5_polls_61 : decode cX5_polls 61 = .ok (.iaload, 1) := by decide +kernel
theorem dX5_polls_62 : decode cX5_polls 62 = .ok (.if_icmp .ge 31, 3) := by decide +kernel
theorem dX5_polls_65 : decode cX5_polls 65 = .ok (.aload_n 0, 1) := by decide +kernel
theorem dX5_polls_66 : decode cX5_polls 66 = .ok (.getfield 7, 3) := by decide +kernel
theorem dX5_polls_69 : decode cX5_polls 69 = .ok (.bipush 7, 2) := by decide +kernel
theorem dX5_polls_71 : decode cX5_polls 71 = .ok (.iload 4, 2) := by decide +kernel
theorem dX5_polls_73 : decode cX5_polls 73 = .ok (.iadd, 1) := by decide +kernel
theorem dX5_polls_74 : decode cX5_polls 74 = .ok (.iconst 1, 1) := by decide +kernel
theorem dX5_polls_75 : decode cX5_polls 75 = .ok (.isub, 1) := by decide +kernel
theorem dX5_polls_76 : decode cX5_polls 76 = .ok (.aload_n 0, 1) := by decide +kernel
theorem dX5_polls_77 : decode cX5_polls 77 = .ok (.getfield 7, 3) := by decide +kernel
theorem dX5_polls_80 : decode cX5_polls 80 = .ok (.bipush 7, 2) := by decide +kernel
theorem dX5_polls_82 : decode cX5_polls 82 = .ok (.iload 4, 2) := by decide +kernel
theorem dX5_polls_84 : decode cX5_polls 84 = .ok (.iadd, 1) := by decide +kernel
theorem dX5_polls_85 : decode cX5_polls 85 = .ok (.iaload, 1) := by decide +kernel
theorem dX5_polls_86 : decode cX5_polls 86 = .ok (.iastore, 1) := by decide +kernel
theorem dX5_polls_87 : decode cX5_polls 87 = .ok (.iinc 4 1, 3) := by decide +kernel
theorem dX5_polls_90 : decode cX5_polls 90 = .ok (.goto (-37), 3) := by decide +kernel
theorem dX5_polls_93 : decode cX5_polls 93 = .ok (.iload_n 2, 1) := by decide +kernel
theorem dX5_polls_94 : decode cX5_polls 94 = .ok (.aload_n 0, 1) := by decide +kernel
theorem dX5_polls_95 : decode cX5_polls 95 = .ok (.getfield 7, 3) := by decide +kernel
theorem dX5_polls_98 : decode cX5_polls 98 = .ok (.iconst 1, 1) := by decide +kernel
theorem dX5_polls_99 : decode cX5_polls 99 = .ok (.iaload, 1) := by decide +kernel
theorem dX5_polls_100 : decode cX5_polls 100 = .ok (.if_icmp .ge 38, 3) := by decide +kernel
theorem dX5_polls_103 : decode cX5_polls 103 = .ok (.aload_n 0, 1) := by decide +kernel
theorem dX5_polls_104 : decode cX5_polls 104 = .ok (.getfield 7, 3) := by decide +kernel
theorem dX5_polls_107 : decode cX5_polls 107 = .ok (.bipush 6, 2) := by decide +kernel
theorem dX5_polls_109 : decode cX5_polls 109 = .ok (.dup2, 1) := by decide +kernel
theorem dX5_polls_110 : decode cX5_polls 110 = .ok (.iaload, 1) := by decide +kernel
theorem dX5_polls_111 : decode cX5_polls 111 = .ok (.iconst 1, 1) := by decide +kernel
theorem dX5_polls_112 : decode cX5_polls 112 = .ok (.isub, 1) := by decide +kernel
theorem dX5_polls_113 : decode cX5_polls 113 = .ok (.iastore, 1) := by decide +kernel
theorem dX5_polls_114 : decode cX5_polls 114 = .ok (.aload_n 0, 1) := by decide +kernel
theorem dX5_polls_115 : decode cX5_polls 115 = .ok (.getfield 7, 3) := by decide +kernel
theorem dX5_polls_118 : decode cX5_polls 118 = .ok (.bipush 7, 2) := by decide +kernel
theorem dX5_polls_120 : decode cX5_polls 120 = .ok (.aload_n 0, 1) := by decide +kernel
theorem dX5_polls_121 : decode cX5_polls 121 = .ok (.getfield 7, 3) := by decide +kernel
theorem dX5_polls_124 : decode cX5_polls 124 = .ok (.bipush 6, 2) := by decide +kernel
theorem dX5_polls_126 : decode cX5_polls 126 = .ok (.iaload, 1) := by decide +kernel
theorem dX5_polls_127 : decode cX5_polls 127 = .ok (.iadd, 1) := by decide +kernel
theorem dX5_polls_128 : decode cX5_polls 128 = .ok (.iconst 0, 1) := by decide +kernel
theorem dX5_polls_129 : decode cX5_polls 129 = .ok (.iastore, 1) := by decide +kernel
theorem dX5_polls_130 : decode cX5_polls 130 = .ok (.aload_n 0, 1) := by decide +kernel
theorem dX5_polls_131 : decode cX5_polls 131 = .ok (.iload_n 1, 1) := by decide +kernel
theorem dX5_polls_132 : decode cX5_polls 132 = .ok (.invokevirtual 70, 3) := by decide +kernel
theorem dX5_polls_135 : decode cX5_polls 135 = .ok (.goto 21, 3) := by decide +kernel
theorem dX5_polls_138 : decode cX5_polls 138 = .ok (.aload_n 0, 1) := by decide +kernel
theorem dX5_polls_139 : decode cX5_polls 139 = .ok (.getfield 7, 3) := by decide +kernel
theorem dX5_polls_142 : decode cX5_polls 142 = .ok (.bipush 7, 2) := by decide +kernel
theorem dX5_polls_144 : decode cX5_polls 144 = .ok (.aload_n 0, 1) := by decide +kernel
theorem dX5_polls_145 : decode cX5_polls 145 = .ok (.getfield 7, 3) := by decide +kernel
theorem dX5_polls_148 : decode cX5_polls 148 = .ok (.bipush 6, 2) := by decide +kernel
theorem dX5_polls_150 : decode cX5_polls 150 = .ok (.iaload, 1) := by decide +kernel
theorem dX5_polls_151 : decode cX5_polls 151 = .ok (.iadd, 1) := by decide +kernel
theorem dX5_polls_152 : decode cX5_polls 152 = .ok (.iconst 1, 1) := by decide +kernel
theorem dX5_polls_153 : decode cX5_polls 153 = .ok (.isub, 1) := by decide +kernel
theorem dX5_polls_154 : decode cX5_polls 154 = .ok (.iload_n 1, 1) := by decide +kernel
theorem dX5_polls_155 : decode cX5_polls 155 = .ok (.iastore, 1) := by decide +kernel
theorem dX5_polls_156 : decode cX5_polls 156 = .ok (.return_, 1) := by decide +kernel
theorem dX5_reason_0 : decode cX5_reason 0 = .ok (.aload_n 0, 1) := by decide +kernel
theorem dX5_reason_1 : decode cX5_reason 1 = .ok (.iload_n 1, 1) := by decide +kernel
theorem dX5_reason_2 : decode cX5_reason 2 = .ok (.invokevirtual 74, 3) := by decide +kernel
theorem dX5_reason_5 : decode cX5_reason 5 = .ok (.bipush (-6), 2) := by decide +kernel
theorem dX5_reason_7 : decode cX5_reason 7 = .ok (.if_icmp .eq 5, 3) := by decide +kernel
theorem dX5_reason_10 : decode cX5_reason 10 = .ok (.iconst 1, 1) := by decide +kernel
theorem dX5_reason_11 : decode cX5_reason 11 = .ok (.ireturn, 1) := by decide +kernel
theorem dX5_reason_12 : decode cX5_reason 12 = .ok (.aload_n 0, 1) := by decide +kernel
theorem dX5_reason_13 : decode cX5_reason 13 = .ok (.iload_n 1, 1) := by decide +kernel
theorem dX5_reason_14 : decode cX5_reason 14 = .ok (.iconst 3, 1) := by decide +kernel
theorem dX5_reason_15 : decode cX5_reason 15 = .ok (.invokevirtual 53, 3) := by decide +kernel
theorem dX5_reason_18 : decode cX5_reason 18 = .ok (.iconst 1, 1) := by decide +kernel
theorem dX5_reason_19 : decode cX5_reason 19 = .ok (.if_icmp .ne 5, 3) := by decide +kernel
theorem dX5_reason_22 : decode cX5_reason 22 = .ok (.iconst 2, 1) := by decide +kernel
theorem dX5_reason_23 : decode cX5_reason 23 = .ok (.ireturn, 1) := by decide +kernel
theorem dX5_reason_24 : decode cX5_reason 24 = .ok (.aload_n 0, 1) := by decide +kernel
theorem dX5_reason_25 : decode cX5_reason 25 = .ok (.iload_n 1, 1) := by decide +kernel
theorem dX5_reason_26 : decode cX5_reason 26 = .ok (.invokevirtual 63, 3) := by decide +kernel
theorem dX5_reason_29 : decode cX5_reason 29 = .ok (.istore_n 2, 1) := by decide +kernel
theorem dX5_reason_30 : decode cX5_reason 30 = .ok (.iload_n 2, 1) := by decide +kernel
theorem dX5_reason_31 : decode cX5_reason 31 = .ok (.bipush (-6), 2) := by decide +kernel
theorem dX5_reason_33 : decode cX5_reason 33 = .ok (.if_icmp .ne 5, 3) := by decide +kernel
theorem dX5_reason_36 : decode cX5_reason 36 = .ok (.iconst 3, 1) := by decide +kernel
theorem dX5_reason_37 : decode cX5_reason 37 = .ok (.ireturn, 1) := by decide +kernel
theorem dX5_reason_38 : decode cX5_reason 38 = .ok (.aload_n 0, 1) := by decide +kernel
theorem dX5_reason_39 : decode cX5_reason 39 = .ok (.iload_n 1, 1) := by decide +kernel
theorem dX5_reason_40 : decode cX5_reason 40 = .ok (.invokevirtual 56, 3) := by decide +kernel
theorem dX5_reason_43 : decode cX5_reason 43 = .ok (.aload_n 0, 1) := by decide +kernel
theorem dX5_reason_44 : decode cX5_reason 44 = .ok (.iload_n 1, 1) := by decide +kernel
theorem dX5_reason_45 : decode cX5_reason 45 = .ok (.iconst 2, 1) := by decide +kernel
theorem dX5_reason_46 : decode cX5_reason 46 = .ok (.invokevirtual 53, 3) := by decide +kernel
theorem dX5_reason_49 : decode cX5_reason 49 = .ok (.if_icmp .ge 29, 3) := by decide +kernel
theorem dX5_reason_52 : decode cX5_reason 52 = .ok (.aload_n 0, 1) := by decide +kernel
theorem dX5_reason_53 : decode cX5_reason 53 = .ok (.getfield 7, 3) := by decide +kernel
theorem dX5_reason_56 : decode cX5_reason 56 = .ok (.iconst 4, 1) := by decide +kernel
theorem dX5_reason_57 : decode cX5_reason 57 = .ok (.iaload, 1) := by decide +kernel
theorem dX5_reason_58 : decode cX5_reason 58 = .ok (.aload_n 0, 1) := by decide +kernel
theorem dX5_reason_59 : decode cX5_reason 59 = .ok (.iload_n 2, 1) := by decide +kernel
theorem dX5_reason_60 : decode cX5_reason 60 = .ok (.iconst 1, 1) := by decide +kernel
theorem dX5_reason_61 : decode cX5_reason 61 = .ok (.invokevirtual 45, 3) := by decide +kernel
theorem dX5_reason_64 : decode cX5_reason 64 = .ok (.isub, 1) := by decide +kernel
theorem dX5_reason_65 : decode cX5_reason 65 = .ok (.aload_n 0, 1) := by decide +kernel
theorem dX5_reason_66 : decode cX5_reason 66 = .ok (.iload_n 1, 1) := by decide +kernel
theorem dX5_reason_67 : decode cX5_reason 67 = .ok (.iconst 1, 1) := by decide +kernel
theorem dX5_reason_68 : decode cX5_reason 68 = .ok (.invokevirtual 53, 3) := by decide +kernel
theorem dX5_reason_71 : decode cX5_reason 71 = .ok (.if_icmp .ge 7, 3) := by decide +kernel
theorem dX5_reason_74 : decode cX5_reason 74 = .ok (.iconst 4, 1) := by decide +kernel
theorem dX5_reason_75 : decode cX5_reason 75 = .ok (.goto 4, 3) := by decide +kernel
theorem dX5_reason_78 : decode cX5_reason 78 = .ok (.iconst 0, 1) := by decide +kernel
theorem dX5_reason_79 : decode cX5_reason 79 = .ok (.ireturn, 1) := by decide +kernel
theorem dX5_tick_0 : decode cX5_tick 0 = .ok (.aload_n 0, 1) := by decide +kernel
theorem dX5_tick_1 : decode cX5_tick 1 = .ok (.getfield 7, 3) := by decide +kernel
theorem dX5_tick_4 : decode cX5_tick 4 = .ok (.bipush 6, 2) := by decide +kernel
theorem dX5_tick_6 : decode cX5_tick 6 = .ok (.iaload, 1) := by decide +kernel
theorem dX5_tick_7 : decode cX5_tick 7 = .ok (.ifCond .le 7, 3) := by decide +kernel
theorem dX5_tick_10 : decode cX5_tick 10 = .ok (.aload_n 0, 1) := by decide +kernel
theorem dX5_tick_11 : decode cX5_tick 11 = .ok (.invokevirtual 77, 3) := by decide +kernel
theorem dX5_tick_14 : decode cX5_tick 14 = .ok (.iconst 0, 1) := by decide +kernel
theorem dX5_tick_15 : decode cX5_tick 15 = .ok (.istore_n 1, 1) := by decide +kernel
theorem dX5_tick_16 : decode cX5_tick 16 = .ok (.iload_n 1, 1) := by decide +kernel
theorem dX5_tick_17 : decode cX5_tick 17 = .ok (.iconst 3, 1) := by decide +kernel
theorem dX5_tick_18 : decode cX5_tick 18 = .ok (.if_icmp .ge 22, 3) := by decide +kernel
theorem dX5_tick_21 : decode cX5_tick 21 = .ok (.aload_n 0, 1) := by decide +kernel
theorem dX5_tick_22 : decode cX5_tick 22 = .ok (.iload_n 1, 1) := by decide +kernel
theorem dX5_tick_23 : decode cX5_tick 23 = .ok (.invokevirtual 80, 3) := by decide +kernel
theorem dX5_tick_26 : decode cX5_tick 26 = .ok (.ifCond .ne 8, 3) := by decide +kernel
theorem dX5_tick_29 : decode cX5_tick 29 = .ok (.aload_n 0, 1) := by decide +kernel
theorem dX5_tick_30 : decode cX5_tick 30 = .ok (.iload_n 1, 1) := by decide +kernel
theorem dX5_tick_31 : decode cX5_tick 31 = .ok (.invokevirtual 83, 3) := by decide +kernel
theorem dX5_tick_34 : decode cX5_tick 34 = .ok (.iinc 1 1, 3) := by decide +kernel
theorem dX5_tick_37 : decode cX5_tick 37 = .ok (.goto (-21), 3) := by decide +kernel
theorem dX5_tick_40 : decode cX5_tick 40 = .ok (.aload_n 0, 1) := by decide +kernel
theorem dX5_tick_41 : decode cX5_tick 41 = .ok (.getfield 7, 3) := by decide +kernel
theorem dX5_tick_44 : decode cX5_tick 44 = .ok (.iconst 4, 1) := by decide +kernel
theorem dX5_tick_45 : decode cX5_tick 45 = .ok (.dup2, 1) := by decide +kernel
theorem dX5_tick_46 : decode cX5_tick 46 = .ok (.iaload, 1) := by decide +kernel
theorem dX5_tick_47 : decode cX5_tick 47 = .ok (.iconst 1, 1) := by decide +kernel
theorem dX5_tick_48 : decode cX5_tick 48 = .ok (.iadd, 1) := by decide +kernel
theorem dX5_tick_49 : decode cX5_tick 49 = .ok (.iastore, 1) := by decide +kernel
theorem dX5_tick_50 : decode cX5_tick 50 = .ok (.return_, 1) := by decide +kernel
theorem dX5_ticks_0 : decode cX5_ticks 0 = .ok (.aload_n 0, 1) := by decide +kernel
theorem dX5_ticks_1 : decode cX5_ticks 1 = .ok (.iconst 5, 1) := by decide +kernel
theorem dX5_ticks_2 : decode cX5_ticks 2 = .ok (.invokevirtual 86, 3) := by decide +kernel
theorem dX5_ticks_5 : decode cX5_ticks 5 = .ok (.istore_n 2, 1) := by decide +kernel
theorem dX5_ticks_6 : decode cX5_ticks 6 = .ok (.iconst 0, 1) := by decide +kernel
theorem dX5_ticks_7 : decode cX5_ticks 7 = .ok (.istore_n 3, 1) := by decide +kernel
theorem dX5_ticks_8 : decode cX5_ticks 8 = .ok (.iload_n 3, 1) := by decide +kernel
theorem dX5_ticks_9 : decode cX5_ticks 9 = .ok (.iload_n 1, 1) := by decide +kernel
theorem dX5_ticks_10 : decode cX5_ticks 10 = .ok (.if_icmp .ge 13, 3) := by decide +kernel
theorem dX5_ticks_13 : decode cX5_ticks 13 = .ok (.aload_n 0, 1) := by decide +kernel
theorem dX5_ticks_14 : decode cX5_ticks 14 = .ok (.invokevirtual 89, 3) := by decide +kernel
theorem dX5_ticks_17 : decode cX5_ticks 17 = .ok (.iinc 3 1, 3) := by decide +kernel
theorem dX5_ticks_20 : decode cX5_ticks 20 = .ok (.goto (-12), 3) := by decide +kernel
theorem dX5_ticks_23 : decode cX5_ticks 23 = .ok (.aload_n 0, 1) := by decide +kernel
theorem dX5_ticks_24 : decode cX5_ticks 24 = .ok (.iconst 5, 1) := by decide +kernel
theorem dX5_ticks_25 : decode cX5_ticks 25 = .ok (.invokevirtual 86, 3) := by decide +kernel
theorem dX5_ticks_28 : decode cX5_ticks 28 = .ok (.iload_n 2, 1) := by decide +kernel
theorem dX5_ticks_29 : decode cX5_ticks 29 = .ok (.isub, 1) := by decide +kernel
theorem dX5_ticks_30 : decode cX5_ticks 30 = .ok (.ireturn, 1) := by decide +kernel
theorem dX5_areBounds_0 : decode cX5_areBounds 0 = .ok (.iload_n 0, 1) := by decide +kernel
theorem dX5_areBounds_1 : decode cX5_areBounds 1 = .ok (.i2l, 1) := by decide +kernel
theorem dX5_areBounds_2 : decode cX5_areBounds 2 = .ok (.lconst 1, 1) := by decide +kernel
theorem dX5_areBounds_3 : decode cX5_areBounds 3 = .ok (.ldc2_w 92, 3) := by decide +kernel
theorem dX5_areBounds_6 : decode cX5_areBounds 6 = .ok (.invokestatic 41, 3) := by decide +kernel
theorem dX5_areBounds_9 : decode cX5_areBounds 9 = .ok (.ifCond .eq 19, 3) := by decide +kernel
theorem dX5_areBounds_12 : decode cX5_areBounds 12 = .ok (.iload_n 1, 1) := by decide +kernel
theorem dX5_areBounds_13 : decode cX5_areBounds 13 = .ok (.i2l, 1) := by decide +kernel
theorem dX5_areBounds_14 : decode cX5_areBounds 14 = .ok (.lconst 1, 1) := by decide +kernel
theorem dX5_areBounds_15 : decode cX5_areBounds 15 = .ok (.ldc2_w 94, 3) := by decide +kernel
theorem dX5_areBounds_18 : decode cX5_areBounds 18 = .ok (.invokestatic 41, 3) := by decide +kernel
theorem dX5_areBounds_21 : decode cX5_areBounds 21 = .ok (.ifCond .eq 7, 3) := by decide +kernel
theorem dX5_areBounds_24 : decode cX5_areBounds 24 = .ok (.iconst 1, 1) := by decide +kernel
theorem dX5_areBounds_25 : decode cX5_areBounds 25 = .ok (.goto 4, 3) := by decide +kernel
theorem dX5_areBounds_28 : decode cX5_areBounds 28 = .ok (.iconst 0, 1) := by decide +kernel
theorem dX5_areBounds_29 : decode cX5_areBounds 29 = .ok (.ireturn, 1) := by decide +kernel
theorem dX5_doBounds_0 : decode cX5_doBounds 0 = .ok (.aload_n 0, 1) := by decide +kernel
theorem dX5_doBounds_1 : decode cX5_doBounds 1 = .ok (.iload_n 1, 1) := by decide +kernel
theorem dX5_doBounds_2 : decode cX5_doBounds 2 = .ok (.iconst 0, 1) := by decide +kernel
theorem dX5_doBounds_3 : decode cX5_doBounds 3 = .ok (.invokevirtual 53, 3) := by decide +kernel
theorem dX5_doBounds_6 : decode cX5_doBounds 6 = .ok (.istore 4, 2) := by decide +kernel
theorem dX5_doBounds_8 : decode cX5_doBounds 8 = .ok (.aload_n 0, 1) := by decide +kernel
theorem dX5_doBounds_9 : decode cX5_doBounds 9 = .ok (.iload_n 1, 1) := by decide +kernel
theorem dX5_doBounds_10 : decode cX5_doBounds 10 = .ok (.iconst 0, 1) := by decide +kernel
theorem dX5_doBounds_11 : decode cX5_doBounds 11 = .ok (.iload_n 2, 1) := by decide +kernel
theorem dX5_doBounds_12 : decode cX5_doBounds 12 = .ok (.invokevirtual 31, 3) := by decide +kernel
theorem dX5_doBounds_15 : decode cX5_doBounds 15 = .ok (.aload_n 0, 1) := by decide +kernel
theorem dX5_doBounds_16 : decode cX5_doBounds 16 = .ok (.iload_n 1, 1) := by decide +kernel
theorem dX5_doBounds_17 : decode cX5_doBounds 17 = .ok (.iconst 1, 1) := by decide +kernel
theorem dX5_doBounds_18 : decode cX5_doBounds 18 = .ok (.iload_n 3, 1) := by decide +kernel
theorem dX5_doBounds_19 : decode cX5_doBounds 19 = .ok (.invokevirtual 31, 3) := by decide +kernel
theorem dX5_doBounds_22 : decode cX5_doBounds 22 = .ok (.aload_n 0, 1) := by decide +kernel
theorem dX5_doBounds_23 : decode cX5_doBounds 23 = .ok (.iload_n 1, 1) := by decide +kernel
theorem dX5_doBounds_24 : decode cX5_doBounds 24 = .ok (.iconst 2, 1) := by decide +kernel
theorem dX5_doBounds_25 : decode cX5_doBounds 25 = .ok (.iload_n 2, 1) := by decide +kernel
theorem dX5_doBounds_26 : decode cX5_doBounds 26 = .ok (.invokevirtual 31, 3) := by decide +kernel
theorem dX5_doBounds_29 : decode cX5_doBounds 29 = .ok (.iload 4, 2) := by decide +kernel
theorem dX5_doBounds_31 : decode cX5_doBounds 31 = .ok (.ireturn, 1) := by decide +kernel
theorem dX5_isSetting_0 : decode cX5_isSetting 0 = .ok (.iload_n 0, 1) := by decide +kernel
theorem dX5_isSetting_1 : decode cX5_isSetting 1 = .ok (.tableswitch 69 0 3 #[31, 41, 51, 59], 31) := by decide +kernel
theorem dX5_isSetting_32 : decode cX5_isSetting 32 = .ok (.iload_n 1, 1) := by decide +kernel
theorem dX5_isSetting_33 : decode cX5_isSetting 33 = .ok (.i2l, 1) := by decide +kernel
theorem dX5_isSetting_34 : decode cX5_isSetting 34 = .ok (.lconst 1, 1) := by decide +kernel
theorem dX5_isSetting_35 : decode cX5_isSetting 35 = .ok (.ldc2_w 92, 3) := by decide +kernel
theorem dX5_isSetting_38 : decode cX5_isSetting 38 = .ok (.invokestatic 41, 3) := by decide +kernel
theorem dX5_isSetting_41 : decode cX5_isSetting 41 = .ok (.ireturn, 1) := by decide +kernel
theorem dX5_isSetting_42 : decode cX5_isSetting 42 = .ok (.iload_n 1, 1) := by decide +kernel
theorem dX5_isSetting_43 : decode cX5_isSetting 43 = .ok (.i2l, 1) := by decide +kernel
theorem dX5_isSetting_44 : decode cX5_isSetting 44 = .ok (.lconst 1, 1) := by decide +kernel
theorem dX5_isSetting_45 : decode cX5_isSetting 45 = .ok (.ldc2_w 96, 3) := by decide +kernel
theorem dX5_isSetting_48 : decode cX5_isSetting 48 = .ok (.invokestatic 41, 3) := by decide +kernel
theorem dX5_isSetting_51 : decode cX5_isSetting 51 = .ok (.ireturn, 1) := by decide +kernel
theorem dX5_isSetting_52 : decode cX5_isSetting 52 = .ok (.iload_n 1, 1) := by decide +kernel
theorem dX5_isSetting_53 : decode cX5_isSetting 53 = .ok (.i2l, 1) := by decide +kernel
theorem dX5_isSetting_54 : decode cX5_isSetting 54 = .ok (.lconst 0, 1) := by decide +kernel
theorem dX5_isSetting_55 : decode cX5_isSetting 55 = .ok (.lconst 1, 1) := by decide +kernel
theorem dX5_isSetting_56 : decode cX5_isSetting 56 = .ok (.invokestatic 41, 3) := by decide +kernel
theorem dX5_isSetting_59 : decode cX5_isSetting 59 = .ok (.ireturn, 1) := by decide +kernel
theorem dX5_isSetting_60 : decode cX5_isSetting 60 = .ok (.iload_n 1, 1) := by decide +kernel
theorem dX5_isSetting_61 : decode cX5_isSetting 61 = .ok (.i2l, 1) := by decide +kernel
theorem dX5_isSetting_62 : decode cX5_isSetting 62 = .ok (.lconst 0, 1) := by decide +kernel
theorem dX5_isSetting_63 : decode cX5_isSetting 63 = .ok (.ldc2_w 98, 3) := by decide +kernel
theorem dX5_isSetting_66 : decode cX5_isSetting 66 = .ok (.invokestatic 41, 3) := by decide +kernel
theorem dX5_isSetting_69 : decode cX5_isSetting 69 = .ok (.ireturn, 1) := by decide +kernel
theorem dX5_isSetting_70 : decode cX5_isSetting 70 = .ok (.iconst 0, 1) := by decide +kernel
theorem dX5_isSetting_71 : decode cX5_isSetting 71 = .ok (.ireturn, 1) := by decide +kernel
theorem dX5_set_0 : decode cX5_set 0 = .ok (.iload_n 1, 1) := by decide +kernel
theorem dX5_set_1 : decode cX5_set 1 = .ok (.iload_n 2, 1) := by decide +kernel
theorem dX5_set_2 : decode cX5_set 2 = .ok (.invokestatic 100, 3) := by decide +kernel
theorem dX5_set_5 : decode cX5_set 5 = .ok (.ifCond .ne 6, 3) := by decide +kernel
theorem dX5_set_8 : decode cX5_set 8 = .ok (.bipush (-2), 2) := by decide +kernel
theorem dX5_set_10 : decode cX5_set 10 = .ok (.ireturn, 1) := by decide +kernel
theorem dX5_set_11 : decode cX5_set 11 = .ok (.aload_n 0, 1) := by decide +kernel
theorem dX5_set_12 : decode cX5_set 12 = .ok (.invokevirtual 103, 3) := by decide +kernel
theorem dX5_set_15 : decode cX5_set 15 = .ok (.aload_n 0, 1) := by decide +kernel
theorem dX5_set_16 : decode cX5_set 16 = .ok (.getfield 7, 3) := by decide +kernel
theorem dX5_set_19 : decode cX5_set 19 = .ok (.iload_n 1, 1) := by decide +kernel
theorem dX5_set_20 : decode cX5_set 20 = .ok (.iaload, 1) := by decide +kernel
theorem dX5_set_21 : decode cX5_set 21 = .ok (.istore_n 3, 1) := by decide +kernel
theorem dX5_set_22 : decode cX5_set 22 = .ok (.aload_n 0, 1) := by decide +kernel
theorem dX5_set_23 : decode cX5_set 23 = .ok (.getfield 7, 3) := by decide +kernel
theorem dX5_set_26 : decode cX5_set 26 = .ok (.iload_n 1, 1) := by decide +kernel
theorem dX5_set_27 : decode cX5_set 27 = .ok (.iload_n 2, 1) := by decide +kernel
theorem dX5_set_28 : decode cX5_set 28 = .ok (.iastore, 1) := by decide +kernel
theorem dX5_set_29 : decode cX5_set 29 = .ok (.iload_n 3, 1) := by decide +kernel
theorem dX5_set_30 : decode cX5_set 30 = .ok (.ireturn, 1) := by decide +kernel
theorem dX5_bounds_0 : decode cX5_bounds 0 = .ok (.iload_n 1, 1) := by decide +kernel
theorem dX5_bounds_1 : decode cX5_bounds 1 = .ok (.invokestatic 106, 3) := by decide +kernel
theorem dX5_bounds_4 : decode cX5_bounds 4 = .ok (.ifCond .ne 5, 3) := by decide +kernel
theorem dX5_bounds_7 : decode cX5_bounds 7 = .ok (.iconst (-1), 1) := by decide +kernel
theorem dX5_bounds_8 : decode cX5_bounds 8 = .ok (.ireturn, 1) := by decide +kernel
theorem dX5_bounds_9 : decode cX5_bounds 9 = .ok (.iload_n 2, 1) := by decide +kernel
theorem dX5_bounds_10 : decode cX5_bounds 10 = .ok (.iload_n 3, 1) := by decide +kernel
theorem dX5_bounds_11 : decode cX5_bounds 11 = .ok (.invokestatic 110, 3) := by decide +kernel
theorem dX5_bounds_14 : decode cX5_bounds 14 = .ok (.ifCond .ne 6, 3) := by decide +kernel
theorem dX5_bounds_17 : decode cX5_bounds 17 = .ok (.bipush (-2), 2) := by decide +kernel
theorem dX5_bounds_19 : decode cX5_bounds 19 = .ok (.ireturn, 1) := by decide +kernel
theorem dX5_bounds_20 : decode cX5_bounds 20 = .ok (.aload_n 0, 1) := by decide +kernel
theorem dX5_bounds_21 : decode cX5_bounds 21 = .ok (.invokevirtual 103, 3) := by decide +kernel
theorem dX5_bounds_24 : decode cX5_bounds 24 = .ok (.aload_n 0, 1) := by decide +kernel
theorem dX5_bounds_25 : decode cX5_bounds 25 = .ok (.iload_n 1, 1) := by decide +kernel
theorem dX5_bounds_26 : decode cX5_bounds 26 = .ok (.iload_n 2, 1) := by decide +kernel
theorem dX5_bounds_27 : decode cX5_bounds 27 = .ok (.iload_n 3, 1) := by decide +kernel
theorem dX5_bounds_28 : decode cX5_bounds 28 = .ok (.invokevirtual 113, 3) := by decide +kernel
theorem dX5_bounds_31 : decode cX5_bounds 31 = .ok (.ireturn, 1) := by decide +kernel
theorem dX5_come_0 : decode cX5_come 0 = .ok (.iload_n 1, 1) := by decide +kernel
theorem dX5_come_1 : decode cX5_come 1 = .ok (.i2l, 1) := by decide +kernel
theorem dX5_come_2 : decode cX5_come 2 = .ok (.lconst 0, 1) := by decide +kernel
theorem dX5_come_3 : decode cX5_come 3 = .ok (.ldc2_w 94, 3) := by decide +kernel
theorem dX5_come_6 : decode cX5_come 6 = .ok (.invokestatic 41, 3) := by decide +kernel
theorem dX5_come_9 : decode cX5_come 9 = .ok (.ifCond .ne 6, 3) := by decide +kernel
theorem dX5_come_12 : decode cX5_come 12 = .ok (.bipush (-2), 2) := by decide +kernel
theorem dX5_come_14 : decode cX5_come 14 = .ok (.ireturn, 1) := by decide +kernel
theorem dX5_come_15 : decode cX5_come 15 = .ok (.aload_n 0, 1) := by decide +kernel
theorem dX5_come_16 : decode cX5_come 16 = .ok (.getfield 7, 3) := by decide +kernel
theorem dX5_come_19 : decode cX5_come 19 = .ok (.iconst 5, 1) := by decide +kernel
theorem dX5_come_20 : decode cX5_come 20 = .ok (.iaload, 1) := by decide +kernel
theorem dX5_come_21 : decode cX5_come 21 = .ok (.sipush 400, 3) := by decide +kernel
theorem dX5_come_24 : decode cX5_come 24 = .ok (.if_icmp .ne 6, 3) := by decide +kernel
theorem dX5_come_27 : decode cX5_come 27 = .ok (.bipush (-4), 2) := by decide +kernel
theorem dX5_come_29 : decode cX5_come 29 = .ok (.ireturn, 1) := by decide +kernel
theorem dX5_come_30 : decode cX5_come 30 = .ok (.aload_n 0, 1) := by decide +kernel
theorem dX5_come_31 : decode cX5_come 31 = .ok (.invokevirtual 103, 3) := by decide +kernel
theorem dX5_come_34 : decode cX5_come 34 = .ok (.aload_n 0, 1) := by decide +kernel
theorem dX5_come_35 : decode cX5_come 35 = .ok (.iload_n 1, 1) := by decide +kernel
theorem dX5_come_36 : decode cX5_come 36 = .ok (.invokevirtual 117, 3) := by decide +kernel
theorem dX5_come_39 : decode cX5_come 39 = .ok (.ireturn, 1) := by decide +kernel
theorem dX5_mask_0 : decode cX5_mask 0 = .ok (.iload_n 1, 1) := by decide +kernel
theorem dX5_mask_1 : decode cX5_mask 1 = .ok (.invokestatic 106, 3) := by decide +kernel
theorem dX5_mask_4 : decode cX5_mask 4 = .ok (.ifCond .ne 5, 3) := by decide +kernel
theorem dX5_mask_7 : decode cX5_mask 7 = .ok (.iconst (-1), 1) := by decide +kernel
theorem dX5_mask_8 : decode cX5_mask 8 = .ok (.ireturn, 1) := by decide +kernel
theorem dX5_mask_9 : decode cX5_mask 9 = .ok (.aload_n 0, 1) := by decide +kernel
theorem dX5_mask_10 : decode cX5_mask 10 = .ok (.invokevirtual 103, 3) := by decide +kernel
theorem dX5_mask_13 : decode cX5_mask 13 = .ok (.aload_n 0, 1) := by decide +kernel
theorem dX5_mask_14 : decode cX5_mask 14 = .ok (.iload_n 1, 1) := by decide +kernel
theorem dX5_mask_15 : decode cX5_mask 15 = .ok (.iconst 3, 1) := by decide +kernel
theorem dX5_mask_16 : decode cX5_mask 16 = .ok (.iconst 1, 1) := by decide +kernel
theorem dX5_mask_17 : decode cX5_mask 17 = .ok (.aload_n 0, 1) := by decide +kernel
theorem dX5_mask_18 : decode cX5_mask 18 = .ok (.iload_n 1, 1) := by decide +kernel
theorem dX5_mask_19 : decode cX5_mask 19 = .ok (.iconst 3, 1) := by decide +kernel
theorem dX5_mask_20 : decode cX5_mask 20 = .ok (.invokevirtual 53, 3) := by decide +kernel
theorem dX5_mask_23 : decode cX5_mask 23 = .ok (.isub, 1) := by decide +kernel
theorem dX5_mask_24 : decode cX5_mask 24 = .ok (.invokevirtual 31, 3) := by decide +kernel
theorem dX5_mask_27 : decode cX5_mask 27 = .ok (.aload_n 0, 1) := by decide +kernel
theorem dX5_mask_28 : decode cX5_mask 28 = .ok (.iload_n 1, 1) := by decide +kernel
theorem dX5_mask_29 : decode cX5_mask 29 = .ok (.iconst 3, 1) := by decide +kernel
theorem dX5_mask_30 : decode cX5_mask 30 = .ok (.invokevirtual 53, 3) := by decide +kernel
theorem dX5_mask_33 : decode cX5_mask 33 = .ok (.ireturn, 1) := by decide +kernel
theorem dX5_call_0 : decode cX5_call 0 = .ok (.iload_n 1, 1) := by decide +kernel
theorem dX5_call_1 : decode cX5_call 1 = .ok (.invokestatic 106, 3) := by decide +kernel
theorem dX5_call_4 : decode cX5_call 4 = .ok (.ifCond .ne 5, 3) := by decide +kernel
theorem dX5_call_7 : decode cX5_call 7 = .ok (.iconst (-1), 1) := by decide +kernel
theorem dX5_call_8 : decode cX5_call 8 = .ok (.ireturn, 1) := by decide +kernel
theorem dX5_call_9 : decode cX5_call 9 = .ok (.aload_n 0, 1) := by decide +kernel
theorem dX5_call_10 : decode cX5_call 10 = .ok (.iload_n 1, 1) := by decide +kernel
theorem dX5_call_11 : decode cX5_call 11 = .ok (.invokevirtual 74, 3) := by decide +kernel
theorem dX5_call_14 : decode cX5_call 14 = .ok (.bipush (-6), 2) := by decide +kernel
theorem dX5_call_16 : decode cX5_call 16 = .ok (.if_icmp .ne 13, 3) := by decide +kernel
theorem dX5_call_19 : decode cX5_call 19 = .ok (.aload_n 0, 1) := by decide +kernel
theorem dX5_call_20 : decode cX5_call 20 = .ok (.iload_n 1, 1) := by decide +kernel
theorem dX5_call_21 : decode cX5_call 21 = .ok (.invokevirtual 63, 3) := by decide +kernel
theorem dX5_call_24 : decode cX5_call 24 = .ok (.bipush (-6), 2) := by decide +kernel
