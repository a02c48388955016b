theorem dX5_call_26 : decode cX5_call 26 = .ok (.if_icmp .ne 6, 3) := by decide +kernel
theorem dX5_call_29 : decode cX5_call 29 = .ok (.bipush (-5), 2) := by decide +kernel
theorem dX5_call_31 : decode cX5_call 31 = .ok (.ireturn, 1) := by decide +kernel
theorem dX5_call_32 : decode cX5_call 32 = .ok (.aload_n 0, 1) := by decide +kernel
theorem dX5_call_33 : decode cX5_call 33 = .ok (.invokevirtual 103, 3) := by decide +kernel
theorem dX5_call_36 : decode cX5_call 36 = .ok (.aload_n 0, 1) := by decide +kernel
theorem dX5_call_37 : decode cX5_call 37 = .ok (.iload_n 1, 1) := by decide +kernel
theorem dX5_call_38 : decode cX5_call 38 = .ok (.invokevirtual 83, 3) := by decide +kernel
theorem dX5_call_41 : decode cX5_call 41 = .ok (.aload_n 0, 1) := by decide +kernel
theorem dX5_call_42 : decode cX5_call 42 = .ok (.getfield 7, 3) := by decide +kernel
theorem dX5_call_45 : decode cX5_call 45 = .ok (.bipush 6, 2) := by decide +kernel
theorem dX5_call_47 : decode cX5_call 47 = .ok (.iaload, 1) := by decide +kernel
theorem dX5_call_48 : decode cX5_call 48 = .ok (.iconst 1, 1) := by decide +kernel
theorem dX5_call_49 : decode cX5_call 49 = .ok (.isub, 1) := by decide +kernel
theorem dX5_call_50 : decode cX5_call 50 = .ok (.ireturn, 1) := by decide +kernel
theorem dX5_areTicks_0 : decode cX5_areTicks 0 = .ok (.iload_n 0, 1) := by decide +kernel
theorem dX5_areTicks_1 : decode cX5_areTicks 1 = .ok (.i2l, 1) := by decide +kernel
theorem dX5_areTicks_2 : decode cX5_areTicks 2 = .ok (.lconst 1, 1) := by decide +kernel
theorem dX5_areTicks_3 : decode cX5_areTicks 3 = .ok (.ldc2_w 94, 3) := by decide +kernel
theorem dX5_areTicks_6 : decode cX5_areTicks 6 = .ok (.invokestatic 41, 3) := by decide +kernel
theorem dX5_areTicks_9 : decode cX5_areTicks 9 = .ok (.ireturn, 1) := by decide +kernel
theorem dX5_pass_0 : decode cX5_pass 0 = .ok (.iload_n 1, 1) := by decide +kernel
theorem dX5_pass_1 : decode cX5_pass 1 = .ok (.invokestatic 120, 3) := by decide +kernel
theorem dX5_pass_4 : decode cX5_pass 4 = .ok (.ifCond .ne 6, 3) := by decide +kernel
theorem dX5_pass_7 : decode cX5_pass 7 = .ok (.bipush (-2), 2) := by decide +kernel
theorem dX5_pass_9 : decode cX5_pass 9 = .ok (.ireturn, 1) := by decide +kernel
theorem dX5_pass_10 : decode cX5_pass 10 = .ok (.aload_n 0, 1) := by decide +kernel
theorem dX5_pass_11 : decode cX5_pass 11 = .ok (.getfield 7, 3) := by decide +kernel
theorem dX5_pass_14 : decode cX5_pass 14 = .ok (.iconst 4, 1) := by decide +kernel
theorem dX5_pass_15 : decode cX5_pass 15 = .ok (.iaload, 1) := by decide +kernel
theorem dX5_pass_16 : decode cX5_pass 16 = .ok (.iload_n 1, 1) := by decide +kernel
theorem dX5_pass_17 : decode cX5_pass 17 = .ok (.iadd, 1) := by decide +kernel
theorem dX5_pass_18 : decode cX5_pass 18 = .ok (.sipush 9999, 3) := by decide +kernel
theorem dX5_pass_21 : decode cX5_pass 21 = .ok (.if_icmp .le 6, 3) := by decide +kernel
theorem dX5_pass_24 : decode cX5_pass 24 = .ok (.bipush (-5), 2) := by decide +kernel
theorem dX5_pass_26 : decode cX5_pass 26 = .ok (.ireturn, 1) := by decide +kernel
theorem dX5_pass_27 : decode cX5_pass 27 = .ok (.aload_n 0, 1) := by decide +kernel
theorem dX5_pass_28 : decode cX5_pass 28 = .ok (.invokevirtual 103, 3) := by decide +kernel
theorem dX5_pass_31 : decode cX5_pass 31 = .ok (.aload_n 0, 1) := by decide +kernel
theorem dX5_pass_32 : decode cX5_pass 32 = .ok (.iload_n 1, 1) := by decide +kernel
theorem dX5_pass_33 : decode cX5_pass 33 = .ok (.invokevirtual 123, 3) := by decide +kernel
theorem dX5_pass_36 : decode cX5_pass 36 = .ok (.ireturn, 1) := by decide +kernel
theorem dX5_of_0 : decode cX5_of 0 = .ok (.iload_n 1, 1) := by decide +kernel
theorem dX5_of_1 : decode cX5_of 1 = .ok (.invokestatic 106, 3) := by decide +kernel
theorem dX5_of_4 : decode cX5_of 4 = .ok (.ifCond .ne 5, 3) := by decide +kernel
theorem dX5_of_7 : decode cX5_of 7 = .ok (.iconst (-1), 1) := by decide +kernel
theorem dX5_of_8 : decode cX5_of 8 = .ok (.ireturn, 1) := by decide +kernel
theorem dX5_of_9 : decode cX5_of 9 = .ok (.iload_n 2, 1) := by decide +kernel
theorem dX5_of_10 : decode cX5_of 10 = .ok (.tableswitch 120 0 12 #[66, 66, 66, 73, 79, 95, 102, 102, 102, 102, 102, 102, 114], 66) := by decide +kernel
theorem dX5_of_76 : decode cX5_of 76 = .ok (.aload_n 0, 1) := by decide +kernel
theorem dX5_of_77 : decode cX5_of 77 = .ok (.iload_n 1, 1) := by decide +kernel
theorem dX5_of_78 : decode cX5_of 78 = .ok (.iload_n 2, 1) := by decide +kernel
theorem dX5_of_79 : decode cX5_of 79 = .ok (.invokevirtual 53, 3) := by decide +kernel
theorem dX5_of_82 : decode cX5_of 82 = .ok (.ireturn, 1) := by decide +kernel
theorem dX5_of_83 : decode cX5_of 83 = .ok (.aload_n 0, 1) := by decide +kernel
theorem dX5_of_84 : decode cX5_of 84 = .ok (.iload_n 1, 1) := by decide +kernel
theorem dX5_of_85 : decode cX5_of 85 = .ok (.invokevirtual 56, 3) := by decide +kernel
theorem dX5_of_88 : decode cX5_of 88 = .ok (.ireturn, 1) := by decide +kernel
theorem dX5_of_89 : decode cX5_of 89 = .ok (.aload_n 0, 1) := by decide +kernel
theorem dX5_of_90 : decode cX5_of 90 = .ok (.iload_n 1, 1) := by decide +kernel
theorem dX5_of_91 : decode cX5_of 91 = .ok (.invokevirtual 74, 3) := by decide +kernel
theorem dX5_of_94 : decode cX5_of 94 = .ok (.bipush (-6), 2) := by decide +kernel
theorem dX5_of_96 : decode cX5_of 96 = .ok (.if_icmp .ne 7, 3) := by decide +kernel
theorem dX5_of_99 : decode cX5_of 99 = .ok (.iconst 0, 1) := by decide +kernel
theorem dX5_of_100 : decode cX5_of 100 = .ok (.goto 4, 3) := by decide +kernel
theorem dX5_of_103 : decode cX5_of 103 = .ok (.iconst 1, 1) := by decide +kernel
theorem dX5_of_104 : decode cX5_of 104 = .ok (.ireturn, 1) := by decide +kernel
theorem dX5_of_105 : decode cX5_of 105 = .ok (.aload_n 0, 1) := by decide +kernel
theorem dX5_of_106 : decode cX5_of 106 = .ok (.iload_n 1, 1) := by decide +kernel
theorem dX5_of_107 : decode cX5_of 107 = .ok (.iconst 3, 1) := by decide +kernel
theorem dX5_of_108 : decode cX5_of 108 = .ok (.invokevirtual 53, 3) := by decide +kernel
theorem dX5_of_111 : decode cX5_of 111 = .ok (.ireturn, 1) := by decide +kernel
theorem dX5_of_112 : decode cX5_of 112 = .ok (.aload_n 0, 1) := by decide +kernel
theorem dX5_of_113 : decode cX5_of 113 = .ok (.iload_n 1, 1) := by decide +kernel
theorem dX5_of_114 : decode cX5_of 114 = .ok (.iconst 4, 1) := by decide +kernel
theorem dX5_of_115 : decode cX5_of 115 = .ok (.iload_n 2, 1) := by decide +kernel
theorem dX5_of_116 : decode cX5_of 116 = .ok (.iadd, 1) := by decide +kernel
theorem dX5_of_117 : decode cX5_of 117 = .ok (.bipush 6, 2) := by decide +kernel
theorem dX5_of_119 : decode cX5_of 119 = .ok (.isub, 1) := by decide +kernel
theorem dX5_of_120 : decode cX5_of 120 = .ok (.invokevirtual 53, 3) := by decide +kernel
theorem dX5_of_123 : decode cX5_of 123 = .ok (.ireturn, 1) := by decide +kernel
theorem dX5_of_124 : decode cX5_of 124 = .ok (.aload_n 0, 1) := by decide +kernel
theorem dX5_of_125 : decode cX5_of 125 = .ok (.iload_n 1, 1) := by decide +kernel
theorem dX5_of_126 : decode cX5_of 126 = .ok (.invokevirtual 63, 3) := by decide +kernel
theorem dX5_of_129 : decode cX5_of 129 = .ok (.ireturn, 1) := by decide +kernel
theorem dX5_of_130 : decode cX5_of 130 = .ok (.bipush (-2), 2) := by decide +kernel
theorem dX5_of_132 : decode cX5_of 132 = .ok (.ireturn, 1) := by decide +kernel
theorem dX5_isFrame_0 : decode cX5_isFrame 0 = .ok (.iload_n 1, 1) := by decide +kernel
theorem dX5_isFrame_1 : decode cX5_isFrame 1 = .ok (.i2l, 1) := by decide +kernel
theorem dX5_isFrame_2 : decode cX5_isFrame 2 = .ok (.lconst 0, 1) := by decide +kernel
theorem dX5_isFrame_3 : decode cX5_isFrame 3 = .ok (.aload_n 0, 1) := by decide +kernel
theorem dX5_isFrame_4 : decode cX5_isFrame 4 = .ok (.getfield 7, 3) := by decide +kernel
theorem dX5_isFrame_7 : decode cX5_isFrame 7 = .ok (.iconst 5, 1) := by decide +kernel
theorem dX5_isFrame_8 : decode cX5_isFrame 8 = .ok (.iaload, 1) := by decide +kernel
theorem dX5_isFrame_9 : decode cX5_isFrame 9 = .ok (.i2l, 1) := by decide +kernel
theorem dX5_isFrame_10 : decode cX5_isFrame 10 = .ok (.lconst 1, 1) := by decide +kernel
theorem dX5_isFrame_11 : decode cX5_isFrame 11 = .ok (.lsub, 1) := by decide +kernel
theorem dX5_isFrame_12 : decode cX5_isFrame 12 = .ok (.invokestatic 41, 3) := by decide +kernel
theorem dX5_isFrame_15 : decode cX5_isFrame 15 = .ok (.ireturn, 1) := by decide +kernel
theorem dX5_waitOf_0 : decode cX5_waitOf 0 = .ok (.aload_n 0, 1) := by decide +kernel
theorem dX5_waitOf_1 : decode cX5_waitOf 1 = .ok (.iload_n 1, 1) := by decide +kernel
theorem dX5_waitOf_2 : decode cX5_waitOf 2 = .ok (.iconst 2, 1) := by decide +kernel
theorem dX5_waitOf_3 : decode cX5_waitOf 3 = .ok (.invokevirtual 45, 3) := by decide +kernel
theorem dX5_waitOf_6 : decode cX5_waitOf 6 = .ok (.istore_n 2, 1) := by decide +kernel
theorem dX5_waitOf_7 : decode cX5_waitOf 7 = .ok (.iload_n 2, 1) := by decide +kernel
theorem dX5_waitOf_8 : decode cX5_waitOf 8 = .ok (.iconst 2, 1) := by decide +kernel
theorem dX5_waitOf_9 : decode cX5_waitOf 9 = .ok (.if_icmp .ne 8, 3) := by decide +kernel
theorem dX5_waitOf_12 : decode cX5_waitOf 12 = .ok (.bipush (-6), 2) := by decide +kernel
theorem dX5_waitOf_14 : decode cX5_waitOf 14 = .ok (.goto 30, 3) := by decide +kernel
theorem dX5_waitOf_17 : decode cX5_waitOf 17 = .ok (.iload_n 2, 1) := by decide +kernel
theorem dX5_waitOf_18 : decode cX5_waitOf 18 = .ok (.iconst 1, 1) := by decide +kernel
theorem dX5_waitOf_19 : decode cX5_waitOf 19 = .ok (.if_icmp .ne 12, 3) := by decide +kernel
theorem dX5_waitOf_22 : decode cX5_waitOf 22 = .ok (.aload_n 0, 1) := by decide +kernel
theorem dX5_waitOf_23 : decode cX5_waitOf 23 = .ok (.iload_n 1, 1) := by decide +kernel
theorem dX5_waitOf_24 : decode cX5_waitOf 24 = .ok (.iconst 3, 1) := by decide +kernel
theorem dX5_waitOf_25 : decode cX5_waitOf 25 = .ok (.invokevirtual 45, 3) := by decide +kernel
theorem dX5_waitOf_28 : decode cX5_waitOf 28 = .ok (.goto 16, 3) := by decide +kernel
theorem dX5_waitOf_31 : decode cX5_waitOf 31 = .ok (.aload_n 0, 1) := by decide +kernel
theorem dX5_waitOf_32 : decode cX5_waitOf 32 = .ok (.getfield 7, 3) := by decide +kernel
theorem dX5_waitOf_35 : decode cX5_waitOf 35 = .ok (.iconst 4, 1) := by decide +kernel
theorem dX5_waitOf_36 : decode cX5_waitOf 36 = .ok (.iaload, 1) := by decide +kernel
theorem dX5_waitOf_37 : decode cX5_waitOf 37 = .ok (.aload_n 0, 1) := by decide +kernel
theorem dX5_waitOf_38 : decode cX5_waitOf 38 = .ok (.iload_n 1, 1) := by decide +kernel
theorem dX5_waitOf_39 : decode cX5_waitOf 39 = .ok (.iconst 1, 1) := by decide +kernel
theorem dX5_waitOf_40 : decode cX5_waitOf 40 = .ok (.invokevirtual 45, 3) := by decide +kernel
theorem dX5_waitOf_43 : decode cX5_waitOf 43 = .ok (.isub, 1) := by decide +kernel
theorem dX5_waitOf_44 : decode cX5_waitOf 44 = .ok (.ireturn, 1) := by decide +kernel
theorem dX5_frame_0 : decode cX5_frame 0 = .ok (.aload_n 0, 1) := by decide +kernel
theorem dX5_frame_1 : decode cX5_frame 1 = .ok (.iload_n 1, 1) := by decide +kernel
theorem dX5_frame_2 : decode cX5_frame 2 = .ok (.invokevirtual 126, 3) := by decide +kernel
theorem dX5_frame_5 : decode cX5_frame 5 = .ok (.ifCond .ne 5, 3) := by decide +kernel
theorem dX5_frame_8 : decode cX5_frame 8 = .ok (.iconst (-1), 1) := by decide +kernel
theorem dX5_frame_9 : decode cX5_frame 9 = .ok (.ireturn, 1) := by decide +kernel
theorem dX5_frame_10 : decode cX5_frame 10 = .ok (.iload_n 2, 1) := by decide +kernel
theorem dX5_frame_11 : decode cX5_frame 11 = .ok (.i2l, 1) := by decide +kernel
theorem dX5_frame_12 : decode cX5_frame 12 = .ok (.lconst 0, 1) := by decide +kernel
theorem dX5_frame_13 : decode cX5_frame 13 = .ok (.ldc2_w 39, 3) := by decide +kernel
theorem dX5_frame_16 : decode cX5_frame 16 = .ok (.invokestatic 41, 3) := by decide +kernel
theorem dX5_frame_19 : decode cX5_frame 19 = .ok (.ifCond .eq 12, 3) := by decide +kernel
theorem dX5_frame_22 : decode cX5_frame 22 = .ok (.aload_n 0, 1) := by decide +kernel
theorem dX5_frame_23 : decode cX5_frame 23 = .ok (.iload_n 1, 1) := by decide +kernel
theorem dX5_frame_24 : decode cX5_frame 24 = .ok (.iload_n 2, 1) := by decide +kernel
theorem dX5_frame_25 : decode cX5_frame 25 = .ok (.invokevirtual 45, 3) := by decide +kernel
theorem dX5_frame_28 : decode cX5_frame 28 = .ok (.goto 18, 3) := by decide +kernel
theorem dX5_frame_31 : decode cX5_frame 31 = .ok (.iload_n 2, 1) := by decide +kernel
theorem dX5_frame_32 : decode cX5_frame 32 = .ok (.iconst 3, 1) := by decide +kernel
theorem dX5_frame_33 : decode cX5_frame 33 = .ok (.if_icmp .ne 11, 3) := by decide +kernel
theorem dX5_frame_36 : decode cX5_frame 36 = .ok (.aload_n 0, 1) := by decide +kernel
theorem dX5_frame_37 : decode cX5_frame 37 = .ok (.iload_n 1, 1) := by decide +kernel
theorem dX5_frame_38 : decode cX5_frame 38 = .ok (.invokevirtual 129, 3) := by decide +kernel
theorem dX5_frame_41 : decode cX5_frame 41 = .ok (.goto 5, 3) := by decide +kernel
theorem dX5_frame_44 : decode cX5_frame 44 = .ok (.bipush (-2), 2) := by decide +kernel
theorem dX5_frame_46 : decode cX5_frame 46 = .ok (.ireturn, 1) := by decide +kernel
theorem dX5_row_0 : decode cX5_row 0 = .ok (.iload_n 1, 1) := by decide +kernel
theorem dX5_row_1 : decode cX5_row 1 = .ok (.i2l, 1) := by decide +kernel
theorem dX5_row_2 : decode cX5_row 2 = .ok (.lconst 0, 1) := by decide +kernel
theorem dX5_row_3 : decode cX5_row 3 = .ok (.aload_n 0, 1) := by decide +kernel
theorem dX5_row_4 : decode cX5_row 4 = .ok (.getfield 7, 3) := by decide +kernel
theorem dX5_row_7 : decode cX5_row 7 = .ok (.bipush 6, 2) := by decide +kernel
theorem dX5_row_9 : decode cX5_row 9 = .ok (.iaload, 1) := by decide +kernel
theorem dX5_row_10 : decode cX5_row 10 = .ok (.i2l, 1) := by decide +kernel
theorem dX5_row_11 : decode cX5_row 11 = .ok (.lconst 1, 1) := by decide +kernel
theorem dX5_row_12 : decode cX5_row 12 = .ok (.lsub, 1) := by decide +kernel
theorem dX5_row_13 : decode cX5_row 13 = .ok (.invokestatic 41, 3) := by decide +kernel
theorem dX5_row_16 : decode cX5_row 16 = .ok (.ifCond .eq 15, 3) := by decide +kernel
theorem dX5_row_19 : decode cX5_row 19 = .ok (.aload_n 0, 1) := by decide +kernel
theorem dX5_row_20 : decode cX5_row 20 = .ok (.getfield 7, 3) := by decide +kernel
theorem dX5_row_23 : decode cX5_row 23 = .ok (.bipush 7, 2) := by decide +kernel
theorem dX5_row_25 : decode cX5_row 25 = .ok (.iload_n 1, 1) := by decide +kernel
theorem dX5_row_26 : decode cX5_row 26 = .ok (.iadd, 1) := by decide +kernel
theorem dX5_row_27 : decode cX5_row 27 = .ok (.iaload, 1) := by decide +kernel
theorem dX5_row_28 : decode cX5_row 28 = .ok (.goto 4, 3) := by decide +kernel
theorem dX5_row_31 : decode cX5_row 31 = .ok (.iconst (-1), 1) := by decide +kernel
theorem dX5_row_32 : decode cX5_row 32 = .ok (.ireturn, 1) := by decide +kernel
theorem dX5_count_0 : decode cX5_count 0 = .ok (.iload_n 1, 1) := by decide +kernel
theorem dX5_count_1 : decode cX5_count 1 = .ok (.tableswitch 150 0 12 #[67, 74, 81, 86, 92, 99, 105, 130, 130, 130, 130, 140, 145], 67) := by decide +kernel
theorem dX5_count_68 : decode cX5_count 68 = .ok (.aload_n 0, 1) := by decide +kernel
theorem dX5_count_69 : decode cX5_count 69 = .ok (.getfield 7, 3) := by decide +kernel
theorem dX5_count_72 : decode cX5_count 72 = .ok (.iconst 4, 1) := by decide +kernel
theorem dX5_count_73 : decode cX5_count 73 = .ok (.iaload, 1) := by decide +kernel
theorem dX5_count_74 : decode cX5_count 74 = .ok (.ireturn, 1) := by decide +kernel
theorem dX5_count_75 : decode cX5_count 75 = .ok (.aload_n 0, 1) := by decide +kernel
theorem dX5_count_76 : decode cX5_count 76 = .ok (.getfield 7, 3) := by decide +kernel
theorem dX5_count_79 : decode cX5_count 79 = .ok (.iconst 5, 1) := by decide +kernel
theorem dX5_count_80 : decode cX5_count 80 = .ok (.iaload, 1) := by decide +kernel
theorem dX5_count_81 : decode cX5_count 81 = .ok (.ireturn, 1) := by decide +kernel
theorem dX5_count_82 : decode cX5_count 82 = .ok (.aload_n 0, 1) := by decide +kernel
theorem dX5_count_83 : decode cX5_count 83 = .ok (.invokevirtual 132, 3) := by decide +kernel
theorem dX5_count_86 : decode cX5_count 86 = .ok (.ireturn, 1) := by decide +kernel
theorem dX5_count_87 : decode cX5_count 87 = .ok (.aload_n 0, 1) := by decide +kernel
theorem dX5_count_88 : decode cX5_count 88 = .ok (.iconst 5, 1) := by decide +kernel
theorem dX5_count_89 : decode cX5_count 89 = .ok (.invokevirtual 86, 3) := by decide +kernel
theorem dX5_count_92 : decode cX5_count 92 = .ok (.ireturn, 1) := by decide +kernel
theorem dX5_count_93 : decode cX5_count 93 = .ok (.aload_n 0, 1) := by decide +kernel
theorem dX5_count_94 : decode cX5_count 94 = .ok (.bipush 6, 2) := by decide +kernel
theorem dX5_count_96 : decode cX5_count 96 = .ok (.invokevirtual 86, 3) := by decide +kernel
theorem dX5_count_99 : decode cX5_count 99 = .ok (.ireturn, 1) := by decide +kernel
theorem dX5_count_100 : decode cX5_count 100 = .ok (.aload_n 0, 1) := by decide +kernel
theorem dX5_count_101 : decode cX5_count 101 = .ok (.iconst 4, 1) := by decide +kernel
theorem dX5_count_102 : decode cX5_count 102 = .ok (.invokevirtual 86, 3) := by decide +kernel
theorem dX5_count_105 : decode cX5_count 105 = .ok (.ireturn, 1) := by decide +kernel
theorem dX5_count_106 : decode cX5_count 106 = .ok (.aload_n 0, 1) := by decide +kernel
theorem dX5_count_107 : decode cX5_count 107 = .ok (.iconst 0, 1) := by decide +kernel
theorem dX5_count_108 : decode cX5_count 108 = .ok (.iconst 3, 1) := by decide +kernel
theorem dX5_count_109 : decode cX5_count 109 = .ok (.invokevirtual 53, 3) := by decide +kernel
theorem dX5_count_112 : decode cX5_count 112 = .ok (.iconst 2, 1) := by decide +kernel
theorem dX5_count_113 : decode cX5_count 113 = .ok (.aload_n 0, 1) := by decide +kernel
theorem dX5_count_114 : decode cX5_count 114 = .ok (.iconst 1, 1) := by decide +kernel
theorem dX5_count_115 : decode cX5_count 115 = .ok (.iconst 3, 1) := by decide +kernel
theorem dX5_count_116 : decode cX5_count 116 = .ok (.invokevirtual 53, 3) := by decide +kernel
theorem dX5_count_119 : decode cX5_count 119 = .ok (.imul, 1) := by decide +kernel
theorem dX5_count_120 : decode cX5_count 120 = .ok (.iadd, 1) := by decide +kernel
theorem dX5_count_121 : decode cX5_count 121 = .ok (.iconst 4, 1) := by decide +kernel
theorem dX5_count_122 : decode cX5_count 122 = .ok (.aload_n 0, 1) := by decide +kernel
theorem dX5_count_123 : decode cX5_count 123 = .ok (.iconst 2, 1) := by decide +kernel
theorem dX5_count_124 : decode cX5_count 124 = .ok (.iconst 3, 1) := by decide +kernel
theorem dX5_count_125 : decode cX5_count 125 = .ok (.invokevirtual 53, 3) := by decide +kernel
theorem dX5_count_128 : decode cX5_count 128 = .ok (.imul, 1) := by decide +kernel
theorem dX5_count_129 : decode cX5_count 129 = .ok (.iadd, 1) := by decide +kernel
theorem dX5_count_130 : decode cX5_count 130 = .ok (.ireturn, 1) := by decide +kernel
theorem dX5_count_131 : decode cX5_count 131 = .ok (.aload_n 0, 1) := by decide +kernel
theorem dX5_count_132 : decode cX5_count 132 = .ok (.getfield 7, 3) := by decide +kernel
theorem dX5_count_135 : decode cX5_count 135 = .ok (.iload_n 1, 1) := by decide +kernel
theorem dX5_count_136 : decode cX5_count 136 = .ok (.bipush 7, 2) := by decide +kernel
theorem dX5_count_138 : decode cX5_count 138 = .ok (.isub, 1) := by decide +kernel
theorem dX5_count_139 : decode cX5_count 139 = .ok (.iaload, 1) := by decide +kernel
theorem dX5_count_140 : decode cX5_count 140 = .ok (.ireturn, 1) := by decide +kernel
theorem dX5_count_141 : decode cX5_count 141 = .ok (.aload_n 0, 1) := by decide +kernel
theorem dX5_count_142 : decode cX5_count 142 = .ok (.getfield 136, 3) := by decide +kernel
theorem dX5_count_145 : decode cX5_count 145 = .ok (.ireturn, 1) := by decide +kernel
theorem dX5_count_146 : decode cX5_count 146 = .ok (.aload_n 0, 1) := by decide +kernel
theorem dX5_count_147 : decode cX5_count 147 = .ok (.getfield 35, 3) := by decide +kernel
theorem dX5_count_150 : decode cX5_count 150 = .ok (.ireturn, 1) := by decide +kernel
theorem dX5_count_151 : decode cX5_count 151 = .ok (.bipush (-2), 2) := by decide +kernel
theorem dX5_count_153 : decode cX5_count 153 = .ok (.ireturn, 1) := by decide +kernel
theorem dX5_why_0 : decode cX5_why 0 = .ok (.iload_n 1, 1) := by decide +kernel
theorem dX5_why_1 : decode cX5_why 1 = .ok (.invokestatic 106, 3) := by decide +kernel
theorem dX5_why_4 : decode cX5_why 4 = .ok (.ifCond .eq 11, 3) := by decide +kernel
theorem dX5_why_7 : decode cX5_why 7 = .ok (.aload_n 0, 1) := by decide +kernel
theorem dX5_why_8 : decode cX5_why 8 = .ok (.iload_n 1, 1) := by decide +kernel
theorem dX5_why_9 : decode cX5_why 9 = .ok (.invokevirtual 80, 3) := by decide +kernel
theorem dX5_why_12 : decode cX5_why 12 = .ok (.goto 4, 3) := by decide +kernel
theorem dX5_why_15 : decode cX5_why 15 = .ok (.iconst (-1), 1) := by decide +kernel
theorem dX5_why_16 : decode cX5_why 16 = .ok (.ireturn, 1) := by decide +kernel
theorem dX5_takenIn_0 : decode cX5_takenIn 0 = .ok (.aload_n 0, 1) := by decide +kernel
theorem dX5_takenIn_1 : decode cX5_takenIn 1 = .ok (.iload_n 1, 1) := by decide +kernel
theorem dX5_takenIn_2 : decode cX5_takenIn 2 = .ok (.invokevirtual 126, 3) := by decide +kernel
theorem dX5_takenIn_5 : decode cX5_takenIn 5 = .ok (.ifCond .ne 5, 3) := by decide +kernel
theorem dX5_takenIn_8 : decode cX5_takenIn 8 = .ok (.iconst (-1), 1) := by decide +kernel
theorem dX5_takenIn_9 : decode cX5_takenIn 9 = .ok (.ireturn, 1) := by decide +kernel
theorem dX5_takenIn_10 : decode cX5_takenIn 10 = .ok (.aload_n 0, 1) := by decide +kernel
theorem dX5_takenIn_11 : decode cX5_takenIn 11 = .ok (.iload_n 1, 1) := by decide +kernel
theorem dX5_takenIn_12 : decode cX5_takenIn 12 = .ok (.iconst 2, 1) := by decide +kernel
theorem dX5_takenIn_13 : decode cX5_takenIn 13 = .ok (.invokevirtual 45, 3) := by decide +kernel
theorem dX5_takenIn_16 : decode cX5_takenIn 16 = .ok (.ifCond .eq 6, 3) := by decide +kernel
theorem dX5_takenIn_19 : decode cX5_takenIn 19 = .ok (.bipush (-5), 2) := by decide +kernel
theorem dX5_takenIn_21 : decode cX5_takenIn 21 = .ok (.ireturn, 1) := by decide +kernel
theorem dX5_takenIn_22 : decode cX5_takenIn 22 = .ok (.aload_n 0, 1) := by decide +kernel
theorem dX5_takenIn_23 : decode cX5_takenIn 23 = .ok (.invokevirtual 139, 3) := by decide +kernel
theorem dX5_takenIn_26 : decode cX5_takenIn 26 = .ok (.iconst 0, 1) := by decide +kernel
theorem dX5_takenIn_27 : decode cX5_takenIn 27 = .ok (.istore_n 2, 1) := by decide +kernel
theorem dX5_takenIn_28 : decode cX5_takenIn 28 = .ok (.aload_n 0, 1) := by decide +kernel
theorem dX5_takenIn_29 : decode cX5_takenIn 29 = .ok (.iload_n 1, 1) := by decide +kernel
theorem dX5_takenIn_30 : decode cX5_takenIn 30 = .ok (.iconst 2, 1) := by decide +kernel
theorem dX5_takenIn_31 : decode cX5_takenIn 31 = .ok (.invokevirtual 45, 3) := by decide +kernel
theorem dX5_takenIn_34 : decode cX5_takenIn 34 = .ok (.ifCond .ne 20, 3) := by decide +kernel
theorem dX5_takenIn_37 : decode cX5_takenIn 37 = .ok (.iload_n 2, 1) := by decide +kernel
theorem dX5_takenIn_38 : decode cX5_takenIn 38 = .ok (.sipush 500, 3) := by decide +kernel
theorem dX5_takenIn_41 : decode cX5_takenIn 41 = .ok (.if_icmp .gt 13, 3) := by decide +kernel
theorem dX5_takenIn_44 : decode cX5_takenIn 44 = .ok (.aload_n 0, 1) := by decide +kernel
theorem dX5_takenIn_45 : decode cX5_takenIn 45 = .ok (.invokevirtual 89, 3) := by decide +kernel
theorem dX5_takenIn_48 : decode cX5_takenIn 48 = .ok (.iinc 2 1, 3) := by decide +kernel
theorem dX5_takenIn_51 : decode cX5_takenIn 51 = .ok (.goto (-23), 3) := by decide +kernel
theorem dX5_takenIn_54 : decode cX5_takenIn 54 = .ok (.aload_n 0, 1) := by decide +kernel
theorem dX5_takenIn_55 : decode cX5_takenIn 55 = .ok (.invokevirtual 142, 3) := by decide +kernel
theorem dX5_takenIn_58 : decode cX5_takenIn 58 = .ok (.iload_n 2, 1) := by decide +kernel
theorem dX5_takenIn_59 : decode cX5_takenIn 59 = .ok (.sipush 500, 3) := by decide +kernel
theorem dX5_takenIn_62 : decode cX5_takenIn 62 = .ok (.if_icmp .le 8, 3) := by decide +kernel
theorem dX5_takenIn_65 : decode cX5_takenIn 65 = .ok (.bipush (-6), 2) := by decide +kernel
theorem dX5_takenIn_67 : decode cX5_takenIn 67 = .ok (.goto 4, 3) := by decide +kernel
theorem dX5_takenIn_70 : decode cX5_takenIn 70 = .ok (.iload_n 2, 1) := by decide +kernel
theorem dX5_takenIn_71 : decode cX5_takenIn 71 = .ok (.ireturn, 1) := by decide +kernel
theorem dX5_would_0 : decode cX5_would 0 = .ok (.iload_n 1, 1) := by decide +kernel
theorem dX5_would_1 : decode cX5_would 1 = .ok (.invokestatic 120, 3) := by decide +kernel
theorem dX5_would_4 : decode cX5_would 4 = .ok (.ifCond .eq 15, 3) := by decide +kernel
theorem dX5_would_7 : decode cX5_would 7 = .ok (.iload_n 2, 1) := by decide +kernel
theorem dX5_would_8 : decode cX5_would 8 = .ok (.i2l, 1) := by decide +kernel
theorem dX5_would_9 : decode cX5_would 9 = .ok (.lconst 0, 1) := by decide +kernel
theorem dX5_would_10 : decode cX5_would 10 = .ok (.ldc2_w 145, 3) := by decide +kernel
theorem dX5_would_13 : decode cX5_would 13 = .ok (.invokestatic 41, 3) := by decide +kernel
theorem dX5_would_16 : decode cX5_would 16 = .ok (.ifCond .ne 6, 3) := by decide +kernel
theorem dX5_would_19 : decode cX5_would 19 = .ok (.bipush (-2), 2) := by decide +kernel
theorem dX5_would_21 : decode cX5_would 21 = .ok (.ireturn, 1) := by decide +kernel
theorem dX5_would_22 : decode cX5_would 22 = .ok (.aload_n 0, 1) := by decide +kernel
theorem dX5_would_23 : decode cX5_would 23 = .ok (.invokevirtual 139, 3) := by decide +kernel
theorem dX5_would_26 : decode cX5_would 26 = .ok (.aload_n 0, 1) := by decide +kernel
theorem dX5_would_27 : decode cX5_would 27 = .ok (.iconst 4, 1) := by decide +kernel
theorem dX5_would_28 : decode cX5_would 28 = .ok (.invokevirtual 86, 3) := by decide +kernel
theorem dX5_would_31 : decode cX5_would 31 = .ok (.istore_n 3, 1) := by decide +kernel
theorem dX5_would_32 : decode cX5_would 32 = .ok (.aload_n 0, 1) := by decide +kernel
theorem dX5_would_33 : decode cX5_would 33 = .ok (.bipush 7, 2) := by decide +kernel
theorem dX5_would_35 : decode cX5_would 35 = .ok (.invokevirtual 86, 3) := by decide +kernel
theorem dX5_would_38 : decode cX5_would 38 = .ok (.istore 4, 2) := by decide +kernel
theorem dX5_would_40 : decode cX5_would 40 = .ok (.aload_n 0, 1) := by decide +kernel
theorem dX5_would_41 : decode cX5_would 41 = .ok (.iload_n 1, 1) := by decide +kernel
theorem dX5_would_42 : decode cX5_would 42 = .ok (.invokevirtual 123, 3) := by decide +kernel
theorem dX5_would_45 : decode cX5_would 45 = .ok (.istore 5, 2) := by decide +kernel
theorem dX5_would_47 : decode cX5_would 47 = .ok (.iload_n 2, 1) := by decide +kernel
theorem dX5_would_48 : decode cX5_would 48 = .ok (.ifCond .ne 8, 3) := by decide +kernel
theorem dX5_would_51 : decode cX5_would 51 = .ok (.iload 5, 2) := by decide +kernel
theorem dX5_would_53 : decode cX5_would 53 = .ok (.goto 39, 3) := by decide +kernel
theorem dX5_would_56 : decode cX5_would 56 = .ok (.iload_n 2, 1) := by decide +kernel
theorem dX5_would_57 : decode cX5_would 57 = .ok (.iconst 1, 1) := by decide +kernel
theorem dX5_would_58 : decode cX5_would 58 = .ok (.if_icmp .ne 13, 3) := by decide +kernel
theorem dX5_would_61 : decode cX5_would 61 = .ok (.aload_n 0, 1) := by decide +kernel
theorem dX5_would_62 : decode cX5_would 62 = .ok (.iconst 4, 1) := by decide +kernel
theorem dX5_would_63 : decode cX5_would 63 = .ok (.invokevirtual 86, 3) := by decide +kernel
theorem dX5_would_66 : decode cX5_would 66 = .ok (.iload_n 3, 1) := by decide +kernel
theorem dX5_would_67 : decode cX5_would 67 = .ok (.isub, 1) := by decide +kernel
theorem dX5_would_68 : decode cX5_would 68 = .ok (.goto 24, 3) := by decide +kernel
theorem dX5_would_71 : decode cX5_would 71 = .ok (.iload_n 2, 1) := by decide +kernel
theorem dX5_would_72 : decode cX5_would 72 = .ok (.iconst 2, 1) := by decide +kernel
theorem dX5_would_73 : decode cX5_would 73 = .ok (.if_icmp .ne 15, 3) := by decide +kernel
theorem dX5_would_76 : decode cX5_would 76 = .ok (.aload_n 0, 1) := by decide +kernel
theorem dX5_would_77 : decode cX5_would 77 = .ok (.bipush 7, 2) := by decide +kernel
theorem dX5_would_79 : decode cX5_would 79 = .ok (.invokevirtual 86, 3) := by decide +kernel
theorem dX5_would_82 : decode cX5_would 82 = .ok (.iload 4, 2) := by decide +kernel
theorem dX5_would_84 : decode cX5_would 84 = .ok (.isub, 1) := by decide +kernel
theorem dX5_would_85 : decode cX5_would 85 = .ok (.goto 7, 3) := by decide +kernel
theorem dX5_would_88 : decode cX5_would 88 = .ok (.aload_n 0, 1) := by decide +kernel
theorem dX5_would_89 : decode cX5_would 89 = .ok (.invokevirtual 132, 3) := by decide +kernel
theorem dX5_would_92 : decode cX5_would 92 = .ok (.istore 6, 2) := by decide +kernel
theorem dX5_would_94 : decode cX5_would 94 = .ok (.aload_n 0, 1) := by decide +kernel
theorem dX5_would_95 : decode cX5_would 95 = .ok (.invokevirtual 142, 3) := by decide +kernel
theorem dX5_would_98 : decode cX5_would 98 = .ok (.iload 6, 2) := by decide +kernel
theorem dX5_would_100 : decode cX5_would 100 = .ok (.ireturn, 1) := by decide +kernel
theorem dX5_empties_0 : decode cX5_empties 0 = .ok (.iconst 0, 1) := by decide +kernel
theorem dX5_empties_1 : decode cX5_empties 1 = .ok (.istore_n 1, 1) := by decide +kernel
theorem dX5_empties_2 : decode cX5_empties 2 = .ok (.iload_n 1, 1) := by decide +kernel
theorem dX5_empties_3 : decode cX5_empties 3 = .ok (.iconst 3, 1) := by decide +kernel
theorem dX5_empties_4 : decode cX5_empties 4 = .ok (.if_icmp .ge 51, 3) := by decide +kernel
theorem dX5_empties_7 : decode cX5_empties 7 = .ok (.iconst 3, 1) := by decide +kernel
theorem dX5_empties_8 : decode cX5_empties 8 = .ok (.istore_n 2, 1) := by decide +kernel
theorem dX5_empties_9 : decode cX5_empties 9 = .ok (.iload_n 2, 1) := by decide +kernel
theorem dX5_empties_10 : decode cX5_empties 10 = .ok (.bipush 10, 2) := by decide +kernel
theorem dX5_empties_12 : decode cX5_empties 12 = .ok (.if_icmp .ge 16, 3) := by decide +kernel
theorem dX5_empties_15 : decode cX5_empties 15 = .ok (.aload_n 0, 1) := by decide +kernel
theorem dX5_empties_16 : decode cX5_empties 16 = .ok (.iload_n 1, 1) := by decide +kernel
theorem dX5_empties_17 : decode cX5_empties 17 = .ok (.iload_n 2, 1) := by decide +kernel
theorem dX5_empties_18 : decode cX5_empties 18 = .ok (.iconst 0, 1) := by decide +kernel
theorem dX5_empties_19 : decode cX5_empties 19 = .ok (.invokevirtual 31, 3) := by decide +kernel
theorem dX5_empties_22 : decode cX5_empties 22 = .ok (.iinc 2 1, 3) := by decide +kernel
theorem dX5_empties_25 : decode cX5_empties 25 = .ok (.goto (-16), 3) := by decide +kernel
theorem dX5_empties_28 : decode cX5_empties 28 = .ok (.aload_n 0, 1) := by decide +kernel
theorem dX5_empties_29 : decode cX5_empties 29 = .ok (.iload_n 1, 1) := by decide +kernel
theorem dX5_empties_30 : decode cX5_empties 30 = .ok (.iconst 2, 1) := by decide +kernel
theorem dX5_empties_31 : decode cX5_empties 31 = .ok (.aload_n 0, 1) := by decide +kernel
theorem dX5_empties_32 : decode cX5_empties 32 = .ok (.iload_n 1, 1) := by decide +kernel
theorem dX5_empties_33 : decode cX5_empties 33 = .ok (.iconst 0, 1) := by decide +kernel
theorem dX5_empties_34 : decode cX5_empties 34 = .ok (.invokevirtual 53, 3) := by decide +kernel
theorem dX5_empties_37 : decode cX5_empties 37 = .ok (.invokevirtual 31, 3) := by decide +kernel
theorem dX5_empties_40 : decode cX5_empties 40 = .ok (.aload_n 0, 1) := by decide +kernel
theorem dX5_empties_41 : decode cX5_empties 41 = .ok (.iload_n 1, 1) := by decide +kernel
theorem dX5_empties_42 : decode cX5_empties 42 = .ok (.bipush 8, 2) := by decide +kernel
theorem dX5_empties_44 : decode cX5_empties 44 = .ok (.bipush (-6), 2) := by decide +kernel
theorem dX5_empties_46 : decode cX5_empties 46 = .ok (.invokevirtual 31, 3) := by decide +kernel
theorem dX5_empties_49 : decode cX5_empties 49 = .ok (.iinc 1 1, 3) := by decide +kernel
theorem dX5_empties_52 : decode cX5_empties 52 = .ok (.goto (-50), 3) := by decide +kernel
theorem dX5_empties_55 : decode cX5_empties 55 = .ok (.aload_n 0, 1) := by decide +kernel
theorem dX5_empties_56 : decode cX5_empties 56 = .ok (.getfield 7, 3) := by decide +kernel
theorem dX5_empties_59 : decode cX5_empties 59 = .ok (.iconst 4, 1) := by decide +kernel
theorem dX5_empties_60 : decode cX5_empties 60 = .ok (.iconst 0, 1) := by decide +kernel
theorem dX5_empties_61 : decode cX5_empties 61 = .ok (.iastore, 1) := by decide +kernel
theorem dX5_empties_62 : decode cX5_empties 62 = .ok (.aload_n 0, 1) := by decide +kernel
theorem dX5_empties_63 : decode cX5_empties 63 = .ok (.getfield 7, 3) := by decide +kernel
theorem dX5_empties_66 : decode cX5_empties 66 = .ok (.iconst 5, 1) := by decide +kernel
theorem dX5_empties_67 : decode cX5_empties 67 = .ok (.iconst 0, 1) := by decide +kernel
theorem dX5_empties_68 : decode cX5_empties 68 = .ok (.iastore, 1) := by decide +kernel
theorem dX5_empties_69 : decode cX5_empties 69 = .ok (.aload_n 0, 1) := by decide +kernel
theorem dX5_empties_70 : decode cX5_empties 70 = .ok (.getfield 7, 3) := by decide +kernel
theorem dX5_empties_73 : decode cX5_empties 73 = .ok (.bipush 6, 2) := by decide +kernel
theorem dX5_empties_75 : decode cX5_empties 75 = .ok (.iconst 0, 1) := by decide +kernel
theorem dX5_empties_76 : decode cX5_empties 76 = .ok (.iastore, 1) := by decide +kernel
theorem dX5_empties_77 : decode cX5_empties 77 = .ok (.return_, 1) := by decide +kernel
theorem dX5_costs_0 : decode cX5_costs 0 = .ok (.aload_n 0, 1) := by decide +kernel
theorem dX5_costs_1 : decode cX5_costs 1 = .ok (.invokevirtual 139, 3) := by decide +kernel
theorem dX5_costs_4 : decode cX5_costs 4 = .ok (.aload_n 0, 1) := by decide +kernel
theorem dX5_costs_5 : decode cX5_costs 5 = .ok (.invokevirtual 147, 3) := by decide +kernel
theorem dX5_costs_8 : decode cX5_costs 8 = .ok (.aload_n 0, 1) := by decide +kernel
theorem dX5_costs_9 : decode cX5_costs 9 = .ok (.iload_n 1, 1) := by decide +kernel
theorem dX5_costs_10 : decode cX5_costs 10 = .ok (.iload_n 2, 1) := by decide +kernel
theorem dX5_costs_11 : decode cX5_costs 11 = .ok (.aload_n 0, 1) := by decide +kernel
theorem dX5_costs_12 : decode cX5_costs 12 = .ok (.iload_n 1, 1) := by decide +kernel
theorem dX5_costs_13 : decode cX5_costs 13 = .ok (.iconst 1, 1) := by decide +kernel
theorem dX5_costs_14 : decode cX5_costs 14 = .ok (.invokevirtual 53, 3) := by decide +kernel
theorem dX5_costs_17 : decode cX5_costs 17 = .ok (.invokevirtual 113, 3) := by decide +kernel
theorem dX5_costs_20 : decode cX5_costs 20 = .ok (.istore 4, 2) := by decide +kernel
theorem dX5_costs_22 : decode cX5_costs 22 = .ok (.iconst 0, 1) := by decide +kernel
theorem dX5_costs_23 : decode cX5_costs 23 = .ok (.istore 5, 2) := by decide +kernel
theorem dX5_costs_25 : decode cX5_costs 25 = .ok (.iload 5, 2) := by decide +kernel
theorem dX5_costs_27 : decode cX5_costs 27 = .ok (.bipush 16, 2) := by decide +kernel
theorem dX5_costs_29 : decode cX5_costs 29 = .ok (.if_icmp .ge 23, 3) := by decide +kernel
theorem dX5_costs_32 : decode cX5_costs 32 = .ok (.aload_n 0, 1) := by decide +kernel
theorem dX5_costs_33 : decode cX5_costs 33 = .ok (.iload_n 1, 1) := by decide +kernel
theorem dX5_costs_34 : decode cX5_costs 34 = .ok (.invokevirtual 117, 3) := by decide +kernel
theorem dX5_costs_37 : decode cX5_costs 37 = .ok (.istore 6, 2) := by decide +kernel
theorem dX5_costs_39 : decode cX5_costs 39 = .ok (.aload_n 0, 1) := by decide +kernel
theorem dX5_costs_40 : decode cX5_costs 40 = .ok (.iload_n 3, 1) := by decide +kernel
theorem dX5_costs_41 : decode cX5_costs 41 = .ok (.invokevirtual 123, 3) := by decide +kernel
theorem dX5_costs_44 : decode cX5_costs 44 = .ok (.istore 7, 2) := by decide +kernel
theorem dX5_costs_46 : decode cX5_costs 46 = .ok (.iinc 5 1, 3) := by decide +kernel
theorem dX5_costs_49 : decode cX5_costs 49 = .ok (.goto (-24), 3) := by decide +kernel
theorem dX5_costs_52 : decode cX5_costs 52 = .ok (.aload_n 0, 1) := by decide +kernel
theorem dX5_costs_53 : decode cX5_costs 53 = .ok (.invokevirtual 132, 3) := by decide +kernel
theorem dX5_costs_56 : decode cX5_costs 56 = .ok (.ifCond .le 10, 3) := by decide +kernel
theorem dX5_costs_59 : decode cX5_costs 59 = .ok (.aload_n 0, 1) := by decide +kernel
theorem dX5_costs_60 : decode cX5_costs 60 = .ok (.invokevirtual 89, 3) := by decide +kernel
theorem dX5_costs_63 : decode cX5_costs 63 = .ok (.goto (-11), 3) := by decide +kernel
theorem dX5_costs_66 : decode cX5_costs 66 = .ok (.aload_n 0, 1) := by decide +kernel
theorem dX5_costs_67 : decode cX5_costs 67 = .ok (.bipush 7, 2) := by decide +kernel
theorem dX5_costs_69 : decode cX5_costs 69 = .ok (.invokevirtual 86, 3) := by decide +kernel
theorem dX5_costs_72 : decode cX5_costs 72 = .ok (.aload_n 0, 1) := by decide +kernel
theorem dX5_costs_73 : decode cX5_costs 73 = .ok (.getfield 7, 3) := by decide +kernel
theorem dX5_costs_76 : decode cX5_costs 76 = .ok (.iconst 3, 1) := by decide +kernel
theorem dX5_costs_77 : decode cX5_costs 77 = .ok (.iaload, 1) := by decide +kernel
theorem dX5_costs_78 : decode cX5_costs 78 = .ok (.aload_n 0, 1) := by decide +kernel
theorem dX5_costs_79 : decode cX5_costs 79 = .ok (.iconst 4, 1) := by decide +kernel
theorem dX5_costs_80 : decode cX5_costs 80 = .ok (.invokevirtual 86, 3) := by decide +kernel
theorem dX5_costs_83 : decode cX5_costs 83 = .ok (.imul, 1) := by decide +kernel
theorem dX5_costs_84 : decode cX5_costs 84 = .ok (.iadd, 1) := by decide +kernel
theorem dX5_costs_85 : decode cX5_costs 85 = .ok (.istore 5, 2) := by decide +kernel
theorem dX5_costs_87 : decode cX5_costs 87 = .ok (.aload_n 0, 1) := by decide +kernel
theorem dX5_costs_88 : decode cX5_costs 88 = .ok (.invokevirtual 142, 3) := by decide +kernel
theorem dX5_costs_91 : decode cX5_costs 91 = .ok (.iload 5, 2) := by decide +kernel
theorem dX5_costs_93 : decode cX5_costs 93 = .ok (.ireturn, 1) := by decide +kernel
theorem dX5_bestCount_0 : decode cX5_bestCount 0 = .ok (.iload_n 1, 1) := by decide +kernel
theorem dX5_bestCount_1 : decode cX5_bestCount 1 = .ok (.invokestatic 106, 3) := by decide +kernel
theorem dX5_bestCount_4 : decode cX5_bestCount 4 = .ok (.ifCond .ne 5, 3) := by decide +kernel
theorem dX5_bestCount_7 : decode cX5_bestCount 7 = .ok (.iconst (-1), 1) := by decide +kernel
theorem dX5_bestCount_8 : decode cX5_bestCount 8 = .ok (.ireturn, 1) := by decide +kernel
theorem dX5_bestCount_9 : decode cX5_bestCount 9 = .ok (.iload_n 2, 1) := by decide +kernel
theorem dX5_bestCount_10 : decode cX5_bestCount 10 = .ok (.i2l, 1) := by decide +kernel
theorem dX5_bestCount_11 : decode cX5_bestCount 11 = .ok (.lconst 1, 1) := by decide +kernel
theorem dX5_bestCount_12 : decode cX5_bestCount 12 = .ok (.ldc2_w 150, 3) := by decide +kernel
theorem dX5_bestCount_15 : decode cX5_bestCount 15 = .ok (.invokestatic 41, 3) := by decide +kernel
theorem dX5_bestCount_18 : decode cX5_bestCount 18 = .ok (.ifCond .eq 13, 3) := by decide +kernel
theorem dX5_bestCount_21 : decode cX5_bestCount 21 = .ok (.iload_n 3, 1) := by decide +kernel
theorem dX5_bestCount_22 : decode cX5_bestCount 22 = .ok (.i2l, 1) := by decide +kernel
theorem dX5_bestCount_23 : decode cX5_bestCount 23 = .ok (.lconst 0, 1) := by decide +kernel
theorem dX5_bestCount_24 : decode cX5_bestCount 24 = .ok (.lconst 1, 1) := by decide +kernel
theorem dX5_bestCount_25 : decode cX5_bestCount 25 = .ok (.invokestatic 41, 3) := by decide +kernel
theorem dX5_bestCount_28 : decode cX5_bestCount 28 = .ok (.ifCond .ne 6, 3) := by decide +kernel
theorem dX5_bestCount_31 : decode cX5_bestCount 31 = .ok (.bipush (-2), 2) := by decide +kernel
theorem dX5_bestCount_33 : decode cX5_bestCount 33 = .ok (.ireturn, 1) := by decide +kernel
theorem dX5_bestCount_34 : decode cX5_bestCount 34 = .ok (.iconst 1, 1) := by decide +kernel
theorem dX5_bestCount_35 : decode cX5_bestCount 35 = .ok (.istore 4, 2) := by decide +kernel
theorem dX5_bestCount_37 : decode cX5_bestCount 37 = .ok (.aload_n 0, 1) := by decide +kernel
theorem dX5_bestCount_38 : decode cX5_bestCount 38 = .ok (.iload_n 1, 1) := by decide +kernel
theorem dX5_bestCount_39 : decode cX5_bestCount 39 = .ok (.iconst 1, 1) := by decide +kernel
theorem dX5_bestCount_40 : decode cX5_bestCount 40 = .ok (.iload_n 2, 1) := by decide +kernel
theorem dX5_bestCount_41 : decode cX5_bestCount 41 = .ok (.invokevirtual 152, 3) := by decide +kernel
theorem dX5_bestCount_44 : decode cX5_bestCount 44 = .ok (.istore 5, 2) := by decide +kernel
theorem dX5_bestCount_46 : decode cX5_bestCount 46 = .ok (.iconst 2, 1) := by decide +kernel
theorem dX5_bestCount_47 : decode cX5_bestCount 47 = .ok (.istore 6, 2) := by decide +kernel
theorem dX5_bestCount_49 : decode cX5_bestCount 49 = .ok (.iload 6, 2) := by decide +kernel
theorem dX5_bestCount_51 : decode cX5_bestCount 51 = .ok (.bipush 32, 2) := by decide +kernel
theorem dX5_bestCount_53 : decode cX5_bestCount 53 = .ok (.if_icmp .gt 51, 3) := by decide +kernel
theorem dX5_bestCount_56 : decode cX5_bestCount 56 = .ok (.aload_n 0, 1) := by decide +kernel
theorem dX5_bestCount_57 : decode cX5_bestCount 57 = .ok (.iload_n 1, 1) := by decide +kernel
theorem dX5_bestCount_58 : decode cX5_bestCount 58 = .ok (.iload 6, 2) := by decide +kernel
theorem dX5_bestCount_60 : decode cX5_bestCount 60 = .ok (.iload_n 2, 1) := by decide +kernel
theorem dX5_bestCount_61 : decode cX5_bestCount 61 = .ok (.invokevirtual 152, 3) := by decide +kernel
theorem dX5_bestCount_64 : decode cX5_bestCount 64 = .ok (.istore 7, 2) := by decide +kernel
theorem dX5_bestCount_66 : decode cX5_bestCount 66 = .ok (.iload 7, 2) := by decide +kernel
theorem dX5_bestCount_68 : decode cX5_bestCount 68 = .ok (.iload 5, 2) := by decide +kernel
theorem dX5_bestCount_70 : decode cX5_bestCount 70 = .ok (.if_icmp .ge 8, 3) := by decide +kernel
theorem dX5_bestCount_73 : decode cX5_bestCount 73 = .ok (.iload 6, 2) := by decide +kernel
theorem dX5_bestCount_75 : decode cX5_bestCount 75 = .ok (.goto 5, 3) := by decide +kernel
theorem dX5_bestCount_78 : decode cX5_bestCount 78 = .ok (.iload 4, 2) := by decide +kernel
theorem dX5_bestCount_80 : decode cX5_bestCount 80 = .ok (.istore 4, 2) := by decide +kernel
theorem dX5_bestCount_82 : decode cX5_bestCount 82 = .ok (.iload 7, 2) := by decide +kernel
theorem dX5_bestCount_84 : decode cX5_bestCount 84 = .ok (.iload 5, 2) := by decide +kernel
theorem dX5_bestCount_86 : decode cX5_bestCount 86 = .ok (.if_icmp .ge 8, 3) := by decide +kernel
theorem dX5_bestCount_89 : decode cX5_bestCount 89 = .ok (.iload 7, 2) := by decide +kernel
theorem dX5_bestCount_91 : decode cX5_bestCount 91 = .ok (.goto 5, 3) := by decide +kernel
theorem dX5_bestCount_94 : decode cX5_bestCount 94 = .ok (.iload 5, 2) := by decide +kernel
theorem dX5_bestCount_96 : decode cX5_bestCount 96 = .ok (.istore 5, 2) := by decide +kernel
theorem dX5_bestCount_98 : decode cX5_bestCount 98 = .ok (.iinc 6 1, 3) := by decide +kernel
theorem dX5_bestCount_101 : decode cX5_bestCount 101 = .ok (.goto (-52), 3) := by decide +kernel
theorem dX5_bestCount_104 : decode cX5_bestCount 104 = .ok (.iload_n 3, 1) := by decide +kernel
theorem dX5_bestCount_105 : decode cX5_bestCount 105 = .ok (.ifCond .ne 8, 3) := by decide +kernel
theorem dX5_bestCount_108 : decode cX5_bestCount 108 = .ok (.iload 4, 2) := by decide +kernel
theorem dX5_bestCount_110 : decode cX5_bestCount 110 = .ok (.goto 5, 3) := by decide +kernel
theorem dX5_bestCount_113 : decode cX5_bestCount 113 = .ok (.iload 5, 2) := by decide +kernel
theorem dX5_bestCount_115 : decode cX5_bestCount 115 = .ok (.ireturn, 1) := by decide +kernel
theorem dX5_charactersOf_0 : decode cX5_charactersOf 0 = .ok (.lload_n 0, 1) := by decide +kernel
theorem dX5_charactersOf_1 : decode cX5_charactersOf 1 = .ok (.lstore_n 2, 1) := by decide +kernel
theorem dX5_charactersOf_2 : decode cX5_charactersOf 2 = .ok (.iconst 0, 1) := by decide +kernel
theorem dX5_charactersOf_3 : decode cX5_charactersOf 3 = .ok (.istore 4, 2) := by decide +kernel
theorem dX5_charactersOf_5 : decode cX5_charactersOf 5 = .ok (.iload 4, 2) := by decide +kernel
theorem dX5_charactersOf_7 : decode cX5_charactersOf 7 = .ok (.bipush 8, 2) := by decide +kernel
theorem dX5_charactersOf_9 : decode cX5_charactersOf 9 = .ok (.if_icmp .ge 31, 3) := by decide +kernel
theorem dX5_charactersOf_12 : decode cX5_charactersOf 12 = .ok (.lload_n 2, 1) := by decide +kernel
theorem dX5_charactersOf_13 : decode cX5_charactersOf 13 = .ok (.ldc2_w 155, 3) := by decide +kernel
theorem dX5_charactersOf_16 : decode cX5_charactersOf 16 = .ok (.land, 1) := by decide +kernel
theorem dX5_charactersOf_17 : decode cX5_charactersOf 17 = .ok (.ldc2_w 157, 3) := by decide +kernel
theorem dX5_charactersOf_20 : decode cX5_charactersOf 20 = .ok (.ldc2_w 159, 3) := by decide +kernel
theorem dX5_charactersOf_23 : decode cX5_charactersOf 23 = .ok (.invokestatic 41, 3) := by decide +kernel
theorem dX5_charactersOf_26 : decode cX5_charactersOf 26 = .ok (.ifCond .eq 14, 3) := by decide +kernel
theorem dX5_charactersOf_29 : decode cX5_charactersOf 29 = .ok (.lload_n 2, 1) := by decide +kernel
theorem dX5_charactersOf_30 : decode cX5_charactersOf 30 = .ok (.bipush 8, 2) := by decide +kernel
theorem dX5_charactersOf_32 : decode cX5_charactersOf 32 = .ok (.lushr, 1) := by decide +kernel
theorem dX5_charactersOf_33 : decode cX5_charactersOf 33 = .ok (.lstore_n 2, 1) := by decide +kernel
theorem dX5_charactersOf_34 : decode cX5_charactersOf 34 = .ok (.iinc 4 1, 3) := by decide +kernel
theorem dX5_charactersOf_37 : decode cX5_charactersOf 37 = .ok (.goto (-32), 3) := by decide +kernel
theorem dX5_charactersOf_40 : decode cX5_charactersOf 40 = .ok (.lload_n 2, 1) := by decide +kernel
theorem dX5_charactersOf_41 : decode cX5_charactersOf 41 = .ok (.lconst 0, 1) := by decide +kernel
theorem dX5_charactersOf_42 : decode cX5_charactersOf 42 = .ok (.lcmp, 1) := by decide +kernel
theorem dX5_charactersOf_43 : decode cX5_charactersOf 43 = .ok (.ifCond .ne 8, 3) := by decide +kernel
theorem dX5_charactersOf_46 : decode cX5_charactersOf 46 = .ok (.iload 4, 2) := by decide +kernel
theorem dX5_charactersOf_48 : decode cX5_charactersOf 48 = .ok (.goto 4, 3) := by decide +kernel
theorem dX5_charactersOf_51 : decode cX5_charactersOf 51 = .ok (.iconst 0, 1) := by decide +kernel
theorem dX5_charactersOf_52 : decode cX5_charactersOf 52 = .ok (.ireturn, 1) := by decide +kernel
theorem dX5_put_0 : decode cX5_put 0 = .ok (.lload_n 1, 1) := by decide +kernel
theorem dX5_put_1 : decode cX5_put 1 = .ok (.invokestatic 161, 3) := by decide +kernel
theorem dX5_put_4 : decode cX5_put 4 = .ok (.istore_n 3, 1) := by decide +kernel
theorem dX5_put_5 : decode cX5_put 5 = .ok (.iload_n 3, 1) := by decide +kernel
theorem dX5_put_6 : decode cX5_put 6 = .ok (.ifCond .ne 6, 3) := by decide +kernel
theorem dX5_put_9 : decode cX5_put 9 = .ok (.bipush (-2), 2) := by decide +kernel
theorem dX5_put_11 : decode cX5_put 11 = .ok (.ireturn, 1) := by decide +kernel
theorem dX5_put_12 : decode cX5_put 12 = .ok (.aload_n 0, 1) := by decide +kernel
theorem dX5_put_13 : decode cX5_put 13 = .ok (.getfield 136, 3) := by decide +kernel
theorem dX5_put_16 : decode cX5_put 16 = .ok (.iload_n 3, 1) := by decide +kernel
theorem dX5_put_17 : decode cX5_put 17 = .ok (.iadd, 1) := by decide +kernel
theorem dX5_put_18 : decode cX5_put 18 = .ok (.bipush 80, 2) := by decide +kernel
theorem dX5_put_20 : decode cX5_put 20 = .ok (.if_icmp .le 6, 3) := by decide +kernel
theorem dX5_put_23 : decode cX5_put 23 = .ok (.bipush (-4), 2) := by decide +kernel
theorem dX5_put_25 : decode cX5_put 25 = .ok (.ireturn, 1) := by decide +kernel
theorem dX5_put_26 : decode cX5_put 26 = .ok (.iconst 0, 1) := by decide +kernel
theorem dX5_put_27 : decode cX5_put 27 = .ok (.istore 4, 2) := by decide +kernel
theorem dX5_put_29 : decode cX5_put 29 = .ok (.iload 4, 2) := by decide +kernel
theorem dX5_put_31 : decode cX5_put 31 = .ok (.iload_n 3, 1) := by decide +kernel
theorem dX5_put_32 : decode cX5_put 32 = .ok (.if_icmp .ge 37, 3) := by decide +kernel
theorem dX5_put_35 : decode cX5_put 35 = .ok (.aload_n 0, 1) := by decide +kernel
theorem dX5_put_36 : decode cX5_put 36 = .ok (.getfield 25, 3) := by decide +kernel
theorem dX5_put_39 : decode cX5_put 39 = .ok (.aload_n 0, 1) := by decide +kernel
theorem dX5_put_40 : decode cX5_put 40 = .ok (.getfield 136, 3) := by decide +kernel
theorem dX5_put_43 : decode cX5_put 43 = .ok (.iload 4, 2) := by decide +kernel
theorem dX5_put_45 : decode cX5_put 45 = .ok (.iadd, 1) := by decide +kernel
theorem dX5_put_46 : decode cX5_put 46 = .ok (.lload_n 1, 1) := by decide +kernel
theorem dX5_put_47 : decode cX5_put 47 = .ok (.bipush 8, 2) := by decide +kernel
theorem dX5_put_49 : decode cX5_put 49 = .ok (.iload_n 3, 1) := by decide +kernel
theorem dX5_put_50 : decode cX5_put 50 = .ok (.iconst 1, 1) := by decide +kernel
theorem dX5_put_51 : decode cX5_put 51 = .ok (.isub, 1) := by decide +kernel
theorem dX5_put_52 : decode cX5_put 52 = .ok (.iload 4, 2) := by decide +kernel
theorem dX5_put_54 : decode cX5_put 54 = .ok (.isub, 1) := by decide +kernel
theorem dX5_put_55 : decode cX5_put 55 = .ok (.imul, 1) := by decide +kernel
theorem dX5_put_56 : decode cX5_put 56 = .ok (.lushr, 1) := by decide +kernel
theorem dX5_put_57 : decode cX5_put 57 = .ok (.ldc2_w 155, 3) := by decide +kernel
theorem dX5_put_60 : decode cX5_put 60 = .ok (.land, 1) := by decide +kernel
theorem dX5_put_61 : decode cX5_put 61 = .ok (.l2i, 1) := by decide +kernel
theorem dX5_put_62 : decode cX5_put 62 = .ok (.iastore, 1) := by decide +kernel
theorem dX5_put_63 : decode cX5_put 63 = .ok (.iinc 4 1, 3) := by decide +kernel
theorem dX5_put_66 : decode cX5_put 66 = .ok (.goto (-37), 3) := by decide +kernel
theorem dX5_put_69 : decode cX5_put 69 = .ok (.aload_n 0, 1) := by decide +kernel
theorem dX5_put_70 : decode cX5_put 70 = .ok (.dup, 1) := by decide +kernel
theorem dX5_put_71 : decode cX5_put 71 = .ok (.getfield 136, 3) := by decide +kernel
theorem dX5_put_74 : decode cX5_put 74 = .ok (.iload_n 3, 1) := by decide +kernel
theorem dX5_put_75 : decode cX5_put 75 = .ok (.iadd, 1) := by decide +kernel
theorem dX5_put_76 : decode cX5_put 76 = .ok (.putfield 136, 3) := by decide +kernel
theorem dX5_put_79 : decode cX5_put 79 = .ok (.aload_n 0, 1) := by decide +kernel
theorem dX5_put_80 : decode cX5_put 80 = .ok (.getfield 136, 3) := by decide +kernel
theorem dX5_put_83 : decode cX5_put 83 = .ok (.ireturn, 1) := by decide +kernel
theorem dX5_wipe_0 : decode cX5_wipe 0 = .ok (.aload_n 0, 1) := by decide +kernel
theorem dX5_wipe_1 : decode cX5_wipe 1 = .ok (.getfield 136, 3) := by decide +kernel
theorem dX5_wipe_4 : decode cX5_wipe 4 = .ok (.istore_n 1, 1) := by decide +kernel
theorem dX5_wipe_5 : decode cX5_wipe 5 = .ok (.aload_n 0, 1) := by decide +kernel
theorem dX5_wipe_6 : decode cX5_wipe 6 = .ok (.iconst 0, 1) := by decide +kernel
theorem dX5_wipe_7 : decode cX5_wipe 7 = .ok (.putfield 136, 3) := by decide +kernel
theorem dX5_wipe_10 : decode cX5_wipe 10 = .ok (.iload_n 1, 1) := by decide +kernel
theorem dX5_wipe_11 : decode cX5_wipe 11 = .ok (.ireturn, 1) := by decide +kernel
theorem dX5_isHere_0 : decode cX5_isHere 0 = .ok (.aload_n 0, 1) := by decide +kernel
theorem dX5_isHere_1 : decode cX5_isHere 1 = .ok (.getfield 165, 3) := by decide +kernel
theorem dX5_isHere_4 : decode cX5_isHere 4 = .ok (.aload_n 0, 1) := by decide +kernel
theorem dX5_isHere_5 : decode cX5_isHere 5 = .ok (.getfield 136, 3) := by decide +kernel
theorem dX5_isHere_8 : decode cX5_isHere 8 = .ok (.if_icmp .ge 27, 3) := by decide +kernel
theorem dX5_isHere_11 : decode cX5_isHere 11 = .ok (.aload_n 0, 1) := by decide +kernel
theorem dX5_isHere_12 : decode cX5_isHere 12 = .ok (.getfield 25, 3) := by decide +kernel
theorem dX5_isHere_15 : decode cX5_isHere 15 = .ok (.aload_n 0, 1) := by decide +kernel
theorem dX5_isHere_16 : decode cX5_isHere 16 = .ok (.getfield 165, 3) := by decide +kernel
theorem dX5_isHere_19 : decode cX5_isHere 19 = .ok (.iaload, 1) := by decide +kernel
theorem dX5_isHere_20 : decode cX5_isHere 20 = .ok (.i2l, 1) := by decide +kernel
theorem dX5_isHere_21 : decode cX5_isHere 21 = .ok (.iload_n 1, 1) := by decide +kernel
theorem dX5_isHere_22 : decode cX5_isHere 22 = .ok (.i2l, 1) := by decide +kernel
theorem dX5_isHere_23 : decode cX5_isHere 23 = .ok (.iload_n 2, 1) := by decide +kernel
theorem dX5_isHere_24 : decode cX5_isHere 24 = .ok (.i2l, 1) := by decide +kernel
theorem dX5_isHere_25 : decode cX5_isHere 25 = .ok (.invokestatic 41, 3) := by decide +kernel
theorem dX5_isHere_28 : decode cX5_isHere 28 = .ok (.ifCond .eq 7, 3) := by decide +kernel
theorem dX5_isHere_31 : decode cX5_isHere 31 = .ok (.iconst 1, 1) := by decide +kernel
theorem dX5_isHere_32 : decode cX5_isHere 32 = .ok (.goto 4, 3) := by decide +kernel
theorem dX5_isHere_35 : decode cX5_isHere 35 = .ok (.iconst 0, 1) := by decide +kernel
theorem dX5_isHere_36 : decode cX5_isHere 36 = .ok (.ireturn, 1) := by decide +kernel
theorem dX5_takesOne_0 : decode cX5_takesOne 0 = .ok (.aload_n 0, 1) := by decide +kernel
theorem dX5_takesOne_1 : decode cX5_takesOne 1 = .ok (.iload_n 1, 1) := by decide +kernel
theorem dX5_takesOne_2 : decode cX5_takesOne 2 = .ok (.iload_n 1, 1) := by decide +kernel
theorem dX5_takesOne_3 : decode cX5_takesOne 3 = .ok (.invokevirtual 168, 3) := by decide +kernel
theorem dX5_takesOne_6 : decode cX5_takesOne 6 = .ok (.istore_n 2, 1) := by decide +kernel
theorem dX5_takesOne_7 : decode cX5_takesOne 7 = .ok (.aload_n 0, 1) := by decide +kernel
theorem dX5_takesOne_8 : decode cX5_takesOne 8 = .ok (.dup, 1) := by decide +kernel
theorem dX5_takesOne_9 : decode cX5_takesOne 9 = .ok (.getfield 165, 3) := by decide +kernel
theorem dX5_takesOne_12 : decode cX5_takesOne 12 = .ok (.iload_n 2, 1) := by decide +kernel
theorem dX5_takesOne_13 : decode cX5_takesOne 13 = .ok (.ifCond .eq 7, 3) := by decide +kernel
theorem dX5_takesOne_16 : decode cX5_takesOne 16 = .ok (.iconst 1, 1) := by decide +kernel
theorem dX5_takesOne_17 : decode cX5_takesOne 17 = .ok (.goto 4, 3) := by decide +kernel
theorem dX5_takesOne_20 : decode cX5_takesOne 20 = .ok (.iconst 0, 1) := by decide +kernel
theorem dX5_takesOne_21 : decode cX5_takesOne 21 = .ok (.iadd, 1) := by decide +kernel
theorem dX5_takesOne_22 : decode cX5_takesOne 22 = .ok (.putfield 165, 3) := by decide +kernel
theorem dX5_takesOne_25 : decode cX5_takesOne 25 = .ok (.iload_n 2, 1) := by decide +kernel
theorem dX5_takesOne_26 : decode cX5_takesOne 26 = .ok (.ireturn, 1) := by decide +kernel
theorem dX5_readsNumber_0 : decode cX5_readsNumber 0 = .ok (.aload_n 0, 1) := by decide +kernel
theorem dX5_readsNumber_1 : decode cX5_readsNumber 1 = .ok (.bipush 48, 2) := by decide +kernel
theorem dX5_readsNumber_3 : decode cX5_readsNumber 3 = .ok (.bipush 57, 2) := by decide +kernel
theorem dX5_readsNumber_5 : decode cX5_readsNumber 5 = .ok (.invokevirtual 168, 3) := by decide +kernel
theorem dX5_readsNumber_8 : decode cX5_readsNumber 8 = .ok (.ifCond .ne 5, 3) := by decide +kernel
theorem dX5_readsNumber_11 : decode cX5_readsNumber 11 = .ok (.iconst 0, 1) := by decide +kernel
theorem dX5_readsNumber_12 : decode cX5_readsNumber 12 = .ok (.ireturn, 1) := by decide +kernel
theorem dX5_readsNumber_13 : decode cX5_readsNumber 13 = .ok (.aload_n 0, 1) := by decide +kernel
theorem dX5_readsNumber_14 : decode cX5_readsNumber 14 = .ok (.getfield 25, 3) := by decide +kernel
theorem dX5_readsNumber_17 : decode cX5_readsNumber 17 = .ok (.aload_n 0, 1) := by decide +kernel
theorem dX5_readsNumber_18 : decode cX5_readsNumber 18 = .ok (.getfield 165, 3) := by decide +kernel
theorem dX5_readsNumber_21 : decode cX5_readsNumber 21 = .ok (.iaload, 1) := by decide +kernel
theorem dX5_readsNumber_22 : decode cX5_readsNumber 22 = .ok (.bipush 48, 2) := by decide +kernel
theorem dX5_readsNumber_24 : decode cX5_readsNumber 24 = .ok (.isub, 1) := by decide +kernel
theorem dX5_readsNumber_25 : decode cX5_readsNumber 25 = .ok (.istore_n 3, 1) := by decide +kernel
theorem dX5_readsNumber_26 : decode cX5_readsNumber 26 = .ok (.aload_n 0, 1) := by decide +kernel
theorem dX5_readsNumber_27 : decode cX5_readsNumber 27 = .ok (.dup, 1) := by decide +kernel
theorem dX5_readsNumber_28 : decode cX5_readsNumber 28 = .ok (.getfield 165, 3) := by decide +kernel
theorem dX5_readsNumber_31 : decode cX5_readsNumber 31 = .ok (.iconst 1, 1) := by decide +kernel
theorem dX5_readsNumber_32 : decode cX5_readsNumber 32 = .ok (.iadd, 1) := by decide +kernel
theorem dX5_readsNumber_33 : decode cX5_readsNumber 33 = .ok (.putfield 165, 3) := by decide +kernel
theorem dX5_readsNumber_36 : decode cX5_readsNumber 36 = .ok (.iload_n 2, 1) := by decide +kernel
theorem dX5_readsNumber_37 : decode cX5_readsNumber 37 = .ok (.iconst 2, 1) := by decide +kernel
theorem dX5_readsNumber_38 : decode cX5_readsNumber 38 = .ok (.if_icmp .ne 46, 3) := by decide +kernel
theorem dX5_readsNumber_41 : decode cX5_readsNumber 41 = .ok (.iload_n 3, 1) := by decide +kernel
theorem dX5_readsNumber_42 : decode cX5_readsNumber 42 = .ok (.ifCond .le 42, 3) := by decide +kernel
theorem dX5_readsNumber_45 : decode cX5_readsNumber 45 = .ok (.aload_n 0, 1) := by decide +kernel
theorem dX5_readsNumber_46 : decode cX5_readsNumber 46 = .ok (.bipush 48, 2) := by decide +kernel
theorem dX5_readsNumber_48 : decode cX5_readsNumber 48 = .ok (.bipush 57, 2) := by decide +kernel
theorem dX5_readsNumber_50 : decode cX5_readsNumber 50 = .ok (.invokevirtual 168, 3) := by decide +kernel
theorem dX5_readsNumber_53 : decode cX5_readsNumber 53 = .ok (.ifCond .eq 31, 3) := by decide +kernel
theorem dX5_readsNumber_56 : decode cX5_readsNumber 56 = .ok (.bipush 10, 2) := by decide +kernel
theorem dX5_readsNumber_58 : decode cX5_readsNumber 58 = .ok (.iload_n 3, 1) := by decide +kernel
theorem dX5_readsNumber_59 : decode cX5_readsNumber 59 = .ok (.imul, 1) := by decide +kernel
theorem dX5_readsNumber_60 : decode cX5_readsNumber 60 = .ok (.aload_n 0, 1) := by decide +kernel
theorem dX5_readsNumber_61 : decode cX5_readsNumber 61 = .ok (.getfield 25, 3) := by decide +kernel
theorem dX5_readsNumber_64 : decode cX5_readsNumber 64 = .ok (.aload_n 0, 1) := by decide +kernel
theorem dX5_readsNumber_65 : decode cX5_readsNumber 65 = .ok (.getfield 165, 3) := by decide +kernel
theorem dX5_readsNumber_68 : decode cX5_readsNumber 68 = .ok (.iaload, 1) := by decide +kernel
theorem dX5_readsNumber_69 : decode cX5_readsNumber 69 = .ok (.iadd, 1) := by decide +kernel
theorem dX5_readsNumber_70 : decode cX5_readsNumber 70 = .ok (.bipush 48, 2) := by decide +kernel
theorem dX5_readsNumber_72 : decode cX5_readsNumber 72 = .ok (.isub, 1) := by decide +kernel
theorem dX5_readsNumber_73 : decode cX5_readsNumber 73 = .ok (.istore_n 3, 1) := by decide +kernel
theorem dX5_readsNumber_74 : decode cX5_readsNumber 74 = .ok (.aload_n 0, 1) := by decide +kernel
theorem dX5_readsNumber_75 : decode cX5_readsNumber 75 = .ok (.dup, 1) := by decide +kernel
theorem dX5_readsNumber_76 : decode cX5_readsNumber 76 = .ok (.getfield 165, 3) := by decide +kernel
theorem dX5_readsNumber_79 : decode cX5_readsNumber 79 = .ok (.iconst 1, 1) := by decide +kernel
theorem dX5_readsNumber_80 : decode cX5_readsNumber 80 = .ok (.iadd, 1) := by decide +kernel
theorem dX5_readsNumber_81 : decode cX5_readsNumber 81 = .ok (.putfield 165, 3) := by decide +kernel
theorem dX5_readsNumber_84 : decode cX5_readsNumber 84 = .ok (.aload_n 0, 1) := by decide +kernel
theorem dX5_readsNumber_85 : decode cX5_readsNumber 85 = .ok (.getfield 28, 3) := by decide +kernel
theorem dX5_readsNumber_88 : decode cX5_readsNumber 88 = .ok (.iload_n 1, 1) := by decide +kernel
theorem dX5_readsNumber_89 : decode cX5_readsNumber 89 = .ok (.iload_n 3, 1) := by decide +kernel
theorem dX5_readsNumber_90 : decode cX5_readsNumber 90 = .ok (.iastore, 1) := by decide +kernel
theorem dX5_readsNumber_91 : decode cX5_readsNumber 91 = .ok (.iconst 1, 1) := by decide +kernel
theorem dX5_readsNumber_92 : decode cX5_readsNumber 92 = .ok (.ireturn, 1) := by decide +kernel
theorem dX5_readsOrder_0 : decode cX5_readsOrder 0 = .ok (.aload_n 0, 1) := by decide +kernel
theorem dX5_readsOrder_1 : decode cX5_readsOrder 1 = .ok (.aload_n 0, 1) := by decide +kernel
theorem dX5_readsOrder_2 : decode cX5_readsOrder 2 = .ok (.getfield 165, 3) := by decide +kernel
theorem dX5_readsOrder_5 : decode cX5_readsOrder 5 = .ok (.aload_n 0, 1) := by decide +kernel
theorem dX5_readsOrder_6 : decode cX5_readsOrder 6 = .ok (.getfield 136, 3) := by decide +kernel
theorem dX5_readsOrder_9 : decode cX5_readsOrder 9 = .ok (.if_icmp .ge 15, 3) := by decide +kernel
theorem dX5_readsOrder_12 : decode cX5_readsOrder 12 = .ok (.aload_n 0, 1) := by decide +kernel
theorem dX5_readsOrder_13 : decode cX5_readsOrder 13 = .ok (.getfield 25, 3) := by decide +kernel
theorem dX5_readsOrder_16 : decode cX5_readsOrder 16 = .ok (.aload_n 0, 1) := by decide +kernel
theorem dX5_readsOrder_17 : decode cX5_readsOrder 17 = .ok (.getfield 165, 3) := by decide +kernel
theorem dX5_readsOrder_20 : decode cX5_readsOrder 20 = .ok (.iaload, 1) := by decide +kernel
theorem dX5_readsOrder_21 : decode cX5_readsOrder 21 = .ok (.goto 4, 3) := by decide +kernel
theorem dX5_readsOrder_24 : decode cX5_readsOrder 24 = .ok (.iconst 0, 1) := by decide +kernel
theorem dX5_readsOrder_25 : decode cX5_readsOrder 25 = .ok (.putfield 171, 3) := by decide +kernel
theorem dX5_readsOrder_28 : decode cX5_readsOrder 28 = .ok (.aload_n 0, 1) := by decide +kernel
theorem dX5_readsOrder_29 : decode cX5_readsOrder 29 = .ok (.bipush 102, 2) := by decide +kernel
theorem dX5_readsOrder_31 : decode cX5_readsOrder 31 = .ok (.invokevirtual 174, 3) := by decide +kernel
theorem dX5_readsOrder_34 : decode cX5_readsOrder 34 = .ok (.ifCond .eq 45, 3) := by decide +kernel
theorem dX5_readsOrder_37 : decode cX5_readsOrder 37 = .ok (.aload_n 0, 1) := by decide +kernel
theorem dX5_readsOrder_38 : decode cX5_readsOrder 38 = .ok (.iconst 0, 1) := by decide +kernel
theorem dX5_readsOrder_39 : decode cX5_readsOrder 39 = .ok (.iconst 2, 1) := by decide +kernel
theorem dX5_readsOrder_40 : decode cX5_readsOrder 40 = .ok (.invokevirtual 177, 3) := by decide +kernel
theorem dX5_readsOrder_43 : decode cX5_readsOrder 43 = .ok (.istore_n 1, 1) := by decide +kernel
theorem dX5_readsOrder_44 : decode cX5_readsOrder 44 = .ok (.aload_n 0, 1) := by decide +kernel
theorem dX5_readsOrder_45 : decode cX5_readsOrder 45 = .ok (.getfield 28, 3) := by decide +kernel
theorem dX5_readsOrder_48 : decode cX5_readsOrder 48 = .ok (.iconst 1, 1) := by decide +kernel
theorem dX5_readsOrder_49 : decode cX5_readsOrder 49 = .ok (.iconst 1, 1) := by decide +kernel
theorem dX5_readsOrder_50 : decode cX5_readsOrder 50 = .ok (.iastore, 1) := by decide +kernel
theorem dX5_readsOrder_51 : decode cX5_readsOrder 51 = .ok (.iload_n 1, 1) := by decide +kernel
theorem dX5_readsOrder_52 : decode cX5_readsOrder 52 = .ok (.ifCond .eq 25, 3) := by decide +kernel
theorem dX5_readsOrder_55 : decode cX5_readsOrder 55 = .ok (.aload_n 0, 1) := by decide +kernel
theorem dX5_readsOrder_56 : decode cX5_readsOrder 56 = .ok (.bipush 42, 2) := by decide +kernel
theorem dX5_readsOrder_58 : decode cX5_readsOrder 58 = .ok (.invokevirtual 174, 3) := by decide +kernel
theorem dX5_readsOrder_61 : decode cX5_readsOrder 61 = .ok (.ifCond .eq 12, 3) := by decide +kernel
theorem dX5_readsOrder_64 : decode cX5_readsOrder 64 = .ok (.aload_n 0, 1) := by decide +kernel
theorem dX5_readsOrder_65 : decode cX5_readsOrder 65 = .ok (.iconst 1, 1) := by decide +kernel
theorem dX5_readsOrder_66 : decode cX5_readsOrder 66 = .ok (.iconst 2, 1) := by decide +kernel
theorem dX5_readsOrder_67 : decode cX5_readsOrder 67 = .ok (.invokevirtual 177, 3) := by decide +kernel
theorem dX5_readsOrder_70 : decode cX5_readsOrder 70 = .ok (.ifCond .eq 7, 3) := by decide +kernel
theorem dX5_readsOrder_73 : decode cX5_readsOrder 73 = .ok (.iconst 1, 1) := by decide +kernel
theorem dX5_readsOrder_74 : decode cX5_readsOrder 74 = .ok (.goto 4, 3) := by decide +kernel
theorem dX5_readsOrder_77 : decode cX5_readsOrder 77 = .ok (.iconst 0, 1) := by decide +kernel
theorem dX5_readsOrder_78 : decode cX5_readsOrder 78 = .ok (.ireturn, 1) := by decide +kernel
theorem dX5_readsOrder_79 : decode cX5_readsOrder 79 = .ok (.aload_n 0, 1) := by decide +kernel
theorem dX5_readsOrder_80 : decode cX5_readsOrder 80 = .ok (.bipush 116, 2) := by decide +kernel
theorem dX5_readsOrder_82 : decode cX5_readsOrder 82 = .ok (.invokevirtual 174, 3) := by decide +kernel
theorem dX5_readsOrder_85 : decode cX5_readsOrder 85 = .ok (.ifCond .eq 10, 3) := by decide +kernel
theorem dX5_readsOrder_88 : decode cX5_readsOrder 88 = .ok (.aload_n 0, 1) := by decide +kernel
theorem dX5_readsOrder_89 : decode cX5_readsOrder 89 = .ok (.iconst 0, 1) := by decide +kernel
theorem dX5_readsOrder_90 : decode cX5_readsOrder 90 = .ok (.iconst 2, 1) := by decide +kernel
theorem dX5_readsOrder_91 : decode cX5_readsOrder 91 = .ok (.invokevirtual 177, 3) := by decide +kernel
theorem dX5_readsOrder_94 : decode cX5_readsOrder 94 = .ok (.ireturn, 1) := by decide +kernel
theorem dX5_readsOrder_95 : decode cX5_readsOrder 95 = .ok (.aload_n 0, 1) := by decide +kernel
theorem dX5_readsOrder_96 : decode cX5_readsOrder 96 = .ok (.bipush 113, 2) := by decide +kernel
theorem dX5_readsOrder_98 : decode cX5_readsOrder 98 = .ok (.invokevirtual 174, 3) := by decide +kernel
theorem dX5_readsOrder_101 : decode cX5_readsOrder 101 = .ok (.ifCond .eq 54, 3) := by decide +kernel
theorem dX5_readsOrder_104 : decode cX5_readsOrder 104 = .ok (.aload_n 0, 1) := by decide +kernel
theorem dX5_readsOrder_105 : decode cX5_readsOrder 105 = .ok (.iconst 0, 1) := by decide +kernel
theorem dX5_readsOrder_106 : decode cX5_readsOrder 106 = .ok (.iconst 1, 1) := by decide +kernel
theorem dX5_readsOrder_107 : decode cX5_readsOrder 107 = .ok (.invokevirtual 177, 3) := by decide +kernel
theorem dX5_readsOrder_110 : decode cX5_readsOrder 110 = .ok (.ifCond .eq 43, 3) := by decide +kernel
theorem dX5_readsOrder_113 : decode cX5_readsOrder 113 = .ok (.aload_n 0, 1) := by decide +kernel
theorem dX5_readsOrder_114 : decode cX5_readsOrder 114 = .ok (.bipush 61, 2) := by decide +kernel
theorem dX5_readsOrder_116 : decode cX5_readsOrder 116 = .ok (.invokevirtual 174, 3) := by decide +kernel
theorem dX5_readsOrder_119 : decode cX5_readsOrder 119 = .ok (.ifCond .eq 34, 3) := by decide +kernel
theorem dX5_readsOrder_122 : decode cX5_readsOrder 122 = .ok (.aload_n 0, 1) := by decide +kernel
theorem dX5_readsOrder_123 : decode cX5_readsOrder 123 = .ok (.iconst 1, 1) := by decide +kernel
theorem dX5_readsOrder_124 : decode cX5_readsOrder 124 = .ok (.iconst 2, 1) := by decide +kernel
theorem dX5_readsOrder_125 : decode cX5_readsOrder 125 = .ok (.invokevirtual 177, 3) := by decide +kernel
theorem dX5_readsOrder_128 : decode cX5_readsOrder 128 = .ok (.ifCond .eq 25, 3) := by decide +kernel
theorem dX5_readsOrder_131 : decode cX5_readsOrder 131 = .ok (.aload_n 0, 1) := by decide +kernel
theorem dX5_readsOrder_132 : decode cX5_readsOrder 132 = .ok (.bipush 44, 2) := by decide +kernel
theorem dX5_readsOrder_134 : decode cX5_readsOrder 134 = .ok (.invokevirtual 174, 3) := by decide +kernel
theorem dX5_readsOrder_137 : decode cX5_readsOrder 137 = .ok (.ifCond .eq 16, 3) := by decide +kernel
theorem dX5_readsOrder_140 : decode cX5_readsOrder 140 = .ok (.aload_n 0, 1) := by decide +kernel
theorem dX5_readsOrder_141 : decode cX5_readsOrder 141 = .ok (.iconst 2, 1) := by decide +kernel
theorem dX5_readsOrder_142 : decode cX5_readsOrder 142 = .ok (.iconst 2, 1) := by decide +kernel
theorem dX5_readsOrder_143 : decode cX5_readsOrder 143 = .ok (.invokevirtual 177, 3) := by decide +kernel
theorem dX5_readsOrder_146 : decode cX5_readsOrder 146 = .ok (.ifCond .eq 7, 3) := by decide +kernel
theorem dX5_readsOrder_149 : decode cX5_readsOrder 149 = .ok (.iconst 1, 1) := by decide +kernel
theorem dX5_readsOrder_150 : decode cX5_readsOrder 150 = .ok (.goto 4, 3) := by decide +kernel
theorem dX5_readsOrder_153 : decode cX5_readsOrder 153 = .ok (.iconst 0, 1) := by decide +kernel
theorem dX5_readsOrder_154 : decode cX5_readsOrder 154 = .ok (.ireturn, 1) := by decide +kernel
theorem dX5_readsOrder_155 : decode cX5_readsOrder 155 = .ok (.aload_n 0, 1) := by decide +kernel
theorem dX5_readsOrder_156 : decode cX5_readsOrder 156 = .ok (.bipush 109, 2) := by decide +kernel
theorem dX5_readsOrder_158 : decode cX5_readsOrder 158 = .ok (.invokevirtual 174, 3) := by decide +kernel
theorem dX5_readsOrder_161 : decode cX5_readsOrder 161 = .ok (.ifCond .eq 16, 3) := by decide +kernel
theorem dX5_readsOrder_164 : decode cX5_readsOrder 164 = .ok (.aload_n 0, 1) := by decide +kernel
theorem dX5_readsOrder_165 : decode cX5_readsOrder 165 = .ok (.iconst 0, 1) := by decide +kernel
theorem dX5_readsOrder_166 : decode cX5_readsOrder 166 = .ok (.iconst 1, 1) := by decide +kernel
theorem dX5_readsOrder_167 : decode cX5_readsOrder 167 = .ok (.invokevirtual 177, 3) := by decide +kernel
theorem dX5_readsOrder_170 : decode cX5_readsOrder 170 = .ok (.ifCond .eq 7, 3) := by decide +kernel
theorem dX5_readsOrder_173 : decode cX5_readsOrder 173 = .ok (.iconst 1, 1) := by decide +kernel
theorem dX5_readsOrder_174 : decode cX5_readsOrder 174 = .ok (.goto 4, 3) := by decide +kernel
theorem dX5_readsOrder_177 : decode cX5_readsOrder 177 = .ok (.iconst 0, 1) := by decide +kernel
theorem dX5_readsOrder_178 : decode cX5_readsOrder 178 = .ok (.ireturn, 1) := by decide +kernel
theorem dX5_fault_0 : decode cX5_fault 0 = .ok (.aload_n 0, 1) := by decide +kernel
theorem dX5_fault_1 : decode cX5_fault 1 = .ok (.iconst 0, 1) := by decide +kernel
theorem dX5_fault_2 : decode cX5_fault 2 = .ok (.putfield 165, 3) := by decide +kernel
theorem dX5_fault_5 : decode cX5_fault 5 = .ok (.iconst 1, 1) := by decide +kernel
theorem dX5_fault_6 : decode cX5_fault 6 = .ok (.istore_n 1, 1) := by decide +kernel
theorem dX5_fault_7 : decode cX5_fault 7 = .ok (.iload_n 1, 1) := by decide +kernel
theorem dX5_fault_8 : decode cX5_fault 8 = .ok (.ifCond .eq 25, 3) := by decide +kernel
theorem dX5_fault_11 : decode cX5_fault 11 = .ok (.aload_n 0, 1) := by decide +kernel
theorem dX5_fault_12 : decode cX5_fault 12 = .ok (.invokevirtual 180, 3) := by decide +kernel
theorem dX5_fault_15 : decode cX5_fault 15 = .ok (.ifCond .ne 8, 3) := by decide +kernel
theorem dX5_fault_18 : decode cX5_fault 18 = .ok (.aload_n 0, 1) := by decide +kernel
theorem dX5_fault_19 : decode cX5_fault 19 = .ok (.getfield 165, 3) := by decide +kernel
theorem dX5_fault_22 : decode cX5_fault 22 = .ok (.ireturn, 1) := by decide +kernel
theorem dX5_fault_23 : decode cX5_fault 23 = .ok (.aload_n 0, 1) := by decide +kernel
theorem dX5_fault_24 : decode cX5_fault 24 = .ok (.bipush 59, 2) := by decide +kernel
theorem dX5_fault_26 : decode cX5_fault 26 = .ok (.invokevirtual 174, 3) := by decide +kernel
theorem dX5_fault_29 : decode cX5_fault 29 = .ok (.istore_n 1, 1) := by decide +kernel
theorem dX5_fault_30 : decode cX5_fault 30 = .ok (.goto (-23), 3) := by decide +kernel
theorem dX5_fault_33 : decode cX5_fault 33 = .ok (.aload_n 0, 1) := by decide +kernel
theorem dX5_fault_34 : decode cX5_fault 34 = .ok (.getfield 165, 3) := by decide +kernel
theorem dX5_fault_37 : decode cX5_fault 37 = .ok (.aload_n 0, 1) := by decide +kernel
theorem dX5_fault_38 : decode cX5_fault 38 = .ok (.getfield 136, 3) := by decide +kernel
theorem dX5_fault_41 : decode cX5_fault 41 = .ok (.if_icmp .ne 8, 3) := by decide +kernel
theorem dX5_fault_44 : decode cX5_fault 44 = .ok (.bipush (-6), 2) := by decide +kernel
theorem dX5_fault_46 : decode cX5_fault 46 = .ok (.goto 7, 3) := by decide +kernel
theorem dX5_fault_49 : decode cX5_fault 49 = .ok (.aload_n 0, 1) := by decide +kernel
theorem dX5_fault_50 : decode cX5_fault 50 = .ok (.getfield 165, 3) := by decide +kernel
theorem dX5_fault_53 : decode cX5_fault 53 = .ok (.ireturn, 1) := by decide +kernel
theorem dX5_carries_0 : decode cX5_carries 0 = .ok (.aload_n 0, 1) := by decide +kernel
theorem dX5_carries_1 : decode cX5_carries 1 = .ok (.getfield 171, 3) := by decide +kernel
theorem dX5_carries_4 : decode cX5_carries 4 = .ok (.bipush 102, 2) := by decide +kernel
theorem dX5_carries_6 : decode cX5_carries 6 = .ok (.if_icmp .ne 64, 3) := by decide +kernel
theorem dX5_carries_9 : decode cX5_carries 9 = .ok (.iconst 0, 1) := by decide +kernel
theorem dX5_carries_10 : decode cX5_carries 10 = .ok (.istore_n 1, 1) := by decide +kernel
theorem dX5_carries_11 : decode cX5_carries 11 = .ok (.iload_n 1, 1) := by decide +kernel
theorem dX5_carries_12 : decode cX5_carries 12 = .ok (.aload_n 0, 1) := by decide +kernel
theorem dX5_carries_13 : decode cX5_carries 13 = .ok (.getfield 28, 3) := by decide +kernel
theorem dX5_carries_16 : decode cX5_carries 16 = .ok (.iconst 1, 1) := by decide +kernel
theorem dX5_carries_17 : decode cX5_carries 17 = .ok (.iaload, 1) := by decide +kernel
theorem dX5_carries_18 : decode cX5_carries 18 = .ok (.if_icmp .ge 32, 3) := by decide +kernel
theorem dX5_carries_21 : decode cX5_carries 21 = .ok (.aload_n 0, 1) := by decide +kernel
theorem dX5_carries_22 : decode cX5_carries 22 = .ok (.getfield 7, 3) := by decide +kernel
theorem dX5_carries_25 : decode cX5_carries 25 = .ok (.iconst 5, 1) := by decide +kernel
theorem dX5_carries_26 : decode cX5_carries 26 = .ok (.iaload, 1) := by decide +kernel
theorem dX5_carries_27 : decode cX5_carries 27 = .ok (.sipush 400, 3) := by decide +kernel
theorem dX5_carries_30 : decode cX5_carries 30 = .ok (.if_icmp .ge 20, 3) := by decide +kernel
theorem dX5_carries_33 : decode cX5_carries 33 = .ok (.aload_n 0, 1) := by decide +kernel
theorem dX5_carries_34 : decode cX5_carries 34 = .ok (.aload_n 0, 1) := by decide +kernel
theorem dX5_carries_35 : decode cX5_carries 35 = .ok (.getfield 28, 3) := by decide +kernel
theorem dX5_carries_38 : decode cX5_carries 38 = .ok (.iconst 0, 1) := by decide +kernel
theorem dX5_carries_39 : decode cX5_carries 39 = .ok (.iaload, 1) := by decide +kernel
theorem dX5_carries_40 : decode cX5_carries 40 = .ok (.invokevirtual 117, 3) := by decide +kernel
theorem dX5_carries_43 : decode cX5_carries 43 = .ok (.istore_n 2, 1) := by decide +kernel
theorem dX5_carries_44 : decode cX5_carries 44 = .ok (.iinc 1 1, 3) := by decide +kernel
theorem dX5_carries_47 : decode cX5_carries 47 = .ok (.goto (-36), 3) := by decide +kernel
theorem dX5_carries_50 : decode cX5_carries 50 = .ok (.iload_n 1, 1) := by decide +kernel
theorem dX5_carries_51 : decode cX5_carries 51 = .ok (.aload_n 0, 1) := by decide +kernel
theorem dX5_carries_52 : decode cX5_carries 52 = .ok (.getfield 28, 3) := by decide +kernel
theorem dX5_carries_55 : decode cX5_carries 55 = .ok (.iconst 1, 1) := by decide +kernel
theorem dX5_carries_56 : decode cX5_carries 56 = .ok (.iaload, 1) := by decide +kernel
theorem dX5_carries_57 : decode cX5_carries 57 = .ok (.if_icmp .ge 11, 3) := by decide +kernel
theorem dX5_carries_60 : decode cX5_carries 60 = .ok (.iload_n 1, 1) := by decide +kernel
theorem dX5_carries_61 : decode cX5_carries 61 = .ok (.sipush 1000, 3) := by decide +kernel
theorem dX5_carries_64 : decode cX5_carries 64 = .ok (.isub, 1) := by decide +kernel
theorem dX5_carries_65 : decode cX5_carries 65 = .ok (.goto 4, 3) := by decide +kernel
theorem dX5_carries_68 : decode cX5_carries 68 = .ok (.iload_n 1, 1) := by decide +kernel
theorem dX5_carries_69 : decode cX5_carries 69 = .ok (.ireturn, 1) := by decide +kernel
theorem dX5_carries_70 : decode cX5_carries 70 = .ok (.aload_n 0, 1) := by decide +kernel
theorem dX5_carries_71 : decode cX5_carries 71 = .ok (.getfield 171, 3) := by decide +kernel
theorem dX5_carries_74 : decode cX5_carries 74 = .ok (.bipush 116, 2) := by decide +kernel
theorem dX5_carries_76 : decode cX5_carries 76 = .ok (.if_icmp .ne 71, 3) := by decide +kernel
theorem dX5_carries_79 : decode cX5_carries 79 = .ok (.aload_n 0, 1) := by decide +kernel
theorem dX5_carries_80 : decode cX5_carries 80 = .ok (.getfield 28, 3) := by decide +kernel
theorem dX5_carries_83 : decode cX5_carries 83 = .ok (.iconst 0, 1) := by decide +kernel
theorem dX5_carries_84 : decode cX5_carries 84 = .ok (.iaload, 1) := by decide +kernel
theorem dX5_carries_85 : decode cX5_carries 85 = .ok (.invokestatic 120, 3) := by decide +kernel
theorem dX5_carries_88 : decode cX5_carries 88 = .ok (.ifCond .eq 26, 3) := by decide +kernel
theorem dX5_carries_91 : decode cX5_carries 91 = .ok (.aload_n 0, 1) := by decide +kernel
theorem dX5_carries_92 : decode cX5_carries 92 = .ok (.getfield 7, 3) := by decide +kernel
theorem dX5_carries_95 : decode cX5_carries 95 = .ok (.iconst 4, 1) := by decide +kernel
theorem dX5_carries_96 : decode cX5_carries 96 = .ok (.iaload, 1) := by decide +kernel
theorem dX5_carries_97 : decode cX5_carries 97 = .ok (.aload_n 0, 1) := by decide +kernel
theorem dX5_carries_98 : decode cX5_carries 98 = .ok (.getfield 28, 3) := by decide +kernel
theorem dX5_carries_101 : decode cX5_carries 101 = .ok (.iconst 0, 1) := by decide +kernel
theorem dX5_carries_102 : decode cX5_carries 102 = .ok (.iaload, 1) := by decide +kernel
theorem dX5_carries_103 : decode cX5_carries 103 = .ok (.iadd, 1) := by decide +kernel
theorem dX5_carries_104 : decode cX5_carries 104 = .ok (.sipush 9999, 3) := by decide +kernel
theorem dX5_carries_107 : decode cX5_carries 107 = .ok (.if_icmp .gt 7, 3) := by decide +kernel
theorem dX5_carries_110 : decode cX5_carries 110 = .ok (.iconst 1, 1) := by decide +kernel
theorem dX5_carries_111 : decode cX5_carries 111 = .ok (.goto 4, 3) := by decide +kernel
theorem dX5_carries_114 : decode cX5_carries 114 = .ok (.iconst 0, 1) := by decide +kernel
theorem dX5_carries_115 : decode cX5_carries 115 = .ok (.istore_n 1, 1) := by decide +kernel
theorem dX5_carries_116 : decode cX5_carries 116 = .ok (.iload_n 1, 1) := by decide +kernel
theorem dX5_carries_117 : decode cX5_carries 117 = .ok (.ifCond .eq 16, 3) := by decide +kernel
theorem dX5_carries_120 : decode cX5_carries 120 = .ok (.aload_n 0, 1) := by decide +kernel
theorem dX5_carries_121 : decode cX5_carries 121 = .ok (.aload_n 0, 1) := by decide +kernel
theorem dX5_carries_122 : decode cX5_carries 122 = .ok (.getfield 28, 3) := by decide +kernel
theorem dX5_carries_125 : decode cX5_carries 125 = .ok (.iconst 0, 1) := by decide +kernel
theorem dX5_carries_126 : decode cX5_carries 126 = .ok (.iaload, 1) := by decide +kernel
theorem dX5_carries_127 : decode cX5_carries 127 = .ok (.invokevirtual 123, 3) := by decide +kernel
theorem dX5_carries_130 : decode cX5_carries 130 = .ok (.goto 4, 3) := by decide +kernel
theorem dX5_carries_133 : decode cX5_carries 133 = .ok (.iconst 0, 1) := by decide +kernel
theorem dX5_carries_134 : decode cX5_carries 134 = .ok (.istore_n 2, 1) := by decide +kernel
theorem dX5_carries_135 : decode cX5_carries 135 = .ok (.iload_n 1, 1) := by decide +kernel
theorem dX5_carries_136 : decode cX5_carries 136 = .ok (.ifCond .eq 7, 3) := by decide +kernel
theorem dX5_carries_139 : decode cX5_carries 139 = .ok (.iconst 1, 1) := by decide +kernel
theorem dX5_carries_140 : decode cX5_carries 140 = .ok (.goto 6, 3) := by decide +kernel
theorem dX5_carries_143 : decode cX5_carries 143 = .ok (.sipush (-1000), 3) := by decide +kernel
theorem dX5_carries_146 : decode cX5_carries 146 = .ok (.ireturn, 1) := by decide +kernel
theorem dX5_carries_147 : decode cX5_carries 147 = .ok (.aload_n 0, 1) := by decide +kernel
theorem dX5_carries_148 : decode cX5_carries 148 = .ok (.getfield 28, 3) := by decide +kernel
theorem dX5_carries_151 : decode cX5_carries 151 = .ok (.iconst 0, 1) := by decide +kernel
theorem dX5_carries_152 : decode cX5_carries 152 = .ok (.iaload, 1) := by decide +kernel
theorem dX5_carries_153 : decode cX5_carries 153 = .ok (.invokestatic 106, 3) := by decide +kernel
theorem dX5_carries_156 : decode cX5_carries 156 = .ok (.ifCond .ne 7, 3) := by decide +kernel
theorem dX5_carries_159 : decode cX5_carries 159 = .ok (.sipush (-1000), 3) := by decide +kernel
theorem dX5_carries_162 : decode cX5_carries 162 = .ok (.ireturn, 1) := by decide +kernel
theorem dX5_carries_163 : decode cX5_carries 163 = .ok (.aload_n 0, 1) := by decide +kernel
theorem dX5_carries_164 : decode cX5_carries 164 = .ok (.getfield 171, 3) := by decide +kernel
theorem dX5_carries_167 : decode cX5_carries 167 = .ok (.bipush 109, 2) := by decide +kernel
theorem dX5_carries_169 : decode cX5_carries 169 = .ok (.if_icmp .ne 29, 3) := by decide +kernel
theorem dX5_carries_172 : decode cX5_carries 172 = .ok (.aload_n 0, 1) := by decide +kernel
theorem dX5_carries_173 : decode cX5_carries 173 = .ok (.aload_n 0, 1) := by decide +kernel
theorem dX5_carries_174 : decode cX5_carries 174 = .ok (.getfield 28, 3) := by decide +kernel
theorem dX5_carries_177 : decode cX5_carries 177 = .ok (.iconst 0, 1) := by decide +kernel
theorem dX5_carries_178 : decode cX5_carries 178 = .ok (.iaload, 1) := by decide +kernel
theorem dX5_carries_179 : decode cX5_carries 179 = .ok (.iconst 3, 1) := by decide +kernel
theorem dX5_carries_180 : decode cX5_carries 180 = .ok (.iconst 1, 1) := by decide +kernel
theorem dX5_carries_181 : decode cX5_carries 181 = .ok (.aload_n 0, 1) := by decide +kernel
theorem dX5_carries_182 : decode cX5_carries 182 = .ok (.aload_n 0, 1) := by decide +kernel
theorem dX5_carries_183 : decode cX5_carries 183 = .ok (.getfield 28, 3) := by decide +kernel
theorem dX5_carries_186 : decode cX5_carries 186 = .ok (.iconst 0, 1) := by decide +kernel
theorem dX5_carries_187 : decode cX5_carries 187 = .ok (.iaload, 1) := by decide +kernel
theorem dX5_carries_188 : decode cX5_carries 188 = .ok (.iconst 3, 1) := by decide +kernel
theorem dX5_carries_189 : decode cX5_carries 189 = .ok (.invokevirtual 53, 3) := by decide +kernel
theorem dX5_carries_192 : decode cX5_carries 192 = .ok (.isub, 1) := by decide +kernel
theorem dX5_carries_193 : decode cX5_carries 193 = .ok (.invokevirtual 31, 3) := by decide +kernel
theorem dX5_carries_196 : decode cX5_carries 196 = .ok (.iconst 1, 1) := by decide +kernel
theorem dX5_carries_197 : decode cX5_carries 197 = .ok (.ireturn, 1) := by decide +kernel
theorem dX5_carries_198 : decode cX5_carries 198 = .ok (.aload_n 0, 1) := by decide +kernel
theorem dX5_carries_199 : decode cX5_carries 199 = .ok (.getfield 28, 3) := by decide +kernel
theorem dX5_carries_202 : decode cX5_carries 202 = .ok (.iconst 1, 1) := by decide +kernel
theorem dX5_carries_203 : decode cX5_carries 203 = .ok (.iaload, 1) := by decide +kernel
theorem dX5_carries_204 : decode cX5_carries 204 = .ok (.aload_n 0, 1) := by decide +kernel
theorem dX5_carries_205 : decode cX5_carries 205 = .ok (.getfield 28, 3) := by decide +kernel
theorem dX5_carries_208 : decode cX5_carries 208 = .ok (.iconst 2, 1) := by decide +kernel
theorem dX5_carries_209 : decode cX5_carries 209 = .ok (.iaload, 1) := by decide +kernel
theorem dX5_carries_210 : decode cX5_carries 210 = .ok (.invokestatic 110, 3) := by decide +kernel
theorem dX5_carries_213 : decode cX5_carries 213 = .ok (.istore_n 1, 1) := by decide +kernel
theorem dX5_carries_214 : decode cX5_carries 214 = .ok (.iload_n 1, 1) := by decide +kernel
theorem dX5_carries_215 : decode cX5_carries 215 = .ok (.ifCond .eq 28, 3) := by decide +kernel
theorem dX5_carries_218 : decode cX5_carries 218 = .ok (.aload_n 0, 1) := by decide +kernel
theorem dX5_carries_219 : decode cX5_carries 219 = .ok (.aload_n 0, 1) := by decide +kernel
theorem dX5_carries_220 : decode cX5_carries 220 = .ok (.getfield 28, 3) := by decide +kernel
theorem dX5_carries_223 : decode cX5_carries 223 = .ok (.iconst 0, 1) := by decide +kernel
theorem dX5_carries_224 : decode cX5_carries 224 = .ok (.iaload, 1) := by decide +kernel
theorem dX5_carries_225 : decode cX5_carries 225 = .ok (.aload_n 0, 1) := by decide +kernel
theorem dX5_carries_226 : decode cX5_carries 226 = .ok (.getfield 28, 3) := by decide +kernel
theorem dX5_carries_229 : decode cX5_carries 229 = .ok (.iconst 1, 1) := by decide +kernel
theorem dX5_carries_230 : decode cX5_carries 230 = .ok (.iaload, 1) := by decide +kernel
theorem dX5_carries_231 : decode cX5_carries 231 = .ok (.aload_n 0, 1) := by decide +kernel
theorem dX5_carries_232 : decode cX5_carries 232 = .ok (.getfield 28, 3) := by decide +kernel
theorem dX5_carries_235 : decode cX5_carries 235 = .ok (.iconst 2, 1) := by decide +kernel
theorem dX5_carries_236 : decode cX5_carries 236 = .ok (.iaload, 1) := by decide +kernel
theorem dX5_carries_237 : decode cX5_carries 237 = .ok (.invokevirtual 113, 3) := by decide +kernel
theorem dX5_carries_240 : decode cX5_carries 240 = .ok (.goto 4, 3) := by decide +kernel
theorem dX5_carries_243 : decode cX5_carries 243 = .ok (.iconst 0, 1) := by decide +kernel
theorem dX5_carries_244 : decode cX5_carries 244 = .ok (.istore_n 2, 1) := by decide +kernel
theorem dX5_carries_245 : decode cX5_carries 245 = .ok (.iload_n 1, 1) := by decide +kernel
theorem dX5_carries_246 : decode cX5_carries 246 = .ok (.ifCond .eq 7, 3) := by decide +kernel
theorem dX5_carries_249 : decode cX5_carries 249 = .ok (.iconst 1, 1) := by decide +kernel
theorem dX5_carries_250 : decode cX5_carries 250 = .ok (.goto 6, 3) := by decide +kernel
theorem dX5_carries_253 : decode cX5_carries 253 = .ok (.sipush (-1000), 3) := by decide +kernel
theorem dX5_carries_256 : decode cX5_carries 256 = .ok (.ireturn, 1) := by decide +kernel
theorem dX5_carryOut_0 : decode cX5_carryOut 0 = .ok (.aload_n 0, 1) := by decide +kernel
theorem dX5_carryOut_1 : decode cX5_carryOut 1 = .ok (.invokevirtual 184, 3) := by decide +kernel
theorem dX5_carryOut_4 : decode cX5_carryOut 4 = .ok (.bipush (-6), 2) := by decide +kernel
theorem dX5_carryOut_6 : decode cX5_carryOut 6 = .ok (.if_icmp .eq 6, 3) := by decide +kernel
theorem dX5_carryOut_9 : decode cX5_carryOut 9 = .ok (.bipush (-3), 2) := by decide +kernel
theorem dX5_carryOut_11 : decode cX5_carryOut 11 = .ok (.ireturn, 1) := by decide +kernel
theorem dX5_carryOut_12 : decode cX5_carryOut 12 = .ok (.aload_n 0, 1) := by decide +kernel
theorem dX5_carryOut_13 : decode cX5_carryOut 13 = .ok (.invokevirtual 103, 3) := by decide +kernel
theorem dX5_carryOut_16 : decode cX5_carryOut 16 = .ok (.aload_n 0, 1) := by decide +kernel
theorem dX5_carryOut_17 : decode cX5_carryOut 17 = .ok (.iconst 0, 1) := by decide +kernel
theorem dX5_carryOut_18 : decode cX5_carryOut 18 = .ok (.putfield 165, 3) := by decide +kernel
theorem dX5_carryOut_21 : decode cX5_carryOut 21 = .ok (.iconst 0, 1) := by decide +kernel
theorem dX5_carryOut_22 : decode cX5_carryOut 22 = .ok (.istore_n 1, 1) := by decide +kernel
theorem dX5_carryOut_23 : decode cX5_carryOut 23 = .ok (.iconst 1, 1) := by decide +kernel
theorem dX5_carryOut_24 : decode cX5_carryOut 24 = .ok (.istore_n 2, 1) := by decide +kernel
theorem dX5_carryOut_25 : decode cX5_carryOut 25 = .ok (.iload_n 2, 1) := by decide +kernel
theorem dX5_carryOut_26 : decode cX5_carryOut 26 = .ok (.ifCond .eq 56, 3) := by decide +kernel
theorem dX5_carryOut_29 : decode cX5_carryOut 29 = .ok (.aload_n 0, 1) := by decide +kernel
theorem dX5_carryOut_30 : decode cX5_carryOut 30 = .ok (.invokevirtual 180, 3) := by decide +kernel
theorem dX5_carryOut_33 : decode cX5_carryOut 33 = .ok (.istore_n 3, 1) := by decide +kernel
theorem dX5_carryOut_34 : decode cX5_carryOut 34 = .ok (.aload_n 0, 1) := by decide +kernel
theorem dX5_carryOut_35 : decode cX5_carryOut 35 = .ok (.invokevirtual 187, 3) := by decide +kernel
theorem dX5_carryOut_38 : decode cX5_carryOut 38 = .ok (.istore 4, 2) := by decide +kernel
theorem dX5_carryOut_40 : decode cX5_carryOut 40 = .ok (.iload_n 1, 1) := by decide +kernel
theorem dX5_carryOut_41 : decode cX5_carryOut 41 = .ok (.iload 4, 2) := by decide +kernel
theorem dX5_carryOut_43 : decode cX5_carryOut 43 = .ok (.ifCond .ge 12, 3) := by decide +kernel
theorem dX5_carryOut_46 : decode cX5_carryOut 46 = .ok (.iload 4, 2) := by decide +kernel
theorem dX5_carryOut_48 : decode cX5_carryOut 48 = .ok (.sipush 1000, 3) := by decide +kernel
theorem dX5_carryOut_51 : decode cX5_carryOut 51 = .ok (.iadd, 1) := by decide +kernel
theorem dX5_carryOut_52 : decode cX5_carryOut 52 = .ok (.goto 5, 3) := by decide +kernel
theorem dX5_carryOut_55 : decode cX5_carryOut 55 = .ok (.iload 4, 2) := by decide +kernel
theorem dX5_carryOut_57 : decode cX5_carryOut 57 = .ok (.iadd, 1) := by decide +kernel
theorem dX5_carryOut_58 : decode cX5_carryOut 58 = .ok (.istore_n 1, 1) := by decide +kernel
theorem dX5_carryOut_59 : decode cX5_carryOut 59 = .ok (.iload 4, 2) := by decide +kernel
theorem dX5_carryOut_61 : decode cX5_carryOut 61 = .ok (.ifCond .lt 16, 3) := by decide +kernel
theorem dX5_carryOut_64 : decode cX5_carryOut 64 = .ok (.aload_n 0, 1) := by decide +kernel
theorem dX5_carryOut_65 : decode cX5_carryOut 65 = .ok (.bipush 59, 2) := by decide +kernel
theorem dX5_carryOut_67 : decode cX5_carryOut 67 = .ok (.invokevirtual 174, 3) := by decide +kernel
theorem dX5_carryOut_70 : decode cX5_carryOut 70 = .ok (.ifCond .eq 7, 3) := by decide +kernel
theorem dX5_carryOut_73 : decode cX5_carryOut 73 = .ok (.iconst 1, 1) := by decide +kernel
theorem dX5_carryOut_74 : decode cX5_carryOut 74 = .ok (.goto 4, 3) := by decide +kernel
theorem dX5_carryOut_77 : decode cX5_carryOut 77 = .ok (.iconst 0, 1) := by decide +kernel
theorem dX5_carryOut_78 : decode cX5_carryOut 78 = .ok (.istore_n 2, 1) := by decide +kernel
theorem dX5_carryOut_79 : decode cX5_carryOut 79 = .ok (.goto (-54), 3) := by decide +kernel
theorem dX5_carryOut_82 : decode cX5_carryOut 82 = .ok (.aload_n 0, 1) := by decide +kernel
theorem dX5_carryOut_83 : decode cX5_carryOut 83 = .ok (.iconst 0, 1) := by decide +kernel
theorem dX5_carryOut_84 : decode cX5_carryOut 84 = .ok (.putfield 136, 3) := by decide +kernel
theorem dX5_carryOut_87 : decode cX5_carryOut 87 = .ok (.iload_n 1, 1) := by decide +kernel
theorem dX5_carryOut_88 : decode cX5_carryOut 88 = .ok (.ireturn, 1) := by decide +kernel
theorem dX5_undo_0 : decode cX5_undo 0 = .ok (.aload_n 0, 1) := by decide +kernel
theorem dX5_undo_1 : decode cX5_undo 1 = .ok (.getfield 35, 3) := by decide +kernel
theorem dX5_undo_4 : decode cX5_undo 4 = .ok (.ifCond .ne 6, 3) := by decide +kernel
theorem dX5_undo_7 : decode cX5_undo 7 = .ok (.bipush (-5), 2) := by decide +kernel
theorem dX5_undo_9 : decode cX5_undo 9 = .ok (.ireturn, 1) := by decide +kernel
theorem dX5_undo_10 : decode cX5_undo 10 = .ok (.aload_n 0, 1) := by decide +kernel
theorem dX5_undo_11 : decode cX5_undo 11 = .ok (.dup, 1) := by decide +kernel
theorem dX5_undo_12 : decode cX5_undo 12 = .ok (.getfield 35, 3) := by decide +kernel
theorem dX5_undo_15 : decode cX5_undo 15 = .ok (.iconst 1, 1) := by decide +kernel
theorem dX5_undo_16 : decode cX5_undo 16 = .ok (.isub, 1) := by decide +kernel
theorem dX5_undo_17 : decode cX5_undo 17 = .ok (.putfield 35, 3) := by decide +kernel
theorem dX5_undo_20 : decode cX5_undo 20 = .ok (.iconst 0, 1) := by decide +kernel
theorem dX5_undo_21 : decode cX5_undo 21 = .ok (.istore_n 1, 1) := by decide +kernel
theorem dX5_undo_22 : decode cX5_undo 22 = .ok (.iload_n 1, 1) := by decide +kernel
theorem dX5_undo_23 : decode cX5_undo 23 = .ok (.sipush 1640, 3) := by decide +kernel
theorem dX5_undo_26 : decode cX5_undo 26 = .ok (.if_icmp .ge 30, 3) := by decide +kernel
theorem dX5_undo_29 : decode cX5_undo 29 = .ok (.aload_n 0, 1) := by decide +kernel
theorem dX5_undo_30 : decode cX5_undo 30 = .ok (.getfield 7, 3) := by decide +kernel
theorem dX5_undo_33 : decode cX5_undo 33 = .ok (.iload_n 1, 1) := by decide +kernel
theorem dX5_undo_34 : decode cX5_undo 34 = .ok (.aload_n 0, 1) := by decide +kernel
theorem dX5_undo_35 : decode cX5_undo 35 = .ok (.getfield 16, 3) := by decide +kernel
theorem dX5_undo_38 : decode cX5_undo 38 = .ok (.sipush 1640, 3) := by decide +kernel
theorem dX5_undo_41 : decode cX5_undo 41 = .ok (.aload_n 0, 1) := by decide +kernel
theorem dX5_undo_42 : decode cX5_undo 42 = .ok (.getfield 35, 3) := by decide +kernel
theorem dX5_undo_45 : decode cX5_undo 45 = .ok (.imul, 1) := by decide +kernel
theorem dX5_undo_46 : decode cX5_undo 46 = .ok (.iload_n 1, 1) := by decide +kernel
theorem dX5_undo_47 : decode cX5_undo 47 = .ok (.iadd, 1) := by decide +kernel
theorem dX5_undo_48 : decode cX5_undo 48 = .ok (.iaload, 1) := by decide +kernel
theorem dX5_undo_49 : decode cX5_undo 49 = .ok (.iastore, 1) := by decide +kernel
theorem dX5_undo_50 : decode cX5_undo 50 = .ok (.iinc 1 1, 3) := by decide +kernel
theorem dX5_undo_53 : decode cX5_undo 53 = .ok (.goto (-31), 3) := by decide +kernel
theorem dX5_undo_56 : decode cX5_undo 56 = .ok (.aload_n 0, 1) := by decide +kernel
theorem dX5_undo_57 : decode cX5_undo 57 = .ok (.getfield 35, 3) := by decide +kernel
theorem dX5_undo_60 : decode cX5_undo 60 = .ok (.ireturn, 1) := by decide +kernel
theorem dX5_isSlot_0 : decode cX5_isSlot 0 = .ok (.iload_n 0, 1) := by decide +kernel
theorem dX5_isSlot_1 : decode cX5_isSlot 1 = .ok (.ifCond .eq 8, 3) := by decide +kernel
theorem dX5_isSlot_4 : decode cX5_isSlot 4 = .ok (.iload_n 0, 1) := by decide +kernel
theorem dX5_isSlot_5 : decode cX5_isSlot 5 = .ok (.iconst 1, 1) := by decide +kernel
theorem dX5_isSlot_6 : decode cX5_isSlot 6 = .ok (.if_icmp .ne 7, 3) := by decide +kernel
theorem dX5_isSlot_9 : decode cX5_isSlot 9 = .ok (.iconst 1, 1) := by decide +kernel
theorem dX5_isSlot_10 : decode cX5_isSlot 10 = .ok (.goto 4, 3) := by decide +kernel
theorem dX5_isSlot_13 : decode cX5_isSlot 13 = .ok (.iconst 0, 1) := by decide +kernel
theorem dX5_isSlot_14 : decode cX5_isSlot 14 = .ok (.ireturn, 1) := by decide +kernel
theorem dX5_save_0 : decode cX5_save 0 = .ok (.iload_n 1, 1) := by decide +kernel
theorem dX5_save_1 : decode cX5_save 1 = .ok (.invokestatic 190, 3) := by decide +kernel
theorem dX5_save_4 : decode cX5_save 4 = .ok (.ifCond .ne 6, 3) := by decide +kernel
theorem dX5_save_7 : decode cX5_save 7 = .ok (.bipush (-2), 2) := by decide +kernel
theorem dX5_save_9 : decode cX5_save 9 = .ok (.ireturn, 1) := by decide +kernel
theorem dX5_save_10 : decode cX5_save 10 = .ok (.iconst 0, 1) := by decide +kernel
theorem dX5_save_11 : decode cX5_save 11 = .ok (.istore_n 2, 1) := by decide +kernel
theorem dX5_save_12 : decode cX5_save 12 = .ok (.iload_n 2, 1) := by decide +kernel
theorem dX5_save_13 : decode cX5_save 13 = .ok (.sipush 1640, 3) := by decide +kernel
theorem dX5_save_16 : decode cX5_save 16 = .ok (.if_icmp .ge 27, 3) := by decide +kernel
theorem dX5_save_19 : decode cX5_save 19 = .ok (.aload_n 0, 1) := by decide +kernel
theorem dX5_save_20 : decode cX5_save 20 = .ok (.getfield 19, 3) := by decide +kernel
theorem dX5_save_23 : decode cX5_save 23 = .ok (.sipush 1640, 3) := by decide +kernel
theorem dX5_save_26 : decode cX5_save 26 = .ok (.iload_n 1, 1) := by decide +kernel
theorem dX5_save_27 : decode cX5_save 27 = .ok (.imul, 1) := by decide +kernel
theorem dX5_save_28 : decode cX5_save 28 = .ok (.iload_n 2, 1) := by decide +kernel
theorem dX5_save_29 : decode cX5_save 29 = .ok (.iadd, 1) := by decide +kernel
theorem dX5_save_30 : decode cX5_save 30 = .ok (.aload_n 0, 1) := by decide +kernel
theorem dX5_save_31 : decode cX5_save 31 = .ok (.getfield 7, 3) := by decide +kernel
theorem dX5_save_34 : decode cX5_save 34 = .ok (.iload_n 2, 1) := by decide +kernel
theorem dX5_save_35 : decode cX5_save 35 = .ok (.iaload, 1) := by decide +kernel
theorem dX5_save_36 : decode cX5_save 36 = .ok (.iastore, 1) := by decide +kernel
theorem dX5_save_37 : decode cX5_save 37 = .ok (.iinc 2 1, 3) := by decide +kernel
theorem dX5_save_40 : decode cX5_save 40 = .ok (.goto (-28), 3) := by decide +kernel
theorem dX5_save_43 : decode cX5_save 43 = .ok (.aload_n 0, 1) := by decide +kernel
theorem dX5_save_44 : decode cX5_save 44 = .ok (.getfield 22, 3) := by decide +kernel
theorem dX5_save_47 : decode cX5_save 47 = .ok (.iload_n 1, 1) := by decide +kernel
theorem dX5_save_48 : decode cX5_save 48 = .ok (.iconst 1, 1) := by decide +kernel
theorem dX5_save_49 : decode cX5_save 49 = .ok (.iastore, 1) := by decide +kernel
theorem dX5_save_50 : decode cX5_save 50 = .ok (.aload_n 0, 1) := by decide +kernel
theorem dX5_save_51 : decode cX5_save 51 = .ok (.getfield 7, 3) := by decide +kernel
theorem dX5_save_54 : decode cX5_save 54 = .ok (.iconst 5, 1) := by decide +kernel
theorem dX5_save_55 : decode cX5_save 55 = .ok (.iaload, 1) := by decide +kernel
theorem dX5_save_56 : decode cX5_save 56 = .ok (.ireturn, 1) := by decide +kernel
theorem dX5_restore_0 : decode cX5_restore 0 = .ok (.iload_n 1, 1) := by decide +kernel
theorem dX5_restore_1 : decode cX5_restore 1 = .ok (.invokestatic 190, 3) := by decide +kernel
theorem dX5_restore_4 : decode cX5_restore 4 = .ok (.ifCond .ne 6, 3) := by decide +kernel
theorem dX5_restore_7 : decode cX5_restore 7 = .ok (.bipush (-2), 2) := by decide +kernel
theorem dX5_restore_9 : decode cX5_restore 9 = .ok (.ireturn, 1) := by decide +kernel
theorem dX5_restore_10 : decode cX5_restore 10 = .ok (.aload_n 0, 1) := by decide +kernel
theorem dX5_restore_11 : decode cX5_restore 11 = .ok (.getfield 22, 3) := by decide +kernel
theorem dX5_restore_14 : decode cX5_restore 14 = .ok (.iload_n 1, 1) := by decide +kernel
theorem dX5_restore_15 : decode cX5_restore 15 = .ok (.iaload, 1) := by decide +kernel
theorem dX5_restore_16 : decode cX5_restore 16 = .ok (.ifCond .ne 6, 3) := by decide +kernel
theorem dX5_restore_19 : decode cX5_restore 19 = .ok (.bipush (-5), 2) := by decide +kernel
theorem dX5_restore_21 : decode cX5_restore 21 = .ok (.ireturn, 1) := by decide +kernel
theorem dX5_restore_22 : decode cX5_restore 22 = .ok (.aload_n 0, 1) := by decide +kernel
theorem dX5_restore_23 : decode cX5_restore 23 = .ok (.invokevirtual 103, 3) := by decide +kernel
theorem dX5_restore_26 : decode cX5_restore 26 = .ok (.iconst 0, 1) := by decide +kernel
theorem dX5_restore_27 : decode cX5_restore 27 = .ok (.istore_n 2, 1) := by decide +kernel
theorem dX5_restore_28 : decode cX5_restore 28 = .ok (.iload_n 2, 1) := by decide +kernel
theorem dX5_restore_29 : decode cX5_restore 29 = .ok (.sipush 1640, 3) := by decide +kernel
theorem dX5_restore_32 : decode cX5_restore 32 = .ok (.if_icmp .ge 27, 3) := by decide +kernel
theorem dX5_restore_35 : decode cX5_restore 35 = .ok (.aload_n 0, 1) := by decide +kernel
theorem dX5_restore_36 : decode cX5_restore 36 = .ok (.getfield 7, 3) := by decide +kernel
theorem dX5_restore_39 : decode cX5_restore 39 = .ok (.iload_n 2, 1) := by decide +kernel
theorem dX5_restore_40 : decode cX5_restore 40 = .ok (.aload_n 0, 1) := by decide +kernel
theorem dX5_restore_41 : decode cX5_restore 41 = .ok (.getfield 19, 3) := by decide +kernel
theorem dX5_restore_44 : decode cX5_restore 44 = .ok (.sipush 1640, 3) := by decide +kernel
theorem dX5_restore_47 : decode cX5_restore 47 = .ok (.iload_n 1, 1) := by decide +kernel
theorem dX5_restore_48 : decode cX5_restore 48 = .ok (.imul, 1) := by decide +kernel
theorem dX5_restore_49 : decode cX5_restore 49 = .ok (.iload_n 2, 1) := by decide +kernel
theorem dX5_restore_50 : decode cX5_restore 50 = .ok (.iadd, 1) := by decide +kernel
theorem dX5_restore_51 : decode cX5_restore 51 = .ok (.iaload, 1) := by decide +kernel
theorem dX5_restore_52 : decode cX5_restore 52 = .ok (.iastore, 1) := by decide +kernel
theorem dX5_restore_53 : decode cX5_restore 53 = .ok (.iinc 2 1, 3) := by decide +kernel
theorem dX5_restore_56 : decode cX5_restore 56 = .ok (.goto (-28), 3) := by decide +kernel
theorem dX5_restore_59 : decode cX5_restore 59 = .ok (.aload_n 0, 1) := by decide +kernel
theorem dX5_restore_60 : decode cX5_restore 60 = .ok (.getfield 7, 3) := by decide +kernel
theorem dX5_restore_63 : decode cX5_restore 63 = .ok (.iconst 5, 1) := by decide +kernel
theorem dX5_restore_64 : decode cX5_restore 64 = .ok (.iaload, 1) := by decide +kernel
theorem dX5_restore_65 : decode cX5_restore 65 = .ok (.ireturn, 1) := by decide +kernel
theorem dL_law_0 : decode cL_law 0 = .ok (.new 7, 3) := by decide +kernel
theorem dL_law_3 : decode cL_law 3 = .ok (.dup, 1) := by decide +kernel
theorem dL_law_4 : decode cL_law 4 = .ok (.invokespecial 9, 3) := by decide +kernel
theorem dL_law_7 : decode cL_law 7 = .ok (.astore_n 1, 1) := by decide +kernel
theorem dL_law_8 : decode cL_law 8 = .ok (.new 10, 3) := by decide +kernel
theorem dL_law_11 : decode cL_law 11 = .ok (.dup, 1) := by decide +kernel
theorem dL_law_12 : decode cL_law 12 = .ok (.invokespecial 12, 3) := by decide +kernel
theorem dL_law_15 : decode cL_law 15 = .ok (.astore_n 2, 1) := by decide +kernel
theorem dL_law_16 : decode cL_law 16 = .ok (.iconst 0, 1) := by decide +kernel
theorem dL_law_17 : decode cL_law 17 = .ok (.istore_n 3, 1) := by decide +kernel
theorem dL_law_18 : decode cL_law 18 = .ok (.iload_n 3, 1) := by decide +kernel
theorem dL_law_19 : decode cL_law 19 = .ok (.aload_n 0, 1) := by decide +kernel
theorem dL_law_20 : decode cL_law 20 = .ok (.arraylength, 1) := by decide +kernel
theorem dL_law_21 : decode cL_law 21 = .ok (.iconst 4, 1) := by decide +kernel
theorem dL_law_22 : decode cL_law 22 = .ok (.isub, 1) := by decide +kernel
theorem dL_law_23 : decode cL_law 23 = .ok (.if_icmp .gt 668, 3) := by decide +kernel
theorem dL_law_26 : decode cL_law 26 = .ok (.aload_n 0, 1) := by decide +kernel
theorem dL_law_27 : decode cL_law 27 = .ok (.iload_n 3, 1) := by decide +kernel
theorem dL_law_28 : decode cL_law 28 = .ok (.iaload, 1) := by decide +kernel
theorem dL_law_29 : decode cL_law 29 = .ok (.bipush 31, 2) := by decide +kernel
theorem dL_law_31 : decode cL_law 31 = .ok (.iand, 1) := by decide +kernel
theorem dL_law_32 : decode cL_law 32 = .ok (.tableswitch 653 0 20 #[100, 133, 176, 199, 222, 245, 268, 301, 334, 357, 380, 403, 426, 459, 502, 555, 568, 581, 594, 607, 630], 100) := by decide +kernel
theorem dL_law_132 : decode cL_law 132 = .ok (.aload_n 1, 1) := by decide +kernel
theorem dL_law_133 : decode cL_law 133 = .ok (.aload_n 0, 1) := by decide +kernel
theorem dL_law_134 : decode cL_law 134 = .ok (.iload_n 3, 1) := by decide +kernel
theorem dL_law_135 : decode cL_law 135 = .ok (.iconst 1, 1) := by decide +kernel
theorem dL_law_136 : decode cL_law 136 = .ok (.iadd, 1) := by decide +kernel
theorem dL_law_137 : decode cL_law 137 = .ok (.iaload, 1) := by decide +kernel
theorem dL_law_138 : decode cL_law 138 = .ok (.aload_n 0, 1) := by decide +kernel
theorem dL_law_139 : decode cL_law 139 = .ok (.iload_n 3, 1) := by decide +kernel
theorem dL_law_140 : decode cL_law 140 = .ok (.iconst 2, 1) := by decide +kernel
theorem dL_law_141 : decode cL_law 141 = .ok (.iadd, 1) := by decide +kernel
theorem dL_law_142 : decode cL_law 142 = .ok (.iaload, 1) := by decide +kernel
theorem dL_law_143 : decode cL_law 143 = .ok (.invokevirtual 13, 3) := by decide +kernel
theorem dL_law_146 : decode cL_law 146 = .ok (.aload_n 2, 1) := by decide +kernel
theorem dL_law_147 : decode cL_law 147 = .ok (.aload_n 0, 1) := by decide +kernel
theorem dL_law_148 : decode cL_law 148 = .ok (.iload_n 3, 1) := by decide +kernel
theorem dL_law_149 : decode cL_law 149 = .ok (.iconst 1, 1) := by decide +kernel
theorem dL_law_150 : decode cL_law 150 = .ok (.iadd, 1) := by decide +kernel
theorem dL_law_151 : decode cL_law 151 = .ok (.iaload, 1) := by decide +kernel
theorem dL_law_152 : decode cL_law 152 = .ok (.aload_n 0, 1) := by decide +kernel
theorem dL_law_153 : decode cL_law 153 = .ok (.iload_n 3, 1) := by decide +kernel
theorem dL_law_154 : decode cL_law 154 = .ok (.iconst 2, 1) := by decide +kernel
theorem dL_law_155 : decode cL_law 155 = .ok (.iadd, 1) := by decide +kernel
theorem dL_law_156 : decode cL_law 156 = .ok (.iaload, 1) := by decide +kernel
theorem dL_law_157 : decode cL_law 157 = .ok (.invokevirtual 17, 3) := by decide +kernel
theorem dL_law_160 : decode cL_law 160 = .ok (.if_icmp .eq 525, 3) := by decide +kernel
theorem dL_law_163 : decode cL_law 163 = .ok (.iconst 0, 1) := by decide +kernel
theorem dL_law_164 : decode cL_law 164 = .ok (.ireturn, 1) := by decide +kernel
theorem dL_law_165 : decode cL_law 165 = .ok (.aload_n 1, 1) := by decide +kernel
theorem dL_law_166 : decode cL_law 166 = .ok (.aload_n 0, 1) := by decide +kernel
theorem dL_law_167 : decode cL_law 167 = .ok (.iload_n 3, 1) := by decide +kernel
theorem dL_law_168 : decode cL_law 168 = .ok (.iconst 1, 1) := by decide +kernel
theorem dL_law_169 : decode cL_law 169 = .ok (.iadd, 1) := by decide +kernel
theorem dL_law_170 : decode cL_law 170 = .ok (.iaload, 1) := by decide +kernel
theorem dL_law_171 : decode cL_law 171 = .ok (.aload_n 0, 1) := by decide +kernel
theorem dL_law_172 : decode cL_law 172 = .ok (.iload_n 3, 1) := by decide +kernel
theorem dL_law_173 : decode cL_law 173 = .ok (.iconst 2, 1) := by decide +kernel
theorem dL_law_174 : decode cL_law 174 = .ok (.iadd, 1) := by decide +kernel
theorem dL_law_175 : decode cL_law 175 = .ok (.iaload, 1) := by decide +kernel
theorem dL_law_176 : decode cL_law 176 = .ok (.aload_n 0, 1) := by decide +kernel
theorem dL_law_177 : decode cL_law 177 = .ok (.iload_n 3, 1) := by decide +kernel
theorem dL_law_178 : decode cL_law 178 = .ok (.iconst 3, 1) := by decide +kernel
theorem dL_law_179 : decode cL_law 179 = .ok (.iadd, 1) := by decide +kernel
theorem dL_law_180 : decode cL_law 180 = .ok (.iaload, 1) := by decide +kernel
theorem dL_law_181 : decode cL_law 181 = .ok (.invokevirtual 18, 3) := by decide +kernel
theorem dL_law_184 : decode cL_law 184 = .ok (.aload_n 2, 1) := by decide +kernel
theorem dL_law_185 : decode cL_law 185 = .ok (.aload_n 0, 1) := by decide +kernel
theorem dL_law_186 : decode cL_law 186 = .ok (.iload_n 3, 1) := by decide +kernel
theorem dL_law_187 : decode cL_law 187 = .ok (.iconst 1, 1) := by decide +kernel
theorem dL_law_188 : decode cL_law 188 = .ok (.iadd, 1) := by decide +kernel
theorem dL_law_189 : decode cL_law 189 = .ok (.iaload, 1) := by decide +kernel
theorem dL_law_190 : decode cL_law 190 = .ok (.aload_n 0, 1) := by decide +kernel
theorem dL_law_191 : decode cL_law 191 = .ok (.iload_n 3, 1) := by decide +kernel
theorem dL_law_192 : decode cL_law 192 = .ok (.iconst 2, 1) := by decide +kernel
theorem dL_law_193 : decode cL_law 193 = .ok (.iadd, 1) := by decide +kernel
theorem dL_law_194 : decode cL_law 194 = .ok (.iaload, 1) := by decide +kernel
theorem dL_law_195 : decode cL_law 195 = .ok (.aload_n 0, 1) := by decide +kernel
theorem dL_law_196 : decode cL_law 196 = .ok (.iload_n 3, 1) := by decide +kernel
theorem dL_law_197 : decode cL_law 197 = .ok (.iconst 3, 1) := by decide +kernel
theorem dL_law_198 : decode cL_law 198 = .ok (.iadd, 1) := by decide +kernel
theorem dL_law_199 : decode cL_law 199 = .ok (.iaload, 1) := by decide +kernel
theorem dL_law_200 : decode cL_law 200 = .ok (.invokevirtual 22, 3) := by decide +kernel
theorem dL_law_203 : decode cL_law 203 = .ok (.if_icmp .eq 482, 3) := by decide +kernel
theorem dL_law_206 : decode cL_law 206 = .ok (.iconst 0, 1) := by decide +kernel
theorem dL_law_207 : decode cL_law 207 = .ok (.ireturn, 1) := by decide +kernel
theorem dL_law_208 : decode cL_law 208 = .ok (.aload_n 1, 1) := by decide +kernel
theorem dL_law_209 : decode cL_law 209 = .ok (.aload_n 0, 1) := by decide +kernel
theorem dL_law_210 : decode cL_law 210 = .ok (.iload_n 3, 1) := by decide +kernel
theorem dL_law_211 : decode cL_law 211 = .ok (.iconst 1, 1) := by decide +kernel
theorem dL_law_212 : decode cL_law 212 = .ok (.iadd, 1) := by decide +kernel
theorem dL_law_213 : decode cL_law 213 = .ok (.iaload, 1) := by decide +kernel
theorem dL_law_214 : decode cL_law 214 = .ok (.invokevirtual 23, 3) := by decide +kernel
theorem dL_law_217 : decode cL_law 217 = .ok (.aload_n 2, 1) := by decide +kernel
theorem dL_law_218 : decode cL_law 218 = .ok (.aload_n 0, 1) := by decide +kernel
theorem dL_law_219 : decode cL_law 219 = .ok (.iload_n 3, 1) := by decide +kernel
theorem dL_law_220 : decode cL_law 220 = .ok (.iconst 1, 1) := by decide +kernel
theorem dL_law_221 : decode cL_law 221 = .ok (.iadd, 1) := by decide +kernel
theorem dL_law_222 : decode cL_law 222 = .ok (.iaload, 1) := by decide +kernel
theorem dL_law_223 : decode cL_law 223 = .ok (.invokevirtual 27, 3) := by decide +kernel
theorem dL_law_226 : decode cL_law 226 = .ok (.if_icmp .eq 459, 3) := by decide +kernel
theorem dL_law_229 : decode cL_law 229 = .ok (.iconst 0, 1) := by decide +kernel
theorem dL_law_230 : decode cL_law 230 = .ok (.ireturn, 1) := by decide +kernel
theorem dL_law_231 : decode cL_law 231 = .ok (.aload_n 1, 1) := by decide +kernel
theorem dL_law_232 : decode cL_law 232 = .ok (.aload_n 0, 1) := by decide +kernel
theorem dL_law_233 : decode cL_law 233 = .ok (.iload_n 3, 1) := by decide +kernel
theorem dL_law_234 : decode cL_law 234 = .ok (.iconst 1, 1) := by decide +kernel
theorem dL_law_235 : decode cL_law 235 = .ok (.iadd, 1) := by decide +kernel
theorem dL_law_236 : decode cL_law 236 = .ok (.iaload, 1) := by decide +kernel
theorem dL_law_237 : decode cL_law 237 = .ok (.invokevirtual 28, 3) := by decide +kernel
theorem dL_law_240 : decode cL_law 240 = .ok (.aload_n 2, 1) := by decide +kernel
theorem dL_law_241 : decode cL_law 241 = .ok (.aload_n 0, 1) := by decide +kernel
theorem dL_law_242 : decode cL_law 242 = .ok (.iload_n 3, 1) := by decide +kernel
theorem dL_law_243 : decode cL_law 243 = .ok (.iconst 1, 1) := by decide +kernel
theorem dL_law_244 : decode cL_law 244 = .ok (.iadd, 1) := by decide +kernel
theorem dL_law_245 : decode cL_law 245 = .ok (.iaload, 1) := by decide +kernel
theorem dL_law_246 : decode cL_law 246 = .ok (.invokevirtual 31, 3) := by decide +kernel
theorem dL_law_249 : decode cL_law 249 = .ok (.if_icmp .eq 436, 3) := by decide +kernel
theorem dL_law_252 : decode cL_law 252 = .ok (.iconst 0, 1) := by decide +kernel
theorem dL_law_253 : decode cL_law 253 = .ok (.ireturn, 1) := by decide +kernel
theorem dL_law_254 : decode cL_law 254 = .ok (.aload_n 1, 1) := by decide +kernel
theorem dL_law_255 : decode cL_law 255 = .ok (.aload_n 0, 1) := by decide +kernel
theorem dL_law_256 : decode cL_law 256 = .ok (.iload_n 3, 1) := by decide +kernel
theorem dL_law_257 : decode cL_law 257 = .ok (.iconst 1, 1) := by decide +kernel
theorem dL_law_258 : decode cL_law 258 = .ok (.iadd, 1) := by decide +kernel
theorem dL_law_259 : decode cL_law 259 = .ok (.iaload, 1) := by decide +kernel
theorem dL_law_260 : decode cL_law 260 = .ok (.invokevirtual 32, 3) := by decide +kernel
theorem dL_law_263 : decode cL_law 263 = .ok (.aload_n 2, 1) := by decide +kernel
theorem dL_law_264 : decode cL_law 264 = .ok (.aload_n 0, 1) := by decide +kernel
theorem dL_law_265 : decode cL_law 265 = .ok (.iload_n 3, 1) := by decide +kernel
theorem dL_law_266 : decode cL_law 266 = .ok (.iconst 1, 1) := by decide +kernel
theorem dL_law_267 : decode cL_law 267 = .ok (.iadd, 1) := by decide +kernel
theorem dL_law_268 : decode cL_law 268 = .ok (.iaload, 1) := by decide +kernel
theorem dL_law_269 : decode cL_law 269 = .ok (.invokevirtual 35, 3) := by decide +kernel
theorem dL_law_272 : decode cL_law 272 = .ok (.if_icmp .eq 413, 3) := by decide +kernel
theorem dL_law_275 : decode cL_law 275 = .ok (.iconst 0, 1) := by decide +kernel
theorem dL_law_276 : decode cL_law 276 = .ok (.ireturn, 1) := by decide +kernel
theorem dL_law_277 : decode cL_law 277 = .ok (.aload_n 1, 1) := by decide +kernel
theorem dL_law_278 : decode cL_law 278 = .ok (.aload_n 0, 1) := by decide +kernel
theorem dL_law_279 : decode cL_law 279 = .ok (.iload_n 3, 1) := by decide +kernel
theorem dL_law_280 : decode cL_law 280 = .ok (.iconst 1, 1) := by decide +kernel
theorem dL_law_281 : decode cL_law 281 = .ok (.iadd, 1) := by decide +kernel
theorem dL_law_282 : decode cL_law 282 = .ok (.iaload, 1) := by decide +kernel
theorem dL_law_283 : decode cL_law 283 = .ok (.invokevirtual 36, 3) := by decide +kernel
theorem dL_law_286 : decode cL_law 286 = .ok (.aload_n 2, 1) := by decide +kernel
theorem dL_law_287 : decode cL_law 287 = .ok (.aload_n 0, 1) := by decide +kernel
theorem dL_law_288 : decode cL_law 288 = .ok (.iload_n 3, 1) := by decide +kernel
theorem dL_law_289 : decode cL_law 289 = .ok (.iconst 1, 1) := by decide +kernel
theorem dL_law_290 : decode cL_law 290 = .ok (.iadd, 1) := by decide +kernel
theorem dL_law_291 : decode cL_law 291 = .ok (.iaload, 1) := by decide +kernel
theorem dL_law_292 : decode cL_law 292 = .ok (.invokevirtual 39, 3) := by decide +kernel
theorem dL_law_295 : decode cL_law 295 = .ok (.if_icmp .eq 390, 3) := by decide +kernel
theorem dL_law_298 : decode cL_law 298 = .ok (.iconst 0, 1) := by decide +kernel
theorem dL_law_299 : decode cL_law 299 = .ok (.ireturn, 1) := by decide +kernel
theorem dL_law_300 : decode cL_law 300 = .ok (.aload_n 1, 1) := by decide +kernel
theorem dL_law_301 : decode cL_law 301 = .ok (.aload_n 0, 1) := by decide +kernel
theorem dL_law_302 : decode cL_law 302 = .ok (.iload_n 3, 1) := by decide +kernel
theorem dL_law_303 : decode cL_law 303 = .ok (.iconst 1, 1) := by decide +kernel
theorem dL_law_304 : decode cL_law 304 = .ok (.iadd, 1) := by decide +kernel
theorem dL_law_305 : decode cL_law 305 = .ok (.iaload, 1) := by decide +kernel
theorem dL_law_306 : decode cL_law 306 = .ok (.aload_n 0, 1) := by decide +kernel
theorem dL_law_307 : decode cL_law 307 = .ok (.iload_n 3, 1) := by decide +kernel
theorem dL_law_308 : decode cL_law 308 = .ok (.iconst 2, 1) := by decide +kernel
theorem dL_law_309 : decode cL_law 309 = .ok (.iadd, 1) := by decide +kernel
theorem dL_law_310 : decode cL_law 310 = .ok (.iaload, 1) := by decide +kernel
theorem dL_law_311 : decode cL_law 311 = .ok (.invokevirtual 40, 3) := by decide +kernel
theorem dL_law_314 : decode cL_law 314 = .ok (.aload_n 2, 1) := by decide +kernel
theorem dL_law_315 : decode cL_law 315 = .ok (.aload_n 0, 1) := by decide +kernel
theorem dL_law_316 : decode cL_law 316 = .ok (.iload_n 3, 1) := by decide +kernel
theorem dL_law_317 : decode cL_law 317 = .ok (.iconst 1, 1) := by decide +kernel
theorem dL_law_318 : decode cL_law 318 = .ok (.iadd, 1) := by decide +kernel
theorem dL_law_319 : decode cL_law 319 = .ok (.iaload, 1) := by decide +kernel
theorem dL_law_320 : decode cL_law 320 = .ok (.aload_n 0, 1) := by decide +kernel
theorem dL_law_321 : decode cL_law 321 = .ok (.iload_n 3, 1) := by decide +kernel
theorem dL_law_322 : decode cL_law 322 = .ok (.iconst 2, 1) := by decide +kernel
theorem dL_law_323 : decode cL_law 323 = .ok (.iadd, 1) := by decide +kernel
theorem dL_law_324 : decode cL_law 324 = .ok (.iaload, 1) := by decide +kernel
theorem dL_law_325 : decode cL_law 325 = .ok (.invokevirtual 43, 3) := by decide +kernel
theorem dL_law_328 : decode cL_law 328 = .ok (.if_icmp .eq 357, 3) := by decide +kernel
theorem dL_law_331 : decode cL_law 331 = .ok (.iconst 0, 1) := by decide +kernel
theorem dL_law_332 : decode cL_law 332 = .ok (.ireturn, 1) := by decide +kernel
theorem dL_law_333 : decode cL_law 333 = .ok (.aload_n 1, 1) := by decide +kernel
theorem dL_law_334 : decode cL_law 334 = .ok (.aload_n 0, 1) := by decide +kernel
theorem dL_law_335 : decode cL_law 335 = .ok (.iload_n 3, 1) := by decide +kernel
theorem dL_law_336 : decode cL_law 336 = .ok (.iconst 1, 1) := by decide +kernel
theorem dL_law_337 : decode cL_law 337 = .ok (.iadd, 1) := by decide +kernel
theorem dL_law_338 : decode cL_law 338 = .ok (.iaload, 1) := by decide +kernel
theorem dL_law_339 : decode cL_law 339 = .ok (.aload_n 0, 1) := by decide +kernel
theorem dL_law_340 : decode cL_law 340 = .ok (.iload_n 3, 1) := by decide +kernel
theorem dL_law_341 : decode cL_law 341 = .ok (.iconst 2, 1) := by decide +kernel
theorem dL_law_342 : decode cL_law 342 = .ok (.iadd, 1) := by decide +kernel
theorem dL_law_343 : decode cL_law 343 = .ok (.iaload, 1) := by decide +kernel
theorem dL_law_344 : decode cL_law 344 = .ok (.invokevirtual 44, 3) := by decide +kernel
theorem dL_law_347 : decode cL_law 347 = .ok (.aload_n 2, 1) := by decide +kernel
theorem dL_law_348 : decode cL_law 348 = .ok (.aload_n 0, 1) := by decide +kernel
theorem dL_law_349 : decode cL_law 349 = .ok (.iload_n 3, 1) := by decide +kernel
theorem dL_law_350 : decode cL_law 350 = .ok (.iconst 1, 1) := by decide +kernel
theorem dL_law_351 : decode cL_law 351 = .ok (.iadd, 1) := by decide +kernel
theorem dL_law_352 : decode cL_law 352 = .ok (.iaload, 1) := by decide +kernel
theorem dL_law_353 : decode cL_law 353 = .ok (.aload_n 0, 1) := by decide +kernel
theorem dL_law_354 : decode cL_law 354 = .ok (.iload_n 3, 1) := by decide +kernel
theorem dL_law_355 : decode cL_law 355 = .ok (.iconst 2, 1) := by decide +kernel
theorem dL_law_356 : decode cL_law 356 = .ok (.iadd, 1) := by decide +kernel
theorem dL_law_357 : decode cL_law 357 = .ok (.iaload, 1) := by decide +kernel
theorem dL_law_358 : decode cL_law 358 = .ok (.invokevirtual 47, 3) := by decide +kernel
theorem dL_law_361 : decode cL_law 361 = .ok (.if_icmp .eq 324, 3) := by decide +kernel
theorem dL_law_364 : decode cL_law 364 = .ok (.iconst 0, 1) := by decide +kernel
theorem dL_law_365 : decode cL_law 365 = .ok (.ireturn, 1) := by decide +kernel
theorem dL_law_366 : decode cL_law 366 = .ok (.aload_n 1, 1) := by decide +kernel
theorem dL_law_367 : decode cL_law 367 = .ok (.aload_n 0, 1) := by decide +kernel
theorem dL_law_368 : decode cL_law 368 = .ok (.iload_n 3, 1) := by decide +kernel
theorem dL_law_369 : decode cL_law 369 = .ok (.iconst 1, 1) := by decide +kernel
theorem dL_law_370 : decode cL_law 370 = .ok (.iadd, 1) := by decide +kernel
theorem dL_law_371 : decode cL_law 371 = .ok (.iaload, 1) := by decide +kernel
theorem dL_law_372 : decode cL_law 372 = .ok (.invokevirtual 48, 3) := by decide +kernel
theorem dL_law_375 : decode cL_law 375 = .ok (.aload_n 2, 1) := by decide +kernel
theorem dL_law_376 : decode cL_law 376 = .ok (.aload_n 0, 1) := by decide +kernel
theorem dL_law_377 : decode cL_law 377 = .ok (.iload_n 3, 1) := by decide +kernel
theorem dL_law_378 : decode cL_law 378 = .ok (.iconst 1, 1) := by decide +kernel
theorem dL_law_379 : decode cL_law 379 = .ok (.iadd, 1) := by decide +kernel
theorem dL_law_380 : decode cL_law 380 = .ok (.iaload, 1) := by decide +kernel
theorem dL_law_381 : decode cL_law 381 = .ok (.invokevirtual 51, 3) := by decide +kernel
theorem dL_law_384 : decode cL_law 384 = .ok (.if_icmp .eq 301, 3) := by decide +kernel
theorem dL_law_387 : decode cL_law 387 = .ok (.iconst 0, 1) := by decide +kernel
theorem dL_law_388 : decode cL_law 388 = .ok (.ireturn, 1) := by decide +kernel
theorem dL_law_389 : decode cL_law 389 = .ok (.aload_n 1, 1) := by decide +kernel
theorem dL_law_390 : decode cL_law 390 = .ok (.aload_n 0, 1) := by decide +kernel
theorem dL_law_391 : decode cL_law 391 = .ok (.iload_n 3, 1) := by decide +kernel
theorem dL_law_392 : decode cL_law 392 = .ok (.iconst 1, 1) := by decide +kernel
theorem dL_law_393 : decode cL_law 393 = .ok (.iadd, 1) := by decide +kernel
theorem dL_law_394 : decode cL_law 394 = .ok (.iaload, 1) := by decide +kernel
theorem dL_law_395 : decode cL_law 395 = .ok (.invokevirtual 52, 3) := by decide +kernel
theorem dL_law_398 : decode cL_law 398 = .ok (.aload_n 2, 1) := by decide +kernel
theorem dL_law_399 : decode cL_law 399 = .ok (.aload_n 0, 1) := by decide +kernel
theorem dL_law_400 : decode cL_law 400 = .ok (.iload_n 3, 1) := by decide +kernel
theorem dL_law_401 : decode cL_law 401 = .ok (.iconst 1, 1) := by decide +kernel
theorem dL_law_402 : decode cL_law 402 = .ok (.iadd, 1) := by decide +kernel
theorem dL_law_403 : decode cL_law 403 = .ok (.iaload, 1) := by decide +kernel
theorem dL_law_404 : decode cL_law 404 = .ok (.invokevirtual 55, 3) := by decide +kernel
theorem dL_law_407 : decode cL_law 407 = .ok (.if_icmp .eq 278, 3) := by decide +kernel
theorem dL_law_410 : decode cL_law 410 = .ok (.iconst 0, 1) := by decide +kernel
theorem dL_law_411 : decode cL_law 411 = .ok (.ireturn, 1) := by decide +kernel
theorem dL_law_412 : decode cL_law 412 = .ok (.aload_n 1, 1) := by decide +kernel
theorem dL_law_413 : decode cL_law 413 = .ok (.aload_n 0, 1) := by decide +kernel
theorem dL_law_414 : decode cL_law 414 = .ok (.iload_n 3, 1) := by decide +kernel
theorem dL_law_415 : decode cL_law 415 = .ok (.iconst 1, 1) := by decide +kernel
theorem dL_law_416 : decode cL_law 416 = .ok (.iadd, 1) := by decide +kernel
theorem dL_law_417 : decode cL_law 417 = .ok (.iaload, 1) := by decide +kernel
theorem dL_law_418 : decode cL_law 418 = .ok (.invokevirtual 56, 3) := by decide +kernel
theorem dL_law_421 : decode cL_law 421 = .ok (.aload_n 2, 1) := by decide +kernel
theorem dL_law_422 : decode cL_law 422 = .ok (.aload_n 0, 1) := by decide +kernel
theorem dL_law_423 : decode cL_law 423 = .ok (.iload_n 3, 1) := by decide +kernel
theorem dL_law_424 : decode cL_law 424 = .ok (.iconst 1, 1) := by decide +kernel
theorem dL_law_425 : decode cL_law 425 = .ok (.iadd, 1) := by decide +kernel
theorem dL_law_426 : decode cL_law 426 = .ok (.iaload, 1) := by decide +kernel
theorem dL_law_427 : decode cL_law 427 = .ok (.invokevirtual 59, 3) := by decide +kernel
theorem dL_law_430 : decode cL_law 430 = .ok (.if_icmp .eq 255, 3) := by decide +kernel
theorem dL_law_433 : decode cL_law 433 = .ok (.iconst 0, 1) := by decide +kernel
theorem dL_law_434 : decode cL_law 434 = .ok (.ireturn, 1) := by decide +kernel
theorem dL_law_435 : decode cL_law 435 = .ok (.aload_n 1, 1) := by decide +kernel
theorem dL_law_436 : decode cL_law 436 = .ok (.aload_n 0, 1) := by decide +kernel
theorem dL_law_437 : decode cL_law 437 = .ok (.iload_n 3, 1) := by decide +kernel
theorem dL_law_438 : decode cL_law 438 = .ok (.iconst 1, 1) := by decide +kernel
theorem dL_law_439 : decode cL_law 439 = .ok (.iadd, 1) := by decide +kernel
theorem dL_law_440 : decode cL_law 440 = .ok (.iaload, 1) := by decide +kernel
theorem dL_law_441 : decode cL_law 441 = .ok (.invokevirtual 60, 3) := by decide +kernel
theorem dL_law_444 : decode cL_law 444 = .ok (.aload_n 2, 1) := by decide +kernel
theorem dL_law_445 : decode cL_law 445 = .ok (.aload_n 0, 1) := by decide +kernel
theorem dL_law_446 : decode cL_law 446 = .ok (.iload_n 3, 1) := by decide +kernel
theorem dL_law_447 : decode cL_law 447 = .ok (.iconst 1, 1) := by decide +kernel
theorem dL_law_448 : decode cL_law 448 = .ok (.iadd, 1) := by decide +kernel
theorem dL_law_449 : decode cL_law 449 = .ok (.iaload, 1) := by decide +kernel
theorem dL_law_450 : decode cL_law 450 = .ok (.invokevirtual 63, 3) := by decide +kernel
theorem dL_law_453 : decode cL_law 453 = .ok (.if_icmp .eq 232, 3) := by decide +kernel
theorem dL_law_456 : decode cL_law 456 = .ok (.iconst 0, 1) := by decide +kernel
theorem dL_law_457 : decode cL_law 457 = .ok (.ireturn, 1) := by decide +kernel
theorem dL_law_458 : decode cL_law 458 = .ok (.aload_n 1, 1) := by decide +kernel
theorem dL_law_459 : decode cL_law 459 = .ok (.aload_n 0, 1) := by decide +kernel
theorem dL_law_460 : decode cL_law 460 = .ok (.iload_n 3, 1) := by decide +kernel
theorem dL_law_461 : decode cL_law 461 = .ok (.iconst 1, 1) := by decide +kernel
theorem dL_law_462 : decode cL_law 462 = .ok (.iadd, 1) := by decide +kernel
theorem dL_law_463 : decode cL_law 463 = .ok (.iaload, 1) := by decide +kernel
theorem dL_law_464 : decode cL_law 464 = .ok (.aload_n 0, 1) := by decide +kernel
theorem dL_law_465 : decode cL_law 465 = .ok (.iload_n 3, 1) := by decide +kernel
theorem dL_law_466 : decode cL_law 466 = .ok (.iconst 2, 1) := by decide +kernel
theorem dL_law_467 : decode cL_law 467 = .ok (.iadd, 1) := by decide +kernel
theorem dL_law_468 : decode cL_law 468 = .ok (.iaload, 1) := by decide +kernel
theorem dL_law_469 : decode cL_law 469 = .ok (.invokevirtual 64, 3) := by decide +kernel
theorem dL_law_472 : decode cL_law 472 = .ok (.aload_n 2, 1) := by decide +kernel
theorem dL_law_473 : decode cL_law 473 = .ok (.aload_n 0, 1) := by decide +kernel
theorem dL_law_474 : decode cL_law 474 = .ok (.iload_n 3, 1) := by decide +kernel
theorem dL_law_475 : decode cL_law 475 = .ok (.iconst 1, 1) := by decide +kernel
theorem dL_law_476 : decode cL_law 476 = .ok (.iadd, 1) := by decide +kernel
theorem dL_law_477 : decode cL_law 477 = .ok (.iaload, 1) := by decide +kernel
theorem dL_law_478 : decode cL_law 478 = .ok (.aload_n 0, 1) := by decide +kernel
theorem dL_law_479 : decode cL_law 479 = .ok (.iload_n 3, 1) := by decide +kernel
theorem dL_law_480 : decode cL_law 480 = .ok (.iconst 2, 1) := by decide +kernel
theorem dL_law_481 : decode cL_law 481 = .ok (.iadd, 1) := by decide +kernel
theorem dL_law_482 : decode cL_law 482 = .ok (.iaload, 1) := by decide +kernel
theorem dL_law_483 : decode cL_law 483 = .ok (.invokevirtual 67, 3) := by decide +kernel
theorem dL_law_486 : decode cL_law 486 = .ok (.if_icmp .eq 199, 3) := by decide +kernel
theorem dL_law_489 : decode cL_law 489 = .ok (.iconst 0, 1) := by decide +kernel
theorem dL_law_490 : decode cL_law 490 = .ok (.ireturn, 1) := by decide +kernel
theorem dL_law_491 : decode cL_law 491 = .ok (.aload_n 1, 1) := by decide +kernel
theorem dL_law_492 : decode cL_law 492 = .ok (.aload_n 0, 1) := by decide +kernel
theorem dL_law_493 : decode cL_law 493 = .ok (.iload_n 3, 1) := by decide +kernel
theorem dL_law_494 : decode cL_law 494 = .ok (.iconst 1, 1) := by decide +kernel
theorem dL_law_495 : decode cL_law 495 = .ok (.iadd, 1) := by decide +kernel
theorem dL_law_496 : decode cL_law 496 = .ok (.iaload, 1) := by decide +kernel
theorem dL_law_497 : decode cL_law 497 = .ok (.aload_n 0, 1) := by decide +kernel
theorem dL_law_498 : decode cL_law 498 = .ok (.iload_n 3, 1) := by decide +kernel
theorem dL_law_499 : decode cL_law 499 = .ok (.iconst 2, 1) := by decide +kernel
theorem dL_law_500 : decode cL_law 500 = .ok (.iadd, 1) := by decide +kernel
theorem dL_law_501 : decode cL_law 501 = .ok (.iaload, 1) := by decide +kernel
theorem dL_law_502 : decode cL_law 502 = .ok (.aload_n 0, 1) := by decide +kernel
theorem dL_law_503 : decode cL_law 503 = .ok (.iload_n 3, 1) := by decide +kernel
theorem dL_law_504 : decode cL_law 504 = .ok (.iconst 3, 1) := by decide +kernel
theorem dL_law_505 : decode cL_law 505 = .ok (.iadd, 1) := by decide +kernel
theorem dL_law_506 : decode cL_law 506 = .ok (.iaload, 1) := by decide +kernel
theorem dL_law_507 : decode cL_law 507 = .ok (.invokevirtual 68, 3) := by decide +kernel
theorem dL_law_510 : decode cL_law 510 = .ok (.aload_n 2, 1) := by decide +kernel
theorem dL_law_511 : decode cL_law 511 = .ok (.aload_n 0, 1) := by decide +kernel
theorem dL_law_512 : decode cL_law 512 = .ok (.iload_n 3, 1) := by decide +kernel
theorem dL_law_513 : decode cL_law 513 = .ok (.iconst 1, 1) := by decide +kernel
theorem dL_law_514 : decode cL_law 514 = .ok (.iadd, 1) := by decide +kernel
theorem dL_law_515 : decode cL_law 515 = .ok (.iaload, 1) := by decide +kernel
theorem dL_law_516 : decode cL_law 516 = .ok (.aload_n 0, 1) := by decide +kernel
theorem dL_law_517 : decode cL_law 517 = .ok (.iload_n 3, 1) := by decide +kernel
theorem dL_law_518 : decode cL_law 518 = .ok (.iconst 2, 1) := by decide +kernel
theorem dL_law_519 : decode cL_law 519 = .ok (.iadd, 1) := by decide +kernel
theorem dL_law_520 : decode cL_law 520 = .ok (.iaload, 1) := by decide +kernel
theorem dL_law_521 : decode cL_law 521 = .ok (.aload_n 0, 1) := by decide +kernel
theorem dL_law_522 : decode cL_law 522 = .ok (.iload_n 3, 1) := by decide +kernel
theorem dL_law_523 : decode cL_law 523 = .ok (.iconst 3, 1) := by decide +kernel
theorem dL_law_524 : decode cL_law 524 = .ok (.iadd, 1) := by decide +kernel
theorem dL_law_525 : decode cL_law 525 = .ok (.iaload, 1) := by decide +kernel
theorem dL_law_526 : decode cL_law 526 = .ok (.invokevirtual 71, 3) := by decide +kernel
theorem dL_law_529 : decode cL_law 529 = .ok (.if_icmp .eq 156, 3) := by decide +kernel
theorem dL_law_532 : decode cL_law 532 = .ok (.iconst 0, 1) := by decide +kernel
theorem dL_law_533 : decode cL_law 533 = .ok (.ireturn, 1) := by decide +kernel
theorem dL_law_534 : decode cL_law 534 = .ok (.aload_n 1, 1) := by decide +kernel
theorem dL_law_535 : decode cL_law 535 = .ok (.aload_n 0, 1) := by decide +kernel
theorem dL_law_536 : decode cL_law 536 = .ok (.iload_n 3, 1) := by decide +kernel
theorem dL_law_537 : decode cL_law 537 = .ok (.iconst 1, 1) := by decide +kernel
theorem dL_law_538 : decode cL_law 538 = .ok (.iadd, 1) := by decide +kernel
theorem dL_law_539 : decode cL_law 539 = .ok (.iaload, 1) := by decide +kernel
theorem dL_law_540 : decode cL_law 540 = .ok (.i2l, 1) := by decide +kernel
theorem dL_law_541 : decode cL_law 541 = .ok (.bipush 32, 2) := by decide +kernel
theorem dL_law_543 : decode cL_law 543 = .ok (.lshl, 1) := by decide +kernel
theorem dL_law_544 : decode cL_law 544 = .ok (.aload_n 0, 1) := by decide +kernel
theorem dL_law_545 : decode cL_law 545 = .ok (.iload_n 3, 1) := by decide +kernel
theorem dL_law_546 : decode cL_law 546 = .ok (.iconst 2, 1) := by decide +kernel
theorem dL_law_547 : decode cL_law 547 = .ok (.iadd, 1) := by decide +kernel
theorem dL_law_548 : decode cL_law 548 = .ok (.iaload, 1) := by decide +kernel
theorem dL_law_549 : decode cL_law 549 = .ok (.i2l, 1) := by decide +kernel
theorem dL_law_550 : decode cL_law 550 = .ok (.ldc2_w 72, 3) := by decide +kernel
theorem dL_law_553 : decode cL_law 553 = .ok (.land, 1) := by decide +kernel
theorem dL_law_554 : decode cL_law 554 = .ok (.lor, 1) := by decide +kernel
theorem dL_law_555 : decode cL_law 555 = .ok (.invokevirtual 74, 3) := by decide +kernel
theorem dL_law_558 : decode cL_law 558 = .ok (.aload_n 2, 1) := by decide +kernel
theorem dL_law_559 : decode cL_law 559 = .ok (.aload_n 0, 1) := by decide +kernel
theorem dL_law_560 : decode cL_law 560 = .ok (.iload_n 3, 1) := by decide +kernel
theorem dL_law_561 : decode cL_law 561 = .ok (.iconst 1, 1) := by decide +kernel
theorem dL_law_562 : decode cL_law 562 = .ok (.iadd, 1) := by decide +kernel
theorem dL_law_563 : decode cL_law 563 = .ok (.iaload, 1) := by decide +kernel
theorem dL_law_564 : decode cL_law 564 = .ok (.i2l, 1) := by decide +kernel
theorem dL_law_565 : decode cL_law 565 = .ok (.bipush 32, 2) := by decide +kernel
theorem dL_law_567 : decode cL_law 567 = .ok (.lshl, 1) := by decide +kernel
theorem dL_law_568 : decode cL_law 568 = .ok (.aload_n 0, 1) := by decide +kernel
theorem dL_law_569 : decode cL_law 569 = .ok (.iload_n 3, 1) := by decide +kernel
theorem dL_law_570 : decode cL_law 570 = .ok (.iconst 2, 1) := by decide +kernel
theorem dL_law_571 : decode cL_law 571 = .ok (.iadd, 1) := by decide +kernel
theorem dL_law_572 : decode cL_law 572 = .ok (.iaload, 1) := by decide +kernel
theorem dL_law_573 : decode cL_law 573 = .ok (.i2l, 1) := by decide +kernel
theorem dL_law_574 : decode cL_law 574 = .ok (.ldc2_w 72, 3) := by decide +kernel
theorem dL_law_577 : decode cL_law 577 = .ok (.land, 1) := by decide +kernel
theorem dL_law_578 : decode cL_law 578 = .ok (.lor, 1) := by decide +kernel
theorem dL_law_579 : decode cL_law 579 = .ok (.invokevirtual 78, 3) := by decide +kernel
theorem dL_law_582 : decode cL_law 582 = .ok (.if_icmp .eq 103, 3) := by decide +kernel
theorem dL_law_585 : decode cL_law 585 = .ok (.iconst 0, 1) := by decide +kernel
theorem dL_law_586 : decode cL_law 586 = .ok (.ireturn, 1) := by decide +kernel
theorem dL_law_587 : decode cL_law 587 = .ok (.aload_n 1, 1) := by decide +kernel
theorem dL_law_588 : decode cL_law 588 = .ok (.invokevirtual 79, 3) := by decide +kernel
theorem dL_law_591 : decode cL_law 591 = .ok (.aload_n 2, 1) := by decide +kernel
theorem dL_law_592 : decode cL_law 592 = .ok (.invokevirtual 83, 3) := by decide +kernel
theorem dL_law_595 : decode cL_law 595 = .ok (.if_icmp .eq 90, 3) := by decide +kernel
theorem dL_law_598 : decode cL_law 598 = .ok (.iconst 0, 1) := by decide +kernel
theorem dL_law_599 : decode cL_law 599 = .ok (.ireturn, 1) := by decide +kernel
theorem dL_law_600 : decode cL_law 600 = .ok (.aload_n 1, 1) := by decide +kernel
theorem dL_law_601 : decode cL_law 601 = .ok (.invokevirtual 84, 3) := by decide +kernel
theorem dL_law_604 : decode cL_law 604 = .ok (.aload_n 2, 1) := by decide +kernel
theorem dL_law_605 : decode cL_law 605 = .ok (.invokevirtual 87, 3) := by decide +kernel
theorem dL_law_608 : decode cL_law 608 = .ok (.if_icmp .eq 77, 3) := by decide +kernel
theorem dL_law_611 : decode cL_law 611 = .ok (.iconst 0, 1) := by decide +kernel
theorem dL_law_612 : decode cL_law 612 = .ok (.ireturn, 1) := by decide +kernel
theorem dL_law_613 : decode cL_law 613 = .ok (.aload_n 1, 1) := by decide +kernel
theorem dL_law_614 : decode cL_law 614 = .ok (.invokevirtual 88, 3) := by decide +kernel
theorem dL_law_617 : decode cL_law 617 = .ok (.aload_n 2, 1) := by decide +kernel
theorem dL_law_618 : decode cL_law 618 = .ok (.invokevirtual 91, 3) := by decide +kernel
theorem dL_law_621 : decode cL_law 621 = .ok (.if_icmp .eq 64, 3) := by decide +kernel
theorem dL_law_624 : decode cL_law 624 = .ok (.iconst 0, 1) := by decide +kernel
theorem dL_law_625 : decode cL_law 625 = .ok (.ireturn, 1) := by decide +kernel
theorem dL_law_626 : decode cL_law 626 = .ok (.aload_n 1, 1) := by decide +kernel
theorem dL_law_627 : decode cL_law 627 = .ok (.invokevirtual 92, 3) := by decide +kernel
theorem dL_law_630 : decode cL_law 630 = .ok (.aload_n 2, 1) := by decide +kernel
theorem dL_law_631 : decode cL_law 631 = .ok (.invokevirtual 95, 3) := by decide +kernel
theorem dL_law_634 : decode cL_law 634 = .ok (.if_icmp .eq 51, 3) := by decide +kernel
theorem dL_law_637 : decode cL_law 637 = .ok (.iconst 0, 1) := by decide +kernel
theorem dL_law_638 : decode cL_law 638 = .ok (.ireturn, 1) := by decide +kernel
theorem dL_law_639 : decode cL_law 639 = .ok (.aload_n 1, 1) := by decide +kernel
theorem dL_law_640 : decode cL_law 640 = .ok (.aload_n 0, 1) := by decide +kernel
theorem dL_law_641 : decode cL_law 641 = .ok (.iload_n 3, 1) := by decide +kernel
theorem dL_law_642 : decode cL_law 642 = .ok (.iconst 1, 1) := by decide +kernel
theorem dL_law_643 : decode cL_law 643 = .ok (.iadd, 1) := by decide +kernel
theorem dL_law_644 : decode cL_law 644 = .ok (.iaload, 1) := by decide +kernel
theorem dL_law_645 : decode cL_law 645 = .ok (.invokevirtual 96, 3) := by decide +kernel
theorem dL_law_648 : decode cL_law 648 = .ok (.aload_n 2, 1) := by decide +kernel
theorem dL_law_649 : decode cL_law 649 = .ok (.aload_n 0, 1) := by decide +kernel
theorem dL_law_650 : decode cL_law 650 = .ok (.iload_n 3, 1) := by decide +kernel
theorem dL_law_651 : decode cL_law 651 = .ok (.iconst 1, 1) := by decide +kernel
theorem dL_law_652 : decode cL_law 652 = .ok (.iadd, 1) := by decide +kernel
theorem dL_law_653 : decode cL_law 653 = .ok (.iaload, 1) := by decide +kernel
theorem dL_law_654 : decode cL_law 654 = .ok (.invokevirtual 99, 3) := by decide +kernel
theorem dL_law_657 : decode cL_law 657 = .ok (.if_icmp .eq 28, 3) := by decide +kernel
theorem dL_law_660 : decode cL_law 660 = .ok (.iconst 0, 1) := by decide +kernel
theorem dL_law_661 : decode cL_law 661 = .ok (.ireturn, 1) := by decide +kernel
theorem dL_law_662 : decode cL_law 662 = .ok (.aload_n 1, 1) := by decide +kernel
theorem dL_law_663 : decode cL_law 663 = .ok (.aload_n 0, 1) := by decide +kernel
theorem dL_law_664 : decode cL_law 664 = .ok (.iload_n 3, 1) := by decide +kernel
theorem dL_law_665 : decode cL_law 665 = .ok (.iconst 1, 1) := by decide +kernel
theorem dL_law_666 : decode cL_law 666 = .ok (.iadd, 1) := by decide +kernel
theorem dL_law_667 : decode cL_law 667 = .ok (.iaload, 1) := by decide +kernel
theorem dL_law_668 : decode cL_law 668 = .ok (.invokevirtual 100, 3) := by decide +kernel
theorem dL_law_671 : decode cL_law 671 = .ok (.aload_n 2, 1) := by decide +kernel
theorem dL_law_672 : decode cL_law 672 = .ok (.aload_n 0, 1) := by decide +kernel
theorem dL_law_673 : decode cL_law 673 = .ok (.iload_n 3, 1) := by decide +kernel
theorem dL_law_674 : decode cL_law 674 = .ok (.iconst 1, 1) := by decide +kernel
theorem dL_law_675 : decode cL_law 675 = .ok (.iadd, 1) := by decide +kernel
theorem dL_law_676 : decode cL_law 676 = .ok (.iaload, 1) := by decide +kernel
theorem dL_law_677 : decode cL_law 677 = .ok (.invokevirtual 103, 3) := by decide +kernel
theorem dL_law_680 : decode cL_law 680 = .ok (.if_icmp .eq 5, 3) := by decide +kernel
theorem dL_law_683 : decode cL_law 683 = .ok (.iconst 0, 1) := by decide +kernel
theorem dL_law_684 : decode cL_law 684 = .ok (.ireturn, 1) := by decide +kernel
theorem dL_law_685 : decode cL_law 685 = .ok (.iinc 3 4, 3) := by decide +kernel
theorem dL_law_688 : decode cL_law 688 = .ok (.goto (-670), 3) := by decide +kernel
theorem dL_law_691 : decode cL_law 691 = .ok (.iconst 1, 1) := by decide +kernel
theorem dL_law_692 : decode cL_law 692 = .ok (.ireturn, 1) := by decide +kernel
