theorem dX0_init_0 : decode cX0_init 0 = .ok (.aload_n 0, 1) := by decide +kernel
theorem dX0_init_1 : decode cX0_init 1 = .ok (.invokespecial 3, 3) := by decide +kernel
theorem dX0_init_4 : decode cX0_init 4 = .ok (.aload_n 0, 1) := by decide +kernel
theorem dX0_init_5 : decode cX0_init 5 = .ok (.getstatic 9, 3) := by decide +kernel
theorem dX0_init_8 : decode cX0_init 8 = .ok (.arraylength, 1) := by decide +kernel
theorem dX0_init_9 : decode cX0_init 9 = .ok (.newarray .int, 2) := by decide +kernel
theorem dX0_init_11 : decode cX0_init 11 = .ok (.putfield 13, 3) := by decide +kernel
theorem dX0_init_14 : decode cX0_init 14 = .ok (.aload_n 0, 1) := by decide +kernel
theorem dX0_init_15 : decode cX0_init 15 = .ok (.iconst 3, 1) := by decide +kernel
theorem dX0_init_16 : decode cX0_init 16 = .ok (.anewarray 18, 3) := by decide +kernel
theorem dX0_init_19 : decode cX0_init 19 = .ok (.putfield 20, 3) := by decide +kernel
theorem dX0_init_22 : decode cX0_init 22 = .ok (.aload_n 0, 1) := by decide +kernel
theorem dX0_init_23 : decode cX0_init 23 = .ok (.iconst 0, 1) := by decide +kernel
theorem dX0_init_24 : decode cX0_init 24 = .ok (.putfield 24, 3) := by decide +kernel
theorem dX0_init_27 : decode cX0_init 27 = .ok (.aload_n 0, 1) := by decide +kernel
theorem dX0_init_28 : decode cX0_init 28 = .ok (.iconst 0, 1) := by decide +kernel
theorem dX0_init_29 : decode cX0_init 29 = .ok (.putfield 28, 3) := by decide +kernel
theorem dX0_init_32 : decode cX0_init 32 = .ok (.aload_n 0, 1) := by decide +kernel
theorem dX0_init_33 : decode cX0_init 33 = .ok (.sipush 400, 3) := by decide +kernel
theorem dX0_init_36 : decode cX0_init 36 = .ok (.newarray .int, 2) := by decide +kernel
theorem dX0_init_38 : decode cX0_init 38 = .ok (.putfield 31, 3) := by decide +kernel
theorem dX0_init_41 : decode cX0_init 41 = .ok (.aload_n 0, 1) := by decide +kernel
theorem dX0_init_42 : decode cX0_init 42 = .ok (.sipush 400, 3) := by decide +kernel
theorem dX0_init_45 : decode cX0_init 45 = .ok (.newarray .int, 2) := by decide +kernel
theorem dX0_init_47 : decode cX0_init 47 = .ok (.putfield 34, 3) := by decide +kernel
theorem dX0_init_50 : decode cX0_init 50 = .ok (.aload_n 0, 1) := by decide +kernel
theorem dX0_init_51 : decode cX0_init 51 = .ok (.sipush 400, 3) := by decide +kernel
theorem dX0_init_54 : decode cX0_init 54 = .ok (.newarray .int, 2) := by decide +kernel
theorem dX0_init_56 : decode cX0_init 56 = .ok (.putfield 37, 3) := by decide +kernel
theorem dX0_init_59 : decode cX0_init 59 = .ok (.aload_n 0, 1) := by decide +kernel
theorem dX0_init_60 : decode cX0_init 60 = .ok (.sipush 400, 3) := by decide +kernel
theorem dX0_init_63 : decode cX0_init 63 = .ok (.newarray .int, 2) := by decide +kernel
theorem dX0_init_65 : decode cX0_init 65 = .ok (.putfield 40, 3) := by decide +kernel
theorem dX0_init_68 : decode cX0_init 68 = .ok (.getstatic 9, 3) := by decide +kernel
theorem dX0_init_71 : decode cX0_init 71 = .ok (.iconst 0, 1) := by decide +kernel
theorem dX0_init_72 : decode cX0_init 72 = .ok (.aload_n 0, 1) := by decide +kernel
theorem dX0_init_73 : decode cX0_init 73 = .ok (.getfield 13, 3) := by decide +kernel
theorem dX0_init_76 : decode cX0_init 76 = .ok (.iconst 0, 1) := by decide +kernel
theorem dX0_init_77 : decode cX0_init 77 = .ok (.getstatic 9, 3) := by decide +kernel
theorem dX0_init_80 : decode cX0_init 80 = .ok (.arraylength, 1) := by decide +kernel
theorem dX0_init_81 : decode cX0_init 81 = .ok (.invokestatic 43, 3) := by decide +kernel
theorem dX0_init_84 : decode cX0_init 84 = .ok (.iconst 0, 1) := by decide +kernel
theorem dX0_init_85 : decode cX0_init 85 = .ok (.istore_n 1, 1) := by decide +kernel
theorem dX0_init_86 : decode cX0_init 86 = .ok (.iload_n 1, 1) := by decide +kernel
theorem dX0_init_87 : decode cX0_init 87 = .ok (.iconst 3, 1) := by decide +kernel
theorem dX0_init_88 : decode cX0_init 88 = .ok (.if_icmp .ge 22, 3) := by decide +kernel
theorem dX0_init_91 : decode cX0_init 91 = .ok (.aload_n 0, 1) := by decide +kernel
theorem dX0_init_92 : decode cX0_init 92 = .ok (.getfield 20, 3) := by decide +kernel
theorem dX0_init_95 : decode cX0_init 95 = .ok (.iload_n 1, 1) := by decide +kernel
theorem dX0_init_96 : decode cX0_init 96 = .ok (.new 18, 3) := by decide +kernel
theorem dX0_init_99 : decode cX0_init 99 = .ok (.dup, 1) := by decide +kernel
theorem dX0_init_100 : decode cX0_init 100 = .ok (.invokespecial 49, 3) := by decide +kernel
theorem dX0_init_103 : decode cX0_init 103 = .ok (.aastore, 1) := by decide +kernel
theorem dX0_init_104 : decode cX0_init 104 = .ok (.iinc 1 1, 3) := by decide +kernel
theorem dX0_init_107 : decode cX0_init 107 = .ok (.goto (-21), 3) := by decide +kernel
theorem dX0_init_110 : decode cX0_init 110 = .ok (.return_, 1) := by decide +kernel
theorem dX0_copyFrom_0 : decode cX0_copyFrom 0 = .ok (.aload_n 1, 1) := by decide +kernel
theorem dX0_copyFrom_1 : decode cX0_copyFrom 1 = .ok (.getfield 13, 3) := by decide +kernel
theorem dX0_copyFrom_4 : decode cX0_copyFrom 4 = .ok (.iconst 0, 1) := by decide +kernel
theorem dX0_copyFrom_5 : decode cX0_copyFrom 5 = .ok (.aload_n 0, 1) := by decide +kernel
theorem dX0_copyFrom_6 : decode cX0_copyFrom 6 = .ok (.getfield 13, 3) := by decide +kernel
theorem dX0_copyFrom_9 : decode cX0_copyFrom 9 = .ok (.iconst 0, 1) := by decide +kernel
theorem dX0_copyFrom_10 : decode cX0_copyFrom 10 = .ok (.aload_n 0, 1) := by decide +kernel
theorem dX0_copyFrom_11 : decode cX0_copyFrom 11 = .ok (.getfield 13, 3) := by decide +kernel
theorem dX0_copyFrom_14 : decode cX0_copyFrom 14 = .ok (.arraylength, 1) := by decide +kernel
theorem dX0_copyFrom_15 : decode cX0_copyFrom 15 = .ok (.invokestatic 43, 3) := by decide +kernel
theorem dX0_copyFrom_18 : decode cX0_copyFrom 18 = .ok (.iconst 0, 1) := by decide +kernel
theorem dX0_copyFrom_19 : decode cX0_copyFrom 19 = .ok (.istore_n 2, 1) := by decide +kernel
theorem dX0_copyFrom_20 : decode cX0_copyFrom 20 = .ok (.iload_n 2, 1) := by decide +kernel
theorem dX0_copyFrom_21 : decode cX0_copyFrom 21 = .ok (.iconst 3, 1) := by decide +kernel
theorem dX0_copyFrom_22 : decode cX0_copyFrom 22 = .ok (.if_icmp .ge 24, 3) := by decide +kernel
theorem dX0_copyFrom_25 : decode cX0_copyFrom 25 = .ok (.aload_n 0, 1) := by decide +kernel
theorem dX0_copyFrom_26 : decode cX0_copyFrom 26 = .ok (.getfield 20, 3) := by decide +kernel
theorem dX0_copyFrom_29 : decode cX0_copyFrom 29 = .ok (.iload_n 2, 1) := by decide +kernel
theorem dX0_copyFrom_30 : decode cX0_copyFrom 30 = .ok (.aaload, 1) := by decide +kernel
theorem dX0_copyFrom_31 : decode cX0_copyFrom 31 = .ok (.aload_n 1, 1) := by decide +kernel
theorem dX0_copyFrom_32 : decode cX0_copyFrom 32 = .ok (.getfield 20, 3) := by decide +kernel
theorem dX0_copyFrom_35 : decode cX0_copyFrom 35 = .ok (.iload_n 2, 1) := by decide +kernel
theorem dX0_copyFrom_36 : decode cX0_copyFrom 36 = .ok (.aaload, 1) := by decide +kernel
theorem dX0_copyFrom_37 : decode cX0_copyFrom 37 = .ok (.invokevirtual 50, 3) := by decide +kernel
theorem dX0_copyFrom_40 : decode cX0_copyFrom 40 = .ok (.iinc 2 1, 3) := by decide +kernel
theorem dX0_copyFrom_43 : decode cX0_copyFrom 43 = .ok (.goto (-23), 3) := by decide +kernel
theorem dX0_copyFrom_46 : decode cX0_copyFrom 46 = .ok (.aload_n 0, 1) := by decide +kernel
theorem dX0_copyFrom_47 : decode cX0_copyFrom 47 = .ok (.aload_n 1, 1) := by decide +kernel
theorem dX0_copyFrom_48 : decode cX0_copyFrom 48 = .ok (.getfield 24, 3) := by decide +kernel
theorem dX0_copyFrom_51 : decode cX0_copyFrom 51 = .ok (.putfield 24, 3) := by decide +kernel
theorem dX0_copyFrom_54 : decode cX0_copyFrom 54 = .ok (.aload_n 0, 1) := by decide +kernel
theorem dX0_copyFrom_55 : decode cX0_copyFrom 55 = .ok (.aload_n 1, 1) := by decide +kernel
theorem dX0_copyFrom_56 : decode cX0_copyFrom 56 = .ok (.getfield 28, 3) := by decide +kernel
theorem dX0_copyFrom_59 : decode cX0_copyFrom 59 = .ok (.putfield 28, 3) := by decide +kernel
theorem dX0_copyFrom_62 : decode cX0_copyFrom 62 = .ok (.aload_n 1, 1) := by decide +kernel
theorem dX0_copyFrom_63 : decode cX0_copyFrom 63 = .ok (.getfield 31, 3) := by decide +kernel
theorem dX0_copyFrom_66 : decode cX0_copyFrom 66 = .ok (.iconst 0, 1) := by decide +kernel
theorem dX0_copyFrom_67 : decode cX0_copyFrom 67 = .ok (.aload_n 0, 1) := by decide +kernel
theorem dX0_copyFrom_68 : decode cX0_copyFrom 68 = .ok (.getfield 31, 3) := by decide +kernel
theorem dX0_copyFrom_71 : decode cX0_copyFrom 71 = .ok (.iconst 0, 1) := by decide +kernel
theorem dX0_copyFrom_72 : decode cX0_copyFrom 72 = .ok (.aload_n 0, 1) := by decide +kernel
theorem dX0_copyFrom_73 : decode cX0_copyFrom 73 = .ok (.getfield 28, 3) := by decide +kernel
theorem dX0_copyFrom_76 : decode cX0_copyFrom 76 = .ok (.invokestatic 43, 3) := by decide +kernel
theorem dX0_copyFrom_79 : decode cX0_copyFrom 79 = .ok (.aload_n 1, 1) := by decide +kernel
theorem dX0_copyFrom_80 : decode cX0_copyFrom 80 = .ok (.getfield 34, 3) := by decide +kernel
theorem dX0_copyFrom_83 : decode cX0_copyFrom 83 = .ok (.iconst 0, 1) := by decide +kernel
theorem dX0_copyFrom_84 : decode cX0_copyFrom 84 = .ok (.aload_n 0, 1) := by decide +kernel
theorem dX0_copyFrom_85 : decode cX0_copyFrom 85 = .ok (.getfield 34, 3) := by decide +kernel
theorem dX0_copyFrom_88 : decode cX0_copyFrom 88 = .ok (.iconst 0, 1) := by decide +kernel
theorem dX0_copyFrom_89 : decode cX0_copyFrom 89 = .ok (.aload_n 0, 1) := by decide +kernel
theorem dX0_copyFrom_90 : decode cX0_copyFrom 90 = .ok (.getfield 28, 3) := by decide +kernel
theorem dX0_copyFrom_93 : decode cX0_copyFrom 93 = .ok (.invokestatic 43, 3) := by decide +kernel
theorem dX0_copyFrom_96 : decode cX0_copyFrom 96 = .ok (.aload_n 1, 1) := by decide +kernel
theorem dX0_copyFrom_97 : decode cX0_copyFrom 97 = .ok (.getfield 37, 3) := by decide +kernel
theorem dX0_copyFrom_100 : decode cX0_copyFrom 100 = .ok (.iconst 0, 1) := by decide +kernel
theorem dX0_copyFrom_101 : decode cX0_copyFrom 101 = .ok (.aload_n 0, 1) := by decide +kernel
theorem dX0_copyFrom_102 : decode cX0_copyFrom 102 = .ok (.getfield 37, 3) := by decide +kernel
theorem dX0_copyFrom_105 : decode cX0_copyFrom 105 = .ok (.iconst 0, 1) := by decide +kernel
theorem dX0_copyFrom_106 : decode cX0_copyFrom 106 = .ok (.aload_n 0, 1) := by decide +kernel
theorem dX0_copyFrom_107 : decode cX0_copyFrom 107 = .ok (.getfield 28, 3) := by decide +kernel
theorem dX0_copyFrom_110 : decode cX0_copyFrom 110 = .ok (.invokestatic 43, 3) := by decide +kernel
theorem dX0_copyFrom_113 : decode cX0_copyFrom 113 = .ok (.aload_n 1, 1) := by decide +kernel
theorem dX0_copyFrom_114 : decode cX0_copyFrom 114 = .ok (.getfield 40, 3) := by decide +kernel
theorem dX0_copyFrom_117 : decode cX0_copyFrom 117 = .ok (.iconst 0, 1) := by decide +kernel
theorem dX0_copyFrom_118 : decode cX0_copyFrom 118 = .ok (.aload_n 0, 1) := by decide +kernel
theorem dX0_copyFrom_119 : decode cX0_copyFrom 119 = .ok (.getfield 40, 3) := by decide +kernel
theorem dX0_copyFrom_122 : decode cX0_copyFrom 122 = .ok (.iconst 0, 1) := by decide +kernel
theorem dX0_copyFrom_123 : decode cX0_copyFrom 123 = .ok (.aload_n 0, 1) := by decide +kernel
theorem dX0_copyFrom_124 : decode cX0_copyFrom 124 = .ok (.getfield 28, 3) := by decide +kernel
theorem dX0_copyFrom_127 : decode cX0_copyFrom 127 = .ok (.invokestatic 43, 3) := by decide +kernel
theorem dX0_copyFrom_130 : decode cX0_copyFrom 130 = .ok (.return_, 1) := by decide +kernel
theorem dX0_emptyLike_0 : decode cX0_emptyLike 0 = .ok (.aload_n 1, 1) := by decide +kernel
theorem dX0_emptyLike_1 : decode cX0_emptyLike 1 = .ok (.getfield 13, 3) := by decide +kernel
theorem dX0_emptyLike_4 : decode cX0_emptyLike 4 = .ok (.iconst 0, 1) := by decide +kernel
theorem dX0_emptyLike_5 : decode cX0_emptyLike 5 = .ok (.aload_n 0, 1) := by decide +kernel
theorem dX0_emptyLike_6 : decode cX0_emptyLike 6 = .ok (.getfield 13, 3) := by decide +kernel
theorem dX0_emptyLike_9 : decode cX0_emptyLike 9 = .ok (.iconst 0, 1) := by decide +kernel
theorem dX0_emptyLike_10 : decode cX0_emptyLike 10 = .ok (.aload_n 0, 1) := by decide +kernel
theorem dX0_emptyLike_11 : decode cX0_emptyLike 11 = .ok (.getfield 13, 3) := by decide +kernel
theorem dX0_emptyLike_14 : decode cX0_emptyLike 14 = .ok (.arraylength, 1) := by decide +kernel
theorem dX0_emptyLike_15 : decode cX0_emptyLike 15 = .ok (.invokestatic 43, 3) := by decide +kernel
theorem dX0_emptyLike_18 : decode cX0_emptyLike 18 = .ok (.iconst 0, 1) := by decide +kernel
theorem dX0_emptyLike_19 : decode cX0_emptyLike 19 = .ok (.istore_n 2, 1) := by decide +kernel
theorem dX0_emptyLike_20 : decode cX0_emptyLike 20 = .ok (.iload_n 2, 1) := by decide +kernel
theorem dX0_emptyLike_21 : decode cX0_emptyLike 21 = .ok (.iconst 3, 1) := by decide +kernel
theorem dX0_emptyLike_22 : decode cX0_emptyLike 22 = .ok (.if_icmp .ge 24, 3) := by decide +kernel
theorem dX0_emptyLike_25 : decode cX0_emptyLike 25 = .ok (.aload_n 0, 1) := by decide +kernel
theorem dX0_emptyLike_26 : decode cX0_emptyLike 26 = .ok (.getfield 20, 3) := by decide +kernel
theorem dX0_emptyLike_29 : decode cX0_emptyLike 29 = .ok (.iload_n 2, 1) := by decide +kernel
theorem dX0_emptyLike_30 : decode cX0_emptyLike 30 = .ok (.aaload, 1) := by decide +kernel
theorem dX0_emptyLike_31 : decode cX0_emptyLike 31 = .ok (.aload_n 1, 1) := by decide +kernel
theorem dX0_emptyLike_32 : decode cX0_emptyLike 32 = .ok (.getfield 20, 3) := by decide +kernel
theorem dX0_emptyLike_35 : decode cX0_emptyLike 35 = .ok (.iload_n 2, 1) := by decide +kernel
theorem dX0_emptyLike_36 : decode cX0_emptyLike 36 = .ok (.aaload, 1) := by decide +kernel
theorem dX0_emptyLike_37 : decode cX0_emptyLike 37 = .ok (.invokevirtual 54, 3) := by decide +kernel
theorem dX0_emptyLike_40 : decode cX0_emptyLike 40 = .ok (.iinc 2 1, 3) := by decide +kernel
theorem dX0_emptyLike_43 : decode cX0_emptyLike 43 = .ok (.goto (-23), 3) := by decide +kernel
theorem dX0_emptyLike_46 : decode cX0_emptyLike 46 = .ok (.aload_n 0, 1) := by decide +kernel
theorem dX0_emptyLike_47 : decode cX0_emptyLike 47 = .ok (.iconst 0, 1) := by decide +kernel
theorem dX0_emptyLike_48 : decode cX0_emptyLike 48 = .ok (.putfield 24, 3) := by decide +kernel
theorem dX0_emptyLike_51 : decode cX0_emptyLike 51 = .ok (.aload_n 0, 1) := by decide +kernel
theorem dX0_emptyLike_52 : decode cX0_emptyLike 52 = .ok (.iconst 0, 1) := by decide +kernel
theorem dX0_emptyLike_53 : decode cX0_emptyLike 53 = .ok (.putfield 28, 3) := by decide +kernel
theorem dX0_emptyLike_56 : decode cX0_emptyLike 56 = .ok (.return_, 1) := by decide +kernel
theorem dX0_changeSetting_0 : decode cX0_changeSetting 0 = .ok (.iload_n 1, 1) := by decide +kernel
theorem dX0_changeSetting_1 : decode cX0_changeSetting 1 = .ok (.ifCond .lt 12, 3) := by decide +kernel
theorem dX0_changeSetting_4 : decode cX0_changeSetting 4 = .ok (.iload_n 1, 1) := by decide +kernel
theorem dX0_changeSetting_5 : decode cX0_changeSetting 5 = .ok (.aload_n 0, 1) := by decide +kernel
theorem dX0_changeSetting_6 : decode cX0_changeSetting 6 = .ok (.getfield 13, 3) := by decide +kernel
theorem dX0_changeSetting_9 : decode cX0_changeSetting 9 = .ok (.arraylength, 1) := by decide +kernel
theorem dX0_changeSetting_10 : decode cX0_changeSetting 10 = .ok (.if_icmp .lt 6, 3) := by decide +kernel
theorem dX0_changeSetting_13 : decode cX0_changeSetting 13 = .ok (.bipush (-2), 2) := by decide +kernel
theorem dX0_changeSetting_15 : decode cX0_changeSetting 15 = .ok (.ireturn, 1) := by decide +kernel
theorem dX0_changeSetting_16 : decode cX0_changeSetting 16 = .ok (.iload_n 2, 1) := by decide +kernel
theorem dX0_changeSetting_17 : decode cX0_changeSetting 17 = .ok (.getstatic 57, 3) := by decide +kernel
theorem dX0_changeSetting_20 : decode cX0_changeSetting 20 = .ok (.iload_n 1, 1) := by decide +kernel
theorem dX0_changeSetting_21 : decode cX0_changeSetting 21 = .ok (.iaload, 1) := by decide +kernel
theorem dX0_changeSetting_22 : decode cX0_changeSetting 22 = .ok (.if_icmp .lt 12, 3) := by decide +kernel
theorem dX0_changeSetting_25 : decode cX0_changeSetting 25 = .ok (.iload_n 2, 1) := by decide +kernel
theorem dX0_changeSetting_26 : decode cX0_changeSetting 26 = .ok (.getstatic 60, 3) := by decide +kernel
theorem dX0_changeSetting_29 : decode cX0_changeSetting 29 = .ok (.iload_n 1, 1) := by decide +kernel
theorem dX0_changeSetting_30 : decode cX0_changeSetting 30 = .ok (.iaload, 1) := by decide +kernel
theorem dX0_changeSetting_31 : decode cX0_changeSetting 31 = .ok (.if_icmp .le 6, 3) := by decide +kernel
theorem dX0_changeSetting_34 : decode cX0_changeSetting 34 = .ok (.bipush (-2), 2) := by decide +kernel
theorem dX0_changeSetting_36 : decode cX0_changeSetting 36 = .ok (.ireturn, 1) := by decide +kernel
theorem dX0_changeSetting_37 : decode cX0_changeSetting 37 = .ok (.aload_n 0, 1) := by decide +kernel
theorem dX0_changeSetting_38 : decode cX0_changeSetting 38 = .ok (.getfield 13, 3) := by decide +kernel
theorem dX0_changeSetting_41 : decode cX0_changeSetting 41 = .ok (.iload_n 1, 1) := by decide +kernel
theorem dX0_changeSetting_42 : decode cX0_changeSetting 42 = .ok (.iaload, 1) := by decide +kernel
theorem dX0_changeSetting_43 : decode cX0_changeSetting 43 = .ok (.istore_n 3, 1) := by decide +kernel
theorem dX0_changeSetting_44 : decode cX0_changeSetting 44 = .ok (.aload_n 0, 1) := by decide +kernel
theorem dX0_changeSetting_45 : decode cX0_changeSetting 45 = .ok (.getfield 13, 3) := by decide +kernel
theorem dX0_changeSetting_48 : decode cX0_changeSetting 48 = .ok (.iload_n 1, 1) := by decide +kernel
theorem dX0_changeSetting_49 : decode cX0_changeSetting 49 = .ok (.iload_n 2, 1) := by decide +kernel
theorem dX0_changeSetting_50 : decode cX0_changeSetting 50 = .ok (.iastore, 1) := by decide +kernel
theorem dX0_changeSetting_51 : decode cX0_changeSetting 51 = .ok (.iload_n 3, 1) := by decide +kernel
theorem dX0_changeSetting_52 : decode cX0_changeSetting 52 = .ok (.ireturn, 1) := by decide +kernel
theorem dX0_changeBounds_0 : decode cX0_changeBounds 0 = .ok (.iload_n 1, 1) := by decide +kernel
theorem dX0_changeBounds_1 : decode cX0_changeBounds 1 = .ok (.invokestatic 63, 3) := by decide +kernel
theorem dX0_changeBounds_4 : decode cX0_changeBounds 4 = .ok (.ifCond .ne 5, 3) := by decide +kernel
theorem dX0_changeBounds_7 : decode cX0_changeBounds 7 = .ok (.iconst (-1), 1) := by decide +kernel
theorem dX0_changeBounds_8 : decode cX0_changeBounds 8 = .ok (.ireturn, 1) := by decide +kernel
theorem dX0_changeBounds_9 : decode cX0_changeBounds 9 = .ok (.iload_n 2, 1) := by decide +kernel
theorem dX0_changeBounds_10 : decode cX0_changeBounds 10 = .ok (.iconst 1, 1) := by decide +kernel
theorem dX0_changeBounds_11 : decode cX0_changeBounds 11 = .ok (.if_icmp .lt 20, 3) := by decide +kernel
theorem dX0_changeBounds_14 : decode cX0_changeBounds 14 = .ok (.iload_n 2, 1) := by decide +kernel
theorem dX0_changeBounds_15 : decode cX0_changeBounds 15 = .ok (.bipush 32, 2) := by decide +kernel
theorem dX0_changeBounds_17 : decode cX0_changeBounds 17 = .ok (.if_icmp .gt 14, 3) := by decide +kernel
theorem dX0_changeBounds_20 : decode cX0_changeBounds 20 = .ok (.iload_n 3, 1) := by decide +kernel
theorem dX0_changeBounds_21 : decode cX0_changeBounds 21 = .ok (.iconst 1, 1) := by decide +kernel
theorem dX0_changeBounds_22 : decode cX0_changeBounds 22 = .ok (.if_icmp .lt 9, 3) := by decide +kernel
theorem dX0_changeBounds_25 : decode cX0_changeBounds 25 = .ok (.iload_n 3, 1) := by decide +kernel
theorem dX0_changeBounds_26 : decode cX0_changeBounds 26 = .ok (.bipush 99, 2) := by decide +kernel
theorem dX0_changeBounds_28 : decode cX0_changeBounds 28 = .ok (.if_icmp .le 6, 3) := by decide +kernel
theorem dX0_changeBounds_31 : decode cX0_changeBounds 31 = .ok (.bipush (-2), 2) := by decide +kernel
theorem dX0_changeBounds_33 : decode cX0_changeBounds 33 = .ok (.ireturn, 1) := by decide +kernel
theorem dX0_changeBounds_34 : decode cX0_changeBounds 34 = .ok (.aload_n 0, 1) := by decide +kernel
theorem dX0_changeBounds_35 : decode cX0_changeBounds 35 = .ok (.getfield 20, 3) := by decide +kernel
theorem dX0_changeBounds_38 : decode cX0_changeBounds 38 = .ok (.iload_n 1, 1) := by decide +kernel
theorem dX0_changeBounds_39 : decode cX0_changeBounds 39 = .ok (.aaload, 1) := by decide +kernel
theorem dX0_changeBounds_40 : decode cX0_changeBounds 40 = .ok (.astore 4, 2) := by decide +kernel
theorem dX0_changeBounds_42 : decode cX0_changeBounds 42 = .ok (.aload 4, 2) := by decide +kernel
theorem dX0_changeBounds_44 : decode cX0_changeBounds 44 = .ok (.getfield 67, 3) := by decide +kernel
theorem dX0_changeBounds_47 : decode cX0_changeBounds 47 = .ok (.istore 5, 2) := by decide +kernel
theorem dX0_changeBounds_49 : decode cX0_changeBounds 49 = .ok (.aload 4, 2) := by decide +kernel
theorem dX0_changeBounds_51 : decode cX0_changeBounds 51 = .ok (.iload_n 2, 1) := by decide +kernel
theorem dX0_changeBounds_52 : decode cX0_changeBounds 52 = .ok (.putfield 67, 3) := by decide +kernel
theorem dX0_changeBounds_55 : decode cX0_changeBounds 55 = .ok (.aload 4, 2) := by decide +kernel
theorem dX0_changeBounds_57 : decode cX0_changeBounds 57 = .ok (.iload_n 3, 1) := by decide +kernel
theorem dX0_changeBounds_58 : decode cX0_changeBounds 58 = .ok (.putfield 70, 3) := by decide +kernel
theorem dX0_changeBounds_61 : decode cX0_changeBounds 61 = .ok (.aload 4, 2) := by decide +kernel
theorem dX0_changeBounds_63 : decode cX0_changeBounds 63 = .ok (.iload_n 2, 1) := by decide +kernel
theorem dX0_changeBounds_64 : decode cX0_changeBounds 64 = .ok (.putfield 73, 3) := by decide +kernel
theorem dX0_changeBounds_67 : decode cX0_changeBounds 67 = .ok (.iload 5, 2) := by decide +kernel
theorem dX0_changeBounds_69 : decode cX0_changeBounds 69 = .ok (.ireturn, 1) := by decide +kernel
theorem dX0_receive_0 : decode cX0_receive 0 = .ok (.iload_n 1, 1) := by decide +kernel
theorem dX0_receive_1 : decode cX0_receive 1 = .ok (.ifCond .lt 9, 3) := by decide +kernel
theorem dX0_receive_4 : decode cX0_receive 4 = .ok (.iload_n 1, 1) := by decide +kernel
theorem dX0_receive_5 : decode cX0_receive 5 = .ok (.bipush 99, 2) := by decide +kernel
theorem dX0_receive_7 : decode cX0_receive 7 = .ok (.if_icmp .le 6, 3) := by decide +kernel
theorem dX0_receive_10 : decode cX0_receive 10 = .ok (.bipush (-2), 2) := by decide +kernel
theorem dX0_receive_12 : decode cX0_receive 12 = .ok (.ireturn, 1) := by decide +kernel
theorem dX0_receive_13 : decode cX0_receive 13 = .ok (.aload_n 0, 1) := by decide +kernel
theorem dX0_receive_14 : decode cX0_receive 14 = .ok (.getfield 28, 3) := by decide +kernel
theorem dX0_receive_17 : decode cX0_receive 17 = .ok (.sipush 400, 3) := by decide +kernel
theorem dX0_receive_20 : decode cX0_receive 20 = .ok (.if_icmp .lt 6, 3) := by decide +kernel
theorem dX0_receive_23 : decode cX0_receive 23 = .ok (.bipush (-4), 2) := by decide +kernel
theorem dX0_receive_25 : decode cX0_receive 25 = .ok (.ireturn, 1) := by decide +kernel
theorem dX0_receive_26 : decode cX0_receive 26 = .ok (.aload_n 0, 1) := by decide +kernel
theorem dX0_receive_27 : decode cX0_receive 27 = .ok (.getfield 28, 3) := by decide +kernel
theorem dX0_receive_30 : decode cX0_receive 30 = .ok (.istore_n 2, 1) := by decide +kernel
theorem dX0_receive_31 : decode cX0_receive 31 = .ok (.aload_n 0, 1) := by decide +kernel
theorem dX0_receive_32 : decode cX0_receive 32 = .ok (.dup, 1) := by decide +kernel
theorem dX0_receive_33 : decode cX0_receive 33 = .ok (.getfield 28, 3) := by decide +kernel
theorem dX0_receive_36 : decode cX0_receive 36 = .ok (.iconst 1, 1) := by decide +kernel
theorem dX0_receive_37 : decode cX0_receive 37 = .ok (.iadd, 1) := by decide +kernel
theorem dX0_receive_38 : decode cX0_receive 38 = .ok (.putfield 28, 3) := by decide +kernel
theorem dX0_receive_41 : decode cX0_receive 41 = .ok (.aload_n 0, 1) := by decide +kernel
theorem dX0_receive_42 : decode cX0_receive 42 = .ok (.getfield 31, 3) := by decide +kernel
theorem dX0_receive_45 : decode cX0_receive 45 = .ok (.iload_n 2, 1) := by decide +kernel
theorem dX0_receive_46 : decode cX0_receive 46 = .ok (.iload_n 1, 1) := by decide +kernel
theorem dX0_receive_47 : decode cX0_receive 47 = .ok (.iastore, 1) := by decide +kernel
theorem dX0_receive_48 : decode cX0_receive 48 = .ok (.aload_n 0, 1) := by decide +kernel
theorem dX0_receive_49 : decode cX0_receive 49 = .ok (.getfield 34, 3) := by decide +kernel
theorem dX0_receive_52 : decode cX0_receive 52 = .ok (.iload_n 2, 1) := by decide +kernel
theorem dX0_receive_53 : decode cX0_receive 53 = .ok (.aload_n 0, 1) := by decide +kernel
theorem dX0_receive_54 : decode cX0_receive 54 = .ok (.getfield 24, 3) := by decide +kernel
theorem dX0_receive_57 : decode cX0_receive 57 = .ok (.iastore, 1) := by decide +kernel
theorem dX0_receive_58 : decode cX0_receive 58 = .ok (.aload_n 0, 1) := by decide +kernel
theorem dX0_receive_59 : decode cX0_receive 59 = .ok (.getfield 20, 3) := by decide +kernel
theorem dX0_receive_62 : decode cX0_receive 62 = .ok (.iload_n 1, 1) := by decide +kernel
theorem dX0_receive_63 : decode cX0_receive 63 = .ok (.iconst 3, 1) := by decide +kernel
theorem dX0_receive_64 : decode cX0_receive 64 = .ok (.irem, 1) := by decide +kernel
theorem dX0_receive_65 : decode cX0_receive 65 = .ok (.aaload, 1) := by decide +kernel
theorem dX0_receive_66 : decode cX0_receive 66 = .ok (.astore_n 3, 1) := by decide +kernel
theorem dX0_receive_67 : decode cX0_receive 67 = .ok (.aload_n 3, 1) := by decide +kernel
theorem dX0_receive_68 : decode cX0_receive 68 = .ok (.getfield 76, 3) := by decide +kernel
theorem dX0_receive_71 : decode cX0_receive 71 = .ok (.aload_n 0, 1) := by decide +kernel
theorem dX0_receive_72 : decode cX0_receive 72 = .ok (.getfield 13, 3) := by decide +kernel
theorem dX0_receive_75 : decode cX0_receive 75 = .ok (.iconst 0, 1) := by decide +kernel
theorem dX0_receive_76 : decode cX0_receive 76 = .ok (.iaload, 1) := by decide +kernel
theorem dX0_receive_77 : decode cX0_receive 77 = .ok (.if_icmp .lt 22, 3) := by decide +kernel
theorem dX0_receive_80 : decode cX0_receive 80 = .ok (.aload_n 0, 1) := by decide +kernel
theorem dX0_receive_81 : decode cX0_receive 81 = .ok (.getfield 37, 3) := by decide +kernel
theorem dX0_receive_84 : decode cX0_receive 84 = .ok (.iload_n 2, 1) := by decide +kernel
theorem dX0_receive_85 : decode cX0_receive 85 = .ok (.iconst 2, 1) := by decide +kernel
theorem dX0_receive_86 : decode cX0_receive 86 = .ok (.iastore, 1) := by decide +kernel
theorem dX0_receive_87 : decode cX0_receive 87 = .ok (.aload_n 3, 1) := by decide +kernel
theorem dX0_receive_88 : decode cX0_receive 88 = .ok (.dup, 1) := by decide +kernel
theorem dX0_receive_89 : decode cX0_receive 89 = .ok (.getfield 79, 3) := by decide +kernel
theorem dX0_receive_92 : decode cX0_receive 92 = .ok (.iconst 1, 1) := by decide +kernel
theorem dX0_receive_93 : decode cX0_receive 93 = .ok (.iadd, 1) := by decide +kernel
theorem dX0_receive_94 : decode cX0_receive 94 = .ok (.putfield 79, 3) := by decide +kernel
theorem dX0_receive_97 : decode cX0_receive 97 = .ok (.iload_n 2, 1) := by decide +kernel
theorem dX0_receive_98 : decode cX0_receive 98 = .ok (.ireturn, 1) := by decide +kernel
theorem dX0_receive_99 : decode cX0_receive 99 = .ok (.aload_n 0, 1) := by decide +kernel
theorem dX0_receive_100 : decode cX0_receive 100 = .ok (.getfield 37, 3) := by decide +kernel
theorem dX0_receive_103 : decode cX0_receive 103 = .ok (.iload_n 2, 1) := by decide +kernel
theorem dX0_receive_104 : decode cX0_receive 104 = .ok (.iconst 0, 1) := by decide +kernel
theorem dX0_receive_105 : decode cX0_receive 105 = .ok (.iastore, 1) := by decide +kernel
theorem dX0_receive_106 : decode cX0_receive 106 = .ok (.aload_n 3, 1) := by decide +kernel
theorem dX0_receive_107 : decode cX0_receive 107 = .ok (.dup, 1) := by decide +kernel
theorem dX0_receive_108 : decode cX0_receive 108 = .ok (.getfield 76, 3) := by decide +kernel
theorem dX0_receive_111 : decode cX0_receive 111 = .ok (.iconst 1, 1) := by decide +kernel
theorem dX0_receive_112 : decode cX0_receive 112 = .ok (.iadd, 1) := by decide +kernel
theorem dX0_receive_113 : decode cX0_receive 113 = .ok (.putfield 76, 3) := by decide +kernel
theorem dX0_receive_116 : decode cX0_receive 116 = .ok (.aload_n 3, 1) := by decide +kernel
theorem dX0_receive_117 : decode cX0_receive 117 = .ok (.getfield 82, 3) := by decide +kernel
theorem dX0_receive_120 : decode cX0_receive 120 = .ok (.bipush (-6), 2) := by decide +kernel
theorem dX0_receive_122 : decode cX0_receive 122 = .ok (.if_icmp .ne 8, 3) := by decide +kernel
theorem dX0_receive_125 : decode cX0_receive 125 = .ok (.aload_n 3, 1) := by decide +kernel
theorem dX0_receive_126 : decode cX0_receive 126 = .ok (.iload_n 2, 1) := by decide +kernel
theorem dX0_receive_127 : decode cX0_receive 127 = .ok (.putfield 82, 3) := by decide +kernel
theorem dX0_receive_130 : decode cX0_receive 130 = .ok (.iload_n 2, 1) := by decide +kernel
theorem dX0_receive_131 : decode cX0_receive 131 = .ok (.ireturn, 1) := by decide +kernel
theorem dX0_changeMask_0 : decode cX0_changeMask 0 = .ok (.iload_n 1, 1) := by decide +kernel
theorem dX0_changeMask_1 : decode cX0_changeMask 1 = .ok (.invokestatic 63, 3) := by decide +kernel
theorem dX0_changeMask_4 : decode cX0_changeMask 4 = .ok (.ifCond .ne 5, 3) := by decide +kernel
theorem dX0_changeMask_7 : decode cX0_changeMask 7 = .ok (.iconst (-1), 1) := by decide +kernel
theorem dX0_changeMask_8 : decode cX0_changeMask 8 = .ok (.ireturn, 1) := by decide +kernel
theorem dX0_changeMask_9 : decode cX0_changeMask 9 = .ok (.aload_n 0, 1) := by decide +kernel
theorem dX0_changeMask_10 : decode cX0_changeMask 10 = .ok (.getfield 20, 3) := by decide +kernel
theorem dX0_changeMask_13 : decode cX0_changeMask 13 = .ok (.iload_n 1, 1) := by decide +kernel
theorem dX0_changeMask_14 : decode cX0_changeMask 14 = .ok (.aaload, 1) := by decide +kernel
theorem dX0_changeMask_15 : decode cX0_changeMask 15 = .ok (.astore_n 2, 1) := by decide +kernel
theorem dX0_changeMask_16 : decode cX0_changeMask 16 = .ok (.aload_n 2, 1) := by decide +kernel
theorem dX0_changeMask_17 : decode cX0_changeMask 17 = .ok (.aload_n 2, 1) := by decide +kernel
theorem dX0_changeMask_18 : decode cX0_changeMask 18 = .ok (.getfield 85, 3) := by decide +kernel
theorem dX0_changeMask_21 : decode cX0_changeMask 21 = .ok (.ifCond .ne 7, 3) := by decide +kernel
theorem dX0_changeMask_24 : decode cX0_changeMask 24 = .ok (.iconst 1, 1) := by decide +kernel
theorem dX0_changeMask_25 : decode cX0_changeMask 25 = .ok (.goto 4, 3) := by decide +kernel
theorem dX0_changeMask_28 : decode cX0_changeMask 28 = .ok (.iconst 0, 1) := by decide +kernel
theorem dX0_changeMask_29 : decode cX0_changeMask 29 = .ok (.putfield 85, 3) := by decide +kernel
theorem dX0_changeMask_32 : decode cX0_changeMask 32 = .ok (.aload_n 2, 1) := by decide +kernel
theorem dX0_changeMask_33 : decode cX0_changeMask 33 = .ok (.getfield 85, 3) := by decide +kernel
theorem dX0_changeMask_36 : decode cX0_changeMask 36 = .ok (.ifCond .eq 7, 3) := by decide +kernel
theorem dX0_changeMask_39 : decode cX0_changeMask 39 = .ok (.iconst 1, 1) := by decide +kernel
theorem dX0_changeMask_40 : decode cX0_changeMask 40 = .ok (.goto 4, 3) := by decide +kernel
theorem dX0_changeMask_43 : decode cX0_changeMask 43 = .ok (.iconst 0, 1) := by decide +kernel
theorem dX0_changeMask_44 : decode cX0_changeMask 44 = .ok (.ireturn, 1) := by decide +kernel
theorem dX0_callByHand_0 : decode cX0_callByHand 0 = .ok (.iload_n 1, 1) := by decide +kernel
theorem dX0_callByHand_1 : decode cX0_callByHand 1 = .ok (.invokestatic 63, 3) := by decide +kernel
theorem dX0_callByHand_4 : decode cX0_callByHand 4 = .ok (.ifCond .ne 5, 3) := by decide +kernel
theorem dX0_callByHand_7 : decode cX0_callByHand 7 = .ok (.iconst (-1), 1) := by decide +kernel
theorem dX0_callByHand_8 : decode cX0_callByHand 8 = .ok (.ireturn, 1) := by decide +kernel
theorem dX0_callByHand_9 : decode cX0_callByHand 9 = .ok (.aload_n 0, 1) := by decide +kernel
theorem dX0_callByHand_10 : decode cX0_callByHand 10 = .ok (.getfield 20, 3) := by decide +kernel
theorem dX0_callByHand_13 : decode cX0_callByHand 13 = .ok (.iload_n 1, 1) := by decide +kernel
theorem dX0_callByHand_14 : decode cX0_callByHand 14 = .ok (.aaload, 1) := by decide +kernel
theorem dX0_callByHand_15 : decode cX0_callByHand 15 = .ok (.astore_n 2, 1) := by decide +kernel
theorem dX0_callByHand_16 : decode cX0_callByHand 16 = .ok (.aload_n 2, 1) := by decide +kernel
theorem dX0_callByHand_17 : decode cX0_callByHand 17 = .ok (.invokevirtual 89, 3) := by decide +kernel
theorem dX0_callByHand_20 : decode cX0_callByHand 20 = .ok (.ifCond .ne 10, 3) := by decide +kernel
theorem dX0_callByHand_23 : decode cX0_callByHand 23 = .ok (.aload_n 2, 1) := by decide +kernel
theorem dX0_callByHand_24 : decode cX0_callByHand 24 = .ok (.getfield 76, 3) := by decide +kernel
theorem dX0_callByHand_27 : decode cX0_callByHand 27 = .ok (.ifCond .ne 6, 3) := by decide +kernel
theorem dX0_callByHand_30 : decode cX0_callByHand 30 = .ok (.bipush (-5), 2) := by decide +kernel
theorem dX0_callByHand_32 : decode cX0_callByHand 32 = .ok (.ireturn, 1) := by decide +kernel
theorem dX0_callByHand_33 : decode cX0_callByHand 33 = .ok (.aload_n 0, 1) := by decide +kernel
theorem dX0_callByHand_34 : decode cX0_callByHand 34 = .ok (.aload_n 2, 1) := by decide +kernel
theorem dX0_callByHand_35 : decode cX0_callByHand 35 = .ok (.invokevirtual 93, 3) := by decide +kernel
theorem dX0_callByHand_38 : decode cX0_callByHand 38 = .ok (.aload_n 2, 1) := by decide +kernel
theorem dX0_callByHand_39 : decode cX0_callByHand 39 = .ok (.getfield 96, 3) := by decide +kernel
theorem dX0_callByHand_42 : decode cX0_callByHand 42 = .ok (.ireturn, 1) := by decide +kernel
theorem dX0_passTicks_0 : decode cX0_passTicks 0 = .ok (.iload_n 1, 1) := by decide +kernel
theorem dX0_passTicks_1 : decode cX0_passTicks 1 = .ok (.iconst 1, 1) := by decide +kernel
theorem dX0_passTicks_2 : decode cX0_passTicks 2 = .ok (.if_icmp .lt 9, 3) := by decide +kernel
theorem dX0_passTicks_5 : decode cX0_passTicks 5 = .ok (.iload_n 1, 1) := by decide +kernel
theorem dX0_passTicks_6 : decode cX0_passTicks 6 = .ok (.bipush 99, 2) := by decide +kernel
theorem dX0_passTicks_8 : decode cX0_passTicks 8 = .ok (.if_icmp .le 6, 3) := by decide +kernel
theorem dX0_passTicks_11 : decode cX0_passTicks 11 = .ok (.bipush (-2), 2) := by decide +kernel
theorem dX0_passTicks_13 : decode cX0_passTicks 13 = .ok (.ireturn, 1) := by decide +kernel
theorem dX0_passTicks_14 : decode cX0_passTicks 14 = .ok (.aload_n 0, 1) := by decide +kernel
theorem dX0_passTicks_15 : decode cX0_passTicks 15 = .ok (.getfield 24, 3) := by decide +kernel
theorem dX0_passTicks_18 : decode cX0_passTicks 18 = .ok (.iload_n 1, 1) := by decide +kernel
theorem dX0_passTicks_19 : decode cX0_passTicks 19 = .ok (.iadd, 1) := by decide +kernel
theorem dX0_passTicks_20 : decode cX0_passTicks 20 = .ok (.sipush 9999, 3) := by decide +kernel
theorem dX0_passTicks_23 : decode cX0_passTicks 23 = .ok (.if_icmp .le 6, 3) := by decide +kernel
theorem dX0_passTicks_26 : decode cX0_passTicks 26 = .ok (.bipush (-5), 2) := by decide +kernel
theorem dX0_passTicks_28 : decode cX0_passTicks 28 = .ok (.ireturn, 1) := by decide +kernel
theorem dX0_passTicks_29 : decode cX0_passTicks 29 = .ok (.aload_n 0, 1) := by decide +kernel
theorem dX0_passTicks_30 : decode cX0_passTicks 30 = .ok (.iload_n 1, 1) := by decide +kernel
theorem dX0_passTicks_31 : decode cX0_passTicks 31 = .ok (.invokevirtual 99, 3) := by decide +kernel
theorem dX0_passTicks_34 : decode cX0_passTicks 34 = .ok (.ireturn, 1) := by decide +kernel
theorem dX0_runTicks_0 : decode cX0_runTicks 0 = .ok (.iconst 0, 1) := by decide +kernel
theorem dX0_runTicks_1 : decode cX0_runTicks 1 = .ok (.istore_n 2, 1) := by decide +kernel
theorem dX0_runTicks_2 : decode cX0_runTicks 2 = .ok (.iconst 0, 1) := by decide +kernel
theorem dX0_runTicks_3 : decode cX0_runTicks 3 = .ok (.istore_n 3, 1) := by decide +kernel
theorem dX0_runTicks_4 : decode cX0_runTicks 4 = .ok (.iload_n 3, 1) := by decide +kernel
theorem dX0_runTicks_5 : decode cX0_runTicks 5 = .ok (.iload_n 1, 1) := by decide +kernel
theorem dX0_runTicks_6 : decode cX0_runTicks 6 = .ok (.if_icmp .ge 16, 3) := by decide +kernel
theorem dX0_runTicks_9 : decode cX0_runTicks 9 = .ok (.iload_n 2, 1) := by decide +kernel
theorem dX0_runTicks_10 : decode cX0_runTicks 10 = .ok (.aload_n 0, 1) := by decide +kernel
theorem dX0_runTicks_11 : decode cX0_runTicks 11 = .ok (.invokevirtual 103, 3) := by decide +kernel
theorem dX0_runTicks_14 : decode cX0_runTicks 14 = .ok (.iadd, 1) := by decide +kernel
theorem dX0_runTicks_15 : decode cX0_runTicks 15 = .ok (.istore_n 2, 1) := by decide +kernel
theorem dX0_runTicks_16 : decode cX0_runTicks 16 = .ok (.iinc 3 1, 3) := by decide +kernel
theorem dX0_runTicks_19 : decode cX0_runTicks 19 = .ok (.goto (-15), 3) := by decide +kernel
theorem dX0_runTicks_22 : decode cX0_runTicks 22 = .ok (.iload_n 2, 1) := by decide +kernel
theorem dX0_runTicks_23 : decode cX0_runTicks 23 = .ok (.ireturn, 1) := by decide +kernel
theorem dX0_tick_0 : decode cX0_tick 0 = .ok (.aload_n 0, 1) := by decide +kernel
theorem dX0_tick_1 : decode cX0_tick 1 = .ok (.invokevirtual 107, 3) := by decide +kernel
theorem dX0_tick_4 : decode cX0_tick 4 = .ok (.istore_n 1, 1) := by decide +kernel
theorem dX0_tick_5 : decode cX0_tick 5 = .ok (.iconst 0, 1) := by decide +kernel
theorem dX0_tick_6 : decode cX0_tick 6 = .ok (.istore_n 2, 1) := by decide +kernel
theorem dX0_tick_7 : decode cX0_tick 7 = .ok (.iload_n 2, 1) := by decide +kernel
theorem dX0_tick_8 : decode cX0_tick 8 = .ok (.iconst 3, 1) := by decide +kernel
theorem dX0_tick_9 : decode cX0_tick 9 = .ok (.if_icmp .ge 32, 3) := by decide +kernel
theorem dX0_tick_12 : decode cX0_tick 12 = .ok (.aload_n 0, 1) := by decide +kernel
theorem dX0_tick_13 : decode cX0_tick 13 = .ok (.aload_n 0, 1) := by decide +kernel
theorem dX0_tick_14 : decode cX0_tick 14 = .ok (.getfield 20, 3) := by decide +kernel
theorem dX0_tick_17 : decode cX0_tick 17 = .ok (.iload_n 2, 1) := by decide +kernel
theorem dX0_tick_18 : decode cX0_tick 18 = .ok (.aaload, 1) := by decide +kernel
theorem dX0_tick_19 : decode cX0_tick 19 = .ok (.invokevirtual 110, 3) := by decide +kernel
theorem dX0_tick_22 : decode cX0_tick 22 = .ok (.ifCond .ne 13, 3) := by decide +kernel
theorem dX0_tick_25 : decode cX0_tick 25 = .ok (.aload_n 0, 1) := by decide +kernel
theorem dX0_tick_26 : decode cX0_tick 26 = .ok (.aload_n 0, 1) := by decide +kernel
theorem dX0_tick_27 : decode cX0_tick 27 = .ok (.getfield 20, 3) := by decide +kernel
theorem dX0_tick_30 : decode cX0_tick 30 = .ok (.iload_n 2, 1) := by decide +kernel
theorem dX0_tick_31 : decode cX0_tick 31 = .ok (.aaload, 1) := by decide +kernel
theorem dX0_tick_32 : decode cX0_tick 32 = .ok (.invokevirtual 93, 3) := by decide +kernel
theorem dX0_tick_35 : decode cX0_tick 35 = .ok (.iinc 2 1, 3) := by decide +kernel
theorem dX0_tick_38 : decode cX0_tick 38 = .ok (.goto (-31), 3) := by decide +kernel
theorem dX0_tick_41 : decode cX0_tick 41 = .ok (.aload_n 0, 1) := by decide +kernel
theorem dX0_tick_42 : decode cX0_tick 42 = .ok (.dup, 1) := by decide +kernel
theorem dX0_tick_43 : decode cX0_tick 43 = .ok (.getfield 24, 3) := by decide +kernel
theorem dX0_tick_46 : decode cX0_tick 46 = .ok (.iconst 1, 1) := by decide +kernel
theorem dX0_tick_47 : decode cX0_tick 47 = .ok (.iadd, 1) := by decide +kernel
theorem dX0_tick_48 : decode cX0_tick 48 = .ok (.putfield 24, 3) := by decide +kernel
theorem dX0_tick_51 : decode cX0_tick 51 = .ok (.iload_n 1, 1) := by decide +kernel
theorem dX0_tick_52 : decode cX0_tick 52 = .ok (.ireturn, 1) := by decide +kernel
theorem dX0_poll_0 : decode cX0_poll 0 = .ok (.aload_n 0, 1) := by decide +kernel
theorem dX0_poll_1 : decode cX0_poll 1 = .ok (.iconst 0, 1) := by decide +kernel
theorem dX0_poll_2 : decode cX0_poll 2 = .ok (.invokevirtual 114, 3) := by decide +kernel
theorem dX0_poll_5 : decode cX0_poll 5 = .ok (.istore_n 1, 1) := by decide +kernel
theorem dX0_poll_6 : decode cX0_poll 6 = .ok (.iload_n 1, 1) := by decide +kernel
theorem dX0_poll_7 : decode cX0_poll 7 = .ok (.invokestatic 63, 3) := by decide +kernel
theorem dX0_poll_10 : decode cX0_poll 10 = .ok (.ifCond .ne 5, 3) := by decide +kernel
theorem dX0_poll_13 : decode cX0_poll 13 = .ok (.iconst 0, 1) := by decide +kernel
theorem dX0_poll_14 : decode cX0_poll 14 = .ok (.ireturn, 1) := by decide +kernel
theorem dX0_poll_15 : decode cX0_poll 15 = .ok (.aload_n 0, 1) := by decide +kernel
theorem dX0_poll_16 : decode cX0_poll 16 = .ok (.getfield 20, 3) := by decide +kernel
theorem dX0_poll_19 : decode cX0_poll 19 = .ok (.iload_n 1, 1) := by decide +kernel
theorem dX0_poll_20 : decode cX0_poll 20 = .ok (.aaload, 1) := by decide +kernel
theorem dX0_poll_21 : decode cX0_poll 21 = .ok (.astore_n 2, 1) := by decide +kernel
theorem dX0_poll_22 : decode cX0_poll 22 = .ok (.iconst 0, 1) := by decide +kernel
theorem dX0_poll_23 : decode cX0_poll 23 = .ok (.istore_n 3, 1) := by decide +kernel
theorem dX0_poll_24 : decode cX0_poll 24 = .ok (.iload_n 3, 1) := by decide +kernel
theorem dX0_poll_25 : decode cX0_poll 25 = .ok (.aload_n 0, 1) := by decide +kernel
theorem dX0_poll_26 : decode cX0_poll 26 = .ok (.getfield 13, 3) := by decide +kernel
theorem dX0_poll_29 : decode cX0_poll 29 = .ok (.iconst 1, 1) := by decide +kernel
theorem dX0_poll_30 : decode cX0_poll 30 = .ok (.iaload, 1) := by decide +kernel
theorem dX0_poll_31 : decode cX0_poll 31 = .ok (.if_icmp .ge 26, 3) := by decide +kernel
theorem dX0_poll_34 : decode cX0_poll 34 = .ok (.aload_n 0, 1) := by decide +kernel
theorem dX0_poll_35 : decode cX0_poll 35 = .ok (.aload_n 2, 1) := by decide +kernel
theorem dX0_poll_36 : decode cX0_poll 36 = .ok (.getfield 82, 3) := by decide +kernel
theorem dX0_poll_39 : decode cX0_poll 39 = .ok (.invokevirtual 117, 3) := by decide +kernel
theorem dX0_poll_42 : decode cX0_poll 42 = .ok (.ifCond .eq 15, 3) := by decide +kernel
theorem dX0_poll_45 : decode cX0_poll 45 = .ok (.aload_n 0, 1) := by decide +kernel
theorem dX0_poll_46 : decode cX0_poll 46 = .ok (.aload_n 2, 1) := by decide +kernel
theorem dX0_poll_47 : decode cX0_poll 47 = .ok (.iload_n 1, 1) := by decide +kernel
theorem dX0_poll_48 : decode cX0_poll 48 = .ok (.invokevirtual 120, 3) := by decide +kernel
theorem dX0_poll_51 : decode cX0_poll 51 = .ok (.iinc 3 1, 3) := by decide +kernel
theorem dX0_poll_54 : decode cX0_poll 54 = .ok (.goto (-30), 3) := by decide +kernel
theorem dX0_poll_57 : decode cX0_poll 57 = .ok (.aload_n 0, 1) := by decide +kernel
theorem dX0_poll_58 : decode cX0_poll 58 = .ok (.aload_n 2, 1) := by decide +kernel
theorem dX0_poll_59 : decode cX0_poll 59 = .ok (.invokevirtual 124, 3) := by decide +kernel
theorem dX0_poll_62 : decode cX0_poll 62 = .ok (.iload_n 3, 1) := by decide +kernel
theorem dX0_poll_63 : decode cX0_poll 63 = .ok (.aload_n 0, 1) := by decide +kernel
theorem dX0_poll_64 : decode cX0_poll 64 = .ok (.getfield 13, 3) := by decide +kernel
theorem dX0_poll_67 : decode cX0_poll 67 = .ok (.iconst 1, 1) := by decide +kernel
theorem dX0_poll_68 : decode cX0_poll 68 = .ok (.iaload, 1) := by decide +kernel
theorem dX0_poll_69 : decode cX0_poll 69 = .ok (.if_icmp .ge 25, 3) := by decide +kernel
theorem dX0_poll_72 : decode cX0_poll 72 = .ok (.aload_n 2, 1) := by decide +kernel
theorem dX0_poll_73 : decode cX0_poll 73 = .ok (.aload_n 0, 1) := by decide +kernel
theorem dX0_poll_74 : decode cX0_poll 74 = .ok (.getfield 13, 3) := by decide +kernel
theorem dX0_poll_77 : decode cX0_poll 77 = .ok (.iconst 2, 1) := by decide +kernel
theorem dX0_poll_78 : decode cX0_poll 78 = .ok (.iaload, 1) := by decide +kernel
theorem dX0_poll_79 : decode cX0_poll 79 = .ok (.iconst 1, 1) := by decide +kernel
theorem dX0_poll_80 : decode cX0_poll 80 = .ok (.if_icmp .ne 7, 3) := by decide +kernel
theorem dX0_poll_83 : decode cX0_poll 83 = .ok (.iconst 1, 1) := by decide +kernel
theorem dX0_poll_84 : decode cX0_poll 84 = .ok (.goto 4, 3) := by decide +kernel
theorem dX0_poll_87 : decode cX0_poll 87 = .ok (.iconst 0, 1) := by decide +kernel
theorem dX0_poll_88 : decode cX0_poll 88 = .ok (.invokevirtual 127, 3) := by decide +kernel
theorem dX0_poll_91 : decode cX0_poll 91 = .ok (.goto 11, 3) := by decide +kernel
theorem dX0_poll_94 : decode cX0_poll 94 = .ok (.aload_n 2, 1) := by decide +kernel
theorem dX0_poll_95 : decode cX0_poll 95 = .ok (.aload_n 0, 1) := by decide +kernel
theorem dX0_poll_96 : decode cX0_poll 96 = .ok (.invokevirtual 131, 3) := by decide +kernel
theorem dX0_poll_99 : decode cX0_poll 99 = .ok (.putfield 96, 3) := by decide +kernel
theorem dX0_poll_102 : decode cX0_poll 102 = .ok (.iload_n 3, 1) := by decide +kernel
theorem dX0_poll_103 : decode cX0_poll 103 = .ok (.ireturn, 1) := by decide +kernel
theorem dX0_takeOldest_0 : decode cX0_takeOldest 0 = .ok (.aload_n 1, 1) := by decide +kernel
theorem dX0_takeOldest_1 : decode cX0_takeOldest 1 = .ok (.getfield 82, 3) := by decide +kernel
theorem dX0_takeOldest_4 : decode cX0_takeOldest 4 = .ok (.istore_n 3, 1) := by decide +kernel
theorem dX0_takeOldest_5 : decode cX0_takeOldest 5 = .ok (.aload_n 0, 1) := by decide +kernel
theorem dX0_takeOldest_6 : decode cX0_takeOldest 6 = .ok (.getfield 37, 3) := by decide +kernel
theorem dX0_takeOldest_9 : decode cX0_takeOldest 9 = .ok (.iload_n 3, 1) := by decide +kernel
theorem dX0_takeOldest_10 : decode cX0_takeOldest 10 = .ok (.iconst 1, 1) := by decide +kernel
theorem dX0_takeOldest_11 : decode cX0_takeOldest 11 = .ok (.iastore, 1) := by decide +kernel
theorem dX0_takeOldest_12 : decode cX0_takeOldest 12 = .ok (.aload_n 0, 1) := by decide +kernel
theorem dX0_takeOldest_13 : decode cX0_takeOldest 13 = .ok (.getfield 40, 3) := by decide +kernel
theorem dX0_takeOldest_16 : decode cX0_takeOldest 16 = .ok (.iload_n 3, 1) := by decide +kernel
theorem dX0_takeOldest_17 : decode cX0_takeOldest 17 = .ok (.aload_n 0, 1) := by decide +kernel
theorem dX0_takeOldest_18 : decode cX0_takeOldest 18 = .ok (.getfield 24, 3) := by decide +kernel
theorem dX0_takeOldest_21 : decode cX0_takeOldest 21 = .ok (.iastore, 1) := by decide +kernel
theorem dX0_takeOldest_22 : decode cX0_takeOldest 22 = .ok (.aload_n 1, 1) := by decide +kernel
theorem dX0_takeOldest_23 : decode cX0_takeOldest 23 = .ok (.aload_n 0, 1) := by decide +kernel
theorem dX0_takeOldest_24 : decode cX0_takeOldest 24 = .ok (.getfield 24, 3) := by decide +kernel
theorem dX0_takeOldest_27 : decode cX0_takeOldest 27 = .ok (.aload_n 0, 1) := by decide +kernel
theorem dX0_takeOldest_28 : decode cX0_takeOldest 28 = .ok (.getfield 34, 3) := by decide +kernel
theorem dX0_takeOldest_31 : decode cX0_takeOldest 31 = .ok (.iload_n 3, 1) := by decide +kernel
theorem dX0_takeOldest_32 : decode cX0_takeOldest 32 = .ok (.iaload, 1) := by decide +kernel
theorem dX0_takeOldest_33 : decode cX0_takeOldest 33 = .ok (.isub, 1) := by decide +kernel
theorem dX0_takeOldest_34 : decode cX0_takeOldest 34 = .ok (.invokevirtual 134, 3) := by decide +kernel
theorem dX0_takeOldest_37 : decode cX0_takeOldest 37 = .ok (.aload_n 1, 1) := by decide +kernel
theorem dX0_takeOldest_38 : decode cX0_takeOldest 38 = .ok (.bipush (-6), 2) := by decide +kernel
theorem dX0_takeOldest_40 : decode cX0_takeOldest 40 = .ok (.putfield 82, 3) := by decide +kernel
theorem dX0_takeOldest_43 : decode cX0_takeOldest 43 = .ok (.iload_n 3, 1) := by decide +kernel
theorem dX0_takeOldest_44 : decode cX0_takeOldest 44 = .ok (.iconst 1, 1) := by decide +kernel
theorem dX0_takeOldest_45 : decode cX0_takeOldest 45 = .ok (.iadd, 1) := by decide +kernel
theorem dX0_takeOldest_46 : decode cX0_takeOldest 46 = .ok (.istore 4, 2) := by decide +kernel
theorem dX0_takeOldest_48 : decode cX0_takeOldest 48 = .ok (.iload 4, 2) := by decide +kernel
theorem dX0_takeOldest_50 : decode cX0_takeOldest 50 = .ok (.aload_n 0, 1) := by decide +kernel
theorem dX0_takeOldest_51 : decode cX0_takeOldest 51 = .ok (.getfield 28, 3) := by decide +kernel
theorem dX0_takeOldest_54 : decode cX0_takeOldest 54 = .ok (.if_icmp .ge 47, 3) := by decide +kernel
theorem dX0_takeOldest_57 : decode cX0_takeOldest 57 = .ok (.aload_n 1, 1) := by decide +kernel
theorem dX0_takeOldest_58 : decode cX0_takeOldest 58 = .ok (.getfield 82, 3) := by decide +kernel
theorem dX0_takeOldest_61 : decode cX0_takeOldest 61 = .ok (.bipush (-6), 2) := by decide +kernel
theorem dX0_takeOldest_63 : decode cX0_takeOldest 63 = .ok (.if_icmp .ne 38, 3) := by decide +kernel
theorem dX0_takeOldest_66 : decode cX0_takeOldest 66 = .ok (.aload_n 0, 1) := by decide +kernel
theorem dX0_takeOldest_67 : decode cX0_takeOldest 67 = .ok (.getfield 37, 3) := by decide +kernel
theorem dX0_takeOldest_70 : decode cX0_takeOldest 70 = .ok (.iload 4, 2) := by decide +kernel
theorem dX0_takeOldest_72 : decode cX0_takeOldest 72 = .ok (.iaload, 1) := by decide +kernel
theorem dX0_takeOldest_73 : decode cX0_takeOldest 73 = .ok (.ifCond .ne 22, 3) := by decide +kernel
theorem dX0_takeOldest_76 : decode cX0_takeOldest 76 = .ok (.aload_n 0, 1) := by decide +kernel
theorem dX0_takeOldest_77 : decode cX0_takeOldest 77 = .ok (.getfield 31, 3) := by decide +kernel
theorem dX0_takeOldest_80 : decode cX0_takeOldest 80 = .ok (.iload 4, 2) := by decide +kernel
theorem dX0_takeOldest_82 : decode cX0_takeOldest 82 = .ok (.iaload, 1) := by decide +kernel
theorem dX0_takeOldest_83 : decode cX0_takeOldest 83 = .ok (.iconst 3, 1) := by decide +kernel
theorem dX0_takeOldest_84 : decode cX0_takeOldest 84 = .ok (.irem, 1) := by decide +kernel
theorem dX0_takeOldest_85 : decode cX0_takeOldest 85 = .ok (.iload_n 2, 1) := by decide +kernel
theorem dX0_takeOldest_86 : decode cX0_takeOldest 86 = .ok (.if_icmp .ne 9, 3) := by decide +kernel
theorem dX0_takeOldest_89 : decode cX0_takeOldest 89 = .ok (.aload_n 1, 1) := by decide +kernel
theorem dX0_takeOldest_90 : decode cX0_takeOldest 90 = .ok (.iload 4, 2) := by decide +kernel
theorem dX0_takeOldest_92 : decode cX0_takeOldest 92 = .ok (.putfield 82, 3) := by decide +kernel
theorem dX0_takeOldest_95 : decode cX0_takeOldest 95 = .ok (.iinc 4 1, 3) := by decide +kernel
theorem dX0_takeOldest_98 : decode cX0_takeOldest 98 = .ok (.goto (-50), 3) := by decide +kernel
theorem dX0_takeOldest_101 : decode cX0_takeOldest 101 = .ok (.return_, 1) := by decide +kernel
theorem dX0_whySilent_0 : decode cX0_whySilent 0 = .ok (.aload_n 1, 1) := by decide +kernel
theorem dX0_whySilent_1 : decode cX0_whySilent 1 = .ok (.invokevirtual 89, 3) := by decide +kernel
theorem dX0_whySilent_4 : decode cX0_whySilent 4 = .ok (.ifCond .eq 5, 3) := by decide +kernel
theorem dX0_whySilent_7 : decode cX0_whySilent 7 = .ok (.iconst 1, 1) := by decide +kernel
theorem dX0_whySilent_8 : decode cX0_whySilent 8 = .ok (.ireturn, 1) := by decide +kernel
theorem dX0_whySilent_9 : decode cX0_whySilent 9 = .ok (.aload_n 1, 1) := by decide +kernel
theorem dX0_whySilent_10 : decode cX0_whySilent 10 = .ok (.getfield 85, 3) := by decide +kernel
theorem dX0_whySilent_13 : decode cX0_whySilent 13 = .ok (.ifCond .eq 5, 3) := by decide +kernel
theorem dX0_whySilent_16 : decode cX0_whySilent 16 = .ok (.iconst 2, 1) := by decide +kernel
theorem dX0_whySilent_17 : decode cX0_whySilent 17 = .ok (.ireturn, 1) := by decide +kernel
theorem dX0_whySilent_18 : decode cX0_whySilent 18 = .ok (.aload_n 0, 1) := by decide +kernel
theorem dX0_whySilent_19 : decode cX0_whySilent 19 = .ok (.aload_n 1, 1) := by decide +kernel
theorem dX0_whySilent_20 : decode cX0_whySilent 20 = .ok (.getfield 82, 3) := by decide +kernel
theorem dX0_whySilent_23 : decode cX0_whySilent 23 = .ok (.invokevirtual 117, 3) := by decide +kernel
theorem dX0_whySilent_26 : decode cX0_whySilent 26 = .ok (.ifCond .ne 5, 3) := by decide +kernel
theorem dX0_whySilent_29 : decode cX0_whySilent 29 = .ok (.iconst 3, 1) := by decide +kernel
theorem dX0_whySilent_30 : decode cX0_whySilent 30 = .ok (.ireturn, 1) := by decide +kernel
theorem dX0_whySilent_31 : decode cX0_whySilent 31 = .ok (.aload_n 1, 1) := by decide +kernel
theorem dX0_whySilent_32 : decode cX0_whySilent 32 = .ok (.getfield 76, 3) := by decide +kernel
theorem dX0_whySilent_35 : decode cX0_whySilent 35 = .ok (.aload_n 1, 1) := by decide +kernel
theorem dX0_whySilent_36 : decode cX0_whySilent 36 = .ok (.getfield 73, 3) := by decide +kernel
theorem dX0_whySilent_39 : decode cX0_whySilent 39 = .ok (.if_icmp .lt 7, 3) := by decide +kernel
theorem dX0_whySilent_42 : decode cX0_whySilent 42 = .ok (.iconst 1, 1) := by decide +kernel
theorem dX0_whySilent_43 : decode cX0_whySilent 43 = .ok (.goto 4, 3) := by decide +kernel
theorem dX0_whySilent_46 : decode cX0_whySilent 46 = .ok (.iconst 0, 1) := by decide +kernel
theorem dX0_whySilent_47 : decode cX0_whySilent 47 = .ok (.istore_n 2, 1) := by decide +kernel
theorem dX0_whySilent_48 : decode cX0_whySilent 48 = .ok (.aload_n 0, 1) := by decide +kernel
theorem dX0_whySilent_49 : decode cX0_whySilent 49 = .ok (.getfield 24, 3) := by decide +kernel
theorem dX0_whySilent_52 : decode cX0_whySilent 52 = .ok (.aload_n 0, 1) := by decide +kernel
theorem dX0_whySilent_53 : decode cX0_whySilent 53 = .ok (.getfield 34, 3) := by decide +kernel
theorem dX0_whySilent_56 : decode cX0_whySilent 56 = .ok (.aload_n 1, 1) := by decide +kernel
theorem dX0_whySilent_57 : decode cX0_whySilent 57 = .ok (.getfield 82, 3) := by decide +kernel
theorem dX0_whySilent_60 : decode cX0_whySilent 60 = .ok (.iaload, 1) := by decide +kernel
theorem dX0_whySilent_61 : decode cX0_whySilent 61 = .ok (.isub, 1) := by decide +kernel
theorem dX0_whySilent_62 : decode cX0_whySilent 62 = .ok (.aload_n 1, 1) := by decide +kernel
theorem dX0_whySilent_63 : decode cX0_whySilent 63 = .ok (.getfield 70, 3) := by decide +kernel
theorem dX0_whySilent_66 : decode cX0_whySilent 66 = .ok (.if_icmp .lt 7, 3) := by decide +kernel
theorem dX0_whySilent_69 : decode cX0_whySilent 69 = .ok (.iconst 1, 1) := by decide +kernel
theorem dX0_whySilent_70 : decode cX0_whySilent 70 = .ok (.goto 4, 3) := by decide +kernel
theorem dX0_whySilent_73 : decode cX0_whySilent 73 = .ok (.iconst 0, 1) := by decide +kernel
theorem dX0_whySilent_74 : decode cX0_whySilent 74 = .ok (.istore_n 3, 1) := by decide +kernel
theorem dX0_whySilent_75 : decode cX0_whySilent 75 = .ok (.iload_n 2, 1) := by decide +kernel
theorem dX0_whySilent_76 : decode cX0_whySilent 76 = .ok (.ifCond .ne 7, 3) := by decide +kernel
theorem dX0_whySilent_79 : decode cX0_whySilent 79 = .ok (.iload_n 3, 1) := by decide +kernel
theorem dX0_whySilent_80 : decode cX0_whySilent 80 = .ok (.ifCond .eq 7, 3) := by decide +kernel
theorem dX0_whySilent_83 : decode cX0_whySilent 83 = .ok (.iconst 0, 1) := by decide +kernel
theorem dX0_whySilent_84 : decode cX0_whySilent 84 = .ok (.goto 4, 3) := by decide +kernel
theorem dX0_whySilent_87 : decode cX0_whySilent 87 = .ok (.iconst 4, 1) := by decide +kernel
theorem dX0_whySilent_88 : decode cX0_whySilent 88 = .ok (.ireturn, 1) := by decide +kernel
theorem dX0_enterRow_0 : decode cX0_enterRow 0 = .ok (.aload_n 1, 1) := by decide +kernel
theorem dX0_enterRow_1 : decode cX0_enterRow 1 = .ok (.aload_n 0, 1) := by decide +kernel
theorem dX0_enterRow_2 : decode cX0_enterRow 2 = .ok (.invokevirtual 131, 3) := by decide +kernel
theorem dX0_enterRow_5 : decode cX0_enterRow 5 = .ok (.putfield 96, 3) := by decide +kernel
theorem dX0_enterRow_8 : decode cX0_enterRow 8 = .ok (.aload_n 1, 1) := by decide +kernel
theorem dX0_enterRow_9 : decode cX0_enterRow 9 = .ok (.dup, 1) := by decide +kernel
theorem dX0_enterRow_10 : decode cX0_enterRow 10 = .ok (.getfield 138, 3) := by decide +kernel
theorem dX0_enterRow_13 : decode cX0_enterRow 13 = .ok (.iconst 1, 1) := by decide +kernel
theorem dX0_enterRow_14 : decode cX0_enterRow 14 = .ok (.iadd, 1) := by decide +kernel
theorem dX0_enterRow_15 : decode cX0_enterRow 15 = .ok (.putfield 138, 3) := by decide +kernel
theorem dX0_enterRow_18 : decode cX0_enterRow 18 = .ok (.aload_n 1, 1) := by decide +kernel
theorem dX0_enterRow_19 : decode cX0_enterRow 19 = .ok (.iconst 0, 1) := by decide +kernel
theorem dX0_enterRow_20 : decode cX0_enterRow 20 = .ok (.putfield 141, 3) := by decide +kernel
theorem dX0_enterRow_23 : decode cX0_enterRow 23 = .ok (.return_, 1) := by decide +kernel
theorem dX0_leaveRow_0 : decode cX0_leaveRow 0 = .ok (.aload_n 0, 1) := by decide +kernel
theorem dX0_leaveRow_1 : decode cX0_leaveRow 1 = .ok (.getfield 20, 3) := by decide +kernel
theorem dX0_leaveRow_4 : decode cX0_leaveRow 4 = .ok (.astore_n 2, 1) := by decide +kernel
theorem dX0_leaveRow_5 : decode cX0_leaveRow 5 = .ok (.aload_n 2, 1) := by decide +kernel
theorem dX0_leaveRow_6 : decode cX0_leaveRow 6 = .ok (.arraylength, 1) := by decide +kernel
theorem dX0_leaveRow_7 : decode cX0_leaveRow 7 = .ok (.istore_n 3, 1) := by decide +kernel
theorem dX0_leaveRow_8 : decode cX0_leaveRow 8 = .ok (.iconst 0, 1) := by decide +kernel
theorem dX0_leaveRow_9 : decode cX0_leaveRow 9 = .ok (.istore 4, 2) := by decide +kernel
theorem dX0_leaveRow_11 : decode cX0_leaveRow 11 = .ok (.iload 4, 2) := by decide +kernel
theorem dX0_leaveRow_13 : decode cX0_leaveRow 13 = .ok (.iload_n 3, 1) := by decide +kernel
theorem dX0_leaveRow_14 : decode cX0_leaveRow 14 = .ok (.if_icmp .ge 38, 3) := by decide +kernel
theorem dX0_leaveRow_17 : decode cX0_leaveRow 17 = .ok (.aload_n 2, 1) := by decide +kernel
theorem dX0_leaveRow_18 : decode cX0_leaveRow 18 = .ok (.iload 4, 2) := by decide +kernel
theorem dX0_leaveRow_20 : decode cX0_leaveRow 20 = .ok (.aaload, 1) := by decide +kernel
theorem dX0_leaveRow_21 : decode cX0_leaveRow 21 = .ok (.astore 5, 2) := by decide +kernel
theorem dX0_leaveRow_23 : decode cX0_leaveRow 23 = .ok (.aload 5, 2) := by decide +kernel
theorem dX0_leaveRow_25 : decode cX0_leaveRow 25 = .ok (.getfield 96, 3) := by decide +kernel
theorem dX0_leaveRow_28 : decode cX0_leaveRow 28 = .ok (.aload_n 1, 1) := by decide +kernel
theorem dX0_leaveRow_29 : decode cX0_leaveRow 29 = .ok (.getfield 96, 3) := by decide +kernel
theorem dX0_leaveRow_32 : decode cX0_leaveRow 32 = .ok (.if_icmp .le 14, 3) := by decide +kernel
theorem dX0_leaveRow_35 : decode cX0_leaveRow 35 = .ok (.aload 5, 2) := by decide +kernel
theorem dX0_leaveRow_37 : decode cX0_leaveRow 37 = .ok (.dup, 1) := by decide +kernel
theorem dX0_leaveRow_38 : decode cX0_leaveRow 38 = .ok (.getfield 96, 3) := by decide +kernel
theorem dX0_leaveRow_41 : decode cX0_leaveRow 41 = .ok (.iconst 1, 1) := by decide +kernel
theorem dX0_leaveRow_42 : decode cX0_leaveRow 42 = .ok (.isub, 1) := by decide +kernel
theorem dX0_leaveRow_43 : decode cX0_leaveRow 43 = .ok (.putfield 96, 3) := by decide +kernel
theorem dX0_leaveRow_46 : decode cX0_leaveRow 46 = .ok (.iinc 4 1, 3) := by decide +kernel
theorem dX0_leaveRow_49 : decode cX0_leaveRow 49 = .ok (.goto (-38), 3) := by decide +kernel
theorem dX0_leaveRow_52 : decode cX0_leaveRow 52 = .ok (.aload_n 1, 1) := by decide +kernel
theorem dX0_leaveRow_53 : decode cX0_leaveRow 53 = .ok (.iconst (-1), 1) := by decide +kernel
theorem dX0_leaveRow_54 : decode cX0_leaveRow 54 = .ok (.putfield 96, 3) := by decide +kernel
theorem dX0_leaveRow_57 : decode cX0_leaveRow 57 = .ok (.return_, 1) := by decide +kernel
theorem dX0_rowLength_0 : decode cX0_rowLength 0 = .ok (.iconst 0, 1) := by decide +kernel
theorem dX0_rowLength_1 : decode cX0_rowLength 1 = .ok (.istore_n 1, 1) := by decide +kernel
theorem dX0_rowLength_2 : decode cX0_rowLength 2 = .ok (.aload_n 0, 1) := by decide +kernel
theorem dX0_rowLength_3 : decode cX0_rowLength 3 = .ok (.getfield 20, 3) := by decide +kernel
theorem dX0_rowLength_6 : decode cX0_rowLength 6 = .ok (.astore_n 2, 1) := by decide +kernel
theorem dX0_rowLength_7 : decode cX0_rowLength 7 = .ok (.aload_n 2, 1) := by decide +kernel
theorem dX0_rowLength_8 : decode cX0_rowLength 8 = .ok (.arraylength, 1) := by decide +kernel
theorem dX0_rowLength_9 : decode cX0_rowLength 9 = .ok (.istore_n 3, 1) := by decide +kernel
theorem dX0_rowLength_10 : decode cX0_rowLength 10 = .ok (.iconst 0, 1) := by decide +kernel
theorem dX0_rowLength_11 : decode cX0_rowLength 11 = .ok (.istore 4, 2) := by decide +kernel
theorem dX0_rowLength_13 : decode cX0_rowLength 13 = .ok (.iload 4, 2) := by decide +kernel
theorem dX0_rowLength_15 : decode cX0_rowLength 15 = .ok (.iload_n 3, 1) := by decide +kernel
theorem dX0_rowLength_16 : decode cX0_rowLength 16 = .ok (.if_icmp .ge 31, 3) := by decide +kernel
theorem dX0_rowLength_19 : decode cX0_rowLength 19 = .ok (.aload_n 2, 1) := by decide +kernel
theorem dX0_rowLength_20 : decode cX0_rowLength 20 = .ok (.iload 4, 2) := by decide +kernel
theorem dX0_rowLength_22 : decode cX0_rowLength 22 = .ok (.aaload, 1) := by decide +kernel
theorem dX0_rowLength_23 : decode cX0_rowLength 23 = .ok (.astore 5, 2) := by decide +kernel
theorem dX0_rowLength_25 : decode cX0_rowLength 25 = .ok (.iload_n 1, 1) := by decide +kernel
theorem dX0_rowLength_26 : decode cX0_rowLength 26 = .ok (.aload 5, 2) := by decide +kernel
theorem dX0_rowLength_28 : decode cX0_rowLength 28 = .ok (.invokevirtual 89, 3) := by decide +kernel
theorem dX0_rowLength_31 : decode cX0_rowLength 31 = .ok (.ifCond .eq 7, 3) := by decide +kernel
theorem dX0_rowLength_34 : decode cX0_rowLength 34 = .ok (.iconst 1, 1) := by decide +kernel
theorem dX0_rowLength_35 : decode cX0_rowLength 35 = .ok (.goto 4, 3) := by decide +kernel
theorem dX0_rowLength_38 : decode cX0_rowLength 38 = .ok (.iconst 0, 1) := by decide +kernel
theorem dX0_rowLength_39 : decode cX0_rowLength 39 = .ok (.iadd, 1) := by decide +kernel
theorem dX0_rowLength_40 : decode cX0_rowLength 40 = .ok (.istore_n 1, 1) := by decide +kernel
theorem dX0_rowLength_41 : decode cX0_rowLength 41 = .ok (.iinc 4 1, 3) := by decide +kernel
theorem dX0_rowLength_44 : decode cX0_rowLength 44 = .ok (.goto (-31), 3) := by decide +kernel
theorem dX0_rowLength_47 : decode cX0_rowLength 47 = .ok (.iload_n 1, 1) := by decide +kernel
theorem dX0_rowLength_48 : decode cX0_rowLength 48 = .ok (.ireturn, 1) := by decide +kernel
theorem dX0_queueAt_0 : decode cX0_queueAt 0 = .ok (.iconst 0, 1) := by decide +kernel
theorem dX0_queueAt_1 : decode cX0_queueAt 1 = .ok (.istore_n 2, 1) := by decide +kernel
theorem dX0_queueAt_2 : decode cX0_queueAt 2 = .ok (.iload_n 2, 1) := by decide +kernel
theorem dX0_queueAt_3 : decode cX0_queueAt 3 = .ok (.iconst 3, 1) := by decide +kernel
theorem dX0_queueAt_4 : decode cX0_queueAt 4 = .ok (.if_icmp .ge 36, 3) := by decide +kernel
theorem dX0_queueAt_7 : decode cX0_queueAt 7 = .ok (.aload_n 0, 1) := by decide +kernel
theorem dX0_queueAt_8 : decode cX0_queueAt 8 = .ok (.getfield 20, 3) := by decide +kernel
theorem dX0_queueAt_11 : decode cX0_queueAt 11 = .ok (.iload_n 2, 1) := by decide +kernel
theorem dX0_queueAt_12 : decode cX0_queueAt 12 = .ok (.aaload, 1) := by decide +kernel
theorem dX0_queueAt_13 : decode cX0_queueAt 13 = .ok (.invokevirtual 89, 3) := by decide +kernel
theorem dX0_queueAt_16 : decode cX0_queueAt 16 = .ok (.ifCond .eq 18, 3) := by decide +kernel
theorem dX0_queueAt_19 : decode cX0_queueAt 19 = .ok (.aload_n 0, 1) := by decide +kernel
theorem dX0_queueAt_20 : decode cX0_queueAt 20 = .ok (.getfield 20, 3) := by decide +kernel
theorem dX0_queueAt_23 : decode cX0_queueAt 23 = .ok (.iload_n 2, 1) := by decide +kernel
theorem dX0_queueAt_24 : decode cX0_queueAt 24 = .ok (.aaload, 1) := by decide +kernel
theorem dX0_queueAt_25 : decode cX0_queueAt 25 = .ok (.getfield 96, 3) := by decide +kernel
theorem dX0_queueAt_28 : decode cX0_queueAt 28 = .ok (.iload_n 1, 1) := by decide +kernel
theorem dX0_queueAt_29 : decode cX0_queueAt 29 = .ok (.if_icmp .ne 5, 3) := by decide +kernel
theorem dX0_queueAt_32 : decode cX0_queueAt 32 = .ok (.iload_n 2, 1) := by decide +kernel
theorem dX0_queueAt_33 : decode cX0_queueAt 33 = .ok (.ireturn, 1) := by decide +kernel
theorem dX0_queueAt_34 : decode cX0_queueAt 34 = .ok (.iinc 2 1, 3) := by decide +kernel
theorem dX0_queueAt_37 : decode cX0_queueAt 37 = .ok (.goto (-35), 3) := by decide +kernel
theorem dX0_queueAt_40 : decode cX0_queueAt 40 = .ok (.iconst (-1), 1) := by decide +kernel
theorem dX0_queueAt_41 : decode cX0_queueAt 41 = .ok (.ireturn, 1) := by decide +kernel
theorem dX0_hasFrame_0 : decode cX0_hasFrame 0 = .ok (.iload_n 1, 1) := by decide +kernel
theorem dX0_hasFrame_1 : decode cX0_hasFrame 1 = .ok (.ifCond .lt 15, 3) := by decide +kernel
theorem dX0_hasFrame_4 : decode cX0_hasFrame 4 = .ok (.iload_n 1, 1) := by decide +kernel
theorem dX0_hasFrame_5 : decode cX0_hasFrame 5 = .ok (.aload_n 0, 1) := by decide +kernel
theorem dX0_hasFrame_6 : decode cX0_hasFrame 6 = .ok (.getfield 28, 3) := by decide +kernel
theorem dX0_hasFrame_9 : decode cX0_hasFrame 9 = .ok (.if_icmp .ge 7, 3) := by decide +kernel
theorem dX0_hasFrame_12 : decode cX0_hasFrame 12 = .ok (.iconst 1, 1) := by decide +kernel
theorem dX0_hasFrame_13 : decode cX0_hasFrame 13 = .ok (.goto 4, 3) := by decide +kernel
theorem dX0_hasFrame_16 : decode cX0_hasFrame 16 = .ok (.iconst 0, 1) := by decide +kernel
theorem dX0_hasFrame_17 : decode cX0_hasFrame 17 = .ok (.ireturn, 1) := by decide +kernel
theorem dX0_frameFact_0 : decode cX0_frameFact 0 = .ok (.iload_n 2, 1) := by decide +kernel
theorem dX0_frameFact_1 : decode cX0_frameFact 1 = .ok (.tableswitch 58 0 3 #[31, 38, 45, 52], 31) := by decide +kernel
theorem dX0_frameFact_32 : decode cX0_frameFact 32 = .ok (.aload_n 0, 1) := by decide +kernel
theorem dX0_frameFact_33 : decode cX0_frameFact 33 = .ok (.getfield 31, 3) := by decide +kernel
theorem dX0_frameFact_36 : decode cX0_frameFact 36 = .ok (.iload_n 1, 1) := by decide +kernel
theorem dX0_frameFact_37 : decode cX0_frameFact 37 = .ok (.iaload, 1) := by decide +kernel
theorem dX0_frameFact_38 : decode cX0_frameFact 38 = .ok (.ireturn, 1) := by decide +kernel
theorem dX0_frameFact_39 : decode cX0_frameFact 39 = .ok (.aload_n 0, 1) := by decide +kernel
theorem dX0_frameFact_40 : decode cX0_frameFact 40 = .ok (.getfield 34, 3) := by decide +kernel
theorem dX0_frameFact_43 : decode cX0_frameFact 43 = .ok (.iload_n 1, 1) := by decide +kernel
theorem dX0_frameFact_44 : decode cX0_frameFact 44 = .ok (.iaload, 1) := by decide +kernel
theorem dX0_frameFact_45 : decode cX0_frameFact 45 = .ok (.ireturn, 1) := by decide +kernel
theorem dX0_frameFact_46 : decode cX0_frameFact 46 = .ok (.aload_n 0, 1) := by decide +kernel
theorem dX0_frameFact_47 : decode cX0_frameFact 47 = .ok (.getfield 37, 3) := by decide +kernel
theorem dX0_frameFact_50 : decode cX0_frameFact 50 = .ok (.iload_n 1, 1) := by decide +kernel
theorem dX0_frameFact_51 : decode cX0_frameFact 51 = .ok (.iaload, 1) := by decide +kernel
theorem dX0_frameFact_52 : decode cX0_frameFact 52 = .ok (.ireturn, 1) := by decide +kernel
theorem dX0_frameFact_53 : decode cX0_frameFact 53 = .ok (.aload_n 0, 1) := by decide +kernel
theorem dX0_frameFact_54 : decode cX0_frameFact 54 = .ok (.iload_n 1, 1) := by decide +kernel
theorem dX0_frameFact_55 : decode cX0_frameFact 55 = .ok (.invokevirtual 144, 3) := by decide +kernel
theorem dX0_frameFact_58 : decode cX0_frameFact 58 = .ok (.ireturn, 1) := by decide +kernel
theorem dX0_frameFact_59 : decode cX0_frameFact 59 = .ok (.bipush (-2), 2) := by decide +kernel
theorem dX0_frameFact_61 : decode cX0_frameFact 61 = .ok (.ireturn, 1) := by decide +kernel
theorem dX0_waitOf_0 : decode cX0_waitOf 0 = .ok (.aload_n 0, 1) := by decide +kernel
theorem dX0_waitOf_1 : decode cX0_waitOf 1 = .ok (.getfield 37, 3) := by decide +kernel
theorem dX0_waitOf_4 : decode cX0_waitOf 4 = .ok (.iload_n 1, 1) := by decide +kernel
theorem dX0_waitOf_5 : decode cX0_waitOf 5 = .ok (.iaload, 1) := by decide +kernel
theorem dX0_waitOf_6 : decode cX0_waitOf 6 = .ok (.iconst 2, 1) := by decide +kernel
theorem dX0_waitOf_7 : decode cX0_waitOf 7 = .ok (.if_icmp .ne 6, 3) := by decide +kernel
theorem dX0_waitOf_10 : decode cX0_waitOf 10 = .ok (.bipush (-6), 2) := by decide +kernel
theorem dX0_waitOf_12 : decode cX0_waitOf 12 = .ok (.ireturn, 1) := by decide +kernel
theorem dX0_waitOf_13 : decode cX0_waitOf 13 = .ok (.aload_n 0, 1) := by decide +kernel
theorem dX0_waitOf_14 : decode cX0_waitOf 14 = .ok (.getfield 37, 3) := by decide +kernel
theorem dX0_waitOf_17 : decode cX0_waitOf 17 = .ok (.iload_n 1, 1) := by decide +kernel
theorem dX0_waitOf_18 : decode cX0_waitOf 18 = .ok (.iaload, 1) := by decide +kernel
theorem dX0_waitOf_19 : decode cX0_waitOf 19 = .ok (.iconst 1, 1) := by decide +kernel
theorem dX0_waitOf_20 : decode cX0_waitOf 20 = .ok (.if_icmp .ne 12, 3) := by decide +kernel
theorem dX0_waitOf_23 : decode cX0_waitOf 23 = .ok (.aload_n 0, 1) := by decide +kernel
theorem dX0_waitOf_24 : decode cX0_waitOf 24 = .ok (.getfield 40, 3) := by decide +kernel
theorem dX0_waitOf_27 : decode cX0_waitOf 27 = .ok (.iload_n 1, 1) := by decide +kernel
theorem dX0_waitOf_28 : decode cX0_waitOf 28 = .ok (.iaload, 1) := by decide +kernel
theorem dX0_waitOf_29 : decode cX0_waitOf 29 = .ok (.goto 7, 3) := by decide +kernel
theorem dX0_waitOf_32 : decode cX0_waitOf 32 = .ok (.aload_n 0, 1) := by decide +kernel
theorem dX0_waitOf_33 : decode cX0_waitOf 33 = .ok (.getfield 24, 3) := by decide +kernel
theorem dX0_waitOf_36 : decode cX0_waitOf 36 = .ok (.istore_n 2, 1) := by decide +kernel
theorem dX0_waitOf_37 : decode cX0_waitOf 37 = .ok (.iload_n 2, 1) := by decide +kernel
theorem dX0_waitOf_38 : decode cX0_waitOf 38 = .ok (.aload_n 0, 1) := by decide +kernel
theorem dX0_waitOf_39 : decode cX0_waitOf 39 = .ok (.getfield 34, 3) := by decide +kernel
theorem dX0_waitOf_42 : decode cX0_waitOf 42 = .ok (.iload_n 1, 1) := by decide +kernel
theorem dX0_waitOf_43 : decode cX0_waitOf 43 = .ok (.iaload, 1) := by decide +kernel
theorem dX0_waitOf_44 : decode cX0_waitOf 44 = .ok (.isub, 1) := by decide +kernel
theorem dX0_waitOf_45 : decode cX0_waitOf 45 = .ok (.ireturn, 1) := by decide +kernel
theorem dX0_total_0 : decode cX0_total 0 = .ok (.iconst 0, 1) := by decide +kernel
theorem dX0_total_1 : decode cX0_total 1 = .ok (.istore_n 2, 1) := by decide +kernel
theorem dX0_total_2 : decode cX0_total 2 = .ok (.aload_n 0, 1) := by decide +kernel
theorem dX0_total_3 : decode cX0_total 3 = .ok (.getfield 20, 3) := by decide +kernel
theorem dX0_total_6 : decode cX0_total 6 = .ok (.astore_n 3, 1) := by decide +kernel
theorem dX0_total_7 : decode cX0_total 7 = .ok (.aload_n 3, 1) := by decide +kernel
theorem dX0_total_8 : decode cX0_total 8 = .ok (.arraylength, 1) := by decide +kernel
theorem dX0_total_9 : decode cX0_total 9 = .ok (.istore 4, 2) := by decide +kernel
theorem dX0_total_11 : decode cX0_total 11 = .ok (.iconst 0, 1) := by decide +kernel
theorem dX0_total_12 : decode cX0_total 12 = .ok (.istore 5, 2) := by decide +kernel
theorem dX0_total_14 : decode cX0_total 14 = .ok (.iload 5, 2) := by decide +kernel
theorem dX0_total_16 : decode cX0_total 16 = .ok (.iload 4, 2) := by decide +kernel
theorem dX0_total_18 : decode cX0_total 18 = .ok (.if_icmp .ge 24, 3) := by decide +kernel
theorem dX0_total_21 : decode cX0_total 21 = .ok (.aload_n 3, 1) := by decide +kernel
theorem dX0_total_22 : decode cX0_total 22 = .ok (.iload 5, 2) := by decide +kernel
theorem dX0_total_24 : decode cX0_total 24 = .ok (.aaload, 1) := by decide +kernel
theorem dX0_total_25 : decode cX0_total 25 = .ok (.astore 6, 2) := by decide +kernel
theorem dX0_total_27 : decode cX0_total 27 = .ok (.iload_n 2, 1) := by decide +kernel
theorem dX0_total_28 : decode cX0_total 28 = .ok (.aload 6, 2) := by decide +kernel
theorem dX0_total_30 : decode cX0_total 30 = .ok (.iload_n 1, 1) := by decide +kernel
theorem dX0_total_31 : decode cX0_total 31 = .ok (.invokevirtual 147, 3) := by decide +kernel
theorem dX0_total_34 : decode cX0_total 34 = .ok (.iadd, 1) := by decide +kernel
theorem dX0_total_35 : decode cX0_total 35 = .ok (.istore_n 2, 1) := by decide +kernel
theorem dX0_total_36 : decode cX0_total 36 = .ok (.iinc 5 1, 3) := by decide +kernel
theorem dX0_total_39 : decode cX0_total 39 = .ok (.goto (-25), 3) := by decide +kernel
theorem dX0_total_42 : decode cX0_total 42 = .ok (.iload_n 2, 1) := by decide +kernel
theorem dX0_total_43 : decode cX0_total 43 = .ok (.ireturn, 1) := by decide +kernel
theorem dX0_maskedSet_0 : decode cX0_maskedSet 0 = .ok (.iconst 0, 1) := by decide +kernel
theorem dX0_maskedSet_1 : decode cX0_maskedSet 1 = .ok (.istore_n 1, 1) := by decide +kernel
theorem dX0_maskedSet_2 : decode cX0_maskedSet 2 = .ok (.iconst 0, 1) := by decide +kernel
theorem dX0_maskedSet_3 : decode cX0_maskedSet 3 = .ok (.istore_n 2, 1) := by decide +kernel
theorem dX0_maskedSet_4 : decode cX0_maskedSet 4 = .ok (.iload_n 2, 1) := by decide +kernel
theorem dX0_maskedSet_5 : decode cX0_maskedSet 5 = .ok (.iconst 3, 1) := by decide +kernel
theorem dX0_maskedSet_6 : decode cX0_maskedSet 6 = .ok (.if_icmp .ge 31, 3) := by decide +kernel
theorem dX0_maskedSet_9 : decode cX0_maskedSet 9 = .ok (.iload_n 1, 1) := by decide +kernel
theorem dX0_maskedSet_10 : decode cX0_maskedSet 10 = .ok (.aload_n 0, 1) := by decide +kernel
theorem dX0_maskedSet_11 : decode cX0_maskedSet 11 = .ok (.getfield 20, 3) := by decide +kernel
theorem dX0_maskedSet_14 : decode cX0_maskedSet 14 = .ok (.iload_n 2, 1) := by decide +kernel
theorem dX0_maskedSet_15 : decode cX0_maskedSet 15 = .ok (.aaload, 1) := by decide +kernel
theorem dX0_maskedSet_16 : decode cX0_maskedSet 16 = .ok (.getfield 85, 3) := by decide +kernel
theorem dX0_maskedSet_19 : decode cX0_maskedSet 19 = .ok (.ifCond .eq 9, 3) := by decide +kernel
theorem dX0_maskedSet_22 : decode cX0_maskedSet 22 = .ok (.iconst 1, 1) := by decide +kernel
theorem dX0_maskedSet_23 : decode cX0_maskedSet 23 = .ok (.iload_n 2, 1) := by decide +kernel
theorem dX0_maskedSet_24 : decode cX0_maskedSet 24 = .ok (.ishl, 1) := by decide +kernel
theorem dX0_maskedSet_25 : decode cX0_maskedSet 25 = .ok (.goto 4, 3) := by decide +kernel
theorem dX0_maskedSet_28 : decode cX0_maskedSet 28 = .ok (.iconst 0, 1) := by decide +kernel
theorem dX0_maskedSet_29 : decode cX0_maskedSet 29 = .ok (.ior, 1) := by decide +kernel
theorem dX0_maskedSet_30 : decode cX0_maskedSet 30 = .ok (.istore_n 1, 1) := by decide +kernel
theorem dX0_maskedSet_31 : decode cX0_maskedSet 31 = .ok (.iinc 2 1, 3) := by decide +kernel
theorem dX0_maskedSet_34 : decode cX0_maskedSet 34 = .ok (.goto (-30), 3) := by decide +kernel
theorem dX0_maskedSet_37 : decode cX0_maskedSet 37 = .ok (.iload_n 1, 1) := by decide +kernel
theorem dX0_maskedSet_38 : decode cX0_maskedSet 38 = .ok (.ireturn, 1) := by decide +kernel
theorem dX1_init_0 : decode cX1_init 0 = .ok (.aload_n 0, 1) := by decide +kernel
theorem dX1_init_1 : decode cX1_init 1 = .ok (.invokespecial 5, 3) := by decide +kernel
theorem dX1_init_4 : decode cX1_init 4 = .ok (.aload_n 0, 1) := by decide +kernel
theorem dX1_init_5 : decode cX1_init 5 = .ok (.bipush 7, 2) := by decide +kernel
theorem dX1_init_7 : decode cX1_init 7 = .ok (.anewarray 11, 3) := by decide +kernel
theorem dX1_init_10 : decode cX1_init 10 = .ok (.putfield 13, 3) := by decide +kernel
theorem dX1_init_13 : decode cX1_init 13 = .ok (.aload_n 0, 1) := by decide +kernel
theorem dX1_init_14 : decode cX1_init 14 = .ok (.iconst 0, 1) := by decide +kernel
theorem dX1_init_15 : decode cX1_init 15 = .ok (.putfield 17, 3) := by decide +kernel
theorem dX1_init_18 : decode cX1_init 18 = .ok (.aload_n 0, 1) := by decide +kernel
theorem dX1_init_19 : decode cX1_init 19 = .ok (.iconst 0, 1) := by decide +kernel
theorem dX1_init_20 : decode cX1_init 20 = .ok (.putfield 21, 3) := by decide +kernel
theorem dX1_init_23 : decode cX1_init 23 = .ok (.iconst 0, 1) := by decide +kernel
theorem dX1_init_24 : decode cX1_init 24 = .ok (.istore_n 1, 1) := by decide +kernel
theorem dX1_init_25 : decode cX1_init 25 = .ok (.iload_n 1, 1) := by decide +kernel
theorem dX1_init_26 : decode cX1_init 26 = .ok (.bipush 7, 2) := by decide +kernel
theorem dX1_init_28 : decode cX1_init 28 = .ok (.if_icmp .ge 22, 3) := by decide +kernel
theorem dX1_init_31 : decode cX1_init 31 = .ok (.aload_n 0, 1) := by decide +kernel
theorem dX1_init_32 : decode cX1_init 32 = .ok (.getfield 13, 3) := by decide +kernel
theorem dX1_init_35 : decode cX1_init 35 = .ok (.iload_n 1, 1) := by decide +kernel
theorem dX1_init_36 : decode cX1_init 36 = .ok (.new 11, 3) := by decide +kernel
theorem dX1_init_39 : decode cX1_init 39 = .ok (.dup, 1) := by decide +kernel
theorem dX1_init_40 : decode cX1_init 40 = .ok (.invokespecial 24, 3) := by decide +kernel
theorem dX1_init_43 : decode cX1_init 43 = .ok (.aastore, 1) := by decide +kernel
theorem dX1_init_44 : decode cX1_init 44 = .ok (.iinc 1 1, 3) := by decide +kernel
theorem dX1_init_47 : decode cX1_init 47 = .ok (.goto (-22), 3) := by decide +kernel
theorem dX1_init_50 : decode cX1_init 50 = .ok (.return_, 1) := by decide +kernel
theorem dX1_prepare_0 : decode cX1_prepare 0 = .ok (.aload_n 0, 1) := by decide +kernel
theorem dX1_prepare_1 : decode cX1_prepare 1 = .ok (.getfield 13, 3) := by decide +kernel
theorem dX1_prepare_4 : decode cX1_prepare 4 = .ok (.aload_n 0, 1) := by decide +kernel
theorem dX1_prepare_5 : decode cX1_prepare 5 = .ok (.getfield 17, 3) := by decide +kernel
theorem dX1_prepare_8 : decode cX1_prepare 8 = .ok (.aaload, 1) := by decide +kernel
theorem dX1_prepare_9 : decode cX1_prepare 9 = .ok (.aload_n 1, 1) := by decide +kernel
theorem dX1_prepare_10 : decode cX1_prepare 10 = .ok (.invokevirtual 25, 3) := by decide +kernel
theorem dX1_prepare_13 : decode cX1_prepare 13 = .ok (.return_, 1) := by decide +kernel
theorem dX1_keepIfDone_0 : decode cX1_keepIfDone 0 = .ok (.iload_n 1, 1) := by decide +kernel
theorem dX1_keepIfDone_1 : decode cX1_keepIfDone 1 = .ok (.ifCond .lt 31, 3) := by decide +kernel
theorem dX1_keepIfDone_4 : decode cX1_keepIfDone 4 = .ok (.aload_n 0, 1) := by decide +kernel
theorem dX1_keepIfDone_5 : decode cX1_keepIfDone 5 = .ok (.aload_n 0, 1) := by decide +kernel
theorem dX1_keepIfDone_6 : decode cX1_keepIfDone 6 = .ok (.getfield 17, 3) := by decide +kernel
theorem dX1_keepIfDone_9 : decode cX1_keepIfDone 9 = .ok (.iconst 1, 1) := by decide +kernel
theorem dX1_keepIfDone_10 : decode cX1_keepIfDone 10 = .ok (.iadd, 1) := by decide +kernel
theorem dX1_keepIfDone_11 : decode cX1_keepIfDone 11 = .ok (.bipush 7, 2) := by decide +kernel
theorem dX1_keepIfDone_13 : decode cX1_keepIfDone 13 = .ok (.irem, 1) := by decide +kernel
theorem dX1_keepIfDone_14 : decode cX1_keepIfDone 14 = .ok (.putfield 17, 3) := by decide +kernel
theorem dX1_keepIfDone_17 : decode cX1_keepIfDone 17 = .ok (.aload_n 0, 1) := by decide +kernel
theorem dX1_keepIfDone_18 : decode cX1_keepIfDone 18 = .ok (.aload_n 0, 1) := by decide +kernel
theorem dX1_keepIfDone_19 : decode cX1_keepIfDone 19 = .ok (.getfield 21, 3) := by decide +kernel
theorem dX1_keepIfDone_22 : decode cX1_keepIfDone 22 = .ok (.iconst 1, 1) := by decide +kernel
theorem dX1_keepIfDone_23 : decode cX1_keepIfDone 23 = .ok (.iadd, 1) := by decide +kernel
theorem dX1_keepIfDone_24 : decode cX1_keepIfDone 24 = .ok (.bipush 6, 2) := by decide +kernel
theorem dX1_keepIfDone_26 : decode cX1_keepIfDone 26 = .ok (.invokestatic 29, 3) := by decide +kernel
theorem dX1_keepIfDone_29 : decode cX1_keepIfDone 29 = .ok (.putfield 21, 3) := by decide +kernel
theorem dX1_keepIfDone_32 : decode cX1_keepIfDone 32 = .ok (.iload_n 1, 1) := by decide +kernel
theorem dX1_keepIfDone_33 : decode cX1_keepIfDone 33 = .ok (.ireturn, 1) := by decide +kernel
theorem dX2_init_0 : decode cX2_init 0 = .ok (.aload_n 0, 1) := by decide +kernel
theorem dX2_init_1 : decode cX2_init 1 = .ok (.invokespecial 3, 3) := by decide +kernel
theorem dX2_init_4 : decode cX2_init 4 = .ok (.aload_n 0, 1) := by decide +kernel
theorem dX2_init_5 : decode cX2_init 5 = .ok (.bipush 80, 2) := by decide +kernel
theorem dX2_init_7 : decode cX2_init 7 = .ok (.newarray .char, 2) := by decide +kernel
theorem dX2_init_9 : decode cX2_init 9 = .ok (.putfield 11, 3) := by decide +kernel
theorem dX2_init_12 : decode cX2_init 12 = .ok (.aload_n 0, 1) := by decide +kernel
theorem dX2_init_13 : decode cX2_init 13 = .ok (.iconst 0, 1) := by decide +kernel
theorem dX2_init_14 : decode cX2_init 14 = .ok (.putfield 15, 3) := by decide +kernel
theorem dX2_init_17 : decode cX2_init 17 = .ok (.aload_n 0, 1) := by decide +kernel
theorem dX2_init_18 : decode cX2_init 18 = .ok (.iconst 0, 1) := by decide +kernel
theorem dX2_init_19 : decode cX2_init 19 = .ok (.putfield 19, 3) := by decide +kernel
theorem dX2_init_22 : decode cX2_init 22 = .ok (.aload_n 0, 1) := by decide +kernel
theorem dX2_init_23 : decode cX2_init 23 = .ok (.iconst 0, 1) := by decide +kernel
theorem dX2_init_24 : decode cX2_init 24 = .ok (.putfield 22, 3) := by decide +kernel
theorem dX2_init_27 : decode cX2_init 27 = .ok (.aload_n 0, 1) := by decide +kernel
theorem dX2_init_28 : decode cX2_init 28 = .ok (.bipush 109, 2) := by decide +kernel
theorem dX2_init_30 : decode cX2_init 30 = .ok (.putfield 26, 3) := by decide +kernel
theorem dX2_init_33 : decode cX2_init 33 = .ok (.aload_n 0, 1) := by decide +kernel
theorem dX2_init_34 : decode cX2_init 34 = .ok (.iconst 0, 1) := by decide +kernel
theorem dX2_init_35 : decode cX2_init 35 = .ok (.putfield 30, 3) := by decide +kernel
theorem dX2_init_38 : decode cX2_init 38 = .ok (.aload_n 0, 1) := by decide +kernel
theorem dX2_init_39 : decode cX2_init 39 = .ok (.iconst 0, 1) := by decide +kernel
theorem dX2_init_40 : decode cX2_init 40 = .ok (.putfield 33, 3) := by decide +kernel
theorem dX2_init_43 : decode cX2_init 43 = .ok (.aload_n 0, 1) := by decide +kernel
theorem dX2_init_44 : decode cX2_init 44 = .ok (.iconst 0, 1) := by decide +kernel
theorem dX2_init_45 : decode cX2_init 45 = .ok (.putfield 36, 3) := by decide +kernel
theorem dX2_init_48 : decode cX2_init 48 = .ok (.aload_n 0, 1) := by decide +kernel
theorem dX2_init_49 : decode cX2_init 49 = .ok (.iconst 0, 1) := by decide +kernel
theorem dX2_init_50 : decode cX2_init 50 = .ok (.putfield 39, 3) := by decide +kernel
theorem dX2_init_53 : decode cX2_init 53 = .ok (.return_, 1) := by decide +kernel
theorem dX2_append_0 : decode cX2_append 0 = .ok (.lload_n 1, 1) := by decide +kernel
theorem dX2_append_1 : decode cX2_append 1 = .ok (.invokestatic 42, 3) := by decide +kernel
theorem dX2_append_4 : decode cX2_append 4 = .ok (.istore_n 3, 1) := by decide +kernel
theorem dX2_append_5 : decode cX2_append 5 = .ok (.iload_n 3, 1) := by decide +kernel
theorem dX2_append_6 : decode cX2_append 6 = .ok (.ifCond .ne 6, 3) := by decide +kernel
theorem dX2_append_9 : decode cX2_append 9 = .ok (.bipush (-2), 2) := by decide +kernel
theorem dX2_append_11 : decode cX2_append 11 = .ok (.ireturn, 1) := by decide +kernel
theorem dX2_append_12 : decode cX2_append 12 = .ok (.aload_n 0, 1) := by decide +kernel
theorem dX2_append_13 : decode cX2_append 13 = .ok (.getfield 15, 3) := by decide +kernel
theorem dX2_append_16 : decode cX2_append 16 = .ok (.iload_n 3, 1) := by decide +kernel
theorem dX2_append_17 : decode cX2_append 17 = .ok (.iadd, 1) := by decide +kernel
theorem dX2_append_18 : decode cX2_append 18 = .ok (.bipush 80, 2) := by decide +kernel
theorem dX2_append_20 : decode cX2_append 20 = .ok (.if_icmp .le 6, 3) := by decide +kernel
theorem dX2_append_23 : decode cX2_append 23 = .ok (.bipush (-4), 2) := by decide +kernel
theorem dX2_append_25 : decode cX2_append 25 = .ok (.ireturn, 1) := by decide +kernel
theorem dX2_append_26 : decode cX2_append 26 = .ok (.iconst 0, 1) := by decide +kernel
theorem dX2_append_27 : decode cX2_append 27 = .ok (.istore 4, 2) := by decide +kernel
theorem dX2_append_29 : decode cX2_append 29 = .ok (.iload 4, 2) := by decide +kernel
theorem dX2_append_31 : decode cX2_append 31 = .ok (.iload_n 3, 1) := by decide +kernel
theorem dX2_append_32 : decode cX2_append 32 = .ok (.if_icmp .ge 38, 3) := by decide +kernel
theorem dX2_append_35 : decode cX2_append 35 = .ok (.aload_n 0, 1) := by decide +kernel
theorem dX2_append_36 : decode cX2_append 36 = .ok (.getfield 11, 3) := by decide +kernel
theorem dX2_append_39 : decode cX2_append 39 = .ok (.aload_n 0, 1) := by decide +kernel
theorem dX2_append_40 : decode cX2_append 40 = .ok (.getfield 15, 3) := by decide +kernel
theorem dX2_append_43 : decode cX2_append 43 = .ok (.iload 4, 2) := by decide +kernel
theorem dX2_append_45 : decode cX2_append 45 = .ok (.iadd, 1) := by decide +kernel
theorem dX2_append_46 : decode cX2_append 46 = .ok (.lload_n 1, 1) := by decide +kernel
theorem dX2_append_47 : decode cX2_append 47 = .ok (.bipush 8, 2) := by decide +kernel
theorem dX2_append_49 : decode cX2_append 49 = .ok (.iload_n 3, 1) := by decide +kernel
theorem dX2_append_50 : decode cX2_append 50 = .ok (.iconst 1, 1) := by decide +kernel
theorem dX2_append_51 : decode cX2_append 51 = .ok (.isub, 1) := by decide +kernel
theorem dX2_append_52 : decode cX2_append 52 = .ok (.iload 4, 2) := by decide +kernel
theorem dX2_append_54 : decode cX2_append 54 = .ok (.isub, 1) := by decide +kernel
theorem dX2_append_55 : decode cX2_append 55 = .ok (.imul, 1) := by decide +kernel
theorem dX2_append_56 : decode cX2_append 56 = .ok (.lushr, 1) := by decide +kernel
theorem dX2_append_57 : decode cX2_append 57 = .ok (.ldc2_w 46, 3) := by decide +kernel
theorem dX2_append_60 : decode cX2_append 60 = .ok (.land, 1) := by decide +kernel
theorem dX2_append_61 : decode cX2_append 61 = .ok (.l2i, 1) := by decide +kernel
theorem dX2_append_62 : decode cX2_append 62 = .ok (.i2c, 1) := by decide +kernel
theorem dX2_append_63 : decode cX2_append 63 = .ok (.castore, 1) := by decide +kernel
theorem dX2_append_64 : decode cX2_append 64 = .ok (.iinc 4 1, 3) := by decide +kernel
theorem dX2_append_67 : decode cX2_append 67 = .ok (.goto (-38), 3) := by decide +kernel
theorem dX2_append_70 : decode cX2_append 70 = .ok (.aload_n 0, 1) := by decide +kernel
theorem dX2_append_71 : decode cX2_append 71 = .ok (.dup, 1) := by decide +kernel
theorem dX2_append_72 : decode cX2_append 72 = .ok (.getfield 15, 3) := by decide +kernel
theorem dX2_append_75 : decode cX2_append 75 = .ok (.iload_n 3, 1) := by decide +kernel
theorem dX2_append_76 : decode cX2_append 76 = .ok (.iadd, 1) := by decide +kernel
theorem dX2_append_77 : decode cX2_append 77 = .ok (.putfield 15, 3) := by decide +kernel
theorem dX2_append_80 : decode cX2_append 80 = .ok (.aload_n 0, 1) := by decide +kernel
theorem dX2_append_81 : decode cX2_append 81 = .ok (.getfield 15, 3) := by decide +kernel
theorem dX2_append_84 : decode cX2_append 84 = .ok (.ireturn, 1) := by decide +kernel
theorem dX2_sizeOf_0 : decode cX2_sizeOf 0 = .ok (.lload_n 0, 1) := by decide +kernel
theorem dX2_sizeOf_1 : decode cX2_sizeOf 1 = .ok (.lstore_n 2, 1) := by decide +kernel
theorem dX2_sizeOf_2 : decode cX2_sizeOf 2 = .ok (.iconst 0, 1) := by decide +kernel
theorem dX2_sizeOf_3 : decode cX2_sizeOf 3 = .ok (.istore 4, 2) := by decide +kernel
theorem dX2_sizeOf_5 : decode cX2_sizeOf 5 = .ok (.iload 4, 2) := by decide +kernel
theorem dX2_sizeOf_7 : decode cX2_sizeOf 7 = .ok (.bipush 8, 2) := by decide +kernel
theorem dX2_sizeOf_9 : decode cX2_sizeOf 9 = .ok (.if_icmp .ge 47, 3) := by decide +kernel
theorem dX2_sizeOf_12 : decode cX2_sizeOf 12 = .ok (.lload_n 2, 1) := by decide +kernel
theorem dX2_sizeOf_13 : decode cX2_sizeOf 13 = .ok (.lconst 0, 1) := by decide +kernel
theorem dX2_sizeOf_14 : decode cX2_sizeOf 14 = .ok (.lcmp, 1) := by decide +kernel
theorem dX2_sizeOf_15 : decode cX2_sizeOf 15 = .ok (.ifCond .eq 41, 3) := by decide +kernel
theorem dX2_sizeOf_18 : decode cX2_sizeOf 18 = .ok (.lload_n 2, 1) := by decide +kernel
theorem dX2_sizeOf_19 : decode cX2_sizeOf 19 = .ok (.ldc2_w 46, 3) := by decide +kernel
theorem dX2_sizeOf_22 : decode cX2_sizeOf 22 = .ok (.land, 1) := by decide +kernel
theorem dX2_sizeOf_23 : decode cX2_sizeOf 23 = .ok (.lstore 5, 2) := by decide +kernel
theorem dX2_sizeOf_25 : decode cX2_sizeOf 25 = .ok (.lload 5, 2) := by decide +kernel
theorem dX2_sizeOf_27 : decode cX2_sizeOf 27 = .ok (.ldc2_w 48, 3) := by decide +kernel
theorem dX2_sizeOf_30 : decode cX2_sizeOf 30 = .ok (.lcmp, 1) := by decide +kernel
theorem dX2_sizeOf_31 : decode cX2_sizeOf 31 = .ok (.ifCond .lt 12, 3) := by decide +kernel
theorem dX2_sizeOf_34 : decode cX2_sizeOf 34 = .ok (.lload 5, 2) := by decide +kernel
theorem dX2_sizeOf_36 : decode cX2_sizeOf 36 = .ok (.ldc2_w 50, 3) := by decide +kernel
theorem dX2_sizeOf_39 : decode cX2_sizeOf 39 = .ok (.lcmp, 1) := by decide +kernel
theorem dX2_sizeOf_40 : decode cX2_sizeOf 40 = .ok (.ifCond .le 5, 3) := by decide +kernel
theorem dX2_sizeOf_43 : decode cX2_sizeOf 43 = .ok (.iconst 0, 1) := by decide +kernel
theorem dX2_sizeOf_44 : decode cX2_sizeOf 44 = .ok (.ireturn, 1) := by decide +kernel
theorem dX2_sizeOf_45 : decode cX2_sizeOf 45 = .ok (.lload_n 2, 1) := by decide +kernel
theorem dX2_sizeOf_46 : decode cX2_sizeOf 46 = .ok (.bipush 8, 2) := by decide +kernel
theorem dX2_sizeOf_48 : decode cX2_sizeOf 48 = .ok (.lushr, 1) := by decide +kernel
theorem dX2_sizeOf_49 : decode cX2_sizeOf 49 = .ok (.lstore_n 2, 1) := by decide +kernel
theorem dX2_sizeOf_50 : decode cX2_sizeOf 50 = .ok (.iinc 4 1, 3) := by decide +kernel
theorem dX2_sizeOf_53 : decode cX2_sizeOf 53 = .ok (.goto (-48), 3) := by decide +kernel
theorem dX2_sizeOf_56 : decode cX2_sizeOf 56 = .ok (.iload 4, 2) := by decide +kernel
theorem dX2_sizeOf_58 : decode cX2_sizeOf 58 = .ok (.ireturn, 1) := by decide +kernel
theorem dX2_clear_0 : decode cX2_clear 0 = .ok (.aload_n 0, 1) := by decide +kernel
theorem dX2_clear_1 : decode cX2_clear 1 = .ok (.getfield 15, 3) := by decide +kernel
theorem dX2_clear_4 : decode cX2_clear 4 = .ok (.istore_n 1, 1) := by decide +kernel
theorem dX2_clear_5 : decode cX2_clear 5 = .ok (.aload_n 0, 1) := by decide +kernel
theorem dX2_clear_6 : decode cX2_clear 6 = .ok (.iconst 0, 1) := by decide +kernel
theorem dX2_clear_7 : decode cX2_clear 7 = .ok (.putfield 15, 3) := by decide +kernel
theorem dX2_clear_10 : decode cX2_clear 10 = .ok (.iload_n 1, 1) := by decide +kernel
theorem dX2_clear_11 : decode cX2_clear 11 = .ok (.ireturn, 1) := by decide +kernel
theorem dX2_firstFault_0 : decode cX2_firstFault 0 = .ok (.aload_n 0, 1) := by decide +kernel
theorem dX2_firstFault_1 : decode cX2_firstFault 1 = .ok (.invokevirtual 52, 3) := by decide +kernel
theorem dX2_firstFault_4 : decode cX2_firstFault 4 = .ok (.iconst 1, 1) := by decide +kernel
theorem dX2_firstFault_5 : decode cX2_firstFault 5 = .ok (.istore_n 1, 1) := by decide +kernel
theorem dX2_firstFault_6 : decode cX2_firstFault 6 = .ok (.iconst 0, 1) := by decide +kernel
theorem dX2_firstFault_7 : decode cX2_firstFault 7 = .ok (.istore_n 2, 1) := by decide +kernel
theorem dX2_firstFault_8 : decode cX2_firstFault 8 = .ok (.iload_n 2, 1) := by decide +kernel
theorem dX2_firstFault_9 : decode cX2_firstFault 9 = .ok (.bipush 80, 2) := by decide +kernel
theorem dX2_firstFault_11 : decode cX2_firstFault 11 = .ok (.if_icmp .ge 18, 3) := by decide +kernel
theorem dX2_firstFault_14 : decode cX2_firstFault 14 = .ok (.iload_n 1, 1) := by decide +kernel
theorem dX2_firstFault_15 : decode cX2_firstFault 15 = .ok (.ifCond .eq 14, 3) := by decide +kernel
theorem dX2_firstFault_18 : decode cX2_firstFault 18 = .ok (.aload_n 0, 1) := by decide +kernel
theorem dX2_firstFault_19 : decode cX2_firstFault 19 = .ok (.invokevirtual 55, 3) := by decide +kernel
theorem dX2_firstFault_22 : decode cX2_firstFault 22 = .ok (.istore_n 1, 1) := by decide +kernel
theorem dX2_firstFault_23 : decode cX2_firstFault 23 = .ok (.iinc 2 1, 3) := by decide +kernel
theorem dX2_firstFault_26 : decode cX2_firstFault 26 = .ok (.goto (-18), 3) := by decide +kernel
theorem dX2_firstFault_29 : decode cX2_firstFault 29 = .ok (.aload_n 0, 1) := by decide +kernel
theorem dX2_firstFault_30 : decode cX2_firstFault 30 = .ok (.getfield 22, 3) := by decide +kernel
theorem dX2_firstFault_33 : decode cX2_firstFault 33 = .ok (.ifCond .ne 14, 3) := by decide +kernel
theorem dX2_firstFault_36 : decode cX2_firstFault 36 = .ok (.aload_n 0, 1) := by decide +kernel
theorem dX2_firstFault_37 : decode cX2_firstFault 37 = .ok (.getfield 19, 3) := by decide +kernel
theorem dX2_firstFault_40 : decode cX2_firstFault 40 = .ok (.aload_n 0, 1) := by decide +kernel
theorem dX2_firstFault_41 : decode cX2_firstFault 41 = .ok (.getfield 15, 3) := by decide +kernel
theorem dX2_firstFault_44 : decode cX2_firstFault 44 = .ok (.if_icmp .ge 10, 3) := by decide +kernel
theorem dX2_firstFault_47 : decode cX2_firstFault 47 = .ok (.aload_n 0, 1) := by decide +kernel
theorem dX2_firstFault_48 : decode cX2_firstFault 48 = .ok (.getfield 19, 3) := by decide +kernel
theorem dX2_firstFault_51 : decode cX2_firstFault 51 = .ok (.goto 5, 3) := by decide +kernel
theorem dX2_firstFault_54 : decode cX2_firstFault 54 = .ok (.bipush (-6), 2) := by decide +kernel
theorem dX2_firstFault_56 : decode cX2_firstFault 56 = .ok (.ireturn, 1) := by decide +kernel
theorem dX2_startReading_0 : decode cX2_startReading 0 = .ok (.aload_n 0, 1) := by decide +kernel
theorem dX2_startReading_1 : decode cX2_startReading 1 = .ok (.iconst 0, 1) := by decide +kernel
theorem dX2_startReading_2 : decode cX2_startReading 2 = .ok (.putfield 19, 3) := by decide +kernel
theorem dX2_startReading_5 : decode cX2_startReading 5 = .ok (.aload_n 0, 1) := by decide +kernel
theorem dX2_startReading_6 : decode cX2_startReading 6 = .ok (.iconst 0, 1) := by decide +kernel
theorem dX2_startReading_7 : decode cX2_startReading 7 = .ok (.putfield 22, 3) := by decide +kernel
theorem dX2_startReading_10 : decode cX2_startReading 10 = .ok (.return_, 1) := by decide +kernel
theorem dX2_readOrder_0 : decode cX2_readOrder 0 = .ok (.aload_n 0, 1) := by decide +kernel
theorem dX2_readOrder_1 : decode cX2_readOrder 1 = .ok (.getfield 19, 3) := by decide +kernel
theorem dX2_readOrder_4 : decode cX2_readOrder 4 = .ok (.ifCond .le 14, 3) := by decide +kernel
theorem dX2_readOrder_7 : decode cX2_readOrder 7 = .ok (.aload_n 0, 1) := by decide +kernel
theorem dX2_readOrder_8 : decode cX2_readOrder 8 = .ok (.bipush 59, 2) := by decide +kernel
theorem dX2_readOrder_10 : decode cX2_readOrder 10 = .ok (.invokevirtual 59, 3) := by decide +kernel
theorem dX2_readOrder_13 : decode cX2_readOrder 13 = .ok (.ifCond .ne 5, 3) := by decide +kernel
theorem dX2_readOrder_16 : decode cX2_readOrder 16 = .ok (.iconst 0, 1) := by decide +kernel
theorem dX2_readOrder_17 : decode cX2_readOrder 17 = .ok (.ireturn, 1) := by decide +kernel
theorem dX2_readOrder_18 : decode cX2_readOrder 18 = .ok (.aload_n 0, 1) := by decide +kernel
theorem dX2_readOrder_19 : decode cX2_readOrder 19 = .ok (.iconst 1, 1) := by decide +kernel
theorem dX2_readOrder_20 : decode cX2_readOrder 20 = .ok (.putfield 39, 3) := by decide +kernel
theorem dX2_readOrder_23 : decode cX2_readOrder 23 = .ok (.aload_n 0, 1) := by decide +kernel
theorem dX2_readOrder_24 : decode cX2_readOrder 24 = .ok (.bipush 102, 2) := by decide +kernel
theorem dX2_readOrder_26 : decode cX2_readOrder 26 = .ok (.invokevirtual 59, 3) := by decide +kernel
theorem dX2_readOrder_29 : decode cX2_readOrder 29 = .ok (.ifCond .eq 10, 3) := by decide +kernel
theorem dX2_readOrder_32 : decode cX2_readOrder 32 = .ok (.aload_n 0, 1) := by decide +kernel
theorem dX2_readOrder_33 : decode cX2_readOrder 33 = .ok (.invokevirtual 63, 3) := by decide +kernel
theorem dX2_readOrder_36 : decode cX2_readOrder 36 = .ok (.goto 76, 3) := by decide +kernel
theorem dX2_readOrder_39 : decode cX2_readOrder 39 = .ok (.aload_n 0, 1) := by decide +kernel
theorem dX2_readOrder_40 : decode cX2_readOrder 40 = .ok (.bipush 116, 2) := by decide +kernel
theorem dX2_readOrder_42 : decode cX2_readOrder 42 = .ok (.invokevirtual 59, 3) := by decide +kernel
theorem dX2_readOrder_45 : decode cX2_readOrder 45 = .ok (.ifCond .eq 20, 3) := by decide +kernel
theorem dX2_readOrder_48 : decode cX2_readOrder 48 = .ok (.aload_n 0, 1) := by decide +kernel
theorem dX2_readOrder_49 : decode cX2_readOrder 49 = .ok (.bipush 116, 2) := by decide +kernel
theorem dX2_readOrder_51 : decode cX2_readOrder 51 = .ok (.putfield 26, 3) := by decide +kernel
theorem dX2_readOrder_54 : decode cX2_readOrder 54 = .ok (.aload_n 0, 1) := by decide +kernel
theorem dX2_readOrder_55 : decode cX2_readOrder 55 = .ok (.aload_n 0, 1) := by decide +kernel
theorem dX2_readOrder_56 : decode cX2_readOrder 56 = .ok (.invokevirtual 66, 3) := by decide +kernel
theorem dX2_readOrder_59 : decode cX2_readOrder 59 = .ok (.putfield 30, 3) := by decide +kernel
theorem dX2_readOrder_62 : decode cX2_readOrder 62 = .ok (.goto 50, 3) := by decide +kernel
theorem dX2_readOrder_65 : decode cX2_readOrder 65 = .ok (.aload_n 0, 1) := by decide +kernel
theorem dX2_readOrder_66 : decode cX2_readOrder 66 = .ok (.bipush 113, 2) := by decide +kernel
theorem dX2_readOrder_68 : decode cX2_readOrder 68 = .ok (.invokevirtual 59, 3) := by decide +kernel
theorem dX2_readOrder_71 : decode cX2_readOrder 71 = .ok (.ifCond .eq 10, 3) := by decide +kernel
theorem dX2_readOrder_74 : decode cX2_readOrder 74 = .ok (.aload_n 0, 1) := by decide +kernel
theorem dX2_readOrder_75 : decode cX2_readOrder 75 = .ok (.invokevirtual 70, 3) := by decide +kernel
theorem dX2_readOrder_78 : decode cX2_readOrder 78 = .ok (.goto 34, 3) := by decide +kernel
theorem dX2_readOrder_81 : decode cX2_readOrder 81 = .ok (.aload_n 0, 1) := by decide +kernel
theorem dX2_readOrder_82 : decode cX2_readOrder 82 = .ok (.bipush 109, 2) := by decide +kernel
theorem dX2_readOrder_84 : decode cX2_readOrder 84 = .ok (.invokevirtual 59, 3) := by decide +kernel
theorem dX2_readOrder_87 : decode cX2_readOrder 87 = .ok (.ifCond .eq 20, 3) := by decide +kernel
theorem dX2_readOrder_90 : decode cX2_readOrder 90 = .ok (.aload_n 0, 1) := by decide +kernel
theorem dX2_readOrder_91 : decode cX2_readOrder 91 = .ok (.bipush 109, 2) := by decide +kernel
theorem dX2_readOrder_93 : decode cX2_readOrder 93 = .ok (.putfield 26, 3) := by decide +kernel
theorem dX2_readOrder_96 : decode cX2_readOrder 96 = .ok (.aload_n 0, 1) := by decide +kernel
theorem dX2_readOrder_97 : decode cX2_readOrder 97 = .ok (.aload_n 0, 1) := by decide +kernel
theorem dX2_readOrder_98 : decode cX2_readOrder 98 = .ok (.invokevirtual 73, 3) := by decide +kernel
theorem dX2_readOrder_101 : decode cX2_readOrder 101 = .ok (.putfield 30, 3) := by decide +kernel
theorem dX2_readOrder_104 : decode cX2_readOrder 104 = .ok (.goto 8, 3) := by decide +kernel
theorem dX2_readOrder_107 : decode cX2_readOrder 107 = .ok (.aload_n 0, 1) := by decide +kernel
theorem dX2_readOrder_108 : decode cX2_readOrder 108 = .ok (.iconst 1, 1) := by decide +kernel
theorem dX2_readOrder_109 : decode cX2_readOrder 109 = .ok (.putfield 22, 3) := by decide +kernel
theorem dX2_readOrder_112 : decode cX2_readOrder 112 = .ok (.aload_n 0, 1) := by decide +kernel
theorem dX2_readOrder_113 : decode cX2_readOrder 113 = .ok (.getfield 22, 3) := by decide +kernel
theorem dX2_readOrder_116 : decode cX2_readOrder 116 = .ok (.ifCond .ne 7, 3) := by decide +kernel
theorem dX2_readOrder_119 : decode cX2_readOrder 119 = .ok (.iconst 1, 1) := by decide +kernel
theorem dX2_readOrder_120 : decode cX2_readOrder 120 = .ok (.goto 4, 3) := by decide +kernel
theorem dX2_readOrder_123 : decode cX2_readOrder 123 = .ok (.iconst 0, 1) := by decide +kernel
theorem dX2_readOrder_124 : decode cX2_readOrder 124 = .ok (.ireturn, 1) := by decide +kernel
theorem dX2_readFrames_0 : decode cX2_readFrames 0 = .ok (.aload_n 0, 1) := by decide +kernel
theorem dX2_readFrames_1 : decode cX2_readFrames 1 = .ok (.bipush 102, 2) := by decide +kernel
theorem dX2_readFrames_3 : decode cX2_readFrames 3 = .ok (.putfield 26, 3) := by decide +kernel
theorem dX2_readFrames_6 : decode cX2_readFrames 6 = .ok (.aload_n 0, 1) := by decide +kernel
theorem dX2_readFrames_7 : decode cX2_readFrames 7 = .ok (.aload_n 0, 1) := by decide +kernel
theorem dX2_readFrames_8 : decode cX2_readFrames 8 = .ok (.invokevirtual 66, 3) := by decide +kernel
theorem dX2_readFrames_11 : decode cX2_readFrames 11 = .ok (.putfield 30, 3) := by decide +kernel
theorem dX2_readFrames_14 : decode cX2_readFrames 14 = .ok (.aload_n 0, 1) := by decide +kernel
theorem dX2_readFrames_15 : decode cX2_readFrames 15 = .ok (.bipush 42, 2) := by decide +kernel
theorem dX2_readFrames_17 : decode cX2_readFrames 17 = .ok (.invokevirtual 59, 3) := by decide +kernel
theorem dX2_readFrames_20 : decode cX2_readFrames 20 = .ok (.ifCond .eq 11, 3) := by decide +kernel
theorem dX2_readFrames_23 : decode cX2_readFrames 23 = .ok (.aload_n 0, 1) := by decide +kernel
theorem dX2_readFrames_24 : decode cX2_readFrames 24 = .ok (.aload_n 0, 1) := by decide +kernel
theorem dX2_readFrames_25 : decode cX2_readFrames 25 = .ok (.invokevirtual 66, 3) := by decide +kernel
theorem dX2_readFrames_28 : decode cX2_readFrames 28 = .ok (.putfield 39, 3) := by decide +kernel
theorem dX2_readFrames_31 : decode cX2_readFrames 31 = .ok (.return_, 1) := by decide +kernel
theorem dX2_readBounds_0 : decode cX2_readBounds 0 = .ok (.aload_n 0, 1) := by decide +kernel
theorem dX2_readBounds_1 : decode cX2_readBounds 1 = .ok (.bipush 113, 2) := by decide +kernel
theorem dX2_readBounds_3 : decode cX2_readBounds 3 = .ok (.putfield 26, 3) := by decide +kernel
theorem dX2_readBounds_6 : decode cX2_readBounds 6 = .ok (.aload_n 0, 1) := by decide +kernel
theorem dX2_readBounds_7 : decode cX2_readBounds 7 = .ok (.aload_n 0, 1) := by decide +kernel
theorem dX2_readBounds_8 : decode cX2_readBounds 8 = .ok (.invokevirtual 73, 3) := by decide +kernel
theorem dX2_readBounds_11 : decode cX2_readBounds 11 = .ok (.putfield 30, 3) := by decide +kernel
theorem dX2_readBounds_14 : decode cX2_readBounds 14 = .ok (.aload_n 0, 1) := by decide +kernel
theorem dX2_readBounds_15 : decode cX2_readBounds 15 = .ok (.bipush 61, 2) := by decide +kernel
theorem dX2_readBounds_17 : decode cX2_readBounds 17 = .ok (.invokevirtual 76, 3) := by decide +kernel
theorem dX2_readBounds_20 : decode cX2_readBounds 20 = .ok (.aload_n 0, 1) := by decide +kernel
theorem dX2_readBounds_21 : decode cX2_readBounds 21 = .ok (.aload_n 0, 1) := by decide +kernel
theorem dX2_readBounds_22 : decode cX2_readBounds 22 = .ok (.invokevirtual 66, 3) := by decide +kernel
theorem dX2_readBounds_25 : decode cX2_readBounds 25 = .ok (.putfield 33, 3) := by decide +kernel
theorem dX2_readBounds_28 : decode cX2_readBounds 28 = .ok (.aload_n 0, 1) := by decide +kernel
theorem dX2_readBounds_29 : decode cX2_readBounds 29 = .ok (.bipush 44, 2) := by decide +kernel
theorem dX2_readBounds_31 : decode cX2_readBounds 31 = .ok (.invokevirtual 76, 3) := by decide +kernel
theorem dX2_readBounds_34 : decode cX2_readBounds 34 = .ok (.aload_n 0, 1) := by decide +kernel
