theorem dX2_readBounds_35 : decode cX2_readBounds 35 = .ok (.aload_n 0, 1) := by decide +kernel
theorem dX2_readBounds_36 : decode cX2_readBounds 36 = .ok (.invokevirtual 66, 3) := by decide +kernel
theorem dX2_readBounds_39 : decode cX2_readBounds 39 = .ok (.putfield 36, 3) := by decide +kernel
theorem dX2_readBounds_42 : decode cX2_readBounds 42 = .ok (.return_, 1) := by decide +kernel
theorem dX2_readNumber_0 : decode cX2_readNumber 0 = .ok (.aload_n 0, 1) := by decide +kernel
theorem dX2_readNumber_1 : decode cX2_readNumber 1 = .ok (.invokevirtual 73, 3) := by decide +kernel
theorem dX2_readNumber_4 : decode cX2_readNumber 4 = .ok (.istore_n 1, 1) := by decide +kernel
theorem dX2_readNumber_5 : decode cX2_readNumber 5 = .ok (.iload_n 1, 1) := by decide +kernel
theorem dX2_readNumber_6 : decode cX2_readNumber 6 = .ok (.ifCond .le 20, 3) := by decide +kernel
theorem dX2_readNumber_9 : decode cX2_readNumber 9 = .ok (.aload_n 0, 1) := by decide +kernel
theorem dX2_readNumber_10 : decode cX2_readNumber 10 = .ok (.invokevirtual 80, 3) := by decide +kernel
theorem dX2_readNumber_13 : decode cX2_readNumber 13 = .ok (.ifCond .eq 13, 3) := by decide +kernel
theorem dX2_readNumber_16 : decode cX2_readNumber 16 = .ok (.bipush 10, 2) := by decide +kernel
theorem dX2_readNumber_18 : decode cX2_readNumber 18 = .ok (.iload_n 1, 1) := by decide +kernel
theorem dX2_readNumber_19 : decode cX2_readNumber 19 = .ok (.imul, 1) := by decide +kernel
theorem dX2_readNumber_20 : decode cX2_readNumber 20 = .ok (.aload_n 0, 1) := by decide +kernel
theorem dX2_readNumber_21 : decode cX2_readNumber 21 = .ok (.invokevirtual 73, 3) := by decide +kernel
theorem dX2_readNumber_24 : decode cX2_readNumber 24 = .ok (.iadd, 1) := by decide +kernel
theorem dX2_readNumber_25 : decode cX2_readNumber 25 = .ok (.istore_n 1, 1) := by decide +kernel
theorem dX2_readNumber_26 : decode cX2_readNumber 26 = .ok (.iload_n 1, 1) := by decide +kernel
theorem dX2_readNumber_27 : decode cX2_readNumber 27 = .ok (.ireturn, 1) := by decide +kernel
theorem dX2_readDigit_0 : decode cX2_readDigit 0 = .ok (.aload_n 0, 1) := by decide +kernel
theorem dX2_readDigit_1 : decode cX2_readDigit 1 = .ok (.invokevirtual 80, 3) := by decide +kernel
theorem dX2_readDigit_4 : decode cX2_readDigit 4 = .ok (.ifCond .ne 10, 3) := by decide +kernel
theorem dX2_readDigit_7 : decode cX2_readDigit 7 = .ok (.aload_n 0, 1) := by decide +kernel
theorem dX2_readDigit_8 : decode cX2_readDigit 8 = .ok (.iconst 1, 1) := by decide +kernel
theorem dX2_readDigit_9 : decode cX2_readDigit 9 = .ok (.putfield 22, 3) := by decide +kernel
theorem dX2_readDigit_12 : decode cX2_readDigit 12 = .ok (.iconst 0, 1) := by decide +kernel
theorem dX2_readDigit_13 : decode cX2_readDigit 13 = .ok (.ireturn, 1) := by decide +kernel
theorem dX2_readDigit_14 : decode cX2_readDigit 14 = .ok (.aload_n 0, 1) := by decide +kernel
theorem dX2_readDigit_15 : decode cX2_readDigit 15 = .ok (.getfield 11, 3) := by decide +kernel
theorem dX2_readDigit_18 : decode cX2_readDigit 18 = .ok (.aload_n 0, 1) := by decide +kernel
theorem dX2_readDigit_19 : decode cX2_readDigit 19 = .ok (.getfield 19, 3) := by decide +kernel
theorem dX2_readDigit_22 : decode cX2_readDigit 22 = .ok (.caload, 1) := by decide +kernel
theorem dX2_readDigit_23 : decode cX2_readDigit 23 = .ok (.bipush 48, 2) := by decide +kernel
theorem dX2_readDigit_25 : decode cX2_readDigit 25 = .ok (.isub, 1) := by decide +kernel
theorem dX2_readDigit_26 : decode cX2_readDigit 26 = .ok (.istore_n 1, 1) := by decide +kernel
theorem dX2_readDigit_27 : decode cX2_readDigit 27 = .ok (.aload_n 0, 1) := by decide +kernel
theorem dX2_readDigit_28 : decode cX2_readDigit 28 = .ok (.dup, 1) := by decide +kernel
theorem dX2_readDigit_29 : decode cX2_readDigit 29 = .ok (.getfield 19, 3) := by decide +kernel
theorem dX2_readDigit_32 : decode cX2_readDigit 32 = .ok (.iconst 1, 1) := by decide +kernel
theorem dX2_readDigit_33 : decode cX2_readDigit 33 = .ok (.iadd, 1) := by decide +kernel
theorem dX2_readDigit_34 : decode cX2_readDigit 34 = .ok (.putfield 19, 3) := by decide +kernel
theorem dX2_readDigit_37 : decode cX2_readDigit 37 = .ok (.iload_n 1, 1) := by decide +kernel
theorem dX2_readDigit_38 : decode cX2_readDigit 38 = .ok (.ireturn, 1) := by decide +kernel
theorem dX2_demand_0 : decode cX2_demand 0 = .ok (.aload_n 0, 1) := by decide +kernel
theorem dX2_demand_1 : decode cX2_demand 1 = .ok (.iload_n 1, 1) := by decide +kernel
theorem dX2_demand_2 : decode cX2_demand 2 = .ok (.invokevirtual 59, 3) := by decide +kernel
theorem dX2_demand_5 : decode cX2_demand 5 = .ok (.ifCond .ne 8, 3) := by decide +kernel
theorem dX2_demand_8 : decode cX2_demand 8 = .ok (.aload_n 0, 1) := by decide +kernel
theorem dX2_demand_9 : decode cX2_demand 9 = .ok (.iconst 1, 1) := by decide +kernel
theorem dX2_demand_10 : decode cX2_demand 10 = .ok (.putfield 22, 3) := by decide +kernel
theorem dX2_demand_13 : decode cX2_demand 13 = .ok (.return_, 1) := by decide +kernel
theorem dX2_readSign_0 : decode cX2_readSign 0 = .ok (.aload_n 0, 1) := by decide +kernel
theorem dX2_readSign_1 : decode cX2_readSign 1 = .ok (.getfield 22, 3) := by decide +kernel
theorem dX2_readSign_4 : decode cX2_readSign 4 = .ok (.ifCond .ne 27, 3) := by decide +kernel
theorem dX2_readSign_7 : decode cX2_readSign 7 = .ok (.aload_n 0, 1) := by decide +kernel
theorem dX2_readSign_8 : decode cX2_readSign 8 = .ok (.getfield 19, 3) := by decide +kernel
theorem dX2_readSign_11 : decode cX2_readSign 11 = .ok (.aload_n 0, 1) := by decide +kernel
theorem dX2_readSign_12 : decode cX2_readSign 12 = .ok (.getfield 15, 3) := by decide +kernel
theorem dX2_readSign_15 : decode cX2_readSign 15 = .ok (.if_icmp .ge 16, 3) := by decide +kernel
theorem dX2_readSign_18 : decode cX2_readSign 18 = .ok (.aload_n 0, 1) := by decide +kernel
theorem dX2_readSign_19 : decode cX2_readSign 19 = .ok (.getfield 11, 3) := by decide +kernel
theorem dX2_readSign_22 : decode cX2_readSign 22 = .ok (.aload_n 0, 1) := by decide +kernel
theorem dX2_readSign_23 : decode cX2_readSign 23 = .ok (.getfield 19, 3) := by decide +kernel
theorem dX2_readSign_26 : decode cX2_readSign 26 = .ok (.caload, 1) := by decide +kernel
theorem dX2_readSign_27 : decode cX2_readSign 27 = .ok (.iload_n 1, 1) := by decide +kernel
theorem dX2_readSign_28 : decode cX2_readSign 28 = .ok (.if_icmp .eq 5, 3) := by decide +kernel
theorem dX2_readSign_31 : decode cX2_readSign 31 = .ok (.iconst 0, 1) := by decide +kernel
theorem dX2_readSign_32 : decode cX2_readSign 32 = .ok (.ireturn, 1) := by decide +kernel
theorem dX2_readSign_33 : decode cX2_readSign 33 = .ok (.aload_n 0, 1) := by decide +kernel
theorem dX2_readSign_34 : decode cX2_readSign 34 = .ok (.dup, 1) := by decide +kernel
theorem dX2_readSign_35 : decode cX2_readSign 35 = .ok (.getfield 19, 3) := by decide +kernel
theorem dX2_readSign_38 : decode cX2_readSign 38 = .ok (.iconst 1, 1) := by decide +kernel
theorem dX2_readSign_39 : decode cX2_readSign 39 = .ok (.iadd, 1) := by decide +kernel
theorem dX2_readSign_40 : decode cX2_readSign 40 = .ok (.putfield 19, 3) := by decide +kernel
theorem dX2_readSign_43 : decode cX2_readSign 43 = .ok (.iconst 1, 1) := by decide +kernel
theorem dX2_readSign_44 : decode cX2_readSign 44 = .ok (.ireturn, 1) := by decide +kernel
theorem dX2_digitStands_0 : decode cX2_digitStands 0 = .ok (.aload_n 0, 1) := by decide +kernel
theorem dX2_digitStands_1 : decode cX2_digitStands 1 = .ok (.getfield 22, 3) := by decide +kernel
theorem dX2_digitStands_4 : decode cX2_digitStands 4 = .ok (.ifCond .ne 46, 3) := by decide +kernel
theorem dX2_digitStands_7 : decode cX2_digitStands 7 = .ok (.aload_n 0, 1) := by decide +kernel
theorem dX2_digitStands_8 : decode cX2_digitStands 8 = .ok (.getfield 19, 3) := by decide +kernel
theorem dX2_digitStands_11 : decode cX2_digitStands 11 = .ok (.aload_n 0, 1) := by decide +kernel
theorem dX2_digitStands_12 : decode cX2_digitStands 12 = .ok (.getfield 15, 3) := by decide +kernel
theorem dX2_digitStands_15 : decode cX2_digitStands 15 = .ok (.if_icmp .ge 35, 3) := by decide +kernel
theorem dX2_digitStands_18 : decode cX2_digitStands 18 = .ok (.aload_n 0, 1) := by decide +kernel
theorem dX2_digitStands_19 : decode cX2_digitStands 19 = .ok (.getfield 11, 3) := by decide +kernel
theorem dX2_digitStands_22 : decode cX2_digitStands 22 = .ok (.aload_n 0, 1) := by decide +kernel
theorem dX2_digitStands_23 : decode cX2_digitStands 23 = .ok (.getfield 19, 3) := by decide +kernel
theorem dX2_digitStands_26 : decode cX2_digitStands 26 = .ok (.caload, 1) := by decide +kernel
theorem dX2_digitStands_27 : decode cX2_digitStands 27 = .ok (.bipush 48, 2) := by decide +kernel
theorem dX2_digitStands_29 : decode cX2_digitStands 29 = .ok (.if_icmp .lt 21, 3) := by decide +kernel
theorem dX2_digitStands_32 : decode cX2_digitStands 32 = .ok (.aload_n 0, 1) := by decide +kernel
theorem dX2_digitStands_33 : decode cX2_digitStands 33 = .ok (.getfield 11, 3) := by decide +kernel
theorem dX2_digitStands_36 : decode cX2_digitStands 36 = .ok (.aload_n 0, 1) := by decide +kernel
theorem dX2_digitStands_37 : decode cX2_digitStands 37 = .ok (.getfield 19, 3) := by decide +kernel
theorem dX2_digitStands_40 : decode cX2_digitStands 40 = .ok (.caload, 1) := by decide +kernel
theorem dX2_digitStands_41 : decode cX2_digitStands 41 = .ok (.bipush 57, 2) := by decide +kernel
theorem dX2_digitStands_43 : decode cX2_digitStands 43 = .ok (.if_icmp .gt 7, 3) := by decide +kernel
theorem dX2_digitStands_46 : decode cX2_digitStands 46 = .ok (.iconst 1, 1) := by decide +kernel
theorem dX2_digitStands_47 : decode cX2_digitStands 47 = .ok (.goto 4, 3) := by decide +kernel
theorem dX2_digitStands_50 : decode cX2_digitStands 50 = .ok (.iconst 0, 1) := by decide +kernel
theorem dX2_digitStands_51 : decode cX2_digitStands 51 = .ok (.ireturn, 1) := by decide +kernel
theorem dX3_init_0 : decode cX3_init 0 = .ok (.aload_n 0, 1) := by decide +kernel
theorem dX3_init_1 : decode cX3_init 1 = .ok (.invokespecial 3, 3) := by decide +kernel
theorem dX3_init_4 : decode cX3_init 4 = .ok (.aload_n 0, 1) := by decide +kernel
theorem dX3_init_5 : decode cX3_init 5 = .ok (.iconst 4, 1) := by decide +kernel
theorem dX3_init_6 : decode cX3_init 6 = .ok (.putfield 9, 3) := by decide +kernel
theorem dX3_init_9 : decode cX3_init 9 = .ok (.aload_n 0, 1) := by decide +kernel
theorem dX3_init_10 : decode cX3_init 10 = .ok (.bipush 10, 2) := by decide +kernel
theorem dX3_init_12 : decode cX3_init 12 = .ok (.putfield 15, 3) := by decide +kernel
theorem dX3_init_15 : decode cX3_init 15 = .ok (.aload_n 0, 1) := by decide +kernel
theorem dX3_init_16 : decode cX3_init 16 = .ok (.iconst 4, 1) := by decide +kernel
theorem dX3_init_17 : decode cX3_init 17 = .ok (.putfield 18, 3) := by decide +kernel
theorem dX3_init_20 : decode cX3_init 20 = .ok (.aload_n 0, 1) := by decide +kernel
theorem dX3_init_21 : decode cX3_init 21 = .ok (.iconst (-1), 1) := by decide +kernel
theorem dX3_init_22 : decode cX3_init 22 = .ok (.putfield 21, 3) := by decide +kernel
theorem dX3_init_25 : decode cX3_init 25 = .ok (.aload_n 0, 1) := by decide +kernel
theorem dX3_init_26 : decode cX3_init 26 = .ok (.iconst 0, 1) := by decide +kernel
theorem dX3_init_27 : decode cX3_init 27 = .ok (.putfield 24, 3) := by decide +kernel
theorem dX3_init_30 : decode cX3_init 30 = .ok (.aload_n 0, 1) := by decide +kernel
theorem dX3_init_31 : decode cX3_init 31 = .ok (.iconst 0, 1) := by decide +kernel
theorem dX3_init_32 : decode cX3_init 32 = .ok (.putfield 28, 3) := by decide +kernel
theorem dX3_init_35 : decode cX3_init 35 = .ok (.aload_n 0, 1) := by decide +kernel
theorem dX3_init_36 : decode cX3_init 36 = .ok (.bipush (-6), 2) := by decide +kernel
theorem dX3_init_38 : decode cX3_init 38 = .ok (.putfield 31, 3) := by decide +kernel
theorem dX3_init_41 : decode cX3_init 41 = .ok (.aload_n 0, 1) := by decide +kernel
theorem dX3_init_42 : decode cX3_init 42 = .ok (.iconst 0, 1) := by decide +kernel
theorem dX3_init_43 : decode cX3_init 43 = .ok (.putfield 34, 3) := by decide +kernel
theorem dX3_init_46 : decode cX3_init 46 = .ok (.aload_n 0, 1) := by decide +kernel
theorem dX3_init_47 : decode cX3_init 47 = .ok (.iconst 0, 1) := by decide +kernel
theorem dX3_init_48 : decode cX3_init 48 = .ok (.putfield 37, 3) := by decide +kernel
theorem dX3_init_51 : decode cX3_init 51 = .ok (.aload_n 0, 1) := by decide +kernel
theorem dX3_init_52 : decode cX3_init 52 = .ok (.iconst 0, 1) := by decide +kernel
theorem dX3_init_53 : decode cX3_init 53 = .ok (.putfield 40, 3) := by decide +kernel
theorem dX3_init_56 : decode cX3_init 56 = .ok (.aload_n 0, 1) := by decide +kernel
theorem dX3_init_57 : decode cX3_init 57 = .ok (.iconst 0, 1) := by decide +kernel
theorem dX3_init_58 : decode cX3_init 58 = .ok (.putfield 43, 3) := by decide +kernel
theorem dX3_init_61 : decode cX3_init 61 = .ok (.aload_n 0, 1) := by decide +kernel
theorem dX3_init_62 : decode cX3_init 62 = .ok (.bipush (-6), 2) := by decide +kernel
theorem dX3_init_64 : decode cX3_init 64 = .ok (.putfield 46, 3) := by decide +kernel
theorem dX3_init_67 : decode cX3_init 67 = .ok (.aload_n 0, 1) := by decide +kernel
theorem dX3_init_68 : decode cX3_init 68 = .ok (.iconst 0, 1) := by decide +kernel
theorem dX3_init_69 : decode cX3_init 69 = .ok (.putfield 49, 3) := by decide +kernel
theorem dX3_init_72 : decode cX3_init 72 = .ok (.return_, 1) := by decide +kernel
theorem dX3_copyFrom_0 : decode cX3_copyFrom 0 = .ok (.aload_n 0, 1) := by decide +kernel
theorem dX3_copyFrom_1 : decode cX3_copyFrom 1 = .ok (.aload_n 1, 1) := by decide +kernel
theorem dX3_copyFrom_2 : decode cX3_copyFrom 2 = .ok (.getfield 9, 3) := by decide +kernel
theorem dX3_copyFrom_5 : decode cX3_copyFrom 5 = .ok (.putfield 9, 3) := by decide +kernel
theorem dX3_copyFrom_8 : decode cX3_copyFrom 8 = .ok (.aload_n 0, 1) := by decide +kernel
theorem dX3_copyFrom_9 : decode cX3_copyFrom 9 = .ok (.aload_n 1, 1) := by decide +kernel
theorem dX3_copyFrom_10 : decode cX3_copyFrom 10 = .ok (.getfield 15, 3) := by decide +kernel
theorem dX3_copyFrom_13 : decode cX3_copyFrom 13 = .ok (.putfield 15, 3) := by decide +kernel
theorem dX3_copyFrom_16 : decode cX3_copyFrom 16 = .ok (.aload_n 0, 1) := by decide +kernel
theorem dX3_copyFrom_17 : decode cX3_copyFrom 17 = .ok (.aload_n 1, 1) := by decide +kernel
theorem dX3_copyFrom_18 : decode cX3_copyFrom 18 = .ok (.getfield 18, 3) := by decide +kernel
theorem dX3_copyFrom_21 : decode cX3_copyFrom 21 = .ok (.putfield 18, 3) := by decide +kernel
theorem dX3_copyFrom_24 : decode cX3_copyFrom 24 = .ok (.aload_n 0, 1) := by decide +kernel
theorem dX3_copyFrom_25 : decode cX3_copyFrom 25 = .ok (.aload_n 1, 1) := by decide +kernel
theorem dX3_copyFrom_26 : decode cX3_copyFrom 26 = .ok (.getfield 21, 3) := by decide +kernel
theorem dX3_copyFrom_29 : decode cX3_copyFrom 29 = .ok (.putfield 21, 3) := by decide +kernel
theorem dX3_copyFrom_32 : decode cX3_copyFrom 32 = .ok (.aload_n 0, 1) := by decide +kernel
theorem dX3_copyFrom_33 : decode cX3_copyFrom 33 = .ok (.aload_n 1, 1) := by decide +kernel
theorem dX3_copyFrom_34 : decode cX3_copyFrom 34 = .ok (.getfield 24, 3) := by decide +kernel
theorem dX3_copyFrom_37 : decode cX3_copyFrom 37 = .ok (.putfield 24, 3) := by decide +kernel
theorem dX3_copyFrom_40 : decode cX3_copyFrom 40 = .ok (.aload_n 0, 1) := by decide +kernel
theorem dX3_copyFrom_41 : decode cX3_copyFrom 41 = .ok (.aload_n 1, 1) := by decide +kernel
theorem dX3_copyFrom_42 : decode cX3_copyFrom 42 = .ok (.getfield 28, 3) := by decide +kernel
theorem dX3_copyFrom_45 : decode cX3_copyFrom 45 = .ok (.putfield 28, 3) := by decide +kernel
theorem dX3_copyFrom_48 : decode cX3_copyFrom 48 = .ok (.aload_n 0, 1) := by decide +kernel
theorem dX3_copyFrom_49 : decode cX3_copyFrom 49 = .ok (.aload_n 1, 1) := by decide +kernel
theorem dX3_copyFrom_50 : decode cX3_copyFrom 50 = .ok (.getfield 31, 3) := by decide +kernel
theorem dX3_copyFrom_53 : decode cX3_copyFrom 53 = .ok (.putfield 31, 3) := by decide +kernel
theorem dX3_copyFrom_56 : decode cX3_copyFrom 56 = .ok (.aload_n 0, 1) := by decide +kernel
theorem dX3_copyFrom_57 : decode cX3_copyFrom 57 = .ok (.aload_n 1, 1) := by decide +kernel
theorem dX3_copyFrom_58 : decode cX3_copyFrom 58 = .ok (.getfield 34, 3) := by decide +kernel
theorem dX3_copyFrom_61 : decode cX3_copyFrom 61 = .ok (.putfield 34, 3) := by decide +kernel
theorem dX3_copyFrom_64 : decode cX3_copyFrom 64 = .ok (.aload_n 0, 1) := by decide +kernel
theorem dX3_copyFrom_65 : decode cX3_copyFrom 65 = .ok (.aload_n 1, 1) := by decide +kernel
theorem dX3_copyFrom_66 : decode cX3_copyFrom 66 = .ok (.getfield 37, 3) := by decide +kernel
theorem dX3_copyFrom_69 : decode cX3_copyFrom 69 = .ok (.putfield 37, 3) := by decide +kernel
theorem dX3_copyFrom_72 : decode cX3_copyFrom 72 = .ok (.aload_n 0, 1) := by decide +kernel
theorem dX3_copyFrom_73 : decode cX3_copyFrom 73 = .ok (.aload_n 1, 1) := by decide +kernel
theorem dX3_copyFrom_74 : decode cX3_copyFrom 74 = .ok (.getfield 40, 3) := by decide +kernel
theorem dX3_copyFrom_77 : decode cX3_copyFrom 77 = .ok (.putfield 40, 3) := by decide +kernel
theorem dX3_copyFrom_80 : decode cX3_copyFrom 80 = .ok (.aload_n 0, 1) := by decide +kernel
theorem dX3_copyFrom_81 : decode cX3_copyFrom 81 = .ok (.aload_n 1, 1) := by decide +kernel
theorem dX3_copyFrom_82 : decode cX3_copyFrom 82 = .ok (.getfield 43, 3) := by decide +kernel
theorem dX3_copyFrom_85 : decode cX3_copyFrom 85 = .ok (.putfield 43, 3) := by decide +kernel
theorem dX3_copyFrom_88 : decode cX3_copyFrom 88 = .ok (.aload_n 0, 1) := by decide +kernel
theorem dX3_copyFrom_89 : decode cX3_copyFrom 89 = .ok (.aload_n 1, 1) := by decide +kernel
theorem dX3_copyFrom_90 : decode cX3_copyFrom 90 = .ok (.getfield 46, 3) := by decide +kernel
theorem dX3_copyFrom_93 : decode cX3_copyFrom 93 = .ok (.putfield 46, 3) := by decide +kernel
theorem dX3_copyFrom_96 : decode cX3_copyFrom 96 = .ok (.aload_n 0, 1) := by decide +kernel
theorem dX3_copyFrom_97 : decode cX3_copyFrom 97 = .ok (.aload_n 1, 1) := by decide +kernel
theorem dX3_copyFrom_98 : decode cX3_copyFrom 98 = .ok (.getfield 49, 3) := by decide +kernel
theorem dX3_copyFrom_101 : decode cX3_copyFrom 101 = .ok (.putfield 49, 3) := by decide +kernel
theorem dX3_copyFrom_104 : decode cX3_copyFrom 104 = .ok (.return_, 1) := by decide +kernel
theorem dX3_emptyLike_0 : decode cX3_emptyLike 0 = .ok (.aload_n 0, 1) := by decide +kernel
theorem dX3_emptyLike_1 : decode cX3_emptyLike 1 = .ok (.aload_n 1, 1) := by decide +kernel
theorem dX3_emptyLike_2 : decode cX3_emptyLike 2 = .ok (.getfield 9, 3) := by decide +kernel
theorem dX3_emptyLike_5 : decode cX3_emptyLike 5 = .ok (.putfield 9, 3) := by decide +kernel
theorem dX3_emptyLike_8 : decode cX3_emptyLike 8 = .ok (.aload_n 0, 1) := by decide +kernel
theorem dX3_emptyLike_9 : decode cX3_emptyLike 9 = .ok (.aload_n 1, 1) := by decide +kernel
theorem dX3_emptyLike_10 : decode cX3_emptyLike 10 = .ok (.getfield 15, 3) := by decide +kernel
theorem dX3_emptyLike_13 : decode cX3_emptyLike 13 = .ok (.putfield 15, 3) := by decide +kernel
theorem dX3_emptyLike_16 : decode cX3_emptyLike 16 = .ok (.aload_n 0, 1) := by decide +kernel
theorem dX3_emptyLike_17 : decode cX3_emptyLike 17 = .ok (.aload_n 1, 1) := by decide +kernel
theorem dX3_emptyLike_18 : decode cX3_emptyLike 18 = .ok (.getfield 9, 3) := by decide +kernel
theorem dX3_emptyLike_21 : decode cX3_emptyLike 21 = .ok (.putfield 18, 3) := by decide +kernel
theorem dX3_emptyLike_24 : decode cX3_emptyLike 24 = .ok (.aload_n 0, 1) := by decide +kernel
theorem dX3_emptyLike_25 : decode cX3_emptyLike 25 = .ok (.iconst (-1), 1) := by decide +kernel
theorem dX3_emptyLike_26 : decode cX3_emptyLike 26 = .ok (.putfield 21, 3) := by decide +kernel
theorem dX3_emptyLike_29 : decode cX3_emptyLike 29 = .ok (.aload_n 0, 1) := by decide +kernel
theorem dX3_emptyLike_30 : decode cX3_emptyLike 30 = .ok (.iconst 0, 1) := by decide +kernel
theorem dX3_emptyLike_31 : decode cX3_emptyLike 31 = .ok (.putfield 24, 3) := by decide +kernel
theorem dX3_emptyLike_34 : decode cX3_emptyLike 34 = .ok (.aload_n 0, 1) := by decide +kernel
theorem dX3_emptyLike_35 : decode cX3_emptyLike 35 = .ok (.iconst 0, 1) := by decide +kernel
theorem dX3_emptyLike_36 : decode cX3_emptyLike 36 = .ok (.putfield 28, 3) := by decide +kernel
theorem dX3_emptyLike_39 : decode cX3_emptyLike 39 = .ok (.aload_n 0, 1) := by decide +kernel
theorem dX3_emptyLike_40 : decode cX3_emptyLike 40 = .ok (.bipush (-6), 2) := by decide +kernel
theorem dX3_emptyLike_42 : decode cX3_emptyLike 42 = .ok (.putfield 31, 3) := by decide +kernel
theorem dX3_emptyLike_45 : decode cX3_emptyLike 45 = .ok (.aload_n 0, 1) := by decide +kernel
theorem dX3_emptyLike_46 : decode cX3_emptyLike 46 = .ok (.iconst 0, 1) := by decide +kernel
theorem dX3_emptyLike_47 : decode cX3_emptyLike 47 = .ok (.putfield 34, 3) := by decide +kernel
theorem dX3_emptyLike_50 : decode cX3_emptyLike 50 = .ok (.aload_n 0, 1) := by decide +kernel
theorem dX3_emptyLike_51 : decode cX3_emptyLike 51 = .ok (.iconst 0, 1) := by decide +kernel
theorem dX3_emptyLike_52 : decode cX3_emptyLike 52 = .ok (.putfield 37, 3) := by decide +kernel
theorem dX3_emptyLike_55 : decode cX3_emptyLike 55 = .ok (.aload_n 0, 1) := by decide +kernel
theorem dX3_emptyLike_56 : decode cX3_emptyLike 56 = .ok (.iconst 0, 1) := by decide +kernel
theorem dX3_emptyLike_57 : decode cX3_emptyLike 57 = .ok (.putfield 40, 3) := by decide +kernel
theorem dX3_emptyLike_60 : decode cX3_emptyLike 60 = .ok (.aload_n 0, 1) := by decide +kernel
theorem dX3_emptyLike_61 : decode cX3_emptyLike 61 = .ok (.iconst 0, 1) := by decide +kernel
theorem dX3_emptyLike_62 : decode cX3_emptyLike 62 = .ok (.putfield 43, 3) := by decide +kernel
theorem dX3_emptyLike_65 : decode cX3_emptyLike 65 = .ok (.aload_n 0, 1) := by decide +kernel
theorem dX3_emptyLike_66 : decode cX3_emptyLike 66 = .ok (.bipush (-6), 2) := by decide +kernel
theorem dX3_emptyLike_68 : decode cX3_emptyLike 68 = .ok (.putfield 46, 3) := by decide +kernel
theorem dX3_emptyLike_71 : decode cX3_emptyLike 71 = .ok (.aload_n 0, 1) := by decide +kernel
theorem dX3_emptyLike_72 : decode cX3_emptyLike 72 = .ok (.iconst 0, 1) := by decide +kernel
theorem dX3_emptyLike_73 : decode cX3_emptyLike 73 = .ok (.putfield 49, 3) := by decide +kernel
theorem dX3_emptyLike_76 : decode cX3_emptyLike 76 = .ok (.return_, 1) := by decide +kernel
theorem dX3_isCalled_0 : decode cX3_isCalled 0 = .ok (.aload_n 0, 1) := by decide +kernel
theorem dX3_isCalled_1 : decode cX3_isCalled 1 = .ok (.getfield 21, 3) := by decide +kernel
theorem dX3_isCalled_4 : decode cX3_isCalled 4 = .ok (.iconst (-1), 1) := by decide +kernel
theorem dX3_isCalled_5 : decode cX3_isCalled 5 = .ok (.if_icmp .eq 7, 3) := by decide +kernel
theorem dX3_isCalled_8 : decode cX3_isCalled 8 = .ok (.iconst 1, 1) := by decide +kernel
theorem dX3_isCalled_9 : decode cX3_isCalled 9 = .ok (.goto 4, 3) := by decide +kernel
theorem dX3_isCalled_12 : decode cX3_isCalled 12 = .ok (.iconst 0, 1) := by decide +kernel
theorem dX3_isCalled_13 : decode cX3_isCalled 13 = .ok (.ireturn, 1) := by decide +kernel
theorem dX3_noteTaken_0 : decode cX3_noteTaken 0 = .ok (.aload_n 0, 1) := by decide +kernel
theorem dX3_noteTaken_1 : decode cX3_noteTaken 1 = .ok (.dup, 1) := by decide +kernel
theorem dX3_noteTaken_2 : decode cX3_noteTaken 2 = .ok (.getfield 28, 3) := by decide +kernel
theorem dX3_noteTaken_5 : decode cX3_noteTaken 5 = .ok (.iconst 1, 1) := by decide +kernel
theorem dX3_noteTaken_6 : decode cX3_noteTaken 6 = .ok (.isub, 1) := by decide +kernel
theorem dX3_noteTaken_7 : decode cX3_noteTaken 7 = .ok (.putfield 28, 3) := by decide +kernel
theorem dX3_noteTaken_10 : decode cX3_noteTaken 10 = .ok (.aload_n 0, 1) := by decide +kernel
theorem dX3_noteTaken_11 : decode cX3_noteTaken 11 = .ok (.dup, 1) := by decide +kernel
theorem dX3_noteTaken_12 : decode cX3_noteTaken 12 = .ok (.getfield 37, 3) := by decide +kernel
theorem dX3_noteTaken_15 : decode cX3_noteTaken 15 = .ok (.iconst 1, 1) := by decide +kernel
theorem dX3_noteTaken_16 : decode cX3_noteTaken 16 = .ok (.iadd, 1) := by decide +kernel
theorem dX3_noteTaken_17 : decode cX3_noteTaken 17 = .ok (.putfield 37, 3) := by decide +kernel
theorem dX3_noteTaken_20 : decode cX3_noteTaken 20 = .ok (.aload_n 0, 1) := by decide +kernel
theorem dX3_noteTaken_21 : decode cX3_noteTaken 21 = .ok (.dup, 1) := by decide +kernel
theorem dX3_noteTaken_22 : decode cX3_noteTaken 22 = .ok (.getfield 49, 3) := by decide +kernel
theorem dX3_noteTaken_25 : decode cX3_noteTaken 25 = .ok (.iconst 1, 1) := by decide +kernel
theorem dX3_noteTaken_26 : decode cX3_noteTaken 26 = .ok (.iadd, 1) := by decide +kernel
theorem dX3_noteTaken_27 : decode cX3_noteTaken 27 = .ok (.putfield 49, 3) := by decide +kernel
theorem dX3_noteTaken_30 : decode cX3_noteTaken 30 = .ok (.aload_n 0, 1) := by decide +kernel
theorem dX3_noteTaken_31 : decode cX3_noteTaken 31 = .ok (.dup, 1) := by decide +kernel
theorem dX3_noteTaken_32 : decode cX3_noteTaken 32 = .ok (.getfield 43, 3) := by decide +kernel
theorem dX3_noteTaken_35 : decode cX3_noteTaken 35 = .ok (.iload_n 1, 1) := by decide +kernel
theorem dX3_noteTaken_36 : decode cX3_noteTaken 36 = .ok (.iadd, 1) := by decide +kernel
theorem dX3_noteTaken_37 : decode cX3_noteTaken 37 = .ok (.putfield 43, 3) := by decide +kernel
theorem dX3_noteTaken_40 : decode cX3_noteTaken 40 = .ok (.aload_n 0, 1) := by decide +kernel
theorem dX3_noteTaken_41 : decode cX3_noteTaken 41 = .ok (.iload_n 1, 1) := by decide +kernel
theorem dX3_noteTaken_42 : decode cX3_noteTaken 42 = .ok (.aload_n 0, 1) := by decide +kernel
theorem dX3_noteTaken_43 : decode cX3_noteTaken 43 = .ok (.getfield 46, 3) := by decide +kernel
theorem dX3_noteTaken_46 : decode cX3_noteTaken 46 = .ok (.if_icmp .le 7, 3) := by decide +kernel
theorem dX3_noteTaken_49 : decode cX3_noteTaken 49 = .ok (.iload_n 1, 1) := by decide +kernel
theorem dX3_noteTaken_50 : decode cX3_noteTaken 50 = .ok (.goto 7, 3) := by decide +kernel
theorem dX3_noteTaken_53 : decode cX3_noteTaken 53 = .ok (.aload_n 0, 1) := by decide +kernel
theorem dX3_noteTaken_54 : decode cX3_noteTaken 54 = .ok (.getfield 46, 3) := by decide +kernel
theorem dX3_noteTaken_57 : decode cX3_noteTaken 57 = .ok (.putfield 46, 3) := by decide +kernel
theorem dX3_noteTaken_60 : decode cX3_noteTaken 60 = .ok (.return_, 1) := by decide +kernel
theorem dX3_becomeIdle_0 : decode cX3_becomeIdle 0 = .ok (.iload_n 1, 1) := by decide +kernel
theorem dX3_becomeIdle_1 : decode cX3_becomeIdle 1 = .ok (.ifCond .eq 34, 3) := by decide +kernel
theorem dX3_becomeIdle_4 : decode cX3_becomeIdle 4 = .ok (.aload_n 0, 1) := by decide +kernel
theorem dX3_becomeIdle_5 : decode cX3_becomeIdle 5 = .ok (.getfield 49, 3) := by decide +kernel
theorem dX3_becomeIdle_8 : decode cX3_becomeIdle 8 = .ok (.iconst 2, 1) := by decide +kernel
theorem dX3_becomeIdle_9 : decode cX3_becomeIdle 9 = .ok (.aload_n 0, 1) := by decide +kernel
theorem dX3_becomeIdle_10 : decode cX3_becomeIdle 10 = .ok (.getfield 18, 3) := by decide +kernel
theorem dX3_becomeIdle_13 : decode cX3_becomeIdle 13 = .ok (.imul, 1) := by decide +kernel
theorem dX3_becomeIdle_14 : decode cX3_becomeIdle 14 = .ok (.if_icmp .le 21, 3) := by decide +kernel
theorem dX3_becomeIdle_17 : decode cX3_becomeIdle 17 = .ok (.aload_n 0, 1) := by decide +kernel
theorem dX3_becomeIdle_18 : decode cX3_becomeIdle 18 = .ok (.iconst 2, 1) := by decide +kernel
theorem dX3_becomeIdle_19 : decode cX3_becomeIdle 19 = .ok (.aload_n 0, 1) := by decide +kernel
theorem dX3_becomeIdle_20 : decode cX3_becomeIdle 20 = .ok (.getfield 18, 3) := by decide +kernel
theorem dX3_becomeIdle_23 : decode cX3_becomeIdle 23 = .ok (.imul, 1) := by decide +kernel
theorem dX3_becomeIdle_24 : decode cX3_becomeIdle 24 = .ok (.bipush 32, 2) := by decide +kernel
theorem dX3_becomeIdle_26 : decode cX3_becomeIdle 26 = .ok (.invokestatic 52, 3) := by decide +kernel
theorem dX3_becomeIdle_29 : decode cX3_becomeIdle 29 = .ok (.putfield 18, 3) := by decide +kernel
theorem dX3_becomeIdle_32 : decode cX3_becomeIdle 32 = .ok (.goto 34, 3) := by decide +kernel
theorem dX3_becomeIdle_35 : decode cX3_becomeIdle 35 = .ok (.iload_n 1, 1) := by decide +kernel
theorem dX3_becomeIdle_36 : decode cX3_becomeIdle 36 = .ok (.ifCond .eq 30, 3) := by decide +kernel
theorem dX3_becomeIdle_39 : decode cX3_becomeIdle 39 = .ok (.iconst 2, 1) := by decide +kernel
theorem dX3_becomeIdle_40 : decode cX3_becomeIdle 40 = .ok (.aload_n 0, 1) := by decide +kernel
theorem dX3_becomeIdle_41 : decode cX3_becomeIdle 41 = .ok (.getfield 49, 3) := by decide +kernel
theorem dX3_becomeIdle_44 : decode cX3_becomeIdle 44 = .ok (.imul, 1) := by decide +kernel
theorem dX3_becomeIdle_45 : decode cX3_becomeIdle 45 = .ok (.aload_n 0, 1) := by decide +kernel
theorem dX3_becomeIdle_46 : decode cX3_becomeIdle 46 = .ok (.getfield 18, 3) := by decide +kernel
theorem dX3_becomeIdle_49 : decode cX3_becomeIdle 49 = .ok (.if_icmp .ge 17, 3) := by decide +kernel
theorem dX3_becomeIdle_52 : decode cX3_becomeIdle 52 = .ok (.aload_n 0, 1) := by decide +kernel
theorem dX3_becomeIdle_53 : decode cX3_becomeIdle 53 = .ok (.aload_n 0, 1) := by decide +kernel
theorem dX3_becomeIdle_54 : decode cX3_becomeIdle 54 = .ok (.getfield 18, 3) := by decide +kernel
theorem dX3_becomeIdle_57 : decode cX3_becomeIdle 57 = .ok (.iconst 2, 1) := by decide +kernel
theorem dX3_becomeIdle_58 : decode cX3_becomeIdle 58 = .ok (.idiv, 1) := by decide +kernel
theorem dX3_becomeIdle_59 : decode cX3_becomeIdle 59 = .ok (.iconst 1, 1) := by decide +kernel
theorem dX3_becomeIdle_60 : decode cX3_becomeIdle 60 = .ok (.invokestatic 58, 3) := by decide +kernel
theorem dX3_becomeIdle_63 : decode cX3_becomeIdle 63 = .ok (.putfield 18, 3) := by decide +kernel
theorem dX3_becomeIdle_66 : decode cX3_becomeIdle 66 = .ok (.aload_n 0, 1) := by decide +kernel
theorem dX3_becomeIdle_67 : decode cX3_becomeIdle 67 = .ok (.iconst 0, 1) := by decide +kernel
theorem dX3_becomeIdle_68 : decode cX3_becomeIdle 68 = .ok (.putfield 49, 3) := by decide +kernel
theorem dX3_becomeIdle_71 : decode cX3_becomeIdle 71 = .ok (.return_, 1) := by decide +kernel
theorem dX3_fact_0 : decode cX3_fact 0 = .ok (.iload_n 1, 1) := by decide +kernel
theorem dX3_fact_1 : decode cX3_fact 1 = .ok (.tableswitch 148 0 12 #[67, 72, 77, 82, 87, 100, 113, 118, 123, 128, 133, 138, 143], 67) := by decide +kernel
theorem dX3_fact_68 : decode cX3_fact 68 = .ok (.aload_n 0, 1) := by decide +kernel
theorem dX3_fact_69 : decode cX3_fact 69 = .ok (.getfield 9, 3) := by decide +kernel
theorem dX3_fact_72 : decode cX3_fact 72 = .ok (.ireturn, 1) := by decide +kernel
theorem dX3_fact_73 : decode cX3_fact 73 = .ok (.aload_n 0, 1) := by decide +kernel
theorem dX3_fact_74 : decode cX3_fact 74 = .ok (.getfield 15, 3) := by decide +kernel
theorem dX3_fact_77 : decode cX3_fact 77 = .ok (.ireturn, 1) := by decide +kernel
theorem dX3_fact_78 : decode cX3_fact 78 = .ok (.aload_n 0, 1) := by decide +kernel
theorem dX3_fact_79 : decode cX3_fact 79 = .ok (.getfield 18, 3) := by decide +kernel
theorem dX3_fact_82 : decode cX3_fact 82 = .ok (.ireturn, 1) := by decide +kernel
theorem dX3_fact_83 : decode cX3_fact 83 = .ok (.aload_n 0, 1) := by decide +kernel
theorem dX3_fact_84 : decode cX3_fact 84 = .ok (.getfield 28, 3) := by decide +kernel
theorem dX3_fact_87 : decode cX3_fact 87 = .ok (.ireturn, 1) := by decide +kernel
theorem dX3_fact_88 : decode cX3_fact 88 = .ok (.aload_n 0, 1) := by decide +kernel
theorem dX3_fact_89 : decode cX3_fact 89 = .ok (.invokevirtual 61, 3) := by decide +kernel
theorem dX3_fact_92 : decode cX3_fact 92 = .ok (.ifCond .eq 7, 3) := by decide +kernel
theorem dX3_fact_95 : decode cX3_fact 95 = .ok (.iconst 1, 1) := by decide +kernel
theorem dX3_fact_96 : decode cX3_fact 96 = .ok (.goto 4, 3) := by decide +kernel
theorem dX3_fact_99 : decode cX3_fact 99 = .ok (.iconst 0, 1) := by decide +kernel
theorem dX3_fact_100 : decode cX3_fact 100 = .ok (.ireturn, 1) := by decide +kernel
theorem dX3_fact_101 : decode cX3_fact 101 = .ok (.aload_n 0, 1) := by decide +kernel
theorem dX3_fact_102 : decode cX3_fact 102 = .ok (.getfield 24, 3) := by decide +kernel
theorem dX3_fact_105 : decode cX3_fact 105 = .ok (.ifCond .eq 7, 3) := by decide +kernel
theorem dX3_fact_108 : decode cX3_fact 108 = .ok (.iconst 1, 1) := by decide +kernel
theorem dX3_fact_109 : decode cX3_fact 109 = .ok (.goto 4, 3) := by decide +kernel
theorem dX3_fact_112 : decode cX3_fact 112 = .ok (.iconst 0, 1) := by decide +kernel
theorem dX3_fact_113 : decode cX3_fact 113 = .ok (.ireturn, 1) := by decide +kernel
theorem dX3_fact_114 : decode cX3_fact 114 = .ok (.aload_n 0, 1) := by decide +kernel
theorem dX3_fact_115 : decode cX3_fact 115 = .ok (.getfield 34, 3) := by decide +kernel
theorem dX3_fact_118 : decode cX3_fact 118 = .ok (.ireturn, 1) := by decide +kernel
theorem dX3_fact_119 : decode cX3_fact 119 = .ok (.aload_n 0, 1) := by decide +kernel
theorem dX3_fact_120 : decode cX3_fact 120 = .ok (.getfield 37, 3) := by decide +kernel
theorem dX3_fact_123 : decode cX3_fact 123 = .ok (.ireturn, 1) := by decide +kernel
theorem dX3_fact_124 : decode cX3_fact 124 = .ok (.aload_n 0, 1) := by decide +kernel
theorem dX3_fact_125 : decode cX3_fact 125 = .ok (.getfield 40, 3) := by decide +kernel
theorem dX3_fact_128 : decode cX3_fact 128 = .ok (.ireturn, 1) := by decide +kernel
theorem dX3_fact_129 : decode cX3_fact 129 = .ok (.aload_n 0, 1) := by decide +kernel
theorem dX3_fact_130 : decode cX3_fact 130 = .ok (.getfield 43, 3) := by decide +kernel
theorem dX3_fact_133 : decode cX3_fact 133 = .ok (.ireturn, 1) := by decide +kernel
theorem dX3_fact_134 : decode cX3_fact 134 = .ok (.aload_n 0, 1) := by decide +kernel
theorem dX3_fact_135 : decode cX3_fact 135 = .ok (.getfield 46, 3) := by decide +kernel
theorem dX3_fact_138 : decode cX3_fact 138 = .ok (.ireturn, 1) := by decide +kernel
theorem dX3_fact_139 : decode cX3_fact 139 = .ok (.aload_n 0, 1) := by decide +kernel
theorem dX3_fact_140 : decode cX3_fact 140 = .ok (.getfield 49, 3) := by decide +kernel
theorem dX3_fact_143 : decode cX3_fact 143 = .ok (.ireturn, 1) := by decide +kernel
theorem dX3_fact_144 : decode cX3_fact 144 = .ok (.aload_n 0, 1) := by decide +kernel
theorem dX3_fact_145 : decode cX3_fact 145 = .ok (.getfield 31, 3) := by decide +kernel
theorem dX3_fact_148 : decode cX3_fact 148 = .ok (.ireturn, 1) := by decide +kernel
theorem dX3_fact_149 : decode cX3_fact 149 = .ok (.bipush (-2), 2) := by decide +kernel
theorem dX3_fact_151 : decode cX3_fact 151 = .ok (.ireturn, 1) := by decide +kernel
theorem dX4_init_0 : decode cX4_init 0 = .ok (.aload_n 0, 1) := by decide +kernel
theorem dX4_init_1 : decode cX4_init 1 = .ok (.invokespecial 1, 3) := by decide +kernel
theorem dX4_init_4 : decode cX4_init 4 = .ok (.aload_n 0, 1) := by decide +kernel
theorem dX4_init_5 : decode cX4_init 5 = .ok (.new 7, 3) := by decide +kernel
theorem dX4_init_8 : decode cX4_init 8 = .ok (.dup, 1) := by decide +kernel
theorem dX4_init_9 : decode cX4_init 9 = .ok (.invokespecial 9, 3) := by decide +kernel
theorem dX4_init_12 : decode cX4_init 12 = .ok (.putfield 10, 3) := by decide +kernel
theorem dX4_init_15 : decode cX4_init 15 = .ok (.aload_n 0, 1) := by decide +kernel
theorem dX4_init_16 : decode cX4_init 16 = .ok (.new 7, 3) := by decide +kernel
theorem dX4_init_19 : decode cX4_init 19 = .ok (.dup, 1) := by decide +kernel
theorem dX4_init_20 : decode cX4_init 20 = .ok (.invokespecial 9, 3) := by decide +kernel
theorem dX4_init_23 : decode cX4_init 23 = .ok (.putfield 16, 3) := by decide +kernel
theorem dX4_init_26 : decode cX4_init 26 = .ok (.aload_n 0, 1) := by decide +kernel
theorem dX4_init_27 : decode cX4_init 27 = .ok (.iconst 2, 1) := by decide +kernel
theorem dX4_init_28 : decode cX4_init 28 = .ok (.anewarray 7, 3) := by decide +kernel
theorem dX4_init_31 : decode cX4_init 31 = .ok (.putfield 19, 3) := by decide +kernel
theorem dX4_init_34 : decode cX4_init 34 = .ok (.aload_n 0, 1) := by decide +kernel
theorem dX4_init_35 : decode cX4_init 35 = .ok (.iconst 2, 1) := by decide +kernel
theorem dX4_init_36 : decode cX4_init 36 = .ok (.newarray .boolean, 2) := by decide +kernel
theorem dX4_init_38 : decode cX4_init 38 = .ok (.putfield 23, 3) := by decide +kernel
theorem dX4_init_41 : decode cX4_init 41 = .ok (.aload_n 0, 1) := by decide +kernel
theorem dX4_init_42 : decode cX4_init 42 = .ok (.new 27, 3) := by decide +kernel
theorem dX4_init_45 : decode cX4_init 45 = .ok (.dup, 1) := by decide +kernel
theorem dX4_init_46 : decode cX4_init 46 = .ok (.invokespecial 29, 3) := by decide +kernel
theorem dX4_init_49 : decode cX4_init 49 = .ok (.putfield 30, 3) := by decide +kernel
theorem dX4_init_52 : decode cX4_init 52 = .ok (.aload_n 0, 1) := by decide +kernel
theorem dX4_init_53 : decode cX4_init 53 = .ok (.new 34, 3) := by decide +kernel
theorem dX4_init_56 : decode cX4_init 56 = .ok (.dup, 1) := by decide +kernel
theorem dX4_init_57 : decode cX4_init 57 = .ok (.invokespecial 36, 3) := by decide +kernel
theorem dX4_init_60 : decode cX4_init 60 = .ok (.putfield 37, 3) := by decide +kernel
theorem dX4_init_63 : decode cX4_init 63 = .ok (.iconst 0, 1) := by decide +kernel
theorem dX4_init_64 : decode cX4_init 64 = .ok (.istore_n 1, 1) := by decide +kernel
theorem dX4_init_65 : decode cX4_init 65 = .ok (.iload_n 1, 1) := by decide +kernel
theorem dX4_init_66 : decode cX4_init 66 = .ok (.iconst 2, 1) := by decide +kernel
theorem dX4_init_67 : decode cX4_init 67 = .ok (.if_icmp .ge 22, 3) := by decide +kernel
theorem dX4_init_70 : decode cX4_init 70 = .ok (.aload_n 0, 1) := by decide +kernel
theorem dX4_init_71 : decode cX4_init 71 = .ok (.getfield 19, 3) := by decide +kernel
theorem dX4_init_74 : decode cX4_init 74 = .ok (.iload_n 1, 1) := by decide +kernel
theorem dX4_init_75 : decode cX4_init 75 = .ok (.new 7, 3) := by decide +kernel
theorem dX4_init_78 : decode cX4_init 78 = .ok (.dup, 1) := by decide +kernel
theorem dX4_init_79 : decode cX4_init 79 = .ok (.invokespecial 9, 3) := by decide +kernel
theorem dX4_init_82 : decode cX4_init 82 = .ok (.aastore, 1) := by decide +kernel
theorem dX4_init_83 : decode cX4_init 83 = .ok (.iinc 1 1, 3) := by decide +kernel
theorem dX4_init_86 : decode cX4_init 86 = .ok (.goto (-21), 3) := by decide +kernel
theorem dX4_init_89 : decode cX4_init 89 = .ok (.return_, 1) := by decide +kernel
theorem dX4_set_0 : decode cX4_set 0 = .ok (.aload_n 0, 1) := by decide +kernel
theorem dX4_set_1 : decode cX4_set 1 = .ok (.getfield 30, 3) := by decide +kernel
theorem dX4_set_4 : decode cX4_set 4 = .ok (.aload_n 0, 1) := by decide +kernel
theorem dX4_set_5 : decode cX4_set 5 = .ok (.getfield 10, 3) := by decide +kernel
theorem dX4_set_8 : decode cX4_set 8 = .ok (.invokevirtual 41, 3) := by decide +kernel
theorem dX4_set_11 : decode cX4_set 11 = .ok (.aload_n 0, 1) := by decide +kernel
theorem dX4_set_12 : decode cX4_set 12 = .ok (.getfield 30, 3) := by decide +kernel
theorem dX4_set_15 : decode cX4_set 15 = .ok (.aload_n 0, 1) := by decide +kernel
theorem dX4_set_16 : decode cX4_set 16 = .ok (.getfield 10, 3) := by decide +kernel
theorem dX4_set_19 : decode cX4_set 19 = .ok (.iload_n 1, 1) := by decide +kernel
theorem dX4_set_20 : decode cX4_set 20 = .ok (.iload_n 2, 1) := by decide +kernel
theorem dX4_set_21 : decode cX4_set 21 = .ok (.invokevirtual 45, 3) := by decide +kernel
theorem dX4_set_24 : decode cX4_set 24 = .ok (.invokevirtual 49, 3) := by decide +kernel
theorem dX4_set_27 : decode cX4_set 27 = .ok (.ireturn, 1) := by decide +kernel
theorem dX4_bounds_0 : decode cX4_bounds 0 = .ok (.aload_n 0, 1) := by decide +kernel
theorem dX4_bounds_1 : decode cX4_bounds 1 = .ok (.getfield 30, 3) := by decide +kernel
theorem dX4_bounds_4 : decode cX4_bounds 4 = .ok (.aload_n 0, 1) := by decide +kernel
theorem dX4_bounds_5 : decode cX4_bounds 5 = .ok (.getfield 10, 3) := by decide +kernel
theorem dX4_bounds_8 : decode cX4_bounds 8 = .ok (.invokevirtual 41, 3) := by decide +kernel
theorem dX4_bounds_11 : decode cX4_bounds 11 = .ok (.aload_n 0, 1) := by decide +kernel
theorem dX4_bounds_12 : decode cX4_bounds 12 = .ok (.getfield 30, 3) := by decide +kernel
theorem dX4_bounds_15 : decode cX4_bounds 15 = .ok (.aload_n 0, 1) := by decide +kernel
theorem dX4_bounds_16 : decode cX4_bounds 16 = .ok (.getfield 10, 3) := by decide +kernel
theorem dX4_bounds_19 : decode cX4_bounds 19 = .ok (.iload_n 1, 1) := by decide +kernel
theorem dX4_bounds_20 : decode cX4_bounds 20 = .ok (.iload_n 2, 1) := by decide +kernel
theorem dX4_bounds_21 : decode cX4_bounds 21 = .ok (.iload_n 3, 1) := by decide +kernel
theorem dX4_bounds_22 : decode cX4_bounds 22 = .ok (.invokevirtual 53, 3) := by decide +kernel
theorem dX4_bounds_25 : decode cX4_bounds 25 = .ok (.invokevirtual 49, 3) := by decide +kernel
theorem dX4_bounds_28 : decode cX4_bounds 28 = .ok (.ireturn, 1) := by decide +kernel
theorem dX4_come_0 : decode cX4_come 0 = .ok (.aload_n 0, 1) := by decide +kernel
theorem dX4_come_1 : decode cX4_come 1 = .ok (.getfield 30, 3) := by decide +kernel
theorem dX4_come_4 : decode cX4_come 4 = .ok (.aload_n 0, 1) := by decide +kernel
theorem dX4_come_5 : decode cX4_come 5 = .ok (.getfield 10, 3) := by decide +kernel
theorem dX4_come_8 : decode cX4_come 8 = .ok (.invokevirtual 41, 3) := by decide +kernel
theorem dX4_come_11 : decode cX4_come 11 = .ok (.aload_n 0, 1) := by decide +kernel
theorem dX4_come_12 : decode cX4_come 12 = .ok (.getfield 30, 3) := by decide +kernel
theorem dX4_come_15 : decode cX4_come 15 = .ok (.aload_n 0, 1) := by decide +kernel
theorem dX4_come_16 : decode cX4_come 16 = .ok (.getfield 10, 3) := by decide +kernel
theorem dX4_come_19 : decode cX4_come 19 = .ok (.iload_n 1, 1) := by decide +kernel
theorem dX4_come_20 : decode cX4_come 20 = .ok (.invokevirtual 57, 3) := by decide +kernel
theorem dX4_come_23 : decode cX4_come 23 = .ok (.invokevirtual 49, 3) := by decide +kernel
theorem dX4_come_26 : decode cX4_come 26 = .ok (.ireturn, 1) := by decide +kernel
theorem dX4_mask_0 : decode cX4_mask 0 = .ok (.aload_n 0, 1) := by decide +kernel
theorem dX4_mask_1 : decode cX4_mask 1 = .ok (.getfield 30, 3) := by decide +kernel
theorem dX4_mask_4 : decode cX4_mask 4 = .ok (.aload_n 0, 1) := by decide +kernel
theorem dX4_mask_5 : decode cX4_mask 5 = .ok (.getfield 10, 3) := by decide +kernel
theorem dX4_mask_8 : decode cX4_mask 8 = .ok (.invokevirtual 41, 3) := by decide +kernel
theorem dX4_mask_11 : decode cX4_mask 11 = .ok (.aload_n 0, 1) := by decide +kernel
theorem dX4_mask_12 : decode cX4_mask 12 = .ok (.getfield 30, 3) := by decide +kernel
theorem dX4_mask_15 : decode cX4_mask 15 = .ok (.aload_n 0, 1) := by decide +kernel
theorem dX4_mask_16 : decode cX4_mask 16 = .ok (.getfield 10, 3) := by decide +kernel
theorem dX4_mask_19 : decode cX4_mask 19 = .ok (.iload_n 1, 1) := by decide +kernel
theorem dX4_mask_20 : decode cX4_mask 20 = .ok (.invokevirtual 60, 3) := by decide +kernel
theorem dX4_mask_23 : decode cX4_mask 23 = .ok (.invokevirtual 49, 3) := by decide +kernel
theorem dX4_mask_26 : decode cX4_mask 26 = .ok (.ireturn, 1) := by decide +kernel
theorem dX4_call_0 : decode cX4_call 0 = .ok (.aload_n 0, 1) := by decide +kernel
theorem dX4_call_1 : decode cX4_call 1 = .ok (.getfield 30, 3) := by decide +kernel
theorem dX4_call_4 : decode cX4_call 4 = .ok (.aload_n 0, 1) := by decide +kernel
theorem dX4_call_5 : decode cX4_call 5 = .ok (.getfield 10, 3) := by decide +kernel
theorem dX4_call_8 : decode cX4_call 8 = .ok (.invokevirtual 41, 3) := by decide +kernel
theorem dX4_call_11 : decode cX4_call 11 = .ok (.aload_n 0, 1) := by decide +kernel
theorem dX4_call_12 : decode cX4_call 12 = .ok (.getfield 30, 3) := by decide +kernel
theorem dX4_call_15 : decode cX4_call 15 = .ok (.aload_n 0, 1) := by decide +kernel
theorem dX4_call_16 : decode cX4_call 16 = .ok (.getfield 10, 3) := by decide +kernel
theorem dX4_call_19 : decode cX4_call 19 = .ok (.iload_n 1, 1) := by decide +kernel
theorem dX4_call_20 : decode cX4_call 20 = .ok (.invokevirtual 63, 3) := by decide +kernel
theorem dX4_call_23 : decode cX4_call 23 = .ok (.invokevirtual 49, 3) := by decide +kernel
theorem dX4_call_26 : decode cX4_call 26 = .ok (.ireturn, 1) := by decide +kernel
theorem dX4_pass_0 : decode cX4_pass 0 = .ok (.aload_n 0, 1) := by decide +kernel
theorem dX4_pass_1 : decode cX4_pass 1 = .ok (.getfield 30, 3) := by decide +kernel
theorem dX4_pass_4 : decode cX4_pass 4 = .ok (.aload_n 0, 1) := by decide +kernel
theorem dX4_pass_5 : decode cX4_pass 5 = .ok (.getfield 10, 3) := by decide +kernel
theorem dX4_pass_8 : decode cX4_pass 8 = .ok (.invokevirtual 41, 3) := by decide +kernel
theorem dX4_pass_11 : decode cX4_pass 11 = .ok (.aload_n 0, 1) := by decide +kernel
theorem dX4_pass_12 : decode cX4_pass 12 = .ok (.getfield 30, 3) := by decide +kernel
theorem dX4_pass_15 : decode cX4_pass 15 = .ok (.aload_n 0, 1) := by decide +kernel
theorem dX4_pass_16 : decode cX4_pass 16 = .ok (.getfield 10, 3) := by decide +kernel
theorem dX4_pass_19 : decode cX4_pass 19 = .ok (.iload_n 1, 1) := by decide +kernel
theorem dX4_pass_20 : decode cX4_pass 20 = .ok (.invokevirtual 66, 3) := by decide +kernel
theorem dX4_pass_23 : decode cX4_pass 23 = .ok (.invokevirtual 49, 3) := by decide +kernel
theorem dX4_pass_26 : decode cX4_pass 26 = .ok (.ireturn, 1) := by decide +kernel
theorem dX4_of_0 : decode cX4_of 0 = .ok (.iload_n 1, 1) := by decide +kernel
theorem dX4_of_1 : decode cX4_of 1 = .ok (.invokestatic 69, 3) := by decide +kernel
theorem dX4_of_4 : decode cX4_of 4 = .ok (.ifCond .ne 5, 3) := by decide +kernel
theorem dX4_of_7 : decode cX4_of 7 = .ok (.iconst (-1), 1) := by decide +kernel
theorem dX4_of_8 : decode cX4_of 8 = .ok (.ireturn, 1) := by decide +kernel
theorem dX4_of_9 : decode cX4_of 9 = .ok (.aload_n 0, 1) := by decide +kernel
theorem dX4_of_10 : decode cX4_of 10 = .ok (.getfield 10, 3) := by decide +kernel
theorem dX4_of_13 : decode cX4_of 13 = .ok (.getfield 73, 3) := by decide +kernel
theorem dX4_of_16 : decode cX4_of 16 = .ok (.iload_n 1, 1) := by decide +kernel
theorem dX4_of_17 : decode cX4_of 17 = .ok (.aaload, 1) := by decide +kernel
theorem dX4_of_18 : decode cX4_of 18 = .ok (.iload_n 2, 1) := by decide +kernel
theorem dX4_of_19 : decode cX4_of 19 = .ok (.invokevirtual 77, 3) := by decide +kernel
theorem dX4_of_22 : decode cX4_of 22 = .ok (.ireturn, 1) := by decide +kernel
theorem dX4_frame_0 : decode cX4_frame 0 = .ok (.aload_n 0, 1) := by decide +kernel
theorem dX4_frame_1 : decode cX4_frame 1 = .ok (.getfield 10, 3) := by decide +kernel
theorem dX4_frame_4 : decode cX4_frame 4 = .ok (.iload_n 1, 1) := by decide +kernel
theorem dX4_frame_5 : decode cX4_frame 5 = .ok (.invokevirtual 82, 3) := by decide +kernel
theorem dX4_frame_8 : decode cX4_frame 8 = .ok (.ifCond .ne 5, 3) := by decide +kernel
theorem dX4_frame_11 : decode cX4_frame 11 = .ok (.iconst (-1), 1) := by decide +kernel
theorem dX4_frame_12 : decode cX4_frame 12 = .ok (.ireturn, 1) := by decide +kernel
theorem dX4_frame_13 : decode cX4_frame 13 = .ok (.aload_n 0, 1) := by decide +kernel
theorem dX4_frame_14 : decode cX4_frame 14 = .ok (.getfield 10, 3) := by decide +kernel
theorem dX4_frame_17 : decode cX4_frame 17 = .ok (.iload_n 1, 1) := by decide +kernel
theorem dX4_frame_18 : decode cX4_frame 18 = .ok (.iload_n 2, 1) := by decide +kernel
theorem dX4_frame_19 : decode cX4_frame 19 = .ok (.invokevirtual 85, 3) := by decide +kernel
theorem dX4_frame_22 : decode cX4_frame 22 = .ok (.ireturn, 1) := by decide +kernel
theorem dX4_row_0 : decode cX4_row 0 = .ok (.iload_n 1, 1) := by decide +kernel
theorem dX4_row_1 : decode cX4_row 1 = .ok (.ifCond .ge 5, 3) := by decide +kernel
theorem dX4_row_4 : decode cX4_row 4 = .ok (.iconst (-1), 1) := by decide +kernel
theorem dX4_row_5 : decode cX4_row 5 = .ok (.ireturn, 1) := by decide +kernel
theorem dX4_row_6 : decode cX4_row 6 = .ok (.aload_n 0, 1) := by decide +kernel
theorem dX4_row_7 : decode cX4_row 7 = .ok (.getfield 10, 3) := by decide +kernel
theorem dX4_row_10 : decode cX4_row 10 = .ok (.iload_n 1, 1) := by decide +kernel
theorem dX4_row_11 : decode cX4_row 11 = .ok (.invokevirtual 88, 3) := by decide +kernel
theorem dX4_row_14 : decode cX4_row 14 = .ok (.ireturn, 1) := by decide +kernel
theorem dX4_count_0 : decode cX4_count 0 = .ok (.iload_n 1, 1) := by decide +kernel
theorem dX4_count_1 : decode cX4_count 1 = .ok (.tableswitch 186 0 12 #[67, 75, 83, 92, 102, 112, 122, 130, 140, 150, 160, 170, 178], 67) := by decide +kernel
theorem dX4_count_68 : decode cX4_count 68 = .ok (.aload_n 0, 1) := by decide +kernel
theorem dX4_count_69 : decode cX4_count 69 = .ok (.getfield 10, 3) := by decide +kernel
theorem dX4_count_72 : decode cX4_count 72 = .ok (.getfield 91, 3) := by decide +kernel
theorem dX4_count_75 : decode cX4_count 75 = .ok (.ireturn, 1) := by decide +kernel
theorem dX4_count_76 : decode cX4_count 76 = .ok (.aload_n 0, 1) := by decide +kernel
theorem dX4_count_77 : decode cX4_count 77 = .ok (.getfield 10, 3) := by decide +kernel
theorem dX4_count_80 : decode cX4_count 80 = .ok (.getfield 95, 3) := by decide +kernel
theorem dX4_count_83 : decode cX4_count 83 = .ok (.ireturn, 1) := by decide +kernel
theorem dX4_count_84 : decode cX4_count 84 = .ok (.aload_n 0, 1) := by decide +kernel
theorem dX4_count_85 : decode cX4_count 85 = .ok (.getfield 10, 3) := by decide +kernel
theorem dX4_count_88 : decode cX4_count 88 = .ok (.iconst 3, 1) := by decide +kernel
theorem dX4_count_89 : decode cX4_count 89 = .ok (.invokevirtual 98, 3) := by decide +kernel
theorem dX4_count_92 : decode cX4_count 92 = .ok (.ireturn, 1) := by decide +kernel
theorem dX4_count_93 : decode cX4_count 93 = .ok (.aload_n 0, 1) := by decide +kernel
theorem dX4_count_94 : decode cX4_count 94 = .ok (.getfield 10, 3) := by decide +kernel
theorem dX4_count_97 : decode cX4_count 97 = .ok (.bipush 7, 2) := by decide +kernel
theorem dX4_count_99 : decode cX4_count 99 = .ok (.invokevirtual 98, 3) := by decide +kernel
theorem dX4_count_102 : decode cX4_count 102 = .ok (.ireturn, 1) := by decide +kernel
theorem dX4_count_103 : decode cX4_count 103 = .ok (.aload_n 0, 1) := by decide +kernel
theorem dX4_count_104 : decode cX4_count 104 = .ok (.getfield 10, 3) := by decide +kernel
theorem dX4_count_107 : decode cX4_count 107 = .ok (.bipush 8, 2) := by decide +kernel
theorem dX4_count_109 : decode cX4_count 109 = .ok (.invokevirtual 98, 3) := by decide +kernel
theorem dX4_count_112 : decode cX4_count 112 = .ok (.ireturn, 1) := by decide +kernel
theorem dX4_count_113 : decode cX4_count 113 = .ok (.aload_n 0, 1) := by decide +kernel
theorem dX4_count_114 : decode cX4_count 114 = .ok (.getfield 10, 3) := by decide +kernel
theorem dX4_count_117 : decode cX4_count 117 = .ok (.bipush 6, 2) := by decide +kernel
theorem dX4_count_119 : decode cX4_count 119 = .ok (.invokevirtual 98, 3) := by decide +kernel
theorem dX4_count_122 : decode cX4_count 122 = .ok (.ireturn, 1) := by decide +kernel
theorem dX4_count_123 : decode cX4_count 123 = .ok (.aload_n 0, 1) := by decide +kernel
theorem dX4_count_124 : decode cX4_count 124 = .ok (.getfield 10, 3) := by decide +kernel
theorem dX4_count_127 : decode cX4_count 127 = .ok (.invokevirtual 101, 3) := by decide +kernel
theorem dX4_count_130 : decode cX4_count 130 = .ok (.ireturn, 1) := by decide +kernel
theorem dX4_count_131 : decode cX4_count 131 = .ok (.aload_n 0, 1) := by decide +kernel
theorem dX4_count_132 : decode cX4_count 132 = .ok (.getfield 10, 3) := by decide +kernel
theorem dX4_count_135 : decode cX4_count 135 = .ok (.getfield 105, 3) := by decide +kernel
theorem dX4_count_138 : decode cX4_count 138 = .ok (.iconst 0, 1) := by decide +kernel
theorem dX4_count_139 : decode cX4_count 139 = .ok (.iaload, 1) := by decide +kernel
theorem dX4_count_140 : decode cX4_count 140 = .ok (.ireturn, 1) := by decide +kernel
theorem dX4_count_141 : decode cX4_count 141 = .ok (.aload_n 0, 1) := by decide +kernel
theorem dX4_count_142 : decode cX4_count 142 = .ok (.getfield 10, 3) := by decide +kernel
theorem dX4_count_145 : decode cX4_count 145 = .ok (.getfield 105, 3) := by decide +kernel
theorem dX4_count_148 : decode cX4_count 148 = .ok (.iconst 1, 1) := by decide +kernel
theorem dX4_count_149 : decode cX4_count 149 = .ok (.iaload, 1) := by decide +kernel
theorem dX4_count_150 : decode cX4_count 150 = .ok (.ireturn, 1) := by decide +kernel
theorem dX4_count_151 : decode cX4_count 151 = .ok (.aload_n 0, 1) := by decide +kernel
theorem dX4_count_152 : decode cX4_count 152 = .ok (.getfield 10, 3) := by decide +kernel
theorem dX4_count_155 : decode cX4_count 155 = .ok (.getfield 105, 3) := by decide +kernel
theorem dX4_count_158 : decode cX4_count 158 = .ok (.iconst 2, 1) := by decide +kernel
theorem dX4_count_159 : decode cX4_count 159 = .ok (.iaload, 1) := by decide +kernel
theorem dX4_count_160 : decode cX4_count 160 = .ok (.ireturn, 1) := by decide +kernel
theorem dX4_count_161 : decode cX4_count 161 = .ok (.aload_n 0, 1) := by decide +kernel
theorem dX4_count_162 : decode cX4_count 162 = .ok (.getfield 10, 3) := by decide +kernel
theorem dX4_count_165 : decode cX4_count 165 = .ok (.getfield 105, 3) := by decide +kernel
theorem dX4_count_168 : decode cX4_count 168 = .ok (.iconst 3, 1) := by decide +kernel
theorem dX4_count_169 : decode cX4_count 169 = .ok (.iaload, 1) := by decide +kernel
theorem dX4_count_170 : decode cX4_count 170 = .ok (.ireturn, 1) := by decide +kernel
theorem dX4_count_171 : decode cX4_count 171 = .ok (.aload_n 0, 1) := by decide +kernel
theorem dX4_count_172 : decode cX4_count 172 = .ok (.getfield 37, 3) := by decide +kernel
theorem dX4_count_175 : decode cX4_count 175 = .ok (.getfield 109, 3) := by decide +kernel
theorem dX4_count_178 : decode cX4_count 178 = .ok (.ireturn, 1) := by decide +kernel
theorem dX4_count_179 : decode cX4_count 179 = .ok (.aload_n 0, 1) := by decide +kernel
theorem dX4_count_180 : decode cX4_count 180 = .ok (.getfield 30, 3) := by decide +kernel
theorem dX4_count_183 : decode cX4_count 183 = .ok (.getfield 112, 3) := by decide +kernel
theorem dX4_count_186 : decode cX4_count 186 = .ok (.ireturn, 1) := by decide +kernel
theorem dX4_count_187 : decode cX4_count 187 = .ok (.bipush (-2), 2) := by decide +kernel
theorem dX4_count_189 : decode cX4_count 189 = .ok (.ireturn, 1) := by decide +kernel
theorem dX4_why_0 : decode cX4_why 0 = .ok (.iload_n 1, 1) := by decide +kernel
theorem dX4_why_1 : decode cX4_why 1 = .ok (.invokestatic 69, 3) := by decide +kernel
theorem dX4_why_4 : decode cX4_why 4 = .ok (.ifCond .ne 5, 3) := by decide +kernel
theorem dX4_why_7 : decode cX4_why 7 = .ok (.iconst (-1), 1) := by decide +kernel
theorem dX4_why_8 : decode cX4_why 8 = .ok (.ireturn, 1) := by decide +kernel
theorem dX4_why_9 : decode cX4_why 9 = .ok (.aload_n 0, 1) := by decide +kernel
theorem dX4_why_10 : decode cX4_why 10 = .ok (.getfield 10, 3) := by decide +kernel
theorem dX4_why_13 : decode cX4_why 13 = .ok (.aload_n 0, 1) := by decide +kernel
theorem dX4_why_14 : decode cX4_why 14 = .ok (.getfield 10, 3) := by decide +kernel
theorem dX4_why_17 : decode cX4_why 17 = .ok (.getfield 73, 3) := by decide +kernel
theorem dX4_why_20 : decode cX4_why 20 = .ok (.iload_n 1, 1) := by decide +kernel
theorem dX4_why_21 : decode cX4_why 21 = .ok (.aaload, 1) := by decide +kernel
theorem dX4_why_22 : decode cX4_why 22 = .ok (.invokevirtual 115, 3) := by decide +kernel
theorem dX4_why_25 : decode cX4_why 25 = .ok (.ireturn, 1) := by decide +kernel
theorem dX4_takenIn_0 : decode cX4_takenIn 0 = .ok (.aload_n 0, 1) := by decide +kernel
theorem dX4_takenIn_1 : decode cX4_takenIn 1 = .ok (.getfield 10, 3) := by decide +kernel
theorem dX4_takenIn_4 : decode cX4_takenIn 4 = .ok (.iload_n 1, 1) := by decide +kernel
theorem dX4_takenIn_5 : decode cX4_takenIn 5 = .ok (.invokevirtual 82, 3) := by decide +kernel
theorem dX4_takenIn_8 : decode cX4_takenIn 8 = .ok (.ifCond .ne 5, 3) := by decide +kernel
theorem dX4_takenIn_11 : decode cX4_takenIn 11 = .ok (.iconst (-1), 1) := by decide +kernel
theorem dX4_takenIn_12 : decode cX4_takenIn 12 = .ok (.ireturn, 1) := by decide +kernel
theorem dX4_takenIn_13 : decode cX4_takenIn 13 = .ok (.aload_n 0, 1) := by decide +kernel
theorem dX4_takenIn_14 : decode cX4_takenIn 14 = .ok (.getfield 10, 3) := by decide +kernel
theorem dX4_takenIn_17 : decode cX4_takenIn 17 = .ok (.getfield 119, 3) := by decide +kernel
theorem dX4_takenIn_20 : decode cX4_takenIn 20 = .ok (.iload_n 1, 1) := by decide +kernel
theorem dX4_takenIn_21 : decode cX4_takenIn 21 = .ok (.iaload, 1) := by decide +kernel
theorem dX4_takenIn_22 : decode cX4_takenIn 22 = .ok (.ifCond .eq 6, 3) := by decide +kernel
theorem dX4_takenIn_25 : decode cX4_takenIn 25 = .ok (.bipush (-5), 2) := by decide +kernel
theorem dX4_takenIn_27 : decode cX4_takenIn 27 = .ok (.ireturn, 1) := by decide +kernel
theorem dX4_takenIn_28 : decode cX4_takenIn 28 = .ok (.aload_n 0, 1) := by decide +kernel
theorem dX4_takenIn_29 : decode cX4_takenIn 29 = .ok (.getfield 16, 3) := by decide +kernel
theorem dX4_takenIn_32 : decode cX4_takenIn 32 = .ok (.aload_n 0, 1) := by decide +kernel
theorem dX4_takenIn_33 : decode cX4_takenIn 33 = .ok (.getfield 10, 3) := by decide +kernel
theorem dX4_takenIn_36 : decode cX4_takenIn 36 = .ok (.invokevirtual 122, 3) := by decide +kernel
theorem dX4_takenIn_39 : decode cX4_takenIn 39 = .ok (.iconst 1, 1) := by decide +kernel
theorem dX4_takenIn_40 : decode cX4_takenIn 40 = .ok (.istore_n 2, 1) := by decide +kernel
theorem dX4_takenIn_41 : decode cX4_takenIn 41 = .ok (.iload_n 2, 1) := by decide +kernel
theorem dX4_takenIn_42 : decode cX4_takenIn 42 = .ok (.sipush 500, 3) := by decide +kernel
theorem dX4_takenIn_45 : decode cX4_takenIn 45 = .ok (.if_icmp .gt 32, 3) := by decide +kernel
theorem dX4_takenIn_48 : decode cX4_takenIn 48 = .ok (.aload_n 0, 1) := by decide +kernel
theorem dX4_takenIn_49 : decode cX4_takenIn 49 = .ok (.getfield 16, 3) := by decide +kernel
theorem dX4_takenIn_52 : decode cX4_takenIn 52 = .ok (.invokevirtual 125, 3) := by decide +kernel
theorem dX4_takenIn_55 : decode cX4_takenIn 55 = .ok (.pop, 1) := by decide +kernel
theorem dX4_takenIn_56 : decode cX4_takenIn 56 = .ok (.aload_n 0, 1) := by decide +kernel
theorem dX4_takenIn_57 : decode cX4_takenIn 57 = .ok (.getfield 16, 3) := by decide +kernel
theorem dX4_takenIn_60 : decode cX4_takenIn 60 = .ok (.getfield 119, 3) := by decide +kernel
theorem dX4_takenIn_63 : decode cX4_takenIn 63 = .ok (.iload_n 1, 1) := by decide +kernel
theorem dX4_takenIn_64 : decode cX4_takenIn 64 = .ok (.iaload, 1) := by decide +kernel
theorem dX4_takenIn_65 : decode cX4_takenIn 65 = .ok (.iconst 1, 1) := by decide +kernel
theorem dX4_takenIn_66 : decode cX4_takenIn 66 = .ok (.if_icmp .ne 5, 3) := by decide +kernel
theorem dX4_takenIn_69 : decode cX4_takenIn 69 = .ok (.iload_n 2, 1) := by decide +kernel
theorem dX4_takenIn_70 : decode cX4_takenIn 70 = .ok (.ireturn, 1) := by decide +kernel
theorem dX4_takenIn_71 : decode cX4_takenIn 71 = .ok (.iinc 2 1, 3) := by decide +kernel
theorem dX4_takenIn_74 : decode cX4_takenIn 74 = .ok (.goto (-33), 3) := by decide +kernel
theorem dX4_takenIn_77 : decode cX4_takenIn 77 = .ok (.bipush (-6), 2) := by decide +kernel
theorem dX4_takenIn_79 : decode cX4_takenIn 79 = .ok (.ireturn, 1) := by decide +kernel
theorem dX4_would_0 : decode cX4_would 0 = .ok (.iload_n 1, 1) := by decide +kernel
theorem dX4_would_1 : decode cX4_would 1 = .ok (.iconst 1, 1) := by decide +kernel
theorem dX4_would_2 : decode cX4_would 2 = .ok (.if_icmp .lt 18, 3) := by decide +kernel
theorem dX4_would_5 : decode cX4_would 5 = .ok (.iload_n 1, 1) := by decide +kernel
theorem dX4_would_6 : decode cX4_would 6 = .ok (.bipush 99, 2) := by decide +kernel
theorem dX4_would_8 : decode cX4_would 8 = .ok (.if_icmp .gt 12, 3) := by decide +kernel
theorem dX4_would_11 : decode cX4_would 11 = .ok (.iload_n 2, 1) := by decide +kernel
theorem dX4_would_12 : decode cX4_would 12 = .ok (.ifCond .lt 8, 3) := by decide +kernel
theorem dX4_would_15 : decode cX4_would 15 = .ok (.iload_n 2, 1) := by decide +kernel
theorem dX4_would_16 : decode cX4_would 16 = .ok (.iconst 3, 1) := by decide +kernel
theorem dX4_would_17 : decode cX4_would 17 = .ok (.if_icmp .le 6, 3) := by decide +kernel
theorem dX4_would_20 : decode cX4_would 20 = .ok (.bipush (-2), 2) := by decide +kernel
theorem dX4_would_22 : decode cX4_would 22 = .ok (.ireturn, 1) := by decide +kernel
theorem dX4_would_23 : decode cX4_would 23 = .ok (.aload_n 0, 1) := by decide +kernel
theorem dX4_would_24 : decode cX4_would 24 = .ok (.getfield 16, 3) := by decide +kernel
theorem dX4_would_27 : decode cX4_would 27 = .ok (.aload_n 0, 1) := by decide +kernel
theorem dX4_would_28 : decode cX4_would 28 = .ok (.getfield 10, 3) := by decide +kernel
theorem dX4_would_31 : decode cX4_would 31 = .ok (.invokevirtual 122, 3) := by decide +kernel
theorem dX4_would_34 : decode cX4_would 34 = .ok (.aload_n 0, 1) := by decide +kernel
theorem dX4_would_35 : decode cX4_would 35 = .ok (.getfield 16, 3) := by decide +kernel
theorem dX4_would_38 : decode cX4_would 38 = .ok (.iload_n 1, 1) := by decide +kernel
theorem dX4_would_39 : decode cX4_would 39 = .ok (.invokevirtual 128, 3) := by decide +kernel
theorem dX4_would_42 : decode cX4_would 42 = .ok (.pop, 1) := by decide +kernel
theorem dX4_would_43 : decode cX4_would 43 = .ok (.iload_n 2, 1) := by decide +kernel
theorem dX4_would_44 : decode cX4_would 44 = .ok (.tableswitch 88 0 2 #[28, 48, 68], 28) := by decide +kernel
theorem dX4_would_72 : decode cX4_would 72 = .ok (.aload_n 0, 1) := by decide +kernel
theorem dX4_would_73 : decode cX4_would 73 = .ok (.getfield 16, 3) := by decide +kernel
theorem dX4_would_76 : decode cX4_would 76 = .ok (.bipush 7, 2) := by decide +kernel
theorem dX4_would_78 : decode cX4_would 78 = .ok (.invokevirtual 98, 3) := by decide +kernel
theorem dX4_would_81 : decode cX4_would 81 = .ok (.aload_n 0, 1) := by decide +kernel
theorem dX4_would_82 : decode cX4_would 82 = .ok (.getfield 10, 3) := by decide +kernel
theorem dX4_would_85 : decode cX4_would 85 = .ok (.bipush 7, 2) := by decide +kernel
theorem dX4_would_87 : decode cX4_would 87 = .ok (.invokevirtual 98, 3) := by decide +kernel
theorem dX4_would_90 : decode cX4_would 90 = .ok (.isub, 1) := by decide +kernel
theorem dX4_would_91 : decode cX4_would 91 = .ok (.ireturn, 1) := by decide +kernel
theorem dX4_would_92 : decode cX4_would 92 = .ok (.aload_n 0, 1) := by decide +kernel
theorem dX4_would_93 : decode cX4_would 93 = .ok (.getfield 16, 3) := by decide +kernel
theorem dX4_would_96 : decode cX4_would 96 = .ok (.bipush 6, 2) := by decide +kernel
theorem dX4_would_98 : decode cX4_would 98 = .ok (.invokevirtual 98, 3) := by decide +kernel
theorem dX4_would_101 : decode cX4_would 101 = .ok (.aload_n 0, 1) := by decide +kernel
theorem dX4_would_102 : decode cX4_would 102 = .ok (.getfield 10, 3) := by decide +kernel
theorem dX4_would_105 : decode cX4_would 105 = .ok (.bipush 6, 2) := by decide +kernel
theorem dX4_would_107 : decode cX4_would 107 = .ok (.invokevirtual 98, 3) := by decide +kernel
theorem dX4_would_110 : decode cX4_would 110 = .ok (.isub, 1) := by decide +kernel
theorem dX4_would_111 : decode cX4_would 111 = .ok (.ireturn, 1) := by decide +kernel
theorem dX4_would_112 : decode cX4_would 112 = .ok (.aload_n 0, 1) := by decide +kernel
theorem dX4_would_113 : decode cX4_would 113 = .ok (.getfield 16, 3) := by decide +kernel
theorem dX4_would_116 : decode cX4_would 116 = .ok (.bipush 9, 2) := by decide +kernel
theorem dX4_would_118 : decode cX4_would 118 = .ok (.invokevirtual 98, 3) := by decide +kernel
theorem dX4_would_121 : decode cX4_would 121 = .ok (.aload_n 0, 1) := by decide +kernel
theorem dX4_would_122 : decode cX4_would 122 = .ok (.getfield 10, 3) := by decide +kernel
theorem dX4_would_125 : decode cX4_would 125 = .ok (.bipush 9, 2) := by decide +kernel
theorem dX4_would_127 : decode cX4_would 127 = .ok (.invokevirtual 98, 3) := by decide +kernel
theorem dX4_would_130 : decode cX4_would 130 = .ok (.isub, 1) := by decide +kernel
theorem dX4_would_131 : decode cX4_would 131 = .ok (.ireturn, 1) := by decide +kernel
theorem dX4_would_132 : decode cX4_would 132 = .ok (.aload_n 0, 1) := by decide +kernel
theorem dX4_would_133 : decode cX4_would 133 = .ok (.getfield 16, 3) := by decide +kernel
theorem dX4_would_136 : decode cX4_would 136 = .ok (.iconst 3, 1) := by decide +kernel
theorem dX4_would_137 : decode cX4_would 137 = .ok (.invokevirtual 98, 3) := by decide +kernel
theorem dX4_would_140 : decode cX4_would 140 = .ok (.ireturn, 1) := by decide +kernel
theorem dX4_bestCount_0 : decode cX4_bestCount 0 = .ok (.iload_n 1, 1) := by decide +kernel
theorem dX4_bestCount_1 : decode cX4_bestCount 1 = .ok (.invokestatic 69, 3) := by decide +kernel
theorem dX4_bestCount_4 : decode cX4_bestCount 4 = .ok (.ifCond .ne 5, 3) := by decide +kernel
theorem dX4_bestCount_7 : decode cX4_bestCount 7 = .ok (.iconst (-1), 1) := by decide +kernel
theorem dX4_bestCount_8 : decode cX4_bestCount 8 = .ok (.ireturn, 1) := by decide +kernel
theorem dX4_bestCount_9 : decode cX4_bestCount 9 = .ok (.iload_n 2, 1) := by decide +kernel
theorem dX4_bestCount_10 : decode cX4_bestCount 10 = .ok (.iconst 1, 1) := by decide +kernel
theorem dX4_bestCount_11 : decode cX4_bestCount 11 = .ok (.if_icmp .lt 18, 3) := by decide +kernel
theorem dX4_bestCount_14 : decode cX4_bestCount 14 = .ok (.iload_n 2, 1) := by decide +kernel
theorem dX4_bestCount_15 : decode cX4_bestCount 15 = .ok (.bipush 20, 2) := by decide +kernel
theorem dX4_bestCount_17 : decode cX4_bestCount 17 = .ok (.if_icmp .gt 12, 3) := by decide +kernel
theorem dX4_bestCount_20 : decode cX4_bestCount 20 = .ok (.iload_n 3, 1) := by decide +kernel
theorem dX4_bestCount_21 : decode cX4_bestCount 21 = .ok (.ifCond .lt 8, 3) := by decide +kernel
theorem dX4_bestCount_24 : decode cX4_bestCount 24 = .ok (.iload_n 3, 1) := by decide +kernel
theorem dX4_bestCount_25 : decode cX4_bestCount 25 = .ok (.iconst 1, 1) := by decide +kernel
theorem dX4_bestCount_26 : decode cX4_bestCount 26 = .ok (.if_icmp .le 6, 3) := by decide +kernel
theorem dX4_bestCount_29 : decode cX4_bestCount 29 = .ok (.bipush (-2), 2) := by decide +kernel
theorem dX4_bestCount_31 : decode cX4_bestCount 31 = .ok (.ireturn, 1) := by decide +kernel
theorem dX4_bestCount_32 : decode cX4_bestCount 32 = .ok (.iconst 1, 1) := by decide +kernel
theorem dX4_bestCount_33 : decode cX4_bestCount 33 = .ok (.istore 4, 2) := by decide +kernel
theorem dX4_bestCount_35 : decode cX4_bestCount 35 = .ok (.aload_n 0, 1) := by decide +kernel
theorem dX4_bestCount_36 : decode cX4_bestCount 36 = .ok (.iload_n 1, 1) := by decide +kernel
theorem dX4_bestCount_37 : decode cX4_bestCount 37 = .ok (.iconst 1, 1) := by decide +kernel
theorem dX4_bestCount_38 : decode cX4_bestCount 38 = .ok (.iload_n 2, 1) := by decide +kernel
theorem dX4_bestCount_39 : decode cX4_bestCount 39 = .ok (.invokevirtual 131, 3) := by decide +kernel
theorem dX4_bestCount_42 : decode cX4_bestCount 42 = .ok (.istore 5, 2) := by decide +kernel
theorem dX4_bestCount_44 : decode cX4_bestCount 44 = .ok (.iconst 2, 1) := by decide +kernel
theorem dX4_bestCount_45 : decode cX4_bestCount 45 = .ok (.istore 6, 2) := by decide +kernel
theorem dX4_bestCount_47 : decode cX4_bestCount 47 = .ok (.iload 6, 2) := by decide +kernel
theorem dX4_bestCount_49 : decode cX4_bestCount 49 = .ok (.bipush 32, 2) := by decide +kernel
theorem dX4_bestCount_51 : decode cX4_bestCount 51 = .ok (.if_icmp .gt 34, 3) := by decide +kernel
theorem dX4_bestCount_54 : decode cX4_bestCount 54 = .ok (.aload_n 0, 1) := by decide +kernel
theorem dX4_bestCount_55 : decode cX4_bestCount 55 = .ok (.iload_n 1, 1) := by decide +kernel
theorem dX4_bestCount_56 : decode cX4_bestCount 56 = .ok (.iload 6, 2) := by decide +kernel
theorem dX4_bestCount_58 : decode cX4_bestCount 58 = .ok (.iload_n 2, 1) := by decide +kernel
theorem dX4_bestCount_59 : decode cX4_bestCount 59 = .ok (.invokevirtual 131, 3) := by decide +kernel
theorem dX4_bestCount_62 : decode cX4_bestCount 62 = .ok (.istore 7, 2) := by decide +kernel
theorem dX4_bestCount_64 : decode cX4_bestCount 64 = .ok (.iload 7, 2) := by decide +kernel
theorem dX4_bestCount_66 : decode cX4_bestCount 66 = .ok (.iload 5, 2) := by decide +kernel
theorem dX4_bestCount_68 : decode cX4_bestCount 68 = .ok (.if_icmp .ge 11, 3) := by decide +kernel
theorem dX4_bestCount_71 : decode cX4_bestCount 71 = .ok (.iload 6, 2) := by decide +kernel
theorem dX4_bestCount_73 : decode cX4_bestCount 73 = .ok (.istore 4, 2) := by decide +kernel
theorem dX4_bestCount_75 : decode cX4_bestCount 75 = .ok (.iload 7, 2) := by decide +kernel
theorem dX4_bestCount_77 : decode cX4_bestCount 77 = .ok (.istore 5, 2) := by decide +kernel
theorem dX4_bestCount_79 : decode cX4_bestCount 79 = .ok (.iinc 6 1, 3) := by decide +kernel
theorem dX4_bestCount_82 : decode cX4_bestCount 82 = .ok (.goto (-35), 3) := by decide +kernel
theorem dX4_bestCount_85 : decode cX4_bestCount 85 = .ok (.iload_n 3, 1) := by decide +kernel
theorem dX4_bestCount_86 : decode cX4_bestCount 86 = .ok (.ifCond .ne 8, 3) := by decide +kernel
theorem dX4_bestCount_89 : decode cX4_bestCount 89 = .ok (.iload 4, 2) := by decide +kernel
theorem dX4_bestCount_91 : decode cX4_bestCount 91 = .ok (.goto 5, 3) := by decide +kernel
theorem dX4_bestCount_94 : decode cX4_bestCount 94 = .ok (.iload 5, 2) := by decide +kernel
theorem dX4_bestCount_96 : decode cX4_bestCount 96 = .ok (.ireturn, 1) := by decide +kernel
theorem dX4_put_0 : decode cX4_put 0 = .ok (.aload_n 0, 1) := by decide +kernel
theorem dX4_put_1 : decode cX4_put 1 = .ok (.getfield 37, 3) := by decide +kernel
theorem dX4_put_4 : decode cX4_put 4 = .ok (.lload_n 1, 1) := by decide +kernel
theorem dX4_put_5 : decode cX4_put 5 = .ok (.invokevirtual 134, 3) := by decide +kernel
theorem dX4_put_8 : decode cX4_put 8 = .ok (.ireturn, 1) := by decide +kernel
theorem dX4_wipe_0 : decode cX4_wipe 0 = .ok (.aload_n 0, 1) := by decide +kernel
theorem dX4_wipe_1 : decode cX4_wipe 1 = .ok (.getfield 37, 3) := by decide +kernel
theorem dX4_wipe_4 : decode cX4_wipe 4 = .ok (.invokevirtual 138, 3) := by decide +kernel
theorem dX4_wipe_7 : decode cX4_wipe 7 = .ok (.ireturn, 1) := by decide +kernel
theorem dX4_carryOut_0 : decode cX4_carryOut 0 = .ok (.aload_n 0, 1) := by decide +kernel
theorem dX4_carryOut_1 : decode cX4_carryOut 1 = .ok (.getfield 37, 3) := by decide +kernel
theorem dX4_carryOut_4 : decode cX4_carryOut 4 = .ok (.invokevirtual 141, 3) := by decide +kernel
theorem dX4_carryOut_7 : decode cX4_carryOut 7 = .ok (.bipush (-6), 2) := by decide +kernel
theorem dX4_carryOut_9 : decode cX4_carryOut 9 = .ok (.if_icmp .eq 6, 3) := by decide +kernel
theorem dX4_carryOut_12 : decode cX4_carryOut 12 = .ok (.bipush (-3), 2) := by decide +kernel
theorem dX4_carryOut_14 : decode cX4_carryOut 14 = .ok (.ireturn, 1) := by decide +kernel
theorem dX4_carryOut_15 : decode cX4_carryOut 15 = .ok (.aload_n 0, 1) := by decide +kernel
theorem dX4_carryOut_16 : decode cX4_carryOut 16 = .ok (.getfield 30, 3) := by decide +kernel
theorem dX4_carryOut_19 : decode cX4_carryOut 19 = .ok (.aload_n 0, 1) := by decide +kernel
theorem dX4_carryOut_20 : decode cX4_carryOut 20 = .ok (.getfield 10, 3) := by decide +kernel
theorem dX4_carryOut_23 : decode cX4_carryOut 23 = .ok (.invokevirtual 41, 3) := by decide +kernel
theorem dX4_carryOut_26 : decode cX4_carryOut 26 = .ok (.iconst 0, 1) := by decide +kernel
theorem dX4_carryOut_27 : decode cX4_carryOut 27 = .ok (.istore_n 1, 1) := by decide +kernel
theorem dX4_carryOut_28 : decode cX4_carryOut 28 = .ok (.iconst 1, 1) := by decide +kernel
theorem dX4_carryOut_29 : decode cX4_carryOut 29 = .ok (.istore_n 2, 1) := by decide +kernel
theorem dX4_carryOut_30 : decode cX4_carryOut 30 = .ok (.aload_n 0, 1) := by decide +kernel
theorem dX4_carryOut_31 : decode cX4_carryOut 31 = .ok (.getfield 37, 3) := by decide +kernel
theorem dX4_carryOut_34 : decode cX4_carryOut 34 = .ok (.invokevirtual 144, 3) := by decide +kernel
theorem dX4_carryOut_37 : decode cX4_carryOut 37 = .ok (.iconst 0, 1) := by decide +kernel
theorem dX4_carryOut_38 : decode cX4_carryOut 38 = .ok (.istore_n 3, 1) := by decide +kernel
theorem dX4_carryOut_39 : decode cX4_carryOut 39 = .ok (.iload_n 3, 1) := by decide +kernel
theorem dX4_carryOut_40 : decode cX4_carryOut 40 = .ok (.bipush 80, 2) := by decide +kernel
theorem dX4_carryOut_42 : decode cX4_carryOut 42 = .ok (.if_icmp .ge 73, 3) := by decide +kernel
theorem dX4_carryOut_45 : decode cX4_carryOut 45 = .ok (.iload_n 2, 1) := by decide +kernel
theorem dX4_carryOut_46 : decode cX4_carryOut 46 = .ok (.ifCond .eq 69, 3) := by decide +kernel
theorem dX4_carryOut_49 : decode cX4_carryOut 49 = .ok (.aload_n 0, 1) := by decide +kernel
theorem dX4_carryOut_50 : decode cX4_carryOut 50 = .ok (.getfield 37, 3) := by decide +kernel
theorem dX4_carryOut_53 : decode cX4_carryOut 53 = .ok (.invokevirtual 147, 3) := by decide +kernel
theorem dX4_carryOut_56 : decode cX4_carryOut 56 = .ok (.ifCond .eq 59, 3) := by decide +kernel
theorem dX4_carryOut_59 : decode cX4_carryOut 59 = .ok (.iconst 0, 1) := by decide +kernel
theorem dX4_carryOut_60 : decode cX4_carryOut 60 = .ok (.istore 4, 2) := by decide +kernel
theorem dX4_carryOut_62 : decode cX4_carryOut 62 = .ok (.iload 4, 2) := by decide +kernel
theorem dX4_carryOut_64 : decode cX4_carryOut 64 = .ok (.aload_n 0, 1) := by decide +kernel
theorem dX4_carryOut_65 : decode cX4_carryOut 65 = .ok (.getfield 37, 3) := by decide +kernel
theorem dX4_carryOut_68 : decode cX4_carryOut 68 = .ok (.getfield 151, 3) := by decide +kernel
theorem dX4_carryOut_71 : decode cX4_carryOut 71 = .ok (.if_icmp .ge 38, 3) := by decide +kernel
theorem dX4_carryOut_74 : decode cX4_carryOut 74 = .ok (.iload_n 2, 1) := by decide +kernel
theorem dX4_carryOut_75 : decode cX4_carryOut 75 = .ok (.ifCond .eq 34, 3) := by decide +kernel
theorem dX4_carryOut_78 : decode cX4_carryOut 78 = .ok (.aload_n 0, 1) := by decide +kernel
theorem dX4_carryOut_79 : decode cX4_carryOut 79 = .ok (.invokevirtual 154, 3) := by decide +kernel
theorem dX4_carryOut_82 : decode cX4_carryOut 82 = .ok (.ifCond .lt 7, 3) := by decide +kernel
theorem dX4_carryOut_85 : decode cX4_carryOut 85 = .ok (.iconst 1, 1) := by decide +kernel
theorem dX4_carryOut_86 : decode cX4_carryOut 86 = .ok (.goto 4, 3) := by decide +kernel
theorem dX4_carryOut_89 : decode cX4_carryOut 89 = .ok (.iconst 0, 1) := by decide +kernel
theorem dX4_carryOut_90 : decode cX4_carryOut 90 = .ok (.istore_n 2, 1) := by decide +kernel
theorem dX4_carryOut_91 : decode cX4_carryOut 91 = .ok (.iload_n 1, 1) := by decide +kernel
theorem dX4_carryOut_92 : decode cX4_carryOut 92 = .ok (.iload_n 2, 1) := by decide +kernel
theorem dX4_carryOut_93 : decode cX4_carryOut 93 = .ok (.ifCond .eq 7, 3) := by decide +kernel
theorem dX4_carryOut_96 : decode cX4_carryOut 96 = .ok (.iconst 1, 1) := by decide +kernel
theorem dX4_carryOut_97 : decode cX4_carryOut 97 = .ok (.goto 4, 3) := by decide +kernel
theorem dX4_carryOut_100 : decode cX4_carryOut 100 = .ok (.iconst 0, 1) := by decide +kernel
theorem dX4_carryOut_101 : decode cX4_carryOut 101 = .ok (.iadd, 1) := by decide +kernel
theorem dX4_carryOut_102 : decode cX4_carryOut 102 = .ok (.istore_n 1, 1) := by decide +kernel
theorem dX4_carryOut_103 : decode cX4_carryOut 103 = .ok (.iinc 4 1, 3) := by decide +kernel
theorem dX4_carryOut_106 : decode cX4_carryOut 106 = .ok (.goto (-44), 3) := by decide +kernel
theorem dX4_carryOut_109 : decode cX4_carryOut 109 = .ok (.iinc 3 1, 3) := by decide +kernel
theorem dX4_carryOut_112 : decode cX4_carryOut 112 = .ok (.goto (-73), 3) := by decide +kernel
theorem dX4_carryOut_115 : decode cX4_carryOut 115 = .ok (.aload_n 0, 1) := by decide +kernel
theorem dX4_carryOut_116 : decode cX4_carryOut 116 = .ok (.getfield 37, 3) := by decide +kernel
theorem dX4_carryOut_119 : decode cX4_carryOut 119 = .ok (.invokevirtual 138, 3) := by decide +kernel
theorem dX4_carryOut_122 : decode cX4_carryOut 122 = .ok (.pop, 1) := by decide +kernel
theorem dX4_carryOut_123 : decode cX4_carryOut 123 = .ok (.aload_n 0, 1) := by decide +kernel
theorem dX4_carryOut_124 : decode cX4_carryOut 124 = .ok (.getfield 30, 3) := by decide +kernel
theorem dX4_carryOut_127 : decode cX4_carryOut 127 = .ok (.iload_n 1, 1) := by decide +kernel
theorem dX4_carryOut_128 : decode cX4_carryOut 128 = .ok (.invokevirtual 49, 3) := by decide +kernel
theorem dX4_carryOut_131 : decode cX4_carryOut 131 = .ok (.ireturn, 1) := by decide +kernel
theorem dX4_save_0 : decode cX4_save 0 = .ok (.iload_n 1, 1) := by decide +kernel
theorem dX4_save_1 : decode cX4_save 1 = .ok (.invokestatic 161, 3) := by decide +kernel
theorem dX4_save_4 : decode cX4_save 4 = .ok (.ifCond .ne 6, 3) := by decide +kernel
theorem dX4_save_7 : decode cX4_save 7 = .ok (.bipush (-2), 2) := by decide +kernel
theorem dX4_save_9 : decode cX4_save 9 = .ok (.ireturn, 1) := by decide +kernel
theorem dX4_save_10 : decode cX4_save 10 = .ok (.aload_n 0, 1) := by decide +kernel
theorem dX4_save_11 : decode cX4_save 11 = .ok (.getfield 19, 3) := by decide +kernel
theorem dX4_save_14 : decode cX4_save 14 = .ok (.iload_n 1, 1) := by decide +kernel
theorem dX4_save_15 : decode cX4_save 15 = .ok (.aaload, 1) := by decide +kernel
theorem dX4_save_16 : decode cX4_save 16 = .ok (.aload_n 0, 1) := by decide +kernel
theorem dX4_save_17 : decode cX4_save 17 = .ok (.getfield 10, 3) := by decide +kernel
theorem dX4_save_20 : decode cX4_save 20 = .ok (.invokevirtual 122, 3) := by decide +kernel
theorem dX4_save_23 : decode cX4_save 23 = .ok (.aload_n 0, 1) := by decide +kernel
theorem dX4_save_24 : decode cX4_save 24 = .ok (.getfield 23, 3) := by decide +kernel
theorem dX4_save_27 : decode cX4_save 27 = .ok (.iload_n 1, 1) := by decide +kernel
theorem dX4_save_28 : decode cX4_save 28 = .ok (.iconst 1, 1) := by decide +kernel
theorem dX4_save_29 : decode cX4_save 29 = .ok (.bastore, 1) := by decide +kernel
theorem dX4_save_30 : decode cX4_save 30 = .ok (.aload_n 0, 1) := by decide +kernel
theorem dX4_save_31 : decode cX4_save 31 = .ok (.getfield 10, 3) := by decide +kernel
theorem dX4_save_34 : decode cX4_save 34 = .ok (.getfield 95, 3) := by decide +kernel
theorem dX4_save_37 : decode cX4_save 37 = .ok (.ireturn, 1) := by decide +kernel
theorem dX4_restore_0 : decode cX4_restore 0 = .ok (.iload_n 1, 1) := by decide +kernel
theorem dX4_restore_1 : decode cX4_restore 1 = .ok (.invokestatic 161, 3) := by decide +kernel
theorem dX4_restore_4 : decode cX4_restore 4 = .ok (.ifCond .ne 6, 3) := by decide +kernel
theorem dX4_restore_7 : decode cX4_restore 7 = .ok (.bipush (-2), 2) := by decide +kernel
theorem dX4_restore_9 : decode cX4_restore 9 = .ok (.ireturn, 1) := by decide +kernel
theorem dX4_restore_10 : decode cX4_restore 10 = .ok (.aload_n 0, 1) := by decide +kernel
theorem dX4_restore_11 : decode cX4_restore 11 = .ok (.getfield 23, 3) := by decide +kernel
theorem dX4_restore_14 : decode cX4_restore 14 = .ok (.iload_n 1, 1) := by decide +kernel
theorem dX4_restore_15 : decode cX4_restore 15 = .ok (.baload, 1) := by decide +kernel
theorem dX4_restore_16 : decode cX4_restore 16 = .ok (.ifCond .ne 6, 3) := by decide +kernel
theorem dX4_restore_19 : decode cX4_restore 19 = .ok (.bipush (-5), 2) := by decide +kernel
theorem dX4_restore_21 : decode cX4_restore 21 = .ok (.ireturn, 1) := by decide +kernel
theorem dX4_restore_22 : decode cX4_restore 22 = .ok (.aload_n 0, 1) := by decide +kernel
theorem dX4_restore_23 : decode cX4_restore 23 = .ok (.getfield 30, 3) := by decide +kernel
theorem dX4_restore_26 : decode cX4_restore 26 = .ok (.aload_n 0, 1) := by decide +kernel
theorem dX4_restore_27 : decode cX4_restore 27 = .ok (.getfield 10, 3) := by decide +kernel
theorem dX4_restore_30 : decode cX4_restore 30 = .ok (.invokevirtual 41, 3) := by decide +kernel
theorem dX4_restore_33 : decode cX4_restore 33 = .ok (.aload_n 0, 1) := by decide +kernel
theorem dX4_restore_34 : decode cX4_restore 34 = .ok (.getfield 10, 3) := by decide +kernel
theorem dX4_restore_37 : decode cX4_restore 37 = .ok (.aload_n 0, 1) := by decide +kernel
theorem dX4_restore_38 : decode cX4_restore 38 = .ok (.getfield 19, 3) := by decide +kernel
theorem dX4_restore_41 : decode cX4_restore 41 = .ok (.iload_n 1, 1) := by decide +kernel
theorem dX4_restore_42 : decode cX4_restore 42 = .ok (.aaload, 1) := by decide +kernel
theorem dX4_restore_43 : decode cX4_restore 43 = .ok (.invokevirtual 122, 3) := by decide +kernel
theorem dX4_restore_46 : decode cX4_restore 46 = .ok (.aload_n 0, 1) := by decide +kernel
theorem dX4_restore_47 : decode cX4_restore 47 = .ok (.getfield 30, 3) := by decide +kernel
theorem dX4_restore_50 : decode cX4_restore 50 = .ok (.aload_n 0, 1) := by decide +kernel
theorem dX4_restore_51 : decode cX4_restore 51 = .ok (.getfield 10, 3) := by decide +kernel
theorem dX4_restore_54 : decode cX4_restore 54 = .ok (.getfield 95, 3) := by decide +kernel
theorem dX4_restore_57 : decode cX4_restore 57 = .ok (.invokevirtual 49, 3) := by decide +kernel
theorem dX4_restore_60 : decode cX4_restore 60 = .ok (.ireturn, 1) := by decide +kernel
theorem dX4_isQueue_0 : decode cX4_isQueue 0 = .ok (.iload_n 0, 1) := by decide +kernel
theorem dX4_isQueue_1 : decode cX4_isQueue 1 = .ok (.ifCond .lt 12, 3) := by decide +kernel
theorem dX4_isQueue_4 : decode cX4_isQueue 4 = .ok (.iload_n 0, 1) := by decide +kernel
theorem dX4_isQueue_5 : decode cX4_isQueue 5 = .ok (.iconst 3, 1) := by decide +kernel
theorem dX4_isQueue_6 : decode cX4_isQueue 6 = .ok (.if_icmp .ge 7, 3) := by decide +kernel
theorem dX4_isQueue_9 : decode cX4_isQueue 9 = .ok (.iconst 1, 1) := by decide +kernel
theorem dX4_isQueue_10 : decode cX4_isQueue 10 = .ok (.goto 4, 3) := by decide +kernel
theorem dX4_isQueue_13 : decode cX4_isQueue 13 = .ok (.iconst 0, 1) := by decide +kernel
theorem dX4_isQueue_14 : decode cX4_isQueue 14 = .ok (.ireturn, 1) := by decide +kernel
theorem dX4_isSlot_0 : decode cX4_isSlot 0 = .ok (.iload_n 0, 1) := by decide +kernel
theorem dX4_isSlot_1 : decode cX4_isSlot 1 = .ok (.ifCond .lt 12, 3) := by decide +kernel
theorem dX4_isSlot_4 : decode cX4_isSlot 4 = .ok (.iload_n 0, 1) := by decide +kernel
theorem dX4_isSlot_5 : decode cX4_isSlot 5 = .ok (.iconst 2, 1) := by decide +kernel
theorem dX4_isSlot_6 : decode cX4_isSlot 6 = .ok (.if_icmp .ge 7, 3) := by decide +kernel
theorem dX4_isSlot_9 : decode cX4_isSlot 9 = .ok (.iconst 1, 1) := by decide +kernel
theorem dX4_isSlot_10 : decode cX4_isSlot 10 = .ok (.goto 4, 3) := by decide +kernel
theorem dX4_isSlot_13 : decode cX4_isSlot 13 = .ok (.iconst 0, 1) := by decide +kernel
theorem dX4_isSlot_14 : decode cX4_isSlot 14 = .ok (.ireturn, 1) := by decide +kernel
theorem dX4_trialCost_0 : decode cX4_trialCost 0 = .ok (.aload_n 0, 1) := by decide +kernel
theorem dX4_trialCost_1 : decode cX4_trialCost 1 = .ok (.getfield 16, 3) := by decide +kernel
theorem dX4_trialCost_4 : decode cX4_trialCost 4 = .ok (.aload_n 0, 1) := by decide +kernel
theorem dX4_trialCost_5 : decode cX4_trialCost 5 = .ok (.getfield 10, 3) := by decide +kernel
theorem dX4_trialCost_8 : decode cX4_trialCost 8 = .ok (.invokevirtual 164, 3) := by decide +kernel
theorem dX4_trialCost_11 : decode cX4_trialCost 11 = .ok (.aload_n 0, 1) := by decide +kernel
theorem dX4_trialCost_12 : decode cX4_trialCost 12 = .ok (.getfield 16, 3) := by decide +kernel
theorem dX4_trialCost_15 : decode cX4_trialCost 15 = .ok (.iload_n 1, 1) := by decide +kernel
theorem dX4_trialCost_16 : decode cX4_trialCost 16 = .ok (.iload_n 2, 1) := by decide +kernel
theorem dX4_trialCost_17 : decode cX4_trialCost 17 = .ok (.aload_n 0, 1) := by decide +kernel
theorem dX4_trialCost_18 : decode cX4_trialCost 18 = .ok (.getfield 10, 3) := by decide +kernel
theorem dX4_trialCost_21 : decode cX4_trialCost 21 = .ok (.getfield 73, 3) := by decide +kernel
theorem dX4_trialCost_24 : decode cX4_trialCost 24 = .ok (.iload_n 1, 1) := by decide +kernel
theorem dX4_trialCost_25 : decode cX4_trialCost 25 = .ok (.aaload, 1) := by decide +kernel
theorem dX4_trialCost_26 : decode cX4_trialCost 26 = .ok (.getfield 167, 3) := by decide +kernel
theorem dX4_trialCost_29 : decode cX4_trialCost 29 = .ok (.invokevirtual 53, 3) := by decide +kernel
theorem dX4_trialCost_32 : decode cX4_trialCost 32 = .ok (.pop, 1) := by decide +kernel
theorem dX4_trialCost_33 : decode cX4_trialCost 33 = .ok (.iconst 0, 1) := by decide +kernel
theorem dX4_trialCost_34 : decode cX4_trialCost 34 = .ok (.istore 4, 2) := by decide +kernel
theorem dX4_trialCost_36 : decode cX4_trialCost 36 = .ok (.iload 4, 2) := by decide +kernel
theorem dX4_trialCost_38 : decode cX4_trialCost 38 = .ok (.bipush 16, 2) := by decide +kernel
theorem dX4_trialCost_40 : decode cX4_trialCost 40 = .ok (.if_icmp .ge 27, 3) := by decide +kernel
theorem dX4_trialCost_43 : decode cX4_trialCost 43 = .ok (.aload_n 0, 1) := by decide +kernel
theorem dX4_trialCost_44 : decode cX4_trialCost 44 = .ok (.getfield 16, 3) := by decide +kernel
theorem dX4_trialCost_47 : decode cX4_trialCost 47 = .ok (.iload_n 1, 1) := by decide +kernel
theorem dX4_trialCost_48 : decode cX4_trialCost 48 = .ok (.invokevirtual 57, 3) := by decide +kernel
theorem dX4_trialCost_51 : decode cX4_trialCost 51 = .ok (.pop, 1) := by decide +kernel
theorem dX4_trialCost_52 : decode cX4_trialCost 52 = .ok (.aload_n 0, 1) := by decide +kernel
theorem dX4_trialCost_53 : decode cX4_trialCost 53 = .ok (.getfield 16, 3) := by decide +kernel
theorem dX4_trialCost_56 : decode cX4_trialCost 56 = .ok (.iload_n 3, 1) := by decide +kernel
theorem dX4_trialCost_57 : decode cX4_trialCost 57 = .ok (.invokevirtual 128, 3) := by decide +kernel
theorem dX4_trialCost_60 : decode cX4_trialCost 60 = .ok (.pop, 1) := by decide +kernel
theorem dX4_trialCost_61 : decode cX4_trialCost 61 = .ok (.iinc 4 1, 3) := by decide +kernel
theorem dX4_trialCost_64 : decode cX4_trialCost 64 = .ok (.goto (-28), 3) := by decide +kernel
theorem dX4_trialCost_67 : decode cX4_trialCost 67 = .ok (.iconst 0, 1) := by decide +kernel
theorem dX4_trialCost_68 : decode cX4_trialCost 68 = .ok (.istore 4, 2) := by decide +kernel
theorem dX4_trialCost_70 : decode cX4_trialCost 70 = .ok (.iload 4, 2) := by decide +kernel
theorem dX4_trialCost_72 : decode cX4_trialCost 72 = .ok (.sipush 1000, 3) := by decide +kernel
theorem dX4_trialCost_75 : decode cX4_trialCost 75 = .ok (.if_icmp .ge 32, 3) := by decide +kernel
theorem dX4_trialCost_78 : decode cX4_trialCost 78 = .ok (.aload_n 0, 1) := by decide +kernel
theorem dX4_trialCost_79 : decode cX4_trialCost 79 = .ok (.getfield 16, 3) := by decide +kernel
theorem dX4_trialCost_82 : decode cX4_trialCost 82 = .ok (.getfield 73, 3) := by decide +kernel
theorem dX4_trialCost_85 : decode cX4_trialCost 85 = .ok (.iload_n 1, 1) := by decide +kernel
theorem dX4_trialCost_86 : decode cX4_trialCost 86 = .ok (.aaload, 1) := by decide +kernel
theorem dX4_trialCost_87 : decode cX4_trialCost 87 = .ok (.getfield 170, 3) := by decide +kernel
theorem dX4_trialCost_90 : decode cX4_trialCost 90 = .ok (.ifCond .le 17, 3) := by decide +kernel
theorem dX4_trialCost_93 : decode cX4_trialCost 93 = .ok (.aload_n 0, 1) := by decide +kernel
theorem dX4_trialCost_94 : decode cX4_trialCost 94 = .ok (.getfield 16, 3) := by decide +kernel
theorem dX4_trialCost_97 : decode cX4_trialCost 97 = .ok (.invokevirtual 125, 3) := by decide +kernel
theorem dX4_trialCost_100 : decode cX4_trialCost 100 = .ok (.pop, 1) := by decide +kernel
theorem dX4_trialCost_101 : decode cX4_trialCost 101 = .ok (.iinc 4 1, 3) := by decide +kernel
theorem dX4_trialCost_104 : decode cX4_trialCost 104 = .ok (.goto (-34), 3) := by decide +kernel
theorem dX4_trialCost_107 : decode cX4_trialCost 107 = .ok (.aload_n 0, 1) := by decide +kernel
theorem dX4_trialCost_108 : decode cX4_trialCost 108 = .ok (.getfield 16, 3) := by decide +kernel
theorem dX4_trialCost_111 : decode cX4_trialCost 111 = .ok (.bipush 9, 2) := by decide +kernel
theorem dX4_trialCost_113 : decode cX4_trialCost 113 = .ok (.invokevirtual 98, 3) := by decide +kernel
theorem dX4_trialCost_116 : decode cX4_trialCost 116 = .ok (.aload_n 0, 1) := by decide +kernel
theorem dX4_trialCost_117 : decode cX4_trialCost 117 = .ok (.getfield 16, 3) := by decide +kernel
theorem dX4_trialCost_120 : decode cX4_trialCost 120 = .ok (.getfield 105, 3) := by decide +kernel
theorem dX4_trialCost_123 : decode cX4_trialCost 123 = .ok (.iconst 3, 1) := by decide +kernel
theorem dX4_trialCost_124 : decode cX4_trialCost 124 = .ok (.iaload, 1) := by decide +kernel
theorem dX4_trialCost_125 : decode cX4_trialCost 125 = .ok (.aload_n 0, 1) := by decide +kernel
theorem dX4_trialCost_126 : decode cX4_trialCost 126 = .ok (.getfield 16, 3) := by decide +kernel
theorem dX4_trialCost_129 : decode cX4_trialCost 129 = .ok (.bipush 6, 2) := by decide +kernel
theorem dX4_trialCost_131 : decode cX4_trialCost 131 = .ok (.invokevirtual 98, 3) := by decide +kernel
theorem dX4_trialCost_134 : decode cX4_trialCost 134 = .ok (.imul, 1) := by decide +kernel
theorem dX4_trialCost_135 : decode cX4_trialCost 135 = .ok (.iadd, 1) := by decide +kernel
theorem dX4_trialCost_136 : decode cX4_trialCost 136 = .ok (.ireturn, 1) := by decide +kernel
theorem dX4_carryOrder_0 : decode cX4_carryOrder 0 = .ok (.aload_n 0, 1) := by decide +kernel
theorem dX4_carryOrder_1 : decode cX4_carryOrder 1 = .ok (.getfield 37, 3) := by decide +kernel
theorem dX4_carryOrder_4 : decode cX4_carryOrder 4 = .ok (.getfield 173, 3) := by decide +kernel
theorem dX4_carryOrder_7 : decode cX4_carryOrder 7 = .ok (.lookupswitch 92 #[(102, 33), (113, 63), (116, 48)], 33) := by decide +kernel
theorem dX4_carryOrder_40 : decode cX4_carryOrder 40 = .ok (.aload_n 0, 1) := by decide +kernel
theorem dX4_carryOrder_41 : decode cX4_carryOrder 41 = .ok (.getfield 10, 3) := by decide +kernel
theorem dX4_carryOrder_44 : decode cX4_carryOrder 44 = .ok (.aload_n 0, 1) := by decide +kernel
theorem dX4_carryOrder_45 : decode cX4_carryOrder 45 = .ok (.getfield 37, 3) := by decide +kernel
theorem dX4_carryOrder_48 : decode cX4_carryOrder 48 = .ok (.getfield 177, 3) := by decide +kernel
theorem dX4_carryOrder_51 : decode cX4_carryOrder 51 = .ok (.invokevirtual 57, 3) := by decide +kernel
theorem dX4_carryOrder_54 : decode cX4_carryOrder 54 = .ok (.ireturn, 1) := by decide +kernel
theorem dX4_carryOrder_55 : decode cX4_carryOrder 55 = .ok (.aload_n 0, 1) := by decide +kernel
theorem dX4_carryOrder_56 : decode cX4_carryOrder 56 = .ok (.getfield 10, 3) := by decide +kernel
theorem dX4_carryOrder_59 : decode cX4_carryOrder 59 = .ok (.aload_n 0, 1) := by decide +kernel
theorem dX4_carryOrder_60 : decode cX4_carryOrder 60 = .ok (.getfield 37, 3) := by decide +kernel
theorem dX4_carryOrder_63 : decode cX4_carryOrder 63 = .ok (.getfield 177, 3) := by decide +kernel
theorem dX4_carryOrder_66 : decode cX4_carryOrder 66 = .ok (.invokevirtual 66, 3) := by decide +kernel
theorem dX4_carryOrder_69 : decode cX4_carryOrder 69 = .ok (.ireturn, 1) := by decide +kernel
theorem dX4_carryOrder_70 : decode cX4_carryOrder 70 = .ok (.aload_n 0, 1) := by decide +kernel
theorem dX4_carryOrder_71 : decode cX4_carryOrder 71 = .ok (.getfield 10, 3) := by decide +kernel
theorem dX4_carryOrder_74 : decode cX4_carryOrder 74 = .ok (.aload_n 0, 1) := by decide +kernel
theorem dX4_carryOrder_75 : decode cX4_carryOrder 75 = .ok (.getfield 37, 3) := by decide +kernel
theorem dX4_carryOrder_78 : decode cX4_carryOrder 78 = .ok (.getfield 177, 3) := by decide +kernel
theorem dX4_carryOrder_81 : decode cX4_carryOrder 81 = .ok (.aload_n 0, 1) := by decide +kernel
theorem dX4_carryOrder_82 : decode cX4_carryOrder 82 = .ok (.getfield 37, 3) := by decide +kernel
theorem dX4_carryOrder_85 : decode cX4_carryOrder 85 = .ok (.getfield 180, 3) := by decide +kernel
theorem dX4_carryOrder_88 : decode cX4_carryOrder 88 = .ok (.aload_n 0, 1) := by decide +kernel
theorem dX4_carryOrder_89 : decode cX4_carryOrder 89 = .ok (.getfield 37, 3) := by decide +kernel
theorem dX4_carryOrder_92 : decode cX4_carryOrder 92 = .ok (.getfield 183, 3) := by decide +kernel
theorem dX4_carryOrder_95 : decode cX4_carryOrder 95 = .ok (.invokevirtual 53, 3) := by decide +kernel
theorem dX4_carryOrder_98 : decode cX4_carryOrder 98 = .ok (.ireturn, 1) := by decide +kernel
theorem dX4_carryOrder_99 : decode cX4_carryOrder 99 = .ok (.aload_n 0, 1) := by decide +kernel
theorem dX4_carryOrder_100 : decode cX4_carryOrder 100 = .ok (.getfield 10, 3) := by decide +kernel
theorem dX4_carryOrder_103 : decode cX4_carryOrder 103 = .ok (.aload_n 0, 1) := by decide +kernel
theorem dX4_carryOrder_104 : decode cX4_carryOrder 104 = .ok (.getfield 37, 3) := by decide +kernel
theorem dX4_carryOrder_107 : decode cX4_carryOrder 107 = .ok (.getfield 177, 3) := by decide +kernel
theorem dX4_carryOrder_110 : decode cX4_carryOrder 110 = .ok (.invokevirtual 60, 3) := by decide +kernel
theorem dX4_carryOrder_113 : decode cX4_carryOrder 113 = .ok (.ireturn, 1) := by decide +kernel
theorem dL_cell_0 : decode cL_cell 0 = .ok (.iload_n 1, 1) := by decide +kernel
theorem dL_cell_1 : decode cL_cell 1 = .ok (.aload_n 0, 1) := by decide +kernel
theorem dL_cell_2 : decode cL_cell 2 = .ok (.arraylength, 1) := by decide +kernel
theorem dL_cell_3 : decode cL_cell 3 = .ok (.if_icmp .ge 9, 3) := by decide +kernel
theorem dL_cell_6 : decode cL_cell 6 = .ok (.aload_n 0, 1) := by decide +kernel
theorem dL_cell_7 : decode cL_cell 7 = .ok (.iload_n 1, 1) := by decide +kernel
theorem dL_cell_8 : decode cL_cell 8 = .ok (.iaload, 1) := by decide +kernel
theorem dL_cell_9 : decode cL_cell 9 = .ok (.goto 11, 3) := by decide +kernel
theorem dL_cell_12 : decode cL_cell 12 = .ok (.ldc 7, 2) := by decide +kernel
theorem dL_cell_14 : decode cL_cell 14 = .ok (.iload_n 1, 1) := by decide +kernel
theorem dL_cell_15 : decode cL_cell 15 = .ok (.sipush 1361, 3) := by decide +kernel
theorem dL_cell_18 : decode cL_cell 18 = .ok (.iadd, 1) := by decide +kernel
theorem dL_cell_19 : decode cL_cell 19 = .ok (.imul, 1) := by decide +kernel
theorem dL_cell_20 : decode cL_cell 20 = .ok (.ireturn, 1) := by decide +kernel
theorem dL_up_0 : decode cL_up 0 = .ok (.iload_n 0, 1) := by decide +kernel
theorem dL_up_1 : decode cL_up 1 = .ok (.ldc 8, 2) := by decide +kernel
theorem dL_up_3 : decode cL_up 3 = .ok (.iand, 1) := by decide +kernel
theorem dL_up_4 : decode cL_up 4 = .ok (.iload_n 1, 1) := by decide +kernel
theorem dL_up_5 : decode cL_up 5 = .ok (.irem, 1) := by decide +kernel
theorem dL_up_6 : decode cL_up 6 = .ok (.ireturn, 1) := by decide +kernel
theorem dL_number_0 : decode cL_number 0 = .ok (.iload_n 1, 1) := by decide +kernel
theorem dL_number_1 : decode cL_number 1 = .ok (.bipush 10, 2) := by decide +kernel
theorem dL_number_3 : decode cL_number 3 = .ok (.if_icmp .lt 18, 3) := by decide +kernel
theorem dL_number_6 : decode cL_number 6 = .ok (.aload_n 0, 1) := by decide +kernel
theorem dL_number_7 : decode cL_number 7 = .ok (.bipush 48, 2) := by decide +kernel
theorem dL_number_9 : decode cL_number 9 = .ok (.iload_n 1, 1) := by decide +kernel
theorem dL_number_10 : decode cL_number 10 = .ok (.bipush 10, 2) := by decide +kernel
theorem dL_number_12 : decode cL_number 12 = .ok (.idiv, 1) := by decide +kernel
theorem dL_number_13 : decode cL_number 13 = .ok (.iadd, 1) := by decide +kernel
theorem dL_number_14 : decode cL_number 14 = .ok (.i2l, 1) := by decide +kernel
theorem dL_number_15 : decode cL_number 15 = .ok (.invokevirtual 9, 3) := by decide +kernel
theorem dL_number_18 : decode cL_number 18 = .ok (.ifCond .le 22, 3) := by decide +kernel
theorem dL_number_21 : decode cL_number 21 = .ok (.aload_n 0, 1) := by decide +kernel
theorem dL_number_22 : decode cL_number 22 = .ok (.bipush 48, 2) := by decide +kernel
theorem dL_number_24 : decode cL_number 24 = .ok (.iload_n 1, 1) := by decide +kernel
theorem dL_number_25 : decode cL_number 25 = .ok (.bipush 10, 2) := by decide +kernel
theorem dL_number_27 : decode cL_number 27 = .ok (.irem, 1) := by decide +kernel
theorem dL_number_28 : decode cL_number 28 = .ok (.iadd, 1) := by decide +kernel
theorem dL_number_29 : decode cL_number 29 = .ok (.i2l, 1) := by decide +kernel
theorem dL_number_30 : decode cL_number 30 = .ok (.invokevirtual 9, 3) := by decide +kernel
theorem dL_number_33 : decode cL_number 33 = .ok (.ifCond .le 7, 3) := by decide +kernel
theorem dL_number_36 : decode cL_number 36 = .ok (.iconst 1, 1) := by decide +kernel
theorem dL_number_37 : decode cL_number 37 = .ok (.goto 4, 3) := by decide +kernel
theorem dL_number_40 : decode cL_number 40 = .ok (.iconst 0, 1) := by decide +kernel
theorem dL_number_41 : decode cL_number 41 = .ok (.ireturn, 1) := by decide +kernel
theorem dL_sum_0 : decode cL_sum 0 = .ok (.aload_n 0, 1) := by decide +kernel
theorem dL_sum_1 : decode cL_sum 1 = .ok (.iconst 0, 1) := by decide +kernel
theorem dL_sum_2 : decode cL_sum 2 = .ok (.iload_n 1, 1) := by decide +kernel
theorem dL_sum_3 : decode cL_sum 3 = .ok (.invokevirtual 15, 3) := by decide +kernel
theorem dL_sum_6 : decode cL_sum 6 = .ok (.aload_n 0, 1) := by decide +kernel
theorem dL_sum_7 : decode cL_sum 7 = .ok (.iconst 1, 1) := by decide +kernel
theorem dL_sum_8 : decode cL_sum 8 = .ok (.iload_n 1, 1) := by decide +kernel
theorem dL_sum_9 : decode cL_sum 9 = .ok (.invokevirtual 15, 3) := by decide +kernel
theorem dL_sum_12 : decode cL_sum 12 = .ok (.iadd, 1) := by decide +kernel
theorem dL_sum_13 : decode cL_sum 13 = .ok (.aload_n 0, 1) := by decide +kernel
theorem dL_sum_14 : decode cL_sum 14 = .ok (.iconst 2, 1) := by decide +kernel
theorem dL_sum_15 : decode cL_sum 15 = .ok (.iload_n 1, 1) := by decide +kernel
theorem dL_sum_16 : decode cL_sum 16 = .ok (.invokevirtual 15, 3) := by decide +kernel
theorem dL_sum_19 : decode cL_sum 19 = .ok (.iadd, 1) := by decide +kernel
theorem dL_sum_20 : decode cL_sum 20 = .ok (.ireturn, 1) := by decide +kernel
theorem dL_isStep_0 : decode cL_isStep 0 = .ok (.iload_n 2, 1) := by decide +kernel
theorem dL_isStep_1 : decode cL_isStep 1 = .ok (.iconst 4, 1) := by decide +kernel
theorem dL_isStep_2 : decode cL_isStep 2 = .ok (.ishr, 1) := by decide +kernel
theorem dL_isStep_3 : decode cL_isStep 3 = .ok (.istore 4, 2) := by decide +kernel
theorem dL_isStep_5 : decode cL_isStep 5 = .ok (.iload 4, 2) := by decide +kernel
theorem dL_isStep_7 : decode cL_isStep 7 = .ok (.iconst 3, 1) := by decide +kernel
theorem dL_isStep_8 : decode cL_isStep 8 = .ok (.invokestatic 19, 3) := by decide +kernel
theorem dL_isStep_11 : decode cL_isStep 11 = .ok (.istore 5, 2) := by decide +kernel
theorem dL_isStep_13 : decode cL_isStep 13 = .ok (.aload_n 0, 1) := by decide +kernel
theorem dL_isStep_14 : decode cL_isStep 14 = .ok (.iconst 1, 1) := by decide +kernel
theorem dL_isStep_15 : decode cL_isStep 15 = .ok (.invokevirtual 24, 3) := by decide +kernel
theorem dL_isStep_18 : decode cL_isStep 18 = .ok (.istore 6, 2) := by decide +kernel
theorem dL_isStep_20 : decode cL_isStep 20 = .ok (.iload_n 2, 1) := by decide +kernel
theorem dL_isStep_21 : decode cL_isStep 21 = .ok (.bipush 18, 2) := by decide +kernel
theorem dL_isStep_23 : decode cL_isStep 23 = .ok (.invokestatic 19, 3) := by decide +kernel
theorem dL_isStep_26 : decode cL_isStep 26 = .ok (.tableswitch 893 0 9 #[54, 187, 187, 381, 461, 597, 597, 597, 730, 825], 54) := by decide +kernel
theorem dL_isStep_80 : decode cL_isStep 80 = .ok (.iload 4, 2) := by decide +kernel
theorem dL_isStep_82 : decode cL_isStep 82 = .ok (.iconst 4, 1) := by decide +kernel
theorem dL_isStep_83 : decode cL_isStep 83 = .ok (.invokestatic 19, 3) := by decide +kernel
theorem dL_isStep_86 : decode cL_isStep 86 = .ok (.istore 7, 2) := by decide +kernel
theorem dL_isStep_88 : decode cL_isStep 88 = .ok (.iload 7, 2) := by decide +kernel
theorem dL_isStep_90 : decode cL_isStep 90 = .ok (.ifCond .ne 14, 3) := by decide +kernel
theorem dL_isStep_93 : decode cL_isStep 93 = .ok (.iconst 1, 1) := by decide +kernel
theorem dL_isStep_94 : decode cL_isStep 94 = .ok (.iload_n 3, 1) := by decide +kernel
theorem dL_isStep_95 : decode cL_isStep 95 = .ok (.bipush 32, 2) := by decide +kernel
theorem dL_isStep_97 : decode cL_isStep 97 = .ok (.invokestatic 19, 3) := by decide +kernel
theorem dL_isStep_100 : decode cL_isStep 100 = .ok (.iadd, 1) := by decide +kernel
theorem dL_isStep_101 : decode cL_isStep 101 = .ok (.goto 53, 3) := by decide +kernel
theorem dL_isStep_104 : decode cL_isStep 104 = .ok (.iload 7, 2) := by decide +kernel
theorem dL_isStep_106 : decode cL_isStep 106 = .ok (.iconst 1, 1) := by decide +kernel
theorem dL_isStep_107 : decode cL_isStep 107 = .ok (.if_icmp .ne 27, 3) := by decide +kernel
