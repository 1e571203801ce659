theorem dX4_init_0 : decode cX4_init 0 = .ok (.aload_n 0, 1) := by decide +kernel
theorem dX4_init_1 : decode cX4_init 1 = .ok (.invokespecial 1, 3) := by decide +kernel
theorem dX4_init_4 : decode cX4_init 4 = .ok (.aload_n 0, 1) := by decide +kernel
theorem dX4_init_5 : decode cX4_init 5 = .ok (.sipush 200, 3) := by decide +kernel
theorem dX4_init_8 : decode cX4_init 8 = .ok (.newarray .int, 2) := by decide +kernel
theorem dX4_init_10 : decode cX4_init 10 = .ok (.putfield 7, 3) := by decide +kernel
theorem dX4_init_13 : decode cX4_init 13 = .ok (.aload_n 0, 1) := by decide +kernel
theorem dX4_init_14 : decode cX4_init 14 = .ok (.bipush 56, 2) := by decide +kernel
theorem dX4_init_16 : decode cX4_init 16 = .ok (.newarray .int, 2) := by decide +kernel
theorem dX4_init_18 : decode cX4_init 18 = .ok (.putfield 13, 3) := by decide +kernel
theorem dX4_init_21 : decode cX4_init 21 = .ok (.aload_n 0, 1) := by decide +kernel
theorem dX4_init_22 : decode cX4_init 22 = .ok (.bipush 56, 2) := by decide +kernel
theorem dX4_init_24 : decode cX4_init 24 = .ok (.newarray .int, 2) := by decide +kernel
theorem dX4_init_26 : decode cX4_init 26 = .ok (.putfield 16, 3) := by decide +kernel
theorem dX4_init_29 : decode cX4_init 29 = .ok (.aload_n 0, 1) := by decide +kernel
theorem dX4_init_30 : decode cX4_init 30 = .ok (.bipush 21, 2) := by decide +kernel
theorem dX4_init_32 : decode cX4_init 32 = .ok (.newarray .int, 2) := by decide +kernel
theorem dX4_init_34 : decode cX4_init 34 = .ok (.putfield 19, 3) := by decide +kernel
theorem dX4_init_37 : decode cX4_init 37 = .ok (.aload_n 0, 1) := by decide +kernel
theorem dX4_init_38 : decode cX4_init 38 = .ok (.sipush 210, 3) := by decide +kernel
theorem dX4_init_41 : decode cX4_init 41 = .ok (.newarray .int, 2) := by decide +kernel
theorem dX4_init_43 : decode cX4_init 43 = .ok (.putfield 22, 3) := by decide +kernel
theorem dX4_init_46 : decode cX4_init 46 = .ok (.aload_n 0, 1) := by decide +kernel
theorem dX4_init_47 : decode cX4_init 47 = .ok (.bipush 42, 2) := by decide +kernel
theorem dX4_init_49 : decode cX4_init 49 = .ok (.newarray .int, 2) := by decide +kernel
theorem dX4_init_51 : decode cX4_init 51 = .ok (.putfield 25, 3) := by decide +kernel
theorem dX4_init_54 : decode cX4_init 54 = .ok (.aload_n 0, 1) := by decide +kernel
theorem dX4_init_55 : decode cX4_init 55 = .ok (.iconst 2, 1) := by decide +kernel
theorem dX4_init_56 : decode cX4_init 56 = .ok (.newarray .boolean, 2) := by decide +kernel
theorem dX4_init_58 : decode cX4_init 58 = .ok (.putfield 28, 3) := by decide +kernel
theorem dX4_init_61 : decode cX4_init 61 = .ok (.aload_n 0, 1) := by decide +kernel
theorem dX4_init_62 : decode cX4_init 62 = .ok (.bipush 6, 2) := by decide +kernel
theorem dX4_init_64 : decode cX4_init 64 = .ok (.newarray .int, 2) := by decide +kernel
theorem dX4_init_66 : decode cX4_init 66 = .ok (.putfield 32, 3) := by decide +kernel
theorem dX4_init_69 : decode cX4_init 69 = .ok (.aload_n 0, 1) := by decide +kernel
theorem dX4_init_70 : decode cX4_init 70 = .ok (.bipush 63, 2) := by decide +kernel
theorem dX4_init_72 : decode cX4_init 72 = .ok (.putfield 35, 3) := by decide +kernel
theorem dX4_init_75 : decode cX4_init 75 = .ok (.aload_n 0, 1) := by decide +kernel
theorem dX4_init_76 : decode cX4_init 76 = .ok (.bipush (-9), 2) := by decide +kernel
theorem dX4_init_78 : decode cX4_init 78 = .ok (.putfield 39, 3) := by decide +kernel
theorem dX4_init_81 : decode cX4_init 81 = .ok (.aload_n 0, 1) := by decide +kernel
theorem dX4_init_82 : decode cX4_init 82 = .ok (.bipush (-9), 2) := by decide +kernel
theorem dX4_init_84 : decode cX4_init 84 = .ok (.putfield 42, 3) := by decide +kernel
theorem dX4_init_87 : decode cX4_init 87 = .ok (.aload_n 0, 1) := by decide +kernel
theorem dX4_init_88 : decode cX4_init 88 = .ok (.bipush (-9), 2) := by decide +kernel
theorem dX4_init_90 : decode cX4_init 90 = .ok (.putfield 45, 3) := by decide +kernel
theorem dX4_init_93 : decode cX4_init 93 = .ok (.aload_n 0, 1) := by decide +kernel
theorem dX4_init_94 : decode cX4_init 94 = .ok (.bipush 21, 2) := by decide +kernel
theorem dX4_init_96 : decode cX4_init 96 = .ok (.newarray .int, 2) := by decide +kernel
theorem dX4_init_98 : decode cX4_init 98 = .ok (.putfield 48, 3) := by decide +kernel
theorem dX4_init_101 : decode cX4_init 101 = .ok (.aload_n 0, 1) := by decide +kernel
theorem dX4_init_102 : decode cX4_init 102 = .ok (.bipush 63, 2) := by decide +kernel
theorem dX4_init_104 : decode cX4_init 104 = .ok (.newarray .int, 2) := by decide +kernel
theorem dX4_init_106 : decode cX4_init 106 = .ok (.putfield 51, 3) := by decide +kernel
theorem dX4_init_109 : decode cX4_init 109 = .ok (.aload_n 0, 1) := by decide +kernel
theorem dX4_init_110 : decode cX4_init 110 = .ok (.iconst 3, 1) := by decide +kernel
theorem dX4_init_111 : decode cX4_init 111 = .ok (.newarray .int, 2) := by decide +kernel
theorem dX4_init_113 : decode cX4_init 113 = .ok (.putfield 54, 3) := by decide +kernel
theorem dX4_init_116 : decode cX4_init 116 = .ok (.aload_n 0, 1) := by decide +kernel
theorem dX4_init_117 : decode cX4_init 117 = .ok (.iconst 3, 1) := by decide +kernel
theorem dX4_init_118 : decode cX4_init 118 = .ok (.newarray .int, 2) := by decide +kernel
theorem dX4_init_120 : decode cX4_init 120 = .ok (.putfield 57, 3) := by decide +kernel
theorem dX4_init_123 : decode cX4_init 123 = .ok (.aload_n 0, 1) := by decide +kernel
theorem dX4_init_124 : decode cX4_init 124 = .ok (.invokevirtual 60, 3) := by decide +kernel
theorem dX4_init_127 : decode cX4_init 127 = .ok (.pop, 1) := by decide +kernel
theorem dX4_init_128 : decode cX4_init 128 = .ok (.aload_n 0, 1) := by decide +kernel
theorem dX4_init_129 : decode cX4_init 129 = .ok (.invokevirtual 64, 3) := by decide +kernel
theorem dX4_init_132 : decode cX4_init 132 = .ok (.return_, 1) := by decide +kernel
theorem dX4_in_0 : decode cX4_in 0 = .ok (.iload_n 0, 1) := by decide +kernel
theorem dX4_in_1 : decode cX4_in 1 = .ok (.iload_n 1, 1) := by decide +kernel
theorem dX4_in_2 : decode cX4_in 2 = .ok (.if_icmp .lt 12, 3) := by decide +kernel
theorem dX4_in_5 : decode cX4_in 5 = .ok (.iload_n 0, 1) := by decide +kernel
theorem dX4_in_6 : decode cX4_in 6 = .ok (.iload_n 2, 1) := by decide +kernel
theorem dX4_in_7 : decode cX4_in 7 = .ok (.if_icmp .gt 7, 3) := by decide +kernel
theorem dX4_in_10 : decode cX4_in 10 = .ok (.iconst 1, 1) := by decide +kernel
theorem dX4_in_11 : decode cX4_in 11 = .ok (.goto 4, 3) := by decide +kernel
theorem dX4_in_14 : decode cX4_in 14 = .ok (.iconst 0, 1) := by decide +kernel
theorem dX4_in_15 : decode cX4_in 15 = .ok (.ireturn, 1) := by decide +kernel
theorem dX4_isCitizen_0 : decode cX4_isCitizen 0 = .ok (.iload_n 1, 1) := by decide +kernel
theorem dX4_isCitizen_1 : decode cX4_isCitizen 1 = .ok (.iconst 0, 1) := by decide +kernel
theorem dX4_isCitizen_2 : decode cX4_isCitizen 2 = .ok (.aload_n 0, 1) := by decide +kernel
theorem dX4_isCitizen_3 : decode cX4_isCitizen 3 = .ok (.getfield 13, 3) := by decide +kernel
theorem dX4_isCitizen_6 : decode cX4_isCitizen 6 = .ok (.iconst 2, 1) := by decide +kernel
theorem dX4_isCitizen_7 : decode cX4_isCitizen 7 = .ok (.iaload, 1) := by decide +kernel
theorem dX4_isCitizen_8 : decode cX4_isCitizen 8 = .ok (.iconst 1, 1) := by decide +kernel
theorem dX4_isCitizen_9 : decode cX4_isCitizen 9 = .ok (.isub, 1) := by decide +kernel
theorem dX4_isCitizen_10 : decode cX4_isCitizen 10 = .ok (.invokestatic 67, 3) := by decide +kernel
theorem dX4_isCitizen_13 : decode cX4_isCitizen 13 = .ok (.ireturn, 1) := by decide +kernel
theorem dX4_isDistrict_0 : decode cX4_isDistrict 0 = .ok (.iload_n 1, 1) := by decide +kernel
theorem dX4_isDistrict_1 : decode cX4_isDistrict 1 = .ok (.iconst 0, 1) := by decide +kernel
theorem dX4_isDistrict_2 : decode cX4_isDistrict 2 = .ok (.aload_n 0, 1) := by decide +kernel
theorem dX4_isDistrict_3 : decode cX4_isDistrict 3 = .ok (.getfield 13, 3) := by decide +kernel
theorem dX4_isDistrict_6 : decode cX4_isDistrict 6 = .ok (.iconst 0, 1) := by decide +kernel
theorem dX4_isDistrict_7 : decode cX4_isDistrict 7 = .ok (.iaload, 1) := by decide +kernel
theorem dX4_isDistrict_8 : decode cX4_isDistrict 8 = .ok (.iconst 1, 1) := by decide +kernel
theorem dX4_isDistrict_9 : decode cX4_isDistrict 9 = .ok (.isub, 1) := by decide +kernel
theorem dX4_isDistrict_10 : decode cX4_isDistrict 10 = .ok (.invokestatic 67, 3) := by decide +kernel
theorem dX4_isDistrict_13 : decode cX4_isDistrict 13 = .ok (.ireturn, 1) := by decide +kernel
theorem dX4_ones_0 : decode cX4_ones 0 = .ok (.iconst 0, 1) := by decide +kernel
theorem dX4_ones_1 : decode cX4_ones 1 = .ok (.istore_n 1, 1) := by decide +kernel
theorem dX4_ones_2 : decode cX4_ones 2 = .ok (.iconst 0, 1) := by decide +kernel
theorem dX4_ones_3 : decode cX4_ones 3 = .ok (.istore_n 2, 1) := by decide +kernel
theorem dX4_ones_4 : decode cX4_ones 4 = .ok (.iload_n 2, 1) := by decide +kernel
theorem dX4_ones_5 : decode cX4_ones 5 = .ok (.bipush 8, 2) := by decide +kernel
theorem dX4_ones_7 : decode cX4_ones 7 = .ok (.if_icmp .ge 17, 3) := by decide +kernel
theorem dX4_ones_10 : decode cX4_ones 10 = .ok (.iload_n 1, 1) := by decide +kernel
theorem dX4_ones_11 : decode cX4_ones 11 = .ok (.iload_n 0, 1) := by decide +kernel
theorem dX4_ones_12 : decode cX4_ones 12 = .ok (.iload_n 2, 1) := by decide +kernel
theorem dX4_ones_13 : decode cX4_ones 13 = .ok (.ishr, 1) := by decide +kernel
theorem dX4_ones_14 : decode cX4_ones 14 = .ok (.iconst 1, 1) := by decide +kernel
theorem dX4_ones_15 : decode cX4_ones 15 = .ok (.iand, 1) := by decide +kernel
theorem dX4_ones_16 : decode cX4_ones 16 = .ok (.iadd, 1) := by decide +kernel
theorem dX4_ones_17 : decode cX4_ones 17 = .ok (.istore_n 1, 1) := by decide +kernel
theorem dX4_ones_18 : decode cX4_ones 18 = .ok (.iinc 2 1, 3) := by decide +kernel
theorem dX4_ones_21 : decode cX4_ones 21 = .ok (.goto (-17), 3) := by decide +kernel
theorem dX4_ones_24 : decode cX4_ones 24 = .ok (.iload_n 1, 1) := by decide +kernel
theorem dX4_ones_25 : decode cX4_ones 25 = .ok (.ireturn, 1) := by decide +kernel
theorem dX4_type_0 : decode cX4_type 0 = .ok (.iload_n 1, 1) := by decide +kernel
theorem dX4_type_1 : decode cX4_type 1 = .ok (.iconst 0, 1) := by decide +kernel
theorem dX4_type_2 : decode cX4_type 2 = .ok (.sipush 255, 3) := by decide +kernel
theorem dX4_type_5 : decode cX4_type 5 = .ok (.invokestatic 67, 3) := by decide +kernel
theorem dX4_type_8 : decode cX4_type 8 = .ok (.ifCond .ne 5, 3) := by decide +kernel
theorem dX4_type_11 : decode cX4_type 11 = .ok (.iconst (-1), 1) := by decide +kernel
theorem dX4_type_12 : decode cX4_type 12 = .ok (.ireturn, 1) := by decide +kernel
theorem dX4_type_13 : decode cX4_type 13 = .ok (.aload_n 0, 1) := by decide +kernel
theorem dX4_type_14 : decode cX4_type 14 = .ok (.getfield 71, 3) := by decide +kernel
theorem dX4_type_17 : decode cX4_type 17 = .ok (.sipush 200, 3) := by decide +kernel
theorem dX4_type_20 : decode cX4_type 20 = .ok (.if_icmp .ne 6, 3) := by decide +kernel
theorem dX4_type_23 : decode cX4_type 23 = .ok (.bipush (-3), 2) := by decide +kernel
theorem dX4_type_25 : decode cX4_type 25 = .ok (.ireturn, 1) := by decide +kernel
theorem dX4_type_26 : decode cX4_type 26 = .ok (.aload_n 0, 1) := by decide +kernel
theorem dX4_type_27 : decode cX4_type 27 = .ok (.getfield 7, 3) := by decide +kernel
theorem dX4_type_30 : decode cX4_type 30 = .ok (.aload_n 0, 1) := by decide +kernel
theorem dX4_type_31 : decode cX4_type 31 = .ok (.getfield 71, 3) := by decide +kernel
theorem dX4_type_34 : decode cX4_type 34 = .ok (.iload_n 1, 1) := by decide +kernel
theorem dX4_type_35 : decode cX4_type 35 = .ok (.iastore, 1) := by decide +kernel
theorem dX4_type_36 : decode cX4_type 36 = .ok (.aload_n 0, 1) := by decide +kernel
theorem dX4_type_37 : decode cX4_type 37 = .ok (.dup, 1) := by decide +kernel
theorem dX4_type_38 : decode cX4_type 38 = .ok (.getfield 71, 3) := by decide +kernel
theorem dX4_type_41 : decode cX4_type 41 = .ok (.iconst 1, 1) := by decide +kernel
theorem dX4_type_42 : decode cX4_type 42 = .ok (.iadd, 1) := by decide +kernel
theorem dX4_type_43 : decode cX4_type 43 = .ok (.putfield 71, 3) := by decide +kernel
theorem dX4_type_46 : decode cX4_type 46 = .ok (.aload_n 0, 1) := by decide +kernel
theorem dX4_type_47 : decode cX4_type 47 = .ok (.getfield 71, 3) := by decide +kernel
theorem dX4_type_50 : decode cX4_type 50 = .ok (.ireturn, 1) := by decide +kernel
theorem dX4_clear_0 : decode cX4_clear 0 = .ok (.aload_n 0, 1) := by decide +kernel
theorem dX4_clear_1 : decode cX4_clear 1 = .ok (.getfield 71, 3) := by decide +kernel
theorem dX4_clear_4 : decode cX4_clear 4 = .ok (.istore_n 1, 1) := by decide +kernel
theorem dX4_clear_5 : decode cX4_clear 5 = .ok (.aload_n 0, 1) := by decide +kernel
theorem dX4_clear_6 : decode cX4_clear 6 = .ok (.iconst 0, 1) := by decide +kernel
theorem dX4_clear_7 : decode cX4_clear 7 = .ok (.putfield 71, 3) := by decide +kernel
theorem dX4_clear_10 : decode cX4_clear 10 = .ok (.iload_n 1, 1) := by decide +kernel
theorem dX4_clear_11 : decode cX4_clear 11 = .ok (.ireturn, 1) := by decide +kernel
theorem dX4_letterAt_0 : decode cX4_letterAt 0 = .ok (.iload_n 1, 1) := by decide +kernel
theorem dX4_letterAt_1 : decode cX4_letterAt 1 = .ok (.aload_n 0, 1) := by decide +kernel
theorem dX4_letterAt_2 : decode cX4_letterAt 2 = .ok (.getfield 71, 3) := by decide +kernel
theorem dX4_letterAt_5 : decode cX4_letterAt 5 = .ok (.if_icmp .ge 12, 3) := by decide +kernel
theorem dX4_letterAt_8 : decode cX4_letterAt 8 = .ok (.aload_n 0, 1) := by decide +kernel
theorem dX4_letterAt_9 : decode cX4_letterAt 9 = .ok (.getfield 7, 3) := by decide +kernel
theorem dX4_letterAt_12 : decode cX4_letterAt 12 = .ok (.iload_n 1, 1) := by decide +kernel
theorem dX4_letterAt_13 : decode cX4_letterAt 13 = .ok (.iaload, 1) := by decide +kernel
theorem dX4_letterAt_14 : decode cX4_letterAt 14 = .ok (.goto 4, 3) := by decide +kernel
theorem dX4_letterAt_17 : decode cX4_letterAt 17 = .ok (.iconst (-1), 1) := by decide +kernel
theorem dX4_letterAt_18 : decode cX4_letterAt 18 = .ok (.ireturn, 1) := by decide +kernel
theorem dX4_isDigit_0 : decode cX4_isDigit 0 = .ok (.iload_n 0, 1) := by decide +kernel
theorem dX4_isDigit_1 : decode cX4_isDigit 1 = .ok (.bipush 48, 2) := by decide +kernel
theorem dX4_isDigit_3 : decode cX4_isDigit 3 = .ok (.bipush 57, 2) := by decide +kernel
theorem dX4_isDigit_5 : decode cX4_isDigit 5 = .ok (.invokestatic 67, 3) := by decide +kernel
theorem dX4_isDigit_8 : decode cX4_isDigit 8 = .ok (.ireturn, 1) := by decide +kernel
theorem dX4_isItem_0 : decode cX4_isItem 0 = .ok (.iload_n 0, 1) := by decide +kernel
theorem dX4_isItem_1 : decode cX4_isItem 1 = .ok (.bipush 100, 2) := by decide +kernel
theorem dX4_isItem_3 : decode cX4_isItem 3 = .ok (.if_icmp .eq 33, 3) := by decide +kernel
theorem dX4_isItem_6 : decode cX4_isItem 6 = .ok (.iload_n 0, 1) := by decide +kernel
theorem dX4_isItem_7 : decode cX4_isItem 7 = .ok (.bipush 113, 2) := by decide +kernel
theorem dX4_isItem_9 : decode cX4_isItem 9 = .ok (.if_icmp .eq 27, 3) := by decide +kernel
theorem dX4_isItem_12 : decode cX4_isItem 12 = .ok (.iload_n 0, 1) := by decide +kernel
theorem dX4_isItem_13 : decode cX4_isItem 13 = .ok (.bipush 101, 2) := by decide +kernel
theorem dX4_isItem_15 : decode cX4_isItem 15 = .ok (.if_icmp .eq 21, 3) := by decide +kernel
theorem dX4_isItem_18 : decode cX4_isItem 18 = .ok (.iload_n 0, 1) := by decide +kernel
theorem dX4_isItem_19 : decode cX4_isItem 19 = .ok (.bipush 98, 2) := by decide +kernel
theorem dX4_isItem_21 : decode cX4_isItem 21 = .ok (.if_icmp .eq 15, 3) := by decide +kernel
theorem dX4_isItem_24 : decode cX4_isItem 24 = .ok (.iload_n 0, 1) := by decide +kernel
theorem dX4_isItem_25 : decode cX4_isItem 25 = .ok (.bipush 99, 2) := by decide +kernel
theorem dX4_isItem_27 : decode cX4_isItem 27 = .ok (.if_icmp .eq 9, 3) := by decide +kernel
theorem dX4_isItem_30 : decode cX4_isItem 30 = .ok (.iload_n 0, 1) := by decide +kernel
theorem dX4_isItem_31 : decode cX4_isItem 31 = .ok (.bipush 110, 2) := by decide +kernel
theorem dX4_isItem_33 : decode cX4_isItem 33 = .ok (.if_icmp .ne 7, 3) := by decide +kernel
theorem dX4_isItem_36 : decode cX4_isItem 36 = .ok (.iconst 1, 1) := by decide +kernel
theorem dX4_isItem_37 : decode cX4_isItem 37 = .ok (.goto 4, 3) := by decide +kernel
theorem dX4_isItem_40 : decode cX4_isItem 40 = .ok (.iconst 0, 1) := by decide +kernel
theorem dX4_isItem_41 : decode cX4_isItem 41 = .ok (.ireturn, 1) := by decide +kernel
theorem dX4_token_0 : decode cX4_token 0 = .ok (.aload_n 0, 1) := by decide +kernel
theorem dX4_token_1 : decode cX4_token 1 = .ok (.aload_n 0, 1) := by decide +kernel
theorem dX4_token_2 : decode cX4_token 2 = .ok (.getfield 74, 3) := by decide +kernel
theorem dX4_token_5 : decode cX4_token 5 = .ok (.invokevirtual 77, 3) := by decide +kernel
theorem dX4_token_8 : decode cX4_token 8 = .ok (.bipush 32, 2) := by decide +kernel
theorem dX4_token_10 : decode cX4_token 10 = .ok (.if_icmp .ne 16, 3) := by decide +kernel
theorem dX4_token_13 : decode cX4_token 13 = .ok (.aload_n 0, 1) := by decide +kernel
theorem dX4_token_14 : decode cX4_token 14 = .ok (.dup, 1) := by decide +kernel
theorem dX4_token_15 : decode cX4_token 15 = .ok (.getfield 74, 3) := by decide +kernel
theorem dX4_token_18 : decode cX4_token 18 = .ok (.iconst 1, 1) := by decide +kernel
theorem dX4_token_19 : decode cX4_token 19 = .ok (.iadd, 1) := by decide +kernel
theorem dX4_token_20 : decode cX4_token 20 = .ok (.putfield 74, 3) := by decide +kernel
theorem dX4_token_23 : decode cX4_token 23 = .ok (.goto (-23), 3) := by decide +kernel
theorem dX4_token_26 : decode cX4_token 26 = .ok (.aload_n 0, 1) := by decide +kernel
theorem dX4_token_27 : decode cX4_token 27 = .ok (.aload_n 0, 1) := by decide +kernel
theorem dX4_token_28 : decode cX4_token 28 = .ok (.getfield 74, 3) := by decide +kernel
theorem dX4_token_31 : decode cX4_token 31 = .ok (.putfield 81, 3) := by decide +kernel
theorem dX4_token_34 : decode cX4_token 34 = .ok (.aload_n 0, 1) := by decide +kernel
theorem dX4_token_35 : decode cX4_token 35 = .ok (.aload_n 0, 1) := by decide +kernel
theorem dX4_token_36 : decode cX4_token 36 = .ok (.getfield 74, 3) := by decide +kernel
theorem dX4_token_39 : decode cX4_token 39 = .ok (.invokevirtual 77, 3) := by decide +kernel
theorem dX4_token_42 : decode cX4_token 42 = .ok (.istore_n 1, 1) := by decide +kernel
theorem dX4_token_43 : decode cX4_token 43 = .ok (.aload_n 0, 1) := by decide +kernel
theorem dX4_token_44 : decode cX4_token 44 = .ok (.iload_n 1, 1) := by decide +kernel
theorem dX4_token_45 : decode cX4_token 45 = .ok (.ifCond .ge 7, 3) := by decide +kernel
theorem dX4_token_48 : decode cX4_token 48 = .ok (.iconst 0, 1) := by decide +kernel
theorem dX4_token_49 : decode cX4_token 49 = .ok (.goto 36, 3) := by decide +kernel
theorem dX4_token_52 : decode cX4_token 52 = .ok (.iload_n 1, 1) := by decide +kernel
theorem dX4_token_53 : decode cX4_token 53 = .ok (.invokestatic 84, 3) := by decide +kernel
theorem dX4_token_56 : decode cX4_token 56 = .ok (.ifCond .eq 7, 3) := by decide +kernel
theorem dX4_token_59 : decode cX4_token 59 = .ok (.iconst 1, 1) := by decide +kernel
theorem dX4_token_60 : decode cX4_token 60 = .ok (.goto 25, 3) := by decide +kernel
theorem dX4_token_63 : decode cX4_token 63 = .ok (.iload_n 1, 1) := by decide +kernel
theorem dX4_token_64 : decode cX4_token 64 = .ok (.invokestatic 88, 3) := by decide +kernel
theorem dX4_token_67 : decode cX4_token 67 = .ok (.ifCond .eq 7, 3) := by decide +kernel
theorem dX4_token_70 : decode cX4_token 70 = .ok (.iconst 2, 1) := by decide +kernel
theorem dX4_token_71 : decode cX4_token 71 = .ok (.goto 14, 3) := by decide +kernel
theorem dX4_token_74 : decode cX4_token 74 = .ok (.iload_n 1, 1) := by decide +kernel
theorem dX4_token_75 : decode cX4_token 75 = .ok (.bipush 59, 2) := by decide +kernel
theorem dX4_token_77 : decode cX4_token 77 = .ok (.if_icmp .ne 7, 3) := by decide +kernel
theorem dX4_token_80 : decode cX4_token 80 = .ok (.iconst 3, 1) := by decide +kernel
theorem dX4_token_81 : decode cX4_token 81 = .ok (.goto 4, 3) := by decide +kernel
theorem dX4_token_84 : decode cX4_token 84 = .ok (.iconst 4, 1) := by decide +kernel
theorem dX4_token_85 : decode cX4_token 85 = .ok (.putfield 91, 3) := by decide +kernel
theorem dX4_token_88 : decode cX4_token 88 = .ok (.aload_n 0, 1) := by decide +kernel
theorem dX4_token_89 : decode cX4_token 89 = .ok (.iload_n 1, 1) := by decide +kernel
theorem dX4_token_90 : decode cX4_token 90 = .ok (.putfield 94, 3) := by decide +kernel
theorem dX4_token_93 : decode cX4_token 93 = .ok (.aload_n 0, 1) := by decide +kernel
theorem dX4_token_94 : decode cX4_token 94 = .ok (.dup, 1) := by decide +kernel
theorem dX4_token_95 : decode cX4_token 95 = .ok (.getfield 74, 3) := by decide +kernel
theorem dX4_token_98 : decode cX4_token 98 = .ok (.aload_n 0, 1) := by decide +kernel
theorem dX4_token_99 : decode cX4_token 99 = .ok (.getfield 91, 3) := by decide +kernel
theorem dX4_token_102 : decode cX4_token 102 = .ok (.ifCond .ne 7, 3) := by decide +kernel
theorem dX4_token_105 : decode cX4_token 105 = .ok (.iconst 0, 1) := by decide +kernel
theorem dX4_token_106 : decode cX4_token 106 = .ok (.goto 4, 3) := by decide +kernel
theorem dX4_token_109 : decode cX4_token 109 = .ok (.iconst 1, 1) := by decide +kernel
theorem dX4_token_110 : decode cX4_token 110 = .ok (.iadd, 1) := by decide +kernel
theorem dX4_token_111 : decode cX4_token 111 = .ok (.putfield 74, 3) := by decide +kernel
theorem dX4_token_114 : decode cX4_token 114 = .ok (.aload_n 0, 1) := by decide +kernel
theorem dX4_token_115 : decode cX4_token 115 = .ok (.getfield 91, 3) := by decide +kernel
theorem dX4_token_118 : decode cX4_token 118 = .ok (.iconst 2, 1) := by decide +kernel
theorem dX4_token_119 : decode cX4_token 119 = .ok (.if_icmp .ne 84, 3) := by decide +kernel
theorem dX4_token_122 : decode cX4_token 122 = .ok (.aload_n 0, 1) := by decide +kernel
theorem dX4_token_123 : decode cX4_token 123 = .ok (.iload_n 1, 1) := by decide +kernel
theorem dX4_token_124 : decode cX4_token 124 = .ok (.bipush 48, 2) := by decide +kernel
theorem dX4_token_126 : decode cX4_token 126 = .ok (.isub, 1) := by decide +kernel
theorem dX4_token_127 : decode cX4_token 127 = .ok (.putfield 94, 3) := by decide +kernel
theorem dX4_token_130 : decode cX4_token 130 = .ok (.aload_n 0, 1) := by decide +kernel
theorem dX4_token_131 : decode cX4_token 131 = .ok (.aload_n 0, 1) := by decide +kernel
theorem dX4_token_132 : decode cX4_token 132 = .ok (.getfield 74, 3) := by decide +kernel
theorem dX4_token_135 : decode cX4_token 135 = .ok (.invokevirtual 77, 3) := by decide +kernel
theorem dX4_token_138 : decode cX4_token 138 = .ok (.invokestatic 88, 3) := by decide +kernel
theorem dX4_token_141 : decode cX4_token 141 = .ok (.ifCond .eq 62, 3) := by decide +kernel
theorem dX4_token_144 : decode cX4_token 144 = .ok (.aload_n 0, 1) := by decide +kernel
theorem dX4_token_145 : decode cX4_token 145 = .ok (.iload_n 1, 1) := by decide +kernel
theorem dX4_token_146 : decode cX4_token 146 = .ok (.bipush 48, 2) := by decide +kernel
theorem dX4_token_148 : decode cX4_token 148 = .ok (.if_icmp .eq 13, 3) := by decide +kernel
theorem dX4_token_151 : decode cX4_token 151 = .ok (.aload_n 0, 1) := by decide +kernel
theorem dX4_token_152 : decode cX4_token 152 = .ok (.getfield 94, 3) := by decide +kernel
theorem dX4_token_155 : decode cX4_token 155 = .ok (.sipush 255, 3) := by decide +kernel
theorem dX4_token_158 : decode cX4_token 158 = .ok (.if_icmp .le 9, 3) := by decide +kernel
theorem dX4_token_161 : decode cX4_token 161 = .ok (.sipush 1000, 3) := by decide +kernel
theorem dX4_token_164 : decode cX4_token 164 = .ok (.goto 23, 3) := by decide +kernel
theorem dX4_token_167 : decode cX4_token 167 = .ok (.bipush 10, 2) := by decide +kernel
theorem dX4_token_169 : decode cX4_token 169 = .ok (.aload_n 0, 1) := by decide +kernel
theorem dX4_token_170 : decode cX4_token 170 = .ok (.getfield 94, 3) := by decide +kernel
theorem dX4_token_173 : decode cX4_token 173 = .ok (.imul, 1) := by decide +kernel
theorem dX4_token_174 : decode cX4_token 174 = .ok (.aload_n 0, 1) := by decide +kernel
theorem dX4_token_175 : decode cX4_token 175 = .ok (.getfield 7, 3) := by decide +kernel
theorem dX4_token_178 : decode cX4_token 178 = .ok (.aload_n 0, 1) := by decide +kernel
theorem dX4_token_179 : decode cX4_token 179 = .ok (.getfield 74, 3) := by decide +kernel
theorem dX4_token_182 : decode cX4_token 182 = .ok (.iaload, 1) := by decide +kernel
theorem dX4_token_183 : decode cX4_token 183 = .ok (.iadd, 1) := by decide +kernel
theorem dX4_token_184 : decode cX4_token 184 = .ok (.bipush 48, 2) := by decide +kernel
theorem dX4_token_186 : decode cX4_token 186 = .ok (.isub, 1) := by decide +kernel
theorem dX4_token_187 : decode cX4_token 187 = .ok (.putfield 94, 3) := by decide +kernel
theorem dX4_token_190 : decode cX4_token 190 = .ok (.aload_n 0, 1) := by decide +kernel
theorem dX4_token_191 : decode cX4_token 191 = .ok (.dup, 1) := by decide +kernel
theorem dX4_token_192 : decode cX4_token 192 = .ok (.getfield 74, 3) := by decide +kernel
theorem dX4_token_195 : decode cX4_token 195 = .ok (.iconst 1, 1) := by decide +kernel
theorem dX4_token_196 : decode cX4_token 196 = .ok (.iadd, 1) := by decide +kernel
theorem dX4_token_197 : decode cX4_token 197 = .ok (.putfield 74, 3) := by decide +kernel
theorem dX4_token_200 : decode cX4_token 200 = .ok (.goto (-70), 3) := by decide +kernel
theorem dX4_token_203 : decode cX4_token 203 = .ok (.return_, 1) := by decide +kernel
theorem dX4_number_0 : decode cX4_number 0 = .ok (.aload_n 0, 1) := by decide +kernel
theorem dX4_number_1 : decode cX4_number 1 = .ok (.invokevirtual 97, 3) := by decide +kernel
theorem dX4_number_4 : decode cX4_number 4 = .ok (.aload_n 0, 1) := by decide +kernel
theorem dX4_number_5 : decode cX4_number 5 = .ok (.getfield 16, 3) := by decide +kernel
theorem dX4_number_8 : decode cX4_number 8 = .ok (.iload_n 1, 1) := by decide +kernel
theorem dX4_number_9 : decode cX4_number 9 = .ok (.aload_n 0, 1) := by decide +kernel
theorem dX4_number_10 : decode cX4_number 10 = .ok (.getfield 94, 3) := by decide +kernel
theorem dX4_number_13 : decode cX4_number 13 = .ok (.iastore, 1) := by decide +kernel
theorem dX4_number_14 : decode cX4_number 14 = .ok (.aload_n 0, 1) := by decide +kernel
theorem dX4_number_15 : decode cX4_number 15 = .ok (.getfield 91, 3) := by decide +kernel
theorem dX4_number_18 : decode cX4_number 18 = .ok (.iconst 2, 1) := by decide +kernel
theorem dX4_number_19 : decode cX4_number 19 = .ok (.if_icmp .ne 19, 3) := by decide +kernel
theorem dX4_number_22 : decode cX4_number 22 = .ok (.aload_n 0, 1) := by decide +kernel
theorem dX4_number_23 : decode cX4_number 23 = .ok (.getfield 94, 3) := by decide +kernel
theorem dX4_number_26 : decode cX4_number 26 = .ok (.iload_n 2, 1) := by decide +kernel
theorem dX4_number_27 : decode cX4_number 27 = .ok (.iload_n 3, 1) := by decide +kernel
theorem dX4_number_28 : decode cX4_number 28 = .ok (.invokestatic 67, 3) := by decide +kernel
theorem dX4_number_31 : decode cX4_number 31 = .ok (.ifCond .eq 7, 3) := by decide +kernel
theorem dX4_number_34 : decode cX4_number 34 = .ok (.iconst 1, 1) := by decide +kernel
theorem dX4_number_35 : decode cX4_number 35 = .ok (.goto 4, 3) := by decide +kernel
theorem dX4_number_38 : decode cX4_number 38 = .ok (.iconst 0, 1) := by decide +kernel
theorem dX4_number_39 : decode cX4_number 39 = .ok (.ireturn, 1) := by decide +kernel
theorem dX4_readsDistricts_0 : decode cX4_readsDistricts 0 = .ok (.aload_n 0, 1) := by decide +kernel
theorem dX4_readsDistricts_1 : decode cX4_readsDistricts 1 = .ok (.getfield 16, 3) := by decide +kernel
theorem dX4_readsDistricts_4 : decode cX4_readsDistricts 4 = .ok (.iconst 4, 1) := by decide +kernel
theorem dX4_readsDistricts_5 : decode cX4_readsDistricts 5 = .ok (.iaload, 1) := by decide +kernel
theorem dX4_readsDistricts_6 : decode cX4_readsDistricts 6 = .ok (.ifCond .gt 13, 3) := by decide +kernel
theorem dX4_readsDistricts_9 : decode cX4_readsDistricts 9 = .ok (.aload_n 0, 1) := by decide +kernel
theorem dX4_readsDistricts_10 : decode cX4_readsDistricts 10 = .ok (.iconst 0, 1) := by decide +kernel
theorem dX4_readsDistricts_11 : decode cX4_readsDistricts 11 = .ok (.iconst 1, 1) := by decide +kernel
theorem dX4_readsDistricts_12 : decode cX4_readsDistricts 12 = .ok (.iconst 4, 1) := by decide +kernel
theorem dX4_readsDistricts_13 : decode cX4_readsDistricts 13 = .ok (.invokevirtual 100, 3) := by decide +kernel
theorem dX4_readsDistricts_16 : decode cX4_readsDistricts 16 = .ok (.ifCond .ne 5, 3) := by decide +kernel
theorem dX4_readsDistricts_19 : decode cX4_readsDistricts 19 = .ok (.iconst 0, 1) := by decide +kernel
theorem dX4_readsDistricts_20 : decode cX4_readsDistricts 20 = .ok (.ireturn, 1) := by decide +kernel
theorem dX4_readsDistricts_21 : decode cX4_readsDistricts 21 = .ok (.iconst 1, 1) := by decide +kernel
theorem dX4_readsDistricts_22 : decode cX4_readsDistricts 22 = .ok (.ireturn, 1) := by decide +kernel
theorem dX4_readsQuota_0 : decode cX4_readsQuota 0 = .ok (.aload_n 0, 1) := by decide +kernel
theorem dX4_readsQuota_1 : decode cX4_readsQuota 1 = .ok (.getfield 16, 3) := by decide +kernel
theorem dX4_readsQuota_4 : decode cX4_readsQuota 4 = .ok (.iconst 5, 1) := by decide +kernel
theorem dX4_readsQuota_5 : decode cX4_readsQuota 5 = .ok (.iaload, 1) := by decide +kernel
theorem dX4_readsQuota_6 : decode cX4_readsQuota 6 = .ok (.iconst 1, 1) := by decide +kernel
theorem dX4_readsQuota_7 : decode cX4_readsQuota 7 = .ok (.if_icmp .ne 5, 3) := by decide +kernel
theorem dX4_readsQuota_10 : decode cX4_readsQuota 10 = .ok (.iconst 0, 1) := by decide +kernel
theorem dX4_readsQuota_11 : decode cX4_readsQuota 11 = .ok (.ireturn, 1) := by decide +kernel
theorem dX4_readsQuota_12 : decode cX4_readsQuota 12 = .ok (.aload_n 0, 1) := by decide +kernel
theorem dX4_readsQuota_13 : decode cX4_readsQuota 13 = .ok (.getfield 16, 3) := by decide +kernel
theorem dX4_readsQuota_16 : decode cX4_readsQuota 16 = .ok (.iconst 5, 1) := by decide +kernel
theorem dX4_readsQuota_17 : decode cX4_readsQuota 17 = .ok (.iconst 1, 1) := by decide +kernel
theorem dX4_readsQuota_18 : decode cX4_readsQuota 18 = .ok (.iastore, 1) := by decide +kernel
theorem dX4_readsQuota_19 : decode cX4_readsQuota 19 = .ok (.aload_n 0, 1) := by decide +kernel
theorem dX4_readsQuota_20 : decode cX4_readsQuota 20 = .ok (.iconst 1, 1) := by decide +kernel
theorem dX4_readsQuota_21 : decode cX4_readsQuota 21 = .ok (.iconst 0, 1) := by decide +kernel
theorem dX4_readsQuota_22 : decode cX4_readsQuota 22 = .ok (.bipush 6, 2) := by decide +kernel
theorem dX4_readsQuota_24 : decode cX4_readsQuota 24 = .ok (.invokevirtual 100, 3) := by decide +kernel
theorem dX4_readsQuota_27 : decode cX4_readsQuota 27 = .ok (.ireturn, 1) := by decide +kernel
theorem dX4_readsRoad_0 : decode cX4_readsRoad 0 = .ok (.aload_n 0, 1) := by decide +kernel
theorem dX4_readsRoad_1 : decode cX4_readsRoad 1 = .ok (.invokevirtual 97, 3) := by decide +kernel
theorem dX4_readsRoad_4 : decode cX4_readsRoad 4 = .ok (.aload_n 0, 1) := by decide +kernel
theorem dX4_readsRoad_5 : decode cX4_readsRoad 5 = .ok (.getfield 94, 3) := by decide +kernel
theorem dX4_readsRoad_8 : decode cX4_readsRoad 8 = .ok (.istore_n 1, 1) := by decide +kernel
theorem dX4_readsRoad_9 : decode cX4_readsRoad 9 = .ok (.aload_n 0, 1) := by decide +kernel
theorem dX4_readsRoad_10 : decode cX4_readsRoad 10 = .ok (.getfield 91, 3) := by decide +kernel
theorem dX4_readsRoad_13 : decode cX4_readsRoad 13 = .ok (.iconst 2, 1) := by decide +kernel
theorem dX4_readsRoad_14 : decode cX4_readsRoad 14 = .ok (.if_icmp .ne 19, 3) := by decide +kernel
theorem dX4_readsRoad_17 : decode cX4_readsRoad 17 = .ok (.iload_n 1, 1) := by decide +kernel
theorem dX4_readsRoad_18 : decode cX4_readsRoad 18 = .ok (.iconst 0, 1) := by decide +kernel
theorem dX4_readsRoad_19 : decode cX4_readsRoad 19 = .ok (.aload_n 0, 1) := by decide +kernel
theorem dX4_readsRoad_20 : decode cX4_readsRoad 20 = .ok (.getfield 16, 3) := by decide +kernel
theorem dX4_readsRoad_23 : decode cX4_readsRoad 23 = .ok (.iconst 0, 1) := by decide +kernel
theorem dX4_readsRoad_24 : decode cX4_readsRoad 24 = .ok (.iaload, 1) := by decide +kernel
theorem dX4_readsRoad_25 : decode cX4_readsRoad 25 = .ok (.iconst 1, 1) := by decide +kernel
theorem dX4_readsRoad_26 : decode cX4_readsRoad 26 = .ok (.isub, 1) := by decide +kernel
theorem dX4_readsRoad_27 : decode cX4_readsRoad 27 = .ok (.invokestatic 67, 3) := by decide +kernel
theorem dX4_readsRoad_30 : decode cX4_readsRoad 30 = .ok (.ifCond .ne 5, 3) := by decide +kernel
theorem dX4_readsRoad_33 : decode cX4_readsRoad 33 = .ok (.iconst 0, 1) := by decide +kernel
theorem dX4_readsRoad_34 : decode cX4_readsRoad 34 = .ok (.ireturn, 1) := by decide +kernel
theorem dX4_readsRoad_35 : decode cX4_readsRoad 35 = .ok (.aload_n 0, 1) := by decide +kernel
theorem dX4_readsRoad_36 : decode cX4_readsRoad 36 = .ok (.invokevirtual 97, 3) := by decide +kernel
theorem dX4_readsRoad_39 : decode cX4_readsRoad 39 = .ok (.aload_n 0, 1) := by decide +kernel
theorem dX4_readsRoad_40 : decode cX4_readsRoad 40 = .ok (.getfield 91, 3) := by decide +kernel
theorem dX4_readsRoad_43 : decode cX4_readsRoad 43 = .ok (.iconst 2, 1) := by decide +kernel
theorem dX4_readsRoad_44 : decode cX4_readsRoad 44 = .ok (.if_icmp .ne 30, 3) := by decide +kernel
theorem dX4_readsRoad_47 : decode cX4_readsRoad 47 = .ok (.aload_n 0, 1) := by decide +kernel
theorem dX4_readsRoad_48 : decode cX4_readsRoad 48 = .ok (.getfield 94, 3) := by decide +kernel
theorem dX4_readsRoad_51 : decode cX4_readsRoad 51 = .ok (.iconst 0, 1) := by decide +kernel
theorem dX4_readsRoad_52 : decode cX4_readsRoad 52 = .ok (.aload_n 0, 1) := by decide +kernel
theorem dX4_readsRoad_53 : decode cX4_readsRoad 53 = .ok (.getfield 16, 3) := by decide +kernel
theorem dX4_readsRoad_56 : decode cX4_readsRoad 56 = .ok (.iconst 0, 1) := by decide +kernel
theorem dX4_readsRoad_57 : decode cX4_readsRoad 57 = .ok (.iaload, 1) := by decide +kernel
theorem dX4_readsRoad_58 : decode cX4_readsRoad 58 = .ok (.iconst 1, 1) := by decide +kernel
theorem dX4_readsRoad_59 : decode cX4_readsRoad 59 = .ok (.isub, 1) := by decide +kernel
theorem dX4_readsRoad_60 : decode cX4_readsRoad 60 = .ok (.invokestatic 67, 3) := by decide +kernel
theorem dX4_readsRoad_63 : decode cX4_readsRoad 63 = .ok (.ifCond .eq 11, 3) := by decide +kernel
theorem dX4_readsRoad_66 : decode cX4_readsRoad 66 = .ok (.aload_n 0, 1) := by decide +kernel
theorem dX4_readsRoad_67 : decode cX4_readsRoad 67 = .ok (.getfield 94, 3) := by decide +kernel
theorem dX4_readsRoad_70 : decode cX4_readsRoad 70 = .ok (.iload_n 1, 1) := by decide +kernel
theorem dX4_readsRoad_71 : decode cX4_readsRoad 71 = .ok (.if_icmp .ne 5, 3) := by decide +kernel
theorem dX4_readsRoad_74 : decode cX4_readsRoad 74 = .ok (.iconst 0, 1) := by decide +kernel
theorem dX4_readsRoad_75 : decode cX4_readsRoad 75 = .ok (.ireturn, 1) := by decide +kernel
theorem dX4_readsRoad_76 : decode cX4_readsRoad 76 = .ok (.aload_n 0, 1) := by decide +kernel
theorem dX4_readsRoad_77 : decode cX4_readsRoad 77 = .ok (.getfield 16, 3) := by decide +kernel
theorem dX4_readsRoad_80 : decode cX4_readsRoad 80 = .ok (.bipush 6, 2) := by decide +kernel
theorem dX4_readsRoad_82 : decode cX4_readsRoad 82 = .ok (.iload_n 1, 1) := by decide +kernel
theorem dX4_readsRoad_83 : decode cX4_readsRoad 83 = .ok (.iadd, 1) := by decide +kernel
theorem dX4_readsRoad_84 : decode cX4_readsRoad 84 = .ok (.dup2, 1) := by decide +kernel
theorem dX4_readsRoad_85 : decode cX4_readsRoad 85 = .ok (.iaload, 1) := by decide +kernel
theorem dX4_readsRoad_86 : decode cX4_readsRoad 86 = .ok (.iconst 1, 1) := by decide +kernel
theorem dX4_readsRoad_87 : decode cX4_readsRoad 87 = .ok (.aload_n 0, 1) := by decide +kernel
theorem dX4_readsRoad_88 : decode cX4_readsRoad 88 = .ok (.getfield 94, 3) := by decide +kernel
theorem dX4_readsRoad_91 : decode cX4_readsRoad 91 = .ok (.ishl, 1) := by decide +kernel
theorem dX4_readsRoad_92 : decode cX4_readsRoad 92 = .ok (.ior, 1) := by decide +kernel
theorem dX4_readsRoad_93 : decode cX4_readsRoad 93 = .ok (.iastore, 1) := by decide +kernel
theorem dX4_readsRoad_94 : decode cX4_readsRoad 94 = .ok (.aload_n 0, 1) := by decide +kernel
theorem dX4_readsRoad_95 : decode cX4_readsRoad 95 = .ok (.getfield 16, 3) := by decide +kernel
theorem dX4_readsRoad_98 : decode cX4_readsRoad 98 = .ok (.bipush 6, 2) := by decide +kernel
theorem dX4_readsRoad_100 : decode cX4_readsRoad 100 = .ok (.aload_n 0, 1) := by decide +kernel
theorem dX4_readsRoad_101 : decode cX4_readsRoad 101 = .ok (.getfield 94, 3) := by decide +kernel
theorem dX4_readsRoad_104 : decode cX4_readsRoad 104 = .ok (.iadd, 1) := by decide +kernel
theorem dX4_readsRoad_105 : decode cX4_readsRoad 105 = .ok (.dup2, 1) := by decide +kernel
theorem dX4_readsRoad_106 : decode cX4_readsRoad 106 = .ok (.iaload, 1) := by decide +kernel
theorem dX4_readsRoad_107 : decode cX4_readsRoad 107 = .ok (.iconst 1, 1) := by decide +kernel
theorem dX4_readsRoad_108 : decode cX4_readsRoad 108 = .ok (.iload_n 1, 1) := by decide +kernel
theorem dX4_readsRoad_109 : decode cX4_readsRoad 109 = .ok (.ishl, 1) := by decide +kernel
theorem dX4_readsRoad_110 : decode cX4_readsRoad 110 = .ok (.ior, 1) := by decide +kernel
theorem dX4_readsRoad_111 : decode cX4_readsRoad 111 = .ok (.iastore, 1) := by decide +kernel
theorem dX4_readsRoad_112 : decode cX4_readsRoad 112 = .ok (.iconst 1, 1) := by decide +kernel
theorem dX4_readsRoad_113 : decode cX4_readsRoad 113 = .ok (.ireturn, 1) := by decide +kernel
theorem dX4_readsBeds_0 : decode cX4_readsBeds 0 = .ok (.aload_n 0, 1) := by decide +kernel
theorem dX4_readsBeds_1 : decode cX4_readsBeds 1 = .ok (.invokevirtual 97, 3) := by decide +kernel
theorem dX4_readsBeds_4 : decode cX4_readsBeds 4 = .ok (.aload_n 0, 1) := by decide +kernel
theorem dX4_readsBeds_5 : decode cX4_readsBeds 5 = .ok (.getfield 91, 3) := by decide +kernel
theorem dX4_readsBeds_8 : decode cX4_readsBeds 8 = .ok (.iconst 2, 1) := by decide +kernel
theorem dX4_readsBeds_9 : decode cX4_readsBeds 9 = .ok (.if_icmp .ne 43, 3) := by decide +kernel
theorem dX4_readsBeds_12 : decode cX4_readsBeds 12 = .ok (.aload_n 0, 1) := by decide +kernel
theorem dX4_readsBeds_13 : decode cX4_readsBeds 13 = .ok (.getfield 94, 3) := by decide +kernel
theorem dX4_readsBeds_16 : decode cX4_readsBeds 16 = .ok (.iconst 0, 1) := by decide +kernel
theorem dX4_readsBeds_17 : decode cX4_readsBeds 17 = .ok (.aload_n 0, 1) := by decide +kernel
theorem dX4_readsBeds_18 : decode cX4_readsBeds 18 = .ok (.getfield 16, 3) := by decide +kernel
theorem dX4_readsBeds_21 : decode cX4_readsBeds 21 = .ok (.iconst 0, 1) := by decide +kernel
theorem dX4_readsBeds_22 : decode cX4_readsBeds 22 = .ok (.iaload, 1) := by decide +kernel
theorem dX4_readsBeds_23 : decode cX4_readsBeds 23 = .ok (.iconst 1, 1) := by decide +kernel
theorem dX4_readsBeds_24 : decode cX4_readsBeds 24 = .ok (.isub, 1) := by decide +kernel
theorem dX4_readsBeds_25 : decode cX4_readsBeds 25 = .ok (.invokestatic 67, 3) := by decide +kernel
theorem dX4_readsBeds_28 : decode cX4_readsBeds 28 = .ok (.ifCond .eq 24, 3) := by decide +kernel
theorem dX4_readsBeds_31 : decode cX4_readsBeds 31 = .ok (.aload_n 0, 1) := by decide +kernel
theorem dX4_readsBeds_32 : decode cX4_readsBeds 32 = .ok (.bipush 10, 2) := by decide +kernel
theorem dX4_readsBeds_34 : decode cX4_readsBeds 34 = .ok (.aload_n 0, 1) := by decide +kernel
theorem dX4_readsBeds_35 : decode cX4_readsBeds 35 = .ok (.getfield 94, 3) := by decide +kernel
theorem dX4_readsBeds_38 : decode cX4_readsBeds 38 = .ok (.iadd, 1) := by decide +kernel
theorem dX4_readsBeds_39 : decode cX4_readsBeds 39 = .ok (.iconst 0, 1) := by decide +kernel
theorem dX4_readsBeds_40 : decode cX4_readsBeds 40 = .ok (.bipush 6, 2) := by decide +kernel
theorem dX4_readsBeds_42 : decode cX4_readsBeds 42 = .ok (.invokevirtual 100, 3) := by decide +kernel
theorem dX4_readsBeds_45 : decode cX4_readsBeds 45 = .ok (.ifCond .eq 7, 3) := by decide +kernel
theorem dX4_readsBeds_48 : decode cX4_readsBeds 48 = .ok (.iconst 1, 1) := by decide +kernel
theorem dX4_readsBeds_49 : decode cX4_readsBeds 49 = .ok (.goto 4, 3) := by decide +kernel
theorem dX4_readsBeds_52 : decode cX4_readsBeds 52 = .ok (.iconst 0, 1) := by decide +kernel
theorem dX4_readsBeds_53 : decode cX4_readsBeds 53 = .ok (.ireturn, 1) := by decide +kernel
theorem dX4_readsCitizen_0 : decode cX4_readsCitizen 0 = .ok (.aload_n 0, 1) := by decide +kernel
theorem dX4_readsCitizen_1 : decode cX4_readsCitizen 1 = .ok (.getfield 16, 3) := by decide +kernel
theorem dX4_readsCitizen_4 : decode cX4_readsCitizen 4 = .ok (.iconst 2, 1) := by decide +kernel
theorem dX4_readsCitizen_5 : decode cX4_readsCitizen 5 = .ok (.iaload, 1) := by decide +kernel
theorem dX4_readsCitizen_6 : decode cX4_readsCitizen 6 = .ok (.istore_n 1, 1) := by decide +kernel
theorem dX4_readsCitizen_7 : decode cX4_readsCitizen 7 = .ok (.iload_n 1, 1) := by decide +kernel
theorem dX4_readsCitizen_8 : decode cX4_readsCitizen 8 = .ok (.bipush 6, 2) := by decide +kernel
theorem dX4_readsCitizen_10 : decode cX4_readsCitizen 10 = .ok (.if_icmp .eq 66, 3) := by decide +kernel
theorem dX4_readsCitizen_13 : decode cX4_readsCitizen 13 = .ok (.aload_n 0, 1) := by decide +kernel
theorem dX4_readsCitizen_14 : decode cX4_readsCitizen 14 = .ok (.bipush 14, 2) := by decide +kernel
theorem dX4_readsCitizen_16 : decode cX4_readsCitizen 16 = .ok (.iload_n 1, 1) := by decide +kernel
theorem dX4_readsCitizen_17 : decode cX4_readsCitizen 17 = .ok (.iadd, 1) := by decide +kernel
theorem dX4_readsCitizen_18 : decode cX4_readsCitizen 18 = .ok (.iconst 0, 1) := by decide +kernel
theorem dX4_readsCitizen_19 : decode cX4_readsCitizen 19 = .ok (.aload_n 0, 1) := by decide +kernel
theorem dX4_readsCitizen_20 : decode cX4_readsCitizen 20 = .ok (.getfield 16, 3) := by decide +kernel
theorem dX4_readsCitizen_23 : decode cX4_readsCitizen 23 = .ok (.iconst 0, 1) := by decide +kernel
theorem dX4_readsCitizen_24 : decode cX4_readsCitizen 24 = .ok (.iaload, 1) := by decide +kernel
theorem dX4_readsCitizen_25 : decode cX4_readsCitizen 25 = .ok (.iconst 1, 1) := by decide +kernel
theorem dX4_readsCitizen_26 : decode cX4_readsCitizen 26 = .ok (.isub, 1) := by decide +kernel
theorem dX4_readsCitizen_27 : decode cX4_readsCitizen 27 = .ok (.invokevirtual 100, 3) := by decide +kernel
theorem dX4_readsCitizen_30 : decode cX4_readsCitizen 30 = .ok (.ifCond .eq 46, 3) := by decide +kernel
theorem dX4_readsCitizen_33 : decode cX4_readsCitizen 33 = .ok (.aload_n 0, 1) := by decide +kernel
theorem dX4_readsCitizen_34 : decode cX4_readsCitizen 34 = .ok (.bipush 20, 2) := by decide +kernel
theorem dX4_readsCitizen_36 : decode cX4_readsCitizen 36 = .ok (.iload_n 1, 1) := by decide +kernel
theorem dX4_readsCitizen_37 : decode cX4_readsCitizen 37 = .ok (.iadd, 1) := by decide +kernel
theorem dX4_readsCitizen_38 : decode cX4_readsCitizen 38 = .ok (.iconst 0, 1) := by decide +kernel
theorem dX4_readsCitizen_39 : decode cX4_readsCitizen 39 = .ok (.bipush 20, 2) := by decide +kernel
theorem dX4_readsCitizen_41 : decode cX4_readsCitizen 41 = .ok (.invokevirtual 100, 3) := by decide +kernel
theorem dX4_readsCitizen_44 : decode cX4_readsCitizen 44 = .ok (.ifCond .eq 32, 3) := by decide +kernel
theorem dX4_readsCitizen_47 : decode cX4_readsCitizen 47 = .ok (.aload_n 0, 1) := by decide +kernel
theorem dX4_readsCitizen_48 : decode cX4_readsCitizen 48 = .ok (.bipush 26, 2) := by decide +kernel
theorem dX4_readsCitizen_50 : decode cX4_readsCitizen 50 = .ok (.iload_n 1, 1) := by decide +kernel
theorem dX4_readsCitizen_51 : decode cX4_readsCitizen 51 = .ok (.iadd, 1) := by decide +kernel
theorem dX4_readsCitizen_52 : decode cX4_readsCitizen 52 = .ok (.iconst 0, 1) := by decide +kernel
theorem dX4_readsCitizen_53 : decode cX4_readsCitizen 53 = .ok (.sipush 255, 3) := by decide +kernel
theorem dX4_readsCitizen_56 : decode cX4_readsCitizen 56 = .ok (.invokevirtual 100, 3) := by decide +kernel
theorem dX4_readsCitizen_59 : decode cX4_readsCitizen 59 = .ok (.ifCond .eq 17, 3) := by decide +kernel
theorem dX4_readsCitizen_62 : decode cX4_readsCitizen 62 = .ok (.aload_n 0, 1) := by decide +kernel
theorem dX4_readsCitizen_63 : decode cX4_readsCitizen 63 = .ok (.bipush 32, 2) := by decide +kernel
theorem dX4_readsCitizen_65 : decode cX4_readsCitizen 65 = .ok (.iload_n 1, 1) := by decide +kernel
theorem dX4_readsCitizen_66 : decode cX4_readsCitizen 66 = .ok (.iadd, 1) := by decide +kernel
theorem dX4_readsCitizen_67 : decode cX4_readsCitizen 67 = .ok (.iconst 1, 1) := by decide +kernel
theorem dX4_readsCitizen_68 : decode cX4_readsCitizen 68 = .ok (.bipush 9, 2) := by decide +kernel
theorem dX4_readsCitizen_70 : decode cX4_readsCitizen 70 = .ok (.invokevirtual 100, 3) := by decide +kernel
theorem dX4_readsCitizen_73 : decode cX4_readsCitizen 73 = .ok (.ifCond .ne 5, 3) := by decide +kernel
theorem dX4_readsCitizen_76 : decode cX4_readsCitizen 76 = .ok (.iconst 0, 1) := by decide +kernel
theorem dX4_readsCitizen_77 : decode cX4_readsCitizen 77 = .ok (.ireturn, 1) := by decide +kernel
theorem dX4_readsCitizen_78 : decode cX4_readsCitizen 78 = .ok (.aload_n 0, 1) := by decide +kernel
theorem dX4_readsCitizen_79 : decode cX4_readsCitizen 79 = .ok (.getfield 16, 3) := by decide +kernel
theorem dX4_readsCitizen_82 : decode cX4_readsCitizen 82 = .ok (.iconst 2, 1) := by decide +kernel
theorem dX4_readsCitizen_83 : decode cX4_readsCitizen 83 = .ok (.dup2, 1) := by decide +kernel
theorem dX4_readsCitizen_84 : decode cX4_readsCitizen 84 = .ok (.iaload, 1) := by decide +kernel
theorem dX4_readsCitizen_85 : decode cX4_readsCitizen 85 = .ok (.iconst 1, 1) := by decide +kernel
theorem dX4_readsCitizen_86 : decode cX4_readsCitizen 86 = .ok (.iadd, 1) := by decide +kernel
theorem dX4_readsCitizen_87 : decode cX4_readsCitizen 87 = .ok (.iastore, 1) := by decide +kernel
theorem dX4_readsCitizen_88 : decode cX4_readsCitizen 88 = .ok (.iconst 1, 1) := by decide +kernel
theorem dX4_readsCitizen_89 : decode cX4_readsCitizen 89 = .ok (.ireturn, 1) := by decide +kernel
theorem dX4_readsNoise_0 : decode cX4_readsNoise 0 = .ok (.aload_n 0, 1) := by decide +kernel
theorem dX4_readsNoise_1 : decode cX4_readsNoise 1 = .ok (.getfield 16, 3) := by decide +kernel
theorem dX4_readsNoise_4 : decode cX4_readsNoise 4 = .ok (.iconst 3, 1) := by decide +kernel
theorem dX4_readsNoise_5 : decode cX4_readsNoise 5 = .ok (.iaload, 1) := by decide +kernel
theorem dX4_readsNoise_6 : decode cX4_readsNoise 6 = .ok (.istore_n 1, 1) := by decide +kernel
theorem dX4_readsNoise_7 : decode cX4_readsNoise 7 = .ok (.iload_n 1, 1) := by decide +kernel
theorem dX4_readsNoise_8 : decode cX4_readsNoise 8 = .ok (.bipush 6, 2) := by decide +kernel
theorem dX4_readsNoise_10 : decode cX4_readsNoise 10 = .ok (.if_icmp .eq 51, 3) := by decide +kernel
theorem dX4_readsNoise_13 : decode cX4_readsNoise 13 = .ok (.aload_n 0, 1) := by decide +kernel
theorem dX4_readsNoise_14 : decode cX4_readsNoise 14 = .ok (.bipush 38, 2) := by decide +kernel
theorem dX4_readsNoise_16 : decode cX4_readsNoise 16 = .ok (.iload_n 1, 1) := by decide +kernel
theorem dX4_readsNoise_17 : decode cX4_readsNoise 17 = .ok (.iadd, 1) := by decide +kernel
theorem dX4_readsNoise_18 : decode cX4_readsNoise 18 = .ok (.iconst 0, 1) := by decide +kernel
theorem dX4_readsNoise_19 : decode cX4_readsNoise 19 = .ok (.aload_n 0, 1) := by decide +kernel
theorem dX4_readsNoise_20 : decode cX4_readsNoise 20 = .ok (.getfield 16, 3) := by decide +kernel
theorem dX4_readsNoise_23 : decode cX4_readsNoise 23 = .ok (.iconst 0, 1) := by decide +kernel
theorem dX4_readsNoise_24 : decode cX4_readsNoise 24 = .ok (.iaload, 1) := by decide +kernel
theorem dX4_readsNoise_25 : decode cX4_readsNoise 25 = .ok (.iconst 1, 1) := by decide +kernel
theorem dX4_readsNoise_26 : decode cX4_readsNoise 26 = .ok (.isub, 1) := by decide +kernel
theorem dX4_readsNoise_27 : decode cX4_readsNoise 27 = .ok (.invokevirtual 100, 3) := by decide +kernel
theorem dX4_readsNoise_30 : decode cX4_readsNoise 30 = .ok (.ifCond .eq 31, 3) := by decide +kernel
theorem dX4_readsNoise_33 : decode cX4_readsNoise 33 = .ok (.aload_n 0, 1) := by decide +kernel
theorem dX4_readsNoise_34 : decode cX4_readsNoise 34 = .ok (.bipush 44, 2) := by decide +kernel
theorem dX4_readsNoise_36 : decode cX4_readsNoise 36 = .ok (.iload_n 1, 1) := by decide +kernel
theorem dX4_readsNoise_37 : decode cX4_readsNoise 37 = .ok (.iadd, 1) := by decide +kernel
theorem dX4_readsNoise_38 : decode cX4_readsNoise 38 = .ok (.iconst 0, 1) := by decide +kernel
theorem dX4_readsNoise_39 : decode cX4_readsNoise 39 = .ok (.bipush 7, 2) := by decide +kernel
theorem dX4_readsNoise_41 : decode cX4_readsNoise 41 = .ok (.invokevirtual 100, 3) := by decide +kernel
theorem dX4_readsNoise_44 : decode cX4_readsNoise 44 = .ok (.ifCond .eq 17, 3) := by decide +kernel
theorem dX4_readsNoise_47 : decode cX4_readsNoise 47 = .ok (.aload_n 0, 1) := by decide +kernel
theorem dX4_readsNoise_48 : decode cX4_readsNoise 48 = .ok (.bipush 50, 2) := by decide +kernel
theorem dX4_readsNoise_50 : decode cX4_readsNoise 50 = .ok (.iload_n 1, 1) := by decide +kernel
theorem dX4_readsNoise_51 : decode cX4_readsNoise 51 = .ok (.iadd, 1) := by decide +kernel
theorem dX4_readsNoise_52 : decode cX4_readsNoise 52 = .ok (.iconst 1, 1) := by decide +kernel
theorem dX4_readsNoise_53 : decode cX4_readsNoise 53 = .ok (.bipush 9, 2) := by decide +kernel
theorem dX4_readsNoise_55 : decode cX4_readsNoise 55 = .ok (.invokevirtual 100, 3) := by decide +kernel
theorem dX4_readsNoise_58 : decode cX4_readsNoise 58 = .ok (.ifCond .ne 5, 3) := by decide +kernel
theorem dX4_readsNoise_61 : decode cX4_readsNoise 61 = .ok (.iconst 0, 1) := by decide +kernel
theorem dX4_readsNoise_62 : decode cX4_readsNoise 62 = .ok (.ireturn, 1) := by decide +kernel
theorem dX4_readsNoise_63 : decode cX4_readsNoise 63 = .ok (.aload_n 0, 1) := by decide +kernel
theorem dX4_readsNoise_64 : decode cX4_readsNoise 64 = .ok (.getfield 16, 3) := by decide +kernel
theorem dX4_readsNoise_67 : decode cX4_readsNoise 67 = .ok (.iconst 3, 1) := by decide +kernel
theorem dX4_readsNoise_68 : decode cX4_readsNoise 68 = .ok (.dup2, 1) := by decide +kernel
theorem dX4_readsNoise_69 : decode cX4_readsNoise 69 = .ok (.iaload, 1) := by decide +kernel
theorem dX4_readsNoise_70 : decode cX4_readsNoise 70 = .ok (.iconst 1, 1) := by decide +kernel
theorem dX4_readsNoise_71 : decode cX4_readsNoise 71 = .ok (.iadd, 1) := by decide +kernel
theorem dX4_readsNoise_72 : decode cX4_readsNoise 72 = .ok (.iastore, 1) := by decide +kernel
theorem dX4_readsNoise_73 : decode cX4_readsNoise 73 = .ok (.iconst 1, 1) := by decide +kernel
theorem dX4_readsNoise_74 : decode cX4_readsNoise 74 = .ok (.ireturn, 1) := by decide +kernel
theorem dX4_readsItem_0 : decode cX4_readsItem 0 = .ok (.aload_n 0, 1) := by decide +kernel
theorem dX4_readsItem_1 : decode cX4_readsItem 1 = .ok (.getfield 91, 3) := by decide +kernel
theorem dX4_readsItem_4 : decode cX4_readsItem 4 = .ok (.iconst 1, 1) := by decide +kernel
theorem dX4_readsItem_5 : decode cX4_readsItem 5 = .ok (.if_icmp .ne 10, 3) := by decide +kernel
theorem dX4_readsItem_8 : decode cX4_readsItem 8 = .ok (.aload_n 0, 1) := by decide +kernel
theorem dX4_readsItem_9 : decode cX4_readsItem 9 = .ok (.getfield 94, 3) := by decide +kernel
theorem dX4_readsItem_12 : decode cX4_readsItem 12 = .ok (.goto 4, 3) := by decide +kernel
theorem dX4_readsItem_15 : decode cX4_readsItem 15 = .ok (.iconst 0, 1) := by decide +kernel
theorem dX4_readsItem_16 : decode cX4_readsItem 16 = .ok (.istore_n 1, 1) := by decide +kernel
theorem dX4_readsItem_17 : decode cX4_readsItem 17 = .ok (.iload_n 1, 1) := by decide +kernel
theorem dX4_readsItem_18 : decode cX4_readsItem 18 = .ok (.tableswitch 108 98 113 #[93, 98, 78, 88, 108, 108, 108, 108, 108, 108, 108, 108, 103, 108, 108, 83], 78) := by decide +kernel
theorem dX4_readsItem_96 : decode cX4_readsItem 96 = .ok (.aload_n 0, 1) := by decide +kernel
theorem dX4_readsItem_97 : decode cX4_readsItem 97 = .ok (.invokevirtual 103, 3) := by decide +kernel
theorem dX4_readsItem_100 : decode cX4_readsItem 100 = .ok (.ireturn, 1) := by decide +kernel
theorem dX4_readsItem_101 : decode cX4_readsItem 101 = .ok (.aload_n 0, 1) := by decide +kernel
theorem dX4_readsItem_102 : decode cX4_readsItem 102 = .ok (.invokevirtual 106, 3) := by decide +kernel
theorem dX4_readsItem_105 : decode cX4_readsItem 105 = .ok (.ireturn, 1) := by decide +kernel
theorem dX4_readsItem_106 : decode cX4_readsItem 106 = .ok (.aload_n 0, 1) := by decide +kernel
theorem dX4_readsItem_107 : decode cX4_readsItem 107 = .ok (.invokevirtual 109, 3) := by decide +kernel
theorem dX4_readsItem_110 : decode cX4_readsItem 110 = .ok (.ireturn, 1) := by decide +kernel
theorem dX4_readsItem_111 : decode cX4_readsItem 111 = .ok (.aload_n 0, 1) := by decide +kernel
theorem dX4_readsItem_112 : decode cX4_readsItem 112 = .ok (.invokevirtual 112, 3) := by decide +kernel
theorem dX4_readsItem_115 : decode cX4_readsItem 115 = .ok (.ireturn, 1) := by decide +kernel
theorem dX4_readsItem_116 : decode cX4_readsItem 116 = .ok (.aload_n 0, 1) := by decide +kernel
theorem dX4_readsItem_117 : decode cX4_readsItem 117 = .ok (.invokevirtual 115, 3) := by decide +kernel
theorem dX4_readsItem_120 : decode cX4_readsItem 120 = .ok (.ireturn, 1) := by decide +kernel
theorem dX4_readsItem_121 : decode cX4_readsItem 121 = .ok (.aload_n 0, 1) := by decide +kernel
theorem dX4_readsItem_122 : decode cX4_readsItem 122 = .ok (.invokevirtual 118, 3) := by decide +kernel
theorem dX4_readsItem_125 : decode cX4_readsItem 125 = .ok (.ireturn, 1) := by decide +kernel
theorem dX4_readsItem_126 : decode cX4_readsItem 126 = .ok (.iconst 0, 1) := by decide +kernel
theorem dX4_readsItem_127 : decode cX4_readsItem 127 = .ok (.ireturn, 1) := by decide +kernel
theorem dX4_reads_0 : decode cX4_reads 0 = .ok (.iconst 0, 1) := by decide +kernel
theorem dX4_reads_1 : decode cX4_reads 1 = .ok (.istore_n 1, 1) := by decide +kernel
theorem dX4_reads_2 : decode cX4_reads 2 = .ok (.iload_n 1, 1) := by decide +kernel
theorem dX4_reads_3 : decode cX4_reads 3 = .ok (.bipush 56, 2) := by decide +kernel
theorem dX4_reads_5 : decode cX4_reads 5 = .ok (.if_icmp .ge 32, 3) := by decide +kernel
theorem dX4_reads_8 : decode cX4_reads 8 = .ok (.aload_n 0, 1) := by decide +kernel
theorem dX4_reads_9 : decode cX4_reads 9 = .ok (.getfield 16, 3) := by decide +kernel
theorem dX4_reads_12 : decode cX4_reads 12 = .ok (.iload_n 1, 1) := by decide +kernel
theorem dX4_reads_13 : decode cX4_reads 13 = .ok (.iload_n 1, 1) := by decide +kernel
theorem dX4_reads_14 : decode cX4_reads 14 = .ok (.bipush 10, 2) := by decide +kernel
theorem dX4_reads_16 : decode cX4_reads 16 = .ok (.bipush 13, 2) := by decide +kernel
theorem dX4_reads_18 : decode cX4_reads 18 = .ok (.invokestatic 67, 3) := by decide +kernel
theorem dX4_reads_21 : decode cX4_reads 21 = .ok (.ifCond .eq 8, 3) := by decide +kernel
theorem dX4_reads_24 : decode cX4_reads 24 = .ok (.bipush 6, 2) := by decide +kernel
theorem dX4_reads_26 : decode cX4_reads 26 = .ok (.goto 4, 3) := by decide +kernel
theorem dX4_reads_29 : decode cX4_reads 29 = .ok (.iconst 0, 1) := by decide +kernel
theorem dX4_reads_30 : decode cX4_reads 30 = .ok (.iastore, 1) := by decide +kernel
theorem dX4_reads_31 : decode cX4_reads 31 = .ok (.iinc 1 1, 3) := by decide +kernel
theorem dX4_reads_34 : decode cX4_reads 34 = .ok (.goto (-32), 3) := by decide +kernel
theorem dX4_reads_37 : decode cX4_reads 37 = .ok (.aload_n 0, 1) := by decide +kernel
theorem dX4_reads_38 : decode cX4_reads 38 = .ok (.getfield 16, 3) := by decide +kernel
theorem dX4_reads_41 : decode cX4_reads 41 = .ok (.iconst 0, 1) := by decide +kernel
theorem dX4_reads_42 : decode cX4_reads 42 = .ok (.iconst 1, 1) := by decide +kernel
theorem dX4_reads_43 : decode cX4_reads 43 = .ok (.iastore, 1) := by decide +kernel
theorem dX4_reads_44 : decode cX4_reads 44 = .ok (.aload_n 0, 1) := by decide +kernel
theorem dX4_reads_45 : decode cX4_reads 45 = .ok (.getfield 16, 3) := by decide +kernel
theorem dX4_reads_48 : decode cX4_reads 48 = .ok (.iconst 1, 1) := by decide +kernel
theorem dX4_reads_49 : decode cX4_reads 49 = .ok (.iconst 1, 1) := by decide +kernel
theorem dX4_reads_50 : decode cX4_reads 50 = .ok (.iastore, 1) := by decide +kernel
theorem dX4_reads_51 : decode cX4_reads 51 = .ok (.aload_n 0, 1) := by decide +kernel
theorem dX4_reads_52 : decode cX4_reads 52 = .ok (.iconst 0, 1) := by decide +kernel
theorem dX4_reads_53 : decode cX4_reads 53 = .ok (.putfield 74, 3) := by decide +kernel
theorem dX4_reads_56 : decode cX4_reads 56 = .ok (.aload_n 0, 1) := by decide +kernel
theorem dX4_reads_57 : decode cX4_reads 57 = .ok (.invokevirtual 97, 3) := by decide +kernel
theorem dX4_reads_60 : decode cX4_reads 60 = .ok (.aload_n 0, 1) := by decide +kernel
theorem dX4_reads_61 : decode cX4_reads 61 = .ok (.getfield 91, 3) := by decide +kernel
theorem dX4_reads_64 : decode cX4_reads 64 = .ok (.ifCond .eq 43, 3) := by decide +kernel
theorem dX4_reads_67 : decode cX4_reads 67 = .ok (.aload_n 0, 1) := by decide +kernel
theorem dX4_reads_68 : decode cX4_reads 68 = .ok (.invokevirtual 121, 3) := by decide +kernel
theorem dX4_reads_71 : decode cX4_reads 71 = .ok (.ifCond .ne 5, 3) := by decide +kernel
theorem dX4_reads_74 : decode cX4_reads 74 = .ok (.iconst 0, 1) := by decide +kernel
theorem dX4_reads_75 : decode cX4_reads 75 = .ok (.ireturn, 1) := by decide +kernel
theorem dX4_reads_76 : decode cX4_reads 76 = .ok (.aload_n 0, 1) := by decide +kernel
theorem dX4_reads_77 : decode cX4_reads 77 = .ok (.invokevirtual 97, 3) := by decide +kernel
theorem dX4_reads_80 : decode cX4_reads 80 = .ok (.aload_n 0, 1) := by decide +kernel
theorem dX4_reads_81 : decode cX4_reads 81 = .ok (.getfield 91, 3) := by decide +kernel
theorem dX4_reads_84 : decode cX4_reads 84 = .ok (.iconst 3, 1) := by decide +kernel
theorem dX4_reads_85 : decode cX4_reads 85 = .ok (.if_icmp .eq 5, 3) := by decide +kernel
theorem dX4_reads_88 : decode cX4_reads 88 = .ok (.iconst 0, 1) := by decide +kernel
theorem dX4_reads_89 : decode cX4_reads 89 = .ok (.ireturn, 1) := by decide +kernel
theorem dX4_reads_90 : decode cX4_reads 90 = .ok (.aload_n 0, 1) := by decide +kernel
theorem dX4_reads_91 : decode cX4_reads 91 = .ok (.getfield 16, 3) := by decide +kernel
theorem dX4_reads_94 : decode cX4_reads 94 = .ok (.iconst 4, 1) := by decide +kernel
theorem dX4_reads_95 : decode cX4_reads 95 = .ok (.dup2, 1) := by decide +kernel
theorem dX4_reads_96 : decode cX4_reads 96 = .ok (.iaload, 1) := by decide +kernel
theorem dX4_reads_97 : decode cX4_reads 97 = .ok (.iconst 1, 1) := by decide +kernel
theorem dX4_reads_98 : decode cX4_reads 98 = .ok (.iadd, 1) := by decide +kernel
theorem dX4_reads_99 : decode cX4_reads 99 = .ok (.iastore, 1) := by decide +kernel
theorem dX4_reads_100 : decode cX4_reads 100 = .ok (.aload_n 0, 1) := by decide +kernel
theorem dX4_reads_101 : decode cX4_reads 101 = .ok (.invokevirtual 97, 3) := by decide +kernel
theorem dX4_reads_104 : decode cX4_reads 104 = .ok (.goto (-44), 3) := by decide +kernel
theorem dX4_reads_107 : decode cX4_reads 107 = .ok (.iconst 1, 1) := by decide +kernel
theorem dX4_reads_108 : decode cX4_reads 108 = .ok (.ireturn, 1) := by decide +kernel
theorem dX4_begins_0 : decode cX4_begins 0 = .ok (.iconst 0, 1) := by decide +kernel
theorem dX4_begins_1 : decode cX4_begins 1 = .ok (.istore_n 1, 1) := by decide +kernel
theorem dX4_begins_2 : decode cX4_begins 2 = .ok (.iload_n 1, 1) := by decide +kernel
theorem dX4_begins_3 : decode cX4_begins 3 = .ok (.bipush 21, 2) := by decide +kernel
theorem dX4_begins_5 : decode cX4_begins 5 = .ok (.if_icmp .ge 40, 3) := by decide +kernel
theorem dX4_begins_8 : decode cX4_begins 8 = .ok (.aload_n 0, 1) := by decide +kernel
theorem dX4_begins_9 : decode cX4_begins 9 = .ok (.getfield 19, 3) := by decide +kernel
theorem dX4_begins_12 : decode cX4_begins 12 = .ok (.iload_n 1, 1) := by decide +kernel
theorem dX4_begins_13 : decode cX4_begins 13 = .ok (.iload_n 1, 1) := by decide +kernel
theorem dX4_begins_14 : decode cX4_begins 14 = .ok (.iconst 3, 1) := by decide +kernel
theorem dX4_begins_15 : decode cX4_begins 15 = .ok (.bipush 8, 2) := by decide +kernel
theorem dX4_begins_17 : decode cX4_begins 17 = .ok (.invokestatic 67, 3) := by decide +kernel
theorem dX4_begins_20 : decode cX4_begins 20 = .ok (.ifCond .eq 17, 3) := by decide +kernel
theorem dX4_begins_23 : decode cX4_begins 23 = .ok (.aload_n 0, 1) := by decide +kernel
theorem dX4_begins_24 : decode cX4_begins 24 = .ok (.getfield 13, 3) := by decide +kernel
theorem dX4_begins_27 : decode cX4_begins 27 = .ok (.bipush 20, 2) := by decide +kernel
theorem dX4_begins_29 : decode cX4_begins 29 = .ok (.iload_n 1, 1) := by decide +kernel
theorem dX4_begins_30 : decode cX4_begins 30 = .ok (.iadd, 1) := by decide +kernel
theorem dX4_begins_31 : decode cX4_begins 31 = .ok (.iconst 3, 1) := by decide +kernel
theorem dX4_begins_32 : decode cX4_begins 32 = .ok (.isub, 1) := by decide +kernel
theorem dX4_begins_33 : decode cX4_begins 33 = .ok (.iaload, 1) := by decide +kernel
theorem dX4_begins_34 : decode cX4_begins 34 = .ok (.goto 4, 3) := by decide +kernel
theorem dX4_begins_37 : decode cX4_begins 37 = .ok (.iconst 0, 1) := by decide +kernel
theorem dX4_begins_38 : decode cX4_begins 38 = .ok (.iastore, 1) := by decide +kernel
theorem dX4_begins_39 : decode cX4_begins 39 = .ok (.iinc 1 1, 3) := by decide +kernel
theorem dX4_begins_42 : decode cX4_begins 42 = .ok (.goto (-40), 3) := by decide +kernel
theorem dX4_begins_45 : decode cX4_begins 45 = .ok (.return_, 1) := by decide +kernel
theorem dX4_tells_0 : decode cX4_tells 0 = .ok (.iconst 0, 1) := by decide +kernel
theorem dX4_tells_1 : decode cX4_tells 1 = .ok (.istore_n 1, 1) := by decide +kernel
theorem dX4_tells_2 : decode cX4_tells 2 = .ok (.iload_n 1, 1) := by decide +kernel
theorem dX4_tells_3 : decode cX4_tells 3 = .ok (.bipush 56, 2) := by decide +kernel
theorem dX4_tells_5 : decode cX4_tells 5 = .ok (.if_icmp .ge 21, 3) := by decide +kernel
theorem dX4_tells_8 : decode cX4_tells 8 = .ok (.aload_n 0, 1) := by decide +kernel
theorem dX4_tells_9 : decode cX4_tells 9 = .ok (.getfield 13, 3) := by decide +kernel
theorem dX4_tells_12 : decode cX4_tells 12 = .ok (.iload_n 1, 1) := by decide +kernel
theorem dX4_tells_13 : decode cX4_tells 13 = .ok (.aload_n 0, 1) := by decide +kernel
theorem dX4_tells_14 : decode cX4_tells 14 = .ok (.getfield 16, 3) := by decide +kernel
theorem dX4_tells_17 : decode cX4_tells 17 = .ok (.iload_n 1, 1) := by decide +kernel
theorem dX4_tells_18 : decode cX4_tells 18 = .ok (.iaload, 1) := by decide +kernel
theorem dX4_tells_19 : decode cX4_tells 19 = .ok (.iastore, 1) := by decide +kernel
theorem dX4_tells_20 : decode cX4_tells 20 = .ok (.iinc 1 1, 3) := by decide +kernel
theorem dX4_tells_23 : decode cX4_tells 23 = .ok (.goto (-21), 3) := by decide +kernel
theorem dX4_tells_26 : decode cX4_tells 26 = .ok (.aload_n 0, 1) := by decide +kernel
theorem dX4_tells_27 : decode cX4_tells 27 = .ok (.invokevirtual 124, 3) := by decide +kernel
theorem dX4_tells_30 : decode cX4_tells 30 = .ok (.aload_n 0, 1) := by decide +kernel
theorem dX4_tells_31 : decode cX4_tells 31 = .ok (.iconst 0, 1) := by decide +kernel
theorem dX4_tells_32 : decode cX4_tells 32 = .ok (.putfield 127, 3) := by decide +kernel
theorem dX4_tells_35 : decode cX4_tells 35 = .ok (.aload_n 0, 1) := by decide +kernel
theorem dX4_tells_36 : decode cX4_tells 36 = .ok (.iconst 0, 1) := by decide +kernel
theorem dX4_tells_37 : decode cX4_tells 37 = .ok (.putfield 130, 3) := by decide +kernel
theorem dX4_tells_40 : decode cX4_tells 40 = .ok (.aload_n 0, 1) := by decide +kernel
theorem dX4_tells_41 : decode cX4_tells 41 = .ok (.getfield 28, 3) := by decide +kernel
theorem dX4_tells_44 : decode cX4_tells 44 = .ok (.iconst 0, 1) := by decide +kernel
theorem dX4_tells_45 : decode cX4_tells 45 = .ok (.iconst 0, 1) := by decide +kernel
theorem dX4_tells_46 : decode cX4_tells 46 = .ok (.bastore, 1) := by decide +kernel
theorem dX4_tells_47 : decode cX4_tells 47 = .ok (.aload_n 0, 1) := by decide +kernel
theorem dX4_tells_48 : decode cX4_tells 48 = .ok (.getfield 28, 3) := by decide +kernel
theorem dX4_tells_51 : decode cX4_tells 51 = .ok (.iconst 1, 1) := by decide +kernel
theorem dX4_tells_52 : decode cX4_tells 52 = .ok (.iconst 0, 1) := by decide +kernel
theorem dX4_tells_53 : decode cX4_tells 53 = .ok (.bastore, 1) := by decide +kernel
theorem dX4_tells_54 : decode cX4_tells 54 = .ok (.return_, 1) := by decide +kernel
theorem dX4_city_0 : decode cX4_city 0 = .ok (.aload_n 0, 1) := by decide +kernel
theorem dX4_city_1 : decode cX4_city 1 = .ok (.invokevirtual 60, 3) := by decide +kernel
theorem dX4_city_4 : decode cX4_city 4 = .ok (.ifCond .ne 11, 3) := by decide +kernel
theorem dX4_city_7 : decode cX4_city 7 = .ok (.bipush (-10), 2) := by decide +kernel
theorem dX4_city_9 : decode cX4_city 9 = .ok (.aload_n 0, 1) := by decide +kernel
theorem dX4_city_10 : decode cX4_city 10 = .ok (.getfield 81, 3) := by decide +kernel
theorem dX4_city_13 : decode cX4_city 13 = .ok (.isub, 1) := by decide +kernel
theorem dX4_city_14 : decode cX4_city 14 = .ok (.ireturn, 1) := by decide +kernel
theorem dX4_city_15 : decode cX4_city 15 = .ok (.aload_n 0, 1) := by decide +kernel
theorem dX4_city_16 : decode cX4_city 16 = .ok (.invokevirtual 64, 3) := by decide +kernel
theorem dX4_city_19 : decode cX4_city 19 = .ok (.aload_n 0, 1) := by decide +kernel
theorem dX4_city_20 : decode cX4_city 20 = .ok (.iconst 0, 1) := by decide +kernel
theorem dX4_city_21 : decode cX4_city 21 = .ok (.putfield 71, 3) := by decide +kernel
theorem dX4_city_24 : decode cX4_city 24 = .ok (.aload_n 0, 1) := by decide +kernel
theorem dX4_city_25 : decode cX4_city 25 = .ok (.getfield 13, 3) := by decide +kernel
theorem dX4_city_28 : decode cX4_city 28 = .ok (.iconst 4, 1) := by decide +kernel
theorem dX4_city_29 : decode cX4_city 29 = .ok (.iaload, 1) := by decide +kernel
theorem dX4_city_30 : decode cX4_city 30 = .ok (.ireturn, 1) := by decide +kernel
theorem dX4_district_0 : decode cX4_district 0 = .ok (.aload_n 0, 1) := by decide +kernel
theorem dX4_district_1 : decode cX4_district 1 = .ok (.iload_n 1, 1) := by decide +kernel
theorem dX4_district_2 : decode cX4_district 2 = .ok (.invokevirtual 133, 3) := by decide +kernel
theorem dX4_district_5 : decode cX4_district 5 = .ok (.ifCond .eq 33, 3) := by decide +kernel
theorem dX4_district_8 : decode cX4_district 8 = .ok (.iload_n 2, 1) := by decide +kernel
theorem dX4_district_9 : decode cX4_district 9 = .ok (.iconst 0, 1) := by decide +kernel
theorem dX4_district_10 : decode cX4_district 10 = .ok (.iconst 1, 1) := by decide +kernel
theorem dX4_district_11 : decode cX4_district 11 = .ok (.invokestatic 67, 3) := by decide +kernel
theorem dX4_district_14 : decode cX4_district 14 = .ok (.ifCond .eq 24, 3) := by decide +kernel
theorem dX4_district_17 : decode cX4_district 17 = .ok (.aload_n 0, 1) := by decide +kernel
theorem dX4_district_18 : decode cX4_district 18 = .ok (.getfield 13, 3) := by decide +kernel
theorem dX4_district_21 : decode cX4_district 21 = .ok (.iload_n 2, 1) := by decide +kernel
theorem dX4_district_22 : decode cX4_district 22 = .ok (.ifCond .ne 8, 3) := by decide +kernel
theorem dX4_district_25 : decode cX4_district 25 = .ok (.bipush 10, 2) := by decide +kernel
theorem dX4_district_27 : decode cX4_district 27 = .ok (.goto 5, 3) := by decide +kernel
theorem dX4_district_30 : decode cX4_district 30 = .ok (.bipush 6, 2) := by decide +kernel
theorem dX4_district_32 : decode cX4_district 32 = .ok (.iload_n 1, 1) := by decide +kernel
theorem dX4_district_33 : decode cX4_district 33 = .ok (.iadd, 1) := by decide +kernel
theorem dX4_district_34 : decode cX4_district 34 = .ok (.iaload, 1) := by decide +kernel
theorem dX4_district_35 : decode cX4_district 35 = .ok (.goto 4, 3) := by decide +kernel
theorem dX4_district_38 : decode cX4_district 38 = .ok (.iconst (-1), 1) := by decide +kernel
theorem dX4_district_39 : decode cX4_district 39 = .ok (.ireturn, 1) := by decide +kernel
theorem dX4_citizen_0 : decode cX4_citizen 0 = .ok (.aload_n 0, 1) := by decide +kernel
theorem dX4_citizen_1 : decode cX4_citizen 1 = .ok (.iload_n 1, 1) := by decide +kernel
theorem dX4_citizen_2 : decode cX4_citizen 2 = .ok (.invokevirtual 136, 3) := by decide +kernel
theorem dX4_citizen_5 : decode cX4_citizen 5 = .ok (.ifCond .ne 5, 3) := by decide +kernel
theorem dX4_citizen_8 : decode cX4_citizen 8 = .ok (.iconst (-1), 1) := by decide +kernel
theorem dX4_citizen_9 : decode cX4_citizen 9 = .ok (.ireturn, 1) := by decide +kernel
theorem dX4_citizen_10 : decode cX4_citizen 10 = .ok (.iload_n 2, 1) := by decide +kernel
theorem dX4_citizen_11 : decode cX4_citizen 11 = .ok (.tableswitch 96 0 5 #[37, 47, 56, 66, 76, 86], 37) := by decide +kernel
theorem dX4_citizen_48 : decode cX4_citizen 48 = .ok (.aload_n 0, 1) := by decide +kernel
theorem dX4_citizen_49 : decode cX4_citizen 49 = .ok (.getfield 13, 3) := by decide +kernel
theorem dX4_citizen_52 : decode cX4_citizen 52 = .ok (.bipush 14, 2) := by decide +kernel
theorem dX4_citizen_54 : decode cX4_citizen 54 = .ok (.iload_n 1, 1) := by decide +kernel
theorem dX4_citizen_55 : decode cX4_citizen 55 = .ok (.iadd, 1) := by decide +kernel
theorem dX4_citizen_56 : decode cX4_citizen 56 = .ok (.iaload, 1) := by decide +kernel
theorem dX4_citizen_57 : decode cX4_citizen 57 = .ok (.ireturn, 1) := by decide +kernel
theorem dX4_citizen_58 : decode cX4_citizen 58 = .ok (.aload_n 0, 1) := by decide +kernel
theorem dX4_citizen_59 : decode cX4_citizen 59 = .ok (.getfield 19, 3) := by decide +kernel
theorem dX4_citizen_62 : decode cX4_citizen 62 = .ok (.iconst 3, 1) := by decide +kernel
theorem dX4_citizen_63 : decode cX4_citizen 63 = .ok (.iload_n 1, 1) := by decide +kernel
theorem dX4_citizen_64 : decode cX4_citizen 64 = .ok (.iadd, 1) := by decide +kernel
theorem dX4_citizen_65 : decode cX4_citizen 65 = .ok (.iaload, 1) := by decide +kernel
theorem dX4_citizen_66 : decode cX4_citizen 66 = .ok (.ireturn, 1) := by decide +kernel
theorem dX4_citizen_67 : decode cX4_citizen 67 = .ok (.aload_n 0, 1) := by decide +kernel
theorem dX4_citizen_68 : decode cX4_citizen 68 = .ok (.getfield 13, 3) := by decide +kernel
theorem dX4_citizen_71 : decode cX4_citizen 71 = .ok (.bipush 26, 2) := by decide +kernel
theorem dX4_citizen_73 : decode cX4_citizen 73 = .ok (.iload_n 1, 1) := by decide +kernel
theorem dX4_citizen_74 : decode cX4_citizen 74 = .ok (.iadd, 1) := by decide +kernel
theorem dX4_citizen_75 : decode cX4_citizen 75 = .ok (.iaload, 1) := by decide +kernel
theorem dX4_citizen_76 : decode cX4_citizen 76 = .ok (.ireturn, 1) := by decide +kernel
theorem dX4_citizen_77 : decode cX4_citizen 77 = .ok (.aload_n 0, 1) := by decide +kernel
theorem dX4_citizen_78 : decode cX4_citizen 78 = .ok (.getfield 13, 3) := by decide +kernel
theorem dX4_citizen_81 : decode cX4_citizen 81 = .ok (.bipush 32, 2) := by decide +kernel
theorem dX4_citizen_83 : decode cX4_citizen 83 = .ok (.iload_n 1, 1) := by decide +kernel
theorem dX4_citizen_84 : decode cX4_citizen 84 = .ok (.iadd, 1) := by decide +kernel
theorem dX4_citizen_85 : decode cX4_citizen 85 = .ok (.iaload, 1) := by decide +kernel
theorem dX4_citizen_86 : decode cX4_citizen 86 = .ok (.ireturn, 1) := by decide +kernel
theorem dX4_citizen_87 : decode cX4_citizen 87 = .ok (.aload_n 0, 1) := by decide +kernel
theorem dX4_citizen_88 : decode cX4_citizen 88 = .ok (.getfield 19, 3) := by decide +kernel
theorem dX4_citizen_91 : decode cX4_citizen 91 = .ok (.bipush 9, 2) := by decide +kernel
theorem dX4_citizen_93 : decode cX4_citizen 93 = .ok (.iload_n 1, 1) := by decide +kernel
theorem dX4_citizen_94 : decode cX4_citizen 94 = .ok (.iadd, 1) := by decide +kernel
theorem dX4_citizen_95 : decode cX4_citizen 95 = .ok (.iaload, 1) := by decide +kernel
theorem dX4_citizen_96 : decode cX4_citizen 96 = .ok (.ireturn, 1) := by decide +kernel
theorem dX4_citizen_97 : decode cX4_citizen 97 = .ok (.aload_n 0, 1) := by decide +kernel
theorem dX4_citizen_98 : decode cX4_citizen 98 = .ok (.getfield 19, 3) := by decide +kernel
theorem dX4_citizen_101 : decode cX4_citizen 101 = .ok (.bipush 15, 2) := by decide +kernel
theorem dX4_citizen_103 : decode cX4_citizen 103 = .ok (.iload_n 1, 1) := by decide +kernel
theorem dX4_citizen_104 : decode cX4_citizen 104 = .ok (.iadd, 1) := by decide +kernel
theorem dX4_citizen_105 : decode cX4_citizen 105 = .ok (.iaload, 1) := by decide +kernel
theorem dX4_citizen_106 : decode cX4_citizen 106 = .ok (.ireturn, 1) := by decide +kernel
theorem dX4_citizen_107 : decode cX4_citizen 107 = .ok (.iconst (-1), 1) := by decide +kernel
theorem dX4_citizen_108 : decode cX4_citizen 108 = .ok (.ireturn, 1) := by decide +kernel
theorem dX4_noise_0 : decode cX4_noise 0 = .ok (.iload_n 1, 1) := by decide +kernel
theorem dX4_noise_1 : decode cX4_noise 1 = .ok (.iconst 0, 1) := by decide +kernel
theorem dX4_noise_2 : decode cX4_noise 2 = .ok (.aload_n 0, 1) := by decide +kernel
theorem dX4_noise_3 : decode cX4_noise 3 = .ok (.getfield 13, 3) := by decide +kernel
theorem dX4_noise_6 : decode cX4_noise 6 = .ok (.iconst 3, 1) := by decide +kernel
theorem dX4_noise_7 : decode cX4_noise 7 = .ok (.iaload, 1) := by decide +kernel
theorem dX4_noise_8 : decode cX4_noise 8 = .ok (.iconst 1, 1) := by decide +kernel
theorem dX4_noise_9 : decode cX4_noise 9 = .ok (.isub, 1) := by decide +kernel
theorem dX4_noise_10 : decode cX4_noise 10 = .ok (.invokestatic 67, 3) := by decide +kernel
theorem dX4_noise_13 : decode cX4_noise 13 = .ok (.ifCond .eq 29, 3) := by decide +kernel
theorem dX4_noise_16 : decode cX4_noise 16 = .ok (.iload_n 2, 1) := by decide +kernel
theorem dX4_noise_17 : decode cX4_noise 17 = .ok (.iconst 0, 1) := by decide +kernel
theorem dX4_noise_18 : decode cX4_noise 18 = .ok (.iconst 2, 1) := by decide +kernel
theorem dX4_noise_19 : decode cX4_noise 19 = .ok (.invokestatic 67, 3) := by decide +kernel
theorem dX4_noise_22 : decode cX4_noise 22 = .ok (.ifCond .eq 20, 3) := by decide +kernel
theorem dX4_noise_25 : decode cX4_noise 25 = .ok (.aload_n 0, 1) := by decide +kernel
theorem dX4_noise_26 : decode cX4_noise 26 = .ok (.getfield 13, 3) := by decide +kernel
theorem dX4_noise_29 : decode cX4_noise 29 = .ok (.bipush 38, 2) := by decide +kernel
theorem dX4_noise_31 : decode cX4_noise 31 = .ok (.bipush 6, 2) := by decide +kernel
theorem dX4_noise_33 : decode cX4_noise 33 = .ok (.iload_n 2, 1) := by decide +kernel
theorem dX4_noise_34 : decode cX4_noise 34 = .ok (.imul, 1) := by decide +kernel
theorem dX4_noise_35 : decode cX4_noise 35 = .ok (.iadd, 1) := by decide +kernel
theorem dX4_noise_36 : decode cX4_noise 36 = .ok (.iload_n 1, 1) := by decide +kernel
theorem dX4_noise_37 : decode cX4_noise 37 = .ok (.iadd, 1) := by decide +kernel
theorem dX4_noise_38 : decode cX4_noise 38 = .ok (.iaload, 1) := by decide +kernel
theorem dX4_noise_39 : decode cX4_noise 39 = .ok (.goto 4, 3) := by decide +kernel
theorem dX4_noise_42 : decode cX4_noise 42 = .ok (.iconst (-1), 1) := by decide +kernel
theorem dX4_noise_43 : decode cX4_noise 43 = .ok (.ireturn, 1) := by decide +kernel
theorem dX4_most_0 : decode cX4_most 0 = .ok (.bipush (-9), 2) := by decide +kernel
theorem dX4_most_2 : decode cX4_most 2 = .ok (.istore_n 2, 1) := by decide +kernel
theorem dX4_most_3 : decode cX4_most 3 = .ok (.aload_n 0, 1) := by decide +kernel
theorem dX4_most_4 : decode cX4_most 4 = .ok (.getfield 13, 3) := by decide +kernel
theorem dX4_most_7 : decode cX4_most 7 = .ok (.iconst 2, 1) := by decide +kernel
theorem dX4_most_8 : decode cX4_most 8 = .ok (.iaload, 1) := by decide +kernel
theorem dX4_most_9 : decode cX4_most 9 = .ok (.iconst 1, 1) := by decide +kernel
theorem dX4_most_10 : decode cX4_most 10 = .ok (.isub, 1) := by decide +kernel
theorem dX4_most_11 : decode cX4_most 11 = .ok (.istore_n 3, 1) := by decide +kernel
theorem dX4_most_12 : decode cX4_most 12 = .ok (.iload_n 3, 1) := by decide +kernel
theorem dX4_most_13 : decode cX4_most 13 = .ok (.ifCond .lt 52, 3) := by decide +kernel
theorem dX4_most_16 : decode cX4_most 16 = .ok (.iload_n 2, 1) := by decide +kernel
theorem dX4_most_17 : decode cX4_most 17 = .ok (.ifCond .ge 7, 3) := by decide +kernel
theorem dX4_most_20 : decode cX4_most 20 = .ok (.iload_n 3, 1) := by decide +kernel
theorem dX4_most_21 : decode cX4_most 21 = .ok (.goto 4, 3) := by decide +kernel
theorem dX4_most_24 : decode cX4_most 24 = .ok (.iload_n 2, 1) := by decide +kernel
theorem dX4_most_25 : decode cX4_most 25 = .ok (.istore 4, 2) := by decide +kernel
theorem dX4_most_27 : decode cX4_most 27 = .ok (.iload_n 1, 1) := by decide +kernel
theorem dX4_most_28 : decode cX4_most 28 = .ok (.aload_n 0, 1) := by decide +kernel
theorem dX4_most_29 : decode cX4_most 29 = .ok (.getfield 19, 3) := by decide +kernel
theorem dX4_most_32 : decode cX4_most 32 = .ok (.bipush 15, 2) := by decide +kernel
theorem dX4_most_34 : decode cX4_most 34 = .ok (.iload_n 3, 1) := by decide +kernel
theorem dX4_most_35 : decode cX4_most 35 = .ok (.iadd, 1) := by decide +kernel
theorem dX4_most_36 : decode cX4_most 36 = .ok (.iaload, 1) := by decide +kernel
theorem dX4_most_37 : decode cX4_most 37 = .ok (.imul, 1) := by decide +kernel
theorem dX4_most_38 : decode cX4_most 38 = .ok (.iload_n 1, 1) := by decide +kernel
theorem dX4_most_39 : decode cX4_most 39 = .ok (.aload_n 0, 1) := by decide +kernel
theorem dX4_most_40 : decode cX4_most 40 = .ok (.getfield 19, 3) := by decide +kernel
theorem dX4_most_43 : decode cX4_most 43 = .ok (.bipush 15, 2) := by decide +kernel
theorem dX4_most_45 : decode cX4_most 45 = .ok (.iload 4, 2) := by decide +kernel
theorem dX4_most_47 : decode cX4_most 47 = .ok (.iadd, 1) := by decide +kernel
theorem dX4_most_48 : decode cX4_most 48 = .ok (.iaload, 1) := by decide +kernel
theorem dX4_most_49 : decode cX4_most 49 = .ok (.imul, 1) := by decide +kernel
theorem dX4_most_50 : decode cX4_most 50 = .ok (.if_icmp .lt 7, 3) := by decide +kernel
theorem dX4_most_53 : decode cX4_most 53 = .ok (.iload_n 3, 1) := by decide +kernel
theorem dX4_most_54 : decode cX4_most 54 = .ok (.goto 4, 3) := by decide +kernel
theorem dX4_most_57 : decode cX4_most 57 = .ok (.iload_n 2, 1) := by decide +kernel
theorem dX4_most_58 : decode cX4_most 58 = .ok (.istore_n 2, 1) := by decide +kernel
theorem dX4_most_59 : decode cX4_most 59 = .ok (.iinc 3 (-1), 3) := by decide +kernel
theorem dX4_most_62 : decode cX4_most 62 = .ok (.goto (-50), 3) := by decide +kernel
theorem dX4_most_65 : decode cX4_most 65 = .ok (.iload_n 2, 1) := by decide +kernel
theorem dX4_most_66 : decode cX4_most 66 = .ok (.ireturn, 1) := by decide +kernel
theorem dX4_now_0 : decode cX4_now 0 = .ok (.iload_n 1, 1) := by decide +kernel
theorem dX4_now_1 : decode cX4_now 1 = .ok (.iconst 0, 1) := by decide +kernel
theorem dX4_now_2 : decode cX4_now 2 = .ok (.iconst 5, 1) := by decide +kernel
theorem dX4_now_3 : decode cX4_now 3 = .ok (.invokestatic 67, 3) := by decide +kernel
theorem dX4_now_6 : decode cX4_now 6 = .ok (.ifCond .ne 5, 3) := by decide +kernel
theorem dX4_now_9 : decode cX4_now 9 = .ok (.iconst (-1), 1) := by decide +kernel
theorem dX4_now_10 : decode cX4_now 10 = .ok (.ireturn, 1) := by decide +kernel
theorem dX4_now_11 : decode cX4_now 11 = .ok (.iload_n 1, 1) := by decide +kernel
theorem dX4_now_12 : decode cX4_now 12 = .ok (.iconst 3, 1) := by decide +kernel
theorem dX4_now_13 : decode cX4_now 13 = .ok (.if_icmp .ge 12, 3) := by decide +kernel
theorem dX4_now_16 : decode cX4_now 16 = .ok (.aload_n 0, 1) := by decide +kernel
theorem dX4_now_17 : decode cX4_now 17 = .ok (.getfield 19, 3) := by decide +kernel
theorem dX4_now_20 : decode cX4_now 20 = .ok (.iload_n 1, 1) := by decide +kernel
theorem dX4_now_21 : decode cX4_now 21 = .ok (.iaload, 1) := by decide +kernel
theorem dX4_now_22 : decode cX4_now 22 = .ok (.goto 33, 3) := by decide +kernel
theorem dX4_now_25 : decode cX4_now 25 = .ok (.iload_n 1, 1) := by decide +kernel
theorem dX4_now_26 : decode cX4_now 26 = .ok (.iconst 3, 1) := by decide +kernel
theorem dX4_now_27 : decode cX4_now 27 = .ok (.if_icmp .ne 11, 3) := by decide +kernel
theorem dX4_now_30 : decode cX4_now 30 = .ok (.aload_n 0, 1) := by decide +kernel
theorem dX4_now_31 : decode cX4_now 31 = .ok (.iconst 1, 1) := by decide +kernel
theorem dX4_now_32 : decode cX4_now 32 = .ok (.invokevirtual 139, 3) := by decide +kernel
theorem dX4_now_35 : decode cX4_now 35 = .ok (.goto 20, 3) := by decide +kernel
theorem dX4_now_38 : decode cX4_now 38 = .ok (.iload_n 1, 1) := by decide +kernel
theorem dX4_now_39 : decode cX4_now 39 = .ok (.iconst 4, 1) := by decide +kernel
theorem dX4_now_40 : decode cX4_now 40 = .ok (.if_icmp .ne 11, 3) := by decide +kernel
theorem dX4_now_43 : decode cX4_now 43 = .ok (.aload_n 0, 1) := by decide +kernel
theorem dX4_now_44 : decode cX4_now 44 = .ok (.iconst (-1), 1) := by decide +kernel
theorem dX4_now_45 : decode cX4_now 45 = .ok (.invokevirtual 139, 3) := by decide +kernel
theorem dX4_now_48 : decode cX4_now 48 = .ok (.goto 7, 3) := by decide +kernel
theorem dX4_now_51 : decode cX4_now 51 = .ok (.aload_n 0, 1) := by decide +kernel
theorem dX4_now_52 : decode cX4_now 52 = .ok (.getfield 127, 3) := by decide +kernel
theorem dX4_now_55 : decode cX4_now 55 = .ok (.ireturn, 1) := by decide +kernel
