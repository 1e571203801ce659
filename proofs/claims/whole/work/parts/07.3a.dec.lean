theorem dX2_init_0 : decode cX2_init 0 = .ok (.aload_n 0, 1) := by decide +kernel
theorem dX2_init_1 : decode cX2_init 1 = .ok (.invokespecial 3, 3) := by decide +kernel
theorem dX2_init_4 : decode cX2_init 4 = .ok (.aload_n 0, 1) := by decide +kernel
theorem dX2_init_5 : decode cX2_init 5 = .ok (.sipush 200, 3) := by decide +kernel
theorem dX2_init_8 : decode cX2_init 8 = .ok (.newarray .char, 2) := by decide +kernel
theorem dX2_init_10 : decode cX2_init 10 = .ok (.putfield 9, 3) := by decide +kernel
theorem dX2_init_13 : decode cX2_init 13 = .ok (.aload_n 0, 1) := by decide +kernel
theorem dX2_init_14 : decode cX2_init 14 = .ok (.iconst 4, 1) := by decide +kernel
theorem dX2_init_15 : decode cX2_init 15 = .ok (.newarray .int, 2) := by decide +kernel
theorem dX2_init_17 : decode cX2_init 17 = .ok (.putfield 15, 3) := by decide +kernel
theorem dX2_init_20 : decode cX2_init 20 = .ok (.return_, 1) := by decide +kernel
theorem dX2_readInto_0 : decode cX2_readInto 0 = .ok (.aload_n 1, 1) := by decide +kernel
theorem dX2_readInto_1 : decode cX2_readInto 1 = .ok (.invokevirtual 19, 3) := by decide +kernel
theorem dX2_readInto_4 : decode cX2_readInto 4 = .ok (.aload_n 0, 1) := by decide +kernel
theorem dX2_readInto_5 : decode cX2_readInto 5 = .ok (.iconst 0, 1) := by decide +kernel
theorem dX2_readInto_6 : decode cX2_readInto 6 = .ok (.putfield 24, 3) := by decide +kernel
theorem dX2_readInto_9 : decode cX2_readInto 9 = .ok (.aload_n 0, 1) := by decide +kernel
theorem dX2_readInto_10 : decode cX2_readInto 10 = .ok (.invokevirtual 28, 3) := by decide +kernel
theorem dX2_readInto_13 : decode cX2_readInto 13 = .ok (.iconst 0, 1) := by decide +kernel
theorem dX2_readInto_14 : decode cX2_readInto 14 = .ok (.istore_n 2, 1) := by decide +kernel
theorem dX2_readInto_15 : decode cX2_readInto 15 = .ok (.iload_n 2, 1) := by decide +kernel
theorem dX2_readInto_16 : decode cX2_readInto 16 = .ok (.sipush 200, 3) := by decide +kernel
theorem dX2_readInto_19 : decode cX2_readInto 19 = .ok (.if_icmp .gt 46, 3) := by decide +kernel
theorem dX2_readInto_22 : decode cX2_readInto 22 = .ok (.aload_n 0, 1) := by decide +kernel
theorem dX2_readInto_23 : decode cX2_readInto 23 = .ok (.getfield 31, 3) := by decide +kernel
theorem dX2_readInto_26 : decode cX2_readInto 26 = .ok (.sipush 258, 3) := by decide +kernel
theorem dX2_readInto_29 : decode cX2_readInto 29 = .ok (.if_icmp .ne 9, 3) := by decide +kernel
theorem dX2_readInto_32 : decode cX2_readInto 32 = .ok (.aload_n 1, 1) := by decide +kernel
theorem dX2_readInto_33 : decode cX2_readInto 33 = .ok (.invokevirtual 34, 3) := by decide +kernel
theorem dX2_readInto_36 : decode cX2_readInto 36 = .ok (.iload_n 2, 1) := by decide +kernel
theorem dX2_readInto_37 : decode cX2_readInto 37 = .ok (.ireturn, 1) := by decide +kernel
theorem dX2_readInto_38 : decode cX2_readInto 38 = .ok (.aload_n 0, 1) := by decide +kernel
theorem dX2_readInto_39 : decode cX2_readInto 39 = .ok (.aload_n 1, 1) := by decide +kernel
theorem dX2_readInto_40 : decode cX2_readInto 40 = .ok (.iload_n 2, 1) := by decide +kernel
theorem dX2_readInto_41 : decode cX2_readInto 41 = .ok (.invokevirtual 37, 3) := by decide +kernel
theorem dX2_readInto_44 : decode cX2_readInto 44 = .ok (.ifCond .ne 11, 3) := by decide +kernel
theorem dX2_readInto_47 : decode cX2_readInto 47 = .ok (.bipush (-10), 2) := by decide +kernel
theorem dX2_readInto_49 : decode cX2_readInto 49 = .ok (.aload_n 0, 1) := by decide +kernel
theorem dX2_readInto_50 : decode cX2_readInto 50 = .ok (.getfield 41, 3) := by decide +kernel
theorem dX2_readInto_53 : decode cX2_readInto 53 = .ok (.isub, 1) := by decide +kernel
theorem dX2_readInto_54 : decode cX2_readInto 54 = .ok (.ireturn, 1) := by decide +kernel
theorem dX2_readInto_55 : decode cX2_readInto 55 = .ok (.aload_n 0, 1) := by decide +kernel
theorem dX2_readInto_56 : decode cX2_readInto 56 = .ok (.invokevirtual 28, 3) := by decide +kernel
theorem dX2_readInto_59 : decode cX2_readInto 59 = .ok (.iinc 2 1, 3) := by decide +kernel
theorem dX2_readInto_62 : decode cX2_readInto 62 = .ok (.goto (-47), 3) := by decide +kernel
theorem dX2_readInto_65 : decode cX2_readInto 65 = .ok (.bipush (-10), 2) := by decide +kernel
theorem dX2_readInto_67 : decode cX2_readInto 67 = .ok (.aload_n 0, 1) := by decide +kernel
theorem dX2_readInto_68 : decode cX2_readInto 68 = .ok (.getfield 41, 3) := by decide +kernel
theorem dX2_readInto_71 : decode cX2_readInto 71 = .ok (.isub, 1) := by decide +kernel
theorem dX2_readInto_72 : decode cX2_readInto 72 = .ok (.ireturn, 1) := by decide +kernel
theorem dX2_readItem_0 : decode cX2_readItem 0 = .ok (.aload_n 0, 1) := by decide +kernel
theorem dX2_readItem_1 : decode cX2_readItem 1 = .ok (.getfield 31, 3) := by decide +kernel
theorem dX2_readItem_4 : decode cX2_readItem 4 = .ok (.istore_n 3, 1) := by decide +kernel
theorem dX2_readItem_5 : decode cX2_readItem 5 = .ok (.aload_n 1, 1) := by decide +kernel
theorem dX2_readItem_6 : decode cX2_readItem 6 = .ok (.iload_n 3, 1) := by decide +kernel
theorem dX2_readItem_7 : decode cX2_readItem 7 = .ok (.iload_n 2, 1) := by decide +kernel
theorem dX2_readItem_8 : decode cX2_readItem 8 = .ok (.invokevirtual 44, 3) := by decide +kernel
theorem dX2_readItem_11 : decode cX2_readItem 11 = .ok (.ifCond .ne 5, 3) := by decide +kernel
theorem dX2_readItem_14 : decode cX2_readItem 14 = .ok (.iconst 0, 1) := by decide +kernel
theorem dX2_readItem_15 : decode cX2_readItem 15 = .ok (.ireturn, 1) := by decide +kernel
theorem dX2_readItem_16 : decode cX2_readItem 16 = .ok (.iload_n 3, 1) := by decide +kernel
theorem dX2_readItem_17 : decode cX2_readItem 17 = .ok (.invokestatic 48, 3) := by decide +kernel
theorem dX2_readItem_20 : decode cX2_readItem 20 = .ok (.istore 4, 2) := by decide +kernel
theorem dX2_readItem_22 : decode cX2_readItem 22 = .ok (.iconst 0, 1) := by decide +kernel
theorem dX2_readItem_23 : decode cX2_readItem 23 = .ok (.istore 5, 2) := by decide +kernel
theorem dX2_readItem_25 : decode cX2_readItem 25 = .ok (.iload 5, 2) := by decide +kernel
theorem dX2_readItem_27 : decode cX2_readItem 27 = .ok (.iload 4, 2) := by decide +kernel
theorem dX2_readItem_29 : decode cX2_readItem 29 = .ok (.if_icmp .ge 47, 3) := by decide +kernel
theorem dX2_readItem_32 : decode cX2_readItem 32 = .ok (.aload_n 0, 1) := by decide +kernel
theorem dX2_readItem_33 : decode cX2_readItem 33 = .ok (.invokevirtual 28, 3) := by decide +kernel
theorem dX2_readItem_36 : decode cX2_readItem 36 = .ok (.aload_n 0, 1) := by decide +kernel
theorem dX2_readItem_37 : decode cX2_readItem 37 = .ok (.getfield 31, 3) := by decide +kernel
theorem dX2_readItem_40 : decode cX2_readItem 40 = .ok (.sipush 256, 3) := by decide +kernel
theorem dX2_readItem_43 : decode cX2_readItem 43 = .ok (.if_icmp .ne 14, 3) := by decide +kernel
theorem dX2_readItem_46 : decode cX2_readItem 46 = .ok (.aload_n 0, 1) := by decide +kernel
theorem dX2_readItem_47 : decode cX2_readItem 47 = .ok (.aload_n 1, 1) := by decide +kernel
theorem dX2_readItem_48 : decode cX2_readItem 48 = .ok (.iload_n 3, 1) := by decide +kernel
theorem dX2_readItem_49 : decode cX2_readItem 49 = .ok (.iload 5, 2) := by decide +kernel
theorem dX2_readItem_51 : decode cX2_readItem 51 = .ok (.invokevirtual 52, 3) := by decide +kernel
theorem dX2_readItem_54 : decode cX2_readItem 54 = .ok (.ifCond .ne 5, 3) := by decide +kernel
theorem dX2_readItem_57 : decode cX2_readItem 57 = .ok (.iconst 0, 1) := by decide +kernel
theorem dX2_readItem_58 : decode cX2_readItem 58 = .ok (.ireturn, 1) := by decide +kernel
theorem dX2_readItem_59 : decode cX2_readItem 59 = .ok (.aload_n 0, 1) := by decide +kernel
theorem dX2_readItem_60 : decode cX2_readItem 60 = .ok (.getfield 15, 3) := by decide +kernel
theorem dX2_readItem_63 : decode cX2_readItem 63 = .ok (.iload 5, 2) := by decide +kernel
theorem dX2_readItem_65 : decode cX2_readItem 65 = .ok (.aload_n 0, 1) := by decide +kernel
theorem dX2_readItem_66 : decode cX2_readItem 66 = .ok (.getfield 56, 3) := by decide +kernel
theorem dX2_readItem_69 : decode cX2_readItem 69 = .ok (.iastore, 1) := by decide +kernel
theorem dX2_readItem_70 : decode cX2_readItem 70 = .ok (.iinc 5 1, 3) := by decide +kernel
theorem dX2_readItem_73 : decode cX2_readItem 73 = .ok (.goto (-48), 3) := by decide +kernel
theorem dX2_readItem_76 : decode cX2_readItem 76 = .ok (.aload_n 0, 1) := by decide +kernel
theorem dX2_readItem_77 : decode cX2_readItem 77 = .ok (.invokevirtual 28, 3) := by decide +kernel
theorem dX2_readItem_80 : decode cX2_readItem 80 = .ok (.aload_n 0, 1) := by decide +kernel
theorem dX2_readItem_81 : decode cX2_readItem 81 = .ok (.getfield 31, 3) := by decide +kernel
theorem dX2_readItem_84 : decode cX2_readItem 84 = .ok (.bipush 59, 2) := by decide +kernel
theorem dX2_readItem_86 : decode cX2_readItem 86 = .ok (.if_icmp .eq 5, 3) := by decide +kernel
theorem dX2_readItem_89 : decode cX2_readItem 89 = .ok (.iconst 0, 1) := by decide +kernel
theorem dX2_readItem_90 : decode cX2_readItem 90 = .ok (.ireturn, 1) := by decide +kernel
theorem dX2_readItem_91 : decode cX2_readItem 91 = .ok (.aload_n 1, 1) := by decide +kernel
theorem dX2_readItem_92 : decode cX2_readItem 92 = .ok (.iload_n 3, 1) := by decide +kernel
theorem dX2_readItem_93 : decode cX2_readItem 93 = .ok (.aload_n 0, 1) := by decide +kernel
theorem dX2_readItem_94 : decode cX2_readItem 94 = .ok (.getfield 15, 3) := by decide +kernel
theorem dX2_readItem_97 : decode cX2_readItem 97 = .ok (.invokevirtual 59, 3) := by decide +kernel
theorem dX2_readItem_100 : decode cX2_readItem 100 = .ok (.iconst 1, 1) := by decide +kernel
theorem dX2_readItem_101 : decode cX2_readItem 101 = .ok (.ireturn, 1) := by decide +kernel
theorem dX2_howManyNumbers_0 : decode cX2_howManyNumbers 0 = .ok (.iload_n 0, 1) := by decide +kernel
theorem dX2_howManyNumbers_1 : decode cX2_howManyNumbers 1 = .ok (.lookupswitch 51 #[(98, 49), (99, 43), (101, 47), (110, 45)], 43) := by decide +kernel
theorem dX2_howManyNumbers_44 : decode cX2_howManyNumbers 44 = .ok (.iconst 4, 1) := by decide +kernel
theorem dX2_howManyNumbers_45 : decode cX2_howManyNumbers 45 = .ok (.ireturn, 1) := by decide +kernel
theorem dX2_howManyNumbers_46 : decode cX2_howManyNumbers 46 = .ok (.iconst 3, 1) := by decide +kernel
theorem dX2_howManyNumbers_47 : decode cX2_howManyNumbers 47 = .ok (.ireturn, 1) := by decide +kernel
theorem dX2_howManyNumbers_48 : decode cX2_howManyNumbers 48 = .ok (.iconst 2, 1) := by decide +kernel
theorem dX2_howManyNumbers_49 : decode cX2_howManyNumbers 49 = .ok (.ireturn, 1) := by decide +kernel
theorem dX2_howManyNumbers_50 : decode cX2_howManyNumbers 50 = .ok (.iconst 2, 1) := by decide +kernel
theorem dX2_howManyNumbers_51 : decode cX2_howManyNumbers 51 = .ok (.ireturn, 1) := by decide +kernel
theorem dX2_howManyNumbers_52 : decode cX2_howManyNumbers 52 = .ok (.iconst 1, 1) := by decide +kernel
theorem dX2_howManyNumbers_53 : decode cX2_howManyNumbers 53 = .ok (.ireturn, 1) := by decide +kernel
theorem dX2_mayStand_0 : decode cX2_mayStand 0 = .ok (.iload_n 2, 1) := by decide +kernel
theorem dX2_mayStand_1 : decode cX2_mayStand 1 = .ok (.lookupswitch 42 #[(100, 27), (113, 34)], 27) := by decide +kernel
theorem dX2_mayStand_28 : decode cX2_mayStand 28 = .ok (.aload_n 0, 1) := by decide +kernel
theorem dX2_mayStand_29 : decode cX2_mayStand 29 = .ok (.iconst 1, 1) := by decide +kernel
theorem dX2_mayStand_30 : decode cX2_mayStand 30 = .ok (.iconst 4, 1) := by decide +kernel
theorem dX2_mayStand_31 : decode cX2_mayStand 31 = .ok (.invokevirtual 63, 3) := by decide +kernel
theorem dX2_mayStand_34 : decode cX2_mayStand 34 = .ok (.ireturn, 1) := by decide +kernel
theorem dX2_mayStand_35 : decode cX2_mayStand 35 = .ok (.aload_n 0, 1) := by decide +kernel
theorem dX2_mayStand_36 : decode cX2_mayStand 36 = .ok (.iconst 0, 1) := by decide +kernel
theorem dX2_mayStand_37 : decode cX2_mayStand 37 = .ok (.bipush 6, 2) := by decide +kernel
theorem dX2_mayStand_39 : decode cX2_mayStand 39 = .ok (.invokevirtual 63, 3) := by decide +kernel
theorem dX2_mayStand_42 : decode cX2_mayStand 42 = .ok (.ireturn, 1) := by decide +kernel
theorem dX2_mayStand_43 : decode cX2_mayStand 43 = .ok (.iload_n 3, 1) := by decide +kernel
theorem dX2_mayStand_44 : decode cX2_mayStand 44 = .ok (.ifCond .ne 15, 3) := by decide +kernel
theorem dX2_mayStand_47 : decode cX2_mayStand 47 = .ok (.aload_n 0, 1) := by decide +kernel
theorem dX2_mayStand_48 : decode cX2_mayStand 48 = .ok (.iconst 0, 1) := by decide +kernel
theorem dX2_mayStand_49 : decode cX2_mayStand 49 = .ok (.aload_n 1, 1) := by decide +kernel
theorem dX2_mayStand_50 : decode cX2_mayStand 50 = .ok (.getfield 66, 3) := by decide +kernel
theorem dX2_mayStand_53 : decode cX2_mayStand 53 = .ok (.iconst 1, 1) := by decide +kernel
theorem dX2_mayStand_54 : decode cX2_mayStand 54 = .ok (.isub, 1) := by decide +kernel
theorem dX2_mayStand_55 : decode cX2_mayStand 55 = .ok (.invokevirtual 63, 3) := by decide +kernel
theorem dX2_mayStand_58 : decode cX2_mayStand 58 = .ok (.ireturn, 1) := by decide +kernel
theorem dX2_mayStand_59 : decode cX2_mayStand 59 = .ok (.iload_n 2, 1) := by decide +kernel
theorem dX2_mayStand_60 : decode cX2_mayStand 60 = .ok (.tableswitch 79 98 101 #[65, 73, 79, 32], 32) := by decide +kernel
theorem dX2_mayStand_92 : decode cX2_mayStand 92 = .ok (.aload_n 0, 1) := by decide +kernel
theorem dX2_mayStand_93 : decode cX2_mayStand 93 = .ok (.iconst 0, 1) := by decide +kernel
theorem dX2_mayStand_94 : decode cX2_mayStand 94 = .ok (.aload_n 1, 1) := by decide +kernel
theorem dX2_mayStand_95 : decode cX2_mayStand 95 = .ok (.getfield 66, 3) := by decide +kernel
theorem dX2_mayStand_98 : decode cX2_mayStand 98 = .ok (.iconst 1, 1) := by decide +kernel
theorem dX2_mayStand_99 : decode cX2_mayStand 99 = .ok (.isub, 1) := by decide +kernel
theorem dX2_mayStand_100 : decode cX2_mayStand 100 = .ok (.invokevirtual 63, 3) := by decide +kernel
theorem dX2_mayStand_103 : decode cX2_mayStand 103 = .ok (.ifCond .eq 20, 3) := by decide +kernel
theorem dX2_mayStand_106 : decode cX2_mayStand 106 = .ok (.aload_n 0, 1) := by decide +kernel
theorem dX2_mayStand_107 : decode cX2_mayStand 107 = .ok (.getfield 56, 3) := by decide +kernel
theorem dX2_mayStand_110 : decode cX2_mayStand 110 = .ok (.aload_n 0, 1) := by decide +kernel
theorem dX2_mayStand_111 : decode cX2_mayStand 111 = .ok (.getfield 15, 3) := by decide +kernel
theorem dX2_mayStand_114 : decode cX2_mayStand 114 = .ok (.iconst 0, 1) := by decide +kernel
theorem dX2_mayStand_115 : decode cX2_mayStand 115 = .ok (.iaload, 1) := by decide +kernel
theorem dX2_mayStand_116 : decode cX2_mayStand 116 = .ok (.if_icmp .eq 7, 3) := by decide +kernel
theorem dX2_mayStand_119 : decode cX2_mayStand 119 = .ok (.iconst 1, 1) := by decide +kernel
theorem dX2_mayStand_120 : decode cX2_mayStand 120 = .ok (.goto 4, 3) := by decide +kernel
theorem dX2_mayStand_123 : decode cX2_mayStand 123 = .ok (.iconst 0, 1) := by decide +kernel
theorem dX2_mayStand_124 : decode cX2_mayStand 124 = .ok (.ireturn, 1) := by decide +kernel
theorem dX2_mayStand_125 : decode cX2_mayStand 125 = .ok (.aload_n 0, 1) := by decide +kernel
theorem dX2_mayStand_126 : decode cX2_mayStand 126 = .ok (.iconst 0, 1) := by decide +kernel
theorem dX2_mayStand_127 : decode cX2_mayStand 127 = .ok (.bipush 6, 2) := by decide +kernel
theorem dX2_mayStand_129 : decode cX2_mayStand 129 = .ok (.invokevirtual 63, 3) := by decide +kernel
theorem dX2_mayStand_132 : decode cX2_mayStand 132 = .ok (.ireturn, 1) := by decide +kernel
theorem dX2_mayStand_133 : decode cX2_mayStand 133 = .ok (.aload_n 0, 1) := by decide +kernel
theorem dX2_mayStand_134 : decode cX2_mayStand 134 = .ok (.iload_n 3, 1) := by decide +kernel
theorem dX2_mayStand_135 : decode cX2_mayStand 135 = .ok (.invokevirtual 69, 3) := by decide +kernel
theorem dX2_mayStand_138 : decode cX2_mayStand 138 = .ok (.ireturn, 1) := by decide +kernel
theorem dX2_mayStand_139 : decode cX2_mayStand 139 = .ok (.iload_n 3, 1) := by decide +kernel
theorem dX2_mayStand_140 : decode cX2_mayStand 140 = .ok (.iconst 1, 1) := by decide +kernel
theorem dX2_mayStand_141 : decode cX2_mayStand 141 = .ok (.if_icmp .ne 13, 3) := by decide +kernel
theorem dX2_mayStand_144 : decode cX2_mayStand 144 = .ok (.aload_n 0, 1) := by decide +kernel
theorem dX2_mayStand_145 : decode cX2_mayStand 145 = .ok (.iconst 0, 1) := by decide +kernel
theorem dX2_mayStand_146 : decode cX2_mayStand 146 = .ok (.bipush 7, 2) := by decide +kernel
theorem dX2_mayStand_148 : decode cX2_mayStand 148 = .ok (.invokevirtual 63, 3) := by decide +kernel
theorem dX2_mayStand_151 : decode cX2_mayStand 151 = .ok (.goto 10, 3) := by decide +kernel
theorem dX2_mayStand_154 : decode cX2_mayStand 154 = .ok (.aload_n 0, 1) := by decide +kernel
theorem dX2_mayStand_155 : decode cX2_mayStand 155 = .ok (.iconst 1, 1) := by decide +kernel
theorem dX2_mayStand_156 : decode cX2_mayStand 156 = .ok (.bipush 9, 2) := by decide +kernel
theorem dX2_mayStand_158 : decode cX2_mayStand 158 = .ok (.invokevirtual 63, 3) := by decide +kernel
theorem dX2_mayStand_161 : decode cX2_mayStand 161 = .ok (.ireturn, 1) := by decide +kernel
theorem dX2_mayStandForCitizen_0 : decode cX2_mayStandForCitizen 0 = .ok (.iload_n 1, 1) := by decide +kernel
theorem dX2_mayStandForCitizen_1 : decode cX2_mayStandForCitizen 1 = .ok (.lookupswitch 44 #[(1, 27), (2, 35)], 27) := by decide +kernel
theorem dX2_mayStandForCitizen_28 : decode cX2_mayStandForCitizen 28 = .ok (.aload_n 0, 1) := by decide +kernel
theorem dX2_mayStandForCitizen_29 : decode cX2_mayStandForCitizen 29 = .ok (.iconst 0, 1) := by decide +kernel
theorem dX2_mayStandForCitizen_30 : decode cX2_mayStandForCitizen 30 = .ok (.bipush 20, 2) := by decide +kernel
theorem dX2_mayStandForCitizen_32 : decode cX2_mayStandForCitizen 32 = .ok (.invokevirtual 63, 3) := by decide +kernel
theorem dX2_mayStandForCitizen_35 : decode cX2_mayStandForCitizen 35 = .ok (.ireturn, 1) := by decide +kernel
theorem dX2_mayStandForCitizen_36 : decode cX2_mayStandForCitizen 36 = .ok (.aload_n 0, 1) := by decide +kernel
theorem dX2_mayStandForCitizen_37 : decode cX2_mayStandForCitizen 37 = .ok (.iconst 0, 1) := by decide +kernel
theorem dX2_mayStandForCitizen_38 : decode cX2_mayStandForCitizen 38 = .ok (.sipush 255, 3) := by decide +kernel
theorem dX2_mayStandForCitizen_41 : decode cX2_mayStandForCitizen 41 = .ok (.invokevirtual 63, 3) := by decide +kernel
theorem dX2_mayStandForCitizen_44 : decode cX2_mayStandForCitizen 44 = .ok (.ireturn, 1) := by decide +kernel
theorem dX2_mayStandForCitizen_45 : decode cX2_mayStandForCitizen 45 = .ok (.aload_n 0, 1) := by decide +kernel
theorem dX2_mayStandForCitizen_46 : decode cX2_mayStandForCitizen 46 = .ok (.iconst 1, 1) := by decide +kernel
theorem dX2_mayStandForCitizen_47 : decode cX2_mayStandForCitizen 47 = .ok (.bipush 9, 2) := by decide +kernel
theorem dX2_mayStandForCitizen_49 : decode cX2_mayStandForCitizen 49 = .ok (.invokevirtual 63, 3) := by decide +kernel
theorem dX2_mayStandForCitizen_52 : decode cX2_mayStandForCitizen 52 = .ok (.ireturn, 1) := by decide +kernel
theorem dX2_isWithin_0 : decode cX2_isWithin 0 = .ok (.aload_n 0, 1) := by decide +kernel
theorem dX2_isWithin_1 : decode cX2_isWithin 1 = .ok (.getfield 56, 3) := by decide +kernel
theorem dX2_isWithin_4 : decode cX2_isWithin 4 = .ok (.iload_n 1, 1) := by decide +kernel
theorem dX2_isWithin_5 : decode cX2_isWithin 5 = .ok (.if_icmp .lt 15, 3) := by decide +kernel
theorem dX2_isWithin_8 : decode cX2_isWithin 8 = .ok (.aload_n 0, 1) := by decide +kernel
theorem dX2_isWithin_9 : decode cX2_isWithin 9 = .ok (.getfield 56, 3) := by decide +kernel
theorem dX2_isWithin_12 : decode cX2_isWithin 12 = .ok (.iload_n 2, 1) := by decide +kernel
theorem dX2_isWithin_13 : decode cX2_isWithin 13 = .ok (.if_icmp .gt 7, 3) := by decide +kernel
theorem dX2_isWithin_16 : decode cX2_isWithin 16 = .ok (.iconst 1, 1) := by decide +kernel
theorem dX2_isWithin_17 : decode cX2_isWithin 17 = .ok (.goto 4, 3) := by decide +kernel
theorem dX2_isWithin_20 : decode cX2_isWithin 20 = .ok (.iconst 0, 1) := by decide +kernel
theorem dX2_isWithin_21 : decode cX2_isWithin 21 = .ok (.ireturn, 1) := by decide +kernel
theorem dX2_nextToken_0 : decode cX2_nextToken 0 = .ok (.aload_n 0, 1) := by decide +kernel
theorem dX2_nextToken_1 : decode cX2_nextToken 1 = .ok (.getfield 24, 3) := by decide +kernel
theorem dX2_nextToken_4 : decode cX2_nextToken 4 = .ok (.aload_n 0, 1) := by decide +kernel
theorem dX2_nextToken_5 : decode cX2_nextToken 5 = .ok (.getfield 73, 3) := by decide +kernel
theorem dX2_nextToken_8 : decode cX2_nextToken 8 = .ok (.if_icmp .ge 30, 3) := by decide +kernel
theorem dX2_nextToken_11 : decode cX2_nextToken 11 = .ok (.aload_n 0, 1) := by decide +kernel
theorem dX2_nextToken_12 : decode cX2_nextToken 12 = .ok (.getfield 9, 3) := by decide +kernel
theorem dX2_nextToken_15 : decode cX2_nextToken 15 = .ok (.aload_n 0, 1) := by decide +kernel
theorem dX2_nextToken_16 : decode cX2_nextToken 16 = .ok (.getfield 24, 3) := by decide +kernel
theorem dX2_nextToken_19 : decode cX2_nextToken 19 = .ok (.caload, 1) := by decide +kernel
theorem dX2_nextToken_20 : decode cX2_nextToken 20 = .ok (.bipush 32, 2) := by decide +kernel
theorem dX2_nextToken_22 : decode cX2_nextToken 22 = .ok (.if_icmp .ne 16, 3) := by decide +kernel
theorem dX2_nextToken_25 : decode cX2_nextToken 25 = .ok (.aload_n 0, 1) := by decide +kernel
theorem dX2_nextToken_26 : decode cX2_nextToken 26 = .ok (.dup, 1) := by decide +kernel
theorem dX2_nextToken_27 : decode cX2_nextToken 27 = .ok (.getfield 24, 3) := by decide +kernel
theorem dX2_nextToken_30 : decode cX2_nextToken 30 = .ok (.iconst 1, 1) := by decide +kernel
theorem dX2_nextToken_31 : decode cX2_nextToken 31 = .ok (.iadd, 1) := by decide +kernel
theorem dX2_nextToken_32 : decode cX2_nextToken 32 = .ok (.putfield 24, 3) := by decide +kernel
theorem dX2_nextToken_35 : decode cX2_nextToken 35 = .ok (.goto (-35), 3) := by decide +kernel
theorem dX2_nextToken_38 : decode cX2_nextToken 38 = .ok (.aload_n 0, 1) := by decide +kernel
theorem dX2_nextToken_39 : decode cX2_nextToken 39 = .ok (.aload_n 0, 1) := by decide +kernel
theorem dX2_nextToken_40 : decode cX2_nextToken 40 = .ok (.getfield 24, 3) := by decide +kernel
theorem dX2_nextToken_43 : decode cX2_nextToken 43 = .ok (.putfield 41, 3) := by decide +kernel
theorem dX2_nextToken_46 : decode cX2_nextToken 46 = .ok (.aload_n 0, 1) := by decide +kernel
theorem dX2_nextToken_47 : decode cX2_nextToken 47 = .ok (.getfield 24, 3) := by decide +kernel
theorem dX2_nextToken_50 : decode cX2_nextToken 50 = .ok (.aload_n 0, 1) := by decide +kernel
theorem dX2_nextToken_51 : decode cX2_nextToken 51 = .ok (.getfield 73, 3) := by decide +kernel
theorem dX2_nextToken_54 : decode cX2_nextToken 54 = .ok (.if_icmp .lt 11, 3) := by decide +kernel
theorem dX2_nextToken_57 : decode cX2_nextToken 57 = .ok (.aload_n 0, 1) := by decide +kernel
theorem dX2_nextToken_58 : decode cX2_nextToken 58 = .ok (.sipush 258, 3) := by decide +kernel
theorem dX2_nextToken_61 : decode cX2_nextToken 61 = .ok (.putfield 31, 3) := by decide +kernel
theorem dX2_nextToken_64 : decode cX2_nextToken 64 = .ok (.return_, 1) := by decide +kernel
theorem dX2_nextToken_65 : decode cX2_nextToken 65 = .ok (.aload_n 0, 1) := by decide +kernel
theorem dX2_nextToken_66 : decode cX2_nextToken 66 = .ok (.getfield 9, 3) := by decide +kernel
theorem dX2_nextToken_69 : decode cX2_nextToken 69 = .ok (.aload_n 0, 1) := by decide +kernel
theorem dX2_nextToken_70 : decode cX2_nextToken 70 = .ok (.getfield 24, 3) := by decide +kernel
theorem dX2_nextToken_73 : decode cX2_nextToken 73 = .ok (.caload, 1) := by decide +kernel
theorem dX2_nextToken_74 : decode cX2_nextToken 74 = .ok (.istore_n 1, 1) := by decide +kernel
theorem dX2_nextToken_75 : decode cX2_nextToken 75 = .ok (.iload_n 1, 1) := by decide +kernel
theorem dX2_nextToken_76 : decode cX2_nextToken 76 = .ok (.invokestatic 76, 3) := by decide +kernel
theorem dX2_nextToken_79 : decode cX2_nextToken 79 = .ok (.ifCond .eq 8, 3) := by decide +kernel
theorem dX2_nextToken_82 : decode cX2_nextToken 82 = .ok (.aload_n 0, 1) := by decide +kernel
theorem dX2_nextToken_83 : decode cX2_nextToken 83 = .ok (.invokevirtual 80, 3) := by decide +kernel
theorem dX2_nextToken_86 : decode cX2_nextToken 86 = .ok (.return_, 1) := by decide +kernel
theorem dX2_nextToken_87 : decode cX2_nextToken 87 = .ok (.aload_n 0, 1) := by decide +kernel
theorem dX2_nextToken_88 : decode cX2_nextToken 88 = .ok (.dup, 1) := by decide +kernel
theorem dX2_nextToken_89 : decode cX2_nextToken 89 = .ok (.getfield 24, 3) := by decide +kernel
theorem dX2_nextToken_92 : decode cX2_nextToken 92 = .ok (.iconst 1, 1) := by decide +kernel
theorem dX2_nextToken_93 : decode cX2_nextToken 93 = .ok (.iadd, 1) := by decide +kernel
theorem dX2_nextToken_94 : decode cX2_nextToken 94 = .ok (.putfield 24, 3) := by decide +kernel
theorem dX2_nextToken_97 : decode cX2_nextToken 97 = .ok (.aload_n 0, 1) := by decide +kernel
theorem dX2_nextToken_98 : decode cX2_nextToken 98 = .ok (.iload_n 1, 1) := by decide +kernel
theorem dX2_nextToken_99 : decode cX2_nextToken 99 = .ok (.putfield 31, 3) := by decide +kernel
theorem dX2_nextToken_102 : decode cX2_nextToken 102 = .ok (.return_, 1) := by decide +kernel
theorem dX2_readNumber_0 : decode cX2_readNumber 0 = .ok (.aload_n 0, 1) := by decide +kernel
theorem dX2_readNumber_1 : decode cX2_readNumber 1 = .ok (.iconst 0, 1) := by decide +kernel
theorem dX2_readNumber_2 : decode cX2_readNumber 2 = .ok (.putfield 56, 3) := by decide +kernel
theorem dX2_readNumber_5 : decode cX2_readNumber 5 = .ok (.aload_n 0, 1) := by decide +kernel
theorem dX2_readNumber_6 : decode cX2_readNumber 6 = .ok (.getfield 24, 3) := by decide +kernel
theorem dX2_readNumber_9 : decode cX2_readNumber 9 = .ok (.aload_n 0, 1) := by decide +kernel
theorem dX2_readNumber_10 : decode cX2_readNumber 10 = .ok (.getfield 73, 3) := by decide +kernel
theorem dX2_readNumber_13 : decode cX2_readNumber 13 = .ok (.if_icmp .ge 61, 3) := by decide +kernel
theorem dX2_readNumber_16 : decode cX2_readNumber 16 = .ok (.aload_n 0, 1) := by decide +kernel
theorem dX2_readNumber_17 : decode cX2_readNumber 17 = .ok (.getfield 9, 3) := by decide +kernel
theorem dX2_readNumber_20 : decode cX2_readNumber 20 = .ok (.aload_n 0, 1) := by decide +kernel
theorem dX2_readNumber_21 : decode cX2_readNumber 21 = .ok (.getfield 24, 3) := by decide +kernel
theorem dX2_readNumber_24 : decode cX2_readNumber 24 = .ok (.caload, 1) := by decide +kernel
theorem dX2_readNumber_25 : decode cX2_readNumber 25 = .ok (.invokestatic 76, 3) := by decide +kernel
theorem dX2_readNumber_28 : decode cX2_readNumber 28 = .ok (.ifCond .eq 46, 3) := by decide +kernel
theorem dX2_readNumber_31 : decode cX2_readNumber 31 = .ok (.aload_n 0, 1) := by decide +kernel
theorem dX2_readNumber_32 : decode cX2_readNumber 32 = .ok (.aload_n 0, 1) := by decide +kernel
theorem dX2_readNumber_33 : decode cX2_readNumber 33 = .ok (.getfield 56, 3) := by decide +kernel
theorem dX2_readNumber_36 : decode cX2_readNumber 36 = .ok (.bipush 10, 2) := by decide +kernel
theorem dX2_readNumber_38 : decode cX2_readNumber 38 = .ok (.imul, 1) := by decide +kernel
theorem dX2_readNumber_39 : decode cX2_readNumber 39 = .ok (.aload_n 0, 1) := by decide +kernel
theorem dX2_readNumber_40 : decode cX2_readNumber 40 = .ok (.getfield 9, 3) := by decide +kernel
theorem dX2_readNumber_43 : decode cX2_readNumber 43 = .ok (.aload_n 0, 1) := by decide +kernel
theorem dX2_readNumber_44 : decode cX2_readNumber 44 = .ok (.getfield 24, 3) := by decide +kernel
theorem dX2_readNumber_47 : decode cX2_readNumber 47 = .ok (.caload, 1) := by decide +kernel
theorem dX2_readNumber_48 : decode cX2_readNumber 48 = .ok (.iadd, 1) := by decide +kernel
theorem dX2_readNumber_49 : decode cX2_readNumber 49 = .ok (.bipush 48, 2) := by decide +kernel
theorem dX2_readNumber_51 : decode cX2_readNumber 51 = .ok (.isub, 1) := by decide +kernel
theorem dX2_readNumber_52 : decode cX2_readNumber 52 = .ok (.sipush 256, 3) := by decide +kernel
theorem dX2_readNumber_55 : decode cX2_readNumber 55 = .ok (.invokestatic 83, 3) := by decide +kernel
theorem dX2_readNumber_58 : decode cX2_readNumber 58 = .ok (.putfield 56, 3) := by decide +kernel
theorem dX2_readNumber_61 : decode cX2_readNumber 61 = .ok (.aload_n 0, 1) := by decide +kernel
theorem dX2_readNumber_62 : decode cX2_readNumber 62 = .ok (.dup, 1) := by decide +kernel
theorem dX2_readNumber_63 : decode cX2_readNumber 63 = .ok (.getfield 24, 3) := by decide +kernel
theorem dX2_readNumber_66 : decode cX2_readNumber 66 = .ok (.iconst 1, 1) := by decide +kernel
theorem dX2_readNumber_67 : decode cX2_readNumber 67 = .ok (.iadd, 1) := by decide +kernel
theorem dX2_readNumber_68 : decode cX2_readNumber 68 = .ok (.putfield 24, 3) := by decide +kernel
theorem dX2_readNumber_71 : decode cX2_readNumber 71 = .ok (.goto (-66), 3) := by decide +kernel
theorem dX2_readNumber_74 : decode cX2_readNumber 74 = .ok (.aload_n 0, 1) := by decide +kernel
theorem dX2_readNumber_75 : decode cX2_readNumber 75 = .ok (.getfield 9, 3) := by decide +kernel
theorem dX2_readNumber_78 : decode cX2_readNumber 78 = .ok (.aload_n 0, 1) := by decide +kernel
theorem dX2_readNumber_79 : decode cX2_readNumber 79 = .ok (.getfield 41, 3) := by decide +kernel
theorem dX2_readNumber_82 : decode cX2_readNumber 82 = .ok (.caload, 1) := by decide +kernel
theorem dX2_readNumber_83 : decode cX2_readNumber 83 = .ok (.bipush 48, 2) := by decide +kernel
theorem dX2_readNumber_85 : decode cX2_readNumber 85 = .ok (.if_icmp .ne 20, 3) := by decide +kernel
theorem dX2_readNumber_88 : decode cX2_readNumber 88 = .ok (.aload_n 0, 1) := by decide +kernel
theorem dX2_readNumber_89 : decode cX2_readNumber 89 = .ok (.getfield 24, 3) := by decide +kernel
theorem dX2_readNumber_92 : decode cX2_readNumber 92 = .ok (.aload_n 0, 1) := by decide +kernel
theorem dX2_readNumber_93 : decode cX2_readNumber 93 = .ok (.getfield 41, 3) := by decide +kernel
theorem dX2_readNumber_96 : decode cX2_readNumber 96 = .ok (.isub, 1) := by decide +kernel
theorem dX2_readNumber_97 : decode cX2_readNumber 97 = .ok (.iconst 1, 1) := by decide +kernel
theorem dX2_readNumber_98 : decode cX2_readNumber 98 = .ok (.if_icmp .le 7, 3) := by decide +kernel
theorem dX2_readNumber_101 : decode cX2_readNumber 101 = .ok (.iconst 1, 1) := by decide +kernel
theorem dX2_readNumber_102 : decode cX2_readNumber 102 = .ok (.goto 4, 3) := by decide +kernel
theorem dX2_readNumber_105 : decode cX2_readNumber 105 = .ok (.iconst 0, 1) := by decide +kernel
theorem dX2_readNumber_106 : decode cX2_readNumber 106 = .ok (.istore_n 1, 1) := by decide +kernel
theorem dX2_readNumber_107 : decode cX2_readNumber 107 = .ok (.aload_n 0, 1) := by decide +kernel
theorem dX2_readNumber_108 : decode cX2_readNumber 108 = .ok (.iload_n 1, 1) := by decide +kernel
theorem dX2_readNumber_109 : decode cX2_readNumber 109 = .ok (.ifCond .ne 13, 3) := by decide +kernel
theorem dX2_readNumber_112 : decode cX2_readNumber 112 = .ok (.aload_n 0, 1) := by decide +kernel
theorem dX2_readNumber_113 : decode cX2_readNumber 113 = .ok (.getfield 56, 3) := by decide +kernel
theorem dX2_readNumber_116 : decode cX2_readNumber 116 = .ok (.sipush 255, 3) := by decide +kernel
theorem dX2_readNumber_119 : decode cX2_readNumber 119 = .ok (.if_icmp .le 9, 3) := by decide +kernel
theorem dX2_readNumber_122 : decode cX2_readNumber 122 = .ok (.sipush 257, 3) := by decide +kernel
theorem dX2_readNumber_125 : decode cX2_readNumber 125 = .ok (.goto 6, 3) := by decide +kernel
theorem dX2_readNumber_128 : decode cX2_readNumber 128 = .ok (.sipush 256, 3) := by decide +kernel
theorem dX2_readNumber_131 : decode cX2_readNumber 131 = .ok (.putfield 31, 3) := by decide +kernel
theorem dX2_readNumber_134 : decode cX2_readNumber 134 = .ok (.return_, 1) := by decide +kernel
theorem dX2_isDigit_0 : decode cX2_isDigit 0 = .ok (.iload_n 0, 1) := by decide +kernel
theorem dX2_isDigit_1 : decode cX2_isDigit 1 = .ok (.bipush 48, 2) := by decide +kernel
theorem dX2_isDigit_3 : decode cX2_isDigit 3 = .ok (.if_icmp .lt 13, 3) := by decide +kernel
theorem dX2_isDigit_6 : decode cX2_isDigit 6 = .ok (.iload_n 0, 1) := by decide +kernel
theorem dX2_isDigit_7 : decode cX2_isDigit 7 = .ok (.bipush 57, 2) := by decide +kernel
theorem dX2_isDigit_9 : decode cX2_isDigit 9 = .ok (.if_icmp .gt 7, 3) := by decide +kernel
theorem dX2_isDigit_12 : decode cX2_isDigit 12 = .ok (.iconst 1, 1) := by decide +kernel
theorem dX2_isDigit_13 : decode cX2_isDigit 13 = .ok (.goto 4, 3) := by decide +kernel
theorem dX2_isDigit_16 : decode cX2_isDigit 16 = .ok (.iconst 0, 1) := by decide +kernel
theorem dX2_isDigit_17 : decode cX2_isDigit 17 = .ok (.ireturn, 1) := by decide +kernel
