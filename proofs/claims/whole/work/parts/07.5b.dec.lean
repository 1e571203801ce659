theorem dX4_keeps_0 : decode cX4_keeps 0 = .ok (.aload_n 0, 1) := by decide +kernel
theorem dX4_keeps_1 : decode cX4_keeps 1 = .ok (.getfield 127, 3) := by decide +kernel
theorem dX4_keeps_4 : decode cX4_keeps 4 = .ok (.bipush 10, 2) := by decide +kernel
theorem dX4_keeps_6 : decode cX4_keeps 6 = .ok (.if_icmp .ne 43, 3) := by decide +kernel
theorem dX4_keeps_9 : decode cX4_keeps 9 = .ok (.iconst 0, 1) := by decide +kernel
theorem dX4_keeps_10 : decode cX4_keeps 10 = .ok (.istore_n 1, 1) := by decide +kernel
theorem dX4_keeps_11 : decode cX4_keeps 11 = .ok (.iload_n 1, 1) := by decide +kernel
theorem dX4_keeps_12 : decode cX4_keeps 12 = .ok (.sipush 189, 3) := by decide +kernel
theorem dX4_keeps_15 : decode cX4_keeps 15 = .ok (.if_icmp .ge 24, 3) := by decide +kernel
theorem dX4_keeps_18 : decode cX4_keeps 18 = .ok (.aload_n 0, 1) := by decide +kernel
theorem dX4_keeps_19 : decode cX4_keeps 19 = .ok (.getfield 22, 3) := by decide +kernel
theorem dX4_keeps_22 : decode cX4_keeps 22 = .ok (.iload_n 1, 1) := by decide +kernel
theorem dX4_keeps_23 : decode cX4_keeps 23 = .ok (.aload_n 0, 1) := by decide +kernel
theorem dX4_keeps_24 : decode cX4_keeps 24 = .ok (.getfield 22, 3) := by decide +kernel
theorem dX4_keeps_27 : decode cX4_keeps 27 = .ok (.iload_n 1, 1) := by decide +kernel
theorem dX4_keeps_28 : decode cX4_keeps 28 = .ok (.bipush 21, 2) := by decide +kernel
theorem dX4_keeps_30 : decode cX4_keeps 30 = .ok (.iadd, 1) := by decide +kernel
theorem dX4_keeps_31 : decode cX4_keeps 31 = .ok (.iaload, 1) := by decide +kernel
theorem dX4_keeps_32 : decode cX4_keeps 32 = .ok (.iastore, 1) := by decide +kernel
theorem dX4_keeps_33 : decode cX4_keeps 33 = .ok (.iinc 1 1, 3) := by decide +kernel
theorem dX4_keeps_36 : decode cX4_keeps 36 = .ok (.goto (-25), 3) := by decide +kernel
theorem dX4_keeps_39 : decode cX4_keeps 39 = .ok (.aload_n 0, 1) := by decide +kernel
theorem dX4_keeps_40 : decode cX4_keeps 40 = .ok (.dup, 1) := by decide +kernel
theorem dX4_keeps_41 : decode cX4_keeps 41 = .ok (.getfield 127, 3) := by decide +kernel
theorem dX4_keeps_44 : decode cX4_keeps 44 = .ok (.iconst 1, 1) := by decide +kernel
theorem dX4_keeps_45 : decode cX4_keeps 45 = .ok (.isub, 1) := by decide +kernel
theorem dX4_keeps_46 : decode cX4_keeps 46 = .ok (.putfield 127, 3) := by decide +kernel
theorem dX4_keeps_49 : decode cX4_keeps 49 = .ok (.iconst 0, 1) := by decide +kernel
theorem dX4_keeps_50 : decode cX4_keeps 50 = .ok (.istore_n 1, 1) := by decide +kernel
theorem dX4_keeps_51 : decode cX4_keeps 51 = .ok (.iload_n 1, 1) := by decide +kernel
theorem dX4_keeps_52 : decode cX4_keeps 52 = .ok (.bipush 21, 2) := by decide +kernel
theorem dX4_keeps_54 : decode cX4_keeps 54 = .ok (.if_icmp .ge 29, 3) := by decide +kernel
theorem dX4_keeps_57 : decode cX4_keeps 57 = .ok (.aload_n 0, 1) := by decide +kernel
theorem dX4_keeps_58 : decode cX4_keeps 58 = .ok (.getfield 22, 3) := by decide +kernel
theorem dX4_keeps_61 : decode cX4_keeps 61 = .ok (.bipush 21, 2) := by decide +kernel
theorem dX4_keeps_63 : decode cX4_keeps 63 = .ok (.aload_n 0, 1) := by decide +kernel
theorem dX4_keeps_64 : decode cX4_keeps 64 = .ok (.getfield 127, 3) := by decide +kernel
theorem dX4_keeps_67 : decode cX4_keeps 67 = .ok (.imul, 1) := by decide +kernel
theorem dX4_keeps_68 : decode cX4_keeps 68 = .ok (.iload_n 1, 1) := by decide +kernel
theorem dX4_keeps_69 : decode cX4_keeps 69 = .ok (.iadd, 1) := by decide +kernel
theorem dX4_keeps_70 : decode cX4_keeps 70 = .ok (.aload_n 0, 1) := by decide +kernel
theorem dX4_keeps_71 : decode cX4_keeps 71 = .ok (.getfield 19, 3) := by decide +kernel
theorem dX4_keeps_74 : decode cX4_keeps 74 = .ok (.iload_n 1, 1) := by decide +kernel
theorem dX4_keeps_75 : decode cX4_keeps 75 = .ok (.iaload, 1) := by decide +kernel
theorem dX4_keeps_76 : decode cX4_keeps 76 = .ok (.iastore, 1) := by decide +kernel
theorem dX4_keeps_77 : decode cX4_keeps 77 = .ok (.iinc 1 1, 3) := by decide +kernel
theorem dX4_keeps_80 : decode cX4_keeps 80 = .ok (.goto (-29), 3) := by decide +kernel
theorem dX4_keeps_83 : decode cX4_keeps 83 = .ok (.aload_n 0, 1) := by decide +kernel
theorem dX4_keeps_84 : decode cX4_keeps 84 = .ok (.dup, 1) := by decide +kernel
theorem dX4_keeps_85 : decode cX4_keeps 85 = .ok (.getfield 127, 3) := by decide +kernel
theorem dX4_keeps_88 : decode cX4_keeps 88 = .ok (.iconst 1, 1) := by decide +kernel
theorem dX4_keeps_89 : decode cX4_keeps 89 = .ok (.iadd, 1) := by decide +kernel
theorem dX4_keeps_90 : decode cX4_keeps 90 = .ok (.putfield 127, 3) := by decide +kernel
theorem dX4_keeps_93 : decode cX4_keeps 93 = .ok (.return_, 1) := by decide +kernel
theorem dX4_calls_0 : decode cX4_calls 0 = .ok (.aload_n 0, 1) := by decide +kernel
theorem dX4_calls_1 : decode cX4_calls 1 = .ok (.iload_n 1, 1) := by decide +kernel
theorem dX4_calls_2 : decode cX4_calls 2 = .ok (.invokevirtual 136, 3) := by decide +kernel
theorem dX4_calls_5 : decode cX4_calls 5 = .ok (.ifCond .eq 14, 3) := by decide +kernel
theorem dX4_calls_8 : decode cX4_calls 8 = .ok (.iload_n 2, 1) := by decide +kernel
theorem dX4_calls_9 : decode cX4_calls 9 = .ok (.iconst 0, 1) := by decide +kernel
theorem dX4_calls_10 : decode cX4_calls 10 = .ok (.sipush 255, 3) := by decide +kernel
theorem dX4_calls_13 : decode cX4_calls 13 = .ok (.invokestatic 67, 3) := by decide +kernel
theorem dX4_calls_16 : decode cX4_calls 16 = .ok (.ifCond .ne 5, 3) := by decide +kernel
theorem dX4_calls_19 : decode cX4_calls 19 = .ok (.iconst (-1), 1) := by decide +kernel
theorem dX4_calls_20 : decode cX4_calls 20 = .ok (.ireturn, 1) := by decide +kernel
theorem dX4_calls_21 : decode cX4_calls 21 = .ok (.aload_n 0, 1) := by decide +kernel
theorem dX4_calls_22 : decode cX4_calls 22 = .ok (.invokevirtual 142, 3) := by decide +kernel
theorem dX4_calls_25 : decode cX4_calls 25 = .ok (.aload_n 0, 1) := by decide +kernel
theorem dX4_calls_26 : decode cX4_calls 26 = .ok (.getfield 19, 3) := by decide +kernel
theorem dX4_calls_29 : decode cX4_calls 29 = .ok (.bipush 9, 2) := by decide +kernel
theorem dX4_calls_31 : decode cX4_calls 31 = .ok (.iload_n 1, 1) := by decide +kernel
theorem dX4_calls_32 : decode cX4_calls 32 = .ok (.iadd, 1) := by decide +kernel
theorem dX4_calls_33 : decode cX4_calls 33 = .ok (.iaload, 1) := by decide +kernel
theorem dX4_calls_34 : decode cX4_calls 34 = .ok (.istore_n 3, 1) := by decide +kernel
theorem dX4_calls_35 : decode cX4_calls 35 = .ok (.aload_n 0, 1) := by decide +kernel
theorem dX4_calls_36 : decode cX4_calls 36 = .ok (.getfield 19, 3) := by decide +kernel
theorem dX4_calls_39 : decode cX4_calls 39 = .ok (.bipush 9, 2) := by decide +kernel
theorem dX4_calls_41 : decode cX4_calls 41 = .ok (.iload_n 1, 1) := by decide +kernel
theorem dX4_calls_42 : decode cX4_calls 42 = .ok (.iadd, 1) := by decide +kernel
theorem dX4_calls_43 : decode cX4_calls 43 = .ok (.iload_n 2, 1) := by decide +kernel
theorem dX4_calls_44 : decode cX4_calls 44 = .ok (.iastore, 1) := by decide +kernel
theorem dX4_calls_45 : decode cX4_calls 45 = .ok (.iload_n 3, 1) := by decide +kernel
theorem dX4_calls_46 : decode cX4_calls 46 = .ok (.ireturn, 1) := by decide +kernel
theorem dX4_could_0 : decode cX4_could 0 = .ok (.iload_n 2, 1) := by decide +kernel
theorem dX4_could_1 : decode cX4_could 1 = .ok (.ifCond .eq 47, 3) := by decide +kernel
theorem dX4_could_4 : decode cX4_could 4 = .ok (.iload_n 1, 1) := by decide +kernel
theorem dX4_could_5 : decode cX4_could 5 = .ok (.aload_n 0, 1) := by decide +kernel
theorem dX4_could_6 : decode cX4_could 6 = .ok (.getfield 39, 3) := by decide +kernel
theorem dX4_could_9 : decode cX4_could 9 = .ok (.if_icmp .eq 39, 3) := by decide +kernel
theorem dX4_could_12 : decode cX4_could 12 = .ok (.aload_n 0, 1) := by decide +kernel
theorem dX4_could_13 : decode cX4_could 13 = .ok (.getfield 13, 3) := by decide +kernel
theorem dX4_could_16 : decode cX4_could 16 = .ok (.bipush 26, 2) := by decide +kernel
theorem dX4_could_18 : decode cX4_could 18 = .ok (.iload_n 1, 1) := by decide +kernel
theorem dX4_could_19 : decode cX4_could 19 = .ok (.iadd, 1) := by decide +kernel
theorem dX4_could_20 : decode cX4_could 20 = .ok (.iaload, 1) := by decide +kernel
theorem dX4_could_21 : decode cX4_could 21 = .ok (.aload_n 0, 1) := by decide +kernel
theorem dX4_could_22 : decode cX4_could 22 = .ok (.getfield 19, 3) := by decide +kernel
theorem dX4_could_25 : decode cX4_could 25 = .ok (.iconst 1, 1) := by decide +kernel
theorem dX4_could_26 : decode cX4_could 26 = .ok (.iaload, 1) := by decide +kernel
theorem dX4_could_27 : decode cX4_could 27 = .ok (.ishr, 1) := by decide +kernel
theorem dX4_could_28 : decode cX4_could 28 = .ok (.iconst 1, 1) := by decide +kernel
theorem dX4_could_29 : decode cX4_could 29 = .ok (.iand, 1) := by decide +kernel
theorem dX4_could_30 : decode cX4_could 30 = .ok (.ifCond .ne 18, 3) := by decide +kernel
theorem dX4_could_33 : decode cX4_could 33 = .ok (.aload_n 0, 1) := by decide +kernel
theorem dX4_could_34 : decode cX4_could 34 = .ok (.getfield 19, 3) := by decide +kernel
theorem dX4_could_37 : decode cX4_could 37 = .ok (.iconst 3, 1) := by decide +kernel
theorem dX4_could_38 : decode cX4_could 38 = .ok (.iload_n 1, 1) := by decide +kernel
theorem dX4_could_39 : decode cX4_could 39 = .ok (.iadd, 1) := by decide +kernel
theorem dX4_could_40 : decode cX4_could 40 = .ok (.iaload, 1) := by decide +kernel
theorem dX4_could_41 : decode cX4_could 41 = .ok (.ifCond .le 7, 3) := by decide +kernel
theorem dX4_could_44 : decode cX4_could 44 = .ok (.iconst 1, 1) := by decide +kernel
theorem dX4_could_45 : decode cX4_could 45 = .ok (.goto 4, 3) := by decide +kernel
theorem dX4_could_48 : decode cX4_could 48 = .ok (.iconst 0, 1) := by decide +kernel
theorem dX4_could_49 : decode cX4_could 49 = .ok (.ireturn, 1) := by decide +kernel
theorem dX4_loudest_0 : decode cX4_loudest 0 = .ok (.aload_n 0, 1) := by decide +kernel
theorem dX4_loudest_1 : decode cX4_loudest 1 = .ok (.getfield 45, 3) := by decide +kernel
theorem dX4_loudest_4 : decode cX4_loudest 4 = .ok (.iload_n 1, 1) := by decide +kernel
theorem dX4_loudest_5 : decode cX4_loudest 5 = .ok (.if_icmp .ne 10, 3) := by decide +kernel
theorem dX4_loudest_8 : decode cX4_loudest 8 = .ok (.aload_n 0, 1) := by decide +kernel
theorem dX4_loudest_9 : decode cX4_loudest 9 = .ok (.getfield 145, 3) := by decide +kernel
theorem dX4_loudest_12 : decode cX4_loudest 12 = .ok (.goto 4, 3) := by decide +kernel
theorem dX4_loudest_15 : decode cX4_loudest 15 = .ok (.iconst 0, 1) := by decide +kernel
theorem dX4_loudest_16 : decode cX4_loudest 16 = .ok (.istore_n 2, 1) := by decide +kernel
theorem dX4_loudest_17 : decode cX4_loudest 17 = .ok (.iconst 0, 1) := by decide +kernel
theorem dX4_loudest_18 : decode cX4_loudest 18 = .ok (.istore_n 3, 1) := by decide +kernel
theorem dX4_loudest_19 : decode cX4_loudest 19 = .ok (.iload_n 3, 1) := by decide +kernel
theorem dX4_loudest_20 : decode cX4_loudest 20 = .ok (.aload_n 0, 1) := by decide +kernel
theorem dX4_loudest_21 : decode cX4_loudest 21 = .ok (.getfield 13, 3) := by decide +kernel
theorem dX4_loudest_24 : decode cX4_loudest 24 = .ok (.iconst 3, 1) := by decide +kernel
theorem dX4_loudest_25 : decode cX4_loudest 25 = .ok (.iaload, 1) := by decide +kernel
theorem dX4_loudest_26 : decode cX4_loudest 26 = .ok (.if_icmp .ge 91, 3) := by decide +kernel
theorem dX4_loudest_29 : decode cX4_loudest 29 = .ok (.aload_n 0, 1) := by decide +kernel
theorem dX4_loudest_30 : decode cX4_loudest 30 = .ok (.getfield 35, 3) := by decide +kernel
theorem dX4_loudest_33 : decode cX4_loudest 33 = .ok (.iload_n 3, 1) := by decide +kernel
theorem dX4_loudest_34 : decode cX4_loudest 34 = .ok (.ishr, 1) := by decide +kernel
theorem dX4_loudest_35 : decode cX4_loudest 35 = .ok (.iconst 1, 1) := by decide +kernel
theorem dX4_loudest_36 : decode cX4_loudest 36 = .ok (.iand, 1) := by decide +kernel
theorem dX4_loudest_37 : decode cX4_loudest 37 = .ok (.iconst 1, 1) := by decide +kernel
theorem dX4_loudest_38 : decode cX4_loudest 38 = .ok (.if_icmp .ne 38, 3) := by decide +kernel
theorem dX4_loudest_41 : decode cX4_loudest 41 = .ok (.aload_n 0, 1) := by decide +kernel
theorem dX4_loudest_42 : decode cX4_loudest 42 = .ok (.getfield 13, 3) := by decide +kernel
theorem dX4_loudest_45 : decode cX4_loudest 45 = .ok (.bipush 38, 2) := by decide +kernel
theorem dX4_loudest_47 : decode cX4_loudest 47 = .ok (.iload_n 3, 1) := by decide +kernel
theorem dX4_loudest_48 : decode cX4_loudest 48 = .ok (.iadd, 1) := by decide +kernel
theorem dX4_loudest_49 : decode cX4_loudest 49 = .ok (.iaload, 1) := by decide +kernel
theorem dX4_loudest_50 : decode cX4_loudest 50 = .ok (.iload_n 1, 1) := by decide +kernel
theorem dX4_loudest_51 : decode cX4_loudest 51 = .ok (.if_icmp .ne 25, 3) := by decide +kernel
theorem dX4_loudest_54 : decode cX4_loudest 54 = .ok (.aload_n 0, 1) := by decide +kernel
theorem dX4_loudest_55 : decode cX4_loudest 55 = .ok (.getfield 13, 3) := by decide +kernel
theorem dX4_loudest_58 : decode cX4_loudest 58 = .ok (.bipush 44, 2) := by decide +kernel
theorem dX4_loudest_60 : decode cX4_loudest 60 = .ok (.iload_n 3, 1) := by decide +kernel
theorem dX4_loudest_61 : decode cX4_loudest 61 = .ok (.iadd, 1) := by decide +kernel
theorem dX4_loudest_62 : decode cX4_loudest 62 = .ok (.iaload, 1) := by decide +kernel
theorem dX4_loudest_63 : decode cX4_loudest 63 = .ok (.aload_n 0, 1) := by decide +kernel
theorem dX4_loudest_64 : decode cX4_loudest 64 = .ok (.getfield 19, 3) := by decide +kernel
theorem dX4_loudest_67 : decode cX4_loudest 67 = .ok (.iconst 1, 1) := by decide +kernel
theorem dX4_loudest_68 : decode cX4_loudest 68 = .ok (.iaload, 1) := by decide +kernel
theorem dX4_loudest_69 : decode cX4_loudest 69 = .ok (.if_icmp .ne 7, 3) := by decide +kernel
theorem dX4_loudest_72 : decode cX4_loudest 72 = .ok (.iconst 1, 1) := by decide +kernel
theorem dX4_loudest_73 : decode cX4_loudest 73 = .ok (.goto 4, 3) := by decide +kernel
theorem dX4_loudest_76 : decode cX4_loudest 76 = .ok (.iconst 0, 1) := by decide +kernel
theorem dX4_loudest_77 : decode cX4_loudest 77 = .ok (.istore 4, 2) := by decide +kernel
theorem dX4_loudest_79 : decode cX4_loudest 79 = .ok (.iload 4, 2) := by decide +kernel
theorem dX4_loudest_81 : decode cX4_loudest 81 = .ok (.ifCond .eq 28, 3) := by decide +kernel
theorem dX4_loudest_84 : decode cX4_loudest 84 = .ok (.aload_n 0, 1) := by decide +kernel
theorem dX4_loudest_85 : decode cX4_loudest 85 = .ok (.getfield 13, 3) := by decide +kernel
theorem dX4_loudest_88 : decode cX4_loudest 88 = .ok (.bipush 50, 2) := by decide +kernel
theorem dX4_loudest_90 : decode cX4_loudest 90 = .ok (.iload_n 3, 1) := by decide +kernel
theorem dX4_loudest_91 : decode cX4_loudest 91 = .ok (.iadd, 1) := by decide +kernel
theorem dX4_loudest_92 : decode cX4_loudest 92 = .ok (.iaload, 1) := by decide +kernel
theorem dX4_loudest_93 : decode cX4_loudest 93 = .ok (.iload_n 2, 1) := by decide +kernel
theorem dX4_loudest_94 : decode cX4_loudest 94 = .ok (.if_icmp .le 15, 3) := by decide +kernel
theorem dX4_loudest_97 : decode cX4_loudest 97 = .ok (.aload_n 0, 1) := by decide +kernel
theorem dX4_loudest_98 : decode cX4_loudest 98 = .ok (.getfield 13, 3) := by decide +kernel
theorem dX4_loudest_101 : decode cX4_loudest 101 = .ok (.bipush 50, 2) := by decide +kernel
theorem dX4_loudest_103 : decode cX4_loudest 103 = .ok (.iload_n 3, 1) := by decide +kernel
theorem dX4_loudest_104 : decode cX4_loudest 104 = .ok (.iadd, 1) := by decide +kernel
theorem dX4_loudest_105 : decode cX4_loudest 105 = .ok (.iaload, 1) := by decide +kernel
theorem dX4_loudest_106 : decode cX4_loudest 106 = .ok (.goto 4, 3) := by decide +kernel
theorem dX4_loudest_109 : decode cX4_loudest 109 = .ok (.iload_n 2, 1) := by decide +kernel
theorem dX4_loudest_110 : decode cX4_loudest 110 = .ok (.istore_n 2, 1) := by decide +kernel
theorem dX4_loudest_111 : decode cX4_loudest 111 = .ok (.iinc 3 1, 3) := by decide +kernel
theorem dX4_loudest_114 : decode cX4_loudest 114 = .ok (.goto (-95), 3) := by decide +kernel
theorem dX4_loudest_117 : decode cX4_loudest 117 = .ok (.iload_n 2, 1) := by decide +kernel
theorem dX4_loudest_118 : decode cX4_loudest 118 = .ok (.ireturn, 1) := by decide +kernel
theorem dX4_calledNow_0 : decode cX4_calledNow 0 = .ok (.iconst 0, 1) := by decide +kernel
theorem dX4_calledNow_1 : decode cX4_calledNow 1 = .ok (.istore_n 1, 1) := by decide +kernel
theorem dX4_calledNow_2 : decode cX4_calledNow 2 = .ok (.iconst 0, 1) := by decide +kernel
theorem dX4_calledNow_3 : decode cX4_calledNow 3 = .ok (.istore_n 2, 1) := by decide +kernel
theorem dX4_calledNow_4 : decode cX4_calledNow 4 = .ok (.iload_n 2, 1) := by decide +kernel
theorem dX4_calledNow_5 : decode cX4_calledNow 5 = .ok (.aload_n 0, 1) := by decide +kernel
theorem dX4_calledNow_6 : decode cX4_calledNow 6 = .ok (.getfield 13, 3) := by decide +kernel
theorem dX4_calledNow_9 : decode cX4_calledNow 9 = .ok (.iconst 2, 1) := by decide +kernel
theorem dX4_calledNow_10 : decode cX4_calledNow 10 = .ok (.iaload, 1) := by decide +kernel
theorem dX4_calledNow_11 : decode cX4_calledNow 11 = .ok (.if_icmp .ge 32, 3) := by decide +kernel
theorem dX4_calledNow_14 : decode cX4_calledNow 14 = .ok (.iload_n 1, 1) := by decide +kernel
theorem dX4_calledNow_15 : decode cX4_calledNow 15 = .ok (.aload_n 0, 1) := by decide +kernel
theorem dX4_calledNow_16 : decode cX4_calledNow 16 = .ok (.getfield 19, 3) := by decide +kernel
theorem dX4_calledNow_19 : decode cX4_calledNow 19 = .ok (.bipush 9, 2) := by decide +kernel
theorem dX4_calledNow_21 : decode cX4_calledNow 21 = .ok (.iload_n 2, 1) := by decide +kernel
theorem dX4_calledNow_22 : decode cX4_calledNow 22 = .ok (.iadd, 1) := by decide +kernel
theorem dX4_calledNow_23 : decode cX4_calledNow 23 = .ok (.iaload, 1) := by decide +kernel
theorem dX4_calledNow_24 : decode cX4_calledNow 24 = .ok (.aload_n 0, 1) := by decide +kernel
theorem dX4_calledNow_25 : decode cX4_calledNow 25 = .ok (.getfield 19, 3) := by decide +kernel
theorem dX4_calledNow_28 : decode cX4_calledNow 28 = .ok (.iconst 1, 1) := by decide +kernel
theorem dX4_calledNow_29 : decode cX4_calledNow 29 = .ok (.iaload, 1) := by decide +kernel
theorem dX4_calledNow_30 : decode cX4_calledNow 30 = .ok (.ishr, 1) := by decide +kernel
theorem dX4_calledNow_31 : decode cX4_calledNow 31 = .ok (.iconst 1, 1) := by decide +kernel
theorem dX4_calledNow_32 : decode cX4_calledNow 32 = .ok (.iand, 1) := by decide +kernel
theorem dX4_calledNow_33 : decode cX4_calledNow 33 = .ok (.iload_n 2, 1) := by decide +kernel
theorem dX4_calledNow_34 : decode cX4_calledNow 34 = .ok (.ishl, 1) := by decide +kernel
theorem dX4_calledNow_35 : decode cX4_calledNow 35 = .ok (.ior, 1) := by decide +kernel
theorem dX4_calledNow_36 : decode cX4_calledNow 36 = .ok (.istore_n 1, 1) := by decide +kernel
theorem dX4_calledNow_37 : decode cX4_calledNow 37 = .ok (.iinc 2 1, 3) := by decide +kernel
theorem dX4_calledNow_40 : decode cX4_calledNow 40 = .ok (.goto (-36), 3) := by decide +kernel
theorem dX4_calledNow_43 : decode cX4_calledNow 43 = .ok (.iload_n 1, 1) := by decide +kernel
theorem dX4_calledNow_44 : decode cX4_calledNow 44 = .ok (.ireturn, 1) := by decide +kernel
theorem dX4_asleep_0 : decode cX4_asleep 0 = .ok (.iconst 0, 1) := by decide +kernel
theorem dX4_asleep_1 : decode cX4_asleep 1 = .ok (.istore_n 2, 1) := by decide +kernel
theorem dX4_asleep_2 : decode cX4_asleep 2 = .ok (.iconst 0, 1) := by decide +kernel
theorem dX4_asleep_3 : decode cX4_asleep 3 = .ok (.istore_n 3, 1) := by decide +kernel
theorem dX4_asleep_4 : decode cX4_asleep 4 = .ok (.iconst 0, 1) := by decide +kernel
theorem dX4_asleep_5 : decode cX4_asleep 5 = .ok (.istore 4, 2) := by decide +kernel
theorem dX4_asleep_7 : decode cX4_asleep 7 = .ok (.iload 4, 2) := by decide +kernel
theorem dX4_asleep_9 : decode cX4_asleep 9 = .ok (.aload_n 0, 1) := by decide +kernel
theorem dX4_asleep_10 : decode cX4_asleep 10 = .ok (.getfield 13, 3) := by decide +kernel
theorem dX4_asleep_13 : decode cX4_asleep 13 = .ok (.iconst 2, 1) := by decide +kernel
theorem dX4_asleep_14 : decode cX4_asleep 14 = .ok (.iaload, 1) := by decide +kernel
theorem dX4_asleep_15 : decode cX4_asleep 15 = .ok (.if_icmp .ge 119, 3) := by decide +kernel
theorem dX4_asleep_18 : decode cX4_asleep 18 = .ok (.aload_n 0, 1) := by decide +kernel
theorem dX4_asleep_19 : decode cX4_asleep 19 = .ok (.getfield 13, 3) := by decide +kernel
theorem dX4_asleep_22 : decode cX4_asleep 22 = .ok (.bipush 14, 2) := by decide +kernel
theorem dX4_asleep_24 : decode cX4_asleep 24 = .ok (.iload 4, 2) := by decide +kernel
theorem dX4_asleep_26 : decode cX4_asleep 26 = .ok (.iadd, 1) := by decide +kernel
theorem dX4_asleep_27 : decode cX4_asleep 27 = .ok (.iaload, 1) := by decide +kernel
theorem dX4_asleep_28 : decode cX4_asleep 28 = .ok (.istore 5, 2) := by decide +kernel
theorem dX4_asleep_30 : decode cX4_asleep 30 = .ok (.iload_n 3, 1) := by decide +kernel
theorem dX4_asleep_31 : decode cX4_asleep 31 = .ok (.iconst 4, 1) := by decide +kernel
theorem dX4_asleep_32 : decode cX4_asleep 32 = .ok (.iload 5, 2) := by decide +kernel
theorem dX4_asleep_34 : decode cX4_asleep 34 = .ok (.imul, 1) := by decide +kernel
theorem dX4_asleep_35 : decode cX4_asleep 35 = .ok (.ishr, 1) := by decide +kernel
theorem dX4_asleep_36 : decode cX4_asleep 36 = .ok (.bipush 15, 2) := by decide +kernel
theorem dX4_asleep_38 : decode cX4_asleep 38 = .ok (.iand, 1) := by decide +kernel
theorem dX4_asleep_39 : decode cX4_asleep 39 = .ok (.istore 6, 2) := by decide +kernel
theorem dX4_asleep_41 : decode cX4_asleep 41 = .ok (.aload_n 0, 1) := by decide +kernel
theorem dX4_asleep_42 : decode cX4_asleep 42 = .ok (.iload 4, 2) := by decide +kernel
theorem dX4_asleep_44 : decode cX4_asleep 44 = .ok (.iload_n 1, 1) := by decide +kernel
theorem dX4_asleep_45 : decode cX4_asleep 45 = .ok (.iload 4, 2) := by decide +kernel
theorem dX4_asleep_47 : decode cX4_asleep 47 = .ok (.ishr, 1) := by decide +kernel
theorem dX4_asleep_48 : decode cX4_asleep 48 = .ok (.iconst 1, 1) := by decide +kernel
theorem dX4_asleep_49 : decode cX4_asleep 49 = .ok (.iand, 1) := by decide +kernel
theorem dX4_asleep_50 : decode cX4_asleep 50 = .ok (.iconst 1, 1) := by decide +kernel
theorem dX4_asleep_51 : decode cX4_asleep 51 = .ok (.if_icmp .ne 7, 3) := by decide +kernel
theorem dX4_asleep_54 : decode cX4_asleep 54 = .ok (.iconst 1, 1) := by decide +kernel
theorem dX4_asleep_55 : decode cX4_asleep 55 = .ok (.goto 4, 3) := by decide +kernel
theorem dX4_asleep_58 : decode cX4_asleep 58 = .ok (.iconst 0, 1) := by decide +kernel
theorem dX4_asleep_59 : decode cX4_asleep 59 = .ok (.invokevirtual 148, 3) := by decide +kernel
theorem dX4_asleep_62 : decode cX4_asleep 62 = .ok (.ifCond .eq 66, 3) := by decide +kernel
theorem dX4_asleep_65 : decode cX4_asleep 65 = .ok (.iload 6, 2) := by decide +kernel
theorem dX4_asleep_67 : decode cX4_asleep 67 = .ok (.aload_n 0, 1) := by decide +kernel
theorem dX4_asleep_68 : decode cX4_asleep 68 = .ok (.getfield 13, 3) := by decide +kernel
theorem dX4_asleep_71 : decode cX4_asleep 71 = .ok (.bipush 10, 2) := by decide +kernel
theorem dX4_asleep_73 : decode cX4_asleep 73 = .ok (.iload 5, 2) := by decide +kernel
theorem dX4_asleep_75 : decode cX4_asleep 75 = .ok (.iadd, 1) := by decide +kernel
theorem dX4_asleep_76 : decode cX4_asleep 76 = .ok (.iaload, 1) := by decide +kernel
theorem dX4_asleep_77 : decode cX4_asleep 77 = .ok (.if_icmp .ge 51, 3) := by decide +kernel
theorem dX4_asleep_80 : decode cX4_asleep 80 = .ok (.iload_n 3, 1) := by decide +kernel
theorem dX4_asleep_81 : decode cX4_asleep 81 = .ok (.iconst 1, 1) := by decide +kernel
theorem dX4_asleep_82 : decode cX4_asleep 82 = .ok (.iconst 4, 1) := by decide +kernel
theorem dX4_asleep_83 : decode cX4_asleep 83 = .ok (.iload 5, 2) := by decide +kernel
theorem dX4_asleep_85 : decode cX4_asleep 85 = .ok (.imul, 1) := by decide +kernel
theorem dX4_asleep_86 : decode cX4_asleep 86 = .ok (.ishl, 1) := by decide +kernel
theorem dX4_asleep_87 : decode cX4_asleep 87 = .ok (.iadd, 1) := by decide +kernel
theorem dX4_asleep_88 : decode cX4_asleep 88 = .ok (.istore_n 3, 1) := by decide +kernel
theorem dX4_asleep_89 : decode cX4_asleep 89 = .ok (.iload_n 2, 1) := by decide +kernel
theorem dX4_asleep_90 : decode cX4_asleep 90 = .ok (.iload 4, 2) := by decide +kernel
theorem dX4_asleep_92 : decode cX4_asleep 92 = .ok (.aload_n 0, 1) := by decide +kernel
theorem dX4_asleep_93 : decode cX4_asleep 93 = .ok (.getfield 42, 3) := by decide +kernel
theorem dX4_asleep_96 : decode cX4_asleep 96 = .ok (.if_icmp .eq 29, 3) := by decide +kernel
theorem dX4_asleep_99 : decode cX4_asleep 99 = .ok (.aload_n 0, 1) := by decide +kernel
theorem dX4_asleep_100 : decode cX4_asleep 100 = .ok (.iload 5, 2) := by decide +kernel
theorem dX4_asleep_102 : decode cX4_asleep 102 = .ok (.invokevirtual 152, 3) := by decide +kernel
theorem dX4_asleep_105 : decode cX4_asleep 105 = .ok (.aload_n 0, 1) := by decide +kernel
theorem dX4_asleep_106 : decode cX4_asleep 106 = .ok (.getfield 13, 3) := by decide +kernel
theorem dX4_asleep_109 : decode cX4_asleep 109 = .ok (.bipush 32, 2) := by decide +kernel
theorem dX4_asleep_111 : decode cX4_asleep 111 = .ok (.iload 4, 2) := by decide +kernel
theorem dX4_asleep_113 : decode cX4_asleep 113 = .ok (.iadd, 1) := by decide +kernel
theorem dX4_asleep_114 : decode cX4_asleep 114 = .ok (.iaload, 1) := by decide +kernel
theorem dX4_asleep_115 : decode cX4_asleep 115 = .ok (.if_icmp .gt 10, 3) := by decide +kernel
theorem dX4_asleep_118 : decode cX4_asleep 118 = .ok (.iconst 1, 1) := by decide +kernel
theorem dX4_asleep_119 : decode cX4_asleep 119 = .ok (.iload 4, 2) := by decide +kernel
theorem dX4_asleep_121 : decode cX4_asleep 121 = .ok (.ishl, 1) := by decide +kernel
theorem dX4_asleep_122 : decode cX4_asleep 122 = .ok (.goto 4, 3) := by decide +kernel
theorem dX4_asleep_125 : decode cX4_asleep 125 = .ok (.iconst 0, 1) := by decide +kernel
theorem dX4_asleep_126 : decode cX4_asleep 126 = .ok (.ior, 1) := by decide +kernel
theorem dX4_asleep_127 : decode cX4_asleep 127 = .ok (.istore_n 2, 1) := by decide +kernel
theorem dX4_asleep_128 : decode cX4_asleep 128 = .ok (.iinc 4 1, 3) := by decide +kernel
theorem dX4_asleep_131 : decode cX4_asleep 131 = .ok (.goto (-124), 3) := by decide +kernel
theorem dX4_asleep_134 : decode cX4_asleep 134 = .ok (.iload_n 2, 1) := by decide +kernel
theorem dX4_asleep_135 : decode cX4_asleep 135 = .ok (.ireturn, 1) := by decide +kernel
theorem dX4_goes_0 : decode cX4_goes 0 = .ok (.iconst 0, 1) := by decide +kernel
theorem dX4_goes_1 : decode cX4_goes 1 = .ok (.istore_n 2, 1) := by decide +kernel
theorem dX4_goes_2 : decode cX4_goes 2 = .ok (.iload_n 2, 1) := by decide +kernel
theorem dX4_goes_3 : decode cX4_goes 3 = .ok (.aload_n 0, 1) := by decide +kernel
theorem dX4_goes_4 : decode cX4_goes 4 = .ok (.getfield 13, 3) := by decide +kernel
theorem dX4_goes_7 : decode cX4_goes 7 = .ok (.iconst 2, 1) := by decide +kernel
theorem dX4_goes_8 : decode cX4_goes 8 = .ok (.iaload, 1) := by decide +kernel
theorem dX4_goes_9 : decode cX4_goes 9 = .ok (.if_icmp .ge 97, 3) := by decide +kernel
theorem dX4_goes_12 : decode cX4_goes 12 = .ok (.iload_n 1, 1) := by decide +kernel
theorem dX4_goes_13 : decode cX4_goes 13 = .ok (.iload_n 2, 1) := by decide +kernel
theorem dX4_goes_14 : decode cX4_goes 14 = .ok (.ishr, 1) := by decide +kernel
theorem dX4_goes_15 : decode cX4_goes 15 = .ok (.iconst 1, 1) := by decide +kernel
theorem dX4_goes_16 : decode cX4_goes 16 = .ok (.iand, 1) := by decide +kernel
theorem dX4_goes_17 : decode cX4_goes 17 = .ok (.iconst 1, 1) := by decide +kernel
theorem dX4_goes_18 : decode cX4_goes 18 = .ok (.if_icmp .ne 7, 3) := by decide +kernel
theorem dX4_goes_21 : decode cX4_goes 21 = .ok (.iconst 1, 1) := by decide +kernel
theorem dX4_goes_22 : decode cX4_goes 22 = .ok (.goto 4, 3) := by decide +kernel
theorem dX4_goes_25 : decode cX4_goes 25 = .ok (.iconst 0, 1) := by decide +kernel
theorem dX4_goes_26 : decode cX4_goes 26 = .ok (.istore_n 3, 1) := by decide +kernel
theorem dX4_goes_27 : decode cX4_goes 27 = .ok (.aload_n 0, 1) := by decide +kernel
theorem dX4_goes_28 : decode cX4_goes 28 = .ok (.getfield 19, 3) := by decide +kernel
theorem dX4_goes_31 : decode cX4_goes 31 = .ok (.iconst 3, 1) := by decide +kernel
theorem dX4_goes_32 : decode cX4_goes 32 = .ok (.iload_n 2, 1) := by decide +kernel
theorem dX4_goes_33 : decode cX4_goes 33 = .ok (.iadd, 1) := by decide +kernel
theorem dX4_goes_34 : decode cX4_goes 34 = .ok (.iaload, 1) := by decide +kernel
theorem dX4_goes_35 : decode cX4_goes 35 = .ok (.iload_n 3, 1) := by decide +kernel
theorem dX4_goes_36 : decode cX4_goes 36 = .ok (.ifCond .eq 8, 3) := by decide +kernel
theorem dX4_goes_39 : decode cX4_goes 39 = .ok (.bipush (-2), 2) := by decide +kernel
theorem dX4_goes_41 : decode cX4_goes 41 = .ok (.goto 4, 3) := by decide +kernel
theorem dX4_goes_44 : decode cX4_goes 44 = .ok (.iconst 1, 1) := by decide +kernel
theorem dX4_goes_45 : decode cX4_goes 45 = .ok (.iadd, 1) := by decide +kernel
theorem dX4_goes_46 : decode cX4_goes 46 = .ok (.istore 4, 2) := by decide +kernel
theorem dX4_goes_48 : decode cX4_goes 48 = .ok (.aload_n 0, 1) := by decide +kernel
theorem dX4_goes_49 : decode cX4_goes 49 = .ok (.getfield 19, 3) := by decide +kernel
theorem dX4_goes_52 : decode cX4_goes 52 = .ok (.iconst 3, 1) := by decide +kernel
theorem dX4_goes_53 : decode cX4_goes 53 = .ok (.iload_n 2, 1) := by decide +kernel
theorem dX4_goes_54 : decode cX4_goes 54 = .ok (.iadd, 1) := by decide +kernel
theorem dX4_goes_55 : decode cX4_goes 55 = .ok (.iload 4, 2) := by decide +kernel
theorem dX4_goes_57 : decode cX4_goes 57 = .ok (.ifCond .ge 7, 3) := by decide +kernel
theorem dX4_goes_60 : decode cX4_goes 60 = .ok (.iconst 0, 1) := by decide +kernel
theorem dX4_goes_61 : decode cX4_goes 61 = .ok (.goto 17, 3) := by decide +kernel
theorem dX4_goes_64 : decode cX4_goes 64 = .ok (.iload 4, 2) := by decide +kernel
theorem dX4_goes_66 : decode cX4_goes 66 = .ok (.bipush 20, 2) := by decide +kernel
theorem dX4_goes_68 : decode cX4_goes 68 = .ok (.if_icmp .le 8, 3) := by decide +kernel
theorem dX4_goes_71 : decode cX4_goes 71 = .ok (.bipush 20, 2) := by decide +kernel
theorem dX4_goes_73 : decode cX4_goes 73 = .ok (.goto 5, 3) := by decide +kernel
theorem dX4_goes_76 : decode cX4_goes 76 = .ok (.iload 4, 2) := by decide +kernel
theorem dX4_goes_78 : decode cX4_goes 78 = .ok (.iastore, 1) := by decide +kernel
theorem dX4_goes_79 : decode cX4_goes 79 = .ok (.aload_n 0, 1) := by decide +kernel
theorem dX4_goes_80 : decode cX4_goes 80 = .ok (.getfield 19, 3) := by decide +kernel
theorem dX4_goes_83 : decode cX4_goes 83 = .ok (.bipush 15, 2) := by decide +kernel
theorem dX4_goes_85 : decode cX4_goes 85 = .ok (.iload_n 2, 1) := by decide +kernel
theorem dX4_goes_86 : decode cX4_goes 86 = .ok (.iadd, 1) := by decide +kernel
theorem dX4_goes_87 : decode cX4_goes 87 = .ok (.dup2, 1) := by decide +kernel
theorem dX4_goes_88 : decode cX4_goes 88 = .ok (.iaload, 1) := by decide +kernel
theorem dX4_goes_89 : decode cX4_goes 89 = .ok (.iload_n 3, 1) := by decide +kernel
theorem dX4_goes_90 : decode cX4_goes 90 = .ok (.ifCond .eq 7, 3) := by decide +kernel
theorem dX4_goes_93 : decode cX4_goes 93 = .ok (.iconst 1, 1) := by decide +kernel
theorem dX4_goes_94 : decode cX4_goes 94 = .ok (.goto 4, 3) := by decide +kernel
theorem dX4_goes_97 : decode cX4_goes 97 = .ok (.iconst 0, 1) := by decide +kernel
theorem dX4_goes_98 : decode cX4_goes 98 = .ok (.iadd, 1) := by decide +kernel
theorem dX4_goes_99 : decode cX4_goes 99 = .ok (.iastore, 1) := by decide +kernel
theorem dX4_goes_100 : decode cX4_goes 100 = .ok (.iinc 2 1, 3) := by decide +kernel
theorem dX4_goes_103 : decode cX4_goes 103 = .ok (.goto (-101), 3) := by decide +kernel
theorem dX4_goes_106 : decode cX4_goes 106 = .ok (.iload_n 1, 1) := by decide +kernel
theorem dX4_goes_107 : decode cX4_goes 107 = .ok (.invokestatic 155, 3) := by decide +kernel
theorem dX4_goes_110 : decode cX4_goes 110 = .ok (.aload_n 0, 1) := by decide +kernel
theorem dX4_goes_111 : decode cX4_goes 111 = .ok (.getfield 13, 3) := by decide +kernel
theorem dX4_goes_114 : decode cX4_goes 114 = .ok (.iconst 1, 1) := by decide +kernel
theorem dX4_goes_115 : decode cX4_goes 115 = .ok (.iaload, 1) := by decide +kernel
theorem dX4_goes_116 : decode cX4_goes 116 = .ok (.if_icmp .ge 7, 3) := by decide +kernel
theorem dX4_goes_119 : decode cX4_goes 119 = .ok (.iconst 1, 1) := by decide +kernel
theorem dX4_goes_120 : decode cX4_goes 120 = .ok (.goto 4, 3) := by decide +kernel
theorem dX4_goes_123 : decode cX4_goes 123 = .ok (.iconst 0, 1) := by decide +kernel
theorem dX4_goes_124 : decode cX4_goes 124 = .ok (.istore_n 2, 1) := by decide +kernel
theorem dX4_goes_125 : decode cX4_goes 125 = .ok (.aload_n 0, 1) := by decide +kernel
theorem dX4_goes_126 : decode cX4_goes 126 = .ok (.getfield 19, 3) := by decide +kernel
theorem dX4_goes_129 : decode cX4_goes 129 = .ok (.iconst 2, 1) := by decide +kernel
theorem dX4_goes_130 : decode cX4_goes 130 = .ok (.dup2, 1) := by decide +kernel
theorem dX4_goes_131 : decode cX4_goes 131 = .ok (.iaload, 1) := by decide +kernel
theorem dX4_goes_132 : decode cX4_goes 132 = .ok (.iload_n 2, 1) := by decide +kernel
theorem dX4_goes_133 : decode cX4_goes 133 = .ok (.ifCond .eq 7, 3) := by decide +kernel
theorem dX4_goes_136 : decode cX4_goes 136 = .ok (.iconst 1, 1) := by decide +kernel
theorem dX4_goes_137 : decode cX4_goes 137 = .ok (.goto 4, 3) := by decide +kernel
theorem dX4_goes_140 : decode cX4_goes 140 = .ok (.iconst 0, 1) := by decide +kernel
theorem dX4_goes_141 : decode cX4_goes 141 = .ok (.iadd, 1) := by decide +kernel
theorem dX4_goes_142 : decode cX4_goes 142 = .ok (.iastore, 1) := by decide +kernel
theorem dX4_goes_143 : decode cX4_goes 143 = .ok (.aload_n 0, 1) := by decide +kernel
theorem dX4_goes_144 : decode cX4_goes 144 = .ok (.getfield 19, 3) := by decide +kernel
theorem dX4_goes_147 : decode cX4_goes 147 = .ok (.iconst 1, 1) := by decide +kernel
theorem dX4_goes_148 : decode cX4_goes 148 = .ok (.dup2, 1) := by decide +kernel
theorem dX4_goes_149 : decode cX4_goes 149 = .ok (.iaload, 1) := by decide +kernel
theorem dX4_goes_150 : decode cX4_goes 150 = .ok (.iconst 1, 1) := by decide +kernel
theorem dX4_goes_151 : decode cX4_goes 151 = .ok (.iadd, 1) := by decide +kernel
theorem dX4_goes_152 : decode cX4_goes 152 = .ok (.iastore, 1) := by decide +kernel
theorem dX4_goes_153 : decode cX4_goes 153 = .ok (.aload_n 0, 1) := by decide +kernel
theorem dX4_goes_154 : decode cX4_goes 154 = .ok (.getfield 19, 3) := by decide +kernel
theorem dX4_goes_157 : decode cX4_goes 157 = .ok (.iconst 1, 1) := by decide +kernel
theorem dX4_goes_158 : decode cX4_goes 158 = .ok (.iaload, 1) := by decide +kernel
theorem dX4_goes_159 : decode cX4_goes 159 = .ok (.bipush 8, 2) := by decide +kernel
theorem dX4_goes_161 : decode cX4_goes 161 = .ok (.if_icmp .ne 20, 3) := by decide +kernel
theorem dX4_goes_164 : decode cX4_goes 164 = .ok (.aload_n 0, 1) := by decide +kernel
theorem dX4_goes_165 : decode cX4_goes 165 = .ok (.getfield 19, 3) := by decide +kernel
theorem dX4_goes_168 : decode cX4_goes 168 = .ok (.iconst 1, 1) := by decide +kernel
theorem dX4_goes_169 : decode cX4_goes 169 = .ok (.iconst 0, 1) := by decide +kernel
theorem dX4_goes_170 : decode cX4_goes 170 = .ok (.iastore, 1) := by decide +kernel
theorem dX4_goes_171 : decode cX4_goes 171 = .ok (.aload_n 0, 1) := by decide +kernel
theorem dX4_goes_172 : decode cX4_goes 172 = .ok (.getfield 19, 3) := by decide +kernel
theorem dX4_goes_175 : decode cX4_goes 175 = .ok (.iconst 0, 1) := by decide +kernel
theorem dX4_goes_176 : decode cX4_goes 176 = .ok (.dup2, 1) := by decide +kernel
theorem dX4_goes_177 : decode cX4_goes 177 = .ok (.iaload, 1) := by decide +kernel
theorem dX4_goes_178 : decode cX4_goes 178 = .ok (.iconst 1, 1) := by decide +kernel
theorem dX4_goes_179 : decode cX4_goes 179 = .ok (.iadd, 1) := by decide +kernel
theorem dX4_goes_180 : decode cX4_goes 180 = .ok (.iastore, 1) := by decide +kernel
theorem dX4_goes_181 : decode cX4_goes 181 = .ok (.iload_n 2, 1) := by decide +kernel
theorem dX4_goes_182 : decode cX4_goes 182 = .ok (.ireturn, 1) := by decide +kernel
theorem dX4_hour_0 : decode cX4_hour 0 = .ok (.aload_n 0, 1) := by decide +kernel
theorem dX4_hour_1 : decode cX4_hour 1 = .ok (.getfield 19, 3) := by decide +kernel
theorem dX4_hour_4 : decode cX4_hour 4 = .ok (.iconst 0, 1) := by decide +kernel
theorem dX4_hour_5 : decode cX4_hour 5 = .ok (.iaload, 1) := by decide +kernel
theorem dX4_hour_6 : decode cX4_hour 6 = .ok (.bipush 99, 2) := by decide +kernel
theorem dX4_hour_8 : decode cX4_hour 8 = .ok (.if_icmp .ne 6, 3) := by decide +kernel
theorem dX4_hour_11 : decode cX4_hour 11 = .ok (.bipush (-2), 2) := by decide +kernel
theorem dX4_hour_13 : decode cX4_hour 13 = .ok (.ireturn, 1) := by decide +kernel
theorem dX4_hour_14 : decode cX4_hour 14 = .ok (.aload_n 0, 1) := by decide +kernel
theorem dX4_hour_15 : decode cX4_hour 15 = .ok (.invokevirtual 142, 3) := by decide +kernel
theorem dX4_hour_18 : decode cX4_hour 18 = .ok (.aload_n 0, 1) := by decide +kernel
theorem dX4_hour_19 : decode cX4_hour 19 = .ok (.aload_n 0, 1) := by decide +kernel
theorem dX4_hour_20 : decode cX4_hour 20 = .ok (.invokevirtual 158, 3) := by decide +kernel
theorem dX4_hour_23 : decode cX4_hour 23 = .ok (.invokevirtual 162, 3) := by decide +kernel
theorem dX4_hour_26 : decode cX4_hour 26 = .ok (.istore_n 1, 1) := by decide +kernel
theorem dX4_hour_27 : decode cX4_hour 27 = .ok (.aload_n 0, 1) := by decide +kernel
theorem dX4_hour_28 : decode cX4_hour 28 = .ok (.iload_n 1, 1) := by decide +kernel
theorem dX4_hour_29 : decode cX4_hour 29 = .ok (.invokevirtual 165, 3) := by decide +kernel
theorem dX4_hour_32 : decode cX4_hour 32 = .ok (.pop, 1) := by decide +kernel
theorem dX4_hour_33 : decode cX4_hour 33 = .ok (.iload_n 1, 1) := by decide +kernel
theorem dX4_hour_34 : decode cX4_hour 34 = .ok (.ireturn, 1) := by decide +kernel
theorem dX4_undo_0 : decode cX4_undo 0 = .ok (.aload_n 0, 1) := by decide +kernel
theorem dX4_undo_1 : decode cX4_undo 1 = .ok (.getfield 127, 3) := by decide +kernel
theorem dX4_undo_4 : decode cX4_undo 4 = .ok (.ifCond .ne 6, 3) := by decide +kernel
theorem dX4_undo_7 : decode cX4_undo 7 = .ok (.bipush (-2), 2) := by decide +kernel
theorem dX4_undo_9 : decode cX4_undo 9 = .ok (.ireturn, 1) := by decide +kernel
theorem dX4_undo_10 : decode cX4_undo 10 = .ok (.aload_n 0, 1) := by decide +kernel
theorem dX4_undo_11 : decode cX4_undo 11 = .ok (.dup, 1) := by decide +kernel
theorem dX4_undo_12 : decode cX4_undo 12 = .ok (.getfield 127, 3) := by decide +kernel
theorem dX4_undo_15 : decode cX4_undo 15 = .ok (.iconst 1, 1) := by decide +kernel
theorem dX4_undo_16 : decode cX4_undo 16 = .ok (.isub, 1) := by decide +kernel
theorem dX4_undo_17 : decode cX4_undo 17 = .ok (.putfield 127, 3) := by decide +kernel
theorem dX4_undo_20 : decode cX4_undo 20 = .ok (.iconst 0, 1) := by decide +kernel
theorem dX4_undo_21 : decode cX4_undo 21 = .ok (.istore_n 1, 1) := by decide +kernel
theorem dX4_undo_22 : decode cX4_undo 22 = .ok (.iload_n 1, 1) := by decide +kernel
theorem dX4_undo_23 : decode cX4_undo 23 = .ok (.bipush 21, 2) := by decide +kernel
theorem dX4_undo_25 : decode cX4_undo 25 = .ok (.if_icmp .ge 29, 3) := by decide +kernel
theorem dX4_undo_28 : decode cX4_undo 28 = .ok (.aload_n 0, 1) := by decide +kernel
theorem dX4_undo_29 : decode cX4_undo 29 = .ok (.getfield 19, 3) := by decide +kernel
theorem dX4_undo_32 : decode cX4_undo 32 = .ok (.iload_n 1, 1) := by decide +kernel
theorem dX4_undo_33 : decode cX4_undo 33 = .ok (.aload_n 0, 1) := by decide +kernel
theorem dX4_undo_34 : decode cX4_undo 34 = .ok (.getfield 22, 3) := by decide +kernel
theorem dX4_undo_37 : decode cX4_undo 37 = .ok (.bipush 21, 2) := by decide +kernel
theorem dX4_undo_39 : decode cX4_undo 39 = .ok (.aload_n 0, 1) := by decide +kernel
theorem dX4_undo_40 : decode cX4_undo 40 = .ok (.getfield 127, 3) := by decide +kernel
theorem dX4_undo_43 : decode cX4_undo 43 = .ok (.imul, 1) := by decide +kernel
theorem dX4_undo_44 : decode cX4_undo 44 = .ok (.iload_n 1, 1) := by decide +kernel
theorem dX4_undo_45 : decode cX4_undo 45 = .ok (.iadd, 1) := by decide +kernel
theorem dX4_undo_46 : decode cX4_undo 46 = .ok (.iaload, 1) := by decide +kernel
theorem dX4_undo_47 : decode cX4_undo 47 = .ok (.iastore, 1) := by decide +kernel
theorem dX4_undo_48 : decode cX4_undo 48 = .ok (.iinc 1 1, 3) := by decide +kernel
theorem dX4_undo_51 : decode cX4_undo 51 = .ok (.goto (-29), 3) := by decide +kernel
theorem dX4_undo_54 : decode cX4_undo 54 = .ok (.aload_n 0, 1) := by decide +kernel
theorem dX4_undo_55 : decode cX4_undo 55 = .ok (.getfield 127, 3) := by decide +kernel
theorem dX4_undo_58 : decode cX4_undo 58 = .ok (.ireturn, 1) := by decide +kernel
theorem dX4_holds_0 : decode cX4_holds 0 = .ok (.iconst 0, 1) := by decide +kernel
theorem dX4_holds_1 : decode cX4_holds 1 = .ok (.istore_n 1, 1) := by decide +kernel
theorem dX4_holds_2 : decode cX4_holds 2 = .ok (.iload_n 1, 1) := by decide +kernel
theorem dX4_holds_3 : decode cX4_holds 3 = .ok (.bipush 21, 2) := by decide +kernel
theorem dX4_holds_5 : decode cX4_holds 5 = .ok (.if_icmp .ge 21, 3) := by decide +kernel
theorem dX4_holds_8 : decode cX4_holds 8 = .ok (.aload_n 0, 1) := by decide +kernel
theorem dX4_holds_9 : decode cX4_holds 9 = .ok (.getfield 48, 3) := by decide +kernel
theorem dX4_holds_12 : decode cX4_holds 12 = .ok (.iload_n 1, 1) := by decide +kernel
theorem dX4_holds_13 : decode cX4_holds 13 = .ok (.aload_n 0, 1) := by decide +kernel
theorem dX4_holds_14 : decode cX4_holds 14 = .ok (.getfield 19, 3) := by decide +kernel
theorem dX4_holds_17 : decode cX4_holds 17 = .ok (.iload_n 1, 1) := by decide +kernel
theorem dX4_holds_18 : decode cX4_holds 18 = .ok (.iaload, 1) := by decide +kernel
theorem dX4_holds_19 : decode cX4_holds 19 = .ok (.iastore, 1) := by decide +kernel
theorem dX4_holds_20 : decode cX4_holds 20 = .ok (.iinc 1 1, 3) := by decide +kernel
theorem dX4_holds_23 : decode cX4_holds 23 = .ok (.goto (-21), 3) := by decide +kernel
theorem dX4_holds_26 : decode cX4_holds 26 = .ok (.return_, 1) := by decide +kernel
theorem dX4_lets_0 : decode cX4_lets 0 = .ok (.iconst 0, 1) := by decide +kernel
theorem dX4_lets_1 : decode cX4_lets 1 = .ok (.istore_n 1, 1) := by decide +kernel
theorem dX4_lets_2 : decode cX4_lets 2 = .ok (.iload_n 1, 1) := by decide +kernel
theorem dX4_lets_3 : decode cX4_lets 3 = .ok (.bipush 21, 2) := by decide +kernel
theorem dX4_lets_5 : decode cX4_lets 5 = .ok (.if_icmp .ge 21, 3) := by decide +kernel
theorem dX4_lets_8 : decode cX4_lets 8 = .ok (.aload_n 0, 1) := by decide +kernel
theorem dX4_lets_9 : decode cX4_lets 9 = .ok (.getfield 19, 3) := by decide +kernel
theorem dX4_lets_12 : decode cX4_lets 12 = .ok (.iload_n 1, 1) := by decide +kernel
theorem dX4_lets_13 : decode cX4_lets 13 = .ok (.aload_n 0, 1) := by decide +kernel
theorem dX4_lets_14 : decode cX4_lets 14 = .ok (.getfield 48, 3) := by decide +kernel
theorem dX4_lets_17 : decode cX4_lets 17 = .ok (.iload_n 1, 1) := by decide +kernel
theorem dX4_lets_18 : decode cX4_lets 18 = .ok (.iaload, 1) := by decide +kernel
theorem dX4_lets_19 : decode cX4_lets 19 = .ok (.iastore, 1) := by decide +kernel
theorem dX4_lets_20 : decode cX4_lets 20 = .ok (.iinc 1 1, 3) := by decide +kernel
theorem dX4_lets_23 : decode cX4_lets 23 = .ok (.goto (-21), 3) := by decide +kernel
theorem dX4_lets_26 : decode cX4_lets 26 = .ok (.return_, 1) := by decide +kernel
theorem dX4_asleepIn_0 : decode cX4_asleepIn 0 = .ok (.iload_n 1, 1) := by decide +kernel
theorem dX4_asleepIn_1 : decode cX4_asleepIn 1 = .ok (.iconst 0, 1) := by decide +kernel
theorem dX4_asleepIn_2 : decode cX4_asleepIn 2 = .ok (.bipush 80, 2) := by decide +kernel
theorem dX4_asleepIn_4 : decode cX4_asleepIn 4 = .ok (.invokestatic 67, 3) := by decide +kernel
theorem dX4_asleepIn_7 : decode cX4_asleepIn 7 = .ok (.ifCond .ne 5, 3) := by decide +kernel
theorem dX4_asleepIn_10 : decode cX4_asleepIn 10 = .ok (.iconst (-1), 1) := by decide +kernel
theorem dX4_asleepIn_11 : decode cX4_asleepIn 11 = .ok (.ireturn, 1) := by decide +kernel
theorem dX4_asleepIn_12 : decode cX4_asleepIn 12 = .ok (.aload_n 0, 1) := by decide +kernel
theorem dX4_asleepIn_13 : decode cX4_asleepIn 13 = .ok (.invokevirtual 168, 3) := by decide +kernel
theorem dX4_asleepIn_16 : decode cX4_asleepIn 16 = .ok (.iconst 0, 1) := by decide +kernel
theorem dX4_asleepIn_17 : decode cX4_asleepIn 17 = .ok (.istore_n 2, 1) := by decide +kernel
theorem dX4_asleepIn_18 : decode cX4_asleepIn 18 = .ok (.iload_n 2, 1) := by decide +kernel
theorem dX4_asleepIn_19 : decode cX4_asleepIn 19 = .ok (.iload_n 1, 1) := by decide +kernel
theorem dX4_asleepIn_20 : decode cX4_asleepIn 20 = .ok (.if_icmp .ge 22, 3) := by decide +kernel
theorem dX4_asleepIn_23 : decode cX4_asleepIn 23 = .ok (.aload_n 0, 1) := by decide +kernel
theorem dX4_asleepIn_24 : decode cX4_asleepIn 24 = .ok (.aload_n 0, 1) := by decide +kernel
theorem dX4_asleepIn_25 : decode cX4_asleepIn 25 = .ok (.aload_n 0, 1) := by decide +kernel
theorem dX4_asleepIn_26 : decode cX4_asleepIn 26 = .ok (.invokevirtual 158, 3) := by decide +kernel
theorem dX4_asleepIn_29 : decode cX4_asleepIn 29 = .ok (.invokevirtual 162, 3) := by decide +kernel
theorem dX4_asleepIn_32 : decode cX4_asleepIn 32 = .ok (.invokevirtual 165, 3) := by decide +kernel
theorem dX4_asleepIn_35 : decode cX4_asleepIn 35 = .ok (.pop, 1) := by decide +kernel
theorem dX4_asleepIn_36 : decode cX4_asleepIn 36 = .ok (.iinc 2 1, 3) := by decide +kernel
theorem dX4_asleepIn_39 : decode cX4_asleepIn 39 = .ok (.goto (-21), 3) := by decide +kernel
theorem dX4_asleepIn_42 : decode cX4_asleepIn 42 = .ok (.aload_n 0, 1) := by decide +kernel
theorem dX4_asleepIn_43 : decode cX4_asleepIn 43 = .ok (.aload_n 0, 1) := by decide +kernel
theorem dX4_asleepIn_44 : decode cX4_asleepIn 44 = .ok (.invokevirtual 158, 3) := by decide +kernel
theorem dX4_asleepIn_47 : decode cX4_asleepIn 47 = .ok (.invokevirtual 162, 3) := by decide +kernel
theorem dX4_asleepIn_50 : decode cX4_asleepIn 50 = .ok (.istore_n 2, 1) := by decide +kernel
theorem dX4_asleepIn_51 : decode cX4_asleepIn 51 = .ok (.aload_n 0, 1) := by decide +kernel
theorem dX4_asleepIn_52 : decode cX4_asleepIn 52 = .ok (.invokevirtual 171, 3) := by decide +kernel
theorem dX4_asleepIn_55 : decode cX4_asleepIn 55 = .ok (.iload_n 2, 1) := by decide +kernel
theorem dX4_asleepIn_56 : decode cX4_asleepIn 56 = .ok (.ireturn, 1) := by decide +kernel
theorem dX4_lapseIn_0 : decode cX4_lapseIn 0 = .ok (.aload_n 0, 1) := by decide +kernel
theorem dX4_lapseIn_1 : decode cX4_lapseIn 1 = .ok (.invokevirtual 168, 3) := by decide +kernel
theorem dX4_lapseIn_4 : decode cX4_lapseIn 4 = .ok (.bipush (-9), 2) := by decide +kernel
theorem dX4_lapseIn_6 : decode cX4_lapseIn 6 = .ok (.istore_n 2, 1) := by decide +kernel
theorem dX4_lapseIn_7 : decode cX4_lapseIn 7 = .ok (.iconst 0, 1) := by decide +kernel
theorem dX4_lapseIn_8 : decode cX4_lapseIn 8 = .ok (.istore_n 3, 1) := by decide +kernel
theorem dX4_lapseIn_9 : decode cX4_lapseIn 9 = .ok (.iload_n 3, 1) := by decide +kernel
theorem dX4_lapseIn_10 : decode cX4_lapseIn 10 = .ok (.iload_n 1, 1) := by decide +kernel
theorem dX4_lapseIn_11 : decode cX4_lapseIn 11 = .ok (.if_icmp .ge 36, 3) := by decide +kernel
theorem dX4_lapseIn_14 : decode cX4_lapseIn 14 = .ok (.iload_n 2, 1) := by decide +kernel
theorem dX4_lapseIn_15 : decode cX4_lapseIn 15 = .ok (.bipush (-9), 2) := by decide +kernel
theorem dX4_lapseIn_17 : decode cX4_lapseIn 17 = .ok (.if_icmp .ne 30, 3) := by decide +kernel
theorem dX4_lapseIn_20 : decode cX4_lapseIn 20 = .ok (.aload_n 0, 1) := by decide +kernel
theorem dX4_lapseIn_21 : decode cX4_lapseIn 21 = .ok (.aload_n 0, 1) := by decide +kernel
theorem dX4_lapseIn_22 : decode cX4_lapseIn 22 = .ok (.aload_n 0, 1) := by decide +kernel
theorem dX4_lapseIn_23 : decode cX4_lapseIn 23 = .ok (.invokevirtual 158, 3) := by decide +kernel
theorem dX4_lapseIn_26 : decode cX4_lapseIn 26 = .ok (.invokevirtual 162, 3) := by decide +kernel
theorem dX4_lapseIn_29 : decode cX4_lapseIn 29 = .ok (.invokevirtual 165, 3) := by decide +kernel
theorem dX4_lapseIn_32 : decode cX4_lapseIn 32 = .ok (.ifCond .eq 7, 3) := by decide +kernel
theorem dX4_lapseIn_35 : decode cX4_lapseIn 35 = .ok (.iload_n 3, 1) := by decide +kernel
theorem dX4_lapseIn_36 : decode cX4_lapseIn 36 = .ok (.goto 4, 3) := by decide +kernel
theorem dX4_lapseIn_39 : decode cX4_lapseIn 39 = .ok (.iload_n 2, 1) := by decide +kernel
theorem dX4_lapseIn_40 : decode cX4_lapseIn 40 = .ok (.istore_n 2, 1) := by decide +kernel
theorem dX4_lapseIn_41 : decode cX4_lapseIn 41 = .ok (.iinc 3 1, 3) := by decide +kernel
theorem dX4_lapseIn_44 : decode cX4_lapseIn 44 = .ok (.goto (-35), 3) := by decide +kernel
theorem dX4_lapseIn_47 : decode cX4_lapseIn 47 = .ok (.aload_n 0, 1) := by decide +kernel
theorem dX4_lapseIn_48 : decode cX4_lapseIn 48 = .ok (.invokevirtual 171, 3) := by decide +kernel
theorem dX4_lapseIn_51 : decode cX4_lapseIn 51 = .ok (.iload_n 2, 1) := by decide +kernel
theorem dX4_lapseIn_52 : decode cX4_lapseIn 52 = .ok (.ireturn, 1) := by decide +kernel
theorem dX4_lapse_0 : decode cX4_lapse 0 = .ok (.aload_n 0, 1) := by decide +kernel
theorem dX4_lapse_1 : decode cX4_lapse 1 = .ok (.bipush 81, 2) := by decide +kernel
theorem dX4_lapse_3 : decode cX4_lapse 3 = .ok (.invokevirtual 174, 3) := by decide +kernel
theorem dX4_lapse_6 : decode cX4_lapse 6 = .ok (.ireturn, 1) := by decide +kernel
theorem dX4_puts_0 : decode cX4_puts 0 = .ok (.iconst 0, 1) := by decide +kernel
theorem dX4_puts_1 : decode cX4_puts 1 = .ok (.istore_n 2, 1) := by decide +kernel
theorem dX4_puts_2 : decode cX4_puts 2 = .ok (.iload_n 2, 1) := by decide +kernel
theorem dX4_puts_3 : decode cX4_puts 3 = .ok (.bipush 21, 2) := by decide +kernel
theorem dX4_puts_5 : decode cX4_puts 5 = .ok (.if_icmp .ge 26, 3) := by decide +kernel
theorem dX4_puts_8 : decode cX4_puts 8 = .ok (.aload_n 0, 1) := by decide +kernel
theorem dX4_puts_9 : decode cX4_puts 9 = .ok (.getfield 51, 3) := by decide +kernel
theorem dX4_puts_12 : decode cX4_puts 12 = .ok (.bipush 21, 2) := by decide +kernel
theorem dX4_puts_14 : decode cX4_puts 14 = .ok (.iload_n 1, 1) := by decide +kernel
theorem dX4_puts_15 : decode cX4_puts 15 = .ok (.imul, 1) := by decide +kernel
theorem dX4_puts_16 : decode cX4_puts 16 = .ok (.iload_n 2, 1) := by decide +kernel
theorem dX4_puts_17 : decode cX4_puts 17 = .ok (.iadd, 1) := by decide +kernel
theorem dX4_puts_18 : decode cX4_puts 18 = .ok (.aload_n 0, 1) := by decide +kernel
theorem dX4_puts_19 : decode cX4_puts 19 = .ok (.getfield 19, 3) := by decide +kernel
theorem dX4_puts_22 : decode cX4_puts 22 = .ok (.iload_n 2, 1) := by decide +kernel
theorem dX4_puts_23 : decode cX4_puts 23 = .ok (.iaload, 1) := by decide +kernel
theorem dX4_puts_24 : decode cX4_puts 24 = .ok (.iastore, 1) := by decide +kernel
theorem dX4_puts_25 : decode cX4_puts 25 = .ok (.iinc 2 1, 3) := by decide +kernel
theorem dX4_puts_28 : decode cX4_puts 28 = .ok (.goto (-26), 3) := by decide +kernel
theorem dX4_puts_31 : decode cX4_puts 31 = .ok (.return_, 1) := by decide +kernel
theorem dX4_takes_0 : decode cX4_takes 0 = .ok (.iconst 0, 1) := by decide +kernel
theorem dX4_takes_1 : decode cX4_takes 1 = .ok (.istore_n 2, 1) := by decide +kernel
theorem dX4_takes_2 : decode cX4_takes 2 = .ok (.iload_n 2, 1) := by decide +kernel
theorem dX4_takes_3 : decode cX4_takes 3 = .ok (.bipush 21, 2) := by decide +kernel
theorem dX4_takes_5 : decode cX4_takes 5 = .ok (.if_icmp .ge 26, 3) := by decide +kernel
theorem dX4_takes_8 : decode cX4_takes 8 = .ok (.aload_n 0, 1) := by decide +kernel
theorem dX4_takes_9 : decode cX4_takes 9 = .ok (.getfield 19, 3) := by decide +kernel
theorem dX4_takes_12 : decode cX4_takes 12 = .ok (.iload_n 2, 1) := by decide +kernel
theorem dX4_takes_13 : decode cX4_takes 13 = .ok (.aload_n 0, 1) := by decide +kernel
theorem dX4_takes_14 : decode cX4_takes 14 = .ok (.getfield 51, 3) := by decide +kernel
theorem dX4_takes_17 : decode cX4_takes 17 = .ok (.bipush 21, 2) := by decide +kernel
theorem dX4_takes_19 : decode cX4_takes 19 = .ok (.iload_n 1, 1) := by decide +kernel
theorem dX4_takes_20 : decode cX4_takes 20 = .ok (.imul, 1) := by decide +kernel
theorem dX4_takes_21 : decode cX4_takes 21 = .ok (.iload_n 2, 1) := by decide +kernel
theorem dX4_takes_22 : decode cX4_takes 22 = .ok (.iadd, 1) := by decide +kernel
theorem dX4_takes_23 : decode cX4_takes 23 = .ok (.iaload, 1) := by decide +kernel
theorem dX4_takes_24 : decode cX4_takes 24 = .ok (.iastore, 1) := by decide +kernel
theorem dX4_takes_25 : decode cX4_takes 25 = .ok (.iinc 2 1, 3) := by decide +kernel
theorem dX4_takes_28 : decode cX4_takes 28 = .ok (.goto (-26), 3) := by decide +kernel
theorem dX4_takes_31 : decode cX4_takes 31 = .ok (.return_, 1) := by decide +kernel
theorem dX4_seeks_0 : decode cX4_seeks 0 = .ok (.aload_n 0, 1) := by decide +kernel
theorem dX4_seeks_1 : decode cX4_seeks 1 = .ok (.bipush (-9), 2) := by decide +kernel
theorem dX4_seeks_3 : decode cX4_seeks 3 = .ok (.putfield 177, 3) := by decide +kernel
theorem dX4_seeks_6 : decode cX4_seeks 6 = .ok (.iconst 1, 1) := by decide +kernel
theorem dX4_seeks_7 : decode cX4_seeks 7 = .ok (.aload_n 0, 1) := by decide +kernel
theorem dX4_seeks_8 : decode cX4_seeks 8 = .ok (.getfield 13, 3) := by decide +kernel
theorem dX4_seeks_11 : decode cX4_seeks 11 = .ok (.iconst 2, 1) := by decide +kernel
theorem dX4_seeks_12 : decode cX4_seeks 12 = .ok (.iaload, 1) := by decide +kernel
theorem dX4_seeks_13 : decode cX4_seeks 13 = .ok (.ishl, 1) := by decide +kernel
theorem dX4_seeks_14 : decode cX4_seeks 14 = .ok (.iconst 1, 1) := by decide +kernel
theorem dX4_seeks_15 : decode cX4_seeks 15 = .ok (.isub, 1) := by decide +kernel
theorem dX4_seeks_16 : decode cX4_seeks 16 = .ok (.istore_n 2, 1) := by decide +kernel
theorem dX4_seeks_17 : decode cX4_seeks 17 = .ok (.aload_n 0, 1) := by decide +kernel
theorem dX4_seeks_18 : decode cX4_seeks 18 = .ok (.iconst 0, 1) := by decide +kernel
theorem dX4_seeks_19 : decode cX4_seeks 19 = .ok (.invokevirtual 180, 3) := by decide +kernel
theorem dX4_seeks_22 : decode cX4_seeks 22 = .ok (.iconst 0, 1) := by decide +kernel
theorem dX4_seeks_23 : decode cX4_seeks 23 = .ok (.istore_n 3, 1) := by decide +kernel
theorem dX4_seeks_24 : decode cX4_seeks 24 = .ok (.iconst 0, 1) := by decide +kernel
theorem dX4_seeks_25 : decode cX4_seeks 25 = .ok (.istore 4, 2) := by decide +kernel
theorem dX4_seeks_27 : decode cX4_seeks 27 = .ok (.aload_n 0, 1) := by decide +kernel
theorem dX4_seeks_28 : decode cX4_seeks 28 = .ok (.getfield 54, 3) := by decide +kernel
theorem dX4_seeks_31 : decode cX4_seeks 31 = .ok (.iconst 0, 1) := by decide +kernel
theorem dX4_seeks_32 : decode cX4_seeks 32 = .ok (.iconst (-1), 1) := by decide +kernel
theorem dX4_seeks_33 : decode cX4_seeks 33 = .ok (.iastore, 1) := by decide +kernel
theorem dX4_seeks_34 : decode cX4_seeks 34 = .ok (.iload_n 3, 1) := by decide +kernel
theorem dX4_seeks_35 : decode cX4_seeks 35 = .ok (.ifCond .lt 210, 3) := by decide +kernel
theorem dX4_seeks_38 : decode cX4_seeks 38 = .ok (.iload 4, 2) := by decide +kernel
theorem dX4_seeks_40 : decode cX4_seeks 40 = .ok (.aload_n 0, 1) := by decide +kernel
theorem dX4_seeks_41 : decode cX4_seeks 41 = .ok (.getfield 54, 3) := by decide +kernel
theorem dX4_seeks_44 : decode cX4_seeks 44 = .ok (.iload_n 3, 1) := by decide +kernel
theorem dX4_seeks_45 : decode cX4_seeks 45 = .ok (.iaload, 1) := by decide +kernel
theorem dX4_seeks_46 : decode cX4_seeks 46 = .ok (.ifCond .ge 7, 3) := by decide +kernel
theorem dX4_seeks_49 : decode cX4_seeks 49 = .ok (.iconst 0, 1) := by decide +kernel
theorem dX4_seeks_50 : decode cX4_seeks 50 = .ok (.goto 12, 3) := by decide +kernel
theorem dX4_seeks_53 : decode cX4_seeks 53 = .ok (.aload_n 0, 1) := by decide +kernel
theorem dX4_seeks_54 : decode cX4_seeks 54 = .ok (.getfield 54, 3) := by decide +kernel
theorem dX4_seeks_57 : decode cX4_seeks 57 = .ok (.iload_n 3, 1) := by decide +kernel
theorem dX4_seeks_58 : decode cX4_seeks 58 = .ok (.iaload, 1) := by decide +kernel
theorem dX4_seeks_59 : decode cX4_seeks 59 = .ok (.invokestatic 155, 3) := by decide +kernel
theorem dX4_seeks_62 : decode cX4_seeks 62 = .ok (.isub, 1) := by decide +kernel
theorem dX4_seeks_63 : decode cX4_seeks 63 = .ok (.istore 4, 2) := by decide +kernel
theorem dX4_seeks_65 : decode cX4_seeks 65 = .ok (.aload_n 0, 1) := by decide +kernel
theorem dX4_seeks_66 : decode cX4_seeks 66 = .ok (.getfield 54, 3) := by decide +kernel
theorem dX4_seeks_69 : decode cX4_seeks 69 = .ok (.iload_n 3, 1) := by decide +kernel
theorem dX4_seeks_70 : decode cX4_seeks 70 = .ok (.dup2, 1) := by decide +kernel
theorem dX4_seeks_71 : decode cX4_seeks 71 = .ok (.iaload, 1) := by decide +kernel
theorem dX4_seeks_72 : decode cX4_seeks 72 = .ok (.iconst 1, 1) := by decide +kernel
theorem dX4_seeks_73 : decode cX4_seeks 73 = .ok (.iadd, 1) := by decide +kernel
theorem dX4_seeks_74 : decode cX4_seeks 74 = .ok (.iastore, 1) := by decide +kernel
theorem dX4_seeks_75 : decode cX4_seeks 75 = .ok (.aload_n 0, 1) := by decide +kernel
theorem dX4_seeks_76 : decode cX4_seeks 76 = .ok (.getfield 54, 3) := by decide +kernel
theorem dX4_seeks_79 : decode cX4_seeks 79 = .ok (.iload_n 3, 1) := by decide +kernel
theorem dX4_seeks_80 : decode cX4_seeks 80 = .ok (.iaload, 1) := by decide +kernel
theorem dX4_seeks_81 : decode cX4_seeks 81 = .ok (.iload_n 2, 1) := by decide +kernel
theorem dX4_seeks_82 : decode cX4_seeks 82 = .ok (.if_icmp .le 18, 3) := by decide +kernel
theorem dX4_seeks_85 : decode cX4_seeks 85 = .ok (.iinc 3 (-1), 3) := by decide +kernel
theorem dX4_seeks_88 : decode cX4_seeks 88 = .ok (.iload_n 3, 1) := by decide +kernel
theorem dX4_seeks_89 : decode cX4_seeks 89 = .ok (.ifCond .lt (-55), 3) := by decide +kernel
theorem dX4_seeks_92 : decode cX4_seeks 92 = .ok (.aload_n 0, 1) := by decide +kernel
theorem dX4_seeks_93 : decode cX4_seeks 93 = .ok (.iload_n 3, 1) := by decide +kernel
theorem dX4_seeks_94 : decode cX4_seeks 94 = .ok (.invokevirtual 184, 3) := by decide +kernel
theorem dX4_seeks_97 : decode cX4_seeks 97 = .ok (.goto (-63), 3) := by decide +kernel
theorem dX4_seeks_100 : decode cX4_seeks 100 = .ok (.iload 4, 2) := by decide +kernel
theorem dX4_seeks_102 : decode cX4_seeks 102 = .ok (.aload_n 0, 1) := by decide +kernel
theorem dX4_seeks_103 : decode cX4_seeks 103 = .ok (.getfield 54, 3) := by decide +kernel
theorem dX4_seeks_106 : decode cX4_seeks 106 = .ok (.iload_n 3, 1) := by decide +kernel
theorem dX4_seeks_107 : decode cX4_seeks 107 = .ok (.iaload, 1) := by decide +kernel
theorem dX4_seeks_108 : decode cX4_seeks 108 = .ok (.invokestatic 155, 3) := by decide +kernel
theorem dX4_seeks_111 : decode cX4_seeks 111 = .ok (.iadd, 1) := by decide +kernel
theorem dX4_seeks_112 : decode cX4_seeks 112 = .ok (.istore 4, 2) := by decide +kernel
theorem dX4_seeks_114 : decode cX4_seeks 114 = .ok (.aload_n 0, 1) := by decide +kernel
theorem dX4_seeks_115 : decode cX4_seeks 115 = .ok (.aload_n 0, 1) := by decide +kernel
theorem dX4_seeks_116 : decode cX4_seeks 116 = .ok (.getfield 54, 3) := by decide +kernel
theorem dX4_seeks_119 : decode cX4_seeks 119 = .ok (.iload_n 3, 1) := by decide +kernel
theorem dX4_seeks_120 : decode cX4_seeks 120 = .ok (.iaload, 1) := by decide +kernel
theorem dX4_seeks_121 : decode cX4_seeks 121 = .ok (.invokevirtual 162, 3) := by decide +kernel
theorem dX4_seeks_124 : decode cX4_seeks 124 = .ok (.istore 5, 2) := by decide +kernel
theorem dX4_seeks_126 : decode cX4_seeks 126 = .ok (.iload 5, 2) := by decide +kernel
theorem dX4_seeks_128 : decode cX4_seeks 128 = .ok (.invokestatic 155, 3) := by decide +kernel
theorem dX4_seeks_131 : decode cX4_seeks 131 = .ok (.aload_n 0, 1) := by decide +kernel
theorem dX4_seeks_132 : decode cX4_seeks 132 = .ok (.getfield 13, 3) := by decide +kernel
theorem dX4_seeks_135 : decode cX4_seeks 135 = .ok (.iconst 1, 1) := by decide +kernel
theorem dX4_seeks_136 : decode cX4_seeks 136 = .ok (.iaload, 1) := by decide +kernel
theorem dX4_seeks_137 : decode cX4_seeks 137 = .ok (.if_icmp .lt 25, 3) := by decide +kernel
theorem dX4_seeks_140 : decode cX4_seeks 140 = .ok (.aload_n 0, 1) := by decide +kernel
theorem dX4_seeks_141 : decode cX4_seeks 141 = .ok (.getfield 177, 3) := by decide +kernel
theorem dX4_seeks_144 : decode cX4_seeks 144 = .ok (.bipush (-9), 2) := by decide +kernel
theorem dX4_seeks_146 : decode cX4_seeks 146 = .ok (.if_icmp .eq 12, 3) := by decide +kernel
theorem dX4_seeks_149 : decode cX4_seeks 149 = .ok (.iload 4, 2) := by decide +kernel
theorem dX4_seeks_151 : decode cX4_seeks 151 = .ok (.aload_n 0, 1) := by decide +kernel
theorem dX4_seeks_152 : decode cX4_seeks 152 = .ok (.getfield 177, 3) := by decide +kernel
theorem dX4_seeks_155 : decode cX4_seeks 155 = .ok (.if_icmp .ge 7, 3) := by decide +kernel
theorem dX4_seeks_158 : decode cX4_seeks 158 = .ok (.iconst 1, 1) := by decide +kernel
theorem dX4_seeks_159 : decode cX4_seeks 159 = .ok (.goto 4, 3) := by decide +kernel
theorem dX4_seeks_162 : decode cX4_seeks 162 = .ok (.iconst 0, 1) := by decide +kernel
theorem dX4_seeks_163 : decode cX4_seeks 163 = .ok (.istore 6, 2) := by decide +kernel
theorem dX4_seeks_165 : decode cX4_seeks 165 = .ok (.iload 6, 2) := by decide +kernel
theorem dX4_seeks_167 : decode cX4_seeks 167 = .ok (.ifCond .eq 48, 3) := by decide +kernel
theorem dX4_seeks_170 : decode cX4_seeks 170 = .ok (.iload_n 3, 1) := by decide +kernel
theorem dX4_seeks_171 : decode cX4_seeks 171 = .ok (.iconst 1, 1) := by decide +kernel
theorem dX4_seeks_172 : decode cX4_seeks 172 = .ok (.iadd, 1) := by decide +kernel
theorem dX4_seeks_173 : decode cX4_seeks 173 = .ok (.iload_n 1, 1) := by decide +kernel
theorem dX4_seeks_174 : decode cX4_seeks 174 = .ok (.if_icmp .ne 41, 3) := by decide +kernel
theorem dX4_seeks_177 : decode cX4_seeks 177 = .ok (.aload_n 0, 1) := by decide +kernel
theorem dX4_seeks_178 : decode cX4_seeks 178 = .ok (.iload 4, 2) := by decide +kernel
theorem dX4_seeks_180 : decode cX4_seeks 180 = .ok (.putfield 177, 3) := by decide +kernel
theorem dX4_seeks_183 : decode cX4_seeks 183 = .ok (.iconst 0, 1) := by decide +kernel
theorem dX4_seeks_184 : decode cX4_seeks 184 = .ok (.istore 7, 2) := by decide +kernel
theorem dX4_seeks_186 : decode cX4_seeks 186 = .ok (.iload 7, 2) := by decide +kernel
theorem dX4_seeks_188 : decode cX4_seeks 188 = .ok (.iload_n 1, 1) := by decide +kernel
theorem dX4_seeks_189 : decode cX4_seeks 189 = .ok (.if_icmp .ge 23, 3) := by decide +kernel
theorem dX4_seeks_192 : decode cX4_seeks 192 = .ok (.aload_n 0, 1) := by decide +kernel
theorem dX4_seeks_193 : decode cX4_seeks 193 = .ok (.getfield 57, 3) := by decide +kernel
theorem dX4_seeks_196 : decode cX4_seeks 196 = .ok (.iload 7, 2) := by decide +kernel
theorem dX4_seeks_198 : decode cX4_seeks 198 = .ok (.aload_n 0, 1) := by decide +kernel
theorem dX4_seeks_199 : decode cX4_seeks 199 = .ok (.getfield 54, 3) := by decide +kernel
theorem dX4_seeks_202 : decode cX4_seeks 202 = .ok (.iload 7, 2) := by decide +kernel
theorem dX4_seeks_204 : decode cX4_seeks 204 = .ok (.iaload, 1) := by decide +kernel
theorem dX4_seeks_205 : decode cX4_seeks 205 = .ok (.iastore, 1) := by decide +kernel
theorem dX4_seeks_206 : decode cX4_seeks 206 = .ok (.iinc 7 1, 3) := by decide +kernel
theorem dX4_seeks_209 : decode cX4_seeks 209 = .ok (.goto (-23), 3) := by decide +kernel
theorem dX4_seeks_212 : decode cX4_seeks 212 = .ok (.goto 30, 3) := by decide +kernel
theorem dX4_seeks_215 : decode cX4_seeks 215 = .ok (.iload 6, 2) := by decide +kernel
theorem dX4_seeks_217 : decode cX4_seeks 217 = .ok (.ifCond .eq 25, 3) := by decide +kernel
theorem dX4_seeks_220 : decode cX4_seeks 220 = .ok (.aload_n 0, 1) := by decide +kernel
theorem dX4_seeks_221 : decode cX4_seeks 221 = .ok (.iload 5, 2) := by decide +kernel
theorem dX4_seeks_223 : decode cX4_seeks 223 = .ok (.invokevirtual 165, 3) := by decide +kernel
theorem dX4_seeks_226 : decode cX4_seeks 226 = .ok (.pop, 1) := by decide +kernel
theorem dX4_seeks_227 : decode cX4_seeks 227 = .ok (.iinc 3 1, 3) := by decide +kernel
theorem dX4_seeks_230 : decode cX4_seeks 230 = .ok (.aload_n 0, 1) := by decide +kernel
theorem dX4_seeks_231 : decode cX4_seeks 231 = .ok (.iload_n 3, 1) := by decide +kernel
theorem dX4_seeks_232 : decode cX4_seeks 232 = .ok (.invokevirtual 180, 3) := by decide +kernel
theorem dX4_seeks_235 : decode cX4_seeks 235 = .ok (.aload_n 0, 1) := by decide +kernel
theorem dX4_seeks_236 : decode cX4_seeks 236 = .ok (.getfield 54, 3) := by decide +kernel
theorem dX4_seeks_239 : decode cX4_seeks 239 = .ok (.iload_n 3, 1) := by decide +kernel
theorem dX4_seeks_240 : decode cX4_seeks 240 = .ok (.iconst (-1), 1) := by decide +kernel
theorem dX4_seeks_241 : decode cX4_seeks 241 = .ok (.iastore, 1) := by decide +kernel
theorem dX4_seeks_242 : decode cX4_seeks 242 = .ok (.goto (-208), 3) := by decide +kernel
theorem dX4_seeks_245 : decode cX4_seeks 245 = .ok (.return_, 1) := by decide +kernel
theorem dX4_callUp_0 : decode cX4_callUp 0 = .ok (.iload_n 1, 1) := by decide +kernel
theorem dX4_callUp_1 : decode cX4_callUp 1 = .ok (.iconst 1, 1) := by decide +kernel
theorem dX4_callUp_2 : decode cX4_callUp 2 = .ok (.iconst 3, 1) := by decide +kernel
theorem dX4_callUp_3 : decode cX4_callUp 3 = .ok (.invokestatic 67, 3) := by decide +kernel
theorem dX4_callUp_6 : decode cX4_callUp 6 = .ok (.ifCond .eq 8, 3) := by decide +kernel
theorem dX4_callUp_9 : decode cX4_callUp 9 = .ok (.iload_n 2, 1) := by decide +kernel
theorem dX4_callUp_10 : decode cX4_callUp 10 = .ok (.iconst (-1), 1) := by decide +kernel
theorem dX4_callUp_11 : decode cX4_callUp 11 = .ok (.if_icmp .ge 5, 3) := by decide +kernel
theorem dX4_callUp_14 : decode cX4_callUp 14 = .ok (.iconst (-1), 1) := by decide +kernel
theorem dX4_callUp_15 : decode cX4_callUp 15 = .ok (.ireturn, 1) := by decide +kernel
theorem dX4_callUp_16 : decode cX4_callUp 16 = .ok (.iload_n 2, 1) := by decide +kernel
theorem dX4_callUp_17 : decode cX4_callUp 17 = .ok (.iload_n 1, 1) := by decide +kernel
theorem dX4_callUp_18 : decode cX4_callUp 18 = .ok (.if_icmp .lt 6, 3) := by decide +kernel
theorem dX4_callUp_21 : decode cX4_callUp 21 = .ok (.bipush (-5), 2) := by decide +kernel
theorem dX4_callUp_23 : decode cX4_callUp 23 = .ok (.ireturn, 1) := by decide +kernel
theorem dX4_callUp_24 : decode cX4_callUp 24 = .ok (.aload_n 0, 1) := by decide +kernel
theorem dX4_callUp_25 : decode cX4_callUp 25 = .ok (.iload_n 1, 1) := by decide +kernel
theorem dX4_callUp_26 : decode cX4_callUp 26 = .ok (.invokevirtual 187, 3) := by decide +kernel
theorem dX4_callUp_29 : decode cX4_callUp 29 = .ok (.aload_n 0, 1) := by decide +kernel
theorem dX4_callUp_30 : decode cX4_callUp 30 = .ok (.getfield 177, 3) := by decide +kernel
theorem dX4_callUp_33 : decode cX4_callUp 33 = .ok (.bipush (-9), 2) := by decide +kernel
theorem dX4_callUp_35 : decode cX4_callUp 35 = .ok (.if_icmp .eq 8, 3) := by decide +kernel
theorem dX4_callUp_38 : decode cX4_callUp 38 = .ok (.iload_n 2, 1) := by decide +kernel
theorem dX4_callUp_39 : decode cX4_callUp 39 = .ok (.iconst (-1), 1) := by decide +kernel
theorem dX4_callUp_40 : decode cX4_callUp 40 = .ok (.if_icmp .ne 10, 3) := by decide +kernel
theorem dX4_callUp_43 : decode cX4_callUp 43 = .ok (.aload_n 0, 1) := by decide +kernel
theorem dX4_callUp_44 : decode cX4_callUp 44 = .ok (.getfield 177, 3) := by decide +kernel
theorem dX4_callUp_47 : decode cX4_callUp 47 = .ok (.goto 9, 3) := by decide +kernel
theorem dX4_callUp_50 : decode cX4_callUp 50 = .ok (.aload_n 0, 1) := by decide +kernel
theorem dX4_callUp_51 : decode cX4_callUp 51 = .ok (.getfield 57, 3) := by decide +kernel
theorem dX4_callUp_54 : decode cX4_callUp 54 = .ok (.iload_n 2, 1) := by decide +kernel
theorem dX4_callUp_55 : decode cX4_callUp 55 = .ok (.iaload, 1) := by decide +kernel
theorem dX4_callUp_56 : decode cX4_callUp 56 = .ok (.ireturn, 1) := by decide +kernel
theorem dX4_bears_0 : decode cX4_bears 0 = .ok (.aload_n 0, 1) := by decide +kernel
theorem dX4_bears_1 : decode cX4_bears 1 = .ok (.bipush 8, 2) := by decide +kernel
theorem dX4_bears_3 : decode cX4_bears 3 = .ok (.invokevirtual 174, 3) := by decide +kernel
theorem dX4_bears_6 : decode cX4_bears 6 = .ok (.bipush (-9), 2) := by decide +kernel
theorem dX4_bears_8 : decode cX4_bears 8 = .ok (.if_icmp .eq 5, 3) := by decide +kernel
theorem dX4_bears_11 : decode cX4_bears 11 = .ok (.iconst 0, 1) := by decide +kernel
theorem dX4_bears_12 : decode cX4_bears 12 = .ok (.ireturn, 1) := by decide +kernel
theorem dX4_bears_13 : decode cX4_bears 13 = .ok (.iconst 0, 1) := by decide +kernel
theorem dX4_bears_14 : decode cX4_bears 14 = .ok (.istore_n 1, 1) := by decide +kernel
theorem dX4_bears_15 : decode cX4_bears 15 = .ok (.iconst 0, 1) := by decide +kernel
theorem dX4_bears_16 : decode cX4_bears 16 = .ok (.istore_n 2, 1) := by decide +kernel
theorem dX4_bears_17 : decode cX4_bears 17 = .ok (.iload_n 2, 1) := by decide +kernel
theorem dX4_bears_18 : decode cX4_bears 18 = .ok (.aload_n 0, 1) := by decide +kernel
theorem dX4_bears_19 : decode cX4_bears 19 = .ok (.getfield 13, 3) := by decide +kernel
theorem dX4_bears_22 : decode cX4_bears 22 = .ok (.iconst 2, 1) := by decide +kernel
theorem dX4_bears_23 : decode cX4_bears 23 = .ok (.iaload, 1) := by decide +kernel
theorem dX4_bears_24 : decode cX4_bears 24 = .ok (.if_icmp .ge 35, 3) := by decide +kernel
theorem dX4_bears_27 : decode cX4_bears 27 = .ok (.aload_n 0, 1) := by decide +kernel
theorem dX4_bears_28 : decode cX4_bears 28 = .ok (.iload_n 2, 1) := by decide +kernel
theorem dX4_bears_29 : decode cX4_bears 29 = .ok (.putfield 39, 3) := by decide +kernel
theorem dX4_bears_32 : decode cX4_bears 32 = .ok (.iload_n 1, 1) := by decide +kernel
theorem dX4_bears_33 : decode cX4_bears 33 = .ok (.aload_n 0, 1) := by decide +kernel
theorem dX4_bears_34 : decode cX4_bears 34 = .ok (.bipush 8, 2) := by decide +kernel
theorem dX4_bears_36 : decode cX4_bears 36 = .ok (.invokevirtual 174, 3) := by decide +kernel
theorem dX4_bears_39 : decode cX4_bears 39 = .ok (.bipush (-9), 2) := by decide +kernel
theorem dX4_bears_41 : decode cX4_bears 41 = .ok (.if_icmp .ne 9, 3) := by decide +kernel
theorem dX4_bears_44 : decode cX4_bears 44 = .ok (.iconst 1, 1) := by decide +kernel
theorem dX4_bears_45 : decode cX4_bears 45 = .ok (.iload_n 2, 1) := by decide +kernel
theorem dX4_bears_46 : decode cX4_bears 46 = .ok (.ishl, 1) := by decide +kernel
theorem dX4_bears_47 : decode cX4_bears 47 = .ok (.goto 4, 3) := by decide +kernel
theorem dX4_bears_50 : decode cX4_bears 50 = .ok (.iconst 0, 1) := by decide +kernel
theorem dX4_bears_51 : decode cX4_bears 51 = .ok (.ior, 1) := by decide +kernel
theorem dX4_bears_52 : decode cX4_bears 52 = .ok (.istore_n 1, 1) := by decide +kernel
theorem dX4_bears_53 : decode cX4_bears 53 = .ok (.iinc 2 1, 3) := by decide +kernel
theorem dX4_bears_56 : decode cX4_bears 56 = .ok (.goto (-39), 3) := by decide +kernel
theorem dX4_bears_59 : decode cX4_bears 59 = .ok (.aload_n 0, 1) := by decide +kernel
theorem dX4_bears_60 : decode cX4_bears 60 = .ok (.bipush (-9), 2) := by decide +kernel
theorem dX4_bears_62 : decode cX4_bears 62 = .ok (.putfield 39, 3) := by decide +kernel
theorem dX4_bears_65 : decode cX4_bears 65 = .ok (.iload_n 1, 1) := by decide +kernel
theorem dX4_bears_66 : decode cX4_bears 66 = .ok (.ireturn, 1) := by decide +kernel
theorem dX4_cart_0 : decode cX4_cart 0 = .ok (.aload_n 0, 1) := by decide +kernel
theorem dX4_cart_1 : decode cX4_cart 1 = .ok (.iload_n 1, 1) := by decide +kernel
theorem dX4_cart_2 : decode cX4_cart 2 = .ok (.invokevirtual 133, 3) := by decide +kernel
theorem dX4_cart_5 : decode cX4_cart 5 = .ok (.ifCond .eq 31, 3) := by decide +kernel
theorem dX4_cart_8 : decode cX4_cart 8 = .ok (.aload_n 0, 1) := by decide +kernel
theorem dX4_cart_9 : decode cX4_cart 9 = .ok (.iload_n 2, 1) := by decide +kernel
theorem dX4_cart_10 : decode cX4_cart 10 = .ok (.invokevirtual 133, 3) := by decide +kernel
theorem dX4_cart_13 : decode cX4_cart 13 = .ok (.ifCond .eq 23, 3) := by decide +kernel
theorem dX4_cart_16 : decode cX4_cart 16 = .ok (.iload_n 3, 1) := by decide +kernel
theorem dX4_cart_17 : decode cX4_cart 17 = .ok (.iconst 1, 1) := by decide +kernel
theorem dX4_cart_18 : decode cX4_cart 18 = .ok (.bipush 9, 2) := by decide +kernel
theorem dX4_cart_20 : decode cX4_cart 20 = .ok (.invokestatic 67, 3) := by decide +kernel
theorem dX4_cart_23 : decode cX4_cart 23 = .ok (.ifCond .eq 13, 3) := by decide +kernel
theorem dX4_cart_26 : decode cX4_cart 26 = .ok (.iload 4, 2) := by decide +kernel
theorem dX4_cart_28 : decode cX4_cart 28 = .ok (.iconst 0, 1) := by decide +kernel
theorem dX4_cart_29 : decode cX4_cart 29 = .ok (.iconst 1, 1) := by decide +kernel
theorem dX4_cart_30 : decode cX4_cart 30 = .ok (.invokestatic 67, 3) := by decide +kernel
theorem dX4_cart_33 : decode cX4_cart 33 = .ok (.ifCond .ne 5, 3) := by decide +kernel
theorem dX4_cart_36 : decode cX4_cart 36 = .ok (.iconst (-1), 1) := by decide +kernel
theorem dX4_cart_37 : decode cX4_cart 37 = .ok (.ireturn, 1) := by decide +kernel
theorem dX4_cart_38 : decode cX4_cart 38 = .ok (.aload_n 0, 1) := by decide +kernel
theorem dX4_cart_39 : decode cX4_cart 39 = .ok (.aload_n 0, 1) := by decide +kernel
theorem dX4_cart_40 : decode cX4_cart 40 = .ok (.invokevirtual 158, 3) := by decide +kernel
theorem dX4_cart_43 : decode cX4_cart 43 = .ok (.invokevirtual 162, 3) := by decide +kernel
theorem dX4_cart_46 : decode cX4_cart 46 = .ok (.istore 5, 2) := by decide +kernel
theorem dX4_cart_48 : decode cX4_cart 48 = .ok (.bipush (-9), 2) := by decide +kernel
theorem dX4_cart_50 : decode cX4_cart 50 = .ok (.istore 6, 2) := by decide +kernel
theorem dX4_cart_52 : decode cX4_cart 52 = .ok (.iconst 0, 1) := by decide +kernel
theorem dX4_cart_53 : decode cX4_cart 53 = .ok (.istore 7, 2) := by decide +kernel
theorem dX4_cart_55 : decode cX4_cart 55 = .ok (.iload 7, 2) := by decide +kernel
theorem dX4_cart_57 : decode cX4_cart 57 = .ok (.iconst 1, 1) := by decide +kernel
theorem dX4_cart_58 : decode cX4_cart 58 = .ok (.aload_n 0, 1) := by decide +kernel
theorem dX4_cart_59 : decode cX4_cart 59 = .ok (.getfield 13, 3) := by decide +kernel
theorem dX4_cart_62 : decode cX4_cart 62 = .ok (.iconst 0, 1) := by decide +kernel
theorem dX4_cart_63 : decode cX4_cart 63 = .ok (.iaload, 1) := by decide +kernel
theorem dX4_cart_64 : decode cX4_cart 64 = .ok (.ishl, 1) := by decide +kernel
theorem dX4_cart_65 : decode cX4_cart 65 = .ok (.if_icmp .ge 154, 3) := by decide +kernel
theorem dX4_cart_68 : decode cX4_cart 68 = .ok (.iload 7, 2) := by decide +kernel
theorem dX4_cart_70 : decode cX4_cart 70 = .ok (.iload_n 1, 1) := by decide +kernel
theorem dX4_cart_71 : decode cX4_cart 71 = .ok (.ishr, 1) := by decide +kernel
theorem dX4_cart_72 : decode cX4_cart 72 = .ok (.iconst 1, 1) := by decide +kernel
theorem dX4_cart_73 : decode cX4_cart 73 = .ok (.iand, 1) := by decide +kernel
theorem dX4_cart_74 : decode cX4_cart 74 = .ok (.iconst 1, 1) := by decide +kernel
theorem dX4_cart_75 : decode cX4_cart 75 = .ok (.if_icmp .ne 138, 3) := by decide +kernel
theorem dX4_cart_78 : decode cX4_cart 78 = .ok (.iload 7, 2) := by decide +kernel
theorem dX4_cart_80 : decode cX4_cart 80 = .ok (.iload_n 2, 1) := by decide +kernel
theorem dX4_cart_81 : decode cX4_cart 81 = .ok (.ishr, 1) := by decide +kernel
theorem dX4_cart_82 : decode cX4_cart 82 = .ok (.iconst 1, 1) := by decide +kernel
theorem dX4_cart_83 : decode cX4_cart 83 = .ok (.iand, 1) := by decide +kernel
theorem dX4_cart_84 : decode cX4_cart 84 = .ok (.iconst 1, 1) := by decide +kernel
theorem dX4_cart_85 : decode cX4_cart 85 = .ok (.if_icmp .ne 128, 3) := by decide +kernel
theorem dX4_cart_88 : decode cX4_cart 88 = .ok (.aload_n 0, 1) := by decide +kernel
theorem dX4_cart_89 : decode cX4_cart 89 = .ok (.iload_n 1, 1) := by decide +kernel
theorem dX4_cart_90 : decode cX4_cart 90 = .ok (.iload_n 2, 1) := by decide +kernel
theorem dX4_cart_91 : decode cX4_cart 91 = .ok (.iload 7, 2) := by decide +kernel
theorem dX4_cart_93 : decode cX4_cart 93 = .ok (.invokevirtual 190, 3) := by decide +kernel
theorem dX4_cart_96 : decode cX4_cart 96 = .ok (.istore 8, 2) := by decide +kernel
theorem dX4_cart_98 : decode cX4_cart 98 = .ok (.iconst 0, 1) := by decide +kernel
theorem dX4_cart_99 : decode cX4_cart 99 = .ok (.istore 9, 2) := by decide +kernel
theorem dX4_cart_101 : decode cX4_cart 101 = .ok (.iconst 0, 1) := by decide +kernel
theorem dX4_cart_102 : decode cX4_cart 102 = .ok (.istore 10, 2) := by decide +kernel
theorem dX4_cart_104 : decode cX4_cart 104 = .ok (.iload 10, 2) := by decide +kernel
theorem dX4_cart_106 : decode cX4_cart 106 = .ok (.aload_n 0, 1) := by decide +kernel
theorem dX4_cart_107 : decode cX4_cart 107 = .ok (.getfield 13, 3) := by decide +kernel
theorem dX4_cart_110 : decode cX4_cart 110 = .ok (.iconst 2, 1) := by decide +kernel
theorem dX4_cart_111 : decode cX4_cart 111 = .ok (.iaload, 1) := by decide +kernel
theorem dX4_cart_112 : decode cX4_cart 112 = .ok (.if_icmp .ge 63, 3) := by decide +kernel
theorem dX4_cart_115 : decode cX4_cart 115 = .ok (.iload 9, 2) := by decide +kernel
theorem dX4_cart_117 : decode cX4_cart 117 = .ok (.iload 5, 2) := by decide +kernel
theorem dX4_cart_119 : decode cX4_cart 119 = .ok (.iload 10, 2) := by decide +kernel
theorem dX4_cart_121 : decode cX4_cart 121 = .ok (.ishr, 1) := by decide +kernel
theorem dX4_cart_122 : decode cX4_cart 122 = .ok (.iconst 1, 1) := by decide +kernel
theorem dX4_cart_123 : decode cX4_cart 123 = .ok (.iand, 1) := by decide +kernel
theorem dX4_cart_124 : decode cX4_cart 124 = .ok (.iconst 1, 1) := by decide +kernel
theorem dX4_cart_125 : decode cX4_cart 125 = .ok (.if_icmp .ne 40, 3) := by decide +kernel
theorem dX4_cart_128 : decode cX4_cart 128 = .ok (.iload 7, 2) := by decide +kernel
theorem dX4_cart_130 : decode cX4_cart 130 = .ok (.aload_n 0, 1) := by decide +kernel
theorem dX4_cart_131 : decode cX4_cart 131 = .ok (.getfield 13, 3) := by decide +kernel
theorem dX4_cart_134 : decode cX4_cart 134 = .ok (.bipush 14, 2) := by decide +kernel
theorem dX4_cart_136 : decode cX4_cart 136 = .ok (.iload 10, 2) := by decide +kernel
theorem dX4_cart_138 : decode cX4_cart 138 = .ok (.iadd, 1) := by decide +kernel
theorem dX4_cart_139 : decode cX4_cart 139 = .ok (.iaload, 1) := by decide +kernel
theorem dX4_cart_140 : decode cX4_cart 140 = .ok (.ishr, 1) := by decide +kernel
theorem dX4_cart_141 : decode cX4_cart 141 = .ok (.iconst 1, 1) := by decide +kernel
theorem dX4_cart_142 : decode cX4_cart 142 = .ok (.iand, 1) := by decide +kernel
theorem dX4_cart_143 : decode cX4_cart 143 = .ok (.iconst 1, 1) := by decide +kernel
theorem dX4_cart_144 : decode cX4_cart 144 = .ok (.if_icmp .ne 21, 3) := by decide +kernel
theorem dX4_cart_147 : decode cX4_cart 147 = .ok (.aload_n 0, 1) := by decide +kernel
theorem dX4_cart_148 : decode cX4_cart 148 = .ok (.getfield 13, 3) := by decide +kernel
theorem dX4_cart_151 : decode cX4_cart 151 = .ok (.bipush 32, 2) := by decide +kernel
theorem dX4_cart_153 : decode cX4_cart 153 = .ok (.iload 10, 2) := by decide +kernel
theorem dX4_cart_155 : decode cX4_cart 155 = .ok (.iadd, 1) := by decide +kernel
theorem dX4_cart_156 : decode cX4_cart 156 = .ok (.iaload, 1) := by decide +kernel
theorem dX4_cart_157 : decode cX4_cart 157 = .ok (.iload_n 3, 1) := by decide +kernel
theorem dX4_cart_158 : decode cX4_cart 158 = .ok (.if_icmp .ge 7, 3) := by decide +kernel
theorem dX4_cart_161 : decode cX4_cart 161 = .ok (.iconst 1, 1) := by decide +kernel
theorem dX4_cart_162 : decode cX4_cart 162 = .ok (.goto 4, 3) := by decide +kernel
theorem dX4_cart_165 : decode cX4_cart 165 = .ok (.iconst 0, 1) := by decide +kernel
theorem dX4_cart_166 : decode cX4_cart 166 = .ok (.iadd, 1) := by decide +kernel
theorem dX4_cart_167 : decode cX4_cart 167 = .ok (.istore 9, 2) := by decide +kernel
theorem dX4_cart_169 : decode cX4_cart 169 = .ok (.iinc 10 1, 3) := by decide +kernel
theorem dX4_cart_172 : decode cX4_cart 172 = .ok (.goto (-68), 3) := by decide +kernel
theorem dX4_cart_175 : decode cX4_cart 175 = .ok (.bipush 8, 2) := by decide +kernel
theorem dX4_cart_177 : decode cX4_cart 177 = .ok (.iload 9, 2) := by decide +kernel
theorem dX4_cart_179 : decode cX4_cart 179 = .ok (.imul, 1) := by decide +kernel
theorem dX4_cart_180 : decode cX4_cart 180 = .ok (.iload 8, 2) := by decide +kernel
theorem dX4_cart_182 : decode cX4_cart 182 = .ok (.iadd, 1) := by decide +kernel
theorem dX4_cart_183 : decode cX4_cart 183 = .ok (.istore 10, 2) := by decide +kernel
theorem dX4_cart_185 : decode cX4_cart 185 = .ok (.iload 8, 2) := by decide +kernel
theorem dX4_cart_187 : decode cX4_cart 187 = .ok (.ifCond .lt 22, 3) := by decide +kernel
theorem dX4_cart_190 : decode cX4_cart 190 = .ok (.iload 6, 2) := by decide +kernel
theorem dX4_cart_192 : decode cX4_cart 192 = .ok (.bipush (-9), 2) := by decide +kernel
theorem dX4_cart_194 : decode cX4_cart 194 = .ok (.if_icmp .eq 10, 3) := by decide +kernel
theorem dX4_cart_197 : decode cX4_cart 197 = .ok (.iload 10, 2) := by decide +kernel
theorem dX4_cart_199 : decode cX4_cart 199 = .ok (.iload 6, 2) := by decide +kernel
theorem dX4_cart_201 : decode cX4_cart 201 = .ok (.if_icmp .ge 8, 3) := by decide +kernel
theorem dX4_cart_204 : decode cX4_cart 204 = .ok (.iload 10, 2) := by decide +kernel
theorem dX4_cart_206 : decode cX4_cart 206 = .ok (.goto 5, 3) := by decide +kernel
theorem dX4_cart_209 : decode cX4_cart 209 = .ok (.iload 6, 2) := by decide +kernel
theorem dX4_cart_211 : decode cX4_cart 211 = .ok (.istore 6, 2) := by decide +kernel
theorem dX4_cart_213 : decode cX4_cart 213 = .ok (.iinc 7 1, 3) := by decide +kernel
theorem dX4_cart_216 : decode cX4_cart 216 = .ok (.goto (-161), 3) := by decide +kernel
theorem dX4_cart_219 : decode cX4_cart 219 = .ok (.iload 6, 2) := by decide +kernel
theorem dX4_cart_221 : decode cX4_cart 221 = .ok (.bipush (-9), 2) := by decide +kernel
theorem dX4_cart_223 : decode cX4_cart 223 = .ok (.if_icmp .ne 8, 3) := by decide +kernel
theorem dX4_cart_226 : decode cX4_cart 226 = .ok (.bipush (-9), 2) := by decide +kernel
theorem dX4_cart_228 : decode cX4_cart 228 = .ok (.goto 21, 3) := by decide +kernel
theorem dX4_cart_231 : decode cX4_cart 231 = .ok (.iload 4, 2) := by decide +kernel
theorem dX4_cart_233 : decode cX4_cart 233 = .ok (.ifCond .ne 11, 3) := by decide +kernel
theorem dX4_cart_236 : decode cX4_cart 236 = .ok (.iload 6, 2) := by decide +kernel
theorem dX4_cart_238 : decode cX4_cart 238 = .ok (.bipush 8, 2) := by decide +kernel
theorem dX4_cart_240 : decode cX4_cart 240 = .ok (.idiv, 1) := by decide +kernel
theorem dX4_cart_241 : decode cX4_cart 241 = .ok (.goto 8, 3) := by decide +kernel
theorem dX4_cart_244 : decode cX4_cart 244 = .ok (.iload 6, 2) := by decide +kernel
theorem dX4_cart_246 : decode cX4_cart 246 = .ok (.bipush 8, 2) := by decide +kernel
theorem dX4_cart_248 : decode cX4_cart 248 = .ok (.irem, 1) := by decide +kernel
theorem dX4_cart_249 : decode cX4_cart 249 = .ok (.ireturn, 1) := by decide +kernel
