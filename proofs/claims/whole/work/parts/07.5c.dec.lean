theorem dX4_far_0 : decode cX4_far 0 = .ok (.iconst 1, 1) := by decide +kernel
theorem dX4_far_1 : decode cX4_far 1 = .ok (.iload_n 1, 1) := by decide +kernel
theorem dX4_far_2 : decode cX4_far 2 = .ok (.ishl, 1) := by decide +kernel
theorem dX4_far_3 : decode cX4_far 3 = .ok (.istore 4, 2) := by decide +kernel
theorem dX4_far_5 : decode cX4_far 5 = .ok (.iconst 0, 1) := by decide +kernel
theorem dX4_far_6 : decode cX4_far 6 = .ok (.istore 5, 2) := by decide +kernel
theorem dX4_far_8 : decode cX4_far 8 = .ok (.iload 4, 2) := by decide +kernel
theorem dX4_far_10 : decode cX4_far 10 = .ok (.iload_n 2, 1) := by decide +kernel
theorem dX4_far_11 : decode cX4_far 11 = .ok (.ishr, 1) := by decide +kernel
theorem dX4_far_12 : decode cX4_far 12 = .ok (.iconst 1, 1) := by decide +kernel
theorem dX4_far_13 : decode cX4_far 13 = .ok (.iand, 1) := by decide +kernel
theorem dX4_far_14 : decode cX4_far 14 = .ok (.ifCond .ne 78, 3) := by decide +kernel
theorem dX4_far_17 : decode cX4_far 17 = .ok (.iload 4, 2) := by decide +kernel
theorem dX4_far_19 : decode cX4_far 19 = .ok (.istore 6, 2) := by decide +kernel
theorem dX4_far_21 : decode cX4_far 21 = .ok (.iconst 0, 1) := by decide +kernel
theorem dX4_far_22 : decode cX4_far 22 = .ok (.istore 7, 2) := by decide +kernel
theorem dX4_far_24 : decode cX4_far 24 = .ok (.iload 7, 2) := by decide +kernel
theorem dX4_far_26 : decode cX4_far 26 = .ok (.aload_n 0, 1) := by decide +kernel
theorem dX4_far_27 : decode cX4_far 27 = .ok (.getfield 13, 3) := by decide +kernel
theorem dX4_far_30 : decode cX4_far 30 = .ok (.iconst 0, 1) := by decide +kernel
theorem dX4_far_31 : decode cX4_far 31 = .ok (.iaload, 1) := by decide +kernel
theorem dX4_far_32 : decode cX4_far 32 = .ok (.if_icmp .ge 41, 3) := by decide +kernel
theorem dX4_far_35 : decode cX4_far 35 = .ok (.iload 6, 2) := by decide +kernel
theorem dX4_far_37 : decode cX4_far 37 = .ok (.iload 4, 2) := by decide +kernel
theorem dX4_far_39 : decode cX4_far 39 = .ok (.iload 7, 2) := by decide +kernel
theorem dX4_far_41 : decode cX4_far 41 = .ok (.ishr, 1) := by decide +kernel
theorem dX4_far_42 : decode cX4_far 42 = .ok (.iconst 1, 1) := by decide +kernel
theorem dX4_far_43 : decode cX4_far 43 = .ok (.iand, 1) := by decide +kernel
theorem dX4_far_44 : decode cX4_far 44 = .ok (.iconst 1, 1) := by decide +kernel
theorem dX4_far_45 : decode cX4_far 45 = .ok (.if_icmp .ne 18, 3) := by decide +kernel
theorem dX4_far_48 : decode cX4_far 48 = .ok (.aload_n 0, 1) := by decide +kernel
theorem dX4_far_49 : decode cX4_far 49 = .ok (.getfield 13, 3) := by decide +kernel
theorem dX4_far_52 : decode cX4_far 52 = .ok (.bipush 6, 2) := by decide +kernel
theorem dX4_far_54 : decode cX4_far 54 = .ok (.iload 7, 2) := by decide +kernel
theorem dX4_far_56 : decode cX4_far 56 = .ok (.iadd, 1) := by decide +kernel
theorem dX4_far_57 : decode cX4_far 57 = .ok (.iaload, 1) := by decide +kernel
theorem dX4_far_58 : decode cX4_far 58 = .ok (.iload_n 3, 1) := by decide +kernel
theorem dX4_far_59 : decode cX4_far 59 = .ok (.iand, 1) := by decide +kernel
theorem dX4_far_60 : decode cX4_far 60 = .ok (.goto 4, 3) := by decide +kernel
theorem dX4_far_63 : decode cX4_far 63 = .ok (.iconst 0, 1) := by decide +kernel
theorem dX4_far_64 : decode cX4_far 64 = .ok (.ior, 1) := by decide +kernel
theorem dX4_far_65 : decode cX4_far 65 = .ok (.istore 6, 2) := by decide +kernel
theorem dX4_far_67 : decode cX4_far 67 = .ok (.iinc 7 1, 3) := by decide +kernel
theorem dX4_far_70 : decode cX4_far 70 = .ok (.goto (-46), 3) := by decide +kernel
theorem dX4_far_73 : decode cX4_far 73 = .ok (.iload 6, 2) := by decide +kernel
theorem dX4_far_75 : decode cX4_far 75 = .ok (.iload 4, 2) := by decide +kernel
theorem dX4_far_77 : decode cX4_far 77 = .ok (.if_icmp .ne 5, 3) := by decide +kernel
theorem dX4_far_80 : decode cX4_far 80 = .ok (.iconst (-1), 1) := by decide +kernel
theorem dX4_far_81 : decode cX4_far 81 = .ok (.ireturn, 1) := by decide +kernel
theorem dX4_far_82 : decode cX4_far 82 = .ok (.iload 6, 2) := by decide +kernel
theorem dX4_far_84 : decode cX4_far 84 = .ok (.istore 4, 2) := by decide +kernel
theorem dX4_far_86 : decode cX4_far 86 = .ok (.iinc 5 1, 3) := by decide +kernel
theorem dX4_far_89 : decode cX4_far 89 = .ok (.goto (-81), 3) := by decide +kernel
theorem dX4_far_92 : decode cX4_far 92 = .ok (.iload 5, 2) := by decide +kernel
theorem dX4_far_94 : decode cX4_far 94 = .ok (.ireturn, 1) := by decide +kernel
theorem dX4_drum_0 : decode cX4_drum 0 = .ok (.aload_n 0, 1) := by decide +kernel
theorem dX4_drum_1 : decode cX4_drum 1 = .ok (.iload_n 1, 1) := by decide +kernel
theorem dX4_drum_2 : decode cX4_drum 2 = .ok (.invokevirtual 133, 3) := by decide +kernel
theorem dX4_drum_5 : decode cX4_drum 5 = .ok (.ifCond .ne 5, 3) := by decide +kernel
theorem dX4_drum_8 : decode cX4_drum 8 = .ok (.iconst (-1), 1) := by decide +kernel
theorem dX4_drum_9 : decode cX4_drum 9 = .ok (.ireturn, 1) := by decide +kernel
theorem dX4_drum_10 : decode cX4_drum 10 = .ok (.aload_n 0, 1) := by decide +kernel
theorem dX4_drum_11 : decode cX4_drum 11 = .ok (.iload_n 1, 1) := by decide +kernel
theorem dX4_drum_12 : decode cX4_drum 12 = .ok (.putfield 45, 3) := by decide +kernel
theorem dX4_drum_15 : decode cX4_drum 15 = .ok (.bipush (-9), 2) := by decide +kernel
theorem dX4_drum_17 : decode cX4_drum 17 = .ok (.istore_n 2, 1) := by decide +kernel
theorem dX4_drum_18 : decode cX4_drum 18 = .ok (.iconst 0, 1) := by decide +kernel
theorem dX4_drum_19 : decode cX4_drum 19 = .ok (.istore_n 3, 1) := by decide +kernel
theorem dX4_drum_20 : decode cX4_drum 20 = .ok (.iload_n 3, 1) := by decide +kernel
theorem dX4_drum_21 : decode cX4_drum 21 = .ok (.bipush 10, 2) := by decide +kernel
theorem dX4_drum_23 : decode cX4_drum 23 = .ok (.if_icmp .ge 40, 3) := by decide +kernel
theorem dX4_drum_26 : decode cX4_drum 26 = .ok (.aload_n 0, 1) := by decide +kernel
theorem dX4_drum_27 : decode cX4_drum 27 = .ok (.iload_n 3, 1) := by decide +kernel
theorem dX4_drum_28 : decode cX4_drum 28 = .ok (.putfield 145, 3) := by decide +kernel
theorem dX4_drum_31 : decode cX4_drum 31 = .ok (.aload_n 0, 1) := by decide +kernel
theorem dX4_drum_32 : decode cX4_drum 32 = .ok (.aload_n 0, 1) := by decide +kernel
theorem dX4_drum_33 : decode cX4_drum 33 = .ok (.invokevirtual 158, 3) := by decide +kernel
theorem dX4_drum_36 : decode cX4_drum 36 = .ok (.invokevirtual 162, 3) := by decide +kernel
theorem dX4_drum_39 : decode cX4_drum 39 = .ok (.invokestatic 155, 3) := by decide +kernel
theorem dX4_drum_42 : decode cX4_drum 42 = .ok (.aload_n 0, 1) := by decide +kernel
theorem dX4_drum_43 : decode cX4_drum 43 = .ok (.getfield 13, 3) := by decide +kernel
theorem dX4_drum_46 : decode cX4_drum 46 = .ok (.iconst 1, 1) := by decide +kernel
theorem dX4_drum_47 : decode cX4_drum 47 = .ok (.iaload, 1) := by decide +kernel
theorem dX4_drum_48 : decode cX4_drum 48 = .ok (.if_icmp .lt 7, 3) := by decide +kernel
theorem dX4_drum_51 : decode cX4_drum 51 = .ok (.iload_n 3, 1) := by decide +kernel
theorem dX4_drum_52 : decode cX4_drum 52 = .ok (.goto 4, 3) := by decide +kernel
theorem dX4_drum_55 : decode cX4_drum 55 = .ok (.iload_n 2, 1) := by decide +kernel
theorem dX4_drum_56 : decode cX4_drum 56 = .ok (.istore_n 2, 1) := by decide +kernel
theorem dX4_drum_57 : decode cX4_drum 57 = .ok (.iinc 3 1, 3) := by decide +kernel
theorem dX4_drum_60 : decode cX4_drum 60 = .ok (.goto (-40), 3) := by decide +kernel
theorem dX4_drum_63 : decode cX4_drum 63 = .ok (.aload_n 0, 1) := by decide +kernel
theorem dX4_drum_64 : decode cX4_drum 64 = .ok (.bipush (-9), 2) := by decide +kernel
theorem dX4_drum_66 : decode cX4_drum 66 = .ok (.putfield 45, 3) := by decide +kernel
theorem dX4_drum_69 : decode cX4_drum 69 = .ok (.iload_n 2, 1) := by decide +kernel
theorem dX4_drum_70 : decode cX4_drum 70 = .ok (.ireturn, 1) := by decide +kernel
theorem dX4_wants_0 : decode cX4_wants 0 = .ok (.aload_n 0, 1) := by decide +kernel
theorem dX4_wants_1 : decode cX4_wants 1 = .ok (.iload_n 1, 1) := by decide +kernel
theorem dX4_wants_2 : decode cX4_wants 2 = .ok (.invokevirtual 133, 3) := by decide +kernel
theorem dX4_wants_5 : decode cX4_wants 5 = .ok (.ifCond .ne 5, 3) := by decide +kernel
theorem dX4_wants_8 : decode cX4_wants 8 = .ok (.iconst (-1), 1) := by decide +kernel
theorem dX4_wants_9 : decode cX4_wants 9 = .ok (.ireturn, 1) := by decide +kernel
theorem dX4_wants_10 : decode cX4_wants 10 = .ok (.iconst 0, 1) := by decide +kernel
theorem dX4_wants_11 : decode cX4_wants 11 = .ok (.istore_n 2, 1) := by decide +kernel
theorem dX4_wants_12 : decode cX4_wants 12 = .ok (.aload_n 0, 1) := by decide +kernel
theorem dX4_wants_13 : decode cX4_wants 13 = .ok (.invokevirtual 158, 3) := by decide +kernel
theorem dX4_wants_16 : decode cX4_wants 16 = .ok (.istore_n 3, 1) := by decide +kernel
theorem dX4_wants_17 : decode cX4_wants 17 = .ok (.iconst 0, 1) := by decide +kernel
theorem dX4_wants_18 : decode cX4_wants 18 = .ok (.istore 4, 2) := by decide +kernel
theorem dX4_wants_20 : decode cX4_wants 20 = .ok (.iload 4, 2) := by decide +kernel
theorem dX4_wants_22 : decode cX4_wants 22 = .ok (.aload_n 0, 1) := by decide +kernel
theorem dX4_wants_23 : decode cX4_wants 23 = .ok (.getfield 13, 3) := by decide +kernel
theorem dX4_wants_26 : decode cX4_wants 26 = .ok (.iconst 2, 1) := by decide +kernel
theorem dX4_wants_27 : decode cX4_wants 27 = .ok (.iaload, 1) := by decide +kernel
theorem dX4_wants_28 : decode cX4_wants 28 = .ok (.if_icmp .ge 55, 3) := by decide +kernel
theorem dX4_wants_31 : decode cX4_wants 31 = .ok (.iload_n 2, 1) := by decide +kernel
theorem dX4_wants_32 : decode cX4_wants 32 = .ok (.aload_n 0, 1) := by decide +kernel
theorem dX4_wants_33 : decode cX4_wants 33 = .ok (.getfield 13, 3) := by decide +kernel
theorem dX4_wants_36 : decode cX4_wants 36 = .ok (.bipush 14, 2) := by decide +kernel
theorem dX4_wants_38 : decode cX4_wants 38 = .ok (.iload 4, 2) := by decide +kernel
theorem dX4_wants_40 : decode cX4_wants 40 = .ok (.iadd, 1) := by decide +kernel
theorem dX4_wants_41 : decode cX4_wants 41 = .ok (.iaload, 1) := by decide +kernel
theorem dX4_wants_42 : decode cX4_wants 42 = .ok (.iload_n 1, 1) := by decide +kernel
theorem dX4_wants_43 : decode cX4_wants 43 = .ok (.if_icmp .ne 31, 3) := by decide +kernel
theorem dX4_wants_46 : decode cX4_wants 46 = .ok (.aload_n 0, 1) := by decide +kernel
theorem dX4_wants_47 : decode cX4_wants 47 = .ok (.iload 4, 2) := by decide +kernel
theorem dX4_wants_49 : decode cX4_wants 49 = .ok (.iload_n 3, 1) := by decide +kernel
theorem dX4_wants_50 : decode cX4_wants 50 = .ok (.iload 4, 2) := by decide +kernel
theorem dX4_wants_52 : decode cX4_wants 52 = .ok (.ishr, 1) := by decide +kernel
theorem dX4_wants_53 : decode cX4_wants 53 = .ok (.iconst 1, 1) := by decide +kernel
theorem dX4_wants_54 : decode cX4_wants 54 = .ok (.iand, 1) := by decide +kernel
theorem dX4_wants_55 : decode cX4_wants 55 = .ok (.iconst 1, 1) := by decide +kernel
theorem dX4_wants_56 : decode cX4_wants 56 = .ok (.if_icmp .ne 7, 3) := by decide +kernel
theorem dX4_wants_59 : decode cX4_wants 59 = .ok (.iconst 1, 1) := by decide +kernel
theorem dX4_wants_60 : decode cX4_wants 60 = .ok (.goto 4, 3) := by decide +kernel
theorem dX4_wants_63 : decode cX4_wants 63 = .ok (.iconst 0, 1) := by decide +kernel
theorem dX4_wants_64 : decode cX4_wants 64 = .ok (.invokevirtual 148, 3) := by decide +kernel
theorem dX4_wants_67 : decode cX4_wants 67 = .ok (.ifCond .eq 7, 3) := by decide +kernel
theorem dX4_wants_70 : decode cX4_wants 70 = .ok (.iconst 1, 1) := by decide +kernel
theorem dX4_wants_71 : decode cX4_wants 71 = .ok (.goto 4, 3) := by decide +kernel
theorem dX4_wants_74 : decode cX4_wants 74 = .ok (.iconst 0, 1) := by decide +kernel
theorem dX4_wants_75 : decode cX4_wants 75 = .ok (.iadd, 1) := by decide +kernel
theorem dX4_wants_76 : decode cX4_wants 76 = .ok (.istore_n 2, 1) := by decide +kernel
theorem dX4_wants_77 : decode cX4_wants 77 = .ok (.iinc 4 1, 3) := by decide +kernel
theorem dX4_wants_80 : decode cX4_wants 80 = .ok (.goto (-60), 3) := by decide +kernel
theorem dX4_wants_83 : decode cX4_wants 83 = .ok (.iload_n 2, 1) := by decide +kernel
theorem dX4_wants_84 : decode cX4_wants 84 = .ok (.ireturn, 1) := by decide +kernel
theorem dX4_counted_0 : decode cX4_counted 0 = .ok (.iload_n 1, 1) := by decide +kernel
theorem dX4_counted_1 : decode cX4_counted 1 = .ok (.iconst 0, 1) := by decide +kernel
theorem dX4_counted_2 : decode cX4_counted 2 = .ok (.bipush 20, 2) := by decide +kernel
theorem dX4_counted_4 : decode cX4_counted 4 = .ok (.invokestatic 67, 3) := by decide +kernel
theorem dX4_counted_7 : decode cX4_counted 7 = .ok (.ifCond .eq 13, 3) := by decide +kernel
theorem dX4_counted_10 : decode cX4_counted 10 = .ok (.iload_n 2, 1) := by decide +kernel
theorem dX4_counted_11 : decode cX4_counted 11 = .ok (.iconst 0, 1) := by decide +kernel
theorem dX4_counted_12 : decode cX4_counted 12 = .ok (.bipush 6, 2) := by decide +kernel
theorem dX4_counted_14 : decode cX4_counted 14 = .ok (.invokestatic 67, 3) := by decide +kernel
theorem dX4_counted_17 : decode cX4_counted 17 = .ok (.ifCond .ne 5, 3) := by decide +kernel
theorem dX4_counted_20 : decode cX4_counted 20 = .ok (.iconst (-1), 1) := by decide +kernel
theorem dX4_counted_21 : decode cX4_counted 21 = .ok (.ireturn, 1) := by decide +kernel
theorem dX4_counted_22 : decode cX4_counted 22 = .ok (.aload_n 0, 1) := by decide +kernel
theorem dX4_counted_23 : decode cX4_counted 23 = .ok (.getfield 130, 3) := by decide +kernel
theorem dX4_counted_26 : decode cX4_counted 26 = .ok (.bipush 6, 2) := by decide +kernel
theorem dX4_counted_28 : decode cX4_counted 28 = .ok (.if_icmp .ne 6, 3) := by decide +kernel
theorem dX4_counted_31 : decode cX4_counted 31 = .ok (.bipush (-3), 2) := by decide +kernel
theorem dX4_counted_33 : decode cX4_counted 33 = .ok (.ireturn, 1) := by decide +kernel
theorem dX4_counted_34 : decode cX4_counted 34 = .ok (.aload_n 0, 1) := by decide +kernel
theorem dX4_counted_35 : decode cX4_counted 35 = .ok (.getfield 32, 3) := by decide +kernel
theorem dX4_counted_38 : decode cX4_counted 38 = .ok (.aload_n 0, 1) := by decide +kernel
theorem dX4_counted_39 : decode cX4_counted 39 = .ok (.getfield 130, 3) := by decide +kernel
theorem dX4_counted_42 : decode cX4_counted 42 = .ok (.bipush 8, 2) := by decide +kernel
theorem dX4_counted_44 : decode cX4_counted 44 = .ok (.iload_n 1, 1) := by decide +kernel
theorem dX4_counted_45 : decode cX4_counted 45 = .ok (.imul, 1) := by decide +kernel
theorem dX4_counted_46 : decode cX4_counted 46 = .ok (.iload_n 2, 1) := by decide +kernel
theorem dX4_counted_47 : decode cX4_counted 47 = .ok (.iadd, 1) := by decide +kernel
theorem dX4_counted_48 : decode cX4_counted 48 = .ok (.iastore, 1) := by decide +kernel
theorem dX4_counted_49 : decode cX4_counted 49 = .ok (.aload_n 0, 1) := by decide +kernel
theorem dX4_counted_50 : decode cX4_counted 50 = .ok (.dup, 1) := by decide +kernel
theorem dX4_counted_51 : decode cX4_counted 51 = .ok (.getfield 130, 3) := by decide +kernel
theorem dX4_counted_54 : decode cX4_counted 54 = .ok (.iconst 1, 1) := by decide +kernel
theorem dX4_counted_55 : decode cX4_counted 55 = .ok (.iadd, 1) := by decide +kernel
theorem dX4_counted_56 : decode cX4_counted 56 = .ok (.putfield 130, 3) := by decide +kernel
theorem dX4_counted_59 : decode cX4_counted 59 = .ok (.aload_n 0, 1) := by decide +kernel
theorem dX4_counted_60 : decode cX4_counted 60 = .ok (.getfield 130, 3) := by decide +kernel
theorem dX4_counted_63 : decode cX4_counted 63 = .ok (.ireturn, 1) := by decide +kernel
theorem dX4_forget_0 : decode cX4_forget 0 = .ok (.aload_n 0, 1) := by decide +kernel
theorem dX4_forget_1 : decode cX4_forget 1 = .ok (.getfield 130, 3) := by decide +kernel
theorem dX4_forget_4 : decode cX4_forget 4 = .ok (.istore_n 1, 1) := by decide +kernel
theorem dX4_forget_5 : decode cX4_forget 5 = .ok (.aload_n 0, 1) := by decide +kernel
theorem dX4_forget_6 : decode cX4_forget 6 = .ok (.iconst 0, 1) := by decide +kernel
theorem dX4_forget_7 : decode cX4_forget 7 = .ok (.putfield 130, 3) := by decide +kernel
theorem dX4_forget_10 : decode cX4_forget 10 = .ok (.iload_n 1, 1) := by decide +kernel
theorem dX4_forget_11 : decode cX4_forget 11 = .ok (.ireturn, 1) := by decide +kernel
theorem dX4_isSo_0 : decode cX4_isSo 0 = .ok (.iconst 0, 1) := by decide +kernel
theorem dX4_isSo_1 : decode cX4_isSo 1 = .ok (.istore_n 1, 1) := by decide +kernel
theorem dX4_isSo_2 : decode cX4_isSo 2 = .ok (.iload_n 1, 1) := by decide +kernel
theorem dX4_isSo_3 : decode cX4_isSo 3 = .ok (.bipush 6, 2) := by decide +kernel
theorem dX4_isSo_5 : decode cX4_isSo 5 = .ok (.if_icmp .ge 26, 3) := by decide +kernel
theorem dX4_isSo_8 : decode cX4_isSo 8 = .ok (.aload_n 0, 1) := by decide +kernel
theorem dX4_isSo_9 : decode cX4_isSo 9 = .ok (.getfield 19, 3) := by decide +kernel
theorem dX4_isSo_12 : decode cX4_isSo 12 = .ok (.iconst 3, 1) := by decide +kernel
theorem dX4_isSo_13 : decode cX4_isSo 13 = .ok (.iload_n 1, 1) := by decide +kernel
theorem dX4_isSo_14 : decode cX4_isSo 14 = .ok (.iadd, 1) := by decide +kernel
theorem dX4_isSo_15 : decode cX4_isSo 15 = .ok (.aload_n 0, 1) := by decide +kernel
theorem dX4_isSo_16 : decode cX4_isSo 16 = .ok (.getfield 13, 3) := by decide +kernel
theorem dX4_isSo_19 : decode cX4_isSo 19 = .ok (.bipush 20, 2) := by decide +kernel
theorem dX4_isSo_21 : decode cX4_isSo 21 = .ok (.iload_n 1, 1) := by decide +kernel
theorem dX4_isSo_22 : decode cX4_isSo 22 = .ok (.iadd, 1) := by decide +kernel
theorem dX4_isSo_23 : decode cX4_isSo 23 = .ok (.iaload, 1) := by decide +kernel
theorem dX4_isSo_24 : decode cX4_isSo 24 = .ok (.iastore, 1) := by decide +kernel
theorem dX4_isSo_25 : decode cX4_isSo 25 = .ok (.iinc 1 1, 3) := by decide +kernel
theorem dX4_isSo_28 : decode cX4_isSo 28 = .ok (.goto (-26), 3) := by decide +kernel
theorem dX4_isSo_31 : decode cX4_isSo 31 = .ok (.aload_n 0, 1) := by decide +kernel
theorem dX4_isSo_32 : decode cX4_isSo 32 = .ok (.getfield 19, 3) := by decide +kernel
theorem dX4_isSo_35 : decode cX4_isSo 35 = .ok (.iconst 1, 1) := by decide +kernel
theorem dX4_isSo_36 : decode cX4_isSo 36 = .ok (.iconst 0, 1) := by decide +kernel
theorem dX4_isSo_37 : decode cX4_isSo 37 = .ok (.iastore, 1) := by decide +kernel
theorem dX4_isSo_38 : decode cX4_isSo 38 = .ok (.iconst 1, 1) := by decide +kernel
theorem dX4_isSo_39 : decode cX4_isSo 39 = .ok (.istore_n 1, 1) := by decide +kernel
theorem dX4_isSo_40 : decode cX4_isSo 40 = .ok (.iconst 0, 1) := by decide +kernel
theorem dX4_isSo_41 : decode cX4_isSo 41 = .ok (.istore_n 2, 1) := by decide +kernel
theorem dX4_isSo_42 : decode cX4_isSo 42 = .ok (.iload_n 2, 1) := by decide +kernel
theorem dX4_isSo_43 : decode cX4_isSo 43 = .ok (.bipush 21, 2) := by decide +kernel
theorem dX4_isSo_45 : decode cX4_isSo 45 = .ok (.if_icmp .ge 83, 3) := by decide +kernel
theorem dX4_isSo_48 : decode cX4_isSo 48 = .ok (.aload_n 0, 1) := by decide +kernel
theorem dX4_isSo_49 : decode cX4_isSo 49 = .ok (.aload_n 0, 1) := by decide +kernel
theorem dX4_isSo_50 : decode cX4_isSo 50 = .ok (.invokevirtual 158, 3) := by decide +kernel
theorem dX4_isSo_53 : decode cX4_isSo 53 = .ok (.invokevirtual 162, 3) := by decide +kernel
theorem dX4_isSo_56 : decode cX4_isSo 56 = .ok (.istore_n 3, 1) := by decide +kernel
theorem dX4_isSo_57 : decode cX4_isSo 57 = .ok (.iconst 0, 1) := by decide +kernel
theorem dX4_isSo_58 : decode cX4_isSo 58 = .ok (.istore 4, 2) := by decide +kernel
theorem dX4_isSo_60 : decode cX4_isSo 60 = .ok (.iload 4, 2) := by decide +kernel
theorem dX4_isSo_62 : decode cX4_isSo 62 = .ok (.aload_n 0, 1) := by decide +kernel
theorem dX4_isSo_63 : decode cX4_isSo 63 = .ok (.getfield 130, 3) := by decide +kernel
theorem dX4_isSo_66 : decode cX4_isSo 66 = .ok (.if_icmp .ge 50, 3) := by decide +kernel
theorem dX4_isSo_69 : decode cX4_isSo 69 = .ok (.iload_n 1, 1) := by decide +kernel
theorem dX4_isSo_70 : decode cX4_isSo 70 = .ok (.ifCond .eq 38, 3) := by decide +kernel
theorem dX4_isSo_73 : decode cX4_isSo 73 = .ok (.aload_n 0, 1) := by decide +kernel
theorem dX4_isSo_74 : decode cX4_isSo 74 = .ok (.getfield 32, 3) := by decide +kernel
theorem dX4_isSo_77 : decode cX4_isSo 77 = .ok (.iload 4, 2) := by decide +kernel
theorem dX4_isSo_79 : decode cX4_isSo 79 = .ok (.iaload, 1) := by decide +kernel
theorem dX4_isSo_80 : decode cX4_isSo 80 = .ok (.bipush 8, 2) := by decide +kernel
theorem dX4_isSo_82 : decode cX4_isSo 82 = .ok (.idiv, 1) := by decide +kernel
theorem dX4_isSo_83 : decode cX4_isSo 83 = .ok (.iload_n 2, 1) := by decide +kernel
theorem dX4_isSo_84 : decode cX4_isSo 84 = .ok (.if_icmp .ne 20, 3) := by decide +kernel
theorem dX4_isSo_87 : decode cX4_isSo 87 = .ok (.aload_n 0, 1) := by decide +kernel
theorem dX4_isSo_88 : decode cX4_isSo 88 = .ok (.getfield 32, 3) := by decide +kernel
theorem dX4_isSo_91 : decode cX4_isSo 91 = .ok (.iload 4, 2) := by decide +kernel
theorem dX4_isSo_93 : decode cX4_isSo 93 = .ok (.iaload, 1) := by decide +kernel
theorem dX4_isSo_94 : decode cX4_isSo 94 = .ok (.bipush 8, 2) := by decide +kernel
theorem dX4_isSo_96 : decode cX4_isSo 96 = .ok (.irem, 1) := by decide +kernel
theorem dX4_isSo_97 : decode cX4_isSo 97 = .ok (.iload_n 3, 1) := by decide +kernel
theorem dX4_isSo_98 : decode cX4_isSo 98 = .ok (.invokestatic 155, 3) := by decide +kernel
theorem dX4_isSo_101 : decode cX4_isSo 101 = .ok (.if_icmp .ne 7, 3) := by decide +kernel
theorem dX4_isSo_104 : decode cX4_isSo 104 = .ok (.iconst 1, 1) := by decide +kernel
theorem dX4_isSo_105 : decode cX4_isSo 105 = .ok (.goto 4, 3) := by decide +kernel
theorem dX4_isSo_108 : decode cX4_isSo 108 = .ok (.iconst 0, 1) := by decide +kernel
theorem dX4_isSo_109 : decode cX4_isSo 109 = .ok (.istore_n 1, 1) := by decide +kernel
theorem dX4_isSo_110 : decode cX4_isSo 110 = .ok (.iinc 4 1, 3) := by decide +kernel
theorem dX4_isSo_113 : decode cX4_isSo 113 = .ok (.goto (-53), 3) := by decide +kernel
theorem dX4_isSo_116 : decode cX4_isSo 116 = .ok (.aload_n 0, 1) := by decide +kernel
theorem dX4_isSo_117 : decode cX4_isSo 117 = .ok (.iload_n 3, 1) := by decide +kernel
theorem dX4_isSo_118 : decode cX4_isSo 118 = .ok (.invokevirtual 165, 3) := by decide +kernel
theorem dX4_isSo_121 : decode cX4_isSo 121 = .ok (.pop, 1) := by decide +kernel
theorem dX4_isSo_122 : decode cX4_isSo 122 = .ok (.iinc 2 1, 3) := by decide +kernel
theorem dX4_isSo_125 : decode cX4_isSo 125 = .ok (.goto (-83), 3) := by decide +kernel
theorem dX4_isSo_128 : decode cX4_isSo 128 = .ok (.iload_n 1, 1) := by decide +kernel
theorem dX4_isSo_129 : decode cX4_isSo 129 = .ok (.ireturn, 1) := by decide +kernel
theorem dX4_sham_0 : decode cX4_sham 0 = .ok (.aload_n 0, 1) := by decide +kernel
theorem dX4_sham_1 : decode cX4_sham 1 = .ok (.invokevirtual 168, 3) := by decide +kernel
theorem dX4_sham_4 : decode cX4_sham 4 = .ok (.iconst 0, 1) := by decide +kernel
theorem dX4_sham_5 : decode cX4_sham 5 = .ok (.istore_n 1, 1) := by decide +kernel
theorem dX4_sham_6 : decode cX4_sham 6 = .ok (.iconst 0, 1) := by decide +kernel
theorem dX4_sham_7 : decode cX4_sham 7 = .ok (.istore_n 2, 1) := by decide +kernel
theorem dX4_sham_8 : decode cX4_sham 8 = .ok (.iload_n 2, 1) := by decide +kernel
theorem dX4_sham_9 : decode cX4_sham 9 = .ok (.aload_n 0, 1) := by decide +kernel
theorem dX4_sham_10 : decode cX4_sham 10 = .ok (.getfield 13, 3) := by decide +kernel
theorem dX4_sham_13 : decode cX4_sham 13 = .ok (.iconst 2, 1) := by decide +kernel
theorem dX4_sham_14 : decode cX4_sham 14 = .ok (.iaload, 1) := by decide +kernel
theorem dX4_sham_15 : decode cX4_sham 15 = .ok (.if_icmp .ge 35, 3) := by decide +kernel
theorem dX4_sham_18 : decode cX4_sham 18 = .ok (.aload_n 0, 1) := by decide +kernel
theorem dX4_sham_19 : decode cX4_sham 19 = .ok (.iload_n 2, 1) := by decide +kernel
theorem dX4_sham_20 : decode cX4_sham 20 = .ok (.putfield 42, 3) := by decide +kernel
theorem dX4_sham_23 : decode cX4_sham 23 = .ok (.iload_n 1, 1) := by decide +kernel
theorem dX4_sham_24 : decode cX4_sham 24 = .ok (.aload_n 0, 1) := by decide +kernel
theorem dX4_sham_25 : decode cX4_sham 25 = .ok (.invokevirtual 194, 3) := by decide +kernel
theorem dX4_sham_28 : decode cX4_sham 28 = .ok (.ifCond .eq 9, 3) := by decide +kernel
theorem dX4_sham_31 : decode cX4_sham 31 = .ok (.iconst 1, 1) := by decide +kernel
theorem dX4_sham_32 : decode cX4_sham 32 = .ok (.iload_n 2, 1) := by decide +kernel
theorem dX4_sham_33 : decode cX4_sham 33 = .ok (.ishl, 1) := by decide +kernel
theorem dX4_sham_34 : decode cX4_sham 34 = .ok (.goto 4, 3) := by decide +kernel
theorem dX4_sham_37 : decode cX4_sham 37 = .ok (.iconst 0, 1) := by decide +kernel
theorem dX4_sham_38 : decode cX4_sham 38 = .ok (.ior, 1) := by decide +kernel
theorem dX4_sham_39 : decode cX4_sham 39 = .ok (.istore_n 1, 1) := by decide +kernel
theorem dX4_sham_40 : decode cX4_sham 40 = .ok (.aload_n 0, 1) := by decide +kernel
theorem dX4_sham_41 : decode cX4_sham 41 = .ok (.invokevirtual 171, 3) := by decide +kernel
theorem dX4_sham_44 : decode cX4_sham 44 = .ok (.iinc 2 1, 3) := by decide +kernel
theorem dX4_sham_47 : decode cX4_sham 47 = .ok (.goto (-39), 3) := by decide +kernel
theorem dX4_sham_50 : decode cX4_sham 50 = .ok (.aload_n 0, 1) := by decide +kernel
theorem dX4_sham_51 : decode cX4_sham 51 = .ok (.bipush (-9), 2) := by decide +kernel
theorem dX4_sham_53 : decode cX4_sham 53 = .ok (.putfield 42, 3) := by decide +kernel
theorem dX4_sham_56 : decode cX4_sham 56 = .ok (.iload_n 1, 1) := by decide +kernel
theorem dX4_sham_57 : decode cX4_sham 57 = .ok (.ireturn, 1) := by decide +kernel
theorem dX4_odds_0 : decode cX4_odds 0 = .ok (.iload_n 1, 1) := by decide +kernel
theorem dX4_odds_1 : decode cX4_odds 1 = .ok (.iconst 0, 1) := by decide +kernel
theorem dX4_odds_2 : decode cX4_odds 2 = .ok (.bipush 10, 2) := by decide +kernel
theorem dX4_odds_4 : decode cX4_odds 4 = .ok (.invokestatic 67, 3) := by decide +kernel
theorem dX4_odds_7 : decode cX4_odds 7 = .ok (.ifCond .eq 12, 3) := by decide +kernel
theorem dX4_odds_10 : decode cX4_odds 10 = .ok (.iload_n 2, 1) := by decide +kernel
theorem dX4_odds_11 : decode cX4_odds 11 = .ok (.iconst 0, 1) := by decide +kernel
theorem dX4_odds_12 : decode cX4_odds 12 = .ok (.iconst 1, 1) := by decide +kernel
theorem dX4_odds_13 : decode cX4_odds 13 = .ok (.invokestatic 67, 3) := by decide +kernel
theorem dX4_odds_16 : decode cX4_odds 16 = .ok (.ifCond .ne 5, 3) := by decide +kernel
theorem dX4_odds_19 : decode cX4_odds 19 = .ok (.iconst (-1), 1) := by decide +kernel
theorem dX4_odds_20 : decode cX4_odds 20 = .ok (.ireturn, 1) := by decide +kernel
theorem dX4_odds_21 : decode cX4_odds 21 = .ok (.iconst 0, 1) := by decide +kernel
theorem dX4_odds_22 : decode cX4_odds 22 = .ok (.istore_n 3, 1) := by decide +kernel
theorem dX4_odds_23 : decode cX4_odds 23 = .ok (.iconst 0, 1) := by decide +kernel
theorem dX4_odds_24 : decode cX4_odds 24 = .ok (.istore 4, 2) := by decide +kernel
theorem dX4_odds_26 : decode cX4_odds 26 = .ok (.iload 4, 2) := by decide +kernel
theorem dX4_odds_28 : decode cX4_odds 28 = .ok (.aload_n 0, 1) := by decide +kernel
theorem dX4_odds_29 : decode cX4_odds 29 = .ok (.getfield 13, 3) := by decide +kernel
theorem dX4_odds_32 : decode cX4_odds 32 = .ok (.iconst 3, 1) := by decide +kernel
theorem dX4_odds_33 : decode cX4_odds 33 = .ok (.iaload, 1) := by decide +kernel
theorem dX4_odds_34 : decode cX4_odds 34 = .ok (.if_icmp .ge 39, 3) := by decide +kernel
theorem dX4_odds_37 : decode cX4_odds 37 = .ok (.iload_n 3, 1) := by decide +kernel
theorem dX4_odds_38 : decode cX4_odds 38 = .ok (.aload_n 0, 1) := by decide +kernel
theorem dX4_odds_39 : decode cX4_odds 39 = .ok (.getfield 13, 3) := by decide +kernel
theorem dX4_odds_42 : decode cX4_odds 42 = .ok (.bipush 44, 2) := by decide +kernel
theorem dX4_odds_44 : decode cX4_odds 44 = .ok (.iload 4, 2) := by decide +kernel
theorem dX4_odds_46 : decode cX4_odds 46 = .ok (.iadd, 1) := by decide +kernel
theorem dX4_odds_47 : decode cX4_odds 47 = .ok (.iaload, 1) := by decide +kernel
theorem dX4_odds_48 : decode cX4_odds 48 = .ok (.aload_n 0, 1) := by decide +kernel
theorem dX4_odds_49 : decode cX4_odds 49 = .ok (.getfield 19, 3) := by decide +kernel
theorem dX4_odds_52 : decode cX4_odds 52 = .ok (.iconst 1, 1) := by decide +kernel
theorem dX4_odds_53 : decode cX4_odds 53 = .ok (.iaload, 1) := by decide +kernel
theorem dX4_odds_54 : decode cX4_odds 54 = .ok (.if_icmp .ne 10, 3) := by decide +kernel
theorem dX4_odds_57 : decode cX4_odds 57 = .ok (.iconst 1, 1) := by decide +kernel
theorem dX4_odds_58 : decode cX4_odds 58 = .ok (.iload 4, 2) := by decide +kernel
theorem dX4_odds_60 : decode cX4_odds 60 = .ok (.ishl, 1) := by decide +kernel
theorem dX4_odds_61 : decode cX4_odds 61 = .ok (.goto 4, 3) := by decide +kernel
theorem dX4_odds_64 : decode cX4_odds 64 = .ok (.iconst 0, 1) := by decide +kernel
theorem dX4_odds_65 : decode cX4_odds 65 = .ok (.ior, 1) := by decide +kernel
theorem dX4_odds_66 : decode cX4_odds 66 = .ok (.istore_n 3, 1) := by decide +kernel
theorem dX4_odds_67 : decode cX4_odds 67 = .ok (.iinc 4 1, 3) := by decide +kernel
theorem dX4_odds_70 : decode cX4_odds 70 = .ok (.goto (-44), 3) := by decide +kernel
theorem dX4_odds_73 : decode cX4_odds 73 = .ok (.iconst 0, 1) := by decide +kernel
theorem dX4_odds_74 : decode cX4_odds 74 = .ok (.istore 4, 2) := by decide +kernel
theorem dX4_odds_76 : decode cX4_odds 76 = .ok (.iconst 1, 1) := by decide +kernel
theorem dX4_odds_77 : decode cX4_odds 77 = .ok (.istore 5, 2) := by decide +kernel
theorem dX4_odds_79 : decode cX4_odds 79 = .ok (.iconst 0, 1) := by decide +kernel
theorem dX4_odds_80 : decode cX4_odds 80 = .ok (.istore 6, 2) := by decide +kernel
theorem dX4_odds_82 : decode cX4_odds 82 = .ok (.iload 6, 2) := by decide +kernel
theorem dX4_odds_84 : decode cX4_odds 84 = .ok (.iload_n 3, 1) := by decide +kernel
theorem dX4_odds_85 : decode cX4_odds 85 = .ok (.invokestatic 155, 3) := by decide +kernel
theorem dX4_odds_88 : decode cX4_odds 88 = .ok (.if_icmp .ge 16, 3) := by decide +kernel
theorem dX4_odds_91 : decode cX4_odds 91 = .ok (.iload 5, 2) := by decide +kernel
theorem dX4_odds_93 : decode cX4_odds 93 = .ok (.bipush 10, 2) := by decide +kernel
theorem dX4_odds_95 : decode cX4_odds 95 = .ok (.imul, 1) := by decide +kernel
theorem dX4_odds_96 : decode cX4_odds 96 = .ok (.istore 5, 2) := by decide +kernel
theorem dX4_odds_98 : decode cX4_odds 98 = .ok (.iinc 6 1, 3) := by decide +kernel
theorem dX4_odds_101 : decode cX4_odds 101 = .ok (.goto (-19), 3) := by decide +kernel
theorem dX4_odds_104 : decode cX4_odds 104 = .ok (.iconst 0, 1) := by decide +kernel
theorem dX4_odds_105 : decode cX4_odds 105 = .ok (.istore 6, 2) := by decide +kernel
theorem dX4_odds_107 : decode cX4_odds 107 = .ok (.iload 6, 2) := by decide +kernel
theorem dX4_odds_109 : decode cX4_odds 109 = .ok (.bipush 64, 2) := by decide +kernel
theorem dX4_odds_111 : decode cX4_odds 111 = .ok (.if_icmp .ge 111, 3) := by decide +kernel
theorem dX4_odds_114 : decode cX4_odds 114 = .ok (.iload 6, 2) := by decide +kernel
theorem dX4_odds_116 : decode cX4_odds 116 = .ok (.iload_n 3, 1) := by decide +kernel
theorem dX4_odds_117 : decode cX4_odds 117 = .ok (.iconst (-1), 1) := by decide +kernel
theorem dX4_odds_118 : decode cX4_odds 118 = .ok (.ixor, 1) := by decide +kernel
theorem dX4_odds_119 : decode cX4_odds 119 = .ok (.iand, 1) := by decide +kernel
theorem dX4_odds_120 : decode cX4_odds 120 = .ok (.ifCond .ne 96, 3) := by decide +kernel
theorem dX4_odds_123 : decode cX4_odds 123 = .ok (.iconst 1, 1) := by decide +kernel
theorem dX4_odds_124 : decode cX4_odds 124 = .ok (.istore 7, 2) := by decide +kernel
theorem dX4_odds_126 : decode cX4_odds 126 = .ok (.iconst 0, 1) := by decide +kernel
theorem dX4_odds_127 : decode cX4_odds 127 = .ok (.istore 8, 2) := by decide +kernel
theorem dX4_odds_129 : decode cX4_odds 129 = .ok (.iload 8, 2) := by decide +kernel
theorem dX4_odds_131 : decode cX4_odds 131 = .ok (.bipush 6, 2) := by decide +kernel
theorem dX4_odds_133 : decode cX4_odds 133 = .ok (.if_icmp .ge 46, 3) := by decide +kernel
theorem dX4_odds_136 : decode cX4_odds 136 = .ok (.iload 7, 2) := by decide +kernel
theorem dX4_odds_138 : decode cX4_odds 138 = .ok (.iload_n 3, 1) := by decide +kernel
theorem dX4_odds_139 : decode cX4_odds 139 = .ok (.iload 8, 2) := by decide +kernel
theorem dX4_odds_141 : decode cX4_odds 141 = .ok (.ishr, 1) := by decide +kernel
theorem dX4_odds_142 : decode cX4_odds 142 = .ok (.iconst 1, 1) := by decide +kernel
theorem dX4_odds_143 : decode cX4_odds 143 = .ok (.iand, 1) := by decide +kernel
theorem dX4_odds_144 : decode cX4_odds 144 = .ok (.ifCond .ne 7, 3) := by decide +kernel
theorem dX4_odds_147 : decode cX4_odds 147 = .ok (.iconst 1, 1) := by decide +kernel
theorem dX4_odds_148 : decode cX4_odds 148 = .ok (.goto 22, 3) := by decide +kernel
theorem dX4_odds_151 : decode cX4_odds 151 = .ok (.iload 6, 2) := by decide +kernel
theorem dX4_odds_153 : decode cX4_odds 153 = .ok (.iload 8, 2) := by decide +kernel
theorem dX4_odds_155 : decode cX4_odds 155 = .ok (.ishr, 1) := by decide +kernel
theorem dX4_odds_156 : decode cX4_odds 156 = .ok (.iconst 1, 1) := by decide +kernel
theorem dX4_odds_157 : decode cX4_odds 157 = .ok (.iand, 1) := by decide +kernel
theorem dX4_odds_158 : decode cX4_odds 158 = .ok (.iconst 1, 1) := by decide +kernel
theorem dX4_odds_159 : decode cX4_odds 159 = .ok (.if_icmp .ne 7, 3) := by decide +kernel
theorem dX4_odds_162 : decode cX4_odds 162 = .ok (.iload_n 1, 1) := by decide +kernel
theorem dX4_odds_163 : decode cX4_odds 163 = .ok (.goto 7, 3) := by decide +kernel
theorem dX4_odds_166 : decode cX4_odds 166 = .ok (.bipush 10, 2) := by decide +kernel
theorem dX4_odds_168 : decode cX4_odds 168 = .ok (.iload_n 1, 1) := by decide +kernel
theorem dX4_odds_169 : decode cX4_odds 169 = .ok (.isub, 1) := by decide +kernel
theorem dX4_odds_170 : decode cX4_odds 170 = .ok (.imul, 1) := by decide +kernel
theorem dX4_odds_171 : decode cX4_odds 171 = .ok (.istore 7, 2) := by decide +kernel
theorem dX4_odds_173 : decode cX4_odds 173 = .ok (.iinc 8 1, 3) := by decide +kernel
theorem dX4_odds_176 : decode cX4_odds 176 = .ok (.goto (-47), 3) := by decide +kernel
theorem dX4_odds_179 : decode cX4_odds 179 = .ok (.aload_n 0, 1) := by decide +kernel
theorem dX4_odds_180 : decode cX4_odds 180 = .ok (.iload 6, 2) := by decide +kernel
theorem dX4_odds_182 : decode cX4_odds 182 = .ok (.putfield 35, 3) := by decide +kernel
theorem dX4_odds_185 : decode cX4_odds 185 = .ok (.iload 4, 2) := by decide +kernel
theorem dX4_odds_187 : decode cX4_odds 187 = .ok (.aload_n 0, 1) := by decide +kernel
theorem dX4_odds_188 : decode cX4_odds 188 = .ok (.aload_n 0, 1) := by decide +kernel
theorem dX4_odds_189 : decode cX4_odds 189 = .ok (.invokevirtual 158, 3) := by decide +kernel
theorem dX4_odds_192 : decode cX4_odds 192 = .ok (.invokevirtual 162, 3) := by decide +kernel
theorem dX4_odds_195 : decode cX4_odds 195 = .ok (.invokestatic 155, 3) := by decide +kernel
theorem dX4_odds_198 : decode cX4_odds 198 = .ok (.aload_n 0, 1) := by decide +kernel
theorem dX4_odds_199 : decode cX4_odds 199 = .ok (.getfield 13, 3) := by decide +kernel
theorem dX4_odds_202 : decode cX4_odds 202 = .ok (.iconst 1, 1) := by decide +kernel
theorem dX4_odds_203 : decode cX4_odds 203 = .ok (.iaload, 1) := by decide +kernel
theorem dX4_odds_204 : decode cX4_odds 204 = .ok (.if_icmp .lt 8, 3) := by decide +kernel
theorem dX4_odds_207 : decode cX4_odds 207 = .ok (.iload 7, 2) := by decide +kernel
theorem dX4_odds_209 : decode cX4_odds 209 = .ok (.goto 4, 3) := by decide +kernel
theorem dX4_odds_212 : decode cX4_odds 212 = .ok (.iconst 0, 1) := by decide +kernel
theorem dX4_odds_213 : decode cX4_odds 213 = .ok (.iadd, 1) := by decide +kernel
theorem dX4_odds_214 : decode cX4_odds 214 = .ok (.istore 4, 2) := by decide +kernel
theorem dX4_odds_216 : decode cX4_odds 216 = .ok (.iinc 6 1, 3) := by decide +kernel
theorem dX4_odds_219 : decode cX4_odds 219 = .ok (.goto (-112), 3) := by decide +kernel
theorem dX4_odds_222 : decode cX4_odds 222 = .ok (.aload_n 0, 1) := by decide +kernel
theorem dX4_odds_223 : decode cX4_odds 223 = .ok (.bipush 63, 2) := by decide +kernel
theorem dX4_odds_225 : decode cX4_odds 225 = .ok (.putfield 35, 3) := by decide +kernel
theorem dX4_odds_228 : decode cX4_odds 228 = .ok (.iload 4, 2) := by decide +kernel
theorem dX4_odds_230 : decode cX4_odds 230 = .ok (.istore 6, 2) := by decide +kernel
theorem dX4_odds_232 : decode cX4_odds 232 = .ok (.iload 5, 2) := by decide +kernel
theorem dX4_odds_234 : decode cX4_odds 234 = .ok (.istore 7, 2) := by decide +kernel
theorem dX4_odds_236 : decode cX4_odds 236 = .ok (.iload 7, 2) := by decide +kernel
theorem dX4_odds_238 : decode cX4_odds 238 = .ok (.ifCond .le 21, 3) := by decide +kernel
theorem dX4_odds_241 : decode cX4_odds 241 = .ok (.iload 6, 2) := by decide +kernel
theorem dX4_odds_243 : decode cX4_odds 243 = .ok (.iload 7, 2) := by decide +kernel
theorem dX4_odds_245 : decode cX4_odds 245 = .ok (.irem, 1) := by decide +kernel
theorem dX4_odds_246 : decode cX4_odds 246 = .ok (.istore 8, 2) := by decide +kernel
theorem dX4_odds_248 : decode cX4_odds 248 = .ok (.iload 7, 2) := by decide +kernel
theorem dX4_odds_250 : decode cX4_odds 250 = .ok (.istore 6, 2) := by decide +kernel
theorem dX4_odds_252 : decode cX4_odds 252 = .ok (.iload 8, 2) := by decide +kernel
theorem dX4_odds_254 : decode cX4_odds 254 = .ok (.istore 7, 2) := by decide +kernel
theorem dX4_odds_256 : decode cX4_odds 256 = .ok (.goto (-20), 3) := by decide +kernel
theorem dX4_odds_259 : decode cX4_odds 259 = .ok (.iload_n 2, 1) := by decide +kernel
theorem dX4_odds_260 : decode cX4_odds 260 = .ok (.ifCond .ne 11, 3) := by decide +kernel
theorem dX4_odds_263 : decode cX4_odds 263 = .ok (.iload 4, 2) := by decide +kernel
theorem dX4_odds_265 : decode cX4_odds 265 = .ok (.iload 6, 2) := by decide +kernel
theorem dX4_odds_267 : decode cX4_odds 267 = .ok (.idiv, 1) := by decide +kernel
theorem dX4_odds_268 : decode cX4_odds 268 = .ok (.goto 8, 3) := by decide +kernel
theorem dX4_odds_271 : decode cX4_odds 271 = .ok (.iload 5, 2) := by decide +kernel
theorem dX4_odds_273 : decode cX4_odds 273 = .ok (.iload 6, 2) := by decide +kernel
theorem dX4_odds_275 : decode cX4_odds 275 = .ok (.idiv, 1) := by decide +kernel
theorem dX4_odds_276 : decode cX4_odds 276 = .ok (.ireturn, 1) := by decide +kernel
theorem dX4_rate_0 : decode cX4_rate 0 = .ok (.iload_n 1, 1) := by decide +kernel
theorem dX4_rate_1 : decode cX4_rate 1 = .ok (.iconst 0, 1) := by decide +kernel
theorem dX4_rate_2 : decode cX4_rate 2 = .ok (.iconst 5, 1) := by decide +kernel
theorem dX4_rate_3 : decode cX4_rate 3 = .ok (.invokestatic 67, 3) := by decide +kernel
theorem dX4_rate_6 : decode cX4_rate 6 = .ok (.ifCond .eq 11, 3) := by decide +kernel
theorem dX4_rate_9 : decode cX4_rate 9 = .ok (.aload_n 0, 1) := by decide +kernel
theorem dX4_rate_10 : decode cX4_rate 10 = .ok (.iload_n 2, 1) := by decide +kernel
theorem dX4_rate_11 : decode cX4_rate 11 = .ok (.invokevirtual 136, 3) := by decide +kernel
theorem dX4_rate_14 : decode cX4_rate 14 = .ok (.ifCond .ne 6, 3) := by decide +kernel
theorem dX4_rate_17 : decode cX4_rate 17 = .ok (.ldc 197, 2) := by decide +kernel
theorem dX4_rate_19 : decode cX4_rate 19 = .ok (.ireturn, 1) := by decide +kernel
theorem dX4_rate_20 : decode cX4_rate 20 = .ok (.aload_n 0, 1) := by decide +kernel
theorem dX4_rate_21 : decode cX4_rate 21 = .ok (.dup, 1) := by decide +kernel
theorem dX4_rate_22 : decode cX4_rate 22 = .ok (.getfield 198, 3) := by decide +kernel
theorem dX4_rate_25 : decode cX4_rate 25 = .ok (.iload_n 1, 1) := by decide +kernel
theorem dX4_rate_26 : decode cX4_rate 26 = .ok (.ifCond .ne 7, 3) := by decide +kernel
theorem dX4_rate_29 : decode cX4_rate 29 = .ok (.lconst 1, 1) := by decide +kernel
theorem dX4_rate_30 : decode cX4_rate 30 = .ok (.goto 50, 3) := by decide +kernel
theorem dX4_rate_33 : decode cX4_rate 33 = .ok (.iload_n 1, 1) := by decide +kernel
theorem dX4_rate_34 : decode cX4_rate 34 = .ok (.iconst 1, 1) := by decide +kernel
theorem dX4_rate_35 : decode cX4_rate 35 = .ok (.if_icmp .ne 9, 3) := by decide +kernel
theorem dX4_rate_38 : decode cX4_rate 38 = .ok (.ldc2_w 202, 3) := by decide +kernel
theorem dX4_rate_41 : decode cX4_rate 41 = .ok (.goto 39, 3) := by decide +kernel
theorem dX4_rate_44 : decode cX4_rate 44 = .ok (.iload_n 1, 1) := by decide +kernel
theorem dX4_rate_45 : decode cX4_rate 45 = .ok (.iconst 2, 1) := by decide +kernel
theorem dX4_rate_46 : decode cX4_rate 46 = .ok (.if_icmp .ne 9, 3) := by decide +kernel
theorem dX4_rate_49 : decode cX4_rate 49 = .ok (.ldc2_w 204, 3) := by decide +kernel
theorem dX4_rate_52 : decode cX4_rate 52 = .ok (.goto 28, 3) := by decide +kernel
theorem dX4_rate_55 : decode cX4_rate 55 = .ok (.iload_n 1, 1) := by decide +kernel
theorem dX4_rate_56 : decode cX4_rate 56 = .ok (.iconst 3, 1) := by decide +kernel
theorem dX4_rate_57 : decode cX4_rate 57 = .ok (.if_icmp .ne 9, 3) := by decide +kernel
theorem dX4_rate_60 : decode cX4_rate 60 = .ok (.ldc2_w 206, 3) := by decide +kernel
theorem dX4_rate_63 : decode cX4_rate 63 = .ok (.goto 17, 3) := by decide +kernel
theorem dX4_rate_66 : decode cX4_rate 66 = .ok (.iload_n 1, 1) := by decide +kernel
theorem dX4_rate_67 : decode cX4_rate 67 = .ok (.iconst 4, 1) := by decide +kernel
theorem dX4_rate_68 : decode cX4_rate 68 = .ok (.if_icmp .ne 9, 3) := by decide +kernel
theorem dX4_rate_71 : decode cX4_rate 71 = .ok (.ldc2_w 208, 3) := by decide +kernel
theorem dX4_rate_74 : decode cX4_rate 74 = .ok (.goto 6, 3) := by decide +kernel
theorem dX4_rate_77 : decode cX4_rate 77 = .ok (.ldc2_w 210, 3) := by decide +kernel
theorem dX4_rate_80 : decode cX4_rate 80 = .ok (.ladd, 1) := by decide +kernel
theorem dX4_rate_81 : decode cX4_rate 81 = .ok (.putfield 198, 3) := by decide +kernel
theorem dX4_rate_84 : decode cX4_rate 84 = .ok (.aload_n 0, 1) := by decide +kernel
theorem dX4_rate_85 : decode cX4_rate 85 = .ok (.getfield 19, 3) := by decide +kernel
theorem dX4_rate_88 : decode cX4_rate 88 = .ok (.iconst 3, 1) := by decide +kernel
theorem dX4_rate_89 : decode cX4_rate 89 = .ok (.iload_n 2, 1) := by decide +kernel
theorem dX4_rate_90 : decode cX4_rate 90 = .ok (.iadd, 1) := by decide +kernel
theorem dX4_rate_91 : decode cX4_rate 91 = .ok (.iaload, 1) := by decide +kernel
theorem dX4_rate_92 : decode cX4_rate 92 = .ok (.istore_n 3, 1) := by decide +kernel
theorem dX4_rate_93 : decode cX4_rate 93 = .ok (.iload_n 3, 1) := by decide +kernel
theorem dX4_rate_94 : decode cX4_rate 94 = .ok (.aload_n 0, 1) := by decide +kernel
theorem dX4_rate_95 : decode cX4_rate 95 = .ok (.getfield 13, 3) := by decide +kernel
theorem dX4_rate_98 : decode cX4_rate 98 = .ok (.bipush 26, 2) := by decide +kernel
theorem dX4_rate_100 : decode cX4_rate 100 = .ok (.iload_n 2, 1) := by decide +kernel
theorem dX4_rate_101 : decode cX4_rate 101 = .ok (.iadd, 1) := by decide +kernel
theorem dX4_rate_102 : decode cX4_rate 102 = .ok (.iaload, 1) := by decide +kernel
theorem dX4_rate_103 : decode cX4_rate 103 = .ok (.invokestatic 155, 3) := by decide +kernel
theorem dX4_rate_106 : decode cX4_rate 106 = .ok (.iadd, 1) := by decide +kernel
theorem dX4_rate_107 : decode cX4_rate 107 = .ok (.istore 4, 2) := by decide +kernel
theorem dX4_rate_109 : decode cX4_rate 109 = .ok (.iload_n 3, 1) := by decide +kernel
theorem dX4_rate_110 : decode cX4_rate 110 = .ok (.aload_n 0, 1) := by decide +kernel
theorem dX4_rate_111 : decode cX4_rate 111 = .ok (.getfield 13, 3) := by decide +kernel
theorem dX4_rate_114 : decode cX4_rate 114 = .ok (.bipush 32, 2) := by decide +kernel
theorem dX4_rate_116 : decode cX4_rate 116 = .ok (.iload_n 2, 1) := by decide +kernel
theorem dX4_rate_117 : decode cX4_rate 117 = .ok (.iadd, 1) := by decide +kernel
theorem dX4_rate_118 : decode cX4_rate 118 = .ok (.iaload, 1) := by decide +kernel
theorem dX4_rate_119 : decode cX4_rate 119 = .ok (.isub, 1) := by decide +kernel
theorem dX4_rate_120 : decode cX4_rate 120 = .ok (.istore 5, 2) := by decide +kernel
theorem dX4_rate_122 : decode cX4_rate 122 = .ok (.iload_n 1, 1) := by decide +kernel
theorem dX4_rate_123 : decode cX4_rate 123 = .ok (.ifCond .ne 7, 3) := by decide +kernel
theorem dX4_rate_126 : decode cX4_rate 126 = .ok (.iload_n 3, 1) := by decide +kernel
theorem dX4_rate_127 : decode cX4_rate 127 = .ok (.goto 58, 3) := by decide +kernel
theorem dX4_rate_130 : decode cX4_rate 130 = .ok (.iload_n 1, 1) := by decide +kernel
theorem dX4_rate_131 : decode cX4_rate 131 = .ok (.iconst 1, 1) := by decide +kernel
theorem dX4_rate_132 : decode cX4_rate 132 = .ok (.if_icmp .ne 8, 3) := by decide +kernel
theorem dX4_rate_135 : decode cX4_rate 135 = .ok (.iload 4, 2) := by decide +kernel
theorem dX4_rate_137 : decode cX4_rate 137 = .ok (.goto 48, 3) := by decide +kernel
theorem dX4_rate_140 : decode cX4_rate 140 = .ok (.iload_n 1, 1) := by decide +kernel
theorem dX4_rate_141 : decode cX4_rate 141 = .ok (.iconst 2, 1) := by decide +kernel
theorem dX4_rate_142 : decode cX4_rate 142 = .ok (.if_icmp .ne 8, 3) := by decide +kernel
theorem dX4_rate_145 : decode cX4_rate 145 = .ok (.iload 5, 2) := by decide +kernel
theorem dX4_rate_147 : decode cX4_rate 147 = .ok (.goto 38, 3) := by decide +kernel
theorem dX4_rate_150 : decode cX4_rate 150 = .ok (.iload_n 1, 1) := by decide +kernel
theorem dX4_rate_151 : decode cX4_rate 151 = .ok (.iconst 3, 1) := by decide +kernel
theorem dX4_rate_152 : decode cX4_rate 152 = .ok (.if_icmp .ne 10, 3) := by decide +kernel
theorem dX4_rate_155 : decode cX4_rate 155 = .ok (.iconst 2, 1) := by decide +kernel
theorem dX4_rate_156 : decode cX4_rate 156 = .ok (.iload 4, 2) := by decide +kernel
theorem dX4_rate_158 : decode cX4_rate 158 = .ok (.imul, 1) := by decide +kernel
theorem dX4_rate_159 : decode cX4_rate 159 = .ok (.goto 26, 3) := by decide +kernel
theorem dX4_rate_162 : decode cX4_rate 162 = .ok (.iload_n 1, 1) := by decide +kernel
theorem dX4_rate_163 : decode cX4_rate 163 = .ok (.iconst 4, 1) := by decide +kernel
theorem dX4_rate_164 : decode cX4_rate 164 = .ok (.if_icmp .ne 10, 3) := by decide +kernel
theorem dX4_rate_167 : decode cX4_rate 167 = .ok (.iload 5, 2) := by decide +kernel
theorem dX4_rate_169 : decode cX4_rate 169 = .ok (.iload_n 2, 1) := by decide +kernel
theorem dX4_rate_170 : decode cX4_rate 170 = .ok (.iadd, 1) := by decide +kernel
theorem dX4_rate_171 : decode cX4_rate 171 = .ok (.goto 14, 3) := by decide +kernel
theorem dX4_rate_174 : decode cX4_rate 174 = .ok (.iload_n 3, 1) := by decide +kernel
theorem dX4_rate_175 : decode cX4_rate 175 = .ok (.aload_n 0, 1) := by decide +kernel
theorem dX4_rate_176 : decode cX4_rate 176 = .ok (.getfield 19, 3) := by decide +kernel
theorem dX4_rate_179 : decode cX4_rate 179 = .ok (.bipush 15, 2) := by decide +kernel
theorem dX4_rate_181 : decode cX4_rate 181 = .ok (.iload_n 2, 1) := by decide +kernel
theorem dX4_rate_182 : decode cX4_rate 182 = .ok (.iadd, 1) := by decide +kernel
theorem dX4_rate_183 : decode cX4_rate 183 = .ok (.iaload, 1) := by decide +kernel
theorem dX4_rate_184 : decode cX4_rate 184 = .ok (.iadd, 1) := by decide +kernel
theorem dX4_rate_185 : decode cX4_rate 185 = .ok (.ireturn, 1) := by decide +kernel
theorem dX4_keep_0 : decode cX4_keep 0 = .ok (.iload_n 1, 1) := by decide +kernel
theorem dX4_keep_1 : decode cX4_keep 1 = .ok (.iconst 0, 1) := by decide +kernel
theorem dX4_keep_2 : decode cX4_keep 2 = .ok (.iconst 1, 1) := by decide +kernel
theorem dX4_keep_3 : decode cX4_keep 3 = .ok (.invokestatic 67, 3) := by decide +kernel
theorem dX4_keep_6 : decode cX4_keep 6 = .ok (.ifCond .ne 5, 3) := by decide +kernel
theorem dX4_keep_9 : decode cX4_keep 9 = .ok (.iconst (-1), 1) := by decide +kernel
theorem dX4_keep_10 : decode cX4_keep 10 = .ok (.ireturn, 1) := by decide +kernel
theorem dX4_keep_11 : decode cX4_keep 11 = .ok (.iconst 0, 1) := by decide +kernel
theorem dX4_keep_12 : decode cX4_keep 12 = .ok (.istore_n 2, 1) := by decide +kernel
theorem dX4_keep_13 : decode cX4_keep 13 = .ok (.iload_n 2, 1) := by decide +kernel
theorem dX4_keep_14 : decode cX4_keep 14 = .ok (.bipush 21, 2) := by decide +kernel
theorem dX4_keep_16 : decode cX4_keep 16 = .ok (.if_icmp .ge 26, 3) := by decide +kernel
theorem dX4_keep_19 : decode cX4_keep 19 = .ok (.aload_n 0, 1) := by decide +kernel
theorem dX4_keep_20 : decode cX4_keep 20 = .ok (.getfield 25, 3) := by decide +kernel
theorem dX4_keep_23 : decode cX4_keep 23 = .ok (.bipush 21, 2) := by decide +kernel
theorem dX4_keep_25 : decode cX4_keep 25 = .ok (.iload_n 1, 1) := by decide +kernel
theorem dX4_keep_26 : decode cX4_keep 26 = .ok (.imul, 1) := by decide +kernel
theorem dX4_keep_27 : decode cX4_keep 27 = .ok (.iload_n 2, 1) := by decide +kernel
theorem dX4_keep_28 : decode cX4_keep 28 = .ok (.iadd, 1) := by decide +kernel
theorem dX4_keep_29 : decode cX4_keep 29 = .ok (.aload_n 0, 1) := by decide +kernel
theorem dX4_keep_30 : decode cX4_keep 30 = .ok (.getfield 19, 3) := by decide +kernel
theorem dX4_keep_33 : decode cX4_keep 33 = .ok (.iload_n 2, 1) := by decide +kernel
theorem dX4_keep_34 : decode cX4_keep 34 = .ok (.iaload, 1) := by decide +kernel
theorem dX4_keep_35 : decode cX4_keep 35 = .ok (.iastore, 1) := by decide +kernel
theorem dX4_keep_36 : decode cX4_keep 36 = .ok (.iinc 2 1, 3) := by decide +kernel
theorem dX4_keep_39 : decode cX4_keep 39 = .ok (.goto (-26), 3) := by decide +kernel
theorem dX4_keep_42 : decode cX4_keep 42 = .ok (.aload_n 0, 1) := by decide +kernel
theorem dX4_keep_43 : decode cX4_keep 43 = .ok (.getfield 28, 3) := by decide +kernel
theorem dX4_keep_46 : decode cX4_keep 46 = .ok (.iload_n 1, 1) := by decide +kernel
theorem dX4_keep_47 : decode cX4_keep 47 = .ok (.iconst 1, 1) := by decide +kernel
theorem dX4_keep_48 : decode cX4_keep 48 = .ok (.bastore, 1) := by decide +kernel
theorem dX4_keep_49 : decode cX4_keep 49 = .ok (.aload_n 0, 1) := by decide +kernel
theorem dX4_keep_50 : decode cX4_keep 50 = .ok (.getfield 19, 3) := by decide +kernel
theorem dX4_keep_53 : decode cX4_keep 53 = .ok (.iconst 0, 1) := by decide +kernel
theorem dX4_keep_54 : decode cX4_keep 54 = .ok (.iaload, 1) := by decide +kernel
theorem dX4_keep_55 : decode cX4_keep 55 = .ok (.ireturn, 1) := by decide +kernel
theorem dX4_back_0 : decode cX4_back 0 = .ok (.iload_n 1, 1) := by decide +kernel
theorem dX4_back_1 : decode cX4_back 1 = .ok (.iconst 0, 1) := by decide +kernel
theorem dX4_back_2 : decode cX4_back 2 = .ok (.iconst 1, 1) := by decide +kernel
theorem dX4_back_3 : decode cX4_back 3 = .ok (.invokestatic 67, 3) := by decide +kernel
theorem dX4_back_6 : decode cX4_back 6 = .ok (.ifCond .ne 5, 3) := by decide +kernel
theorem dX4_back_9 : decode cX4_back 9 = .ok (.iconst (-1), 1) := by decide +kernel
theorem dX4_back_10 : decode cX4_back 10 = .ok (.ireturn, 1) := by decide +kernel
theorem dX4_back_11 : decode cX4_back 11 = .ok (.aload_n 0, 1) := by decide +kernel
theorem dX4_back_12 : decode cX4_back 12 = .ok (.getfield 28, 3) := by decide +kernel
theorem dX4_back_15 : decode cX4_back 15 = .ok (.iload_n 1, 1) := by decide +kernel
theorem dX4_back_16 : decode cX4_back 16 = .ok (.baload, 1) := by decide +kernel
theorem dX4_back_17 : decode cX4_back 17 = .ok (.ifCond .ne 6, 3) := by decide +kernel
theorem dX4_back_20 : decode cX4_back 20 = .ok (.bipush (-2), 2) := by decide +kernel
theorem dX4_back_22 : decode cX4_back 22 = .ok (.ireturn, 1) := by decide +kernel
theorem dX4_back_23 : decode cX4_back 23 = .ok (.iconst 0, 1) := by decide +kernel
theorem dX4_back_24 : decode cX4_back 24 = .ok (.istore_n 2, 1) := by decide +kernel
theorem dX4_back_25 : decode cX4_back 25 = .ok (.iload_n 2, 1) := by decide +kernel
theorem dX4_back_26 : decode cX4_back 26 = .ok (.bipush 21, 2) := by decide +kernel
theorem dX4_back_28 : decode cX4_back 28 = .ok (.if_icmp .ge 26, 3) := by decide +kernel
theorem dX4_back_31 : decode cX4_back 31 = .ok (.aload_n 0, 1) := by decide +kernel
theorem dX4_back_32 : decode cX4_back 32 = .ok (.getfield 19, 3) := by decide +kernel
theorem dX4_back_35 : decode cX4_back 35 = .ok (.iload_n 2, 1) := by decide +kernel
theorem dX4_back_36 : decode cX4_back 36 = .ok (.aload_n 0, 1) := by decide +kernel
theorem dX4_back_37 : decode cX4_back 37 = .ok (.getfield 25, 3) := by decide +kernel
theorem dX4_back_40 : decode cX4_back 40 = .ok (.bipush 21, 2) := by decide +kernel
theorem dX4_back_42 : decode cX4_back 42 = .ok (.iload_n 1, 1) := by decide +kernel
theorem dX4_back_43 : decode cX4_back 43 = .ok (.imul, 1) := by decide +kernel
theorem dX4_back_44 : decode cX4_back 44 = .ok (.iload_n 2, 1) := by decide +kernel
theorem dX4_back_45 : decode cX4_back 45 = .ok (.iadd, 1) := by decide +kernel
theorem dX4_back_46 : decode cX4_back 46 = .ok (.iaload, 1) := by decide +kernel
theorem dX4_back_47 : decode cX4_back 47 = .ok (.iastore, 1) := by decide +kernel
theorem dX4_back_48 : decode cX4_back 48 = .ok (.iinc 2 1, 3) := by decide +kernel
theorem dX4_back_51 : decode cX4_back 51 = .ok (.goto (-26), 3) := by decide +kernel
theorem dX4_back_54 : decode cX4_back 54 = .ok (.aload_n 0, 1) := by decide +kernel
theorem dX4_back_55 : decode cX4_back 55 = .ok (.iconst 0, 1) := by decide +kernel
theorem dX4_back_56 : decode cX4_back 56 = .ok (.putfield 127, 3) := by decide +kernel
theorem dX4_back_59 : decode cX4_back 59 = .ok (.aload_n 0, 1) := by decide +kernel
theorem dX4_back_60 : decode cX4_back 60 = .ok (.getfield 19, 3) := by decide +kernel
theorem dX4_back_63 : decode cX4_back 63 = .ok (.iconst 0, 1) := by decide +kernel
theorem dX4_back_64 : decode cX4_back 64 = .ok (.iaload, 1) := by decide +kernel
theorem dX4_back_65 : decode cX4_back 65 = .ok (.ireturn, 1) := by decide +kernel
theorem dX4_count_0 : decode cX4_count 0 = .ok (.iload_n 1, 1) := by decide +kernel
theorem dX4_count_1 : decode cX4_count 1 = .ok (.iconst 0, 1) := by decide +kernel
theorem dX4_count_2 : decode cX4_count 2 = .ok (.iconst 5, 1) := by decide +kernel
theorem dX4_count_3 : decode cX4_count 3 = .ok (.invokestatic 67, 3) := by decide +kernel
theorem dX4_count_6 : decode cX4_count 6 = .ok (.ifCond .ne 5, 3) := by decide +kernel
theorem dX4_count_9 : decode cX4_count 9 = .ok (.iconst (-1), 1) := by decide +kernel
theorem dX4_count_10 : decode cX4_count 10 = .ok (.ireturn, 1) := by decide +kernel
theorem dX4_count_11 : decode cX4_count 11 = .ok (.iload_n 1, 1) := by decide +kernel
theorem dX4_count_12 : decode cX4_count 12 = .ok (.iconst 4, 1) := by decide +kernel
theorem dX4_count_13 : decode cX4_count 13 = .ok (.if_icmp .ge 12, 3) := by decide +kernel
theorem dX4_count_16 : decode cX4_count 16 = .ok (.aload_n 0, 1) := by decide +kernel
theorem dX4_count_17 : decode cX4_count 17 = .ok (.getfield 13, 3) := by decide +kernel
theorem dX4_count_20 : decode cX4_count 20 = .ok (.iload_n 1, 1) := by decide +kernel
theorem dX4_count_21 : decode cX4_count 21 = .ok (.iaload, 1) := by decide +kernel
theorem dX4_count_22 : decode cX4_count 22 = .ok (.goto 19, 3) := by decide +kernel
theorem dX4_count_25 : decode cX4_count 25 = .ok (.iload_n 1, 1) := by decide +kernel
theorem dX4_count_26 : decode cX4_count 26 = .ok (.iconst 4, 1) := by decide +kernel
theorem dX4_count_27 : decode cX4_count 27 = .ok (.if_icmp .ne 10, 3) := by decide +kernel
theorem dX4_count_30 : decode cX4_count 30 = .ok (.aload_n 0, 1) := by decide +kernel
theorem dX4_count_31 : decode cX4_count 31 = .ok (.getfield 130, 3) := by decide +kernel
theorem dX4_count_34 : decode cX4_count 34 = .ok (.goto 7, 3) := by decide +kernel
theorem dX4_count_37 : decode cX4_count 37 = .ok (.aload_n 0, 1) := by decide +kernel
theorem dX4_count_38 : decode cX4_count 38 = .ok (.getfield 71, 3) := by decide +kernel
theorem dX4_count_41 : decode cX4_count 41 = .ok (.ireturn, 1) := by decide +kernel
theorem dX4_trace_0 : decode cX4_trace 0 = .ok (.aload_n 0, 1) := by decide +kernel
theorem dX4_trace_1 : decode cX4_trace 1 = .ok (.getfield 198, 3) := by decide +kernel
theorem dX4_trace_4 : decode cX4_trace 4 = .ok (.lreturn, 1) := by decide +kernel
