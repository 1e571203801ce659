theorem dX3_wakingCost_0 : decode cX3_wakingCost 0 = .ok (.iload_n 1, 1) := by decide +kernel
theorem dX3_wakingCost_1 : decode cX3_wakingCost 1 = .ok (.aload_n 0, 1) := by decide +kernel
theorem dX3_wakingCost_2 : decode cX3_wakingCost 2 = .ok (.getfield 19, 3) := by decide +kernel
theorem dX3_wakingCost_5 : decode cX3_wakingCost 5 = .ok (.iload_n 2, 1) := by decide +kernel
theorem dX3_wakingCost_6 : decode cX3_wakingCost 6 = .ok (.iload_n 3, 1) := by decide +kernel
theorem dX3_wakingCost_7 : decode cX3_wakingCost 7 = .ok (.invokevirtual 237, 3) := by decide +kernel
theorem dX3_wakingCost_10 : decode cX3_wakingCost 10 = .ok (.iand, 1) := by decide +kernel
theorem dX3_wakingCost_11 : decode cX3_wakingCost 11 = .ok (.invokestatic 179, 3) := by decide +kernel
theorem dX3_wakingCost_14 : decode cX3_wakingCost 14 = .ok (.bipush 8, 2) := by decide +kernel
theorem dX3_wakingCost_16 : decode cX3_wakingCost 16 = .ok (.imul, 1) := by decide +kernel
theorem dX3_wakingCost_17 : decode cX3_wakingCost 17 = .ok (.ireturn, 1) := by decide +kernel
theorem dX3_driveOn_0 : decode cX3_driveOn 0 = .ok (.aload_n 0, 1) := by decide +kernel
theorem dX3_driveOn_1 : decode cX3_driveOn 1 = .ok (.getfield 62, 3) := by decide +kernel
theorem dX3_driveOn_4 : decode cX3_driveOn 4 = .ok (.iload_n 2, 1) := by decide +kernel
theorem dX3_driveOn_5 : decode cX3_driveOn 5 = .ok (.iaload, 1) := by decide +kernel
theorem dX3_driveOn_6 : decode cX3_driveOn 6 = .ok (.sipush 1000, 3) := by decide +kernel
theorem dX3_driveOn_9 : decode cX3_driveOn 9 = .ok (.if_icmp .lt 4, 3) := by decide +kernel
theorem dX3_driveOn_12 : decode cX3_driveOn 12 = .ok (.return_, 1) := by decide +kernel
theorem dX3_driveOn_13 : decode cX3_driveOn 13 = .ok (.iconst 0, 1) := by decide +kernel
theorem dX3_driveOn_14 : decode cX3_driveOn 14 = .ok (.istore 4, 2) := by decide +kernel
theorem dX3_driveOn_16 : decode cX3_driveOn 16 = .ok (.iload 4, 2) := by decide +kernel
theorem dX3_driveOn_18 : decode cX3_driveOn 18 = .ok (.aload_n 0, 1) := by decide +kernel
theorem dX3_driveOn_19 : decode cX3_driveOn 19 = .ok (.getfield 19, 3) := by decide +kernel
theorem dX3_driveOn_22 : decode cX3_driveOn 22 = .ok (.getfield 149, 3) := by decide +kernel
theorem dX3_driveOn_25 : decode cX3_driveOn 25 = .ok (.if_icmp .ge 60, 3) := by decide +kernel
theorem dX3_driveOn_28 : decode cX3_driveOn 28 = .ok (.aload_n 0, 1) := by decide +kernel
theorem dX3_driveOn_29 : decode cX3_driveOn 29 = .ok (.getfield 19, 3) := by decide +kernel
theorem dX3_driveOn_32 : decode cX3_driveOn 32 = .ok (.getfield 94, 3) := by decide +kernel
theorem dX3_driveOn_35 : decode cX3_driveOn 35 = .ok (.iload_n 2, 1) := by decide +kernel
theorem dX3_driveOn_36 : decode cX3_driveOn 36 = .ok (.iaload, 1) := by decide +kernel
theorem dX3_driveOn_37 : decode cX3_driveOn 37 = .ok (.iload 4, 2) := by decide +kernel
theorem dX3_driveOn_39 : decode cX3_driveOn 39 = .ok (.invokestatic 223, 3) := by decide +kernel
theorem dX3_driveOn_42 : decode cX3_driveOn 42 = .ok (.ifCond .eq 37, 3) := by decide +kernel
theorem dX3_driveOn_45 : decode cX3_driveOn 45 = .ok (.aload_n 0, 1) := by decide +kernel
theorem dX3_driveOn_46 : decode cX3_driveOn 46 = .ok (.getfield 62, 3) := by decide +kernel
theorem dX3_driveOn_49 : decode cX3_driveOn 49 = .ok (.iload 4, 2) := by decide +kernel
theorem dX3_driveOn_51 : decode cX3_driveOn 51 = .ok (.aload_n 0, 1) := by decide +kernel
theorem dX3_driveOn_52 : decode cX3_driveOn 52 = .ok (.getfield 62, 3) := by decide +kernel
theorem dX3_driveOn_55 : decode cX3_driveOn 55 = .ok (.iload 4, 2) := by decide +kernel
theorem dX3_driveOn_57 : decode cX3_driveOn 57 = .ok (.iaload, 1) := by decide +kernel
theorem dX3_driveOn_58 : decode cX3_driveOn 58 = .ok (.aload_n 0, 1) := by decide +kernel
theorem dX3_driveOn_59 : decode cX3_driveOn 59 = .ok (.getfield 62, 3) := by decide +kernel
theorem dX3_driveOn_62 : decode cX3_driveOn 62 = .ok (.iload_n 2, 1) := by decide +kernel
theorem dX3_driveOn_63 : decode cX3_driveOn 63 = .ok (.iaload, 1) := by decide +kernel
theorem dX3_driveOn_64 : decode cX3_driveOn 64 = .ok (.iconst 1, 1) := by decide +kernel
theorem dX3_driveOn_65 : decode cX3_driveOn 65 = .ok (.iadd, 1) := by decide +kernel
theorem dX3_driveOn_66 : decode cX3_driveOn 66 = .ok (.aload_n 0, 1) := by decide +kernel
theorem dX3_driveOn_67 : decode cX3_driveOn 67 = .ok (.iload_n 1, 1) := by decide +kernel
theorem dX3_driveOn_68 : decode cX3_driveOn 68 = .ok (.iload 4, 2) := by decide +kernel
theorem dX3_driveOn_70 : decode cX3_driveOn 70 = .ok (.iload_n 3, 1) := by decide +kernel
theorem dX3_driveOn_71 : decode cX3_driveOn 71 = .ok (.invokevirtual 229, 3) := by decide +kernel
theorem dX3_driveOn_74 : decode cX3_driveOn 74 = .ok (.iadd, 1) := by decide +kernel
theorem dX3_driveOn_75 : decode cX3_driveOn 75 = .ok (.invokestatic 166, 3) := by decide +kernel
theorem dX3_driveOn_78 : decode cX3_driveOn 78 = .ok (.iastore, 1) := by decide +kernel
theorem dX3_driveOn_79 : decode cX3_driveOn 79 = .ok (.iinc 4 1, 3) := by decide +kernel
theorem dX3_driveOn_82 : decode cX3_driveOn 82 = .ok (.goto (-66), 3) := by decide +kernel
theorem dX3_driveOn_85 : decode cX3_driveOn 85 = .ok (.return_, 1) := by decide +kernel
theorem dX3_drum_0 : decode cX3_drum 0 = .ok (.aload_n 0, 1) := by decide +kernel
theorem dX3_drum_1 : decode cX3_drum 1 = .ok (.iload_n 1, 1) := by decide +kernel
theorem dX3_drum_2 : decode cX3_drum 2 = .ok (.invokevirtual 87, 3) := by decide +kernel
theorem dX3_drum_5 : decode cX3_drum 5 = .ok (.ifCond .ne 5, 3) := by decide +kernel
theorem dX3_drum_8 : decode cX3_drum 8 = .ok (.iconst (-1), 1) := by decide +kernel
theorem dX3_drum_9 : decode cX3_drum 9 = .ok (.ireturn, 1) := by decide +kernel
theorem dX3_drum_10 : decode cX3_drum 10 = .ok (.aload_n 0, 1) := by decide +kernel
theorem dX3_drum_11 : decode cX3_drum 11 = .ok (.getfield 19, 3) := by decide +kernel
theorem dX3_drum_14 : decode cX3_drum 14 = .ok (.aload_n 0, 1) := by decide +kernel
theorem dX3_drum_15 : decode cX3_drum 15 = .ok (.getfield 29, 3) := by decide +kernel
theorem dX3_drum_18 : decode cX3_drum 18 = .ok (.iconst (-1), 1) := by decide +kernel
theorem dX3_drum_19 : decode cX3_drum 19 = .ok (.invokevirtual 172, 3) := by decide +kernel
theorem dX3_drum_22 : decode cX3_drum 22 = .ok (.istore_n 2, 1) := by decide +kernel
theorem dX3_drum_23 : decode cX3_drum 23 = .ok (.bipush 9, 2) := by decide +kernel
theorem dX3_drum_25 : decode cX3_drum 25 = .ok (.istore_n 3, 1) := by decide +kernel
theorem dX3_drum_26 : decode cX3_drum 26 = .ok (.iload_n 3, 1) := by decide +kernel
theorem dX3_drum_27 : decode cX3_drum 27 = .ok (.ifCond .lt 31, 3) := by decide +kernel
theorem dX3_drum_30 : decode cX3_drum 30 = .ok (.aload_n 0, 1) := by decide +kernel
theorem dX3_drum_31 : decode cX3_drum 31 = .ok (.iload_n 2, 1) := by decide +kernel
theorem dX3_drum_32 : decode cX3_drum 32 = .ok (.aload_n 0, 1) := by decide +kernel
theorem dX3_drum_33 : decode cX3_drum 33 = .ok (.getfield 19, 3) := by decide +kernel
theorem dX3_drum_36 : decode cX3_drum 36 = .ok (.iload_n 1, 1) := by decide +kernel
theorem dX3_drum_37 : decode cX3_drum 37 = .ok (.iload_n 3, 1) := by decide +kernel
theorem dX3_drum_38 : decode cX3_drum 38 = .ok (.invokevirtual 237, 3) := by decide +kernel
theorem dX3_drum_41 : decode cX3_drum 41 = .ok (.iconst (-1), 1) := by decide +kernel
theorem dX3_drum_42 : decode cX3_drum 42 = .ok (.ixor, 1) := by decide +kernel
theorem dX3_drum_43 : decode cX3_drum 43 = .ok (.iand, 1) := by decide +kernel
theorem dX3_drum_44 : decode cX3_drum 44 = .ok (.invokevirtual 191, 3) := by decide +kernel
theorem dX3_drum_47 : decode cX3_drum 47 = .ok (.ifCond .ne 5, 3) := by decide +kernel
theorem dX3_drum_50 : decode cX3_drum 50 = .ok (.iload_n 3, 1) := by decide +kernel
theorem dX3_drum_51 : decode cX3_drum 51 = .ok (.ireturn, 1) := by decide +kernel
theorem dX3_drum_52 : decode cX3_drum 52 = .ok (.iinc 3 (-1), 3) := by decide +kernel
theorem dX3_drum_55 : decode cX3_drum 55 = .ok (.goto (-29), 3) := by decide +kernel
theorem dX3_drum_58 : decode cX3_drum 58 = .ok (.bipush (-9), 2) := by decide +kernel
theorem dX3_drum_60 : decode cX3_drum 60 = .ok (.ireturn, 1) := by decide +kernel
theorem dX3_wants_0 : decode cX3_wants 0 = .ok (.aload_n 0, 1) := by decide +kernel
theorem dX3_wants_1 : decode cX3_wants 1 = .ok (.iload_n 1, 1) := by decide +kernel
theorem dX3_wants_2 : decode cX3_wants 2 = .ok (.invokevirtual 87, 3) := by decide +kernel
theorem dX3_wants_5 : decode cX3_wants 5 = .ok (.ifCond .ne 5, 3) := by decide +kernel
theorem dX3_wants_8 : decode cX3_wants 8 = .ok (.iconst (-1), 1) := by decide +kernel
theorem dX3_wants_9 : decode cX3_wants 9 = .ok (.ireturn, 1) := by decide +kernel
theorem dX3_wants_10 : decode cX3_wants 10 = .ok (.aload_n 0, 1) := by decide +kernel
theorem dX3_wants_11 : decode cX3_wants 11 = .ok (.getfield 19, 3) := by decide +kernel
theorem dX3_wants_14 : decode cX3_wants 14 = .ok (.aload_n 0, 1) := by decide +kernel
theorem dX3_wants_15 : decode cX3_wants 15 = .ok (.getfield 29, 3) := by decide +kernel
theorem dX3_wants_18 : decode cX3_wants 18 = .ok (.invokevirtual 240, 3) := by decide +kernel
theorem dX3_wants_21 : decode cX3_wants 21 = .ok (.aload_n 0, 1) := by decide +kernel
theorem dX3_wants_22 : decode cX3_wants 22 = .ok (.getfield 19, 3) := by decide +kernel
theorem dX3_wants_25 : decode cX3_wants 25 = .ok (.getfield 244, 3) := by decide +kernel
theorem dX3_wants_28 : decode cX3_wants 28 = .ok (.iload_n 1, 1) := by decide +kernel
theorem dX3_wants_29 : decode cX3_wants 29 = .ok (.iaload, 1) := by decide +kernel
theorem dX3_wants_30 : decode cX3_wants 30 = .ok (.iand, 1) := by decide +kernel
theorem dX3_wants_31 : decode cX3_wants 31 = .ok (.invokestatic 179, 3) := by decide +kernel
theorem dX3_wants_34 : decode cX3_wants 34 = .ok (.ireturn, 1) := by decide +kernel
theorem dX3_counted_0 : decode cX3_counted 0 = .ok (.iload_n 1, 1) := by decide +kernel
theorem dX3_counted_1 : decode cX3_counted 1 = .ok (.ifCond .lt 19, 3) := by decide +kernel
theorem dX3_counted_4 : decode cX3_counted 4 = .ok (.iload_n 1, 1) := by decide +kernel
theorem dX3_counted_5 : decode cX3_counted 5 = .ok (.bipush 20, 2) := by decide +kernel
theorem dX3_counted_7 : decode cX3_counted 7 = .ok (.if_icmp .gt 13, 3) := by decide +kernel
theorem dX3_counted_10 : decode cX3_counted 10 = .ok (.iload_n 2, 1) := by decide +kernel
theorem dX3_counted_11 : decode cX3_counted 11 = .ok (.ifCond .lt 9, 3) := by decide +kernel
theorem dX3_counted_14 : decode cX3_counted 14 = .ok (.iload_n 2, 1) := by decide +kernel
theorem dX3_counted_15 : decode cX3_counted 15 = .ok (.bipush 6, 2) := by decide +kernel
theorem dX3_counted_17 : decode cX3_counted 17 = .ok (.if_icmp .le 5, 3) := by decide +kernel
theorem dX3_counted_20 : decode cX3_counted 20 = .ok (.iconst (-1), 1) := by decide +kernel
theorem dX3_counted_21 : decode cX3_counted 21 = .ok (.ireturn, 1) := by decide +kernel
theorem dX3_counted_22 : decode cX3_counted 22 = .ok (.aload_n 0, 1) := by decide +kernel
theorem dX3_counted_23 : decode cX3_counted 23 = .ok (.getfield 84, 3) := by decide +kernel
theorem dX3_counted_26 : decode cX3_counted 26 = .ok (.bipush 6, 2) := by decide +kernel
theorem dX3_counted_28 : decode cX3_counted 28 = .ok (.if_icmp .lt 6, 3) := by decide +kernel
theorem dX3_counted_31 : decode cX3_counted 31 = .ok (.bipush (-3), 2) := by decide +kernel
theorem dX3_counted_33 : decode cX3_counted 33 = .ok (.ireturn, 1) := by decide +kernel
theorem dX3_counted_34 : decode cX3_counted 34 = .ok (.aload_n 0, 1) := by decide +kernel
theorem dX3_counted_35 : decode cX3_counted 35 = .ok (.getfield 47, 3) := by decide +kernel
theorem dX3_counted_38 : decode cX3_counted 38 = .ok (.aload_n 0, 1) := by decide +kernel
theorem dX3_counted_39 : decode cX3_counted 39 = .ok (.getfield 84, 3) := by decide +kernel
theorem dX3_counted_42 : decode cX3_counted 42 = .ok (.iload_n 1, 1) := by decide +kernel
theorem dX3_counted_43 : decode cX3_counted 43 = .ok (.iastore, 1) := by decide +kernel
theorem dX3_counted_44 : decode cX3_counted 44 = .ok (.aload_n 0, 1) := by decide +kernel
theorem dX3_counted_45 : decode cX3_counted 45 = .ok (.getfield 51, 3) := by decide +kernel
theorem dX3_counted_48 : decode cX3_counted 48 = .ok (.aload_n 0, 1) := by decide +kernel
theorem dX3_counted_49 : decode cX3_counted 49 = .ok (.getfield 84, 3) := by decide +kernel
theorem dX3_counted_52 : decode cX3_counted 52 = .ok (.iload_n 2, 1) := by decide +kernel
theorem dX3_counted_53 : decode cX3_counted 53 = .ok (.iastore, 1) := by decide +kernel
theorem dX3_counted_54 : decode cX3_counted 54 = .ok (.aload_n 0, 1) := by decide +kernel
theorem dX3_counted_55 : decode cX3_counted 55 = .ok (.dup, 1) := by decide +kernel
theorem dX3_counted_56 : decode cX3_counted 56 = .ok (.getfield 84, 3) := by decide +kernel
theorem dX3_counted_59 : decode cX3_counted 59 = .ok (.iconst 1, 1) := by decide +kernel
theorem dX3_counted_60 : decode cX3_counted 60 = .ok (.iadd, 1) := by decide +kernel
theorem dX3_counted_61 : decode cX3_counted 61 = .ok (.putfield 84, 3) := by decide +kernel
theorem dX3_counted_64 : decode cX3_counted 64 = .ok (.aload_n 0, 1) := by decide +kernel
theorem dX3_counted_65 : decode cX3_counted 65 = .ok (.getfield 84, 3) := by decide +kernel
theorem dX3_counted_68 : decode cX3_counted 68 = .ok (.ireturn, 1) := by decide +kernel
theorem dX3_forget_0 : decode cX3_forget 0 = .ok (.aload_n 0, 1) := by decide +kernel
theorem dX3_forget_1 : decode cX3_forget 1 = .ok (.getfield 84, 3) := by decide +kernel
theorem dX3_forget_4 : decode cX3_forget 4 = .ok (.istore_n 1, 1) := by decide +kernel
theorem dX3_forget_5 : decode cX3_forget 5 = .ok (.aload_n 0, 1) := by decide +kernel
theorem dX3_forget_6 : decode cX3_forget 6 = .ok (.iconst 0, 1) := by decide +kernel
theorem dX3_forget_7 : decode cX3_forget 7 = .ok (.putfield 84, 3) := by decide +kernel
theorem dX3_forget_10 : decode cX3_forget 10 = .ok (.iload_n 1, 1) := by decide +kernel
theorem dX3_forget_11 : decode cX3_forget 11 = .ok (.ireturn, 1) := by decide +kernel
theorem dX3_sham_0 : decode cX3_sham 0 = .ok (.iconst 0, 1) := by decide +kernel
theorem dX3_sham_1 : decode cX3_sham 1 = .ok (.istore_n 1, 1) := by decide +kernel
theorem dX3_sham_2 : decode cX3_sham 2 = .ok (.iconst 0, 1) := by decide +kernel
theorem dX3_sham_3 : decode cX3_sham 3 = .ok (.istore_n 2, 1) := by decide +kernel
theorem dX3_sham_4 : decode cX3_sham 4 = .ok (.iload_n 2, 1) := by decide +kernel
theorem dX3_sham_5 : decode cX3_sham 5 = .ok (.aload_n 0, 1) := by decide +kernel
theorem dX3_sham_6 : decode cX3_sham 6 = .ok (.getfield 19, 3) := by decide +kernel
theorem dX3_sham_9 : decode cX3_sham 9 = .ok (.getfield 146, 3) := by decide +kernel
theorem dX3_sham_12 : decode cX3_sham 12 = .ok (.if_icmp .ge 23, 3) := by decide +kernel
theorem dX3_sham_15 : decode cX3_sham 15 = .ok (.aload_n 0, 1) := by decide +kernel
theorem dX3_sham_16 : decode cX3_sham 16 = .ok (.iload_n 2, 1) := by decide +kernel
theorem dX3_sham_17 : decode cX3_sham 17 = .ok (.invokevirtual 247, 3) := by decide +kernel
theorem dX3_sham_20 : decode cX3_sham 20 = .ok (.ifCond .eq 9, 3) := by decide +kernel
theorem dX3_sham_23 : decode cX3_sham 23 = .ok (.iload_n 1, 1) := by decide +kernel
theorem dX3_sham_24 : decode cX3_sham 24 = .ok (.iconst 1, 1) := by decide +kernel
theorem dX3_sham_25 : decode cX3_sham 25 = .ok (.iload_n 2, 1) := by decide +kernel
theorem dX3_sham_26 : decode cX3_sham 26 = .ok (.ishl, 1) := by decide +kernel
theorem dX3_sham_27 : decode cX3_sham 27 = .ok (.ior, 1) := by decide +kernel
theorem dX3_sham_28 : decode cX3_sham 28 = .ok (.istore_n 1, 1) := by decide +kernel
theorem dX3_sham_29 : decode cX3_sham 29 = .ok (.iinc 2 1, 3) := by decide +kernel
theorem dX3_sham_32 : decode cX3_sham 32 = .ok (.goto (-28), 3) := by decide +kernel
theorem dX3_sham_35 : decode cX3_sham 35 = .ok (.iload_n 1, 1) := by decide +kernel
theorem dX3_sham_36 : decode cX3_sham 36 = .ok (.ireturn, 1) := by decide +kernel
theorem dX3_makesCountsSo_0 : decode cX3_makesCountsSo 0 = .ok (.aload_n 0, 1) := by decide +kernel
theorem dX3_makesCountsSo_1 : decode cX3_makesCountsSo 1 = .ok (.getfield 33, 3) := by decide +kernel
theorem dX3_makesCountsSo_4 : decode cX3_makesCountsSo 4 = .ok (.aload_n 0, 1) := by decide +kernel
theorem dX3_makesCountsSo_5 : decode cX3_makesCountsSo 5 = .ok (.getfield 19, 3) := by decide +kernel
theorem dX3_makesCountsSo_8 : decode cX3_makesCountsSo 8 = .ok (.invokevirtual 69, 3) := by decide +kernel
theorem dX3_makesCountsSo_11 : decode cX3_makesCountsSo 11 = .ok (.aload_n 0, 1) := by decide +kernel
theorem dX3_makesCountsSo_12 : decode cX3_makesCountsSo 12 = .ok (.getfield 29, 3) := by decide +kernel
theorem dX3_makesCountsSo_15 : decode cX3_makesCountsSo 15 = .ok (.getfield 112, 3) := by decide +kernel
theorem dX3_makesCountsSo_18 : decode cX3_makesCountsSo 18 = .ok (.iconst 0, 1) := by decide +kernel
theorem dX3_makesCountsSo_19 : decode cX3_makesCountsSo 19 = .ok (.aload_n 0, 1) := by decide +kernel
theorem dX3_makesCountsSo_20 : decode cX3_makesCountsSo 20 = .ok (.getfield 33, 3) := by decide +kernel
theorem dX3_makesCountsSo_23 : decode cX3_makesCountsSo 23 = .ok (.getfield 112, 3) := by decide +kernel
theorem dX3_makesCountsSo_26 : decode cX3_makesCountsSo 26 = .ok (.iconst 0, 1) := by decide +kernel
theorem dX3_makesCountsSo_27 : decode cX3_makesCountsSo 27 = .ok (.bipush 6, 2) := by decide +kernel
theorem dX3_makesCountsSo_29 : decode cX3_makesCountsSo 29 = .ok (.invokestatic 193, 3) := by decide +kernel
theorem dX3_makesCountsSo_32 : decode cX3_makesCountsSo 32 = .ok (.aload_n 0, 1) := by decide +kernel
theorem dX3_makesCountsSo_33 : decode cX3_makesCountsSo 33 = .ok (.invokevirtual 250, 3) := by decide +kernel
theorem dX3_makesCountsSo_36 : decode cX3_makesCountsSo 36 = .ok (.istore_n 2, 1) := by decide +kernel
theorem dX3_makesCountsSo_37 : decode cX3_makesCountsSo 37 = .ok (.iconst 0, 1) := by decide +kernel
theorem dX3_makesCountsSo_38 : decode cX3_makesCountsSo 38 = .ok (.istore_n 3, 1) := by decide +kernel
theorem dX3_makesCountsSo_39 : decode cX3_makesCountsSo 39 = .ok (.iload_n 3, 1) := by decide +kernel
theorem dX3_makesCountsSo_40 : decode cX3_makesCountsSo 40 = .ok (.iload_n 2, 1) := by decide +kernel
theorem dX3_makesCountsSo_41 : decode cX3_makesCountsSo 41 = .ok (.if_icmp .gt 57, 3) := by decide +kernel
theorem dX3_makesCountsSo_44 : decode cX3_makesCountsSo 44 = .ok (.aload_n 0, 1) := by decide +kernel
theorem dX3_makesCountsSo_45 : decode cX3_makesCountsSo 45 = .ok (.getfield 19, 3) := by decide +kernel
theorem dX3_makesCountsSo_48 : decode cX3_makesCountsSo 48 = .ok (.aload_n 0, 1) := by decide +kernel
theorem dX3_makesCountsSo_49 : decode cX3_makesCountsSo 49 = .ok (.getfield 33, 3) := by decide +kernel
theorem dX3_makesCountsSo_52 : decode cX3_makesCountsSo 52 = .ok (.iconst (-1), 1) := by decide +kernel
theorem dX3_makesCountsSo_53 : decode cX3_makesCountsSo 53 = .ok (.invokevirtual 172, 3) := by decide +kernel
theorem dX3_makesCountsSo_56 : decode cX3_makesCountsSo 56 = .ok (.iconst 1, 1) := by decide +kernel
theorem dX3_makesCountsSo_57 : decode cX3_makesCountsSo 57 = .ok (.iload_n 1, 1) := by decide +kernel
theorem dX3_makesCountsSo_58 : decode cX3_makesCountsSo 58 = .ok (.ishl, 1) := by decide +kernel
theorem dX3_makesCountsSo_59 : decode cX3_makesCountsSo 59 = .ok (.iconst (-1), 1) := by decide +kernel
theorem dX3_makesCountsSo_60 : decode cX3_makesCountsSo 60 = .ok (.ixor, 1) := by decide +kernel
theorem dX3_makesCountsSo_61 : decode cX3_makesCountsSo 61 = .ok (.iand, 1) := by decide +kernel
theorem dX3_makesCountsSo_62 : decode cX3_makesCountsSo 62 = .ok (.istore 4, 2) := by decide +kernel
theorem dX3_makesCountsSo_64 : decode cX3_makesCountsSo 64 = .ok (.aload_n 0, 1) := by decide +kernel
theorem dX3_makesCountsSo_65 : decode cX3_makesCountsSo 65 = .ok (.iload_n 3, 1) := by decide +kernel
theorem dX3_makesCountsSo_66 : decode cX3_makesCountsSo 66 = .ok (.iload 4, 2) := by decide +kernel
theorem dX3_makesCountsSo_68 : decode cX3_makesCountsSo 68 = .ok (.invokestatic 179, 3) := by decide +kernel
theorem dX3_makesCountsSo_71 : decode cX3_makesCountsSo 71 = .ok (.invokevirtual 253, 3) := by decide +kernel
theorem dX3_makesCountsSo_74 : decode cX3_makesCountsSo 74 = .ok (.ifCond .ne 5, 3) := by decide +kernel
theorem dX3_makesCountsSo_77 : decode cX3_makesCountsSo 77 = .ok (.iconst 0, 1) := by decide +kernel
theorem dX3_makesCountsSo_78 : decode cX3_makesCountsSo 78 = .ok (.ireturn, 1) := by decide +kernel
theorem dX3_makesCountsSo_79 : decode cX3_makesCountsSo 79 = .ok (.aload_n 0, 1) := by decide +kernel
theorem dX3_makesCountsSo_80 : decode cX3_makesCountsSo 80 = .ok (.getfield 33, 3) := by decide +kernel
theorem dX3_makesCountsSo_83 : decode cX3_makesCountsSo 83 = .ok (.aload_n 0, 1) := by decide +kernel
theorem dX3_makesCountsSo_84 : decode cX3_makesCountsSo 84 = .ok (.getfield 19, 3) := by decide +kernel
theorem dX3_makesCountsSo_87 : decode cX3_makesCountsSo 87 = .ok (.iload 4, 2) := by decide +kernel
theorem dX3_makesCountsSo_89 : decode cX3_makesCountsSo 89 = .ok (.invokevirtual 175, 3) := by decide +kernel
theorem dX3_makesCountsSo_92 : decode cX3_makesCountsSo 92 = .ok (.iinc 3 1, 3) := by decide +kernel
theorem dX3_makesCountsSo_95 : decode cX3_makesCountsSo 95 = .ok (.goto (-56), 3) := by decide +kernel
theorem dX3_makesCountsSo_98 : decode cX3_makesCountsSo 98 = .ok (.iconst 1, 1) := by decide +kernel
theorem dX3_makesCountsSo_99 : decode cX3_makesCountsSo 99 = .ok (.ireturn, 1) := by decide +kernel
theorem dX3_lastCounted_0 : decode cX3_lastCounted 0 = .ok (.iconst (-1), 1) := by decide +kernel
theorem dX3_lastCounted_1 : decode cX3_lastCounted 1 = .ok (.istore_n 1, 1) := by decide +kernel
theorem dX3_lastCounted_2 : decode cX3_lastCounted 2 = .ok (.iconst 0, 1) := by decide +kernel
theorem dX3_lastCounted_3 : decode cX3_lastCounted 3 = .ok (.istore_n 2, 1) := by decide +kernel
theorem dX3_lastCounted_4 : decode cX3_lastCounted 4 = .ok (.iload_n 2, 1) := by decide +kernel
theorem dX3_lastCounted_5 : decode cX3_lastCounted 5 = .ok (.aload_n 0, 1) := by decide +kernel
theorem dX3_lastCounted_6 : decode cX3_lastCounted 6 = .ok (.getfield 84, 3) := by decide +kernel
theorem dX3_lastCounted_9 : decode cX3_lastCounted 9 = .ok (.if_icmp .ge 20, 3) := by decide +kernel
theorem dX3_lastCounted_12 : decode cX3_lastCounted 12 = .ok (.iload_n 1, 1) := by decide +kernel
theorem dX3_lastCounted_13 : decode cX3_lastCounted 13 = .ok (.aload_n 0, 1) := by decide +kernel
theorem dX3_lastCounted_14 : decode cX3_lastCounted 14 = .ok (.getfield 47, 3) := by decide +kernel
theorem dX3_lastCounted_17 : decode cX3_lastCounted 17 = .ok (.iload_n 2, 1) := by decide +kernel
theorem dX3_lastCounted_18 : decode cX3_lastCounted 18 = .ok (.iaload, 1) := by decide +kernel
theorem dX3_lastCounted_19 : decode cX3_lastCounted 19 = .ok (.invokestatic 226, 3) := by decide +kernel
theorem dX3_lastCounted_22 : decode cX3_lastCounted 22 = .ok (.istore_n 1, 1) := by decide +kernel
theorem dX3_lastCounted_23 : decode cX3_lastCounted 23 = .ok (.iinc 2 1, 3) := by decide +kernel
theorem dX3_lastCounted_26 : decode cX3_lastCounted 26 = .ok (.goto (-22), 3) := by decide +kernel
theorem dX3_lastCounted_29 : decode cX3_lastCounted 29 = .ok (.iload_n 1, 1) := by decide +kernel
theorem dX3_lastCounted_30 : decode cX3_lastCounted 30 = .ok (.ireturn, 1) := by decide +kernel
theorem dX3_isAsCounted_0 : decode cX3_isAsCounted 0 = .ok (.iconst 0, 1) := by decide +kernel
theorem dX3_isAsCounted_1 : decode cX3_isAsCounted 1 = .ok (.istore_n 3, 1) := by decide +kernel
theorem dX3_isAsCounted_2 : decode cX3_isAsCounted 2 = .ok (.iload_n 3, 1) := by decide +kernel
theorem dX3_isAsCounted_3 : decode cX3_isAsCounted 3 = .ok (.aload_n 0, 1) := by decide +kernel
theorem dX3_isAsCounted_4 : decode cX3_isAsCounted 4 = .ok (.getfield 84, 3) := by decide +kernel
theorem dX3_isAsCounted_7 : decode cX3_isAsCounted 7 = .ok (.if_icmp .ge 31, 3) := by decide +kernel
theorem dX3_isAsCounted_10 : decode cX3_isAsCounted 10 = .ok (.aload_n 0, 1) := by decide +kernel
theorem dX3_isAsCounted_11 : decode cX3_isAsCounted 11 = .ok (.getfield 47, 3) := by decide +kernel
theorem dX3_isAsCounted_14 : decode cX3_isAsCounted 14 = .ok (.iload_n 3, 1) := by decide +kernel
theorem dX3_isAsCounted_15 : decode cX3_isAsCounted 15 = .ok (.iaload, 1) := by decide +kernel
theorem dX3_isAsCounted_16 : decode cX3_isAsCounted 16 = .ok (.iload_n 1, 1) := by decide +kernel
theorem dX3_isAsCounted_17 : decode cX3_isAsCounted 17 = .ok (.if_icmp .ne 15, 3) := by decide +kernel
theorem dX3_isAsCounted_20 : decode cX3_isAsCounted 20 = .ok (.aload_n 0, 1) := by decide +kernel
theorem dX3_isAsCounted_21 : decode cX3_isAsCounted 21 = .ok (.getfield 51, 3) := by decide +kernel
theorem dX3_isAsCounted_24 : decode cX3_isAsCounted 24 = .ok (.iload_n 3, 1) := by decide +kernel
theorem dX3_isAsCounted_25 : decode cX3_isAsCounted 25 = .ok (.iaload, 1) := by decide +kernel
theorem dX3_isAsCounted_26 : decode cX3_isAsCounted 26 = .ok (.iload_n 2, 1) := by decide +kernel
theorem dX3_isAsCounted_27 : decode cX3_isAsCounted 27 = .ok (.if_icmp .eq 5, 3) := by decide +kernel
theorem dX3_isAsCounted_30 : decode cX3_isAsCounted 30 = .ok (.iconst 0, 1) := by decide +kernel
theorem dX3_isAsCounted_31 : decode cX3_isAsCounted 31 = .ok (.ireturn, 1) := by decide +kernel
theorem dX3_isAsCounted_32 : decode cX3_isAsCounted 32 = .ok (.iinc 3 1, 3) := by decide +kernel
theorem dX3_isAsCounted_35 : decode cX3_isAsCounted 35 = .ok (.goto (-33), 3) := by decide +kernel
theorem dX3_isAsCounted_38 : decode cX3_isAsCounted 38 = .ok (.iconst 1, 1) := by decide +kernel
theorem dX3_isAsCounted_39 : decode cX3_isAsCounted 39 = .ok (.ireturn, 1) := by decide +kernel
theorem dX3_odds_0 : decode cX3_odds 0 = .ok (.iload_n 1, 1) := by decide +kernel
theorem dX3_odds_1 : decode cX3_odds 1 = .ok (.ifCond .lt 18, 3) := by decide +kernel
theorem dX3_odds_4 : decode cX3_odds 4 = .ok (.iload_n 1, 1) := by decide +kernel
theorem dX3_odds_5 : decode cX3_odds 5 = .ok (.bipush 10, 2) := by decide +kernel
theorem dX3_odds_7 : decode cX3_odds 7 = .ok (.if_icmp .gt 12, 3) := by decide +kernel
theorem dX3_odds_10 : decode cX3_odds 10 = .ok (.iload_n 2, 1) := by decide +kernel
theorem dX3_odds_11 : decode cX3_odds 11 = .ok (.ifCond .lt 8, 3) := by decide +kernel
theorem dX3_odds_14 : decode cX3_odds 14 = .ok (.iload_n 2, 1) := by decide +kernel
theorem dX3_odds_15 : decode cX3_odds 15 = .ok (.iconst 1, 1) := by decide +kernel
theorem dX3_odds_16 : decode cX3_odds 16 = .ok (.if_icmp .le 5, 3) := by decide +kernel
theorem dX3_odds_19 : decode cX3_odds 19 = .ok (.iconst (-1), 1) := by decide +kernel
theorem dX3_odds_20 : decode cX3_odds 20 = .ok (.ireturn, 1) := by decide +kernel
theorem dX3_odds_21 : decode cX3_odds 21 = .ok (.aload_n 0, 1) := by decide +kernel
theorem dX3_odds_22 : decode cX3_odds 22 = .ok (.getfield 19, 3) := by decide +kernel
theorem dX3_odds_25 : decode cX3_odds 25 = .ok (.aload_n 0, 1) := by decide +kernel
theorem dX3_odds_26 : decode cX3_odds 26 = .ok (.getfield 29, 3) := by decide +kernel
theorem dX3_odds_29 : decode cX3_odds 29 = .ok (.getfield 133, 3) := by decide +kernel
theorem dX3_odds_32 : decode cX3_odds 32 = .ok (.invokevirtual 256, 3) := by decide +kernel
theorem dX3_odds_35 : decode cX3_odds 35 = .ok (.istore_n 3, 1) := by decide +kernel
theorem dX3_odds_36 : decode cX3_odds 36 = .ok (.iload_n 3, 1) := by decide +kernel
theorem dX3_odds_37 : decode cX3_odds 37 = .ok (.invokestatic 179, 3) := by decide +kernel
theorem dX3_odds_40 : decode cX3_odds 40 = .ok (.istore 4, 2) := by decide +kernel
theorem dX3_odds_42 : decode cX3_odds 42 = .ok (.iconst 0, 1) := by decide +kernel
theorem dX3_odds_43 : decode cX3_odds 43 = .ok (.istore 5, 2) := by decide +kernel
theorem dX3_odds_45 : decode cX3_odds 45 = .ok (.aload_n 0, 1) := by decide +kernel
theorem dX3_odds_46 : decode cX3_odds 46 = .ok (.getfield 19, 3) := by decide +kernel
theorem dX3_odds_49 : decode cX3_odds 49 = .ok (.aload_n 0, 1) := by decide +kernel
theorem dX3_odds_50 : decode cX3_odds 50 = .ok (.getfield 29, 3) := by decide +kernel
theorem dX3_odds_53 : decode cX3_odds 53 = .ok (.iconst (-1), 1) := by decide +kernel
theorem dX3_odds_54 : decode cX3_odds 54 = .ok (.invokevirtual 259, 3) := by decide +kernel
theorem dX3_odds_57 : decode cX3_odds 57 = .ok (.istore 6, 2) := by decide +kernel
theorem dX3_odds_59 : decode cX3_odds 59 = .ok (.iconst 0, 1) := by decide +kernel
theorem dX3_odds_60 : decode cX3_odds 60 = .ok (.istore 7, 2) := by decide +kernel
theorem dX3_odds_62 : decode cX3_odds 62 = .ok (.iload 7, 2) := by decide +kernel
theorem dX3_odds_64 : decode cX3_odds 64 = .ok (.bipush 64, 2) := by decide +kernel
theorem dX3_odds_66 : decode cX3_odds 66 = .ok (.if_icmp .ge 70, 3) := by decide +kernel
theorem dX3_odds_69 : decode cX3_odds 69 = .ok (.iload 7, 2) := by decide +kernel
theorem dX3_odds_71 : decode cX3_odds 71 = .ok (.iload_n 3, 1) := by decide +kernel
theorem dX3_odds_72 : decode cX3_odds 72 = .ok (.iconst (-1), 1) := by decide +kernel
theorem dX3_odds_73 : decode cX3_odds 73 = .ok (.ixor, 1) := by decide +kernel
theorem dX3_odds_74 : decode cX3_odds 74 = .ok (.iand, 1) := by decide +kernel
theorem dX3_odds_75 : decode cX3_odds 75 = .ok (.ifCond .ne 55, 3) := by decide +kernel
theorem dX3_odds_78 : decode cX3_odds 78 = .ok (.aload_n 0, 1) := by decide +kernel
theorem dX3_odds_79 : decode cX3_odds 79 = .ok (.iload 6, 2) := by decide +kernel
theorem dX3_odds_81 : decode cX3_odds 81 = .ok (.aload_n 0, 1) := by decide +kernel
theorem dX3_odds_82 : decode cX3_odds 82 = .ok (.getfield 19, 3) := by decide +kernel
theorem dX3_odds_85 : decode cX3_odds 85 = .ok (.iload 7, 2) := by decide +kernel
theorem dX3_odds_87 : decode cX3_odds 87 = .ok (.invokevirtual 262, 3) := by decide +kernel
theorem dX3_odds_90 : decode cX3_odds 90 = .ok (.iconst (-1), 1) := by decide +kernel
theorem dX3_odds_91 : decode cX3_odds 91 = .ok (.ixor, 1) := by decide +kernel
theorem dX3_odds_92 : decode cX3_odds 92 = .ok (.iand, 1) := by decide +kernel
theorem dX3_odds_93 : decode cX3_odds 93 = .ok (.invokevirtual 191, 3) := by decide +kernel
theorem dX3_odds_96 : decode cX3_odds 96 = .ok (.ifCond .ne 34, 3) := by decide +kernel
theorem dX3_odds_99 : decode cX3_odds 99 = .ok (.iload 7, 2) := by decide +kernel
theorem dX3_odds_101 : decode cX3_odds 101 = .ok (.invokestatic 179, 3) := by decide +kernel
theorem dX3_odds_104 : decode cX3_odds 104 = .ok (.istore 8, 2) := by decide +kernel
theorem dX3_odds_106 : decode cX3_odds 106 = .ok (.iload 5, 2) := by decide +kernel
theorem dX3_odds_108 : decode cX3_odds 108 = .ok (.iload_n 1, 1) := by decide +kernel
theorem dX3_odds_109 : decode cX3_odds 109 = .ok (.iload 8, 2) := by decide +kernel
theorem dX3_odds_111 : decode cX3_odds 111 = .ok (.invokestatic 265, 3) := by decide +kernel
theorem dX3_odds_114 : decode cX3_odds 114 = .ok (.bipush 10, 2) := by decide +kernel
theorem dX3_odds_116 : decode cX3_odds 116 = .ok (.iload_n 1, 1) := by decide +kernel
theorem dX3_odds_117 : decode cX3_odds 117 = .ok (.isub, 1) := by decide +kernel
theorem dX3_odds_118 : decode cX3_odds 118 = .ok (.iload 4, 2) := by decide +kernel
theorem dX3_odds_120 : decode cX3_odds 120 = .ok (.iload 8, 2) := by decide +kernel
theorem dX3_odds_122 : decode cX3_odds 122 = .ok (.isub, 1) := by decide +kernel
theorem dX3_odds_123 : decode cX3_odds 123 = .ok (.invokestatic 265, 3) := by decide +kernel
theorem dX3_odds_126 : decode cX3_odds 126 = .ok (.imul, 1) := by decide +kernel
theorem dX3_odds_127 : decode cX3_odds 127 = .ok (.iadd, 1) := by decide +kernel
theorem dX3_odds_128 : decode cX3_odds 128 = .ok (.istore 5, 2) := by decide +kernel
theorem dX3_odds_130 : decode cX3_odds 130 = .ok (.iinc 7 1, 3) := by decide +kernel
theorem dX3_odds_133 : decode cX3_odds 133 = .ok (.goto (-71), 3) := by decide +kernel
theorem dX3_odds_136 : decode cX3_odds 136 = .ok (.iload 5, 2) := by decide +kernel
theorem dX3_odds_138 : decode cX3_odds 138 = .ok (.iload 4, 2) := by decide +kernel
theorem dX3_odds_140 : decode cX3_odds 140 = .ok (.iload_n 2, 1) := by decide +kernel
theorem dX3_odds_141 : decode cX3_odds 141 = .ok (.invokestatic 268, 3) := by decide +kernel
theorem dX3_odds_144 : decode cX3_odds 144 = .ok (.ireturn, 1) := by decide +kernel
theorem dX3_power_0 : decode cX3_power 0 = .ok (.iconst 1, 1) := by decide +kernel
theorem dX3_power_1 : decode cX3_power 1 = .ok (.istore_n 2, 1) := by decide +kernel
theorem dX3_power_2 : decode cX3_power 2 = .ok (.iconst 0, 1) := by decide +kernel
theorem dX3_power_3 : decode cX3_power 3 = .ok (.istore_n 3, 1) := by decide +kernel
theorem dX3_power_4 : decode cX3_power 4 = .ok (.iload_n 3, 1) := by decide +kernel
theorem dX3_power_5 : decode cX3_power 5 = .ok (.iload_n 1, 1) := by decide +kernel
theorem dX3_power_6 : decode cX3_power 6 = .ok (.if_icmp .ge 13, 3) := by decide +kernel
theorem dX3_power_9 : decode cX3_power 9 = .ok (.iload_n 2, 1) := by decide +kernel
theorem dX3_power_10 : decode cX3_power 10 = .ok (.iload_n 0, 1) := by decide +kernel
theorem dX3_power_11 : decode cX3_power 11 = .ok (.imul, 1) := by decide +kernel
theorem dX3_power_12 : decode cX3_power 12 = .ok (.istore_n 2, 1) := by decide +kernel
theorem dX3_power_13 : decode cX3_power 13 = .ok (.iinc 3 1, 3) := by decide +kernel
theorem dX3_power_16 : decode cX3_power 16 = .ok (.goto (-12), 3) := by decide +kernel
theorem dX3_power_19 : decode cX3_power 19 = .ok (.iload_n 2, 1) := by decide +kernel
theorem dX3_power_20 : decode cX3_power 20 = .ok (.ireturn, 1) := by decide +kernel
theorem dX3_inLeastTerms_0 : decode cX3_inLeastTerms 0 = .ok (.iload_n 0, 1) := by decide +kernel
theorem dX3_inLeastTerms_1 : decode cX3_inLeastTerms 1 = .ok (.istore_n 3, 1) := by decide +kernel
theorem dX3_inLeastTerms_2 : decode cX3_inLeastTerms 2 = .ok (.bipush 10, 2) := by decide +kernel
theorem dX3_inLeastTerms_4 : decode cX3_inLeastTerms 4 = .ok (.iload_n 1, 1) := by decide +kernel
theorem dX3_inLeastTerms_5 : decode cX3_inLeastTerms 5 = .ok (.invokestatic 265, 3) := by decide +kernel
theorem dX3_inLeastTerms_8 : decode cX3_inLeastTerms 8 = .ok (.istore 4, 2) := by decide +kernel
theorem dX3_inLeastTerms_10 : decode cX3_inLeastTerms 10 = .ok (.iconst 0, 1) := by decide +kernel
theorem dX3_inLeastTerms_11 : decode cX3_inLeastTerms 11 = .ok (.istore 5, 2) := by decide +kernel
theorem dX3_inLeastTerms_13 : decode cX3_inLeastTerms 13 = .ok (.iload 5, 2) := by decide +kernel
theorem dX3_inLeastTerms_15 : decode cX3_inLeastTerms 15 = .ok (.iload_n 1, 1) := by decide +kernel
theorem dX3_inLeastTerms_16 : decode cX3_inLeastTerms 16 = .ok (.if_icmp .ge 25, 3) := by decide +kernel
theorem dX3_inLeastTerms_19 : decode cX3_inLeastTerms 19 = .ok (.iload_n 3, 1) := by decide +kernel
theorem dX3_inLeastTerms_20 : decode cX3_inLeastTerms 20 = .ok (.iconst 2, 1) := by decide +kernel
theorem dX3_inLeastTerms_21 : decode cX3_inLeastTerms 21 = .ok (.irem, 1) := by decide +kernel
theorem dX3_inLeastTerms_22 : decode cX3_inLeastTerms 22 = .ok (.ifCond .ne 13, 3) := by decide +kernel
theorem dX3_inLeastTerms_25 : decode cX3_inLeastTerms 25 = .ok (.iload_n 3, 1) := by decide +kernel
theorem dX3_inLeastTerms_26 : decode cX3_inLeastTerms 26 = .ok (.iconst 2, 1) := by decide +kernel
theorem dX3_inLeastTerms_27 : decode cX3_inLeastTerms 27 = .ok (.idiv, 1) := by decide +kernel
theorem dX3_inLeastTerms_28 : decode cX3_inLeastTerms 28 = .ok (.istore_n 3, 1) := by decide +kernel
theorem dX3_inLeastTerms_29 : decode cX3_inLeastTerms 29 = .ok (.iload 4, 2) := by decide +kernel
theorem dX3_inLeastTerms_31 : decode cX3_inLeastTerms 31 = .ok (.iconst 2, 1) := by decide +kernel
theorem dX3_inLeastTerms_32 : decode cX3_inLeastTerms 32 = .ok (.idiv, 1) := by decide +kernel
theorem dX3_inLeastTerms_33 : decode cX3_inLeastTerms 33 = .ok (.istore 4, 2) := by decide +kernel
theorem dX3_inLeastTerms_35 : decode cX3_inLeastTerms 35 = .ok (.iinc 5 1, 3) := by decide +kernel
theorem dX3_inLeastTerms_38 : decode cX3_inLeastTerms 38 = .ok (.goto (-25), 3) := by decide +kernel
theorem dX3_inLeastTerms_41 : decode cX3_inLeastTerms 41 = .ok (.iconst 0, 1) := by decide +kernel
theorem dX3_inLeastTerms_42 : decode cX3_inLeastTerms 42 = .ok (.istore 5, 2) := by decide +kernel
theorem dX3_inLeastTerms_44 : decode cX3_inLeastTerms 44 = .ok (.iload 5, 2) := by decide +kernel
theorem dX3_inLeastTerms_46 : decode cX3_inLeastTerms 46 = .ok (.iload_n 1, 1) := by decide +kernel
theorem dX3_inLeastTerms_47 : decode cX3_inLeastTerms 47 = .ok (.if_icmp .ge 25, 3) := by decide +kernel
theorem dX3_inLeastTerms_50 : decode cX3_inLeastTerms 50 = .ok (.iload_n 3, 1) := by decide +kernel
theorem dX3_inLeastTerms_51 : decode cX3_inLeastTerms 51 = .ok (.iconst 5, 1) := by decide +kernel
theorem dX3_inLeastTerms_52 : decode cX3_inLeastTerms 52 = .ok (.irem, 1) := by decide +kernel
theorem dX3_inLeastTerms_53 : decode cX3_inLeastTerms 53 = .ok (.ifCond .ne 13, 3) := by decide +kernel
theorem dX3_inLeastTerms_56 : decode cX3_inLeastTerms 56 = .ok (.iload_n 3, 1) := by decide +kernel
theorem dX3_inLeastTerms_57 : decode cX3_inLeastTerms 57 = .ok (.iconst 5, 1) := by decide +kernel
theorem dX3_inLeastTerms_58 : decode cX3_inLeastTerms 58 = .ok (.idiv, 1) := by decide +kernel
theorem dX3_inLeastTerms_59 : decode cX3_inLeastTerms 59 = .ok (.istore_n 3, 1) := by decide +kernel
theorem dX3_inLeastTerms_60 : decode cX3_inLeastTerms 60 = .ok (.iload 4, 2) := by decide +kernel
theorem dX3_inLeastTerms_62 : decode cX3_inLeastTerms 62 = .ok (.iconst 5, 1) := by decide +kernel
theorem dX3_inLeastTerms_63 : decode cX3_inLeastTerms 63 = .ok (.idiv, 1) := by decide +kernel
theorem dX3_inLeastTerms_64 : decode cX3_inLeastTerms 64 = .ok (.istore 4, 2) := by decide +kernel
theorem dX3_inLeastTerms_66 : decode cX3_inLeastTerms 66 = .ok (.iinc 5 1, 3) := by decide +kernel
theorem dX3_inLeastTerms_69 : decode cX3_inLeastTerms 69 = .ok (.goto (-25), 3) := by decide +kernel
theorem dX3_inLeastTerms_72 : decode cX3_inLeastTerms 72 = .ok (.iload_n 2, 1) := by decide +kernel
theorem dX3_inLeastTerms_73 : decode cX3_inLeastTerms 73 = .ok (.ifCond .ne 7, 3) := by decide +kernel
theorem dX3_inLeastTerms_76 : decode cX3_inLeastTerms 76 = .ok (.iload_n 3, 1) := by decide +kernel
theorem dX3_inLeastTerms_77 : decode cX3_inLeastTerms 77 = .ok (.goto 5, 3) := by decide +kernel
theorem dX3_inLeastTerms_80 : decode cX3_inLeastTerms 80 = .ok (.iload 4, 2) := by decide +kernel
theorem dX3_inLeastTerms_82 : decode cX3_inLeastTerms 82 = .ok (.ireturn, 1) := by decide +kernel
theorem dX3_rate_0 : decode cX3_rate 0 = .ok (.aload_n 0, 1) := by decide +kernel
theorem dX3_rate_1 : decode cX3_rate 1 = .ok (.iload_n 2, 1) := by decide +kernel
theorem dX3_rate_2 : decode cX3_rate 2 = .ok (.invokevirtual 97, 3) := by decide +kernel
theorem dX3_rate_5 : decode cX3_rate 5 = .ok (.ifCond .ne 7, 3) := by decide +kernel
theorem dX3_rate_8 : decode cX3_rate 8 = .ok (.ldc_w 271, 3) := by decide +kernel
theorem dX3_rate_11 : decode cX3_rate 11 = .ok (.ireturn, 1) := by decide +kernel
theorem dX3_rate_12 : decode cX3_rate 12 = .ok (.iload_n 1, 1) := by decide +kernel
theorem dX3_rate_13 : decode cX3_rate 13 = .ok (.tableswitch 75 0 5 #[39, 45, 51, 57, 63, 69], 39) := by decide +kernel
theorem dX3_rate_52 : decode cX3_rate 52 = .ok (.aload_n 0, 1) := by decide +kernel
theorem dX3_rate_53 : decode cX3_rate 53 = .ok (.iload_n 2, 1) := by decide +kernel
theorem dX3_rate_54 : decode cX3_rate 54 = .ok (.invokevirtual 272, 3) := by decide +kernel
theorem dX3_rate_57 : decode cX3_rate 57 = .ok (.ireturn, 1) := by decide +kernel
theorem dX3_rate_58 : decode cX3_rate 58 = .ok (.aload_n 0, 1) := by decide +kernel
theorem dX3_rate_59 : decode cX3_rate 59 = .ok (.iload_n 2, 1) := by decide +kernel
theorem dX3_rate_60 : decode cX3_rate 60 = .ok (.invokevirtual 275, 3) := by decide +kernel
theorem dX3_rate_63 : decode cX3_rate 63 = .ok (.ireturn, 1) := by decide +kernel
theorem dX3_rate_64 : decode cX3_rate 64 = .ok (.aload_n 0, 1) := by decide +kernel
theorem dX3_rate_65 : decode cX3_rate 65 = .ok (.iload_n 2, 1) := by decide +kernel
theorem dX3_rate_66 : decode cX3_rate 66 = .ok (.invokevirtual 278, 3) := by decide +kernel
theorem dX3_rate_69 : decode cX3_rate 69 = .ok (.ireturn, 1) := by decide +kernel
theorem dX3_rate_70 : decode cX3_rate 70 = .ok (.aload_n 0, 1) := by decide +kernel
theorem dX3_rate_71 : decode cX3_rate 71 = .ok (.iload_n 2, 1) := by decide +kernel
theorem dX3_rate_72 : decode cX3_rate 72 = .ok (.invokevirtual 281, 3) := by decide +kernel
theorem dX3_rate_75 : decode cX3_rate 75 = .ok (.ireturn, 1) := by decide +kernel
theorem dX3_rate_76 : decode cX3_rate 76 = .ok (.aload_n 0, 1) := by decide +kernel
theorem dX3_rate_77 : decode cX3_rate 77 = .ok (.iload_n 2, 1) := by decide +kernel
theorem dX3_rate_78 : decode cX3_rate 78 = .ok (.invokevirtual 284, 3) := by decide +kernel
theorem dX3_rate_81 : decode cX3_rate 81 = .ok (.ireturn, 1) := by decide +kernel
theorem dX3_rate_82 : decode cX3_rate 82 = .ok (.aload_n 0, 1) := by decide +kernel
theorem dX3_rate_83 : decode cX3_rate 83 = .ok (.iload_n 2, 1) := by decide +kernel
theorem dX3_rate_84 : decode cX3_rate 84 = .ok (.invokevirtual 287, 3) := by decide +kernel
theorem dX3_rate_87 : decode cX3_rate 87 = .ok (.ireturn, 1) := by decide +kernel
theorem dX3_rate_88 : decode cX3_rate 88 = .ok (.ldc_w 271, 3) := by decide +kernel
theorem dX3_rate_91 : decode cX3_rate 91 = .ok (.ireturn, 1) := by decide +kernel
theorem dX3_asCitizen_0 : decode cX3_asCitizen 0 = .ok (.aload_n 0, 1) := by decide +kernel
theorem dX3_asCitizen_1 : decode cX3_asCitizen 1 = .ok (.dup, 1) := by decide +kernel
theorem dX3_asCitizen_2 : decode cX3_asCitizen 2 = .ok (.getfield 290, 3) := by decide +kernel
theorem dX3_asCitizen_5 : decode cX3_asCitizen 5 = .ok (.lconst 1, 1) := by decide +kernel
theorem dX3_asCitizen_6 : decode cX3_asCitizen 6 = .ok (.ladd, 1) := by decide +kernel
theorem dX3_asCitizen_7 : decode cX3_asCitizen 7 = .ok (.putfield 290, 3) := by decide +kernel
theorem dX3_asCitizen_10 : decode cX3_asCitizen 10 = .ok (.aload_n 0, 1) := by decide +kernel
theorem dX3_asCitizen_11 : decode cX3_asCitizen 11 = .ok (.getfield 29, 3) := by decide +kernel
theorem dX3_asCitizen_14 : decode cX3_asCitizen 14 = .ok (.getfield 103, 3) := by decide +kernel
theorem dX3_asCitizen_17 : decode cX3_asCitizen 17 = .ok (.iload_n 1, 1) := by decide +kernel
theorem dX3_asCitizen_18 : decode cX3_asCitizen 18 = .ok (.iaload, 1) := by decide +kernel
theorem dX3_asCitizen_19 : decode cX3_asCitizen 19 = .ok (.ireturn, 1) := by decide +kernel
theorem dX3_asBaker_0 : decode cX3_asBaker 0 = .ok (.aload_n 0, 1) := by decide +kernel
theorem dX3_asBaker_1 : decode cX3_asBaker 1 = .ok (.dup, 1) := by decide +kernel
theorem dX3_asBaker_2 : decode cX3_asBaker 2 = .ok (.getfield 290, 3) := by decide +kernel
theorem dX3_asBaker_5 : decode cX3_asBaker 5 = .ok (.ldc2_w 294, 3) := by decide +kernel
theorem dX3_asBaker_8 : decode cX3_asBaker 8 = .ok (.ladd, 1) := by decide +kernel
theorem dX3_asBaker_9 : decode cX3_asBaker 9 = .ok (.putfield 290, 3) := by decide +kernel
theorem dX3_asBaker_12 : decode cX3_asBaker 12 = .ok (.aload_n 0, 1) := by decide +kernel
theorem dX3_asBaker_13 : decode cX3_asBaker 13 = .ok (.iload_n 1, 1) := by decide +kernel
theorem dX3_asBaker_14 : decode cX3_asBaker 14 = .ok (.invokevirtual 272, 3) := by decide +kernel
theorem dX3_asBaker_17 : decode cX3_asBaker 17 = .ok (.aload_n 0, 1) := by decide +kernel
theorem dX3_asBaker_18 : decode cX3_asBaker 18 = .ok (.getfield 19, 3) := by decide +kernel
theorem dX3_asBaker_21 : decode cX3_asBaker 21 = .ok (.getfield 106, 3) := by decide +kernel
theorem dX3_asBaker_24 : decode cX3_asBaker 24 = .ok (.iload_n 1, 1) := by decide +kernel
theorem dX3_asBaker_25 : decode cX3_asBaker 25 = .ok (.iaload, 1) := by decide +kernel
theorem dX3_asBaker_26 : decode cX3_asBaker 26 = .ok (.invokestatic 179, 3) := by decide +kernel
theorem dX3_asBaker_29 : decode cX3_asBaker 29 = .ok (.iadd, 1) := by decide +kernel
theorem dX3_asBaker_30 : decode cX3_asBaker 30 = .ok (.ireturn, 1) := by decide +kernel
theorem dX3_asDeputy_0 : decode cX3_asDeputy 0 = .ok (.aload_n 0, 1) := by decide +kernel
theorem dX3_asDeputy_1 : decode cX3_asDeputy 1 = .ok (.dup, 1) := by decide +kernel
theorem dX3_asDeputy_2 : decode cX3_asDeputy 2 = .ok (.getfield 290, 3) := by decide +kernel
theorem dX3_asDeputy_5 : decode cX3_asDeputy 5 = .ok (.ldc2_w 296, 3) := by decide +kernel
theorem dX3_asDeputy_8 : decode cX3_asDeputy 8 = .ok (.ladd, 1) := by decide +kernel
theorem dX3_asDeputy_9 : decode cX3_asDeputy 9 = .ok (.putfield 290, 3) := by decide +kernel
theorem dX3_asDeputy_12 : decode cX3_asDeputy 12 = .ok (.aload_n 0, 1) := by decide +kernel
theorem dX3_asDeputy_13 : decode cX3_asDeputy 13 = .ok (.iload_n 1, 1) := by decide +kernel
theorem dX3_asDeputy_14 : decode cX3_asDeputy 14 = .ok (.invokevirtual 272, 3) := by decide +kernel
theorem dX3_asDeputy_17 : decode cX3_asDeputy 17 = .ok (.aload_n 0, 1) := by decide +kernel
theorem dX3_asDeputy_18 : decode cX3_asDeputy 18 = .ok (.getfield 19, 3) := by decide +kernel
theorem dX3_asDeputy_21 : decode cX3_asDeputy 21 = .ok (.getfield 109, 3) := by decide +kernel
theorem dX3_asDeputy_24 : decode cX3_asDeputy 24 = .ok (.iload_n 1, 1) := by decide +kernel
theorem dX3_asDeputy_25 : decode cX3_asDeputy 25 = .ok (.iaload, 1) := by decide +kernel
theorem dX3_asDeputy_26 : decode cX3_asDeputy 26 = .ok (.isub, 1) := by decide +kernel
theorem dX3_asDeputy_27 : decode cX3_asDeputy 27 = .ok (.ireturn, 1) := by decide +kernel
theorem dX3_asGuard_0 : decode cX3_asGuard 0 = .ok (.aload_n 0, 1) := by decide +kernel
theorem dX3_asGuard_1 : decode cX3_asGuard 1 = .ok (.dup, 1) := by decide +kernel
theorem dX3_asGuard_2 : decode cX3_asGuard 2 = .ok (.getfield 290, 3) := by decide +kernel
theorem dX3_asGuard_5 : decode cX3_asGuard 5 = .ok (.ldc2_w 298, 3) := by decide +kernel
theorem dX3_asGuard_8 : decode cX3_asGuard 8 = .ok (.ladd, 1) := by decide +kernel
theorem dX3_asGuard_9 : decode cX3_asGuard 9 = .ok (.putfield 290, 3) := by decide +kernel
theorem dX3_asGuard_12 : decode cX3_asGuard 12 = .ok (.iconst 2, 1) := by decide +kernel
theorem dX3_asGuard_13 : decode cX3_asGuard 13 = .ok (.aload_n 0, 1) := by decide +kernel
theorem dX3_asGuard_14 : decode cX3_asGuard 14 = .ok (.iload_n 1, 1) := by decide +kernel
theorem dX3_asGuard_15 : decode cX3_asGuard 15 = .ok (.invokevirtual 275, 3) := by decide +kernel
theorem dX3_asGuard_18 : decode cX3_asGuard 18 = .ok (.imul, 1) := by decide +kernel
theorem dX3_asGuard_19 : decode cX3_asGuard 19 = .ok (.ireturn, 1) := by decide +kernel
theorem dX3_asTwin_0 : decode cX3_asTwin 0 = .ok (.aload_n 0, 1) := by decide +kernel
theorem dX3_asTwin_1 : decode cX3_asTwin 1 = .ok (.dup, 1) := by decide +kernel
theorem dX3_asTwin_2 : decode cX3_asTwin 2 = .ok (.getfield 290, 3) := by decide +kernel
theorem dX3_asTwin_5 : decode cX3_asTwin 5 = .ok (.ldc2_w 300, 3) := by decide +kernel
theorem dX3_asTwin_8 : decode cX3_asTwin 8 = .ok (.ladd, 1) := by decide +kernel
theorem dX3_asTwin_9 : decode cX3_asTwin 9 = .ok (.putfield 290, 3) := by decide +kernel
theorem dX3_asTwin_12 : decode cX3_asTwin 12 = .ok (.aload_n 0, 1) := by decide +kernel
theorem dX3_asTwin_13 : decode cX3_asTwin 13 = .ok (.iload_n 1, 1) := by decide +kernel
theorem dX3_asTwin_14 : decode cX3_asTwin 14 = .ok (.invokevirtual 278, 3) := by decide +kernel
theorem dX3_asTwin_17 : decode cX3_asTwin 17 = .ok (.iload_n 1, 1) := by decide +kernel
theorem dX3_asTwin_18 : decode cX3_asTwin 18 = .ok (.iadd, 1) := by decide +kernel
theorem dX3_asTwin_19 : decode cX3_asTwin 19 = .ok (.ireturn, 1) := by decide +kernel
theorem dX3_asVeteran_0 : decode cX3_asVeteran 0 = .ok (.aload_n 0, 1) := by decide +kernel
theorem dX3_asVeteran_1 : decode cX3_asVeteran 1 = .ok (.dup, 1) := by decide +kernel
theorem dX3_asVeteran_2 : decode cX3_asVeteran 2 = .ok (.getfield 290, 3) := by decide +kernel
theorem dX3_asVeteran_5 : decode cX3_asVeteran 5 = .ok (.ldc2_w 302, 3) := by decide +kernel
theorem dX3_asVeteran_8 : decode cX3_asVeteran 8 = .ok (.ladd, 1) := by decide +kernel
theorem dX3_asVeteran_9 : decode cX3_asVeteran 9 = .ok (.putfield 290, 3) := by decide +kernel
theorem dX3_asVeteran_12 : decode cX3_asVeteran 12 = .ok (.aload_n 0, 1) := by decide +kernel
theorem dX3_asVeteran_13 : decode cX3_asVeteran 13 = .ok (.iload_n 1, 1) := by decide +kernel
theorem dX3_asVeteran_14 : decode cX3_asVeteran 14 = .ok (.invokevirtual 272, 3) := by decide +kernel
theorem dX3_asVeteran_17 : decode cX3_asVeteran 17 = .ok (.aload_n 0, 1) := by decide +kernel
theorem dX3_asVeteran_18 : decode cX3_asVeteran 18 = .ok (.getfield 29, 3) := by decide +kernel
theorem dX3_asVeteran_21 : decode cX3_asVeteran 21 = .ok (.getfield 115, 3) := by decide +kernel
theorem dX3_asVeteran_24 : decode cX3_asVeteran 24 = .ok (.iload_n 1, 1) := by decide +kernel
theorem dX3_asVeteran_25 : decode cX3_asVeteran 25 = .ok (.iaload, 1) := by decide +kernel
theorem dX3_asVeteran_26 : decode cX3_asVeteran 26 = .ok (.iadd, 1) := by decide +kernel
theorem dX3_asVeteran_27 : decode cX3_asVeteran 27 = .ok (.ireturn, 1) := by decide +kernel
theorem dX3_keep_0 : decode cX3_keep 0 = .ok (.iload_n 1, 1) := by decide +kernel
theorem dX3_keep_1 : decode cX3_keep 1 = .ok (.ifCond .lt 8, 3) := by decide +kernel
theorem dX3_keep_4 : decode cX3_keep 4 = .ok (.iload_n 1, 1) := by decide +kernel
theorem dX3_keep_5 : decode cX3_keep 5 = .ok (.iconst 2, 1) := by decide +kernel
theorem dX3_keep_6 : decode cX3_keep 6 = .ok (.if_icmp .lt 5, 3) := by decide +kernel
theorem dX3_keep_9 : decode cX3_keep 9 = .ok (.iconst (-1), 1) := by decide +kernel
theorem dX3_keep_10 : decode cX3_keep 10 = .ok (.ireturn, 1) := by decide +kernel
theorem dX3_keep_11 : decode cX3_keep 11 = .ok (.aload_n 0, 1) := by decide +kernel
theorem dX3_keep_12 : decode cX3_keep 12 = .ok (.getfield 40, 3) := by decide +kernel
theorem dX3_keep_15 : decode cX3_keep 15 = .ok (.iload_n 1, 1) := by decide +kernel
theorem dX3_keep_16 : decode cX3_keep 16 = .ok (.aaload, 1) := by decide +kernel
theorem dX3_keep_17 : decode cX3_keep 17 = .ok (.aload_n 0, 1) := by decide +kernel
theorem dX3_keep_18 : decode cX3_keep 18 = .ok (.getfield 29, 3) := by decide +kernel
theorem dX3_keep_21 : decode cX3_keep 21 = .ok (.invokevirtual 162, 3) := by decide +kernel
theorem dX3_keep_24 : decode cX3_keep 24 = .ok (.aload_n 0, 1) := by decide +kernel
theorem dX3_keep_25 : decode cX3_keep 25 = .ok (.getfield 43, 3) := by decide +kernel
theorem dX3_keep_28 : decode cX3_keep 28 = .ok (.iload_n 1, 1) := by decide +kernel
theorem dX3_keep_29 : decode cX3_keep 29 = .ok (.iconst 1, 1) := by decide +kernel
theorem dX3_keep_30 : decode cX3_keep 30 = .ok (.bastore, 1) := by decide +kernel
theorem dX3_keep_31 : decode cX3_keep 31 = .ok (.aload_n 0, 1) := by decide +kernel
theorem dX3_keep_32 : decode cX3_keep 32 = .ok (.getfield 29, 3) := by decide +kernel
theorem dX3_keep_35 : decode cX3_keep 35 = .ok (.getfield 130, 3) := by decide +kernel
theorem dX3_keep_38 : decode cX3_keep 38 = .ok (.ireturn, 1) := by decide +kernel
theorem dX3_back_0 : decode cX3_back 0 = .ok (.iload_n 1, 1) := by decide +kernel
theorem dX3_back_1 : decode cX3_back 1 = .ok (.ifCond .lt 8, 3) := by decide +kernel
theorem dX3_back_4 : decode cX3_back 4 = .ok (.iload_n 1, 1) := by decide +kernel
theorem dX3_back_5 : decode cX3_back 5 = .ok (.iconst 2, 1) := by decide +kernel
theorem dX3_back_6 : decode cX3_back 6 = .ok (.if_icmp .lt 5, 3) := by decide +kernel
theorem dX3_back_9 : decode cX3_back 9 = .ok (.iconst (-1), 1) := by decide +kernel
theorem dX3_back_10 : decode cX3_back 10 = .ok (.ireturn, 1) := by decide +kernel
theorem dX3_back_11 : decode cX3_back 11 = .ok (.aload_n 0, 1) := by decide +kernel
theorem dX3_back_12 : decode cX3_back 12 = .ok (.getfield 43, 3) := by decide +kernel
theorem dX3_back_15 : decode cX3_back 15 = .ok (.iload_n 1, 1) := by decide +kernel
theorem dX3_back_16 : decode cX3_back 16 = .ok (.baload, 1) := by decide +kernel
theorem dX3_back_17 : decode cX3_back 17 = .ok (.ifCond .ne 6, 3) := by decide +kernel
theorem dX3_back_20 : decode cX3_back 20 = .ok (.bipush (-2), 2) := by decide +kernel
theorem dX3_back_22 : decode cX3_back 22 = .ok (.ireturn, 1) := by decide +kernel
theorem dX3_back_23 : decode cX3_back 23 = .ok (.aload_n 0, 1) := by decide +kernel
theorem dX3_back_24 : decode cX3_back 24 = .ok (.getfield 29, 3) := by decide +kernel
theorem dX3_back_27 : decode cX3_back 27 = .ok (.aload_n 0, 1) := by decide +kernel
theorem dX3_back_28 : decode cX3_back 28 = .ok (.getfield 40, 3) := by decide +kernel
theorem dX3_back_31 : decode cX3_back 31 = .ok (.iload_n 1, 1) := by decide +kernel
theorem dX3_back_32 : decode cX3_back 32 = .ok (.aaload, 1) := by decide +kernel
theorem dX3_back_33 : decode cX3_back 33 = .ok (.invokevirtual 162, 3) := by decide +kernel
theorem dX3_back_36 : decode cX3_back 36 = .ok (.aload_n 0, 1) := by decide +kernel
theorem dX3_back_37 : decode cX3_back 37 = .ok (.iconst 0, 1) := by decide +kernel
theorem dX3_back_38 : decode cX3_back 38 = .ok (.putfield 81, 3) := by decide +kernel
theorem dX3_back_41 : decode cX3_back 41 = .ok (.aload_n 0, 1) := by decide +kernel
theorem dX3_back_42 : decode cX3_back 42 = .ok (.getfield 29, 3) := by decide +kernel
theorem dX3_back_45 : decode cX3_back 45 = .ok (.getfield 130, 3) := by decide +kernel
theorem dX3_back_48 : decode cX3_back 48 = .ok (.ireturn, 1) := by decide +kernel
theorem dX3_count_0 : decode cX3_count 0 = .ok (.iload_n 1, 1) := by decide +kernel
theorem dX3_count_1 : decode cX3_count 1 = .ok (.tableswitch 84 0 5 #[39, 47, 55, 63, 71, 76], 39) := by decide +kernel
theorem dX3_count_40 : decode cX3_count 40 = .ok (.aload_n 0, 1) := by decide +kernel
theorem dX3_count_41 : decode cX3_count 41 = .ok (.getfield 19, 3) := by decide +kernel
theorem dX3_count_44 : decode cX3_count 44 = .ok (.getfield 149, 3) := by decide +kernel
theorem dX3_count_47 : decode cX3_count 47 = .ok (.ireturn, 1) := by decide +kernel
theorem dX3_count_48 : decode cX3_count 48 = .ok (.aload_n 0, 1) := by decide +kernel
theorem dX3_count_49 : decode cX3_count 49 = .ok (.getfield 19, 3) := by decide +kernel
theorem dX3_count_52 : decode cX3_count 52 = .ok (.getfield 185, 3) := by decide +kernel
theorem dX3_count_55 : decode cX3_count 55 = .ok (.ireturn, 1) := by decide +kernel
theorem dX3_count_56 : decode cX3_count 56 = .ok (.aload_n 0, 1) := by decide +kernel
theorem dX3_count_57 : decode cX3_count 57 = .ok (.getfield 19, 3) := by decide +kernel
theorem dX3_count_60 : decode cX3_count 60 = .ok (.getfield 146, 3) := by decide +kernel
theorem dX3_count_63 : decode cX3_count 63 = .ok (.ireturn, 1) := by decide +kernel
theorem dX3_count_64 : decode cX3_count 64 = .ok (.aload_n 0, 1) := by decide +kernel
theorem dX3_count_65 : decode cX3_count 65 = .ok (.getfield 19, 3) := by decide +kernel
theorem dX3_count_68 : decode cX3_count 68 = .ok (.getfield 118, 3) := by decide +kernel
theorem dX3_count_71 : decode cX3_count 71 = .ok (.ireturn, 1) := by decide +kernel
theorem dX3_count_72 : decode cX3_count 72 = .ok (.aload_n 0, 1) := by decide +kernel
theorem dX3_count_73 : decode cX3_count 73 = .ok (.getfield 84, 3) := by decide +kernel
theorem dX3_count_76 : decode cX3_count 76 = .ok (.ireturn, 1) := by decide +kernel
theorem dX3_count_77 : decode cX3_count 77 = .ok (.aload_n 0, 1) := by decide +kernel
theorem dX3_count_78 : decode cX3_count 78 = .ok (.getfield 12, 3) := by decide +kernel
theorem dX3_count_81 : decode cX3_count 81 = .ok (.getfield 73, 3) := by decide +kernel
theorem dX3_count_84 : decode cX3_count 84 = .ok (.ireturn, 1) := by decide +kernel
theorem dX3_count_85 : decode cX3_count 85 = .ok (.iconst (-1), 1) := by decide +kernel
theorem dX3_count_86 : decode cX3_count 86 = .ok (.ireturn, 1) := by decide +kernel
theorem dX3_trace_0 : decode cX3_trace 0 = .ok (.aload_n 0, 1) := by decide +kernel
theorem dX3_trace_1 : decode cX3_trace 1 = .ok (.getfield 290, 3) := by decide +kernel
theorem dX3_trace_4 : decode cX3_trace 4 = .ok (.lreturn, 1) := by decide +kernel
