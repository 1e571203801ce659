theorem dX1_init_0 : decode cX1_init 0 = .ok (.aload_n 0, 1) := by decide +kernel
theorem dX1_init_1 : decode cX1_init 1 = .ok (.invokespecial 3, 3) := by decide +kernel
theorem dX1_init_4 : decode cX1_init 4 = .ok (.aload_n 0, 1) := by decide +kernel
theorem dX1_init_5 : decode cX1_init 5 = .ok (.bipush 6, 2) := by decide +kernel
theorem dX1_init_7 : decode cX1_init 7 = .ok (.newarray .int, 2) := by decide +kernel
theorem dX1_init_9 : decode cX1_init 9 = .ok (.putfield 9, 3) := by decide +kernel
theorem dX1_init_12 : decode cX1_init 12 = .ok (.aload_n 0, 1) := by decide +kernel
theorem dX1_init_13 : decode cX1_init 13 = .ok (.bipush 6, 2) := by decide +kernel
theorem dX1_init_15 : decode cX1_init 15 = .ok (.newarray .int, 2) := by decide +kernel
theorem dX1_init_17 : decode cX1_init 17 = .ok (.putfield 15, 3) := by decide +kernel
theorem dX1_init_20 : decode cX1_init 20 = .ok (.aload_n 0, 1) := by decide +kernel
theorem dX1_init_21 : decode cX1_init 21 = .ok (.bipush 6, 2) := by decide +kernel
theorem dX1_init_23 : decode cX1_init 23 = .ok (.newarray .int, 2) := by decide +kernel
theorem dX1_init_25 : decode cX1_init 25 = .ok (.putfield 18, 3) := by decide +kernel
theorem dX1_init_28 : decode cX1_init 28 = .ok (.return_, 1) := by decide +kernel
theorem dX1_begin_0 : decode cX1_begin 0 = .ok (.aload_n 0, 1) := by decide +kernel
theorem dX1_begin_1 : decode cX1_begin 1 = .ok (.iconst 0, 1) := by decide +kernel
theorem dX1_begin_2 : decode cX1_begin 2 = .ok (.putfield 21, 3) := by decide +kernel
theorem dX1_begin_5 : decode cX1_begin 5 = .ok (.aload_n 0, 1) := by decide +kernel
theorem dX1_begin_6 : decode cX1_begin 6 = .ok (.iconst 0, 1) := by decide +kernel
theorem dX1_begin_7 : decode cX1_begin 7 = .ok (.putfield 25, 3) := by decide +kernel
theorem dX1_begin_10 : decode cX1_begin 10 = .ok (.aload_n 0, 1) := by decide +kernel
theorem dX1_begin_11 : decode cX1_begin 11 = .ok (.iconst 0, 1) := by decide +kernel
theorem dX1_begin_12 : decode cX1_begin 12 = .ok (.putfield 28, 3) := by decide +kernel
theorem dX1_begin_15 : decode cX1_begin 15 = .ok (.iconst 0, 1) := by decide +kernel
theorem dX1_begin_16 : decode cX1_begin 16 = .ok (.istore_n 2, 1) := by decide +kernel
theorem dX1_begin_17 : decode cX1_begin 17 = .ok (.iload_n 2, 1) := by decide +kernel
theorem dX1_begin_18 : decode cX1_begin 18 = .ok (.bipush 6, 2) := by decide +kernel
theorem dX1_begin_20 : decode cX1_begin 20 = .ok (.if_icmp .ge 35, 3) := by decide +kernel
theorem dX1_begin_23 : decode cX1_begin 23 = .ok (.aload_n 0, 1) := by decide +kernel
theorem dX1_begin_24 : decode cX1_begin 24 = .ok (.getfield 9, 3) := by decide +kernel
theorem dX1_begin_27 : decode cX1_begin 27 = .ok (.iload_n 2, 1) := by decide +kernel
theorem dX1_begin_28 : decode cX1_begin 28 = .ok (.aload_n 1, 1) := by decide +kernel
theorem dX1_begin_29 : decode cX1_begin 29 = .ok (.getfield 31, 3) := by decide +kernel
theorem dX1_begin_32 : decode cX1_begin 32 = .ok (.iload_n 2, 1) := by decide +kernel
theorem dX1_begin_33 : decode cX1_begin 33 = .ok (.iaload, 1) := by decide +kernel
theorem dX1_begin_34 : decode cX1_begin 34 = .ok (.iastore, 1) := by decide +kernel
theorem dX1_begin_35 : decode cX1_begin 35 = .ok (.aload_n 0, 1) := by decide +kernel
theorem dX1_begin_36 : decode cX1_begin 36 = .ok (.getfield 15, 3) := by decide +kernel
theorem dX1_begin_39 : decode cX1_begin 39 = .ok (.iload_n 2, 1) := by decide +kernel
theorem dX1_begin_40 : decode cX1_begin 40 = .ok (.iconst 0, 1) := by decide +kernel
theorem dX1_begin_41 : decode cX1_begin 41 = .ok (.iastore, 1) := by decide +kernel
theorem dX1_begin_42 : decode cX1_begin 42 = .ok (.aload_n 0, 1) := by decide +kernel
theorem dX1_begin_43 : decode cX1_begin 43 = .ok (.getfield 18, 3) := by decide +kernel
theorem dX1_begin_46 : decode cX1_begin 46 = .ok (.iload_n 2, 1) := by decide +kernel
theorem dX1_begin_47 : decode cX1_begin 47 = .ok (.iconst 0, 1) := by decide +kernel
theorem dX1_begin_48 : decode cX1_begin 48 = .ok (.iastore, 1) := by decide +kernel
theorem dX1_begin_49 : decode cX1_begin 49 = .ok (.iinc 2 1, 3) := by decide +kernel
theorem dX1_begin_52 : decode cX1_begin 52 = .ok (.goto (-35), 3) := by decide +kernel
theorem dX1_begin_55 : decode cX1_begin 55 = .ok (.return_, 1) := by decide +kernel
theorem dX1_become_0 : decode cX1_become 0 = .ok (.aload_n 0, 1) := by decide +kernel
theorem dX1_become_1 : decode cX1_become 1 = .ok (.aload_n 1, 1) := by decide +kernel
theorem dX1_become_2 : decode cX1_become 2 = .ok (.getfield 21, 3) := by decide +kernel
theorem dX1_become_5 : decode cX1_become 5 = .ok (.putfield 21, 3) := by decide +kernel
theorem dX1_become_8 : decode cX1_become 8 = .ok (.aload_n 0, 1) := by decide +kernel
theorem dX1_become_9 : decode cX1_become 9 = .ok (.aload_n 1, 1) := by decide +kernel
theorem dX1_become_10 : decode cX1_become 10 = .ok (.getfield 25, 3) := by decide +kernel
theorem dX1_become_13 : decode cX1_become 13 = .ok (.putfield 25, 3) := by decide +kernel
theorem dX1_become_16 : decode cX1_become 16 = .ok (.aload_n 0, 1) := by decide +kernel
theorem dX1_become_17 : decode cX1_become 17 = .ok (.aload_n 1, 1) := by decide +kernel
theorem dX1_become_18 : decode cX1_become 18 = .ok (.getfield 28, 3) := by decide +kernel
theorem dX1_become_21 : decode cX1_become 21 = .ok (.putfield 28, 3) := by decide +kernel
theorem dX1_become_24 : decode cX1_become 24 = .ok (.aload_n 1, 1) := by decide +kernel
theorem dX1_become_25 : decode cX1_become 25 = .ok (.getfield 9, 3) := by decide +kernel
theorem dX1_become_28 : decode cX1_become 28 = .ok (.iconst 0, 1) := by decide +kernel
theorem dX1_become_29 : decode cX1_become 29 = .ok (.aload_n 0, 1) := by decide +kernel
theorem dX1_become_30 : decode cX1_become 30 = .ok (.getfield 9, 3) := by decide +kernel
theorem dX1_become_33 : decode cX1_become 33 = .ok (.iconst 0, 1) := by decide +kernel
theorem dX1_become_34 : decode cX1_become 34 = .ok (.bipush 6, 2) := by decide +kernel
theorem dX1_become_36 : decode cX1_become 36 = .ok (.invokestatic 36, 3) := by decide +kernel
theorem dX1_become_39 : decode cX1_become 39 = .ok (.aload_n 1, 1) := by decide +kernel
theorem dX1_become_40 : decode cX1_become 40 = .ok (.getfield 15, 3) := by decide +kernel
theorem dX1_become_43 : decode cX1_become 43 = .ok (.iconst 0, 1) := by decide +kernel
theorem dX1_become_44 : decode cX1_become 44 = .ok (.aload_n 0, 1) := by decide +kernel
theorem dX1_become_45 : decode cX1_become 45 = .ok (.getfield 15, 3) := by decide +kernel
theorem dX1_become_48 : decode cX1_become 48 = .ok (.iconst 0, 1) := by decide +kernel
theorem dX1_become_49 : decode cX1_become 49 = .ok (.bipush 6, 2) := by decide +kernel
theorem dX1_become_51 : decode cX1_become 51 = .ok (.invokestatic 36, 3) := by decide +kernel
theorem dX1_become_54 : decode cX1_become 54 = .ok (.aload_n 1, 1) := by decide +kernel
theorem dX1_become_55 : decode cX1_become 55 = .ok (.getfield 18, 3) := by decide +kernel
theorem dX1_become_58 : decode cX1_become 58 = .ok (.iconst 0, 1) := by decide +kernel
theorem dX1_become_59 : decode cX1_become 59 = .ok (.aload_n 0, 1) := by decide +kernel
theorem dX1_become_60 : decode cX1_become 60 = .ok (.getfield 18, 3) := by decide +kernel
theorem dX1_become_63 : decode cX1_become 63 = .ok (.iconst 0, 1) := by decide +kernel
theorem dX1_become_64 : decode cX1_become 64 = .ok (.bipush 6, 2) := by decide +kernel
theorem dX1_become_66 : decode cX1_become 66 = .ok (.invokestatic 36, 3) := by decide +kernel
theorem dX1_become_69 : decode cX1_become 69 = .ok (.return_, 1) := by decide +kernel
theorem dX1_pass_0 : decode cX1_pass 0 = .ok (.aload_n 0, 1) := by decide +kernel
theorem dX1_pass_1 : decode cX1_pass 1 = .ok (.getfield 9, 3) := by decide +kernel
theorem dX1_pass_4 : decode cX1_pass 4 = .ok (.iload_n 2, 1) := by decide +kernel
theorem dX1_pass_5 : decode cX1_pass 5 = .ok (.aload_n 0, 1) := by decide +kernel
theorem dX1_pass_6 : decode cX1_pass 6 = .ok (.getfield 9, 3) := by decide +kernel
theorem dX1_pass_9 : decode cX1_pass 9 = .ok (.invokestatic 42, 3) := by decide +kernel
theorem dX1_pass_12 : decode cX1_pass 12 = .ok (.iconst 0, 1) := by decide +kernel
theorem dX1_pass_13 : decode cX1_pass 13 = .ok (.istore_n 3, 1) := by decide +kernel
theorem dX1_pass_14 : decode cX1_pass 14 = .ok (.iload_n 3, 1) := by decide +kernel
theorem dX1_pass_15 : decode cX1_pass 15 = .ok (.aload_n 1, 1) := by decide +kernel
theorem dX1_pass_16 : decode cX1_pass 16 = .ok (.getfield 46, 3) := by decide +kernel
theorem dX1_pass_19 : decode cX1_pass 19 = .ok (.if_icmp .ge 23, 3) := by decide +kernel
theorem dX1_pass_22 : decode cX1_pass 22 = .ok (.aload_n 0, 1) := by decide +kernel
theorem dX1_pass_23 : decode cX1_pass 23 = .ok (.getfield 18, 3) := by decide +kernel
theorem dX1_pass_26 : decode cX1_pass 26 = .ok (.iload_n 3, 1) := by decide +kernel
theorem dX1_pass_27 : decode cX1_pass 27 = .ok (.dup2, 1) := by decide +kernel
theorem dX1_pass_28 : decode cX1_pass 28 = .ok (.iaload, 1) := by decide +kernel
theorem dX1_pass_29 : decode cX1_pass 29 = .ok (.iload_n 2, 1) := by decide +kernel
theorem dX1_pass_30 : decode cX1_pass 30 = .ok (.iload_n 3, 1) := by decide +kernel
theorem dX1_pass_31 : decode cX1_pass 31 = .ok (.ishr, 1) := by decide +kernel
theorem dX1_pass_32 : decode cX1_pass 32 = .ok (.iconst 1, 1) := by decide +kernel
theorem dX1_pass_33 : decode cX1_pass 33 = .ok (.iand, 1) := by decide +kernel
theorem dX1_pass_34 : decode cX1_pass 34 = .ok (.iadd, 1) := by decide +kernel
theorem dX1_pass_35 : decode cX1_pass 35 = .ok (.iastore, 1) := by decide +kernel
theorem dX1_pass_36 : decode cX1_pass 36 = .ok (.iinc 3 1, 3) := by decide +kernel
theorem dX1_pass_39 : decode cX1_pass 39 = .ok (.goto (-25), 3) := by decide +kernel
theorem dX1_pass_42 : decode cX1_pass 42 = .ok (.iload_n 2, 1) := by decide +kernel
theorem dX1_pass_43 : decode cX1_pass 43 = .ok (.invokestatic 49, 3) := by decide +kernel
theorem dX1_pass_46 : decode cX1_pass 46 = .ok (.aload_n 1, 1) := by decide +kernel
theorem dX1_pass_47 : decode cX1_pass 47 = .ok (.getfield 55, 3) := by decide +kernel
theorem dX1_pass_50 : decode cX1_pass 50 = .ok (.if_icmp .ge 13, 3) := by decide +kernel
theorem dX1_pass_53 : decode cX1_pass 53 = .ok (.aload_n 0, 1) := by decide +kernel
theorem dX1_pass_54 : decode cX1_pass 54 = .ok (.dup, 1) := by decide +kernel
theorem dX1_pass_55 : decode cX1_pass 55 = .ok (.getfield 28, 3) := by decide +kernel
theorem dX1_pass_58 : decode cX1_pass 58 = .ok (.iconst 1, 1) := by decide +kernel
theorem dX1_pass_59 : decode cX1_pass 59 = .ok (.iadd, 1) := by decide +kernel
theorem dX1_pass_60 : decode cX1_pass 60 = .ok (.putfield 28, 3) := by decide +kernel
theorem dX1_pass_63 : decode cX1_pass 63 = .ok (.aload_n 0, 1) := by decide +kernel
theorem dX1_pass_64 : decode cX1_pass 64 = .ok (.dup, 1) := by decide +kernel
theorem dX1_pass_65 : decode cX1_pass 65 = .ok (.getfield 25, 3) := by decide +kernel
theorem dX1_pass_68 : decode cX1_pass 68 = .ok (.iconst 1, 1) := by decide +kernel
theorem dX1_pass_69 : decode cX1_pass 69 = .ok (.iadd, 1) := by decide +kernel
theorem dX1_pass_70 : decode cX1_pass 70 = .ok (.putfield 25, 3) := by decide +kernel
theorem dX1_pass_73 : decode cX1_pass 73 = .ok (.aload_n 0, 1) := by decide +kernel
theorem dX1_pass_74 : decode cX1_pass 74 = .ok (.getfield 25, 3) := by decide +kernel
theorem dX1_pass_77 : decode cX1_pass 77 = .ok (.bipush 8, 2) := by decide +kernel
theorem dX1_pass_79 : decode cX1_pass 79 = .ok (.if_icmp .lt 18, 3) := by decide +kernel
theorem dX1_pass_82 : decode cX1_pass 82 = .ok (.aload_n 0, 1) := by decide +kernel
theorem dX1_pass_83 : decode cX1_pass 83 = .ok (.iconst 0, 1) := by decide +kernel
theorem dX1_pass_84 : decode cX1_pass 84 = .ok (.putfield 25, 3) := by decide +kernel
theorem dX1_pass_87 : decode cX1_pass 87 = .ok (.aload_n 0, 1) := by decide +kernel
theorem dX1_pass_88 : decode cX1_pass 88 = .ok (.dup, 1) := by decide +kernel
theorem dX1_pass_89 : decode cX1_pass 89 = .ok (.getfield 21, 3) := by decide +kernel
theorem dX1_pass_92 : decode cX1_pass 92 = .ok (.iconst 1, 1) := by decide +kernel
theorem dX1_pass_93 : decode cX1_pass 93 = .ok (.iadd, 1) := by decide +kernel
theorem dX1_pass_94 : decode cX1_pass 94 = .ok (.putfield 21, 3) := by decide +kernel
theorem dX1_pass_97 : decode cX1_pass 97 = .ok (.return_, 1) := by decide +kernel
